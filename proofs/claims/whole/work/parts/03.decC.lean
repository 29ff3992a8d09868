theorem dX0_init_0 : decode cX0_init 0 = .ok (.aload_n 0, 1) := by decide +kernel
theorem dX0_init_1 : decode cX0_init 1 = .ok (.invokespecial 3, 3) := by decide +kernel
theorem dX0_init_4 : decode cX0_init 4 = .ok (.aload_n 0, 1) := by decide +kernel
theorem dX0_init_5 : decode cX0_init 5 = .ok (.iload_n 1, 1) := by decide +kernel
theorem dX0_init_6 : decode cX0_init 6 = .ok (.putfield 9, 3) := by decide +kernel
theorem dX0_init_9 : decode cX0_init 9 = .ok (.aload_n 0, 1) := by decide +kernel
theorem dX0_init_10 : decode cX0_init 10 = .ok (.iload_n 2, 1) := by decide +kernel
theorem dX0_init_11 : decode cX0_init 11 = .ok (.putfield 15, 3) := by decide +kernel
theorem dX0_init_14 : decode cX0_init 14 = .ok (.aload_n 0, 1) := by decide +kernel
theorem dX0_init_15 : decode cX0_init 15 = .ok (.iload_n 3, 1) := by decide +kernel
theorem dX0_init_16 : decode cX0_init 16 = .ok (.putfield 18, 3) := by decide +kernel
theorem dX0_init_19 : decode cX0_init 19 = .ok (.aload_n 0, 1) := by decide +kernel
theorem dX0_init_20 : decode cX0_init 20 = .ok (.iconst 0, 1) := by decide +kernel
theorem dX0_init_21 : decode cX0_init 21 = .ok (.putfield 21, 3) := by decide +kernel
theorem dX0_init_24 : decode cX0_init 24 = .ok (.aload_n 0, 1) := by decide +kernel
theorem dX0_init_25 : decode cX0_init 25 = .ok (.iconst 0, 1) := by decide +kernel
theorem dX0_init_26 : decode cX0_init 26 = .ok (.putfield 24, 3) := by decide +kernel
theorem dX0_init_29 : decode cX0_init 29 = .ok (.aload_n 0, 1) := by decide +kernel
theorem dX0_init_30 : decode cX0_init 30 = .ok (.iconst 0, 1) := by decide +kernel
theorem dX0_init_31 : decode cX0_init 31 = .ok (.putfield 27, 3) := by decide +kernel
theorem dX0_init_34 : decode cX0_init 34 = .ok (.aload_n 0, 1) := by decide +kernel
theorem dX0_init_35 : decode cX0_init 35 = .ok (.iconst (-1), 1) := by decide +kernel
theorem dX0_init_36 : decode cX0_init 36 = .ok (.putfield 30, 3) := by decide +kernel
theorem dX0_init_39 : decode cX0_init 39 = .ok (.aload_n 0, 1) := by decide +kernel
theorem dX0_init_40 : decode cX0_init 40 = .ok (.iconst 0, 1) := by decide +kernel
theorem dX0_init_41 : decode cX0_init 41 = .ok (.putfield 33, 3) := by decide +kernel
theorem dX0_init_44 : decode cX0_init 44 = .ok (.aload_n 0, 1) := by decide +kernel
theorem dX0_init_45 : decode cX0_init 45 = .ok (.iconst 0, 1) := by decide +kernel
theorem dX0_init_46 : decode cX0_init 46 = .ok (.putfield 36, 3) := by decide +kernel
theorem dX0_init_49 : decode cX0_init 49 = .ok (.return_, 1) := by decide +kernel
theorem dX0_isVisible_0 : decode cX0_isVisible 0 = .ok (.aload_n 0, 1) := by decide +kernel
theorem dX0_isVisible_1 : decode cX0_isVisible 1 = .ok (.getfield 27, 3) := by decide +kernel
theorem dX0_isVisible_4 : decode cX0_isVisible 4 = .ok (.ifCond .ne 7, 3) := by decide +kernel
theorem dX0_isVisible_7 : decode cX0_isVisible 7 = .ok (.iconst 1, 1) := by decide +kernel
theorem dX0_isVisible_8 : decode cX0_isVisible 8 = .ok (.goto 4, 3) := by decide +kernel
theorem dX0_isVisible_11 : decode cX0_isVisible 11 = .ok (.iconst 0, 1) := by decide +kernel
theorem dX0_isVisible_12 : decode cX0_isVisible 12 = .ok (.ireturn, 1) := by decide +kernel
theorem dX0_offer_0 : decode cX0_offer 0 = .ok (.iload_n 1, 1) := by decide +kernel
theorem dX0_offer_1 : decode cX0_offer 1 = .ok (.aload_n 0, 1) := by decide +kernel
theorem dX0_offer_2 : decode cX0_offer 2 = .ok (.getfield 30, 3) := by decide +kernel
theorem dX0_offer_5 : decode cX0_offer 5 = .ok (.if_icmp .le 18, 3) := by decide +kernel
theorem dX0_offer_8 : decode cX0_offer 8 = .ok (.aload_n 0, 1) := by decide +kernel
theorem dX0_offer_9 : decode cX0_offer 9 = .ok (.iload_n 1, 1) := by decide +kernel
theorem dX0_offer_10 : decode cX0_offer 10 = .ok (.putfield 30, 3) := by decide +kernel
theorem dX0_offer_13 : decode cX0_offer 13 = .ok (.aload_n 0, 1) := by decide +kernel
theorem dX0_offer_14 : decode cX0_offer 14 = .ok (.iload_n 2, 1) := by decide +kernel
theorem dX0_offer_15 : decode cX0_offer 15 = .ok (.putfield 33, 3) := by decide +kernel
theorem dX0_offer_18 : decode cX0_offer 18 = .ok (.aload_n 0, 1) := by decide +kernel
theorem dX0_offer_19 : decode cX0_offer 19 = .ok (.iload_n 3, 1) := by decide +kernel
theorem dX0_offer_20 : decode cX0_offer 20 = .ok (.putfield 36, 3) := by decide +kernel
theorem dX0_offer_23 : decode cX0_offer 23 = .ok (.return_, 1) := by decide +kernel
theorem dX1_init_0 : decode cX1_init 0 = .ok (.aload_n 0, 1) := by decide +kernel
theorem dX1_init_1 : decode cX1_init 1 = .ok (.invokespecial 3, 3) := by decide +kernel
theorem dX1_init_4 : decode cX1_init 4 = .ok (.aload_n 0, 1) := by decide +kernel
theorem dX1_init_5 : decode cX1_init 5 = .ok (.sipush 1536, 3) := by decide +kernel
theorem dX1_init_8 : decode cX1_init 8 = .ok (.newarray .int, 2) := by decide +kernel
theorem dX1_init_10 : decode cX1_init 10 = .ok (.putfield 9, 3) := by decide +kernel
theorem dX1_init_13 : decode cX1_init 13 = .ok (.aload_n 0, 1) := by decide +kernel
theorem dX1_init_14 : decode cX1_init 14 = .ok (.iconst 0, 1) := by decide +kernel
theorem dX1_init_15 : decode cX1_init 15 = .ok (.putfield 15, 3) := by decide +kernel
theorem dX1_init_18 : decode cX1_init 18 = .ok (.return_, 1) := by decide +kernel
theorem dX1_forgetAll_0 : decode cX1_forgetAll 0 = .ok (.aload_n 0, 1) := by decide +kernel
theorem dX1_forgetAll_1 : decode cX1_forgetAll 1 = .ok (.iconst 0, 1) := by decide +kernel
theorem dX1_forgetAll_2 : decode cX1_forgetAll 2 = .ok (.putfield 15, 3) := by decide +kernel
theorem dX1_forgetAll_5 : decode cX1_forgetAll 5 = .ok (.return_, 1) := by decide +kernel
theorem dX1_has_0 : decode cX1_has 0 = .ok (.aload_n 0, 1) := by decide +kernel
theorem dX1_has_1 : decode cX1_has 1 = .ok (.iload_n 1, 1) := by decide +kernel
theorem dX1_has_2 : decode cX1_has 2 = .ok (.invokevirtual 19, 3) := by decide +kernel
theorem dX1_has_5 : decode cX1_has 5 = .ok (.istore_n 2, 1) := by decide +kernel
theorem dX1_has_6 : decode cX1_has 6 = .ok (.iload_n 2, 1) := by decide +kernel
theorem dX1_has_7 : decode cX1_has 7 = .ok (.aload_n 0, 1) := by decide +kernel
theorem dX1_has_8 : decode cX1_has 8 = .ok (.getfield 15, 3) := by decide +kernel
theorem dX1_has_11 : decode cX1_has 11 = .ok (.if_icmp .ge 17, 3) := by decide +kernel
theorem dX1_has_14 : decode cX1_has 14 = .ok (.aload_n 0, 1) := by decide +kernel
theorem dX1_has_15 : decode cX1_has 15 = .ok (.getfield 9, 3) := by decide +kernel
theorem dX1_has_18 : decode cX1_has 18 = .ok (.iload_n 2, 1) := by decide +kernel
theorem dX1_has_19 : decode cX1_has 19 = .ok (.iaload, 1) := by decide +kernel
theorem dX1_has_20 : decode cX1_has 20 = .ok (.iload_n 1, 1) := by decide +kernel
theorem dX1_has_21 : decode cX1_has 21 = .ok (.if_icmp .ne 7, 3) := by decide +kernel
theorem dX1_has_24 : decode cX1_has 24 = .ok (.iconst 1, 1) := by decide +kernel
theorem dX1_has_25 : decode cX1_has 25 = .ok (.goto 4, 3) := by decide +kernel
theorem dX1_has_28 : decode cX1_has 28 = .ok (.iconst 0, 1) := by decide +kernel
theorem dX1_has_29 : decode cX1_has 29 = .ok (.ireturn, 1) := by decide +kernel
theorem dX1_note_0 : decode cX1_note 0 = .ok (.aload_n 0, 1) := by decide +kernel
theorem dX1_note_1 : decode cX1_note 1 = .ok (.getfield 15, 3) := by decide +kernel
theorem dX1_note_4 : decode cX1_note 4 = .ok (.aload_n 0, 1) := by decide +kernel
theorem dX1_note_5 : decode cX1_note 5 = .ok (.getfield 9, 3) := by decide +kernel
theorem dX1_note_8 : decode cX1_note 8 = .ok (.arraylength, 1) := by decide +kernel
theorem dX1_note_9 : decode cX1_note 9 = .ok (.if_icmp .lt 4, 3) := by decide +kernel
theorem dX1_note_12 : decode cX1_note 12 = .ok (.return_, 1) := by decide +kernel
theorem dX1_note_13 : decode cX1_note 13 = .ok (.aload_n 0, 1) := by decide +kernel
theorem dX1_note_14 : decode cX1_note 14 = .ok (.iload_n 1, 1) := by decide +kernel
theorem dX1_note_15 : decode cX1_note 15 = .ok (.invokevirtual 19, 3) := by decide +kernel
theorem dX1_note_18 : decode cX1_note 18 = .ok (.istore_n 2, 1) := by decide +kernel
theorem dX1_note_19 : decode cX1_note 19 = .ok (.aload_n 0, 1) := by decide +kernel
theorem dX1_note_20 : decode cX1_note 20 = .ok (.getfield 9, 3) := by decide +kernel
theorem dX1_note_23 : decode cX1_note 23 = .ok (.iload_n 2, 1) := by decide +kernel
theorem dX1_note_24 : decode cX1_note 24 = .ok (.aload_n 0, 1) := by decide +kernel
theorem dX1_note_25 : decode cX1_note 25 = .ok (.getfield 9, 3) := by decide +kernel
theorem dX1_note_28 : decode cX1_note 28 = .ok (.iload_n 2, 1) := by decide +kernel
theorem dX1_note_29 : decode cX1_note 29 = .ok (.iconst 1, 1) := by decide +kernel
theorem dX1_note_30 : decode cX1_note 30 = .ok (.iadd, 1) := by decide +kernel
theorem dX1_note_31 : decode cX1_note 31 = .ok (.aload_n 0, 1) := by decide +kernel
theorem dX1_note_32 : decode cX1_note 32 = .ok (.getfield 15, 3) := by decide +kernel
theorem dX1_note_35 : decode cX1_note 35 = .ok (.iload_n 2, 1) := by decide +kernel
theorem dX1_note_36 : decode cX1_note 36 = .ok (.isub, 1) := by decide +kernel
theorem dX1_note_37 : decode cX1_note 37 = .ok (.invokestatic 23, 3) := by decide +kernel
theorem dX1_note_40 : decode cX1_note 40 = .ok (.aload_n 0, 1) := by decide +kernel
theorem dX1_note_41 : decode cX1_note 41 = .ok (.getfield 9, 3) := by decide +kernel
theorem dX1_note_44 : decode cX1_note 44 = .ok (.iload_n 2, 1) := by decide +kernel
theorem dX1_note_45 : decode cX1_note 45 = .ok (.iload_n 1, 1) := by decide +kernel
theorem dX1_note_46 : decode cX1_note 46 = .ok (.iastore, 1) := by decide +kernel
theorem dX1_note_47 : decode cX1_note 47 = .ok (.aload_n 0, 1) := by decide +kernel
theorem dX1_note_48 : decode cX1_note 48 = .ok (.dup, 1) := by decide +kernel
theorem dX1_note_49 : decode cX1_note 49 = .ok (.getfield 15, 3) := by decide +kernel
theorem dX1_note_52 : decode cX1_note 52 = .ok (.iconst 1, 1) := by decide +kernel
theorem dX1_note_53 : decode cX1_note 53 = .ok (.iadd, 1) := by decide +kernel
theorem dX1_note_54 : decode cX1_note 54 = .ok (.putfield 15, 3) := by decide +kernel
theorem dX1_note_57 : decode cX1_note 57 = .ok (.return_, 1) := by decide +kernel
theorem dX1_greatest_0 : decode cX1_greatest 0 = .ok (.aload_n 0, 1) := by decide +kernel
theorem dX1_greatest_1 : decode cX1_greatest 1 = .ok (.getfield 15, 3) := by decide +kernel
theorem dX1_greatest_4 : decode cX1_greatest 4 = .ok (.ifCond .ne 7, 3) := by decide +kernel
theorem dX1_greatest_7 : decode cX1_greatest 7 = .ok (.iconst (-1), 1) := by decide +kernel
theorem dX1_greatest_8 : decode cX1_greatest 8 = .ok (.goto 14, 3) := by decide +kernel
theorem dX1_greatest_11 : decode cX1_greatest 11 = .ok (.aload_n 0, 1) := by decide +kernel
theorem dX1_greatest_12 : decode cX1_greatest 12 = .ok (.getfield 9, 3) := by decide +kernel
theorem dX1_greatest_15 : decode cX1_greatest 15 = .ok (.aload_n 0, 1) := by decide +kernel
theorem dX1_greatest_16 : decode cX1_greatest 16 = .ok (.getfield 15, 3) := by decide +kernel
theorem dX1_greatest_19 : decode cX1_greatest 19 = .ok (.iconst 1, 1) := by decide +kernel
theorem dX1_greatest_20 : decode cX1_greatest 20 = .ok (.isub, 1) := by decide +kernel
theorem dX1_greatest_21 : decode cX1_greatest 21 = .ok (.iaload, 1) := by decide +kernel
theorem dX1_greatest_22 : decode cX1_greatest 22 = .ok (.ireturn, 1) := by decide +kernel
theorem dX1_firstNotBelow_0 : decode cX1_firstNotBelow 0 = .ok (.iconst 0, 1) := by decide +kernel
theorem dX1_firstNotBelow_1 : decode cX1_firstNotBelow 1 = .ok (.istore_n 2, 1) := by decide +kernel
theorem dX1_firstNotBelow_2 : decode cX1_firstNotBelow 2 = .ok (.aload_n 0, 1) := by decide +kernel
theorem dX1_firstNotBelow_3 : decode cX1_firstNotBelow 3 = .ok (.getfield 15, 3) := by decide +kernel
theorem dX1_firstNotBelow_6 : decode cX1_firstNotBelow 6 = .ok (.istore_n 3, 1) := by decide +kernel
theorem dX1_firstNotBelow_7 : decode cX1_firstNotBelow 7 = .ok (.iload_n 2, 1) := by decide +kernel
theorem dX1_firstNotBelow_8 : decode cX1_firstNotBelow 8 = .ok (.iload_n 3, 1) := by decide +kernel
theorem dX1_firstNotBelow_9 : decode cX1_firstNotBelow 9 = .ok (.if_icmp .ge 35, 3) := by decide +kernel
theorem dX1_firstNotBelow_12 : decode cX1_firstNotBelow 12 = .ok (.iload_n 2, 1) := by decide +kernel
theorem dX1_firstNotBelow_13 : decode cX1_firstNotBelow 13 = .ok (.iload_n 3, 1) := by decide +kernel
theorem dX1_firstNotBelow_14 : decode cX1_firstNotBelow 14 = .ok (.iadd, 1) := by decide +kernel
theorem dX1_firstNotBelow_15 : decode cX1_firstNotBelow 15 = .ok (.iconst 2, 1) := by decide +kernel
theorem dX1_firstNotBelow_16 : decode cX1_firstNotBelow 16 = .ok (.idiv, 1) := by decide +kernel
theorem dX1_firstNotBelow_17 : decode cX1_firstNotBelow 17 = .ok (.istore 4, 2) := by decide +kernel
theorem dX1_firstNotBelow_19 : decode cX1_firstNotBelow 19 = .ok (.aload_n 0, 1) := by decide +kernel
theorem dX1_firstNotBelow_20 : decode cX1_firstNotBelow 20 = .ok (.getfield 9, 3) := by decide +kernel
theorem dX1_firstNotBelow_23 : decode cX1_firstNotBelow 23 = .ok (.iload 4, 2) := by decide +kernel
theorem dX1_firstNotBelow_25 : decode cX1_firstNotBelow 25 = .ok (.iaload, 1) := by decide +kernel
theorem dX1_firstNotBelow_26 : decode cX1_firstNotBelow 26 = .ok (.iload_n 1, 1) := by decide +kernel
theorem dX1_firstNotBelow_27 : decode cX1_firstNotBelow 27 = .ok (.if_icmp .ge 11, 3) := by decide +kernel
theorem dX1_firstNotBelow_30 : decode cX1_firstNotBelow 30 = .ok (.iload 4, 2) := by decide +kernel
theorem dX1_firstNotBelow_32 : decode cX1_firstNotBelow 32 = .ok (.iconst 1, 1) := by decide +kernel
theorem dX1_firstNotBelow_33 : decode cX1_firstNotBelow 33 = .ok (.iadd, 1) := by decide +kernel
theorem dX1_firstNotBelow_34 : decode cX1_firstNotBelow 34 = .ok (.istore_n 2, 1) := by decide +kernel
theorem dX1_firstNotBelow_35 : decode cX1_firstNotBelow 35 = .ok (.goto 6, 3) := by decide +kernel
theorem dX1_firstNotBelow_38 : decode cX1_firstNotBelow 38 = .ok (.iload 4, 2) := by decide +kernel
theorem dX1_firstNotBelow_40 : decode cX1_firstNotBelow 40 = .ok (.istore_n 3, 1) := by decide +kernel
theorem dX1_firstNotBelow_41 : decode cX1_firstNotBelow 41 = .ok (.goto (-34), 3) := by decide +kernel
theorem dX1_firstNotBelow_44 : decode cX1_firstNotBelow 44 = .ok (.iload_n 2, 1) := by decide +kernel
theorem dX1_firstNotBelow_45 : decode cX1_firstNotBelow 45 = .ok (.ireturn, 1) := by decide +kernel
theorem dX2_init_0 : decode cX2_init 0 = .ok (.aload_n 0, 1) := by decide +kernel
theorem dX2_init_1 : decode cX2_init 1 = .ok (.invokespecial 1, 3) := by decide +kernel
theorem dX2_init_4 : decode cX2_init 4 = .ok (.aload_n 0, 1) := by decide +kernel
theorem dX2_init_5 : decode cX2_init 5 = .ok (.new 7, 3) := by decide +kernel
theorem dX2_init_8 : decode cX2_init 8 = .ok (.dup, 1) := by decide +kernel
theorem dX2_init_9 : decode cX2_init 9 = .ok (.invokespecial 9, 3) := by decide +kernel
theorem dX2_init_12 : decode cX2_init 12 = .ok (.putfield 10, 3) := by decide +kernel
theorem dX2_init_15 : decode cX2_init 15 = .ok (.aload_n 0, 1) := by decide +kernel
theorem dX2_init_16 : decode cX2_init 16 = .ok (.new 16, 3) := by decide +kernel
theorem dX2_init_19 : decode cX2_init 19 = .ok (.dup, 1) := by decide +kernel
theorem dX2_init_20 : decode cX2_init 20 = .ok (.iconst 0, 1) := by decide +kernel
theorem dX2_init_21 : decode cX2_init 21 = .ok (.iconst 0, 1) := by decide +kernel
theorem dX2_init_22 : decode cX2_init 22 = .ok (.iconst 0, 1) := by decide +kernel
theorem dX2_init_23 : decode cX2_init 23 = .ok (.invokespecial 18, 3) := by decide +kernel
theorem dX2_init_26 : decode cX2_init 26 = .ok (.putfield 21, 3) := by decide +kernel
theorem dX2_init_29 : decode cX2_init 29 = .ok (.aload_n 0, 1) := by decide +kernel
theorem dX2_init_30 : decode cX2_init 30 = .ok (.sipush 512, 3) := by decide +kernel
theorem dX2_init_33 : decode cX2_init 33 = .ok (.anewarray 16, 3) := by decide +kernel
theorem dX2_init_36 : decode cX2_init 36 = .ok (.putfield 25, 3) := by decide +kernel
theorem dX2_init_39 : decode cX2_init 39 = .ok (.aload_n 0, 1) := by decide +kernel
theorem dX2_init_40 : decode cX2_init 40 = .ok (.iconst 0, 1) := by decide +kernel
theorem dX2_init_41 : decode cX2_init 41 = .ok (.putfield 29, 3) := by decide +kernel
theorem dX2_init_44 : decode cX2_init 44 = .ok (.aload_n 0, 1) := by decide +kernel
theorem dX2_init_45 : decode cX2_init 45 = .ok (.iconst 0, 1) := by decide +kernel
theorem dX2_init_46 : decode cX2_init 46 = .ok (.putfield 33, 3) := by decide +kernel
theorem dX2_init_49 : decode cX2_init 49 = .ok (.return_, 1) := by decide +kernel
theorem dX2_clear_0 : decode cX2_clear 0 = .ok (.aload_n 0, 1) := by decide +kernel
theorem dX2_clear_1 : decode cX2_clear 1 = .ok (.getfield 10, 3) := by decide +kernel
theorem dX2_clear_4 : decode cX2_clear 4 = .ok (.invokevirtual 36, 3) := by decide +kernel
theorem dX2_clear_7 : decode cX2_clear 7 = .ok (.aload_n 0, 1) := by decide +kernel
theorem dX2_clear_8 : decode cX2_clear 8 = .ok (.getfield 21, 3) := by decide +kernel
theorem dX2_clear_11 : decode cX2_clear 11 = .ok (.iconst 0, 1) := by decide +kernel
theorem dX2_clear_12 : decode cX2_clear 12 = .ok (.putfield 39, 3) := by decide +kernel
theorem dX2_clear_15 : decode cX2_clear 15 = .ok (.aload_n 0, 1) := by decide +kernel
theorem dX2_clear_16 : decode cX2_clear 16 = .ok (.iconst 0, 1) := by decide +kernel
theorem dX2_clear_17 : decode cX2_clear 17 = .ok (.putfield 29, 3) := by decide +kernel
theorem dX2_clear_20 : decode cX2_clear 20 = .ok (.aload_n 0, 1) := by decide +kernel
theorem dX2_clear_21 : decode cX2_clear 21 = .ok (.iconst 0, 1) := by decide +kernel
theorem dX2_clear_22 : decode cX2_clear 22 = .ok (.putfield 33, 3) := by decide +kernel
theorem dX2_clear_25 : decode cX2_clear 25 = .ok (.return_, 1) := by decide +kernel
theorem dX2_insert_0 : decode cX2_insert 0 = .ok (.aload_n 0, 1) := by decide +kernel
theorem dX2_insert_1 : decode cX2_insert 1 = .ok (.iload_n 2, 1) := by decide +kernel
theorem dX2_insert_2 : decode cX2_insert 2 = .ok (.invokevirtual 42, 3) := by decide +kernel
theorem dX2_insert_5 : decode cX2_insert 5 = .ok (.astore 5, 2) := by decide +kernel
theorem dX2_insert_7 : decode cX2_insert 7 = .ok (.aload 5, 2) := by decide +kernel
theorem dX2_insert_9 : decode cX2_insert 9 = .ok (.ifnull 33, 3) := by decide +kernel
theorem dX2_insert_12 : decode cX2_insert 12 = .ok (.iload_n 1, 1) := by decide +kernel
theorem dX2_insert_13 : decode cX2_insert 13 = .ok (.iload_n 2, 1) := by decide +kernel
theorem dX2_insert_14 : decode cX2_insert 14 = .ok (.if_icmp .le 28, 3) := by decide +kernel
theorem dX2_insert_17 : decode cX2_insert 17 = .ok (.aload_n 0, 1) := by decide +kernel
theorem dX2_insert_18 : decode cX2_insert 18 = .ok (.iload_n 1, 1) := by decide +kernel
theorem dX2_insert_19 : decode cX2_insert 19 = .ok (.invokevirtual 46, 3) := by decide +kernel
theorem dX2_insert_22 : decode cX2_insert 22 = .ok (.ifCond .eq 20, 3) := by decide +kernel
theorem dX2_insert_25 : decode cX2_insert 25 = .ok (.iload_n 3, 1) := by decide +kernel
theorem dX2_insert_26 : decode cX2_insert 26 = .ok (.invokestatic 50, 3) := by decide +kernel
theorem dX2_insert_29 : decode cX2_insert 29 = .ok (.ifCond .eq 13, 3) := by decide +kernel
theorem dX2_insert_32 : decode cX2_insert 32 = .ok (.aload_n 0, 1) := by decide +kernel
theorem dX2_insert_33 : decode cX2_insert 33 = .ok (.getfield 29, 3) := by decide +kernel
theorem dX2_insert_36 : decode cX2_insert 36 = .ok (.sipush 512, 3) := by decide +kernel
theorem dX2_insert_39 : decode cX2_insert 39 = .ok (.if_icmp .lt 5, 3) := by decide +kernel
theorem dX2_insert_42 : decode cX2_insert 42 = .ok (.iconst 0, 1) := by decide +kernel
theorem dX2_insert_43 : decode cX2_insert 43 = .ok (.ireturn, 1) := by decide +kernel
theorem dX2_insert_44 : decode cX2_insert 44 = .ok (.aload_n 0, 1) := by decide +kernel
theorem dX2_insert_45 : decode cX2_insert 45 = .ok (.iload_n 1, 1) := by decide +kernel
theorem dX2_insert_46 : decode cX2_insert 46 = .ok (.aload 5, 2) := by decide +kernel
theorem dX2_insert_48 : decode cX2_insert 48 = .ok (.iload_n 3, 1) := by decide +kernel
theorem dX2_insert_49 : decode cX2_insert 49 = .ok (.iload 4, 2) := by decide +kernel
theorem dX2_insert_51 : decode cX2_insert 51 = .ok (.invokevirtual 53, 3) := by decide +kernel
theorem dX2_insert_54 : decode cX2_insert 54 = .ok (.pop, 1) := by decide +kernel
theorem dX2_insert_55 : decode cX2_insert 55 = .ok (.iconst 1, 1) := by decide +kernel
theorem dX2_insert_56 : decode cX2_insert 56 = .ok (.ireturn, 1) := by decide +kernel
theorem dX2_run_0 : decode cX2_run 0 = .ok (.iload_n 3, 1) := by decide +kernel
theorem dX2_run_1 : decode cX2_run 1 = .ok (.iconst 2, 1) := by decide +kernel
theorem dX2_run_2 : decode cX2_run 2 = .ok (.if_icmp .lt 21, 3) := by decide +kernel
theorem dX2_run_5 : decode cX2_run 5 = .ok (.iload_n 3, 1) := by decide +kernel
theorem dX2_run_6 : decode cX2_run 6 = .ok (.bipush 8, 2) := by decide +kernel
theorem dX2_run_8 : decode cX2_run 8 = .ok (.if_icmp .gt 15, 3) := by decide +kernel
theorem dX2_run_11 : decode cX2_run 11 = .ok (.aload_n 0, 1) := by decide +kernel
theorem dX2_run_12 : decode cX2_run 12 = .ok (.getfield 29, 3) := by decide +kernel
theorem dX2_run_15 : decode cX2_run 15 = .ok (.iload_n 3, 1) := by decide +kernel
theorem dX2_run_16 : decode cX2_run 16 = .ok (.iadd, 1) := by decide +kernel
theorem dX2_run_17 : decode cX2_run 17 = .ok (.sipush 512, 3) := by decide +kernel
theorem dX2_run_20 : decode cX2_run 20 = .ok (.if_icmp .le 5, 3) := by decide +kernel
theorem dX2_run_23 : decode cX2_run 23 = .ok (.iconst 0, 1) := by decide +kernel
theorem dX2_run_24 : decode cX2_run 24 = .ok (.ireturn, 1) := by decide +kernel
theorem dX2_run_25 : decode cX2_run 25 = .ok (.aload_n 0, 1) := by decide +kernel
theorem dX2_run_26 : decode cX2_run 26 = .ok (.iload_n 2, 1) := by decide +kernel
theorem dX2_run_27 : decode cX2_run 27 = .ok (.invokevirtual 42, 3) := by decide +kernel
theorem dX2_run_30 : decode cX2_run 30 = .ok (.astore 6, 2) := by decide +kernel
theorem dX2_run_32 : decode cX2_run 32 = .ok (.aload 6, 2) := by decide +kernel
theorem dX2_run_34 : decode cX2_run 34 = .ok (.ifnull 17, 3) := by decide +kernel
theorem dX2_run_37 : decode cX2_run 37 = .ok (.iload_n 1, 1) := by decide +kernel
theorem dX2_run_38 : decode cX2_run 38 = .ok (.iload_n 2, 1) := by decide +kernel
theorem dX2_run_39 : decode cX2_run 39 = .ok (.if_icmp .le 12, 3) := by decide +kernel
theorem dX2_run_42 : decode cX2_run 42 = .ok (.aload_n 0, 1) := by decide +kernel
theorem dX2_run_43 : decode cX2_run 43 = .ok (.iload_n 1, 1) := by decide +kernel
theorem dX2_run_44 : decode cX2_run 44 = .ok (.iload_n 3, 1) := by decide +kernel
theorem dX2_run_45 : decode cX2_run 45 = .ok (.invokevirtual 57, 3) := by decide +kernel
theorem dX2_run_48 : decode cX2_run 48 = .ok (.ifCond .ne 5, 3) := by decide +kernel
theorem dX2_run_51 : decode cX2_run 51 = .ok (.iconst 0, 1) := by decide +kernel
theorem dX2_run_52 : decode cX2_run 52 = .ok (.ireturn, 1) := by decide +kernel
theorem dX2_run_53 : decode cX2_run 53 = .ok (.iconst 0, 1) := by decide +kernel
theorem dX2_run_54 : decode cX2_run 54 = .ok (.istore 7, 2) := by decide +kernel
theorem dX2_run_56 : decode cX2_run 56 = .ok (.iload 7, 2) := by decide +kernel
theorem dX2_run_58 : decode cX2_run 58 = .ok (.iload_n 3, 1) := by decide +kernel
theorem dX2_run_59 : decode cX2_run 59 = .ok (.if_icmp .ge 36, 3) := by decide +kernel
theorem dX2_run_62 : decode cX2_run 62 = .ok (.aload_n 0, 1) := by decide +kernel
theorem dX2_run_63 : decode cX2_run 63 = .ok (.iload_n 1, 1) := by decide +kernel
theorem dX2_run_64 : decode cX2_run 64 = .ok (.bipush 8, 2) := by decide +kernel
theorem dX2_run_66 : decode cX2_run 66 = .ok (.iload 7, 2) := by decide +kernel
theorem dX2_run_68 : decode cX2_run 68 = .ok (.imul, 1) := by decide +kernel
theorem dX2_run_69 : decode cX2_run 69 = .ok (.iadd, 1) := by decide +kernel
theorem dX2_run_70 : decode cX2_run 70 = .ok (.aload 6, 2) := by decide +kernel
theorem dX2_run_72 : decode cX2_run 72 = .ok (.iconst 2, 1) := by decide +kernel
theorem dX2_run_73 : decode cX2_run 73 = .ok (.lload 4, 2) := by decide +kernel
theorem dX2_run_75 : decode cX2_run 75 = .ok (.iload_n 3, 1) := by decide +kernel
theorem dX2_run_76 : decode cX2_run 76 = .ok (.iconst 1, 1) := by decide +kernel
theorem dX2_run_77 : decode cX2_run 77 = .ok (.isub, 1) := by decide +kernel
theorem dX2_run_78 : decode cX2_run 78 = .ok (.iload 7, 2) := by decide +kernel
theorem dX2_run_80 : decode cX2_run 80 = .ok (.isub, 1) := by decide +kernel
theorem dX2_run_81 : decode cX2_run 81 = .ok (.invokestatic 61, 3) := by decide +kernel
theorem dX2_run_84 : decode cX2_run 84 = .ok (.invokevirtual 53, 3) := by decide +kernel
theorem dX2_run_87 : decode cX2_run 87 = .ok (.astore 6, 2) := by decide +kernel
theorem dX2_run_89 : decode cX2_run 89 = .ok (.iinc 7 1, 3) := by decide +kernel
theorem dX2_run_92 : decode cX2_run 92 = .ok (.goto (-36), 3) := by decide +kernel
theorem dX2_run_95 : decode cX2_run 95 = .ok (.iconst 1, 1) := by decide +kernel
theorem dX2_run_96 : decode cX2_run 96 = .ok (.ireturn, 1) := by decide +kernel
theorem dX2_set_0 : decode cX2_set 0 = .ok (.aload_n 0, 1) := by decide +kernel
theorem dX2_set_1 : decode cX2_set 1 = .ok (.iload_n 2, 1) := by decide +kernel
theorem dX2_set_2 : decode cX2_set 2 = .ok (.invokevirtual 65, 3) := by decide +kernel
theorem dX2_set_5 : decode cX2_set 5 = .ok (.astore 5, 2) := by decide +kernel
theorem dX2_set_7 : decode cX2_set 7 = .ok (.aload 5, 2) := by decide +kernel
theorem dX2_set_9 : decode cX2_set 9 = .ok (.ifnull 19, 3) := by decide +kernel
theorem dX2_set_12 : decode cX2_set 12 = .ok (.aload_n 0, 1) := by decide +kernel
theorem dX2_set_13 : decode cX2_set 13 = .ok (.iload_n 1, 1) := by decide +kernel
theorem dX2_set_14 : decode cX2_set 14 = .ok (.iload_n 2, 1) := by decide +kernel
theorem dX2_set_15 : decode cX2_set 15 = .ok (.invokevirtual 68, 3) := by decide +kernel
theorem dX2_set_18 : decode cX2_set 18 = .ok (.ifCond .eq 10, 3) := by decide +kernel
theorem dX2_set_21 : decode cX2_set 21 = .ok (.iload_n 3, 1) := by decide +kernel
theorem dX2_set_22 : decode cX2_set 22 = .ok (.invokestatic 50, 3) := by decide +kernel
theorem dX2_set_25 : decode cX2_set 25 = .ok (.ifCond .ne 5, 3) := by decide +kernel
theorem dX2_set_28 : decode cX2_set 28 = .ok (.iconst 0, 1) := by decide +kernel
theorem dX2_set_29 : decode cX2_set 29 = .ok (.ireturn, 1) := by decide +kernel
theorem dX2_set_30 : decode cX2_set 30 = .ok (.aload_n 0, 1) := by decide +kernel
theorem dX2_set_31 : decode cX2_set 31 = .ok (.iload_n 1, 1) := by decide +kernel
theorem dX2_set_32 : decode cX2_set 32 = .ok (.invokevirtual 71, 3) := by decide +kernel
theorem dX2_set_35 : decode cX2_set 35 = .ok (.aload 5, 2) := by decide +kernel
theorem dX2_set_37 : decode cX2_set 37 = .ok (.dup, 1) := by decide +kernel
theorem dX2_set_38 : decode cX2_set 38 = .ok (.getfield 75, 3) := by decide +kernel
theorem dX2_set_41 : decode cX2_set 41 = .ok (.iconst 1, 1) := by decide +kernel
theorem dX2_set_42 : decode cX2_set 42 = .ok (.iadd, 1) := by decide +kernel
theorem dX2_set_43 : decode cX2_set 43 = .ok (.putfield 75, 3) := by decide +kernel
theorem dX2_set_46 : decode cX2_set 46 = .ok (.aload 5, 2) := by decide +kernel
theorem dX2_set_48 : decode cX2_set 48 = .ok (.iload_n 1, 1) := by decide +kernel
theorem dX2_set_49 : decode cX2_set 49 = .ok (.iload_n 3, 1) := by decide +kernel
theorem dX2_set_50 : decode cX2_set 50 = .ok (.iload 4, 2) := by decide +kernel
theorem dX2_set_52 : decode cX2_set 52 = .ok (.invokevirtual 78, 3) := by decide +kernel
theorem dX2_set_55 : decode cX2_set 55 = .ok (.iconst 1, 1) := by decide +kernel
theorem dX2_set_56 : decode cX2_set 56 = .ok (.ireturn, 1) := by decide +kernel
theorem dX2_remove_0 : decode cX2_remove 0 = .ok (.aload_n 0, 1) := by decide +kernel
theorem dX2_remove_1 : decode cX2_remove 1 = .ok (.iload_n 2, 1) := by decide +kernel
theorem dX2_remove_2 : decode cX2_remove 2 = .ok (.invokevirtual 65, 3) := by decide +kernel
theorem dX2_remove_5 : decode cX2_remove 5 = .ok (.astore_n 3, 1) := by decide +kernel
theorem dX2_remove_6 : decode cX2_remove 6 = .ok (.aload_n 3, 1) := by decide +kernel
theorem dX2_remove_7 : decode cX2_remove 7 = .ok (.ifnull 12, 3) := by decide +kernel
theorem dX2_remove_10 : decode cX2_remove 10 = .ok (.aload_n 0, 1) := by decide +kernel
theorem dX2_remove_11 : decode cX2_remove 11 = .ok (.iload_n 1, 1) := by decide +kernel
theorem dX2_remove_12 : decode cX2_remove 12 = .ok (.iload_n 2, 1) := by decide +kernel
theorem dX2_remove_13 : decode cX2_remove 13 = .ok (.invokevirtual 68, 3) := by decide +kernel
theorem dX2_remove_16 : decode cX2_remove 16 = .ok (.ifCond .ne 5, 3) := by decide +kernel
theorem dX2_remove_19 : decode cX2_remove 19 = .ok (.iconst 0, 1) := by decide +kernel
theorem dX2_remove_20 : decode cX2_remove 20 = .ok (.ireturn, 1) := by decide +kernel
theorem dX2_remove_21 : decode cX2_remove 21 = .ok (.aload_n 0, 1) := by decide +kernel
theorem dX2_remove_22 : decode cX2_remove 22 = .ok (.iload_n 1, 1) := by decide +kernel
theorem dX2_remove_23 : decode cX2_remove 23 = .ok (.invokevirtual 71, 3) := by decide +kernel
theorem dX2_remove_26 : decode cX2_remove 26 = .ok (.aload_n 3, 1) := by decide +kernel
theorem dX2_remove_27 : decode cX2_remove 27 = .ok (.dup, 1) := by decide +kernel
theorem dX2_remove_28 : decode cX2_remove 28 = .ok (.getfield 81, 3) := by decide +kernel
theorem dX2_remove_31 : decode cX2_remove 31 = .ok (.iconst 1, 1) := by decide +kernel
theorem dX2_remove_32 : decode cX2_remove 32 = .ok (.iadd, 1) := by decide +kernel
theorem dX2_remove_33 : decode cX2_remove 33 = .ok (.putfield 81, 3) := by decide +kernel
theorem dX2_remove_36 : decode cX2_remove 36 = .ok (.iconst 1, 1) := by decide +kernel
theorem dX2_remove_37 : decode cX2_remove 37 = .ok (.ireturn, 1) := by decide +kernel
theorem dX2_size_0 : decode cX2_size 0 = .ok (.aload_n 0, 1) := by decide +kernel
theorem dX2_size_1 : decode cX2_size 1 = .ok (.aload_n 0, 1) := by decide +kernel
theorem dX2_size_2 : decode cX2_size 2 = .ok (.getfield 29, 3) := by decide +kernel
theorem dX2_size_5 : decode cX2_size 5 = .ok (.invokevirtual 84, 3) := by decide +kernel
theorem dX2_size_8 : decode cX2_size 8 = .ok (.ireturn, 1) := by decide +kernel
theorem dX2_at_0 : decode cX2_at 0 = .ok (.aload_n 0, 1) := by decide +kernel
theorem dX2_at_1 : decode cX2_at 1 = .ok (.iload_n 1, 1) := by decide +kernel
theorem dX2_at_2 : decode cX2_at 2 = .ok (.invokevirtual 88, 3) := by decide +kernel
theorem dX2_at_5 : decode cX2_at 5 = .ok (.astore_n 3, 1) := by decide +kernel
theorem dX2_at_6 : decode cX2_at 6 = .ok (.aload_n 3, 1) := by decide +kernel
theorem dX2_at_7 : decode cX2_at 7 = .ok (.ifnonnull 13, 3) := by decide +kernel
theorem dX2_at_10 : decode cX2_at 10 = .ok (.new 91, 3) := by decide +kernel
theorem dX2_at_13 : decode cX2_at 13 = .ok (.dup, 1) := by decide +kernel
theorem dX2_at_14 : decode cX2_at 14 = .ok (.ldc 93, 2) := by decide +kernel
theorem dX2_at_16 : decode cX2_at 16 = .ok (.invokespecial 95, 3) := by decide +kernel
theorem dX2_at_19 : decode cX2_at 19 = .ok (.athrow, 1) := by decide +kernel
theorem dX2_at_20 : decode cX2_at 20 = .ok (.iload_n 2, 1) := by decide +kernel
theorem dX2_at_21 : decode cX2_at 21 = .ok (.tableswitch 51 0 3 #[31, 36, 41, 46], 31) := by decide +kernel
theorem dX2_at_52 : decode cX2_at 52 = .ok (.aload_n 3, 1) := by decide +kernel
theorem dX2_at_53 : decode cX2_at 53 = .ok (.getfield 98, 3) := by decide +kernel
theorem dX2_at_56 : decode cX2_at 56 = .ok (.ireturn, 1) := by decide +kernel
theorem dX2_at_57 : decode cX2_at 57 = .ok (.aload_n 3, 1) := by decide +kernel
theorem dX2_at_58 : decode cX2_at 58 = .ok (.getfield 101, 3) := by decide +kernel
theorem dX2_at_61 : decode cX2_at 61 = .ok (.ireturn, 1) := by decide +kernel
theorem dX2_at_62 : decode cX2_at 62 = .ok (.aload_n 3, 1) := by decide +kernel
theorem dX2_at_63 : decode cX2_at 63 = .ok (.getfield 104, 3) := by decide +kernel
theorem dX2_at_66 : decode cX2_at 66 = .ok (.ireturn, 1) := by decide +kernel
theorem dX2_at_67 : decode cX2_at 67 = .ok (.aload_n 3, 1) := by decide +kernel
theorem dX2_at_68 : decode cX2_at 68 = .ok (.getfield 107, 3) := by decide +kernel
theorem dX2_at_71 : decode cX2_at 71 = .ok (.ireturn, 1) := by decide +kernel
theorem dX2_at_72 : decode cX2_at 72 = .ok (.new 91, 3) := by decide +kernel
theorem dX2_at_75 : decode cX2_at 75 = .ok (.dup, 1) := by decide +kernel
theorem dX2_at_76 : decode cX2_at 76 = .ok (.ldc 110, 2) := by decide +kernel
theorem dX2_at_78 : decode cX2_at 78 = .ok (.invokespecial 95, 3) := by decide +kernel
theorem dX2_at_81 : decode cX2_at 81 = .ok (.athrow, 1) := by decide +kernel
theorem dX2_place_0 : decode cX2_place 0 = .ok (.aload_n 0, 1) := by decide +kernel
theorem dX2_place_1 : decode cX2_place 1 = .ok (.iload_n 1, 1) := by decide +kernel
theorem dX2_place_2 : decode cX2_place 2 = .ok (.invokevirtual 112, 3) := by decide +kernel
theorem dX2_place_5 : decode cX2_place 5 = .ok (.istore_n 2, 1) := by decide +kernel
theorem dX2_place_6 : decode cX2_place 6 = .ok (.iload_n 2, 1) := by decide +kernel
theorem dX2_place_7 : decode cX2_place 7 = .ok (.iconst (-1), 1) := by decide +kernel
theorem dX2_place_8 : decode cX2_place 8 = .ok (.if_icmp .eq 15, 3) := by decide +kernel
theorem dX2_place_11 : decode cX2_place 11 = .ok (.aload_n 0, 1) := by decide +kernel
theorem dX2_place_12 : decode cX2_place 12 = .ok (.getfield 25, 3) := by decide +kernel
theorem dX2_place_15 : decode cX2_place 15 = .ok (.iload_n 2, 1) := by decide +kernel
theorem dX2_place_16 : decode cX2_place 16 = .ok (.aaload, 1) := by decide +kernel
theorem dX2_place_17 : decode cX2_place 17 = .ok (.invokevirtual 115, 3) := by decide +kernel
theorem dX2_place_20 : decode cX2_place 20 = .ok (.ifCond .ne 5, 3) := by decide +kernel
theorem dX2_place_23 : decode cX2_place 23 = .ok (.iconst (-1), 1) := by decide +kernel
theorem dX2_place_24 : decode cX2_place 24 = .ok (.ireturn, 1) := by decide +kernel
theorem dX2_place_25 : decode cX2_place 25 = .ok (.aload_n 0, 1) := by decide +kernel
theorem dX2_place_26 : decode cX2_place 26 = .ok (.iload_n 2, 1) := by decide +kernel
theorem dX2_place_27 : decode cX2_place 27 = .ok (.invokevirtual 84, 3) := by decide +kernel
theorem dX2_place_30 : decode cX2_place 30 = .ok (.ireturn, 1) := by decide +kernel
theorem dX2_ahead_0 : decode cX2_ahead 0 = .ok (.aload_n 0, 1) := by decide +kernel
theorem dX2_ahead_1 : decode cX2_ahead 1 = .ok (.iload_n 1, 1) := by decide +kernel
theorem dX2_ahead_2 : decode cX2_ahead 2 = .ok (.invokevirtual 112, 3) := by decide +kernel
theorem dX2_ahead_5 : decode cX2_ahead 5 = .ok (.istore_n 2, 1) := by decide +kernel
theorem dX2_ahead_6 : decode cX2_ahead 6 = .ok (.iload_n 2, 1) := by decide +kernel
theorem dX2_ahead_7 : decode cX2_ahead 7 = .ok (.iconst (-1), 1) := by decide +kernel
theorem dX2_ahead_8 : decode cX2_ahead 8 = .ok (.if_icmp .ne 13, 3) := by decide +kernel
theorem dX2_ahead_11 : decode cX2_ahead 11 = .ok (.new 119, 3) := by decide +kernel
theorem dX2_ahead_14 : decode cX2_ahead 14 = .ok (.dup, 1) := by decide +kernel
theorem dX2_ahead_15 : decode cX2_ahead 15 = .ok (.ldc 121, 2) := by decide +kernel
theorem dX2_ahead_17 : decode cX2_ahead 17 = .ok (.invokespecial 123, 3) := by decide +kernel
theorem dX2_ahead_20 : decode cX2_ahead 20 = .ok (.athrow, 1) := by decide +kernel
theorem dX2_ahead_21 : decode cX2_ahead 21 = .ok (.aload_n 0, 1) := by decide +kernel
theorem dX2_ahead_22 : decode cX2_ahead 22 = .ok (.iload_n 2, 1) := by decide +kernel
theorem dX2_ahead_23 : decode cX2_ahead 23 = .ok (.invokevirtual 84, 3) := by decide +kernel
theorem dX2_ahead_26 : decode cX2_ahead 26 = .ok (.ireturn, 1) := by decide +kernel
theorem dX2_before_0 : decode cX2_before 0 = .ok (.aload_n 0, 1) := by decide +kernel
theorem dX2_before_1 : decode cX2_before 1 = .ok (.iload_n 1, 1) := by decide +kernel
theorem dX2_before_2 : decode cX2_before 2 = .ok (.invokevirtual 112, 3) := by decide +kernel
theorem dX2_before_5 : decode cX2_before 5 = .ok (.istore_n 3, 1) := by decide +kernel
theorem dX2_before_6 : decode cX2_before 6 = .ok (.aload_n 0, 1) := by decide +kernel
theorem dX2_before_7 : decode cX2_before 7 = .ok (.iload_n 2, 1) := by decide +kernel
theorem dX2_before_8 : decode cX2_before 8 = .ok (.invokevirtual 112, 3) := by decide +kernel
theorem dX2_before_11 : decode cX2_before 11 = .ok (.istore 4, 2) := by decide +kernel
theorem dX2_before_13 : decode cX2_before 13 = .ok (.iload_n 3, 1) := by decide +kernel
theorem dX2_before_14 : decode cX2_before 14 = .ok (.iconst (-1), 1) := by decide +kernel
theorem dX2_before_15 : decode cX2_before 15 = .ok (.if_icmp .eq 9, 3) := by decide +kernel
theorem dX2_before_18 : decode cX2_before 18 = .ok (.iload 4, 2) := by decide +kernel
theorem dX2_before_20 : decode cX2_before 20 = .ok (.iconst (-1), 1) := by decide +kernel
theorem dX2_before_21 : decode cX2_before 21 = .ok (.if_icmp .ne 13, 3) := by decide +kernel
theorem dX2_before_24 : decode cX2_before 24 = .ok (.new 119, 3) := by decide +kernel
theorem dX2_before_27 : decode cX2_before 27 = .ok (.dup, 1) := by decide +kernel
theorem dX2_before_28 : decode cX2_before 28 = .ok (.ldc 121, 2) := by decide +kernel
theorem dX2_before_30 : decode cX2_before 30 = .ok (.invokespecial 123, 3) := by decide +kernel
theorem dX2_before_33 : decode cX2_before 33 = .ok (.athrow, 1) := by decide +kernel
theorem dX2_before_34 : decode cX2_before 34 = .ok (.iload_n 3, 1) := by decide +kernel
theorem dX2_before_35 : decode cX2_before 35 = .ok (.iload 4, 2) := by decide +kernel
theorem dX2_before_37 : decode cX2_before 37 = .ok (.if_icmp .ge 7, 3) := by decide +kernel
theorem dX2_before_40 : decode cX2_before 40 = .ok (.iconst 1, 1) := by decide +kernel
theorem dX2_before_41 : decode cX2_before 41 = .ok (.goto 4, 3) := by decide +kernel
theorem dX2_before_44 : decode cX2_before 44 = .ok (.iconst 0, 1) := by decide +kernel
theorem dX2_before_45 : decode cX2_before 45 = .ok (.ireturn, 1) := by decide +kernel
theorem dX2_row_0 : decode cX2_row 0 = .ok (.iload_n 1, 1) := by decide +kernel
theorem dX2_row_1 : decode cX2_row 1 = .ok (.ifCond .lt 11, 3) := by decide +kernel
theorem dX2_row_4 : decode cX2_row 4 = .ok (.iload_n 1, 1) := by decide +kernel
theorem dX2_row_5 : decode cX2_row 5 = .ok (.aload_n 0, 1) := by decide +kernel
theorem dX2_row_6 : decode cX2_row 6 = .ok (.getfield 29, 3) := by decide +kernel
theorem dX2_row_9 : decode cX2_row 9 = .ok (.if_icmp .lt 13, 3) := by decide +kernel
theorem dX2_row_12 : decode cX2_row 12 = .ok (.new 91, 3) := by decide +kernel
theorem dX2_row_15 : decode cX2_row 15 = .ok (.dup, 1) := by decide +kernel
theorem dX2_row_16 : decode cX2_row 16 = .ok (.ldc 124, 2) := by decide +kernel
theorem dX2_row_18 : decode cX2_row 18 = .ok (.invokespecial 95, 3) := by decide +kernel
theorem dX2_row_21 : decode cX2_row 21 = .ok (.athrow, 1) := by decide +kernel
theorem dX2_row_22 : decode cX2_row 22 = .ok (.aload_n 0, 1) := by decide +kernel
theorem dX2_row_23 : decode cX2_row 23 = .ok (.getfield 25, 3) := by decide +kernel
theorem dX2_row_26 : decode cX2_row 26 = .ok (.iload_n 1, 1) := by decide +kernel
theorem dX2_row_27 : decode cX2_row 27 = .ok (.aaload, 1) := by decide +kernel
theorem dX2_row_28 : decode cX2_row 28 = .ok (.astore_n 2, 1) := by decide +kernel
theorem dX2_row_29 : decode cX2_row 29 = .ok (.aload_n 2, 1) := by decide +kernel
theorem dX2_row_30 : decode cX2_row 30 = .ok (.invokevirtual 115, 3) := by decide +kernel
theorem dX2_row_33 : decode cX2_row 33 = .ok (.ifCond .eq 10, 3) := by decide +kernel
theorem dX2_row_36 : decode cX2_row 36 = .ok (.aload_n 2, 1) := by decide +kernel
theorem dX2_row_37 : decode cX2_row 37 = .ok (.getfield 98, 3) := by decide +kernel
theorem dX2_row_40 : decode cX2_row 40 = .ok (.goto 8, 3) := by decide +kernel
theorem dX2_row_43 : decode cX2_row 43 = .ok (.aload_n 2, 1) := by decide +kernel
theorem dX2_row_44 : decode cX2_row 44 = .ok (.getfield 98, 3) := by decide +kernel
theorem dX2_row_47 : decode cX2_row 47 = .ok (.ineg, 1) := by decide +kernel
theorem dX2_row_48 : decode cX2_row 48 = .ok (.ireturn, 1) := by decide +kernel
theorem dX2_of_0 : decode cX2_of 0 = .ok (.aload_n 0, 1) := by decide +kernel
theorem dX2_of_1 : decode cX2_of 1 = .ok (.iload_n 1, 1) := by decide +kernel
theorem dX2_of_2 : decode cX2_of 2 = .ok (.invokevirtual 42, 3) := by decide +kernel
theorem dX2_of_5 : decode cX2_of 5 = .ok (.astore_n 3, 1) := by decide +kernel
theorem dX2_of_6 : decode cX2_of 6 = .ok (.aload_n 3, 1) := by decide +kernel
theorem dX2_of_7 : decode cX2_of 7 = .ok (.ifnonnull 13, 3) := by decide +kernel
theorem dX2_of_10 : decode cX2_of 10 = .ok (.new 119, 3) := by decide +kernel
theorem dX2_of_13 : decode cX2_of 13 = .ok (.dup, 1) := by decide +kernel
theorem dX2_of_14 : decode cX2_of 14 = .ok (.ldc 121, 2) := by decide +kernel
theorem dX2_of_16 : decode cX2_of 16 = .ok (.invokespecial 123, 3) := by decide +kernel
theorem dX2_of_19 : decode cX2_of 19 = .ok (.athrow, 1) := by decide +kernel
theorem dX2_of_20 : decode cX2_of 20 = .ok (.iload_n 1, 1) := by decide +kernel
theorem dX2_of_21 : decode cX2_of 21 = .ok (.ifCond .ne 18, 3) := by decide +kernel
theorem dX2_of_24 : decode cX2_of 24 = .ok (.iload_n 2, 1) := by decide +kernel
theorem dX2_of_25 : decode cX2_of 25 = .ok (.iconst 1, 1) := by decide +kernel
theorem dX2_of_26 : decode cX2_of 26 = .ok (.if_icmp .le 13, 3) := by decide +kernel
theorem dX2_of_29 : decode cX2_of 29 = .ok (.new 119, 3) := by decide +kernel
theorem dX2_of_32 : decode cX2_of 32 = .ok (.dup, 1) := by decide +kernel
theorem dX2_of_33 : decode cX2_of 33 = .ok (.ldc 126, 2) := by decide +kernel
theorem dX2_of_35 : decode cX2_of 35 = .ok (.invokespecial 123, 3) := by decide +kernel
theorem dX2_of_38 : decode cX2_of 38 = .ok (.athrow, 1) := by decide +kernel
theorem dX2_of_39 : decode cX2_of 39 = .ok (.iload_n 2, 1) := by decide +kernel
theorem dX2_of_40 : decode cX2_of 40 = .ok (.tableswitch 79 0 6 #[44, 49, 54, 59, 64, 69, 74], 44) := by decide +kernel
theorem dX2_of_84 : decode cX2_of 84 = .ok (.aload_n 3, 1) := by decide +kernel
theorem dX2_of_85 : decode cX2_of 85 = .ok (.getfield 128, 3) := by decide +kernel
theorem dX2_of_88 : decode cX2_of 88 = .ok (.ireturn, 1) := by decide +kernel
theorem dX2_of_89 : decode cX2_of 89 = .ok (.aload_n 3, 1) := by decide +kernel
theorem dX2_of_90 : decode cX2_of 90 = .ok (.getfield 39, 3) := by decide +kernel
theorem dX2_of_93 : decode cX2_of 93 = .ok (.ireturn, 1) := by decide +kernel
theorem dX2_of_94 : decode cX2_of 94 = .ok (.aload_n 3, 1) := by decide +kernel
theorem dX2_of_95 : decode cX2_of 95 = .ok (.getfield 75, 3) := by decide +kernel
theorem dX2_of_98 : decode cX2_of 98 = .ok (.ireturn, 1) := by decide +kernel
theorem dX2_of_99 : decode cX2_of 99 = .ok (.aload_n 3, 1) := by decide +kernel
theorem dX2_of_100 : decode cX2_of 100 = .ok (.getfield 81, 3) := by decide +kernel
theorem dX2_of_103 : decode cX2_of 103 = .ok (.ireturn, 1) := by decide +kernel
theorem dX2_of_104 : decode cX2_of 104 = .ok (.aload_n 3, 1) := by decide +kernel
theorem dX2_of_105 : decode cX2_of 105 = .ok (.getfield 107, 3) := by decide +kernel
theorem dX2_of_108 : decode cX2_of 108 = .ok (.ireturn, 1) := by decide +kernel
theorem dX2_of_109 : decode cX2_of 109 = .ok (.aload_n 3, 1) := by decide +kernel
theorem dX2_of_110 : decode cX2_of 110 = .ok (.getfield 101, 3) := by decide +kernel
theorem dX2_of_113 : decode cX2_of 113 = .ok (.ireturn, 1) := by decide +kernel
theorem dX2_of_114 : decode cX2_of 114 = .ok (.aload_n 3, 1) := by decide +kernel
theorem dX2_of_115 : decode cX2_of 115 = .ok (.getfield 104, 3) := by decide +kernel
theorem dX2_of_118 : decode cX2_of 118 = .ok (.ireturn, 1) := by decide +kernel
theorem dX2_of_119 : decode cX2_of 119 = .ok (.new 119, 3) := by decide +kernel
theorem dX2_of_122 : decode cX2_of 122 = .ok (.dup, 1) := by decide +kernel
theorem dX2_of_123 : decode cX2_of 123 = .ok (.ldc 110, 2) := by decide +kernel
theorem dX2_of_125 : decode cX2_of 125 = .ok (.invokespecial 123, 3) := by decide +kernel
theorem dX2_of_128 : decode cX2_of 128 = .ok (.athrow, 1) := by decide +kernel
theorem dX2_sum_0 : decode cX2_sum 0 = .ok (.lconst 0, 1) := by decide +kernel
theorem dX2_sum_1 : decode cX2_sum 1 = .ok (.lstore_n 3, 1) := by decide +kernel
theorem dX2_sum_2 : decode cX2_sum 2 = .ok (.iconst 0, 1) := by decide +kernel
theorem dX2_sum_3 : decode cX2_sum 3 = .ok (.istore 5, 2) := by decide +kernel
theorem dX2_sum_5 : decode cX2_sum 5 = .ok (.iconst 0, 1) := by decide +kernel
theorem dX2_sum_6 : decode cX2_sum 6 = .ok (.istore 6, 2) := by decide +kernel
theorem dX2_sum_8 : decode cX2_sum 8 = .ok (.iload 6, 2) := by decide +kernel
theorem dX2_sum_10 : decode cX2_sum 10 = .ok (.aload_n 0, 1) := by decide +kernel
theorem dX2_sum_11 : decode cX2_sum 11 = .ok (.getfield 29, 3) := by decide +kernel
theorem dX2_sum_14 : decode cX2_sum 14 = .ok (.if_icmp .ge 62, 3) := by decide +kernel
theorem dX2_sum_17 : decode cX2_sum 17 = .ok (.iload 5, 2) := by decide +kernel
theorem dX2_sum_19 : decode cX2_sum 19 = .ok (.iload_n 2, 1) := by decide +kernel
theorem dX2_sum_20 : decode cX2_sum 20 = .ok (.if_icmp .ge 56, 3) := by decide +kernel
theorem dX2_sum_23 : decode cX2_sum 23 = .ok (.aload_n 0, 1) := by decide +kernel
theorem dX2_sum_24 : decode cX2_sum 24 = .ok (.getfield 25, 3) := by decide +kernel
theorem dX2_sum_27 : decode cX2_sum 27 = .ok (.iload 6, 2) := by decide +kernel
theorem dX2_sum_29 : decode cX2_sum 29 = .ok (.aaload, 1) := by decide +kernel
theorem dX2_sum_30 : decode cX2_sum 30 = .ok (.astore 7, 2) := by decide +kernel
theorem dX2_sum_32 : decode cX2_sum 32 = .ok (.aload 7, 2) := by decide +kernel
theorem dX2_sum_34 : decode cX2_sum 34 = .ok (.invokevirtual 115, 3) := by decide +kernel
theorem dX2_sum_37 : decode cX2_sum 37 = .ok (.ifCond .ne 6, 3) := by decide +kernel
theorem dX2_sum_40 : decode cX2_sum 40 = .ok (.goto 30, 3) := by decide +kernel
theorem dX2_sum_43 : decode cX2_sum 43 = .ok (.iload 5, 2) := by decide +kernel
theorem dX2_sum_45 : decode cX2_sum 45 = .ok (.iload_n 1, 1) := by decide +kernel
theorem dX2_sum_46 : decode cX2_sum 46 = .ok (.if_icmp .lt 21, 3) := by decide +kernel
theorem dX2_sum_49 : decode cX2_sum 49 = .ok (.aload 7, 2) := by decide +kernel
theorem dX2_sum_51 : decode cX2_sum 51 = .ok (.getfield 101, 3) := by decide +kernel
theorem dX2_sum_54 : decode cX2_sum 54 = .ok (.iconst 2, 1) := by decide +kernel
theorem dX2_sum_55 : decode cX2_sum 55 = .ok (.if_icmp .ne 12, 3) := by decide +kernel
theorem dX2_sum_58 : decode cX2_sum 58 = .ok (.lload_n 3, 1) := by decide +kernel
theorem dX2_sum_59 : decode cX2_sum 59 = .ok (.aload 7, 2) := by decide +kernel
theorem dX2_sum_61 : decode cX2_sum 61 = .ok (.getfield 104, 3) := by decide +kernel
theorem dX2_sum_64 : decode cX2_sum 64 = .ok (.i2l, 1) := by decide +kernel
theorem dX2_sum_65 : decode cX2_sum 65 = .ok (.ladd, 1) := by decide +kernel
theorem dX2_sum_66 : decode cX2_sum 66 = .ok (.lstore_n 3, 1) := by decide +kernel
theorem dX2_sum_67 : decode cX2_sum 67 = .ok (.iinc 5 1, 3) := by decide +kernel
theorem dX2_sum_70 : decode cX2_sum 70 = .ok (.iinc 6 1, 3) := by decide +kernel
theorem dX2_sum_73 : decode cX2_sum 73 = .ok (.goto (-65), 3) := by decide +kernel
theorem dX2_sum_76 : decode cX2_sum 76 = .ok (.lload_n 3, 1) := by decide +kernel
theorem dX2_sum_77 : decode cX2_sum 77 = .ok (.lreturn, 1) := by decide +kernel
theorem dX2_look_0 : decode cX2_look 0 = .ok (.iload_n 1, 1) := by decide +kernel
theorem dX2_look_1 : decode cX2_look 1 = .ok (.tableswitch 67 0 4 #[35, 40, 49, 54, 62], 35) := by decide +kernel
theorem dX2_look_36 : decode cX2_look 36 = .ok (.aload_n 0, 1) := by decide +kernel
theorem dX2_look_37 : decode cX2_look 37 = .ok (.getfield 29, 3) := by decide +kernel
theorem dX2_look_40 : decode cX2_look 40 = .ok (.ireturn, 1) := by decide +kernel
theorem dX2_look_41 : decode cX2_look 41 = .ok (.aload_n 0, 1) := by decide +kernel
theorem dX2_look_42 : decode cX2_look 42 = .ok (.aload_n 0, 1) := by decide +kernel
theorem dX2_look_43 : decode cX2_look 43 = .ok (.getfield 29, 3) := by decide +kernel
theorem dX2_look_46 : decode cX2_look 46 = .ok (.invokevirtual 84, 3) := by decide +kernel
theorem dX2_look_49 : decode cX2_look 49 = .ok (.ireturn, 1) := by decide +kernel
theorem dX2_look_50 : decode cX2_look 50 = .ok (.aload_n 0, 1) := by decide +kernel
theorem dX2_look_51 : decode cX2_look 51 = .ok (.getfield 33, 3) := by decide +kernel
theorem dX2_look_54 : decode cX2_look 54 = .ok (.ireturn, 1) := by decide +kernel
theorem dX2_look_55 : decode cX2_look 55 = .ok (.aload_n 0, 1) := by decide +kernel
theorem dX2_look_56 : decode cX2_look 56 = .ok (.getfield 10, 3) := by decide +kernel
theorem dX2_look_59 : decode cX2_look 59 = .ok (.invokevirtual 131, 3) := by decide +kernel
theorem dX2_look_62 : decode cX2_look 62 = .ok (.ireturn, 1) := by decide +kernel
theorem dX2_look_63 : decode cX2_look 63 = .ok (.aload_n 0, 1) := by decide +kernel
theorem dX2_look_64 : decode cX2_look 64 = .ok (.invokevirtual 135, 3) := by decide +kernel
theorem dX2_look_67 : decode cX2_look 67 = .ok (.ireturn, 1) := by decide +kernel
theorem dX2_look_68 : decode cX2_look 68 = .ok (.iconst (-1), 1) := by decide +kernel
theorem dX2_look_69 : decode cX2_look 69 = .ok (.ireturn, 1) := by decide +kernel
theorem dX2_isFree_0 : decode cX2_isFree 0 = .ok (.iload_n 1, 1) := by decide +kernel
theorem dX2_isFree_1 : decode cX2_isFree 1 = .ok (.bipush 8, 2) := by decide +kernel
theorem dX2_isFree_3 : decode cX2_isFree 3 = .ok (.if_icmp .lt 24, 3) := by decide +kernel
theorem dX2_isFree_6 : decode cX2_isFree 6 = .ok (.iload_n 1, 1) := by decide +kernel
theorem dX2_isFree_7 : decode cX2_isFree 7 = .ok (.ldc 138, 2) := by decide +kernel
theorem dX2_isFree_9 : decode cX2_isFree 9 = .ok (.if_icmp .gt 18, 3) := by decide +kernel
theorem dX2_isFree_12 : decode cX2_isFree 12 = .ok (.aload_n 0, 1) := by decide +kernel
theorem dX2_isFree_13 : decode cX2_isFree 13 = .ok (.getfield 10, 3) := by decide +kernel
theorem dX2_isFree_16 : decode cX2_isFree 16 = .ok (.iload_n 1, 1) := by decide +kernel
theorem dX2_isFree_17 : decode cX2_isFree 17 = .ok (.invokevirtual 139, 3) := by decide +kernel
theorem dX2_isFree_20 : decode cX2_isFree 20 = .ok (.ifCond .ne 7, 3) := by decide +kernel
theorem dX2_isFree_23 : decode cX2_isFree 23 = .ok (.iconst 1, 1) := by decide +kernel
theorem dX2_isFree_24 : decode cX2_isFree 24 = .ok (.goto 4, 3) := by decide +kernel
theorem dX2_isFree_27 : decode cX2_isFree 27 = .ok (.iconst 0, 1) := by decide +kernel
theorem dX2_isFree_28 : decode cX2_isFree 28 = .ok (.ireturn, 1) := by decide +kernel
theorem dX2_areFree_0 : decode cX2_areFree 0 = .ok (.iconst 0, 1) := by decide +kernel
theorem dX2_areFree_1 : decode cX2_areFree 1 = .ok (.istore_n 3, 1) := by decide +kernel
theorem dX2_areFree_2 : decode cX2_areFree 2 = .ok (.iload_n 3, 1) := by decide +kernel
theorem dX2_areFree_3 : decode cX2_areFree 3 = .ok (.iload_n 2, 1) := by decide +kernel
theorem dX2_areFree_4 : decode cX2_areFree 4 = .ok (.if_icmp .ge 24, 3) := by decide +kernel
theorem dX2_areFree_7 : decode cX2_areFree 7 = .ok (.aload_n 0, 1) := by decide +kernel
theorem dX2_areFree_8 : decode cX2_areFree 8 = .ok (.iload_n 1, 1) := by decide +kernel
theorem dX2_areFree_9 : decode cX2_areFree 9 = .ok (.bipush 8, 2) := by decide +kernel
theorem dX2_areFree_11 : decode cX2_areFree 11 = .ok (.iload_n 3, 1) := by decide +kernel
theorem dX2_areFree_12 : decode cX2_areFree 12 = .ok (.imul, 1) := by decide +kernel
theorem dX2_areFree_13 : decode cX2_areFree 13 = .ok (.iadd, 1) := by decide +kernel
theorem dX2_areFree_14 : decode cX2_areFree 14 = .ok (.invokevirtual 46, 3) := by decide +kernel
theorem dX2_areFree_17 : decode cX2_areFree 17 = .ok (.ifCond .ne 5, 3) := by decide +kernel
theorem dX2_areFree_20 : decode cX2_areFree 20 = .ok (.iconst 0, 1) := by decide +kernel
theorem dX2_areFree_21 : decode cX2_areFree 21 = .ok (.ireturn, 1) := by decide +kernel
theorem dX2_areFree_22 : decode cX2_areFree 22 = .ok (.iinc 3 1, 3) := by decide +kernel
theorem dX2_areFree_25 : decode cX2_areFree 25 = .ok (.goto (-23), 3) := by decide +kernel
theorem dX2_areFree_28 : decode cX2_areFree 28 = .ok (.iconst 1, 1) := by decide +kernel
theorem dX2_areFree_29 : decode cX2_areFree 29 = .ok (.ireturn, 1) := by decide +kernel
theorem dX2_isKind_0 : decode cX2_isKind 0 = .ok (.iload_n 0, 1) := by decide +kernel
theorem dX2_isKind_1 : decode cX2_isKind 1 = .ok (.ifCond .lt 13, 3) := by decide +kernel
theorem dX2_isKind_4 : decode cX2_isKind 4 = .ok (.iload_n 0, 1) := by decide +kernel
theorem dX2_isKind_5 : decode cX2_isKind 5 = .ok (.bipush 7, 2) := by decide +kernel
theorem dX2_isKind_7 : decode cX2_isKind 7 = .ok (.if_icmp .ge 7, 3) := by decide +kernel
theorem dX2_isKind_10 : decode cX2_isKind 10 = .ok (.iconst 1, 1) := by decide +kernel
theorem dX2_isKind_11 : decode cX2_isKind 11 = .ok (.goto 4, 3) := by decide +kernel
theorem dX2_isKind_14 : decode cX2_isKind 14 = .ok (.iconst 0, 1) := by decide +kernel
theorem dX2_isKind_15 : decode cX2_isKind 15 = .ok (.ireturn, 1) := by decide +kernel
theorem dX2_mayChange_0 : decode cX2_mayChange 0 = .ok (.aload_n 0, 1) := by decide +kernel
theorem dX2_mayChange_1 : decode cX2_mayChange 1 = .ok (.iload_n 1, 1) := by decide +kernel
theorem dX2_mayChange_2 : decode cX2_mayChange 2 = .ok (.invokevirtual 46, 3) := by decide +kernel
theorem dX2_mayChange_5 : decode cX2_mayChange 5 = .ok (.ifCond .eq 22, 3) := by decide +kernel
theorem dX2_mayChange_8 : decode cX2_mayChange 8 = .ok (.iload_n 1, 1) := by decide +kernel
theorem dX2_mayChange_9 : decode cX2_mayChange 9 = .ok (.iload_n 2, 1) := by decide +kernel
theorem dX2_mayChange_10 : decode cX2_mayChange 10 = .ok (.if_icmp .le 17, 3) := by decide +kernel
theorem dX2_mayChange_13 : decode cX2_mayChange 13 = .ok (.aload_n 0, 1) := by decide +kernel
theorem dX2_mayChange_14 : decode cX2_mayChange 14 = .ok (.getfield 33, 3) := by decide +kernel
theorem dX2_mayChange_17 : decode cX2_mayChange 17 = .ok (.sipush 1024, 3) := by decide +kernel
theorem dX2_mayChange_20 : decode cX2_mayChange 20 = .ok (.if_icmp .ge 7, 3) := by decide +kernel
theorem dX2_mayChange_23 : decode cX2_mayChange 23 = .ok (.iconst 1, 1) := by decide +kernel
theorem dX2_mayChange_24 : decode cX2_mayChange 24 = .ok (.goto 4, 3) := by decide +kernel
theorem dX2_mayChange_27 : decode cX2_mayChange 27 = .ok (.iconst 0, 1) := by decide +kernel
theorem dX2_mayChange_28 : decode cX2_mayChange 28 = .ok (.ireturn, 1) := by decide +kernel
theorem dX2_countChange_0 : decode cX2_countChange 0 = .ok (.aload_n 0, 1) := by decide +kernel
theorem dX2_countChange_1 : decode cX2_countChange 1 = .ok (.getfield 10, 3) := by decide +kernel
theorem dX2_countChange_4 : decode cX2_countChange 4 = .ok (.iload_n 1, 1) := by decide +kernel
theorem dX2_countChange_5 : decode cX2_countChange 5 = .ok (.invokevirtual 142, 3) := by decide +kernel
theorem dX2_countChange_8 : decode cX2_countChange 8 = .ok (.aload_n 0, 1) := by decide +kernel
theorem dX2_countChange_9 : decode cX2_countChange 9 = .ok (.dup, 1) := by decide +kernel
theorem dX2_countChange_10 : decode cX2_countChange 10 = .ok (.getfield 33, 3) := by decide +kernel
theorem dX2_countChange_13 : decode cX2_countChange 13 = .ok (.iconst 1, 1) := by decide +kernel
theorem dX2_countChange_14 : decode cX2_countChange 14 = .ok (.iadd, 1) := by decide +kernel
theorem dX2_countChange_15 : decode cX2_countChange 15 = .ok (.putfield 33, 3) := by decide +kernel
theorem dX2_countChange_18 : decode cX2_countChange 18 = .ok (.return_, 1) := by decide +kernel
theorem dX2_byteOf_0 : decode cX2_byteOf 0 = .ok (.lload_n 0, 1) := by decide +kernel
theorem dX2_byteOf_1 : decode cX2_byteOf 1 = .ok (.bipush 8, 2) := by decide +kernel
theorem dX2_byteOf_3 : decode cX2_byteOf 3 = .ok (.iload_n 2, 1) := by decide +kernel
theorem dX2_byteOf_4 : decode cX2_byteOf 4 = .ok (.imul, 1) := by decide +kernel
theorem dX2_byteOf_5 : decode cX2_byteOf 5 = .ok (.lushr, 1) := by decide +kernel
theorem dX2_byteOf_6 : decode cX2_byteOf 6 = .ok (.ldc2_w 145, 3) := by decide +kernel
theorem dX2_byteOf_9 : decode cX2_byteOf 9 = .ok (.land, 1) := by decide +kernel
theorem dX2_byteOf_10 : decode cX2_byteOf 10 = .ok (.l2i, 1) := by decide +kernel
theorem dX2_byteOf_11 : decode cX2_byteOf 11 = .ok (.ireturn, 1) := by decide +kernel
theorem dX2_weave_0 : decode cX2_weave 0 = .ok (.aload_n 0, 1) := by decide +kernel
theorem dX2_weave_1 : decode cX2_weave 1 = .ok (.iload_n 1, 1) := by decide +kernel
theorem dX2_weave_2 : decode cX2_weave 2 = .ok (.aload_n 2, 1) := by decide +kernel
theorem dX2_weave_3 : decode cX2_weave 3 = .ok (.invokevirtual 147, 3) := by decide +kernel
theorem dX2_weave_6 : decode cX2_weave 6 = .ok (.istore 5, 2) := by decide +kernel
theorem dX2_weave_8 : decode cX2_weave 8 = .ok (.aload_n 0, 1) := by decide +kernel
theorem dX2_weave_9 : decode cX2_weave 9 = .ok (.getfield 29, 3) := by decide +kernel
theorem dX2_weave_12 : decode cX2_weave 12 = .ok (.istore 6, 2) := by decide +kernel
theorem dX2_weave_14 : decode cX2_weave 14 = .ok (.iload 6, 2) := by decide +kernel
theorem dX2_weave_16 : decode cX2_weave 16 = .ok (.iload 5, 2) := by decide +kernel
theorem dX2_weave_18 : decode cX2_weave 18 = .ok (.if_icmp .le 25, 3) := by decide +kernel
theorem dX2_weave_21 : decode cX2_weave 21 = .ok (.aload_n 0, 1) := by decide +kernel
theorem dX2_weave_22 : decode cX2_weave 22 = .ok (.getfield 25, 3) := by decide +kernel
theorem dX2_weave_25 : decode cX2_weave 25 = .ok (.iload 6, 2) := by decide +kernel
theorem dX2_weave_27 : decode cX2_weave 27 = .ok (.aload_n 0, 1) := by decide +kernel
theorem dX2_weave_28 : decode cX2_weave 28 = .ok (.getfield 25, 3) := by decide +kernel
theorem dX2_weave_31 : decode cX2_weave 31 = .ok (.iload 6, 2) := by decide +kernel
theorem dX2_weave_33 : decode cX2_weave 33 = .ok (.iconst 1, 1) := by decide +kernel
theorem dX2_weave_34 : decode cX2_weave 34 = .ok (.isub, 1) := by decide +kernel
theorem dX2_weave_35 : decode cX2_weave 35 = .ok (.aaload, 1) := by decide +kernel
theorem dX2_weave_36 : decode cX2_weave 36 = .ok (.aastore, 1) := by decide +kernel
theorem dX2_weave_37 : decode cX2_weave 37 = .ok (.iinc 6 (-1), 3) := by decide +kernel
theorem dX2_weave_40 : decode cX2_weave 40 = .ok (.goto (-26), 3) := by decide +kernel
theorem dX2_weave_43 : decode cX2_weave 43 = .ok (.new 16, 3) := by decide +kernel
theorem dX2_weave_46 : decode cX2_weave 46 = .ok (.dup, 1) := by decide +kernel
theorem dX2_weave_47 : decode cX2_weave 47 = .ok (.iload_n 1, 1) := by decide +kernel
theorem dX2_weave_48 : decode cX2_weave 48 = .ok (.aload_n 2, 1) := by decide +kernel
theorem dX2_weave_49 : decode cX2_weave 49 = .ok (.getfield 98, 3) := by decide +kernel
theorem dX2_weave_52 : decode cX2_weave 52 = .ok (.aload_n 2, 1) := by decide +kernel
theorem dX2_weave_53 : decode cX2_weave 53 = .ok (.getfield 151, 3) := by decide +kernel
theorem dX2_weave_56 : decode cX2_weave 56 = .ok (.iconst 1, 1) := by decide +kernel
theorem dX2_weave_57 : decode cX2_weave 57 = .ok (.iadd, 1) := by decide +kernel
theorem dX2_weave_58 : decode cX2_weave 58 = .ok (.invokespecial 18, 3) := by decide +kernel
theorem dX2_weave_61 : decode cX2_weave 61 = .ok (.astore 6, 2) := by decide +kernel
theorem dX2_weave_63 : decode cX2_weave 63 = .ok (.aload 6, 2) := by decide +kernel
theorem dX2_weave_65 : decode cX2_weave 65 = .ok (.iload_n 1, 1) := by decide +kernel
theorem dX2_weave_66 : decode cX2_weave 66 = .ok (.iload_n 3, 1) := by decide +kernel
theorem dX2_weave_67 : decode cX2_weave 67 = .ok (.iload 4, 2) := by decide +kernel
theorem dX2_weave_69 : decode cX2_weave 69 = .ok (.invokevirtual 78, 3) := by decide +kernel
theorem dX2_weave_72 : decode cX2_weave 72 = .ok (.aload_n 0, 1) := by decide +kernel
theorem dX2_weave_73 : decode cX2_weave 73 = .ok (.getfield 25, 3) := by decide +kernel
theorem dX2_weave_76 : decode cX2_weave 76 = .ok (.iload 5, 2) := by decide +kernel
theorem dX2_weave_78 : decode cX2_weave 78 = .ok (.aload 6, 2) := by decide +kernel
theorem dX2_weave_80 : decode cX2_weave 80 = .ok (.aastore, 1) := by decide +kernel
theorem dX2_weave_81 : decode cX2_weave 81 = .ok (.aload_n 0, 1) := by decide +kernel
theorem dX2_weave_82 : decode cX2_weave 82 = .ok (.dup, 1) := by decide +kernel
theorem dX2_weave_83 : decode cX2_weave 83 = .ok (.getfield 29, 3) := by decide +kernel
theorem dX2_weave_86 : decode cX2_weave 86 = .ok (.iconst 1, 1) := by decide +kernel
theorem dX2_weave_87 : decode cX2_weave 87 = .ok (.iadd, 1) := by decide +kernel
theorem dX2_weave_88 : decode cX2_weave 88 = .ok (.putfield 29, 3) := by decide +kernel
theorem dX2_weave_91 : decode cX2_weave 91 = .ok (.aload_n 2, 1) := by decide +kernel
theorem dX2_weave_92 : decode cX2_weave 92 = .ok (.dup, 1) := by decide +kernel
theorem dX2_weave_93 : decode cX2_weave 93 = .ok (.getfield 39, 3) := by decide +kernel
theorem dX2_weave_96 : decode cX2_weave 96 = .ok (.iconst 1, 1) := by decide +kernel
theorem dX2_weave_97 : decode cX2_weave 97 = .ok (.iadd, 1) := by decide +kernel
theorem dX2_weave_98 : decode cX2_weave 98 = .ok (.putfield 39, 3) := by decide +kernel
theorem dX2_weave_101 : decode cX2_weave 101 = .ok (.aload_n 0, 1) := by decide +kernel
theorem dX2_weave_102 : decode cX2_weave 102 = .ok (.getfield 10, 3) := by decide +kernel
theorem dX2_weave_105 : decode cX2_weave 105 = .ok (.iload_n 1, 1) := by decide +kernel
theorem dX2_weave_106 : decode cX2_weave 106 = .ok (.invokevirtual 142, 3) := by decide +kernel
theorem dX2_weave_109 : decode cX2_weave 109 = .ok (.aload 6, 2) := by decide +kernel
theorem dX2_weave_111 : decode cX2_weave 111 = .ok (.areturn, 1) := by decide +kernel
theorem dX2_rowForNew_0 : decode cX2_rowForNew 0 = .ok (.aload_n 2, 1) := by decide +kernel
theorem dX2_rowForNew_1 : decode cX2_rowForNew 1 = .ok (.getfield 98, 3) := by decide +kernel
theorem dX2_rowForNew_4 : decode cX2_rowForNew 4 = .ok (.ifCond .ne 7, 3) := by decide +kernel
theorem dX2_rowForNew_7 : decode cX2_rowForNew 7 = .ok (.iconst 0, 1) := by decide +kernel
theorem dX2_rowForNew_8 : decode cX2_rowForNew 8 = .ok (.goto 13, 3) := by decide +kernel
theorem dX2_rowForNew_11 : decode cX2_rowForNew 11 = .ok (.aload_n 0, 1) := by decide +kernel
theorem dX2_rowForNew_12 : decode cX2_rowForNew 12 = .ok (.aload_n 2, 1) := by decide +kernel
theorem dX2_rowForNew_13 : decode cX2_rowForNew 13 = .ok (.getfield 98, 3) := by decide +kernel
theorem dX2_rowForNew_16 : decode cX2_rowForNew 16 = .ok (.invokevirtual 112, 3) := by decide +kernel
theorem dX2_rowForNew_19 : decode cX2_rowForNew 19 = .ok (.iconst 1, 1) := by decide +kernel
theorem dX2_rowForNew_20 : decode cX2_rowForNew 20 = .ok (.iadd, 1) := by decide +kernel
theorem dX2_rowForNew_21 : decode cX2_rowForNew 21 = .ok (.istore_n 3, 1) := by decide +kernel
theorem dX2_rowForNew_22 : decode cX2_rowForNew 22 = .ok (.iload_n 3, 1) := by decide +kernel
theorem dX2_rowForNew_23 : decode cX2_rowForNew 23 = .ok (.aload_n 0, 1) := by decide +kernel
theorem dX2_rowForNew_24 : decode cX2_rowForNew 24 = .ok (.getfield 29, 3) := by decide +kernel
theorem dX2_rowForNew_27 : decode cX2_rowForNew 27 = .ok (.if_icmp .ge 22, 3) := by decide +kernel
theorem dX2_rowForNew_30 : decode cX2_rowForNew 30 = .ok (.aload_n 0, 1) := by decide +kernel
theorem dX2_rowForNew_31 : decode cX2_rowForNew 31 = .ok (.getfield 25, 3) := by decide +kernel
theorem dX2_rowForNew_34 : decode cX2_rowForNew 34 = .ok (.iload_n 3, 1) := by decide +kernel
theorem dX2_rowForNew_35 : decode cX2_rowForNew 35 = .ok (.aaload, 1) := by decide +kernel
theorem dX2_rowForNew_36 : decode cX2_rowForNew 36 = .ok (.getfield 98, 3) := by decide +kernel
theorem dX2_rowForNew_39 : decode cX2_rowForNew 39 = .ok (.iload_n 1, 1) := by decide +kernel
theorem dX2_rowForNew_40 : decode cX2_rowForNew 40 = .ok (.if_icmp .le 9, 3) := by decide +kernel
theorem dX2_rowForNew_43 : decode cX2_rowForNew 43 = .ok (.iinc 3 1, 3) := by decide +kernel
theorem dX2_rowForNew_46 : decode cX2_rowForNew 46 = .ok (.goto (-24), 3) := by decide +kernel
theorem dX2_rowForNew_49 : decode cX2_rowForNew 49 = .ok (.iload_n 3, 1) := by decide +kernel
theorem dX2_rowForNew_50 : decode cX2_rowForNew 50 = .ok (.ireturn, 1) := by decide +kernel
theorem dX2_rowOf_0 : decode cX2_rowOf 0 = .ok (.iconst 0, 1) := by decide +kernel
theorem dX2_rowOf_1 : decode cX2_rowOf 1 = .ok (.istore_n 2, 1) := by decide +kernel
theorem dX2_rowOf_2 : decode cX2_rowOf 2 = .ok (.iload_n 2, 1) := by decide +kernel
theorem dX2_rowOf_3 : decode cX2_rowOf 3 = .ok (.aload_n 0, 1) := by decide +kernel
theorem dX2_rowOf_4 : decode cX2_rowOf 4 = .ok (.getfield 29, 3) := by decide +kernel
theorem dX2_rowOf_7 : decode cX2_rowOf 7 = .ok (.if_icmp .ge 24, 3) := by decide +kernel
theorem dX2_rowOf_10 : decode cX2_rowOf 10 = .ok (.aload_n 0, 1) := by decide +kernel
theorem dX2_rowOf_11 : decode cX2_rowOf 11 = .ok (.getfield 25, 3) := by decide +kernel
theorem dX2_rowOf_14 : decode cX2_rowOf 14 = .ok (.iload_n 2, 1) := by decide +kernel
theorem dX2_rowOf_15 : decode cX2_rowOf 15 = .ok (.aaload, 1) := by decide +kernel
theorem dX2_rowOf_16 : decode cX2_rowOf 16 = .ok (.getfield 98, 3) := by decide +kernel
theorem dX2_rowOf_19 : decode cX2_rowOf 19 = .ok (.iload_n 1, 1) := by decide +kernel
theorem dX2_rowOf_20 : decode cX2_rowOf 20 = .ok (.if_icmp .ne 5, 3) := by decide +kernel
theorem dX2_rowOf_23 : decode cX2_rowOf 23 = .ok (.iload_n 2, 1) := by decide +kernel
theorem dX2_rowOf_24 : decode cX2_rowOf 24 = .ok (.ireturn, 1) := by decide +kernel
theorem dX2_rowOf_25 : decode cX2_rowOf 25 = .ok (.iinc 2 1, 3) := by decide +kernel
theorem dX2_rowOf_28 : decode cX2_rowOf 28 = .ok (.goto (-26), 3) := by decide +kernel
theorem dX2_rowOf_31 : decode cX2_rowOf 31 = .ok (.iconst (-1), 1) := by decide +kernel
theorem dX2_rowOf_32 : decode cX2_rowOf 32 = .ok (.ireturn, 1) := by decide +kernel
theorem dX2_elementOf_0 : decode cX2_elementOf 0 = .ok (.aload_n 0, 1) := by decide +kernel
theorem dX2_elementOf_1 : decode cX2_elementOf 1 = .ok (.iload_n 1, 1) := by decide +kernel
theorem dX2_elementOf_2 : decode cX2_elementOf 2 = .ok (.invokevirtual 112, 3) := by decide +kernel
theorem dX2_elementOf_5 : decode cX2_elementOf 5 = .ok (.istore_n 2, 1) := by decide +kernel
theorem dX2_elementOf_6 : decode cX2_elementOf 6 = .ok (.iload_n 2, 1) := by decide +kernel
theorem dX2_elementOf_7 : decode cX2_elementOf 7 = .ok (.iconst (-1), 1) := by decide +kernel
theorem dX2_elementOf_8 : decode cX2_elementOf 8 = .ok (.if_icmp .ne 7, 3) := by decide +kernel
theorem dX2_elementOf_11 : decode cX2_elementOf 11 = .ok (.aconst_null, 1) := by decide +kernel
theorem dX2_elementOf_12 : decode cX2_elementOf 12 = .ok (.goto 9, 3) := by decide +kernel
theorem dX2_elementOf_15 : decode cX2_elementOf 15 = .ok (.aload_n 0, 1) := by decide +kernel
theorem dX2_elementOf_16 : decode cX2_elementOf 16 = .ok (.getfield 25, 3) := by decide +kernel
theorem dX2_elementOf_19 : decode cX2_elementOf 19 = .ok (.iload_n 2, 1) := by decide +kernel
theorem dX2_elementOf_20 : decode cX2_elementOf 20 = .ok (.aaload, 1) := by decide +kernel
theorem dX2_elementOf_21 : decode cX2_elementOf 21 = .ok (.areturn, 1) := by decide +kernel
theorem dX2_elementOrBeginning_0 : decode cX2_elementOrBeginning 0 = .ok (.iload_n 1, 1) := by decide +kernel
theorem dX2_elementOrBeginning_1 : decode cX2_elementOrBeginning 1 = .ok (.ifCond .ne 10, 3) := by decide +kernel
theorem dX2_elementOrBeginning_4 : decode cX2_elementOrBeginning 4 = .ok (.aload_n 0, 1) := by decide +kernel
theorem dX2_elementOrBeginning_5 : decode cX2_elementOrBeginning 5 = .ok (.getfield 21, 3) := by decide +kernel
theorem dX2_elementOrBeginning_8 : decode cX2_elementOrBeginning 8 = .ok (.goto 8, 3) := by decide +kernel
theorem dX2_elementOrBeginning_11 : decode cX2_elementOrBeginning 11 = .ok (.aload_n 0, 1) := by decide +kernel
theorem dX2_elementOrBeginning_12 : decode cX2_elementOrBeginning 12 = .ok (.iload_n 1, 1) := by decide +kernel
theorem dX2_elementOrBeginning_13 : decode cX2_elementOrBeginning 13 = .ok (.invokevirtual 65, 3) := by decide +kernel
theorem dX2_elementOrBeginning_16 : decode cX2_elementOrBeginning 16 = .ok (.areturn, 1) := by decide +kernel
theorem dX2_elementAt_0 : decode cX2_elementAt 0 = .ok (.iconst 0, 1) := by decide +kernel
theorem dX2_elementAt_1 : decode cX2_elementAt 1 = .ok (.istore_n 2, 1) := by decide +kernel
theorem dX2_elementAt_2 : decode cX2_elementAt 2 = .ok (.iconst 0, 1) := by decide +kernel
theorem dX2_elementAt_3 : decode cX2_elementAt 3 = .ok (.istore_n 3, 1) := by decide +kernel
theorem dX2_elementAt_4 : decode cX2_elementAt 4 = .ok (.iload_n 3, 1) := by decide +kernel
theorem dX2_elementAt_5 : decode cX2_elementAt 5 = .ok (.aload_n 0, 1) := by decide +kernel
theorem dX2_elementAt_6 : decode cX2_elementAt 6 = .ok (.getfield 29, 3) := by decide +kernel
theorem dX2_elementAt_9 : decode cX2_elementAt 9 = .ok (.if_icmp .ge 39, 3) := by decide +kernel
theorem dX2_elementAt_12 : decode cX2_elementAt 12 = .ok (.aload_n 0, 1) := by decide +kernel
theorem dX2_elementAt_13 : decode cX2_elementAt 13 = .ok (.getfield 25, 3) := by decide +kernel
theorem dX2_elementAt_16 : decode cX2_elementAt 16 = .ok (.iload_n 3, 1) := by decide +kernel
theorem dX2_elementAt_17 : decode cX2_elementAt 17 = .ok (.aaload, 1) := by decide +kernel
theorem dX2_elementAt_18 : decode cX2_elementAt 18 = .ok (.invokevirtual 115, 3) := by decide +kernel
theorem dX2_elementAt_21 : decode cX2_elementAt 21 = .ok (.ifCond .ne 6, 3) := by decide +kernel
theorem dX2_elementAt_24 : decode cX2_elementAt 24 = .ok (.goto 18, 3) := by decide +kernel
theorem dX2_elementAt_27 : decode cX2_elementAt 27 = .ok (.iload_n 2, 1) := by decide +kernel
theorem dX2_elementAt_28 : decode cX2_elementAt 28 = .ok (.iload_n 1, 1) := by decide +kernel
theorem dX2_elementAt_29 : decode cX2_elementAt 29 = .ok (.if_icmp .ne 10, 3) := by decide +kernel
theorem dX2_elementAt_32 : decode cX2_elementAt 32 = .ok (.aload_n 0, 1) := by decide +kernel
theorem dX2_elementAt_33 : decode cX2_elementAt 33 = .ok (.getfield 25, 3) := by decide +kernel
theorem dX2_elementAt_36 : decode cX2_elementAt 36 = .ok (.iload_n 3, 1) := by decide +kernel
theorem dX2_elementAt_37 : decode cX2_elementAt 37 = .ok (.aaload, 1) := by decide +kernel
theorem dX2_elementAt_38 : decode cX2_elementAt 38 = .ok (.areturn, 1) := by decide +kernel
theorem dX2_elementAt_39 : decode cX2_elementAt 39 = .ok (.iinc 2 1, 3) := by decide +kernel
theorem dX2_elementAt_42 : decode cX2_elementAt 42 = .ok (.iinc 3 1, 3) := by decide +kernel
theorem dX2_elementAt_45 : decode cX2_elementAt 45 = .ok (.goto (-41), 3) := by decide +kernel
theorem dX2_elementAt_48 : decode cX2_elementAt 48 = .ok (.aconst_null, 1) := by decide +kernel
theorem dX2_elementAt_49 : decode cX2_elementAt 49 = .ok (.areturn, 1) := by decide +kernel
theorem dX2_visibleUpTo_0 : decode cX2_visibleUpTo 0 = .ok (.iconst 0, 1) := by decide +kernel
theorem dX2_visibleUpTo_1 : decode cX2_visibleUpTo 1 = .ok (.istore_n 2, 1) := by decide +kernel
theorem dX2_visibleUpTo_2 : decode cX2_visibleUpTo 2 = .ok (.iconst 0, 1) := by decide +kernel
theorem dX2_visibleUpTo_3 : decode cX2_visibleUpTo 3 = .ok (.istore_n 3, 1) := by decide +kernel
theorem dX2_visibleUpTo_4 : decode cX2_visibleUpTo 4 = .ok (.iload_n 3, 1) := by decide +kernel
theorem dX2_visibleUpTo_5 : decode cX2_visibleUpTo 5 = .ok (.iload_n 1, 1) := by decide +kernel
theorem dX2_visibleUpTo_6 : decode cX2_visibleUpTo 6 = .ok (.if_icmp .ge 24, 3) := by decide +kernel
theorem dX2_visibleUpTo_9 : decode cX2_visibleUpTo 9 = .ok (.aload_n 0, 1) := by decide +kernel
theorem dX2_visibleUpTo_10 : decode cX2_visibleUpTo 10 = .ok (.getfield 25, 3) := by decide +kernel
theorem dX2_visibleUpTo_13 : decode cX2_visibleUpTo 13 = .ok (.iload_n 3, 1) := by decide +kernel
theorem dX2_visibleUpTo_14 : decode cX2_visibleUpTo 14 = .ok (.aaload, 1) := by decide +kernel
theorem dX2_visibleUpTo_15 : decode cX2_visibleUpTo 15 = .ok (.invokevirtual 115, 3) := by decide +kernel
theorem dX2_visibleUpTo_18 : decode cX2_visibleUpTo 18 = .ok (.ifCond .eq 6, 3) := by decide +kernel
theorem dX2_visibleUpTo_21 : decode cX2_visibleUpTo 21 = .ok (.iinc 2 1, 3) := by decide +kernel
theorem dX2_visibleUpTo_24 : decode cX2_visibleUpTo 24 = .ok (.iinc 3 1, 3) := by decide +kernel
theorem dX2_visibleUpTo_27 : decode cX2_visibleUpTo 27 = .ok (.goto (-23), 3) := by decide +kernel
theorem dX2_visibleUpTo_30 : decode cX2_visibleUpTo 30 = .ok (.iload_n 2, 1) := by decide +kernel
theorem dX2_visibleUpTo_31 : decode cX2_visibleUpTo 31 = .ok (.ireturn, 1) := by decide +kernel
theorem dX2_longestWay_0 : decode cX2_longestWay 0 = .ok (.iconst 0, 1) := by decide +kernel
theorem dX2_longestWay_1 : decode cX2_longestWay 1 = .ok (.istore_n 1, 1) := by decide +kernel
theorem dX2_longestWay_2 : decode cX2_longestWay 2 = .ok (.iconst 0, 1) := by decide +kernel
theorem dX2_longestWay_3 : decode cX2_longestWay 3 = .ok (.istore_n 2, 1) := by decide +kernel
theorem dX2_longestWay_4 : decode cX2_longestWay 4 = .ok (.iload_n 2, 1) := by decide +kernel
theorem dX2_longestWay_5 : decode cX2_longestWay 5 = .ok (.aload_n 0, 1) := by decide +kernel
theorem dX2_longestWay_6 : decode cX2_longestWay 6 = .ok (.getfield 29, 3) := by decide +kernel
theorem dX2_longestWay_9 : decode cX2_longestWay 9 = .ok (.if_icmp .ge 23, 3) := by decide +kernel
theorem dX2_longestWay_12 : decode cX2_longestWay 12 = .ok (.iload_n 1, 1) := by decide +kernel
theorem dX2_longestWay_13 : decode cX2_longestWay 13 = .ok (.aload_n 0, 1) := by decide +kernel
theorem dX2_longestWay_14 : decode cX2_longestWay 14 = .ok (.getfield 25, 3) := by decide +kernel
theorem dX2_longestWay_17 : decode cX2_longestWay 17 = .ok (.iload_n 2, 1) := by decide +kernel
theorem dX2_longestWay_18 : decode cX2_longestWay 18 = .ok (.aaload, 1) := by decide +kernel
theorem dX2_longestWay_19 : decode cX2_longestWay 19 = .ok (.getfield 151, 3) := by decide +kernel
theorem dX2_longestWay_22 : decode cX2_longestWay 22 = .ok (.invokestatic 154, 3) := by decide +kernel
theorem dX2_longestWay_25 : decode cX2_longestWay 25 = .ok (.istore_n 1, 1) := by decide +kernel
theorem dX2_longestWay_26 : decode cX2_longestWay 26 = .ok (.iinc 2 1, 3) := by decide +kernel
theorem dX2_longestWay_29 : decode cX2_longestWay 29 = .ok (.goto (-25), 3) := by decide +kernel
theorem dX2_longestWay_32 : decode cX2_longestWay 32 = .ok (.iload_n 1, 1) := by decide +kernel
theorem dX2_longestWay_33 : decode cX2_longestWay 33 = .ok (.ireturn, 1) := by decide +kernel
