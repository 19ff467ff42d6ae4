theorem dX0_init_0 : decode cX0_init 0 = .ok (.aload_n 0, 1) := by decide +kernel
theorem dX0_init_1 : decode cX0_init 1 = .ok (.invokespecial 3, 3) := by decide +kernel
theorem dX0_init_4 : decode cX0_init 4 = .ok (.aload_n 0, 1) := by decide +kernel
theorem dX0_init_5 : decode cX0_init 5 = .ok (.bipush 14, 2) := by decide +kernel
theorem dX0_init_7 : decode cX0_init 7 = .ok (.anewarray 9, 3) := by decide +kernel
theorem dX0_init_10 : decode cX0_init 10 = .ok (.putfield 11, 3) := by decide +kernel
theorem dX0_init_13 : decode cX0_init 13 = .ok (.iconst 0, 1) := by decide +kernel
theorem dX0_init_14 : decode cX0_init 14 = .ok (.istore_n 1, 1) := by decide +kernel
theorem dX0_init_15 : decode cX0_init 15 = .ok (.iload_n 1, 1) := by decide +kernel
theorem dX0_init_16 : decode cX0_init 16 = .ok (.bipush 14, 2) := by decide +kernel
theorem dX0_init_18 : decode cX0_init 18 = .ok (.if_icmp .ge 22, 3) := by decide +kernel
theorem dX0_init_21 : decode cX0_init 21 = .ok (.aload_n 0, 1) := by decide +kernel
theorem dX0_init_22 : decode cX0_init 22 = .ok (.getfield 11, 3) := by decide +kernel
theorem dX0_init_25 : decode cX0_init 25 = .ok (.iload_n 1, 1) := by decide +kernel
theorem dX0_init_26 : decode cX0_init 26 = .ok (.new 9, 3) := by decide +kernel
theorem dX0_init_29 : decode cX0_init 29 = .ok (.dup, 1) := by decide +kernel
theorem dX0_init_30 : decode cX0_init 30 = .ok (.invokespecial 17, 3) := by decide +kernel
theorem dX0_init_33 : decode cX0_init 33 = .ok (.aastore, 1) := by decide +kernel
theorem dX0_init_34 : decode cX0_init 34 = .ok (.iinc 1 1, 3) := by decide +kernel
theorem dX0_init_37 : decode cX0_init 37 = .ok (.goto (-22), 3) := by decide +kernel
theorem dX0_init_40 : decode cX0_init 40 = .ok (.return_, 1) := by decide +kernel
theorem dX0_remember_0 : decode cX0_remember 0 = .ok (.aload_n 0, 1) := by decide +kernel
theorem dX0_remember_1 : decode cX0_remember 1 = .ok (.getfield 18, 3) := by decide +kernel
theorem dX0_remember_4 : decode cX0_remember 4 = .ok (.aload_n 0, 1) := by decide +kernel
theorem dX0_remember_5 : decode cX0_remember 5 = .ok (.getfield 11, 3) := by decide +kernel
theorem dX0_remember_8 : decode cX0_remember 8 = .ok (.arraylength, 1) := by decide +kernel
theorem dX0_remember_9 : decode cX0_remember 9 = .ok (.invokestatic 22, 3) := by decide +kernel
theorem dX0_remember_12 : decode cX0_remember 12 = .ok (.ifCond .eq 15, 3) := by decide +kernel
theorem dX0_remember_15 : decode cX0_remember 15 = .ok (.aload_n 0, 1) := by decide +kernel
theorem dX0_remember_16 : decode cX0_remember 16 = .ok (.getfield 11, 3) := by decide +kernel
theorem dX0_remember_19 : decode cX0_remember 19 = .ok (.aload_n 0, 1) := by decide +kernel
theorem dX0_remember_20 : decode cX0_remember 20 = .ok (.getfield 18, 3) := by decide +kernel
theorem dX0_remember_23 : decode cX0_remember 23 = .ok (.aaload, 1) := by decide +kernel
theorem dX0_remember_24 : decode cX0_remember 24 = .ok (.goto 4, 3) := by decide +kernel
theorem dX0_remember_27 : decode cX0_remember 27 = .ok (.aconst_null, 1) := by decide +kernel
theorem dX0_remember_28 : decode cX0_remember 28 = .ok (.astore_n 2, 1) := by decide +kernel
theorem dX0_remember_29 : decode cX0_remember 29 = .ok (.aload_n 2, 1) := by decide +kernel
theorem dX0_remember_30 : decode cX0_remember 30 = .ok (.ifnull 36, 3) := by decide +kernel
theorem dX0_remember_33 : decode cX0_remember 33 = .ok (.aload_n 2, 1) := by decide +kernel
theorem dX0_remember_34 : decode cX0_remember 34 = .ok (.aload_n 1, 1) := by decide +kernel
theorem dX0_remember_35 : decode cX0_remember 35 = .ok (.invokevirtual 26, 3) := by decide +kernel
theorem dX0_remember_38 : decode cX0_remember 38 = .ok (.aload_n 0, 1) := by decide +kernel
theorem dX0_remember_39 : decode cX0_remember 39 = .ok (.aload_n 0, 1) := by decide +kernel
theorem dX0_remember_40 : decode cX0_remember 40 = .ok (.getfield 18, 3) := by decide +kernel
theorem dX0_remember_43 : decode cX0_remember 43 = .ok (.iconst 1, 1) := by decide +kernel
theorem dX0_remember_44 : decode cX0_remember 44 = .ok (.iadd, 1) := by decide +kernel
theorem dX0_remember_45 : decode cX0_remember 45 = .ok (.bipush 14, 2) := by decide +kernel
theorem dX0_remember_47 : decode cX0_remember 47 = .ok (.irem, 1) := by decide +kernel
theorem dX0_remember_48 : decode cX0_remember 48 = .ok (.putfield 18, 3) := by decide +kernel
theorem dX0_remember_51 : decode cX0_remember 51 = .ok (.aload_n 0, 1) := by decide +kernel
theorem dX0_remember_52 : decode cX0_remember 52 = .ok (.aload_n 0, 1) := by decide +kernel
theorem dX0_remember_53 : decode cX0_remember 53 = .ok (.getfield 30, 3) := by decide +kernel
theorem dX0_remember_56 : decode cX0_remember 56 = .ok (.iconst 1, 1) := by decide +kernel
theorem dX0_remember_57 : decode cX0_remember 57 = .ok (.iadd, 1) := by decide +kernel
theorem dX0_remember_58 : decode cX0_remember 58 = .ok (.bipush 14, 2) := by decide +kernel
theorem dX0_remember_60 : decode cX0_remember 60 = .ok (.invokestatic 33, 3) := by decide +kernel
theorem dX0_remember_63 : decode cX0_remember 63 = .ok (.putfield 30, 3) := by decide +kernel
theorem dX0_remember_66 : decode cX0_remember 66 = .ok (.return_, 1) := by decide +kernel
theorem dX0_takeBack_0 : decode cX0_takeBack 0 = .ok (.aload_n 0, 1) := by decide +kernel
theorem dX0_takeBack_1 : decode cX0_takeBack 1 = .ok (.getfield 18, 3) := by decide +kernel
theorem dX0_takeBack_4 : decode cX0_takeBack 4 = .ok (.bipush 14, 2) := by decide +kernel
theorem dX0_takeBack_6 : decode cX0_takeBack 6 = .ok (.iadd, 1) := by decide +kernel
theorem dX0_takeBack_7 : decode cX0_takeBack 7 = .ok (.iconst 1, 1) := by decide +kernel
theorem dX0_takeBack_8 : decode cX0_takeBack 8 = .ok (.isub, 1) := by decide +kernel
theorem dX0_takeBack_9 : decode cX0_takeBack 9 = .ok (.bipush 14, 2) := by decide +kernel
theorem dX0_takeBack_11 : decode cX0_takeBack 11 = .ok (.irem, 1) := by decide +kernel
theorem dX0_takeBack_12 : decode cX0_takeBack 12 = .ok (.istore_n 2, 1) := by decide +kernel
theorem dX0_takeBack_13 : decode cX0_takeBack 13 = .ok (.iload_n 2, 1) := by decide +kernel
theorem dX0_takeBack_14 : decode cX0_takeBack 14 = .ok (.aload_n 0, 1) := by decide +kernel
theorem dX0_takeBack_15 : decode cX0_takeBack 15 = .ok (.getfield 11, 3) := by decide +kernel
theorem dX0_takeBack_18 : decode cX0_takeBack 18 = .ok (.arraylength, 1) := by decide +kernel
theorem dX0_takeBack_19 : decode cX0_takeBack 19 = .ok (.invokestatic 22, 3) := by decide +kernel
theorem dX0_takeBack_22 : decode cX0_takeBack 22 = .ok (.ifCond .eq 12, 3) := by decide +kernel
theorem dX0_takeBack_25 : decode cX0_takeBack 25 = .ok (.aload_n 0, 1) := by decide +kernel
theorem dX0_takeBack_26 : decode cX0_takeBack 26 = .ok (.getfield 11, 3) := by decide +kernel
theorem dX0_takeBack_29 : decode cX0_takeBack 29 = .ok (.iload_n 2, 1) := by decide +kernel
theorem dX0_takeBack_30 : decode cX0_takeBack 30 = .ok (.aaload, 1) := by decide +kernel
theorem dX0_takeBack_31 : decode cX0_takeBack 31 = .ok (.goto 4, 3) := by decide +kernel
theorem dX0_takeBack_34 : decode cX0_takeBack 34 = .ok (.aconst_null, 1) := by decide +kernel
theorem dX0_takeBack_35 : decode cX0_takeBack 35 = .ok (.astore_n 3, 1) := by decide +kernel
theorem dX0_takeBack_36 : decode cX0_takeBack 36 = .ok (.aload_n 0, 1) := by decide +kernel
theorem dX0_takeBack_37 : decode cX0_takeBack 37 = .ok (.getfield 30, 3) := by decide +kernel
theorem dX0_takeBack_40 : decode cX0_takeBack 40 = .ok (.iconst 1, 1) := by decide +kernel
theorem dX0_takeBack_41 : decode cX0_takeBack 41 = .ok (.if_icmp .lt 7, 3) := by decide +kernel
theorem dX0_takeBack_44 : decode cX0_takeBack 44 = .ok (.aload_n 3, 1) := by decide +kernel
theorem dX0_takeBack_45 : decode cX0_takeBack 45 = .ok (.ifnonnull 5, 3) := by decide +kernel
theorem dX0_takeBack_48 : decode cX0_takeBack 48 = .ok (.iconst 0, 1) := by decide +kernel
theorem dX0_takeBack_49 : decode cX0_takeBack 49 = .ok (.ireturn, 1) := by decide +kernel
theorem dX0_takeBack_50 : decode cX0_takeBack 50 = .ok (.aload_n 1, 1) := by decide +kernel
theorem dX0_takeBack_51 : decode cX0_takeBack 51 = .ok (.aload_n 3, 1) := by decide +kernel
theorem dX0_takeBack_52 : decode cX0_takeBack 52 = .ok (.invokevirtual 26, 3) := by decide +kernel
theorem dX0_takeBack_55 : decode cX0_takeBack 55 = .ok (.aload_n 0, 1) := by decide +kernel
theorem dX0_takeBack_56 : decode cX0_takeBack 56 = .ok (.iload_n 2, 1) := by decide +kernel
theorem dX0_takeBack_57 : decode cX0_takeBack 57 = .ok (.putfield 18, 3) := by decide +kernel
theorem dX0_takeBack_60 : decode cX0_takeBack 60 = .ok (.aload_n 0, 1) := by decide +kernel
theorem dX0_takeBack_61 : decode cX0_takeBack 61 = .ok (.dup, 1) := by decide +kernel
theorem dX0_takeBack_62 : decode cX0_takeBack 62 = .ok (.getfield 30, 3) := by decide +kernel
theorem dX0_takeBack_65 : decode cX0_takeBack 65 = .ok (.iconst 1, 1) := by decide +kernel
theorem dX0_takeBack_66 : decode cX0_takeBack 66 = .ok (.isub, 1) := by decide +kernel
theorem dX0_takeBack_67 : decode cX0_takeBack 67 = .ok (.putfield 30, 3) := by decide +kernel
theorem dX0_takeBack_70 : decode cX0_takeBack 70 = .ok (.iconst 1, 1) := by decide +kernel
theorem dX0_takeBack_71 : decode cX0_takeBack 71 = .ok (.ireturn, 1) := by decide +kernel
theorem dX1_init_0 : decode cX1_init 0 = .ok (.aload_n 0, 1) := by decide +kernel
theorem dX1_init_1 : decode cX1_init 1 = .ok (.invokespecial 1, 3) := by decide +kernel
theorem dX1_init_4 : decode cX1_init 4 = .ok (.return_, 1) := by decide +kernel
theorem dX1_start_0 : decode cX1_start 0 = .ok (.aload_n 0, 1) := by decide +kernel
theorem dX1_start_1 : decode cX1_start 1 = .ok (.iload_n 1, 1) := by decide +kernel
theorem dX1_start_2 : decode cX1_start 2 = .ok (.putfield 7, 3) := by decide +kernel
theorem dX1_start_5 : decode cX1_start 5 = .ok (.aload_n 0, 1) := by decide +kernel
theorem dX1_start_6 : decode cX1_start 6 = .ok (.iload_n 2, 1) := by decide +kernel
theorem dX1_start_7 : decode cX1_start 7 = .ok (.putfield 13, 3) := by decide +kernel
theorem dX1_start_10 : decode cX1_start 10 = .ok (.return_, 1) := by decide +kernel
theorem dX1_offer_0 : decode cX1_offer 0 = .ok (.iload_n 1, 1) := by decide +kernel
theorem dX1_offer_1 : decode cX1_offer 1 = .ok (.aload_n 0, 1) := by decide +kernel
theorem dX1_offer_2 : decode cX1_offer 2 = .ok (.getfield 7, 3) := by decide +kernel
theorem dX1_offer_5 : decode cX1_offer 5 = .ok (.if_icmp .le 9, 3) := by decide +kernel
theorem dX1_offer_8 : decode cX1_offer 8 = .ok (.aload_n 0, 1) := by decide +kernel
theorem dX1_offer_9 : decode cX1_offer 9 = .ok (.iload_n 1, 1) := by decide +kernel
theorem dX1_offer_10 : decode cX1_offer 10 = .ok (.iload_n 2, 1) := by decide +kernel
theorem dX1_offer_11 : decode cX1_offer 11 = .ok (.invokevirtual 16, 3) := by decide +kernel
theorem dX1_offer_14 : decode cX1_offer 14 = .ok (.return_, 1) := by decide +kernel
theorem dX2_init_0 : decode cX2_init 0 = .ok (.aload_n 0, 1) := by decide +kernel
theorem dX2_init_1 : decode cX2_init 1 = .ok (.invokespecial 3, 3) := by decide +kernel
theorem dX2_init_4 : decode cX2_init 4 = .ok (.aload_n 0, 1) := by decide +kernel
theorem dX2_init_5 : decode cX2_init 5 = .ok (.bipush 6, 2) := by decide +kernel
theorem dX2_init_7 : decode cX2_init 7 = .ok (.newarray .int, 2) := by decide +kernel
theorem dX2_init_9 : decode cX2_init 9 = .ok (.putfield 9, 3) := by decide +kernel
theorem dX2_init_12 : decode cX2_init 12 = .ok (.aload_n 0, 1) := by decide +kernel
theorem dX2_init_13 : decode cX2_init 13 = .ok (.bipush 6, 2) := by decide +kernel
theorem dX2_init_15 : decode cX2_init 15 = .ok (.newarray .int, 2) := by decide +kernel
theorem dX2_init_17 : decode cX2_init 17 = .ok (.putfield 15, 3) := by decide +kernel
theorem dX2_init_20 : decode cX2_init 20 = .ok (.aload_n 0, 1) := by decide +kernel
theorem dX2_init_21 : decode cX2_init 21 = .ok (.bipush 6, 2) := by decide +kernel
theorem dX2_init_23 : decode cX2_init 23 = .ok (.newarray .int, 2) := by decide +kernel
theorem dX2_init_25 : decode cX2_init 25 = .ok (.putfield 18, 3) := by decide +kernel
theorem dX2_init_28 : decode cX2_init 28 = .ok (.aload_n 0, 1) := by decide +kernel
theorem dX2_init_29 : decode cX2_init 29 = .ok (.bipush 6, 2) := by decide +kernel
theorem dX2_init_31 : decode cX2_init 31 = .ok (.newarray .boolean, 2) := by decide +kernel
theorem dX2_init_33 : decode cX2_init 33 = .ok (.putfield 21, 3) := by decide +kernel
theorem dX2_init_36 : decode cX2_init 36 = .ok (.return_, 1) := by decide +kernel
theorem dX2_append_0 : decode cX2_append 0 = .ok (.aload_n 0, 1) := by decide +kernel
theorem dX2_append_1 : decode cX2_append 1 = .ok (.getfield 25, 3) := by decide +kernel
theorem dX2_append_4 : decode cX2_append 4 = .ok (.bipush 6, 2) := by decide +kernel
theorem dX2_append_6 : decode cX2_append 6 = .ok (.invokestatic 29, 3) := by decide +kernel
theorem dX2_append_9 : decode cX2_append 9 = .ok (.ifCond .ne 6, 3) := by decide +kernel
theorem dX2_append_12 : decode cX2_append 12 = .ok (.bipush (-4), 2) := by decide +kernel
theorem dX2_append_14 : decode cX2_append 14 = .ok (.ireturn, 1) := by decide +kernel
theorem dX2_append_15 : decode cX2_append 15 = .ok (.aload_n 0, 1) := by decide +kernel
theorem dX2_append_16 : decode cX2_append 16 = .ok (.getfield 9, 3) := by decide +kernel
theorem dX2_append_19 : decode cX2_append 19 = .ok (.aload_n 0, 1) := by decide +kernel
theorem dX2_append_20 : decode cX2_append 20 = .ok (.getfield 25, 3) := by decide +kernel
theorem dX2_append_23 : decode cX2_append 23 = .ok (.iload_n 1, 1) := by decide +kernel
theorem dX2_append_24 : decode cX2_append 24 = .ok (.iastore, 1) := by decide +kernel
theorem dX2_append_25 : decode cX2_append 25 = .ok (.aload_n 0, 1) := by decide +kernel
theorem dX2_append_26 : decode cX2_append 26 = .ok (.getfield 15, 3) := by decide +kernel
theorem dX2_append_29 : decode cX2_append 29 = .ok (.aload_n 0, 1) := by decide +kernel
theorem dX2_append_30 : decode cX2_append 30 = .ok (.getfield 25, 3) := by decide +kernel
theorem dX2_append_33 : decode cX2_append 33 = .ok (.iload_n 2, 1) := by decide +kernel
theorem dX2_append_34 : decode cX2_append 34 = .ok (.iastore, 1) := by decide +kernel
theorem dX2_append_35 : decode cX2_append 35 = .ok (.aload_n 0, 1) := by decide +kernel
theorem dX2_append_36 : decode cX2_append 36 = .ok (.getfield 18, 3) := by decide +kernel
theorem dX2_append_39 : decode cX2_append 39 = .ok (.aload_n 0, 1) := by decide +kernel
theorem dX2_append_40 : decode cX2_append 40 = .ok (.getfield 25, 3) := by decide +kernel
theorem dX2_append_43 : decode cX2_append 43 = .ok (.iload_n 3, 1) := by decide +kernel
theorem dX2_append_44 : decode cX2_append 44 = .ok (.iastore, 1) := by decide +kernel
theorem dX2_append_45 : decode cX2_append 45 = .ok (.aload_n 0, 1) := by decide +kernel
theorem dX2_append_46 : decode cX2_append 46 = .ok (.getfield 21, 3) := by decide +kernel
theorem dX2_append_49 : decode cX2_append 49 = .ok (.aload_n 0, 1) := by decide +kernel
theorem dX2_append_50 : decode cX2_append 50 = .ok (.getfield 25, 3) := by decide +kernel
theorem dX2_append_53 : decode cX2_append 53 = .ok (.iload 4, 2) := by decide +kernel
theorem dX2_append_55 : decode cX2_append 55 = .ok (.bastore, 1) := by decide +kernel
theorem dX2_append_56 : decode cX2_append 56 = .ok (.aload_n 0, 1) := by decide +kernel
theorem dX2_append_57 : decode cX2_append 57 = .ok (.dup, 1) := by decide +kernel
theorem dX2_append_58 : decode cX2_append 58 = .ok (.getfield 25, 3) := by decide +kernel
theorem dX2_append_61 : decode cX2_append 61 = .ok (.iconst 1, 1) := by decide +kernel
theorem dX2_append_62 : decode cX2_append 62 = .ok (.iadd, 1) := by decide +kernel
theorem dX2_append_63 : decode cX2_append 63 = .ok (.putfield 25, 3) := by decide +kernel
theorem dX2_append_66 : decode cX2_append 66 = .ok (.aload_n 0, 1) := by decide +kernel
theorem dX2_append_67 : decode cX2_append 67 = .ok (.getfield 25, 3) := by decide +kernel
theorem dX2_append_70 : decode cX2_append 70 = .ok (.ireturn, 1) := by decide +kernel
theorem dX3_init_0 : decode cX3_init 0 = .ok (.aload_n 0, 1) := by decide +kernel
theorem dX3_init_1 : decode cX3_init 1 = .ok (.invokespecial 3, 3) := by decide +kernel
theorem dX3_init_4 : decode cX3_init 4 = .ok (.aload_n 0, 1) := by decide +kernel
theorem dX3_init_5 : decode cX3_init 5 = .ok (.bipush 48, 2) := by decide +kernel
theorem dX3_init_7 : decode cX3_init 7 = .ok (.newarray .int, 2) := by decide +kernel
theorem dX3_init_9 : decode cX3_init 9 = .ok (.putfield 9, 3) := by decide +kernel
theorem dX3_init_12 : decode cX3_init 12 = .ok (.return_, 1) := by decide +kernel
theorem dX3_append_0 : decode cX3_append 0 = .ok (.aload_n 0, 1) := by decide +kernel
theorem dX3_append_1 : decode cX3_append 1 = .ok (.getfield 15, 3) := by decide +kernel
theorem dX3_append_4 : decode cX3_append 4 = .ok (.bipush 48, 2) := by decide +kernel
theorem dX3_append_6 : decode cX3_append 6 = .ok (.invokestatic 19, 3) := by decide +kernel
theorem dX3_append_9 : decode cX3_append 9 = .ok (.ifCond .ne 6, 3) := by decide +kernel
theorem dX3_append_12 : decode cX3_append 12 = .ok (.bipush (-4), 2) := by decide +kernel
theorem dX3_append_14 : decode cX3_append 14 = .ok (.ireturn, 1) := by decide +kernel
theorem dX3_append_15 : decode cX3_append 15 = .ok (.aload_n 0, 1) := by decide +kernel
theorem dX3_append_16 : decode cX3_append 16 = .ok (.getfield 9, 3) := by decide +kernel
theorem dX3_append_19 : decode cX3_append 19 = .ok (.aload_n 0, 1) := by decide +kernel
theorem dX3_append_20 : decode cX3_append 20 = .ok (.getfield 15, 3) := by decide +kernel
theorem dX3_append_23 : decode cX3_append 23 = .ok (.iload_n 1, 1) := by decide +kernel
theorem dX3_append_24 : decode cX3_append 24 = .ok (.iastore, 1) := by decide +kernel
theorem dX3_append_25 : decode cX3_append 25 = .ok (.aload_n 0, 1) := by decide +kernel
theorem dX3_append_26 : decode cX3_append 26 = .ok (.dup, 1) := by decide +kernel
theorem dX3_append_27 : decode cX3_append 27 = .ok (.getfield 15, 3) := by decide +kernel
theorem dX3_append_30 : decode cX3_append 30 = .ok (.iconst 1, 1) := by decide +kernel
theorem dX3_append_31 : decode cX3_append 31 = .ok (.iadd, 1) := by decide +kernel
theorem dX3_append_32 : decode cX3_append 32 = .ok (.putfield 15, 3) := by decide +kernel
theorem dX3_append_35 : decode cX3_append 35 = .ok (.aload_n 0, 1) := by decide +kernel
theorem dX3_append_36 : decode cX3_append 36 = .ok (.getfield 15, 3) := by decide +kernel
theorem dX3_append_39 : decode cX3_append 39 = .ok (.ireturn, 1) := by decide +kernel
theorem dX3_readInto_0 : decode cX3_readInto 0 = .ok (.aload_n 1, 1) := by decide +kernel
theorem dX3_readInto_1 : decode cX3_readInto 1 = .ok (.invokevirtual 23, 3) := by decide +kernel
theorem dX3_readInto_4 : decode cX3_readInto 4 = .ok (.aload_n 0, 1) := by decide +kernel
theorem dX3_readInto_5 : decode cX3_readInto 5 = .ok (.iconst 0, 1) := by decide +kernel
theorem dX3_readInto_6 : decode cX3_readInto 6 = .ok (.putfield 28, 3) := by decide +kernel
theorem dX3_readInto_9 : decode cX3_readInto 9 = .ok (.iconst 0, 1) := by decide +kernel
theorem dX3_readInto_10 : decode cX3_readInto 10 = .ok (.istore_n 2, 1) := by decide +kernel
theorem dX3_readInto_11 : decode cX3_readInto 11 = .ok (.iload_n 2, 1) := by decide +kernel
theorem dX3_readInto_12 : decode cX3_readInto 12 = .ok (.aload_n 0, 1) := by decide +kernel
theorem dX3_readInto_13 : decode cX3_readInto 13 = .ok (.getfield 15, 3) := by decide +kernel
theorem dX3_readInto_16 : decode cX3_readInto 16 = .ok (.if_icmp .ge 31, 3) := by decide +kernel
theorem dX3_readInto_19 : decode cX3_readInto 19 = .ok (.iload_n 2, 1) := by decide +kernel
theorem dX3_readInto_20 : decode cX3_readInto 20 = .ok (.bipush 48, 2) := by decide +kernel
theorem dX3_readInto_22 : decode cX3_readInto 22 = .ok (.if_icmp .ge 25, 3) := by decide +kernel
theorem dX3_readInto_25 : decode cX3_readInto 25 = .ok (.aload_n 0, 1) := by decide +kernel
theorem dX3_readInto_26 : decode cX3_readInto 26 = .ok (.aload_n 1, 1) := by decide +kernel
theorem dX3_readInto_27 : decode cX3_readInto 27 = .ok (.aload_n 0, 1) := by decide +kernel
theorem dX3_readInto_28 : decode cX3_readInto 28 = .ok (.getfield 9, 3) := by decide +kernel
theorem dX3_readInto_31 : decode cX3_readInto 31 = .ok (.iload_n 2, 1) := by decide +kernel
theorem dX3_readInto_32 : decode cX3_readInto 32 = .ok (.iaload, 1) := by decide +kernel
theorem dX3_readInto_33 : decode cX3_readInto 33 = .ok (.invokevirtual 31, 3) := by decide +kernel
theorem dX3_readInto_36 : decode cX3_readInto 36 = .ok (.ifCond .ne 5, 3) := by decide +kernel
theorem dX3_readInto_39 : decode cX3_readInto 39 = .ok (.iload_n 2, 1) := by decide +kernel
theorem dX3_readInto_40 : decode cX3_readInto 40 = .ok (.ireturn, 1) := by decide +kernel
theorem dX3_readInto_41 : decode cX3_readInto 41 = .ok (.iinc 2 1, 3) := by decide +kernel
theorem dX3_readInto_44 : decode cX3_readInto 44 = .ok (.goto (-33), 3) := by decide +kernel
theorem dX3_readInto_47 : decode cX3_readInto 47 = .ok (.aload_n 0, 1) := by decide +kernel
theorem dX3_readInto_48 : decode cX3_readInto 48 = .ok (.getfield 28, 3) := by decide +kernel
theorem dX3_readInto_51 : decode cX3_readInto 51 = .ok (.iconst 1, 1) := by decide +kernel
theorem dX3_readInto_52 : decode cX3_readInto 52 = .ok (.if_icmp .ne 8, 3) := by decide +kernel
theorem dX3_readInto_55 : decode cX3_readInto 55 = .ok (.bipush (-9), 2) := by decide +kernel
theorem dX3_readInto_57 : decode cX3_readInto 57 = .ok (.goto 7, 3) := by decide +kernel
theorem dX3_readInto_60 : decode cX3_readInto 60 = .ok (.aload_n 0, 1) := by decide +kernel
theorem dX3_readInto_61 : decode cX3_readInto 61 = .ok (.getfield 15, 3) := by decide +kernel
theorem dX3_readInto_64 : decode cX3_readInto 64 = .ok (.ireturn, 1) := by decide +kernel
theorem dX3_takes_0 : decode cX3_takes 0 = .ok (.iload_n 2, 1) := by decide +kernel
theorem dX3_takes_1 : decode cX3_takes 1 = .ok (.bipush 48, 2) := by decide +kernel
theorem dX3_takes_3 : decode cX3_takes 3 = .ok (.isub, 1) := by decide +kernel
theorem dX3_takes_4 : decode cX3_takes 4 = .ok (.istore_n 3, 1) := by decide +kernel
theorem dX3_takes_5 : decode cX3_takes 5 = .ok (.aload_n 0, 1) := by decide +kernel
theorem dX3_takes_6 : decode cX3_takes 6 = .ok (.getfield 28, 3) := by decide +kernel
theorem dX3_takes_9 : decode cX3_takes 9 = .ok (.lookupswitch 121 #[(0, 59), (1, 76), (80, 107), (82, 93), (83, 114), (88, 100)], 59) := by decide +kernel
theorem dX3_takes_68 : decode cX3_takes 68 = .ok (.aload_n 0, 1) := by decide +kernel
theorem dX3_takes_69 : decode cX3_takes 69 = .ok (.iconst 1, 1) := by decide +kernel
theorem dX3_takes_70 : decode cX3_takes 70 = .ok (.putfield 28, 3) := by decide +kernel
theorem dX3_takes_73 : decode cX3_takes 73 = .ok (.iload_n 2, 1) := by decide +kernel
theorem dX3_takes_74 : decode cX3_takes 74 = .ok (.bipush 89, 2) := by decide +kernel
theorem dX3_takes_76 : decode cX3_takes 76 = .ok (.if_icmp .ne 7, 3) := by decide +kernel
theorem dX3_takes_79 : decode cX3_takes 79 = .ok (.iconst 1, 1) := by decide +kernel
theorem dX3_takes_80 : decode cX3_takes 80 = .ok (.goto 4, 3) := by decide +kernel
theorem dX3_takes_83 : decode cX3_takes 83 = .ok (.iconst 0, 1) := by decide +kernel
theorem dX3_takes_84 : decode cX3_takes 84 = .ok (.ireturn, 1) := by decide +kernel
theorem dX3_takes_85 : decode cX3_takes 85 = .ok (.aload_n 0, 1) := by decide +kernel
theorem dX3_takes_86 : decode cX3_takes 86 = .ok (.iload_n 2, 1) := by decide +kernel
theorem dX3_takes_87 : decode cX3_takes 87 = .ok (.putfield 28, 3) := by decide +kernel
theorem dX3_takes_90 : decode cX3_takes 90 = .ok (.aload_n 0, 1) := by decide +kernel
theorem dX3_takes_91 : decode cX3_takes 91 = .ok (.iconst 0, 1) := by decide +kernel
theorem dX3_takes_92 : decode cX3_takes 92 = .ok (.putfield 35, 3) := by decide +kernel
theorem dX3_takes_95 : decode cX3_takes 95 = .ok (.aload_n 0, 1) := by decide +kernel
theorem dX3_takes_96 : decode cX3_takes 96 = .ok (.aload_n 1, 1) := by decide +kernel
theorem dX3_takes_97 : decode cX3_takes 97 = .ok (.iload_n 2, 1) := by decide +kernel
theorem dX3_takes_98 : decode cX3_takes 98 = .ok (.invokevirtual 38, 3) := by decide +kernel
theorem dX3_takes_101 : decode cX3_takes 101 = .ok (.ireturn, 1) := by decide +kernel
theorem dX3_takes_102 : decode cX3_takes 102 = .ok (.aload_n 0, 1) := by decide +kernel
theorem dX3_takes_103 : decode cX3_takes 103 = .ok (.aload_n 1, 1) := by decide +kernel
theorem dX3_takes_104 : decode cX3_takes 104 = .ok (.iload_n 3, 1) := by decide +kernel
theorem dX3_takes_105 : decode cX3_takes 105 = .ok (.invokevirtual 41, 3) := by decide +kernel
theorem dX3_takes_108 : decode cX3_takes 108 = .ok (.ireturn, 1) := by decide +kernel
theorem dX3_takes_109 : decode cX3_takes 109 = .ok (.aload_n 0, 1) := by decide +kernel
theorem dX3_takes_110 : decode cX3_takes 110 = .ok (.aload_n 1, 1) := by decide +kernel
theorem dX3_takes_111 : decode cX3_takes 111 = .ok (.iload_n 3, 1) := by decide +kernel
theorem dX3_takes_112 : decode cX3_takes 112 = .ok (.invokevirtual 44, 3) := by decide +kernel
theorem dX3_takes_115 : decode cX3_takes 115 = .ok (.ireturn, 1) := by decide +kernel
theorem dX3_takes_116 : decode cX3_takes 116 = .ok (.aload_n 0, 1) := by decide +kernel
theorem dX3_takes_117 : decode cX3_takes 117 = .ok (.aload_n 1, 1) := by decide +kernel
theorem dX3_takes_118 : decode cX3_takes 118 = .ok (.iload_n 3, 1) := by decide +kernel
theorem dX3_takes_119 : decode cX3_takes 119 = .ok (.invokevirtual 47, 3) := by decide +kernel
theorem dX3_takes_122 : decode cX3_takes 122 = .ok (.ireturn, 1) := by decide +kernel
theorem dX3_takes_123 : decode cX3_takes 123 = .ok (.aload_n 0, 1) := by decide +kernel
theorem dX3_takes_124 : decode cX3_takes 124 = .ok (.aload_n 1, 1) := by decide +kernel
theorem dX3_takes_125 : decode cX3_takes 125 = .ok (.iload_n 3, 1) := by decide +kernel
theorem dX3_takes_126 : decode cX3_takes 126 = .ok (.invokevirtual 50, 3) := by decide +kernel
theorem dX3_takes_129 : decode cX3_takes 129 = .ok (.ireturn, 1) := by decide +kernel
theorem dX3_takes_130 : decode cX3_takes 130 = .ok (.iconst 0, 1) := by decide +kernel
theorem dX3_takes_131 : decode cX3_takes 131 = .ok (.ireturn, 1) := by decide +kernel
theorem dX3_opensPart_0 : decode cX3_opensPart 0 = .ok (.iload_n 2, 1) := by decide +kernel
theorem dX3_opensPart_1 : decode cX3_opensPart 1 = .ok (.tableswitch 89 80 88 #[70, 89, 51, 84, 89, 89, 89, 89, 65], 51) := by decide +kernel
theorem dX3_opensPart_52 : decode cX3_opensPart 52 = .ok (.aload_n 1, 1) := by decide +kernel
theorem dX3_opensPart_53 : decode cX3_opensPart 53 = .ok (.getfield 53, 3) := by decide +kernel
theorem dX3_opensPart_56 : decode cX3_opensPart 56 = .ok (.iconst 5, 1) := by decide +kernel
theorem dX3_opensPart_57 : decode cX3_opensPart 57 = .ok (.if_icmp .ge 7, 3) := by decide +kernel
theorem dX3_opensPart_60 : decode cX3_opensPart 60 = .ok (.iconst 1, 1) := by decide +kernel
theorem dX3_opensPart_61 : decode cX3_opensPart 61 = .ok (.goto 4, 3) := by decide +kernel
theorem dX3_opensPart_64 : decode cX3_opensPart 64 = .ok (.iconst 0, 1) := by decide +kernel
theorem dX3_opensPart_65 : decode cX3_opensPart 65 = .ok (.ireturn, 1) := by decide +kernel
theorem dX3_opensPart_66 : decode cX3_opensPart 66 = .ok (.aload_n 1, 1) := by decide +kernel
theorem dX3_opensPart_67 : decode cX3_opensPart 67 = .ok (.invokevirtual 56, 3) := by decide +kernel
theorem dX3_opensPart_70 : decode cX3_opensPart 70 = .ok (.ireturn, 1) := by decide +kernel
theorem dX3_opensPart_71 : decode cX3_opensPart 71 = .ok (.aload_n 1, 1) := by decide +kernel
theorem dX3_opensPart_72 : decode cX3_opensPart 72 = .ok (.getfield 60, 3) := by decide +kernel
theorem dX3_opensPart_75 : decode cX3_opensPart 75 = .ok (.iconst 4, 1) := by decide +kernel
theorem dX3_opensPart_76 : decode cX3_opensPart 76 = .ok (.if_icmp .ge 7, 3) := by decide +kernel
theorem dX3_opensPart_79 : decode cX3_opensPart 79 = .ok (.iconst 1, 1) := by decide +kernel
theorem dX3_opensPart_80 : decode cX3_opensPart 80 = .ok (.goto 4, 3) := by decide +kernel
theorem dX3_opensPart_83 : decode cX3_opensPart 83 = .ok (.iconst 0, 1) := by decide +kernel
theorem dX3_opensPart_84 : decode cX3_opensPart 84 = .ok (.ireturn, 1) := by decide +kernel
theorem dX3_opensPart_85 : decode cX3_opensPart 85 = .ok (.aload_n 1, 1) := by decide +kernel
theorem dX3_opensPart_86 : decode cX3_opensPart 86 = .ok (.invokevirtual 63, 3) := by decide +kernel
theorem dX3_opensPart_89 : decode cX3_opensPart 89 = .ok (.ireturn, 1) := by decide +kernel
theorem dX3_opensPart_90 : decode cX3_opensPart 90 = .ok (.iconst 0, 1) := by decide +kernel
theorem dX3_opensPart_91 : decode cX3_opensPart 91 = .ok (.ireturn, 1) := by decide +kernel
theorem dX3_takesOfRumour_0 : decode cX3_takesOfRumour 0 = .ok (.aload_n 0, 1) := by decide +kernel
theorem dX3_takesOfRumour_1 : decode cX3_takesOfRumour 1 = .ok (.dup, 1) := by decide +kernel
theorem dX3_takesOfRumour_2 : decode cX3_takesOfRumour 2 = .ok (.getfield 35, 3) := by decide +kernel
theorem dX3_takesOfRumour_5 : decode cX3_takesOfRumour 5 = .ok (.iconst 1, 1) := by decide +kernel
theorem dX3_takesOfRumour_6 : decode cX3_takesOfRumour 6 = .ok (.iadd, 1) := by decide +kernel
theorem dX3_takesOfRumour_7 : decode cX3_takesOfRumour 7 = .ok (.putfield 35, 3) := by decide +kernel
theorem dX3_takesOfRumour_10 : decode cX3_takesOfRumour 10 = .ok (.aload_n 0, 1) := by decide +kernel
theorem dX3_takesOfRumour_11 : decode cX3_takesOfRumour 11 = .ok (.getfield 35, 3) := by decide +kernel
theorem dX3_takesOfRumour_14 : decode cX3_takesOfRumour 14 = .ok (.lookupswitch 67 #[(1, 26), (2, 47)], 26) := by decide +kernel
theorem dX3_takesOfRumour_40 : decode cX3_takesOfRumour 40 = .ok (.aload_n 0, 1) := by decide +kernel
theorem dX3_takesOfRumour_41 : decode cX3_takesOfRumour 41 = .ok (.iload_n 2, 1) := by decide +kernel
theorem dX3_takesOfRumour_42 : decode cX3_takesOfRumour 42 = .ok (.putfield 66, 3) := by decide +kernel
theorem dX3_takesOfRumour_45 : decode cX3_takesOfRumour 45 = .ok (.iload_n 2, 1) := by decide +kernel
theorem dX3_takesOfRumour_46 : decode cX3_takesOfRumour 46 = .ok (.iconst 1, 1) := by decide +kernel
theorem dX3_takesOfRumour_47 : decode cX3_takesOfRumour 47 = .ok (.bipush 9, 2) := by decide +kernel
theorem dX3_takesOfRumour_49 : decode cX3_takesOfRumour 49 = .ok (.invokestatic 69, 3) := by decide +kernel
theorem dX3_takesOfRumour_52 : decode cX3_takesOfRumour 52 = .ok (.ifCond .ne 7, 3) := by decide +kernel
theorem dX3_takesOfRumour_55 : decode cX3_takesOfRumour 55 = .ok (.iconst 1, 1) := by decide +kernel
theorem dX3_takesOfRumour_56 : decode cX3_takesOfRumour 56 = .ok (.goto 4, 3) := by decide +kernel
theorem dX3_takesOfRumour_59 : decode cX3_takesOfRumour 59 = .ok (.iconst 0, 1) := by decide +kernel
theorem dX3_takesOfRumour_60 : decode cX3_takesOfRumour 60 = .ok (.ireturn, 1) := by decide +kernel
theorem dX3_takesOfRumour_61 : decode cX3_takesOfRumour 61 = .ok (.aload_n 0, 1) := by decide +kernel
theorem dX3_takesOfRumour_62 : decode cX3_takesOfRumour 62 = .ok (.iload_n 2, 1) := by decide +kernel
theorem dX3_takesOfRumour_63 : decode cX3_takesOfRumour 63 = .ok (.putfield 73, 3) := by decide +kernel
theorem dX3_takesOfRumour_66 : decode cX3_takesOfRumour 66 = .ok (.iload_n 2, 1) := by decide +kernel
theorem dX3_takesOfRumour_67 : decode cX3_takesOfRumour 67 = .ok (.iconst 0, 1) := by decide +kernel
theorem dX3_takesOfRumour_68 : decode cX3_takesOfRumour 68 = .ok (.iconst 1, 1) := by decide +kernel
theorem dX3_takesOfRumour_69 : decode cX3_takesOfRumour 69 = .ok (.invokestatic 69, 3) := by decide +kernel
theorem dX3_takesOfRumour_72 : decode cX3_takesOfRumour 72 = .ok (.ifCond .ne 7, 3) := by decide +kernel
theorem dX3_takesOfRumour_75 : decode cX3_takesOfRumour 75 = .ok (.iconst 1, 1) := by decide +kernel
theorem dX3_takesOfRumour_76 : decode cX3_takesOfRumour 76 = .ok (.goto 4, 3) := by decide +kernel
theorem dX3_takesOfRumour_79 : decode cX3_takesOfRumour 79 = .ok (.iconst 0, 1) := by decide +kernel
theorem dX3_takesOfRumour_80 : decode cX3_takesOfRumour 80 = .ok (.ireturn, 1) := by decide +kernel
theorem dX3_takesOfRumour_81 : decode cX3_takesOfRumour 81 = .ok (.aload_n 0, 1) := by decide +kernel
theorem dX3_takesOfRumour_82 : decode cX3_takesOfRumour 82 = .ok (.aload_n 1, 1) := by decide +kernel
theorem dX3_takesOfRumour_83 : decode cX3_takesOfRumour 83 = .ok (.iload_n 2, 1) := by decide +kernel
theorem dX3_takesOfRumour_84 : decode cX3_takesOfRumour 84 = .ok (.invokevirtual 76, 3) := by decide +kernel
theorem dX3_takesOfRumour_87 : decode cX3_takesOfRumour 87 = .ok (.ireturn, 1) := by decide +kernel
theorem dX3_endsRumour_0 : decode cX3_endsRumour 0 = .ok (.iload_n 2, 1) := by decide +kernel
theorem dX3_endsRumour_1 : decode cX3_endsRumour 1 = .ok (.iconst 0, 1) := by decide +kernel
theorem dX3_endsRumour_2 : decode cX3_endsRumour 2 = .ok (.bipush 9, 2) := by decide +kernel
theorem dX3_endsRumour_4 : decode cX3_endsRumour 4 = .ok (.invokestatic 69, 3) := by decide +kernel
theorem dX3_endsRumour_7 : decode cX3_endsRumour 7 = .ok (.ifCond .eq 5, 3) := by decide +kernel
theorem dX3_endsRumour_10 : decode cX3_endsRumour 10 = .ok (.iconst 0, 1) := by decide +kernel
theorem dX3_endsRumour_11 : decode cX3_endsRumour 11 = .ok (.ireturn, 1) := by decide +kernel
theorem dX3_endsRumour_12 : decode cX3_endsRumour 12 = .ok (.aload_n 0, 1) := by decide +kernel
theorem dX3_endsRumour_13 : decode cX3_endsRumour 13 = .ok (.iconst 1, 1) := by decide +kernel
theorem dX3_endsRumour_14 : decode cX3_endsRumour 14 = .ok (.putfield 28, 3) := by decide +kernel
theorem dX3_endsRumour_17 : decode cX3_endsRumour 17 = .ok (.aload_n 1, 1) := by decide +kernel
theorem dX3_endsRumour_18 : decode cX3_endsRumour 18 = .ok (.aload_n 0, 1) := by decide +kernel
theorem dX3_endsRumour_19 : decode cX3_endsRumour 19 = .ok (.getfield 66, 3) := by decide +kernel
theorem dX3_endsRumour_22 : decode cX3_endsRumour 22 = .ok (.aload_n 0, 1) := by decide +kernel
theorem dX3_endsRumour_23 : decode cX3_endsRumour 23 = .ok (.getfield 73, 3) := by decide +kernel
theorem dX3_endsRumour_26 : decode cX3_endsRumour 26 = .ok (.iconst 1, 1) := by decide +kernel
theorem dX3_endsRumour_27 : decode cX3_endsRumour 27 = .ok (.if_icmp .ne 7, 3) := by decide +kernel
theorem dX3_endsRumour_30 : decode cX3_endsRumour 30 = .ok (.iconst 1, 1) := by decide +kernel
theorem dX3_endsRumour_31 : decode cX3_endsRumour 31 = .ok (.goto 4, 3) := by decide +kernel
theorem dX3_endsRumour_34 : decode cX3_endsRumour 34 = .ok (.iconst 0, 1) := by decide +kernel
theorem dX3_endsRumour_35 : decode cX3_endsRumour 35 = .ok (.iload_n 2, 1) := by decide +kernel
theorem dX3_endsRumour_36 : decode cX3_endsRumour 36 = .ok (.invokevirtual 79, 3) := by decide +kernel
theorem dX3_endsRumour_39 : decode cX3_endsRumour 39 = .ok (.iconst 1, 1) := by decide +kernel
theorem dX3_endsRumour_40 : decode cX3_endsRumour 40 = .ok (.ireturn, 1) := by decide +kernel
theorem dX3_takesOfRivals_0 : decode cX3_takesOfRivals 0 = .ok (.aload_n 0, 1) := by decide +kernel
theorem dX3_takesOfRivals_1 : decode cX3_takesOfRivals 1 = .ok (.dup, 1) := by decide +kernel
theorem dX3_takesOfRivals_2 : decode cX3_takesOfRivals 2 = .ok (.getfield 35, 3) := by decide +kernel
theorem dX3_takesOfRivals_5 : decode cX3_takesOfRivals 5 = .ok (.iconst 1, 1) := by decide +kernel
theorem dX3_takesOfRivals_6 : decode cX3_takesOfRivals 6 = .ok (.iadd, 1) := by decide +kernel
theorem dX3_takesOfRivals_7 : decode cX3_takesOfRivals 7 = .ok (.putfield 35, 3) := by decide +kernel
theorem dX3_takesOfRivals_10 : decode cX3_takesOfRivals 10 = .ok (.aload_n 0, 1) := by decide +kernel
theorem dX3_takesOfRivals_11 : decode cX3_takesOfRivals 11 = .ok (.getfield 35, 3) := by decide +kernel
theorem dX3_takesOfRivals_14 : decode cX3_takesOfRivals 14 = .ok (.iconst 1, 1) := by decide +kernel
theorem dX3_takesOfRivals_15 : decode cX3_takesOfRivals 15 = .ok (.if_icmp .ne 22, 3) := by decide +kernel
theorem dX3_takesOfRivals_18 : decode cX3_takesOfRivals 18 = .ok (.aload_n 0, 1) := by decide +kernel
theorem dX3_takesOfRivals_19 : decode cX3_takesOfRivals 19 = .ok (.iload_n 2, 1) := by decide +kernel
theorem dX3_takesOfRivals_20 : decode cX3_takesOfRivals 20 = .ok (.putfield 66, 3) := by decide +kernel
theorem dX3_takesOfRivals_23 : decode cX3_takesOfRivals 23 = .ok (.aload_n 1, 1) := by decide +kernel
theorem dX3_takesOfRivals_24 : decode cX3_takesOfRivals 24 = .ok (.iload_n 2, 1) := by decide +kernel
theorem dX3_takesOfRivals_25 : decode cX3_takesOfRivals 25 = .ok (.invokevirtual 83, 3) := by decide +kernel
theorem dX3_takesOfRivals_28 : decode cX3_takesOfRivals 28 = .ok (.ifCond .eq 7, 3) := by decide +kernel
theorem dX3_takesOfRivals_31 : decode cX3_takesOfRivals 31 = .ok (.iconst 1, 1) := by decide +kernel
theorem dX3_takesOfRivals_32 : decode cX3_takesOfRivals 32 = .ok (.goto 4, 3) := by decide +kernel
theorem dX3_takesOfRivals_35 : decode cX3_takesOfRivals 35 = .ok (.iconst 0, 1) := by decide +kernel
theorem dX3_takesOfRivals_36 : decode cX3_takesOfRivals 36 = .ok (.ireturn, 1) := by decide +kernel
theorem dX3_takesOfRivals_37 : decode cX3_takesOfRivals 37 = .ok (.aload_n 1, 1) := by decide +kernel
theorem dX3_takesOfRivals_38 : decode cX3_takesOfRivals 38 = .ok (.aload_n 0, 1) := by decide +kernel
theorem dX3_takesOfRivals_39 : decode cX3_takesOfRivals 39 = .ok (.getfield 66, 3) := by decide +kernel
theorem dX3_takesOfRivals_42 : decode cX3_takesOfRivals 42 = .ok (.invokevirtual 83, 3) := by decide +kernel
theorem dX3_takesOfRivals_45 : decode cX3_takesOfRivals 45 = .ok (.iload_n 2, 1) := by decide +kernel
theorem dX3_takesOfRivals_46 : decode cX3_takesOfRivals 46 = .ok (.invokestatic 87, 3) := by decide +kernel
theorem dX3_takesOfRivals_49 : decode cX3_takesOfRivals 49 = .ok (.ifCond .ne 5, 3) := by decide +kernel
theorem dX3_takesOfRivals_52 : decode cX3_takesOfRivals 52 = .ok (.iconst 0, 1) := by decide +kernel
theorem dX3_takesOfRivals_53 : decode cX3_takesOfRivals 53 = .ok (.ireturn, 1) := by decide +kernel
theorem dX3_takesOfRivals_54 : decode cX3_takesOfRivals 54 = .ok (.aload_n 0, 1) := by decide +kernel
theorem dX3_takesOfRivals_55 : decode cX3_takesOfRivals 55 = .ok (.iconst 1, 1) := by decide +kernel
theorem dX3_takesOfRivals_56 : decode cX3_takesOfRivals 56 = .ok (.putfield 28, 3) := by decide +kernel
theorem dX3_takesOfRivals_59 : decode cX3_takesOfRivals 59 = .ok (.aload_n 1, 1) := by decide +kernel
theorem dX3_takesOfRivals_60 : decode cX3_takesOfRivals 60 = .ok (.aload_n 0, 1) := by decide +kernel
theorem dX3_takesOfRivals_61 : decode cX3_takesOfRivals 61 = .ok (.getfield 66, 3) := by decide +kernel
theorem dX3_takesOfRivals_64 : decode cX3_takesOfRivals 64 = .ok (.iload_n 2, 1) := by decide +kernel
theorem dX3_takesOfRivals_65 : decode cX3_takesOfRivals 65 = .ok (.invokevirtual 90, 3) := by decide +kernel
theorem dX3_takesOfRivals_68 : decode cX3_takesOfRivals 68 = .ok (.iconst 1, 1) := by decide +kernel
theorem dX3_takesOfRivals_69 : decode cX3_takesOfRivals 69 = .ok (.ireturn, 1) := by decide +kernel
theorem dX3_takesOfPerson_0 : decode cX3_takesOfPerson 0 = .ok (.iload_n 2, 1) := by decide +kernel
theorem dX3_takesOfPerson_1 : decode cX3_takesOfPerson 1 = .ok (.invokestatic 94, 3) := by decide +kernel
theorem dX3_takesOfPerson_4 : decode cX3_takesOfPerson 4 = .ok (.ifCond .ne 5, 3) := by decide +kernel
theorem dX3_takesOfPerson_7 : decode cX3_takesOfPerson 7 = .ok (.iconst 0, 1) := by decide +kernel
theorem dX3_takesOfPerson_8 : decode cX3_takesOfPerson 8 = .ok (.ireturn, 1) := by decide +kernel
theorem dX3_takesOfPerson_9 : decode cX3_takesOfPerson 9 = .ok (.aload_n 0, 1) := by decide +kernel
theorem dX3_takesOfPerson_10 : decode cX3_takesOfPerson 10 = .ok (.iconst 1, 1) := by decide +kernel
theorem dX3_takesOfPerson_11 : decode cX3_takesOfPerson 11 = .ok (.putfield 28, 3) := by decide +kernel
theorem dX3_takesOfPerson_14 : decode cX3_takesOfPerson 14 = .ok (.aload_n 1, 1) := by decide +kernel
theorem dX3_takesOfPerson_15 : decode cX3_takesOfPerson 15 = .ok (.iload_n 2, 1) := by decide +kernel
theorem dX3_takesOfPerson_16 : decode cX3_takesOfPerson 16 = .ok (.invokevirtual 98, 3) := by decide +kernel
theorem dX3_takesOfPerson_19 : decode cX3_takesOfPerson 19 = .ok (.iconst 1, 1) := by decide +kernel
theorem dX3_takesOfPerson_20 : decode cX3_takesOfPerson 20 = .ok (.ireturn, 1) := by decide +kernel
theorem dX3_takesOfOpening_0 : decode cX3_takesOfOpening 0 = .ok (.aload_n 0, 1) := by decide +kernel
theorem dX3_takesOfOpening_1 : decode cX3_takesOfOpening 1 = .ok (.dup, 1) := by decide +kernel
theorem dX3_takesOfOpening_2 : decode cX3_takesOfOpening 2 = .ok (.getfield 35, 3) := by decide +kernel
theorem dX3_takesOfOpening_5 : decode cX3_takesOfOpening 5 = .ok (.iconst 1, 1) := by decide +kernel
theorem dX3_takesOfOpening_6 : decode cX3_takesOfOpening 6 = .ok (.iadd, 1) := by decide +kernel
theorem dX3_takesOfOpening_7 : decode cX3_takesOfOpening 7 = .ok (.putfield 35, 3) := by decide +kernel
theorem dX3_takesOfOpening_10 : decode cX3_takesOfOpening 10 = .ok (.aload_n 0, 1) := by decide +kernel
theorem dX3_takesOfOpening_11 : decode cX3_takesOfOpening 11 = .ok (.getfield 35, 3) := by decide +kernel
theorem dX3_takesOfOpening_14 : decode cX3_takesOfOpening 14 = .ok (.iconst 1, 1) := by decide +kernel
theorem dX3_takesOfOpening_15 : decode cX3_takesOfOpening 15 = .ok (.if_icmp .ne 22, 3) := by decide +kernel
theorem dX3_takesOfOpening_18 : decode cX3_takesOfOpening 18 = .ok (.aload_n 0, 1) := by decide +kernel
theorem dX3_takesOfOpening_19 : decode cX3_takesOfOpening 19 = .ok (.iload_n 2, 1) := by decide +kernel
theorem dX3_takesOfOpening_20 : decode cX3_takesOfOpening 20 = .ok (.putfield 66, 3) := by decide +kernel
theorem dX3_takesOfOpening_23 : decode cX3_takesOfOpening 23 = .ok (.aload_n 1, 1) := by decide +kernel
theorem dX3_takesOfOpening_24 : decode cX3_takesOfOpening 24 = .ok (.iload_n 2, 1) := by decide +kernel
theorem dX3_takesOfOpening_25 : decode cX3_takesOfOpening 25 = .ok (.invokevirtual 102, 3) := by decide +kernel
theorem dX3_takesOfOpening_28 : decode cX3_takesOfOpening 28 = .ok (.ifCond .eq 7, 3) := by decide +kernel
theorem dX3_takesOfOpening_31 : decode cX3_takesOfOpening 31 = .ok (.iconst 1, 1) := by decide +kernel
theorem dX3_takesOfOpening_32 : decode cX3_takesOfOpening 32 = .ok (.goto 4, 3) := by decide +kernel
theorem dX3_takesOfOpening_35 : decode cX3_takesOfOpening 35 = .ok (.iconst 0, 1) := by decide +kernel
theorem dX3_takesOfOpening_36 : decode cX3_takesOfOpening 36 = .ok (.ireturn, 1) := by decide +kernel
theorem dX3_takesOfOpening_37 : decode cX3_takesOfOpening 37 = .ok (.aload_n 1, 1) := by decide +kernel
theorem dX3_takesOfOpening_38 : decode cX3_takesOfOpening 38 = .ok (.aload_n 0, 1) := by decide +kernel
theorem dX3_takesOfOpening_39 : decode cX3_takesOfOpening 39 = .ok (.getfield 66, 3) := by decide +kernel
theorem dX3_takesOfOpening_42 : decode cX3_takesOfOpening 42 = .ok (.invokevirtual 102, 3) := by decide +kernel
theorem dX3_takesOfOpening_45 : decode cX3_takesOfOpening 45 = .ok (.iload_n 2, 1) := by decide +kernel
theorem dX3_takesOfOpening_46 : decode cX3_takesOfOpening 46 = .ok (.invokestatic 87, 3) := by decide +kernel
theorem dX3_takesOfOpening_49 : decode cX3_takesOfOpening 49 = .ok (.ifCond .ne 5, 3) := by decide +kernel
theorem dX3_takesOfOpening_52 : decode cX3_takesOfOpening 52 = .ok (.iconst 0, 1) := by decide +kernel
theorem dX3_takesOfOpening_53 : decode cX3_takesOfOpening 53 = .ok (.ireturn, 1) := by decide +kernel
theorem dX3_takesOfOpening_54 : decode cX3_takesOfOpening 54 = .ok (.aload_n 0, 1) := by decide +kernel
theorem dX3_takesOfOpening_55 : decode cX3_takesOfOpening 55 = .ok (.iconst 1, 1) := by decide +kernel
theorem dX3_takesOfOpening_56 : decode cX3_takesOfOpening 56 = .ok (.putfield 28, 3) := by decide +kernel
theorem dX3_takesOfOpening_59 : decode cX3_takesOfOpening 59 = .ok (.aload_n 1, 1) := by decide +kernel
theorem dX3_takesOfOpening_60 : decode cX3_takesOfOpening 60 = .ok (.aload_n 0, 1) := by decide +kernel
theorem dX3_takesOfOpening_61 : decode cX3_takesOfOpening 61 = .ok (.getfield 66, 3) := by decide +kernel
theorem dX3_takesOfOpening_64 : decode cX3_takesOfOpening 64 = .ok (.iload_n 2, 1) := by decide +kernel
theorem dX3_takesOfOpening_65 : decode cX3_takesOfOpening 65 = .ok (.invokevirtual 105, 3) := by decide +kernel
theorem dX3_takesOfOpening_68 : decode cX3_takesOfOpening 68 = .ok (.iconst 1, 1) := by decide +kernel
theorem dX3_takesOfOpening_69 : decode cX3_takesOfOpening 69 = .ok (.ireturn, 1) := by decide +kernel
theorem dX4_init_0 : decode cX4_init 0 = .ok (.aload_n 0, 1) := by decide +kernel
theorem dX4_init_1 : decode cX4_init 1 = .ok (.invokespecial 3, 3) := by decide +kernel
theorem dX4_init_4 : decode cX4_init 4 = .ok (.aload_n 0, 1) := by decide +kernel
theorem dX4_init_5 : decode cX4_init 5 = .ok (.iconst 5, 1) := by decide +kernel
theorem dX4_init_6 : decode cX4_init 6 = .ok (.newarray .int, 2) := by decide +kernel
theorem dX4_init_8 : decode cX4_init 8 = .ok (.putfield 9, 3) := by decide +kernel
theorem dX4_init_11 : decode cX4_init 11 = .ok (.aload_n 0, 1) := by decide +kernel
theorem dX4_init_12 : decode cX4_init 12 = .ok (.iconst 5, 1) := by decide +kernel
theorem dX4_init_13 : decode cX4_init 13 = .ok (.newarray .int, 2) := by decide +kernel
theorem dX4_init_15 : decode cX4_init 15 = .ok (.putfield 15, 3) := by decide +kernel
theorem dX4_init_18 : decode cX4_init 18 = .ok (.aload_n 0, 1) := by decide +kernel
theorem dX4_init_19 : decode cX4_init 19 = .ok (.bipush 20, 2) := by decide +kernel
theorem dX4_init_21 : decode cX4_init 21 = .ok (.newarray .int, 2) := by decide +kernel
theorem dX4_init_23 : decode cX4_init 23 = .ok (.putfield 18, 3) := by decide +kernel
theorem dX4_init_26 : decode cX4_init 26 = .ok (.return_, 1) := by decide +kernel
theorem dX4_open_0 : decode cX4_open 0 = .ok (.aload_n 0, 1) := by decide +kernel
theorem dX4_open_1 : decode cX4_open 1 = .ok (.iconst 0, 1) := by decide +kernel
theorem dX4_open_2 : decode cX4_open 2 = .ok (.putfield 21, 3) := by decide +kernel
theorem dX4_open_5 : decode cX4_open 5 = .ok (.iconst 0, 1) := by decide +kernel
theorem dX4_open_6 : decode cX4_open 6 = .ok (.istore_n 2, 1) := by decide +kernel
theorem dX4_open_7 : decode cX4_open 7 = .ok (.iload_n 2, 1) := by decide +kernel
theorem dX4_open_8 : decode cX4_open 8 = .ok (.iconst 5, 1) := by decide +kernel
theorem dX4_open_9 : decode cX4_open 9 = .ok (.if_icmp .ge 40, 3) := by decide +kernel
theorem dX4_open_12 : decode cX4_open 12 = .ok (.aload_n 0, 1) := by decide +kernel
theorem dX4_open_13 : decode cX4_open 13 = .ok (.getfield 9, 3) := by decide +kernel
theorem dX4_open_16 : decode cX4_open 16 = .ok (.iload_n 2, 1) := by decide +kernel
theorem dX4_open_17 : decode cX4_open 17 = .ok (.aload_n 1, 1) := by decide +kernel
theorem dX4_open_18 : decode cX4_open 18 = .ok (.iload_n 2, 1) := by decide +kernel
theorem dX4_open_19 : decode cX4_open 19 = .ok (.invokevirtual 25, 3) := by decide +kernel
theorem dX4_open_22 : decode cX4_open 22 = .ok (.ifCond .eq 12, 3) := by decide +kernel
theorem dX4_open_25 : decode cX4_open 25 = .ok (.aload_n 1, 1) := by decide +kernel
theorem dX4_open_26 : decode cX4_open 26 = .ok (.getfield 31, 3) := by decide +kernel
theorem dX4_open_29 : decode cX4_open 29 = .ok (.iload_n 2, 1) := by decide +kernel
theorem dX4_open_30 : decode cX4_open 30 = .ok (.iaload, 1) := by decide +kernel
theorem dX4_open_31 : decode cX4_open 31 = .ok (.goto 4, 3) := by decide +kernel
theorem dX4_open_34 : decode cX4_open 34 = .ok (.iconst 0, 1) := by decide +kernel
theorem dX4_open_35 : decode cX4_open 35 = .ok (.iastore, 1) := by decide +kernel
theorem dX4_open_36 : decode cX4_open 36 = .ok (.aload_n 0, 1) := by decide +kernel
theorem dX4_open_37 : decode cX4_open 37 = .ok (.getfield 15, 3) := by decide +kernel
theorem dX4_open_40 : decode cX4_open 40 = .ok (.iload_n 2, 1) := by decide +kernel
theorem dX4_open_41 : decode cX4_open 41 = .ok (.iconst 0, 1) := by decide +kernel
theorem dX4_open_42 : decode cX4_open 42 = .ok (.iastore, 1) := by decide +kernel
theorem dX4_open_43 : decode cX4_open 43 = .ok (.iinc 2 1, 3) := by decide +kernel
theorem dX4_open_46 : decode cX4_open 46 = .ok (.goto (-39), 3) := by decide +kernel
theorem dX4_open_49 : decode cX4_open 49 = .ok (.iconst 0, 1) := by decide +kernel
theorem dX4_open_50 : decode cX4_open 50 = .ok (.istore_n 2, 1) := by decide +kernel
theorem dX4_open_51 : decode cX4_open 51 = .ok (.iload_n 2, 1) := by decide +kernel
theorem dX4_open_52 : decode cX4_open 52 = .ok (.aload_n 0, 1) := by decide +kernel
theorem dX4_open_53 : decode cX4_open 53 = .ok (.getfield 18, 3) := by decide +kernel
theorem dX4_open_56 : decode cX4_open 56 = .ok (.arraylength, 1) := by decide +kernel
theorem dX4_open_57 : decode cX4_open 57 = .ok (.if_icmp .ge 16, 3) := by decide +kernel
theorem dX4_open_60 : decode cX4_open 60 = .ok (.aload_n 0, 1) := by decide +kernel
theorem dX4_open_61 : decode cX4_open 61 = .ok (.getfield 18, 3) := by decide +kernel
theorem dX4_open_64 : decode cX4_open 64 = .ok (.iload_n 2, 1) := by decide +kernel
theorem dX4_open_65 : decode cX4_open 65 = .ok (.iconst 0, 1) := by decide +kernel
theorem dX4_open_66 : decode cX4_open 66 = .ok (.iastore, 1) := by decide +kernel
theorem dX4_open_67 : decode cX4_open 67 = .ok (.iinc 2 1, 3) := by decide +kernel
theorem dX4_open_70 : decode cX4_open 70 = .ok (.goto (-19), 3) := by decide +kernel
theorem dX4_open_73 : decode cX4_open 73 = .ok (.return_, 1) := by decide +kernel
theorem dX4_copyFrom_0 : decode cX4_copyFrom 0 = .ok (.aload_n 1, 1) := by decide +kernel
theorem dX4_copyFrom_1 : decode cX4_copyFrom 1 = .ok (.getfield 9, 3) := by decide +kernel
theorem dX4_copyFrom_4 : decode cX4_copyFrom 4 = .ok (.iconst 0, 1) := by decide +kernel
theorem dX4_copyFrom_5 : decode cX4_copyFrom 5 = .ok (.aload_n 0, 1) := by decide +kernel
theorem dX4_copyFrom_6 : decode cX4_copyFrom 6 = .ok (.getfield 9, 3) := by decide +kernel
theorem dX4_copyFrom_9 : decode cX4_copyFrom 9 = .ok (.iconst 0, 1) := by decide +kernel
theorem dX4_copyFrom_10 : decode cX4_copyFrom 10 = .ok (.iconst 5, 1) := by decide +kernel
theorem dX4_copyFrom_11 : decode cX4_copyFrom 11 = .ok (.invokestatic 34, 3) := by decide +kernel
theorem dX4_copyFrom_14 : decode cX4_copyFrom 14 = .ok (.aload_n 1, 1) := by decide +kernel
theorem dX4_copyFrom_15 : decode cX4_copyFrom 15 = .ok (.getfield 15, 3) := by decide +kernel
theorem dX4_copyFrom_18 : decode cX4_copyFrom 18 = .ok (.iconst 0, 1) := by decide +kernel
theorem dX4_copyFrom_19 : decode cX4_copyFrom 19 = .ok (.aload_n 0, 1) := by decide +kernel
theorem dX4_copyFrom_20 : decode cX4_copyFrom 20 = .ok (.getfield 15, 3) := by decide +kernel
theorem dX4_copyFrom_23 : decode cX4_copyFrom 23 = .ok (.iconst 0, 1) := by decide +kernel
theorem dX4_copyFrom_24 : decode cX4_copyFrom 24 = .ok (.iconst 5, 1) := by decide +kernel
theorem dX4_copyFrom_25 : decode cX4_copyFrom 25 = .ok (.invokestatic 34, 3) := by decide +kernel
theorem dX4_copyFrom_28 : decode cX4_copyFrom 28 = .ok (.aload_n 1, 1) := by decide +kernel
theorem dX4_copyFrom_29 : decode cX4_copyFrom 29 = .ok (.getfield 18, 3) := by decide +kernel
theorem dX4_copyFrom_32 : decode cX4_copyFrom 32 = .ok (.iconst 0, 1) := by decide +kernel
theorem dX4_copyFrom_33 : decode cX4_copyFrom 33 = .ok (.aload_n 0, 1) := by decide +kernel
theorem dX4_copyFrom_34 : decode cX4_copyFrom 34 = .ok (.getfield 18, 3) := by decide +kernel
theorem dX4_copyFrom_37 : decode cX4_copyFrom 37 = .ok (.iconst 0, 1) := by decide +kernel
theorem dX4_copyFrom_38 : decode cX4_copyFrom 38 = .ok (.bipush 20, 2) := by decide +kernel
theorem dX4_copyFrom_40 : decode cX4_copyFrom 40 = .ok (.invokestatic 34, 3) := by decide +kernel
theorem dX4_copyFrom_43 : decode cX4_copyFrom 43 = .ok (.aload_n 0, 1) := by decide +kernel
theorem dX4_copyFrom_44 : decode cX4_copyFrom 44 = .ok (.aload_n 1, 1) := by decide +kernel
theorem dX4_copyFrom_45 : decode cX4_copyFrom 45 = .ok (.getfield 21, 3) := by decide +kernel
theorem dX4_copyFrom_48 : decode cX4_copyFrom 48 = .ok (.putfield 21, 3) := by decide +kernel
theorem dX4_copyFrom_51 : decode cX4_copyFrom 51 = .ok (.return_, 1) := by decide +kernel
theorem dX4_saidOf_0 : decode cX4_saidOf 0 = .ok (.aload_n 0, 1) := by decide +kernel
theorem dX4_saidOf_1 : decode cX4_saidOf 1 = .ok (.getfield 9, 3) := by decide +kernel
theorem dX4_saidOf_4 : decode cX4_saidOf 4 = .ok (.iload_n 1, 1) := by decide +kernel
theorem dX4_saidOf_5 : decode cX4_saidOf 5 = .ok (.invokestatic 40, 3) := by decide +kernel
theorem dX4_saidOf_8 : decode cX4_saidOf 8 = .ok (.ireturn, 1) := by decide +kernel
theorem dX4_deniedOf_0 : decode cX4_deniedOf 0 = .ok (.aload_n 0, 1) := by decide +kernel
theorem dX4_deniedOf_1 : decode cX4_deniedOf 1 = .ok (.getfield 15, 3) := by decide +kernel
theorem dX4_deniedOf_4 : decode cX4_deniedOf 4 = .ok (.iload_n 1, 1) := by decide +kernel
theorem dX4_deniedOf_5 : decode cX4_deniedOf 5 = .ok (.invokestatic 40, 3) := by decide +kernel
theorem dX4_deniedOf_8 : decode cX4_deniedOf 8 = .ok (.ireturn, 1) := by decide +kernel
theorem dX4_coinsOf_0 : decode cX4_coinsOf 0 = .ok (.aload_n 0, 1) := by decide +kernel
theorem dX4_coinsOf_1 : decode cX4_coinsOf 1 = .ok (.getfield 18, 3) := by decide +kernel
theorem dX4_coinsOf_4 : decode cX4_coinsOf 4 = .ok (.iload_n 1, 1) := by decide +kernel
theorem dX4_coinsOf_5 : decode cX4_coinsOf 5 = .ok (.iconst 5, 1) := by decide +kernel
theorem dX4_coinsOf_6 : decode cX4_coinsOf 6 = .ok (.imul, 1) := by decide +kernel
theorem dX4_coinsOf_7 : decode cX4_coinsOf 7 = .ok (.iload_n 2, 1) := by decide +kernel
theorem dX4_coinsOf_8 : decode cX4_coinsOf 8 = .ok (.iadd, 1) := by decide +kernel
theorem dX4_coinsOf_9 : decode cX4_coinsOf 9 = .ok (.invokestatic 40, 3) := by decide +kernel
theorem dX4_coinsOf_12 : decode cX4_coinsOf 12 = .ok (.ireturn, 1) := by decide +kernel
theorem dX4_addCoins_0 : decode cX4_addCoins 0 = .ok (.iload_n 1, 1) := by decide +kernel
theorem dX4_addCoins_1 : decode cX4_addCoins 1 = .ok (.iconst 5, 1) := by decide +kernel
theorem dX4_addCoins_2 : decode cX4_addCoins 2 = .ok (.imul, 1) := by decide +kernel
theorem dX4_addCoins_3 : decode cX4_addCoins 3 = .ok (.iload_n 2, 1) := by decide +kernel
theorem dX4_addCoins_4 : decode cX4_addCoins 4 = .ok (.iadd, 1) := by decide +kernel
theorem dX4_addCoins_5 : decode cX4_addCoins 5 = .ok (.istore 4, 2) := by decide +kernel
theorem dX4_addCoins_7 : decode cX4_addCoins 7 = .ok (.iload 4, 2) := by decide +kernel
theorem dX4_addCoins_9 : decode cX4_addCoins 9 = .ok (.aload_n 0, 1) := by decide +kernel
theorem dX4_addCoins_10 : decode cX4_addCoins 10 = .ok (.getfield 18, 3) := by decide +kernel
theorem dX4_addCoins_13 : decode cX4_addCoins 13 = .ok (.arraylength, 1) := by decide +kernel
theorem dX4_addCoins_14 : decode cX4_addCoins 14 = .ok (.invokestatic 44, 3) := by decide +kernel
theorem dX4_addCoins_17 : decode cX4_addCoins 17 = .ok (.ifCond .eq 14, 3) := by decide +kernel
theorem dX4_addCoins_20 : decode cX4_addCoins 20 = .ok (.aload_n 0, 1) := by decide +kernel
theorem dX4_addCoins_21 : decode cX4_addCoins 21 = .ok (.getfield 18, 3) := by decide +kernel
theorem dX4_addCoins_24 : decode cX4_addCoins 24 = .ok (.iload 4, 2) := by decide +kernel
theorem dX4_addCoins_26 : decode cX4_addCoins 26 = .ok (.dup2, 1) := by decide +kernel
theorem dX4_addCoins_27 : decode cX4_addCoins 27 = .ok (.iaload, 1) := by decide +kernel
theorem dX4_addCoins_28 : decode cX4_addCoins 28 = .ok (.iload_n 3, 1) := by decide +kernel
theorem dX4_addCoins_29 : decode cX4_addCoins 29 = .ok (.iadd, 1) := by decide +kernel
theorem dX4_addCoins_30 : decode cX4_addCoins 30 = .ok (.iastore, 1) := by decide +kernel
theorem dX4_addCoins_31 : decode cX4_addCoins 31 = .ok (.return_, 1) := by decide +kernel
theorem dX4_canBeSaid_0 : decode cX4_canBeSaid 0 = .ok (.aload_n 1, 1) := by decide +kernel
theorem dX4_canBeSaid_1 : decode cX4_canBeSaid 1 = .ok (.iload_n 2, 1) := by decide +kernel
theorem dX4_canBeSaid_2 : decode cX4_canBeSaid 2 = .ok (.invokevirtual 25, 3) := by decide +kernel
theorem dX4_canBeSaid_5 : decode cX4_canBeSaid 5 = .ok (.ifCond .eq 44, 3) := by decide +kernel
theorem dX4_canBeSaid_8 : decode cX4_canBeSaid 8 = .ok (.iload_n 3, 1) := by decide +kernel
theorem dX4_canBeSaid_9 : decode cX4_canBeSaid 9 = .ok (.invokestatic 48, 3) := by decide +kernel
theorem dX4_canBeSaid_12 : decode cX4_canBeSaid 12 = .ok (.ifCond .eq 37, 3) := by decide +kernel
theorem dX4_canBeSaid_15 : decode cX4_canBeSaid 15 = .ok (.aload_n 1, 1) := by decide +kernel
theorem dX4_canBeSaid_16 : decode cX4_canBeSaid 16 = .ok (.iload_n 2, 1) := by decide +kernel
theorem dX4_canBeSaid_17 : decode cX4_canBeSaid 17 = .ok (.aload_n 0, 1) := by decide +kernel
theorem dX4_canBeSaid_18 : decode cX4_canBeSaid 18 = .ok (.getfield 21, 3) := by decide +kernel
theorem dX4_canBeSaid_21 : decode cX4_canBeSaid 21 = .ok (.invokevirtual 51, 3) := by decide +kernel
theorem dX4_canBeSaid_24 : decode cX4_canBeSaid 24 = .ok (.ifCond .ne 25, 3) := by decide +kernel
theorem dX4_canBeSaid_27 : decode cX4_canBeSaid 27 = .ok (.aload_n 0, 1) := by decide +kernel
theorem dX4_canBeSaid_28 : decode cX4_canBeSaid 28 = .ok (.iload_n 2, 1) := by decide +kernel
theorem dX4_canBeSaid_29 : decode cX4_canBeSaid 29 = .ok (.invokevirtual 54, 3) := by decide +kernel
theorem dX4_canBeSaid_32 : decode cX4_canBeSaid 32 = .ok (.aload_n 0, 1) := by decide +kernel
theorem dX4_canBeSaid_33 : decode cX4_canBeSaid 33 = .ok (.iload_n 2, 1) := by decide +kernel
theorem dX4_canBeSaid_34 : decode cX4_canBeSaid 34 = .ok (.invokevirtual 58, 3) := by decide +kernel
theorem dX4_canBeSaid_37 : decode cX4_canBeSaid 37 = .ok (.ior, 1) := by decide +kernel
theorem dX4_canBeSaid_38 : decode cX4_canBeSaid 38 = .ok (.iload_n 3, 1) := by decide +kernel
theorem dX4_canBeSaid_39 : decode cX4_canBeSaid 39 = .ok (.invokestatic 61, 3) := by decide +kernel
theorem dX4_canBeSaid_42 : decode cX4_canBeSaid 42 = .ok (.ifCond .ne 7, 3) := by decide +kernel
theorem dX4_canBeSaid_45 : decode cX4_canBeSaid 45 = .ok (.iconst 1, 1) := by decide +kernel
theorem dX4_canBeSaid_46 : decode cX4_canBeSaid 46 = .ok (.goto 4, 3) := by decide +kernel
theorem dX4_canBeSaid_49 : decode cX4_canBeSaid 49 = .ok (.iconst 0, 1) := by decide +kernel
theorem dX4_canBeSaid_50 : decode cX4_canBeSaid 50 = .ok (.ireturn, 1) := by decide +kernel
theorem dX4_putSaid_0 : decode cX4_putSaid 0 = .ok (.iload_n 1, 1) := by decide +kernel
theorem dX4_putSaid_1 : decode cX4_putSaid 1 = .ok (.iconst 5, 1) := by decide +kernel
theorem dX4_putSaid_2 : decode cX4_putSaid 2 = .ok (.invokestatic 44, 3) := by decide +kernel
theorem dX4_putSaid_5 : decode cX4_putSaid 5 = .ok (.ifCond .eq 22, 3) := by decide +kernel
theorem dX4_putSaid_8 : decode cX4_putSaid 8 = .ok (.iload_n 2, 1) := by decide +kernel
theorem dX4_putSaid_9 : decode cX4_putSaid 9 = .ok (.invokestatic 48, 3) := by decide +kernel
theorem dX4_putSaid_12 : decode cX4_putSaid 12 = .ok (.ifCond .eq 15, 3) := by decide +kernel
theorem dX4_putSaid_15 : decode cX4_putSaid 15 = .ok (.aload_n 0, 1) := by decide +kernel
theorem dX4_putSaid_16 : decode cX4_putSaid 16 = .ok (.getfield 9, 3) := by decide +kernel
theorem dX4_putSaid_19 : decode cX4_putSaid 19 = .ok (.iload_n 1, 1) := by decide +kernel
theorem dX4_putSaid_20 : decode cX4_putSaid 20 = .ok (.dup2, 1) := by decide +kernel
theorem dX4_putSaid_21 : decode cX4_putSaid 21 = .ok (.iaload, 1) := by decide +kernel
theorem dX4_putSaid_22 : decode cX4_putSaid 22 = .ok (.iconst 1, 1) := by decide +kernel
theorem dX4_putSaid_23 : decode cX4_putSaid 23 = .ok (.iload_n 2, 1) := by decide +kernel
theorem dX4_putSaid_24 : decode cX4_putSaid 24 = .ok (.ishl, 1) := by decide +kernel
theorem dX4_putSaid_25 : decode cX4_putSaid 25 = .ok (.ior, 1) := by decide +kernel
theorem dX4_putSaid_26 : decode cX4_putSaid 26 = .ok (.iastore, 1) := by decide +kernel
theorem dX4_putSaid_27 : decode cX4_putSaid 27 = .ok (.return_, 1) := by decide +kernel
theorem dX4_canBeDenied_0 : decode cX4_canBeDenied 0 = .ok (.aload_n 1, 1) := by decide +kernel
theorem dX4_canBeDenied_1 : decode cX4_canBeDenied 1 = .ok (.iload_n 2, 1) := by decide +kernel
theorem dX4_canBeDenied_2 : decode cX4_canBeDenied 2 = .ok (.invokevirtual 25, 3) := by decide +kernel
theorem dX4_canBeDenied_5 : decode cX4_canBeDenied 5 = .ok (.ifCond .eq 38, 3) := by decide +kernel
theorem dX4_canBeDenied_8 : decode cX4_canBeDenied 8 = .ok (.iload_n 3, 1) := by decide +kernel
theorem dX4_canBeDenied_9 : decode cX4_canBeDenied 9 = .ok (.invokestatic 48, 3) := by decide +kernel
theorem dX4_canBeDenied_12 : decode cX4_canBeDenied 12 = .ok (.ifCond .eq 31, 3) := by decide +kernel
theorem dX4_canBeDenied_15 : decode cX4_canBeDenied 15 = .ok (.aload_n 1, 1) := by decide +kernel
theorem dX4_canBeDenied_16 : decode cX4_canBeDenied 16 = .ok (.iload_n 2, 1) := by decide +kernel
theorem dX4_canBeDenied_17 : decode cX4_canBeDenied 17 = .ok (.aload_n 0, 1) := by decide +kernel
theorem dX4_canBeDenied_18 : decode cX4_canBeDenied 18 = .ok (.getfield 21, 3) := by decide +kernel
theorem dX4_canBeDenied_21 : decode cX4_canBeDenied 21 = .ok (.invokevirtual 64, 3) := by decide +kernel
theorem dX4_canBeDenied_24 : decode cX4_canBeDenied 24 = .ok (.ifCond .ne 19, 3) := by decide +kernel
theorem dX4_canBeDenied_27 : decode cX4_canBeDenied 27 = .ok (.aload_n 0, 1) := by decide +kernel
theorem dX4_canBeDenied_28 : decode cX4_canBeDenied 28 = .ok (.iload_n 2, 1) := by decide +kernel
theorem dX4_canBeDenied_29 : decode cX4_canBeDenied 29 = .ok (.invokevirtual 58, 3) := by decide +kernel
theorem dX4_canBeDenied_32 : decode cX4_canBeDenied 32 = .ok (.iload_n 3, 1) := by decide +kernel
theorem dX4_canBeDenied_33 : decode cX4_canBeDenied 33 = .ok (.invokestatic 61, 3) := by decide +kernel
theorem dX4_canBeDenied_36 : decode cX4_canBeDenied 36 = .ok (.ifCond .ne 7, 3) := by decide +kernel
theorem dX4_canBeDenied_39 : decode cX4_canBeDenied 39 = .ok (.iconst 1, 1) := by decide +kernel
theorem dX4_canBeDenied_40 : decode cX4_canBeDenied 40 = .ok (.goto 4, 3) := by decide +kernel
theorem dX4_canBeDenied_43 : decode cX4_canBeDenied 43 = .ok (.iconst 0, 1) := by decide +kernel
theorem dX4_canBeDenied_44 : decode cX4_canBeDenied 44 = .ok (.ireturn, 1) := by decide +kernel
theorem dX4_putDenied_0 : decode cX4_putDenied 0 = .ok (.iload_n 1, 1) := by decide +kernel
theorem dX4_putDenied_1 : decode cX4_putDenied 1 = .ok (.iconst 5, 1) := by decide +kernel
theorem dX4_putDenied_2 : decode cX4_putDenied 2 = .ok (.invokestatic 44, 3) := by decide +kernel
theorem dX4_putDenied_5 : decode cX4_putDenied 5 = .ok (.ifCond .eq 36, 3) := by decide +kernel
theorem dX4_putDenied_8 : decode cX4_putDenied 8 = .ok (.iload_n 2, 1) := by decide +kernel
theorem dX4_putDenied_9 : decode cX4_putDenied 9 = .ok (.invokestatic 48, 3) := by decide +kernel
theorem dX4_putDenied_12 : decode cX4_putDenied 12 = .ok (.ifCond .eq 29, 3) := by decide +kernel
theorem dX4_putDenied_15 : decode cX4_putDenied 15 = .ok (.aload_n 0, 1) := by decide +kernel
theorem dX4_putDenied_16 : decode cX4_putDenied 16 = .ok (.getfield 15, 3) := by decide +kernel
theorem dX4_putDenied_19 : decode cX4_putDenied 19 = .ok (.iload_n 1, 1) := by decide +kernel
theorem dX4_putDenied_20 : decode cX4_putDenied 20 = .ok (.dup2, 1) := by decide +kernel
theorem dX4_putDenied_21 : decode cX4_putDenied 21 = .ok (.iaload, 1) := by decide +kernel
theorem dX4_putDenied_22 : decode cX4_putDenied 22 = .ok (.iconst 1, 1) := by decide +kernel
theorem dX4_putDenied_23 : decode cX4_putDenied 23 = .ok (.iload_n 2, 1) := by decide +kernel
theorem dX4_putDenied_24 : decode cX4_putDenied 24 = .ok (.ishl, 1) := by decide +kernel
theorem dX4_putDenied_25 : decode cX4_putDenied 25 = .ok (.ior, 1) := by decide +kernel
theorem dX4_putDenied_26 : decode cX4_putDenied 26 = .ok (.iastore, 1) := by decide +kernel
theorem dX4_putDenied_27 : decode cX4_putDenied 27 = .ok (.aload_n 0, 1) := by decide +kernel
theorem dX4_putDenied_28 : decode cX4_putDenied 28 = .ok (.getfield 9, 3) := by decide +kernel
theorem dX4_putDenied_31 : decode cX4_putDenied 31 = .ok (.iload_n 1, 1) := by decide +kernel
theorem dX4_putDenied_32 : decode cX4_putDenied 32 = .ok (.dup2, 1) := by decide +kernel
theorem dX4_putDenied_33 : decode cX4_putDenied 33 = .ok (.iaload, 1) := by decide +kernel
theorem dX4_putDenied_34 : decode cX4_putDenied 34 = .ok (.iconst 1, 1) := by decide +kernel
theorem dX4_putDenied_35 : decode cX4_putDenied 35 = .ok (.iload_n 2, 1) := by decide +kernel
theorem dX4_putDenied_36 : decode cX4_putDenied 36 = .ok (.ishl, 1) := by decide +kernel
theorem dX4_putDenied_37 : decode cX4_putDenied 37 = .ok (.iconst (-1), 1) := by decide +kernel
theorem dX4_putDenied_38 : decode cX4_putDenied 38 = .ok (.ixor, 1) := by decide +kernel
theorem dX4_putDenied_39 : decode cX4_putDenied 39 = .ok (.iand, 1) := by decide +kernel
theorem dX4_putDenied_40 : decode cX4_putDenied 40 = .ok (.iastore, 1) := by decide +kernel
theorem dX4_putDenied_41 : decode cX4_putDenied 41 = .ok (.return_, 1) := by decide +kernel
theorem dX4_isTakenBy_0 : decode cX4_isTakenBy 0 = .ok (.aload_n 0, 1) := by decide +kernel
theorem dX4_isTakenBy_1 : decode cX4_isTakenBy 1 = .ok (.aload_n 1, 1) := by decide +kernel
theorem dX4_isTakenBy_2 : decode cX4_isTakenBy 2 = .ok (.iload_n 3, 1) := by decide +kernel
theorem dX4_isTakenBy_3 : decode cX4_isTakenBy 3 = .ok (.invokevirtual 67, 3) := by decide +kernel
theorem dX4_isTakenBy_6 : decode cX4_isTakenBy 6 = .ok (.iconst 1, 1) := by decide +kernel
theorem dX4_isTakenBy_7 : decode cX4_isTakenBy 7 = .ok (.if_icmp .lt 28, 3) := by decide +kernel
theorem dX4_isTakenBy_10 : decode cX4_isTakenBy 10 = .ok (.aload_n 0, 1) := by decide +kernel
theorem dX4_isTakenBy_11 : decode cX4_isTakenBy 11 = .ok (.iload_n 2, 1) := by decide +kernel
theorem dX4_isTakenBy_12 : decode cX4_isTakenBy 12 = .ok (.iload_n 3, 1) := by decide +kernel
theorem dX4_isTakenBy_13 : decode cX4_isTakenBy 13 = .ok (.invokevirtual 71, 3) := by decide +kernel
theorem dX4_isTakenBy_16 : decode cX4_isTakenBy 16 = .ok (.bipush 99, 2) := by decide +kernel
theorem dX4_isTakenBy_18 : decode cX4_isTakenBy 18 = .ok (.if_icmp .ge 17, 3) := by decide +kernel
theorem dX4_isTakenBy_21 : decode cX4_isTakenBy 21 = .ok (.aload_n 0, 1) := by decide +kernel
theorem dX4_isTakenBy_22 : decode cX4_isTakenBy 22 = .ok (.aload_n 1, 1) := by decide +kernel
theorem dX4_isTakenBy_23 : decode cX4_isTakenBy 23 = .ok (.iload_n 2, 1) := by decide +kernel
theorem dX4_isTakenBy_24 : decode cX4_isTakenBy 24 = .ok (.iload_n 3, 1) := by decide +kernel
theorem dX4_isTakenBy_25 : decode cX4_isTakenBy 25 = .ok (.invokevirtual 75, 3) := by decide +kernel
theorem dX4_isTakenBy_28 : decode cX4_isTakenBy 28 = .ok (.ifCond .ne 7, 3) := by decide +kernel
theorem dX4_isTakenBy_31 : decode cX4_isTakenBy 31 = .ok (.iconst 1, 1) := by decide +kernel
theorem dX4_isTakenBy_32 : decode cX4_isTakenBy 32 = .ok (.goto 4, 3) := by decide +kernel
theorem dX4_isTakenBy_35 : decode cX4_isTakenBy 35 = .ok (.iconst 0, 1) := by decide +kernel
theorem dX4_isTakenBy_36 : decode cX4_isTakenBy 36 = .ok (.ireturn, 1) := by decide +kernel
theorem dX4_hasRivalCoin_0 : decode cX4_hasRivalCoin 0 = .ok (.iconst 0, 1) := by decide +kernel
theorem dX4_hasRivalCoin_1 : decode cX4_hasRivalCoin 1 = .ok (.istore 4, 2) := by decide +kernel
theorem dX4_hasRivalCoin_3 : decode cX4_hasRivalCoin 3 = .ok (.iload 4, 2) := by decide +kernel
theorem dX4_hasRivalCoin_5 : decode cX4_hasRivalCoin 5 = .ok (.iconst 5, 1) := by decide +kernel
theorem dX4_hasRivalCoin_6 : decode cX4_hasRivalCoin 6 = .ok (.if_icmp .ge 37, 3) := by decide +kernel
theorem dX4_hasRivalCoin_9 : decode cX4_hasRivalCoin 9 = .ok (.aload_n 1, 1) := by decide +kernel
theorem dX4_hasRivalCoin_10 : decode cX4_hasRivalCoin 10 = .ok (.getfield 79, 3) := by decide +kernel
theorem dX4_hasRivalCoin_13 : decode cX4_hasRivalCoin 13 = .ok (.iload_n 3, 1) := by decide +kernel
theorem dX4_hasRivalCoin_14 : decode cX4_hasRivalCoin 14 = .ok (.invokestatic 40, 3) := by decide +kernel
theorem dX4_hasRivalCoin_17 : decode cX4_hasRivalCoin 17 = .ok (.iload 4, 2) := by decide +kernel
theorem dX4_hasRivalCoin_19 : decode cX4_hasRivalCoin 19 = .ok (.invokestatic 61, 3) := by decide +kernel
theorem dX4_hasRivalCoin_22 : decode cX4_hasRivalCoin 22 = .ok (.ifCond .eq 15, 3) := by decide +kernel
theorem dX4_hasRivalCoin_25 : decode cX4_hasRivalCoin 25 = .ok (.aload_n 0, 1) := by decide +kernel
theorem dX4_hasRivalCoin_26 : decode cX4_hasRivalCoin 26 = .ok (.iload_n 2, 1) := by decide +kernel
theorem dX4_hasRivalCoin_27 : decode cX4_hasRivalCoin 27 = .ok (.iload 4, 2) := by decide +kernel
theorem dX4_hasRivalCoin_29 : decode cX4_hasRivalCoin 29 = .ok (.invokevirtual 71, 3) := by decide +kernel
theorem dX4_hasRivalCoin_32 : decode cX4_hasRivalCoin 32 = .ok (.ifCond .le 5, 3) := by decide +kernel
theorem dX4_hasRivalCoin_35 : decode cX4_hasRivalCoin 35 = .ok (.iconst 1, 1) := by decide +kernel
theorem dX4_hasRivalCoin_36 : decode cX4_hasRivalCoin 36 = .ok (.ireturn, 1) := by decide +kernel
theorem dX4_hasRivalCoin_37 : decode cX4_hasRivalCoin 37 = .ok (.iinc 4 1, 3) := by decide +kernel
theorem dX4_hasRivalCoin_40 : decode cX4_hasRivalCoin 40 = .ok (.goto (-37), 3) := by decide +kernel
theorem dX4_hasRivalCoin_43 : decode cX4_hasRivalCoin 43 = .ok (.iconst 0, 1) := by decide +kernel
theorem dX4_hasRivalCoin_44 : decode cX4_hasRivalCoin 44 = .ok (.ireturn, 1) := by decide +kernel
theorem dX4_passDawn_0 : decode cX4_passDawn 0 = .ok (.iconst 0, 1) := by decide +kernel
theorem dX4_passDawn_1 : decode cX4_passDawn 1 = .ok (.istore_n 2, 1) := by decide +kernel
theorem dX4_passDawn_2 : decode cX4_passDawn 2 = .ok (.iconst 0, 1) := by decide +kernel
theorem dX4_passDawn_3 : decode cX4_passDawn 3 = .ok (.istore_n 3, 1) := by decide +kernel
theorem dX4_passDawn_4 : decode cX4_passDawn 4 = .ok (.iload_n 3, 1) := by decide +kernel
theorem dX4_passDawn_5 : decode cX4_passDawn 5 = .ok (.iconst 5, 1) := by decide +kernel
theorem dX4_passDawn_6 : decode cX4_passDawn 6 = .ok (.if_icmp .ge 45, 3) := by decide +kernel
theorem dX4_passDawn_9 : decode cX4_passDawn 9 = .ok (.iload_n 2, 1) := by decide +kernel
theorem dX4_passDawn_10 : decode cX4_passDawn 10 = .ok (.aload_n 0, 1) := by decide +kernel
theorem dX4_passDawn_11 : decode cX4_passDawn 11 = .ok (.aload_n 1, 1) := by decide +kernel
theorem dX4_passDawn_12 : decode cX4_passDawn 12 = .ok (.iload_n 3, 1) := by decide +kernel
theorem dX4_passDawn_13 : decode cX4_passDawn 13 = .ok (.invokevirtual 82, 3) := by decide +kernel
theorem dX4_passDawn_16 : decode cX4_passDawn 16 = .ok (.iadd, 1) := by decide +kernel
theorem dX4_passDawn_17 : decode cX4_passDawn 17 = .ok (.istore_n 2, 1) := by decide +kernel
theorem dX4_passDawn_18 : decode cX4_passDawn 18 = .ok (.aload_n 0, 1) := by decide +kernel
theorem dX4_passDawn_19 : decode cX4_passDawn 19 = .ok (.getfield 9, 3) := by decide +kernel
theorem dX4_passDawn_22 : decode cX4_passDawn 22 = .ok (.iload_n 3, 1) := by decide +kernel
theorem dX4_passDawn_23 : decode cX4_passDawn 23 = .ok (.aload_n 1, 1) := by decide +kernel
theorem dX4_passDawn_24 : decode cX4_passDawn 24 = .ok (.iload_n 3, 1) := by decide +kernel
theorem dX4_passDawn_25 : decode cX4_passDawn 25 = .ok (.aload_n 0, 1) := by decide +kernel
theorem dX4_passDawn_26 : decode cX4_passDawn 26 = .ok (.getfield 9, 3) := by decide +kernel
theorem dX4_passDawn_29 : decode cX4_passDawn 29 = .ok (.iload_n 3, 1) := by decide +kernel
theorem dX4_passDawn_30 : decode cX4_passDawn 30 = .ok (.iaload, 1) := by decide +kernel
theorem dX4_passDawn_31 : decode cX4_passDawn 31 = .ok (.aload_n 0, 1) := by decide +kernel
theorem dX4_passDawn_32 : decode cX4_passDawn 32 = .ok (.getfield 15, 3) := by decide +kernel
theorem dX4_passDawn_35 : decode cX4_passDawn 35 = .ok (.iload_n 3, 1) := by decide +kernel
theorem dX4_passDawn_36 : decode cX4_passDawn 36 = .ok (.iaload, 1) := by decide +kernel
theorem dX4_passDawn_37 : decode cX4_passDawn 37 = .ok (.aload_n 0, 1) := by decide +kernel
theorem dX4_passDawn_38 : decode cX4_passDawn 38 = .ok (.getfield 21, 3) := by decide +kernel
theorem dX4_passDawn_41 : decode cX4_passDawn 41 = .ok (.invokevirtual 85, 3) := by decide +kernel
theorem dX4_passDawn_44 : decode cX4_passDawn 44 = .ok (.iastore, 1) := by decide +kernel
theorem dX4_passDawn_45 : decode cX4_passDawn 45 = .ok (.iinc 3 1, 3) := by decide +kernel
theorem dX4_passDawn_48 : decode cX4_passDawn 48 = .ok (.goto (-44), 3) := by decide +kernel
theorem dX4_passDawn_51 : decode cX4_passDawn 51 = .ok (.aload_n 0, 1) := by decide +kernel
theorem dX4_passDawn_52 : decode cX4_passDawn 52 = .ok (.dup, 1) := by decide +kernel
theorem dX4_passDawn_53 : decode cX4_passDawn 53 = .ok (.getfield 21, 3) := by decide +kernel
theorem dX4_passDawn_56 : decode cX4_passDawn 56 = .ok (.iconst 1, 1) := by decide +kernel
theorem dX4_passDawn_57 : decode cX4_passDawn 57 = .ok (.iadd, 1) := by decide +kernel
theorem dX4_passDawn_58 : decode cX4_passDawn 58 = .ok (.putfield 21, 3) := by decide +kernel
theorem dX4_passDawn_61 : decode cX4_passDawn 61 = .ok (.iload_n 2, 1) := by decide +kernel
theorem dX4_passDawn_62 : decode cX4_passDawn 62 = .ok (.ireturn, 1) := by decide +kernel
theorem dX4_strike_0 : decode cX4_strike 0 = .ok (.iconst 0, 1) := by decide +kernel
theorem dX4_strike_1 : decode cX4_strike 1 = .ok (.istore_n 3, 1) := by decide +kernel
theorem dX4_strike_2 : decode cX4_strike 2 = .ok (.iconst 0, 1) := by decide +kernel
theorem dX4_strike_3 : decode cX4_strike 3 = .ok (.istore 4, 2) := by decide +kernel
theorem dX4_strike_5 : decode cX4_strike 5 = .ok (.iload 4, 2) := by decide +kernel
theorem dX4_strike_7 : decode cX4_strike 7 = .ok (.aload_n 1, 1) := by decide +kernel
theorem dX4_strike_8 : decode cX4_strike 8 = .ok (.getfield 89, 3) := by decide +kernel
theorem dX4_strike_11 : decode cX4_strike 11 = .ok (.if_icmp .ge 49, 3) := by decide +kernel
theorem dX4_strike_14 : decode cX4_strike 14 = .ok (.aload_n 0, 1) := by decide +kernel
theorem dX4_strike_15 : decode cX4_strike 15 = .ok (.iload_n 2, 1) := by decide +kernel
theorem dX4_strike_16 : decode cX4_strike 16 = .ok (.invokevirtual 54, 3) := by decide +kernel
theorem dX4_strike_19 : decode cX4_strike 19 = .ok (.aload_n 1, 1) := by decide +kernel
theorem dX4_strike_20 : decode cX4_strike 20 = .ok (.iload 4, 2) := by decide +kernel
theorem dX4_strike_22 : decode cX4_strike 22 = .ok (.invokevirtual 92, 3) := by decide +kernel
theorem dX4_strike_25 : decode cX4_strike 25 = .ok (.invokestatic 61, 3) := by decide +kernel
theorem dX4_strike_28 : decode cX4_strike 28 = .ok (.ifCond .eq 26, 3) := by decide +kernel
theorem dX4_strike_31 : decode cX4_strike 31 = .ok (.aload_n 0, 1) := by decide +kernel
theorem dX4_strike_32 : decode cX4_strike 32 = .ok (.iload 4, 2) := by decide +kernel
theorem dX4_strike_34 : decode cX4_strike 34 = .ok (.iload_n 2, 1) := by decide +kernel
theorem dX4_strike_35 : decode cX4_strike 35 = .ok (.invokevirtual 71, 3) := by decide +kernel
theorem dX4_strike_38 : decode cX4_strike 38 = .ok (.bipush 99, 2) := by decide +kernel
theorem dX4_strike_40 : decode cX4_strike 40 = .ok (.if_icmp .ge 14, 3) := by decide +kernel
theorem dX4_strike_43 : decode cX4_strike 43 = .ok (.aload_n 0, 1) := by decide +kernel
theorem dX4_strike_44 : decode cX4_strike 44 = .ok (.iload 4, 2) := by decide +kernel
theorem dX4_strike_46 : decode cX4_strike 46 = .ok (.iload_n 2, 1) := by decide +kernel
theorem dX4_strike_47 : decode cX4_strike 47 = .ok (.iconst 1, 1) := by decide +kernel
theorem dX4_strike_48 : decode cX4_strike 48 = .ok (.invokevirtual 95, 3) := by decide +kernel
theorem dX4_strike_51 : decode cX4_strike 51 = .ok (.iinc 3 1, 3) := by decide +kernel
theorem dX4_strike_54 : decode cX4_strike 54 = .ok (.iinc 4 1, 3) := by decide +kernel
theorem dX4_strike_57 : decode cX4_strike 57 = .ok (.goto (-52), 3) := by decide +kernel
theorem dX4_strike_60 : decode cX4_strike 60 = .ok (.iload_n 3, 1) := by decide +kernel
theorem dX4_strike_61 : decode cX4_strike 61 = .ok (.ireturn, 1) := by decide +kernel
theorem dX4_valueOf_0 : decode cX4_valueOf 0 = .ok (.aload_n 1, 1) := by decide +kernel
theorem dX4_valueOf_1 : decode cX4_valueOf 1 = .ok (.aload_n 0, 1) := by decide +kernel
theorem dX4_valueOf_2 : decode cX4_valueOf 2 = .ok (.getfield 21, 3) := by decide +kernel
theorem dX4_valueOf_5 : decode cX4_valueOf 5 = .ok (.iload_n 2, 1) := by decide +kernel
theorem dX4_valueOf_6 : decode cX4_valueOf 6 = .ok (.aload_n 0, 1) := by decide +kernel
theorem dX4_valueOf_7 : decode cX4_valueOf 7 = .ok (.iload_n 2, 1) := by decide +kernel
theorem dX4_valueOf_8 : decode cX4_valueOf 8 = .ok (.invokevirtual 54, 3) := by decide +kernel
theorem dX4_valueOf_11 : decode cX4_valueOf 11 = .ok (.aload_n 0, 1) := by decide +kernel
theorem dX4_valueOf_12 : decode cX4_valueOf 12 = .ok (.iload_n 2, 1) := by decide +kernel
theorem dX4_valueOf_13 : decode cX4_valueOf 13 = .ok (.invokevirtual 58, 3) := by decide +kernel
theorem dX4_valueOf_16 : decode cX4_valueOf 16 = .ok (.invokevirtual 99, 3) := by decide +kernel
theorem dX4_valueOf_19 : decode cX4_valueOf 19 = .ok (.ireturn, 1) := by decide +kernel
theorem dX4_valueOfAll_0 : decode cX4_valueOfAll 0 = .ok (.iconst 0, 1) := by decide +kernel
theorem dX4_valueOfAll_1 : decode cX4_valueOfAll 1 = .ok (.istore_n 2, 1) := by decide +kernel
theorem dX4_valueOfAll_2 : decode cX4_valueOfAll 2 = .ok (.iconst 0, 1) := by decide +kernel
theorem dX4_valueOfAll_3 : decode cX4_valueOfAll 3 = .ok (.istore_n 3, 1) := by decide +kernel
theorem dX4_valueOfAll_4 : decode cX4_valueOfAll 4 = .ok (.iload_n 3, 1) := by decide +kernel
theorem dX4_valueOfAll_5 : decode cX4_valueOfAll 5 = .ok (.aload_n 1, 1) := by decide +kernel
theorem dX4_valueOfAll_6 : decode cX4_valueOfAll 6 = .ok (.getfield 102, 3) := by decide +kernel
theorem dX4_valueOfAll_9 : decode cX4_valueOfAll 9 = .ok (.if_icmp .ge 18, 3) := by decide +kernel
theorem dX4_valueOfAll_12 : decode cX4_valueOfAll 12 = .ok (.iload_n 2, 1) := by decide +kernel
theorem dX4_valueOfAll_13 : decode cX4_valueOfAll 13 = .ok (.aload_n 0, 1) := by decide +kernel
theorem dX4_valueOfAll_14 : decode cX4_valueOfAll 14 = .ok (.aload_n 1, 1) := by decide +kernel
theorem dX4_valueOfAll_15 : decode cX4_valueOfAll 15 = .ok (.iload_n 3, 1) := by decide +kernel
theorem dX4_valueOfAll_16 : decode cX4_valueOfAll 16 = .ok (.invokevirtual 67, 3) := by decide +kernel
theorem dX4_valueOfAll_19 : decode cX4_valueOfAll 19 = .ok (.iadd, 1) := by decide +kernel
theorem dX4_valueOfAll_20 : decode cX4_valueOfAll 20 = .ok (.istore_n 2, 1) := by decide +kernel
theorem dX4_valueOfAll_21 : decode cX4_valueOfAll 21 = .ok (.iinc 3 1, 3) := by decide +kernel
theorem dX4_valueOfAll_24 : decode cX4_valueOfAll 24 = .ok (.goto (-20), 3) := by decide +kernel
theorem dX4_valueOfAll_27 : decode cX4_valueOfAll 27 = .ok (.iload_n 2, 1) := by decide +kernel
theorem dX4_valueOfAll_28 : decode cX4_valueOfAll 28 = .ok (.ireturn, 1) := by decide +kernel
theorem dX4_valueOfSet_0 : decode cX4_valueOfSet 0 = .ok (.iconst 0, 1) := by decide +kernel
theorem dX4_valueOfSet_1 : decode cX4_valueOfSet 1 = .ok (.istore 4, 2) := by decide +kernel
theorem dX4_valueOfSet_3 : decode cX4_valueOfSet 3 = .ok (.iconst 0, 1) := by decide +kernel
theorem dX4_valueOfSet_4 : decode cX4_valueOfSet 4 = .ok (.istore 5, 2) := by decide +kernel
theorem dX4_valueOfSet_6 : decode cX4_valueOfSet 6 = .ok (.iload 5, 2) := by decide +kernel
theorem dX4_valueOfSet_8 : decode cX4_valueOfSet 8 = .ok (.aload_n 1, 1) := by decide +kernel
theorem dX4_valueOfSet_9 : decode cX4_valueOfSet 9 = .ok (.getfield 102, 3) := by decide +kernel
theorem dX4_valueOfSet_12 : decode cX4_valueOfSet 12 = .ok (.if_icmp .ge 38, 3) := by decide +kernel
theorem dX4_valueOfSet_15 : decode cX4_valueOfSet 15 = .ok (.iload_n 3, 1) := by decide +kernel
theorem dX4_valueOfSet_16 : decode cX4_valueOfSet 16 = .ok (.iload 5, 2) := by decide +kernel
theorem dX4_valueOfSet_18 : decode cX4_valueOfSet 18 = .ok (.invokestatic 61, 3) := by decide +kernel
theorem dX4_valueOfSet_21 : decode cX4_valueOfSet 21 = .ok (.ifCond .eq 23, 3) := by decide +kernel
theorem dX4_valueOfSet_24 : decode cX4_valueOfSet 24 = .ok (.iload 4, 2) := by decide +kernel
theorem dX4_valueOfSet_26 : decode cX4_valueOfSet 26 = .ok (.aload_n 0, 1) := by decide +kernel
theorem dX4_valueOfSet_27 : decode cX4_valueOfSet 27 = .ok (.iload_n 2, 1) := by decide +kernel
theorem dX4_valueOfSet_28 : decode cX4_valueOfSet 28 = .ok (.iload 5, 2) := by decide +kernel
theorem dX4_valueOfSet_30 : decode cX4_valueOfSet 30 = .ok (.invokevirtual 71, 3) := by decide +kernel
theorem dX4_valueOfSet_33 : decode cX4_valueOfSet 33 = .ok (.aload_n 0, 1) := by decide +kernel
theorem dX4_valueOfSet_34 : decode cX4_valueOfSet 34 = .ok (.aload_n 1, 1) := by decide +kernel
theorem dX4_valueOfSet_35 : decode cX4_valueOfSet 35 = .ok (.iload 5, 2) := by decide +kernel
theorem dX4_valueOfSet_37 : decode cX4_valueOfSet 37 = .ok (.invokevirtual 67, 3) := by decide +kernel
theorem dX4_valueOfSet_40 : decode cX4_valueOfSet 40 = .ok (.imul, 1) := by decide +kernel
theorem dX4_valueOfSet_41 : decode cX4_valueOfSet 41 = .ok (.iadd, 1) := by decide +kernel
theorem dX4_valueOfSet_42 : decode cX4_valueOfSet 42 = .ok (.istore 4, 2) := by decide +kernel
theorem dX4_valueOfSet_44 : decode cX4_valueOfSet 44 = .ok (.iinc 5 1, 3) := by decide +kernel
theorem dX4_valueOfSet_47 : decode cX4_valueOfSet 47 = .ok (.goto (-41), 3) := by decide +kernel
theorem dX4_valueOfSet_50 : decode cX4_valueOfSet 50 = .ok (.iload 4, 2) := by decide +kernel
theorem dX4_valueOfSet_52 : decode cX4_valueOfSet 52 = .ok (.ireturn, 1) := by decide +kernel
theorem dX4_valueOfPurses_0 : decode cX4_valueOfPurses 0 = .ok (.iconst 0, 1) := by decide +kernel
theorem dX4_valueOfPurses_1 : decode cX4_valueOfPurses 1 = .ok (.istore_n 2, 1) := by decide +kernel
theorem dX4_valueOfPurses_2 : decode cX4_valueOfPurses 2 = .ok (.iconst 0, 1) := by decide +kernel
theorem dX4_valueOfPurses_3 : decode cX4_valueOfPurses 3 = .ok (.istore_n 3, 1) := by decide +kernel
theorem dX4_valueOfPurses_4 : decode cX4_valueOfPurses 4 = .ok (.iload_n 3, 1) := by decide +kernel
theorem dX4_valueOfPurses_5 : decode cX4_valueOfPurses 5 = .ok (.aload_n 1, 1) := by decide +kernel
theorem dX4_valueOfPurses_6 : decode cX4_valueOfPurses 6 = .ok (.getfield 89, 3) := by decide +kernel
theorem dX4_valueOfPurses_9 : decode cX4_valueOfPurses 9 = .ok (.if_icmp .ge 20, 3) := by decide +kernel
theorem dX4_valueOfPurses_12 : decode cX4_valueOfPurses 12 = .ok (.iload_n 2, 1) := by decide +kernel
theorem dX4_valueOfPurses_13 : decode cX4_valueOfPurses 13 = .ok (.aload_n 0, 1) := by decide +kernel
theorem dX4_valueOfPurses_14 : decode cX4_valueOfPurses 14 = .ok (.aload_n 1, 1) := by decide +kernel
theorem dX4_valueOfPurses_15 : decode cX4_valueOfPurses 15 = .ok (.iload_n 3, 1) := by decide +kernel
theorem dX4_valueOfPurses_16 : decode cX4_valueOfPurses 16 = .ok (.bipush 31, 2) := by decide +kernel
theorem dX4_valueOfPurses_18 : decode cX4_valueOfPurses 18 = .ok (.invokevirtual 105, 3) := by decide +kernel
theorem dX4_valueOfPurses_21 : decode cX4_valueOfPurses 21 = .ok (.iadd, 1) := by decide +kernel
theorem dX4_valueOfPurses_22 : decode cX4_valueOfPurses 22 = .ok (.istore_n 2, 1) := by decide +kernel
theorem dX4_valueOfPurses_23 : decode cX4_valueOfPurses 23 = .ok (.iinc 3 1, 3) := by decide +kernel
theorem dX4_valueOfPurses_26 : decode cX4_valueOfPurses 26 = .ok (.goto (-22), 3) := by decide +kernel
theorem dX4_valueOfPurses_29 : decode cX4_valueOfPurses 29 = .ok (.iload_n 2, 1) := by decide +kernel
theorem dX4_valueOfPurses_30 : decode cX4_valueOfPurses 30 = .ok (.ireturn, 1) := by decide +kernel
theorem dX4_allCoins_0 : decode cX4_allCoins 0 = .ok (.iconst 0, 1) := by decide +kernel
theorem dX4_allCoins_1 : decode cX4_allCoins 1 = .ok (.istore_n 1, 1) := by decide +kernel
theorem dX4_allCoins_2 : decode cX4_allCoins 2 = .ok (.iconst 0, 1) := by decide +kernel
theorem dX4_allCoins_3 : decode cX4_allCoins 3 = .ok (.istore_n 2, 1) := by decide +kernel
theorem dX4_allCoins_4 : decode cX4_allCoins 4 = .ok (.iload_n 2, 1) := by decide +kernel
theorem dX4_allCoins_5 : decode cX4_allCoins 5 = .ok (.aload_n 0, 1) := by decide +kernel
theorem dX4_allCoins_6 : decode cX4_allCoins 6 = .ok (.getfield 18, 3) := by decide +kernel
theorem dX4_allCoins_9 : decode cX4_allCoins 9 = .ok (.arraylength, 1) := by decide +kernel
theorem dX4_allCoins_10 : decode cX4_allCoins 10 = .ok (.if_icmp .ge 18, 3) := by decide +kernel
theorem dX4_allCoins_13 : decode cX4_allCoins 13 = .ok (.iload_n 1, 1) := by decide +kernel
theorem dX4_allCoins_14 : decode cX4_allCoins 14 = .ok (.aload_n 0, 1) := by decide +kernel
theorem dX4_allCoins_15 : decode cX4_allCoins 15 = .ok (.getfield 18, 3) := by decide +kernel
theorem dX4_allCoins_18 : decode cX4_allCoins 18 = .ok (.iload_n 2, 1) := by decide +kernel
theorem dX4_allCoins_19 : decode cX4_allCoins 19 = .ok (.iaload, 1) := by decide +kernel
theorem dX4_allCoins_20 : decode cX4_allCoins 20 = .ok (.iadd, 1) := by decide +kernel
theorem dX4_allCoins_21 : decode cX4_allCoins 21 = .ok (.istore_n 1, 1) := by decide +kernel
theorem dX4_allCoins_22 : decode cX4_allCoins 22 = .ok (.iinc 2 1, 3) := by decide +kernel
theorem dX4_allCoins_25 : decode cX4_allCoins 25 = .ok (.goto (-21), 3) := by decide +kernel
theorem dX4_allCoins_28 : decode cX4_allCoins 28 = .ok (.iload_n 1, 1) := by decide +kernel
theorem dX4_allCoins_29 : decode cX4_allCoins 29 = .ok (.ireturn, 1) := by decide +kernel
theorem dX4_rumoursSaid_0 : decode cX4_rumoursSaid 0 = .ok (.iconst 0, 1) := by decide +kernel
theorem dX4_rumoursSaid_1 : decode cX4_rumoursSaid 1 = .ok (.istore_n 1, 1) := by decide +kernel
theorem dX4_rumoursSaid_2 : decode cX4_rumoursSaid 2 = .ok (.iconst 0, 1) := by decide +kernel
theorem dX4_rumoursSaid_3 : decode cX4_rumoursSaid 3 = .ok (.istore_n 2, 1) := by decide +kernel
theorem dX4_rumoursSaid_4 : decode cX4_rumoursSaid 4 = .ok (.iload_n 2, 1) := by decide +kernel
theorem dX4_rumoursSaid_5 : decode cX4_rumoursSaid 5 = .ok (.iconst 5, 1) := by decide +kernel
theorem dX4_rumoursSaid_6 : decode cX4_rumoursSaid 6 = .ok (.if_icmp .ge 28, 3) := by decide +kernel
theorem dX4_rumoursSaid_9 : decode cX4_rumoursSaid 9 = .ok (.iload_n 1, 1) := by decide +kernel
theorem dX4_rumoursSaid_10 : decode cX4_rumoursSaid 10 = .ok (.aload_n 0, 1) := by decide +kernel
theorem dX4_rumoursSaid_11 : decode cX4_rumoursSaid 11 = .ok (.getfield 9, 3) := by decide +kernel
theorem dX4_rumoursSaid_14 : decode cX4_rumoursSaid 14 = .ok (.iload_n 2, 1) := by decide +kernel
theorem dX4_rumoursSaid_15 : decode cX4_rumoursSaid 15 = .ok (.iaload, 1) := by decide +kernel
theorem dX4_rumoursSaid_16 : decode cX4_rumoursSaid 16 = .ok (.ifCond .eq 9, 3) := by decide +kernel
theorem dX4_rumoursSaid_19 : decode cX4_rumoursSaid 19 = .ok (.iconst 1, 1) := by decide +kernel
theorem dX4_rumoursSaid_20 : decode cX4_rumoursSaid 20 = .ok (.iload_n 2, 1) := by decide +kernel
theorem dX4_rumoursSaid_21 : decode cX4_rumoursSaid 21 = .ok (.ishl, 1) := by decide +kernel
theorem dX4_rumoursSaid_22 : decode cX4_rumoursSaid 22 = .ok (.goto 4, 3) := by decide +kernel
theorem dX4_rumoursSaid_25 : decode cX4_rumoursSaid 25 = .ok (.iconst 0, 1) := by decide +kernel
theorem dX4_rumoursSaid_26 : decode cX4_rumoursSaid 26 = .ok (.ior, 1) := by decide +kernel
theorem dX4_rumoursSaid_27 : decode cX4_rumoursSaid 27 = .ok (.istore_n 1, 1) := by decide +kernel
theorem dX4_rumoursSaid_28 : decode cX4_rumoursSaid 28 = .ok (.iinc 2 1, 3) := by decide +kernel
theorem dX4_rumoursSaid_31 : decode cX4_rumoursSaid 31 = .ok (.goto (-27), 3) := by decide +kernel
theorem dX4_rumoursSaid_34 : decode cX4_rumoursSaid 34 = .ok (.iload_n 1, 1) := by decide +kernel
theorem dX4_rumoursSaid_35 : decode cX4_rumoursSaid 35 = .ok (.ireturn, 1) := by decide +kernel
theorem dX5_init_0 : decode cX5_init 0 = .ok (.aload_n 0, 1) := by decide +kernel
theorem dX5_init_1 : decode cX5_init 1 = .ok (.invokespecial 3, 3) := by decide +kernel
theorem dX5_init_4 : decode cX5_init 4 = .ok (.aload_n 0, 1) := by decide +kernel
theorem dX5_init_5 : decode cX5_init 5 = .ok (.iconst 5, 1) := by decide +kernel
theorem dX5_init_6 : decode cX5_init 6 = .ok (.newarray .int, 2) := by decide +kernel
theorem dX5_init_8 : decode cX5_init 8 = .ok (.putfield 9, 3) := by decide +kernel
theorem dX5_init_11 : decode cX5_init 11 = .ok (.aload_n 0, 1) := by decide +kernel
theorem dX5_init_12 : decode cX5_init 12 = .ok (.iconst 5, 1) := by decide +kernel
theorem dX5_init_13 : decode cX5_init 13 = .ok (.newarray .boolean, 2) := by decide +kernel
theorem dX5_init_15 : decode cX5_init 15 = .ok (.putfield 15, 3) := by decide +kernel
theorem dX5_init_18 : decode cX5_init 18 = .ok (.aload_n 0, 1) := by decide +kernel
theorem dX5_init_19 : decode cX5_init 19 = .ok (.iconst 5, 1) := by decide +kernel
theorem dX5_init_20 : decode cX5_init 20 = .ok (.newarray .int, 2) := by decide +kernel
theorem dX5_init_22 : decode cX5_init 22 = .ok (.putfield 19, 3) := by decide +kernel
theorem dX5_init_25 : decode cX5_init 25 = .ok (.aload_n 0, 1) := by decide +kernel
theorem dX5_init_26 : decode cX5_init 26 = .ok (.iconst 5, 1) := by decide +kernel
theorem dX5_init_27 : decode cX5_init 27 = .ok (.newarray .int, 2) := by decide +kernel
theorem dX5_init_29 : decode cX5_init 29 = .ok (.putfield 22, 3) := by decide +kernel
theorem dX5_init_32 : decode cX5_init 32 = .ok (.aload_n 0, 1) := by decide +kernel
theorem dX5_init_33 : decode cX5_init 33 = .ok (.iconst 5, 1) := by decide +kernel
theorem dX5_init_34 : decode cX5_init 34 = .ok (.newarray .int, 2) := by decide +kernel
theorem dX5_init_36 : decode cX5_init 36 = .ok (.putfield 25, 3) := by decide +kernel
theorem dX5_init_39 : decode cX5_init 39 = .ok (.aload_n 0, 1) := by decide +kernel
theorem dX5_init_40 : decode cX5_init 40 = .ok (.iconst 4, 1) := by decide +kernel
theorem dX5_init_41 : decode cX5_init 41 = .ok (.newarray .int, 2) := by decide +kernel
theorem dX5_init_43 : decode cX5_init 43 = .ok (.putfield 28, 3) := by decide +kernel
theorem dX5_init_46 : decode cX5_init 46 = .ok (.return_, 1) := by decide +kernel
theorem dX5_clear_0 : decode cX5_clear 0 = .ok (.aload_n 0, 1) := by decide +kernel
theorem dX5_clear_1 : decode cX5_clear 1 = .ok (.iconst 0, 1) := by decide +kernel
theorem dX5_clear_2 : decode cX5_clear 2 = .ok (.putfield 31, 3) := by decide +kernel
theorem dX5_clear_5 : decode cX5_clear 5 = .ok (.aload_n 0, 1) := by decide +kernel
theorem dX5_clear_6 : decode cX5_clear 6 = .ok (.iconst 0, 1) := by decide +kernel
theorem dX5_clear_7 : decode cX5_clear 7 = .ok (.putfield 35, 3) := by decide +kernel
theorem dX5_clear_10 : decode cX5_clear 10 = .ok (.return_, 1) := by decide +kernel
theorem dX5_hasRumour_0 : decode cX5_hasRumour 0 = .ok (.iload_n 1, 1) := by decide +kernel
theorem dX5_hasRumour_1 : decode cX5_hasRumour 1 = .ok (.ifCond .lt 20, 3) := by decide +kernel
theorem dX5_hasRumour_4 : decode cX5_hasRumour 4 = .ok (.iload_n 1, 1) := by decide +kernel
theorem dX5_hasRumour_5 : decode cX5_hasRumour 5 = .ok (.aload_n 0, 1) := by decide +kernel
theorem dX5_hasRumour_6 : decode cX5_hasRumour 6 = .ok (.getfield 31, 3) := by decide +kernel
theorem dX5_hasRumour_9 : decode cX5_hasRumour 9 = .ok (.if_icmp .ge 12, 3) := by decide +kernel
theorem dX5_hasRumour_12 : decode cX5_hasRumour 12 = .ok (.iload_n 1, 1) := by decide +kernel
theorem dX5_hasRumour_13 : decode cX5_hasRumour 13 = .ok (.iconst 5, 1) := by decide +kernel
theorem dX5_hasRumour_14 : decode cX5_hasRumour 14 = .ok (.if_icmp .ge 7, 3) := by decide +kernel
theorem dX5_hasRumour_17 : decode cX5_hasRumour 17 = .ok (.iconst 1, 1) := by decide +kernel
theorem dX5_hasRumour_18 : decode cX5_hasRumour 18 = .ok (.goto 4, 3) := by decide +kernel
theorem dX5_hasRumour_21 : decode cX5_hasRumour 21 = .ok (.iconst 0, 1) := by decide +kernel
theorem dX5_hasRumour_22 : decode cX5_hasRumour 22 = .ok (.ireturn, 1) := by decide +kernel
theorem dX5_hasPerson_0 : decode cX5_hasPerson 0 = .ok (.iload_n 1, 1) := by decide +kernel
theorem dX5_hasPerson_1 : decode cX5_hasPerson 1 = .ok (.ifCond .lt 20, 3) := by decide +kernel
theorem dX5_hasPerson_4 : decode cX5_hasPerson 4 = .ok (.iload_n 1, 1) := by decide +kernel
theorem dX5_hasPerson_5 : decode cX5_hasPerson 5 = .ok (.aload_n 0, 1) := by decide +kernel
theorem dX5_hasPerson_6 : decode cX5_hasPerson 6 = .ok (.getfield 35, 3) := by decide +kernel
theorem dX5_hasPerson_9 : decode cX5_hasPerson 9 = .ok (.if_icmp .ge 12, 3) := by decide +kernel
theorem dX5_hasPerson_12 : decode cX5_hasPerson 12 = .ok (.iload_n 1, 1) := by decide +kernel
theorem dX5_hasPerson_13 : decode cX5_hasPerson 13 = .ok (.iconst 4, 1) := by decide +kernel
theorem dX5_hasPerson_14 : decode cX5_hasPerson 14 = .ok (.if_icmp .ge 7, 3) := by decide +kernel
theorem dX5_hasPerson_17 : decode cX5_hasPerson 17 = .ok (.iconst 1, 1) := by decide +kernel
theorem dX5_hasPerson_18 : decode cX5_hasPerson 18 = .ok (.goto 4, 3) := by decide +kernel
theorem dX5_hasPerson_21 : decode cX5_hasPerson 21 = .ok (.iconst 0, 1) := by decide +kernel
theorem dX5_hasPerson_22 : decode cX5_hasPerson 22 = .ok (.ireturn, 1) := by decide +kernel
theorem dX5_seatOf_0 : decode cX5_seatOf 0 = .ok (.aload_n 0, 1) := by decide +kernel
theorem dX5_seatOf_1 : decode cX5_seatOf 1 = .ok (.getfield 28, 3) := by decide +kernel
theorem dX5_seatOf_4 : decode cX5_seatOf 4 = .ok (.iload_n 1, 1) := by decide +kernel
theorem dX5_seatOf_5 : decode cX5_seatOf 5 = .ok (.invokestatic 38, 3) := by decide +kernel
theorem dX5_seatOf_8 : decode cX5_seatOf 8 = .ok (.ireturn, 1) := by decide +kernel
theorem dX5_isLie_0 : decode cX5_isLie 0 = .ok (.aload_n 0, 1) := by decide +kernel
theorem dX5_isLie_1 : decode cX5_isLie 1 = .ok (.iload_n 1, 1) := by decide +kernel
theorem dX5_isLie_2 : decode cX5_isLie 2 = .ok (.invokevirtual 42, 3) := by decide +kernel
theorem dX5_isLie_5 : decode cX5_isLie 5 = .ok (.ifCond .eq 16, 3) := by decide +kernel
theorem dX5_isLie_8 : decode cX5_isLie 8 = .ok (.aload_n 0, 1) := by decide +kernel
theorem dX5_isLie_9 : decode cX5_isLie 9 = .ok (.getfield 15, 3) := by decide +kernel
theorem dX5_isLie_12 : decode cX5_isLie 12 = .ok (.iload_n 1, 1) := by decide +kernel
theorem dX5_isLie_13 : decode cX5_isLie 13 = .ok (.baload, 1) := by decide +kernel
theorem dX5_isLie_14 : decode cX5_isLie 14 = .ok (.ifCond .eq 7, 3) := by decide +kernel
theorem dX5_isLie_17 : decode cX5_isLie 17 = .ok (.iconst 1, 1) := by decide +kernel
theorem dX5_isLie_18 : decode cX5_isLie 18 = .ok (.goto 4, 3) := by decide +kernel
theorem dX5_isLie_21 : decode cX5_isLie 21 = .ok (.iconst 0, 1) := by decide +kernel
theorem dX5_isLie_22 : decode cX5_isLie 22 = .ok (.ireturn, 1) := by decide +kernel
theorem dX5_isProved_0 : decode cX5_isProved 0 = .ok (.aload_n 0, 1) := by decide +kernel
theorem dX5_isProved_1 : decode cX5_isProved 1 = .ok (.getfield 19, 3) := by decide +kernel
theorem dX5_isProved_4 : decode cX5_isProved 4 = .ok (.iload_n 1, 1) := by decide +kernel
theorem dX5_isProved_5 : decode cX5_isProved 5 = .ok (.invokestatic 38, 3) := by decide +kernel
theorem dX5_isProved_8 : decode cX5_isProved 8 = .ok (.istore_n 3, 1) := by decide +kernel
theorem dX5_isProved_9 : decode cX5_isProved 9 = .ok (.iload_n 3, 1) := by decide +kernel
theorem dX5_isProved_10 : decode cX5_isProved 10 = .ok (.ifCond .eq 12, 3) := by decide +kernel
theorem dX5_isProved_13 : decode cX5_isProved 13 = .ok (.iload_n 2, 1) := by decide +kernel
theorem dX5_isProved_14 : decode cX5_isProved 14 = .ok (.iload_n 3, 1) := by decide +kernel
theorem dX5_isProved_15 : decode cX5_isProved 15 = .ok (.if_icmp .lt 7, 3) := by decide +kernel
theorem dX5_isProved_18 : decode cX5_isProved 18 = .ok (.iconst 1, 1) := by decide +kernel
theorem dX5_isProved_19 : decode cX5_isProved 19 = .ok (.goto 4, 3) := by decide +kernel
theorem dX5_isProved_22 : decode cX5_isProved 22 = .ok (.iconst 0, 1) := by decide +kernel
theorem dX5_isProved_23 : decode cX5_isProved 23 = .ok (.ireturn, 1) := by decide +kernel
theorem dX5_isProvedTrue_0 : decode cX5_isProvedTrue 0 = .ok (.aload_n 0, 1) := by decide +kernel
theorem dX5_isProvedTrue_1 : decode cX5_isProvedTrue 1 = .ok (.iload_n 1, 1) := by decide +kernel
theorem dX5_isProvedTrue_2 : decode cX5_isProvedTrue 2 = .ok (.iload_n 2, 1) := by decide +kernel
theorem dX5_isProvedTrue_3 : decode cX5_isProvedTrue 3 = .ok (.invokevirtual 46, 3) := by decide +kernel
theorem dX5_isProvedTrue_6 : decode cX5_isProvedTrue 6 = .ok (.ifCond .eq 15, 3) := by decide +kernel
theorem dX5_isProvedTrue_9 : decode cX5_isProvedTrue 9 = .ok (.aload_n 0, 1) := by decide +kernel
theorem dX5_isProvedTrue_10 : decode cX5_isProvedTrue 10 = .ok (.iload_n 1, 1) := by decide +kernel
theorem dX5_isProvedTrue_11 : decode cX5_isProvedTrue 11 = .ok (.invokevirtual 50, 3) := by decide +kernel
theorem dX5_isProvedTrue_14 : decode cX5_isProvedTrue 14 = .ok (.ifCond .ne 7, 3) := by decide +kernel
theorem dX5_isProvedTrue_17 : decode cX5_isProvedTrue 17 = .ok (.iconst 1, 1) := by decide +kernel
theorem dX5_isProvedTrue_18 : decode cX5_isProvedTrue 18 = .ok (.goto 4, 3) := by decide +kernel
theorem dX5_isProvedTrue_21 : decode cX5_isProvedTrue 21 = .ok (.iconst 0, 1) := by decide +kernel
theorem dX5_isProvedTrue_22 : decode cX5_isProvedTrue 22 = .ok (.ireturn, 1) := by decide +kernel
theorem dX5_valueOn_0 : decode cX5_valueOn 0 = .ok (.aload_n 0, 1) := by decide +kernel
theorem dX5_valueOn_1 : decode cX5_valueOn 1 = .ok (.getfield 9, 3) := by decide +kernel
theorem dX5_valueOn_4 : decode cX5_valueOn 4 = .ok (.iload_n 2, 1) := by decide +kernel
theorem dX5_valueOn_5 : decode cX5_valueOn 5 = .ok (.invokestatic 38, 3) := by decide +kernel
theorem dX5_valueOn_8 : decode cX5_valueOn 8 = .ok (.istore 5, 2) := by decide +kernel
theorem dX5_valueOn_10 : decode cX5_valueOn 10 = .ok (.aload_n 0, 1) := by decide +kernel
theorem dX5_valueOn_11 : decode cX5_valueOn 11 = .ok (.iload_n 2, 1) := by decide +kernel
theorem dX5_valueOn_12 : decode cX5_valueOn 12 = .ok (.iload_n 1, 1) := by decide +kernel
theorem dX5_valueOn_13 : decode cX5_valueOn 13 = .ok (.invokevirtual 46, 3) := by decide +kernel
theorem dX5_valueOn_16 : decode cX5_valueOn 16 = .ok (.ifCond .eq 20, 3) := by decide +kernel
theorem dX5_valueOn_19 : decode cX5_valueOn 19 = .ok (.aload_n 0, 1) := by decide +kernel
theorem dX5_valueOn_20 : decode cX5_valueOn 20 = .ok (.iload_n 2, 1) := by decide +kernel
theorem dX5_valueOn_21 : decode cX5_valueOn 21 = .ok (.invokevirtual 50, 3) := by decide +kernel
theorem dX5_valueOn_24 : decode cX5_valueOn 24 = .ok (.ifCond .eq 7, 3) := by decide +kernel
theorem dX5_valueOn_27 : decode cX5_valueOn 27 = .ok (.iconst 0, 1) := by decide +kernel
theorem dX5_valueOn_28 : decode cX5_valueOn 28 = .ok (.goto 7, 3) := by decide +kernel
theorem dX5_valueOn_31 : decode cX5_valueOn 31 = .ok (.iconst 2, 1) := by decide +kernel
theorem dX5_valueOn_32 : decode cX5_valueOn 32 = .ok (.iload 5, 2) := by decide +kernel
theorem dX5_valueOn_34 : decode cX5_valueOn 34 = .ok (.imul, 1) := by decide +kernel
theorem dX5_valueOn_35 : decode cX5_valueOn 35 = .ok (.ireturn, 1) := by decide +kernel
theorem dX5_valueOn_36 : decode cX5_valueOn 36 = .ok (.iconst 0, 1) := by decide +kernel
theorem dX5_valueOn_37 : decode cX5_valueOn 37 = .ok (.iload 5, 2) := by decide +kernel
theorem dX5_valueOn_39 : decode cX5_valueOn 39 = .ok (.iload_n 3, 1) := by decide +kernel
theorem dX5_valueOn_40 : decode cX5_valueOn 40 = .ok (.invokestatic 53, 3) := by decide +kernel
theorem dX5_valueOn_43 : decode cX5_valueOn 43 = .ok (.iadd, 1) := by decide +kernel
theorem dX5_valueOn_44 : decode cX5_valueOn 44 = .ok (.iload 4, 2) := by decide +kernel
theorem dX5_valueOn_46 : decode cX5_valueOn 46 = .ok (.invokestatic 53, 3) := by decide +kernel
theorem dX5_valueOn_49 : decode cX5_valueOn 49 = .ok (.isub, 1) := by decide +kernel
theorem dX5_valueOn_50 : decode cX5_valueOn 50 = .ok (.invokestatic 59, 3) := by decide +kernel
theorem dX5_valueOn_53 : decode cX5_valueOn 53 = .ok (.ireturn, 1) := by decide +kernel
theorem dX5_saidAfterDawn_0 : decode cX5_saidAfterDawn 0 = .ok (.aload_n 0, 1) := by decide +kernel
theorem dX5_saidAfterDawn_1 : decode cX5_saidAfterDawn 1 = .ok (.iload_n 1, 1) := by decide +kernel
theorem dX5_saidAfterDawn_2 : decode cX5_saidAfterDawn 2 = .ok (.iload 4, 2) := by decide +kernel
theorem dX5_saidAfterDawn_4 : decode cX5_saidAfterDawn 4 = .ok (.iconst 1, 1) := by decide +kernel
theorem dX5_saidAfterDawn_5 : decode cX5_saidAfterDawn 5 = .ok (.iadd, 1) := by decide +kernel
theorem dX5_saidAfterDawn_6 : decode cX5_saidAfterDawn 6 = .ok (.invokevirtual 46, 3) := by decide +kernel
theorem dX5_saidAfterDawn_9 : decode cX5_saidAfterDawn 9 = .ok (.ifCond .eq 13, 3) := by decide +kernel
theorem dX5_saidAfterDawn_12 : decode cX5_saidAfterDawn 12 = .ok (.aload_n 0, 1) := by decide +kernel
theorem dX5_saidAfterDawn_13 : decode cX5_saidAfterDawn 13 = .ok (.iload_n 1, 1) := by decide +kernel
theorem dX5_saidAfterDawn_14 : decode cX5_saidAfterDawn 14 = .ok (.invokevirtual 50, 3) := by decide +kernel
theorem dX5_saidAfterDawn_17 : decode cX5_saidAfterDawn 17 = .ok (.ifCond .eq 5, 3) := by decide +kernel
theorem dX5_saidAfterDawn_20 : decode cX5_saidAfterDawn 20 = .ok (.iconst 0, 1) := by decide +kernel
theorem dX5_saidAfterDawn_21 : decode cX5_saidAfterDawn 21 = .ok (.ireturn, 1) := by decide +kernel
theorem dX5_saidAfterDawn_22 : decode cX5_saidAfterDawn 22 = .ok (.iload_n 2, 1) := by decide +kernel
theorem dX5_saidAfterDawn_23 : decode cX5_saidAfterDawn 23 = .ok (.iload_n 2, 1) := by decide +kernel
theorem dX5_saidAfterDawn_24 : decode cX5_saidAfterDawn 24 = .ok (.iconst 1, 1) := by decide +kernel
theorem dX5_saidAfterDawn_25 : decode cX5_saidAfterDawn 25 = .ok (.ishl, 1) := by decide +kernel
theorem dX5_saidAfterDawn_26 : decode cX5_saidAfterDawn 26 = .ok (.ior, 1) := by decide +kernel
theorem dX5_saidAfterDawn_27 : decode cX5_saidAfterDawn 27 = .ok (.iload_n 2, 1) := by decide +kernel
theorem dX5_saidAfterDawn_28 : decode cX5_saidAfterDawn 28 = .ok (.iconst 1, 1) := by decide +kernel
theorem dX5_saidAfterDawn_29 : decode cX5_saidAfterDawn 29 = .ok (.ishr, 1) := by decide +kernel
theorem dX5_saidAfterDawn_30 : decode cX5_saidAfterDawn 30 = .ok (.ior, 1) := by decide +kernel
theorem dX5_saidAfterDawn_31 : decode cX5_saidAfterDawn 31 = .ok (.bipush 63, 2) := by decide +kernel
theorem dX5_saidAfterDawn_33 : decode cX5_saidAfterDawn 33 = .ok (.iand, 1) := by decide +kernel
theorem dX5_saidAfterDawn_34 : decode cX5_saidAfterDawn 34 = .ok (.iload_n 3, 1) := by decide +kernel
theorem dX5_saidAfterDawn_35 : decode cX5_saidAfterDawn 35 = .ok (.iconst (-1), 1) := by decide +kernel
theorem dX5_saidAfterDawn_36 : decode cX5_saidAfterDawn 36 = .ok (.ixor, 1) := by decide +kernel
theorem dX5_saidAfterDawn_37 : decode cX5_saidAfterDawn 37 = .ok (.iand, 1) := by decide +kernel
theorem dX5_saidAfterDawn_38 : decode cX5_saidAfterDawn 38 = .ok (.ireturn, 1) := by decide +kernel
theorem dX5_isFreeOfRivals_0 : decode cX5_isFreeOfRivals 0 = .ok (.iconst 0, 1) := by decide +kernel
theorem dX5_isFreeOfRivals_1 : decode cX5_isFreeOfRivals 1 = .ok (.istore_n 2, 1) := by decide +kernel
theorem dX5_isFreeOfRivals_2 : decode cX5_isFreeOfRivals 2 = .ok (.iload_n 2, 1) := by decide +kernel
theorem dX5_isFreeOfRivals_3 : decode cX5_isFreeOfRivals 3 = .ok (.iconst 5, 1) := by decide +kernel
theorem dX5_isFreeOfRivals_4 : decode cX5_isFreeOfRivals 4 = .ok (.if_icmp .ge 30, 3) := by decide +kernel
theorem dX5_isFreeOfRivals_7 : decode cX5_isFreeOfRivals 7 = .ok (.iload_n 1, 1) := by decide +kernel
theorem dX5_isFreeOfRivals_8 : decode cX5_isFreeOfRivals 8 = .ok (.iload_n 2, 1) := by decide +kernel
theorem dX5_isFreeOfRivals_9 : decode cX5_isFreeOfRivals 9 = .ok (.invokestatic 65, 3) := by decide +kernel
theorem dX5_isFreeOfRivals_12 : decode cX5_isFreeOfRivals 12 = .ok (.ifCond .eq 16, 3) := by decide +kernel
theorem dX5_isFreeOfRivals_15 : decode cX5_isFreeOfRivals 15 = .ok (.iload_n 1, 1) := by decide +kernel
theorem dX5_isFreeOfRivals_16 : decode cX5_isFreeOfRivals 16 = .ok (.aload_n 0, 1) := by decide +kernel
theorem dX5_isFreeOfRivals_17 : decode cX5_isFreeOfRivals 17 = .ok (.getfield 22, 3) := by decide +kernel
theorem dX5_isFreeOfRivals_20 : decode cX5_isFreeOfRivals 20 = .ok (.iload_n 2, 1) := by decide +kernel
theorem dX5_isFreeOfRivals_21 : decode cX5_isFreeOfRivals 21 = .ok (.iaload, 1) := by decide +kernel
theorem dX5_isFreeOfRivals_22 : decode cX5_isFreeOfRivals 22 = .ok (.iand, 1) := by decide +kernel
theorem dX5_isFreeOfRivals_23 : decode cX5_isFreeOfRivals 23 = .ok (.ifCond .eq 5, 3) := by decide +kernel
theorem dX5_isFreeOfRivals_26 : decode cX5_isFreeOfRivals 26 = .ok (.iconst 0, 1) := by decide +kernel
theorem dX5_isFreeOfRivals_27 : decode cX5_isFreeOfRivals 27 = .ok (.ireturn, 1) := by decide +kernel
theorem dX5_isFreeOfRivals_28 : decode cX5_isFreeOfRivals 28 = .ok (.iinc 2 1, 3) := by decide +kernel
theorem dX5_isFreeOfRivals_31 : decode cX5_isFreeOfRivals 31 = .ok (.goto (-29), 3) := by decide +kernel
theorem dX5_isFreeOfRivals_34 : decode cX5_isFreeOfRivals 34 = .ok (.iconst 1, 1) := by decide +kernel
theorem dX5_isFreeOfRivals_35 : decode cX5_isFreeOfRivals 35 = .ok (.ireturn, 1) := by decide +kernel
theorem dX5_addRumour_0 : decode cX5_addRumour 0 = .ok (.aload_n 0, 1) := by decide +kernel
theorem dX5_addRumour_1 : decode cX5_addRumour 1 = .ok (.getfield 31, 3) := by decide +kernel
theorem dX5_addRumour_4 : decode cX5_addRumour 4 = .ok (.iconst 5, 1) := by decide +kernel
theorem dX5_addRumour_5 : decode cX5_addRumour 5 = .ok (.invokestatic 68, 3) := by decide +kernel
theorem dX5_addRumour_8 : decode cX5_addRumour 8 = .ok (.ifCond .eq 63, 3) := by decide +kernel
theorem dX5_addRumour_11 : decode cX5_addRumour 11 = .ok (.aload_n 0, 1) := by decide +kernel
theorem dX5_addRumour_12 : decode cX5_addRumour 12 = .ok (.getfield 9, 3) := by decide +kernel
theorem dX5_addRumour_15 : decode cX5_addRumour 15 = .ok (.aload_n 0, 1) := by decide +kernel
theorem dX5_addRumour_16 : decode cX5_addRumour 16 = .ok (.getfield 31, 3) := by decide +kernel
theorem dX5_addRumour_19 : decode cX5_addRumour 19 = .ok (.iload_n 1, 1) := by decide +kernel
theorem dX5_addRumour_20 : decode cX5_addRumour 20 = .ok (.iastore, 1) := by decide +kernel
theorem dX5_addRumour_21 : decode cX5_addRumour 21 = .ok (.aload_n 0, 1) := by decide +kernel
theorem dX5_addRumour_22 : decode cX5_addRumour 22 = .ok (.getfield 15, 3) := by decide +kernel
theorem dX5_addRumour_25 : decode cX5_addRumour 25 = .ok (.aload_n 0, 1) := by decide +kernel
theorem dX5_addRumour_26 : decode cX5_addRumour 26 = .ok (.getfield 31, 3) := by decide +kernel
theorem dX5_addRumour_29 : decode cX5_addRumour 29 = .ok (.iload_n 2, 1) := by decide +kernel
theorem dX5_addRumour_30 : decode cX5_addRumour 30 = .ok (.bastore, 1) := by decide +kernel
theorem dX5_addRumour_31 : decode cX5_addRumour 31 = .ok (.aload_n 0, 1) := by decide +kernel
theorem dX5_addRumour_32 : decode cX5_addRumour 32 = .ok (.getfield 19, 3) := by decide +kernel
theorem dX5_addRumour_35 : decode cX5_addRumour 35 = .ok (.aload_n 0, 1) := by decide +kernel
theorem dX5_addRumour_36 : decode cX5_addRumour 36 = .ok (.getfield 31, 3) := by decide +kernel
theorem dX5_addRumour_39 : decode cX5_addRumour 39 = .ok (.iload_n 3, 1) := by decide +kernel
theorem dX5_addRumour_40 : decode cX5_addRumour 40 = .ok (.iastore, 1) := by decide +kernel
theorem dX5_addRumour_41 : decode cX5_addRumour 41 = .ok (.aload_n 0, 1) := by decide +kernel
theorem dX5_addRumour_42 : decode cX5_addRumour 42 = .ok (.getfield 22, 3) := by decide +kernel
theorem dX5_addRumour_45 : decode cX5_addRumour 45 = .ok (.aload_n 0, 1) := by decide +kernel
theorem dX5_addRumour_46 : decode cX5_addRumour 46 = .ok (.getfield 31, 3) := by decide +kernel
theorem dX5_addRumour_49 : decode cX5_addRumour 49 = .ok (.iconst 0, 1) := by decide +kernel
theorem dX5_addRumour_50 : decode cX5_addRumour 50 = .ok (.iastore, 1) := by decide +kernel
theorem dX5_addRumour_51 : decode cX5_addRumour 51 = .ok (.aload_n 0, 1) := by decide +kernel
theorem dX5_addRumour_52 : decode cX5_addRumour 52 = .ok (.getfield 25, 3) := by decide +kernel
theorem dX5_addRumour_55 : decode cX5_addRumour 55 = .ok (.aload_n 0, 1) := by decide +kernel
theorem dX5_addRumour_56 : decode cX5_addRumour 56 = .ok (.getfield 31, 3) := by decide +kernel
theorem dX5_addRumour_59 : decode cX5_addRumour 59 = .ok (.iconst 0, 1) := by decide +kernel
theorem dX5_addRumour_60 : decode cX5_addRumour 60 = .ok (.iastore, 1) := by decide +kernel
theorem dX5_addRumour_61 : decode cX5_addRumour 61 = .ok (.aload_n 0, 1) := by decide +kernel
theorem dX5_addRumour_62 : decode cX5_addRumour 62 = .ok (.dup, 1) := by decide +kernel
theorem dX5_addRumour_63 : decode cX5_addRumour 63 = .ok (.getfield 31, 3) := by decide +kernel
theorem dX5_addRumour_66 : decode cX5_addRumour 66 = .ok (.iconst 1, 1) := by decide +kernel
theorem dX5_addRumour_67 : decode cX5_addRumour 67 = .ok (.iadd, 1) := by decide +kernel
theorem dX5_addRumour_68 : decode cX5_addRumour 68 = .ok (.putfield 31, 3) := by decide +kernel
theorem dX5_addRumour_71 : decode cX5_addRumour 71 = .ok (.return_, 1) := by decide +kernel
theorem dX5_addPerson_0 : decode cX5_addPerson 0 = .ok (.aload_n 0, 1) := by decide +kernel
theorem dX5_addPerson_1 : decode cX5_addPerson 1 = .ok (.getfield 35, 3) := by decide +kernel
theorem dX5_addPerson_4 : decode cX5_addPerson 4 = .ok (.iconst 4, 1) := by decide +kernel
theorem dX5_addPerson_5 : decode cX5_addPerson 5 = .ok (.invokestatic 68, 3) := by decide +kernel
theorem dX5_addPerson_8 : decode cX5_addPerson 8 = .ok (.ifCond .eq 23, 3) := by decide +kernel
theorem dX5_addPerson_11 : decode cX5_addPerson 11 = .ok (.aload_n 0, 1) := by decide +kernel
theorem dX5_addPerson_12 : decode cX5_addPerson 12 = .ok (.getfield 28, 3) := by decide +kernel
theorem dX5_addPerson_15 : decode cX5_addPerson 15 = .ok (.aload_n 0, 1) := by decide +kernel
theorem dX5_addPerson_16 : decode cX5_addPerson 16 = .ok (.getfield 35, 3) := by decide +kernel
theorem dX5_addPerson_19 : decode cX5_addPerson 19 = .ok (.iload_n 1, 1) := by decide +kernel
theorem dX5_addPerson_20 : decode cX5_addPerson 20 = .ok (.iastore, 1) := by decide +kernel
theorem dX5_addPerson_21 : decode cX5_addPerson 21 = .ok (.aload_n 0, 1) := by decide +kernel
theorem dX5_addPerson_22 : decode cX5_addPerson 22 = .ok (.dup, 1) := by decide +kernel
theorem dX5_addPerson_23 : decode cX5_addPerson 23 = .ok (.getfield 35, 3) := by decide +kernel
theorem dX5_addPerson_26 : decode cX5_addPerson 26 = .ok (.iconst 1, 1) := by decide +kernel
theorem dX5_addPerson_27 : decode cX5_addPerson 27 = .ok (.iadd, 1) := by decide +kernel
theorem dX5_addPerson_28 : decode cX5_addPerson 28 = .ok (.putfield 35, 3) := by decide +kernel
theorem dX5_addPerson_31 : decode cX5_addPerson 31 = .ok (.return_, 1) := by decide +kernel
theorem dX5_addRivals_0 : decode cX5_addRivals 0 = .ok (.aload_n 0, 1) := by decide +kernel
theorem dX5_addRivals_1 : decode cX5_addRivals 1 = .ok (.iload_n 1, 1) := by decide +kernel
theorem dX5_addRivals_2 : decode cX5_addRivals 2 = .ok (.invokevirtual 42, 3) := by decide +kernel
theorem dX5_addRivals_5 : decode cX5_addRivals 5 = .ok (.ifCond .eq 35, 3) := by decide +kernel
theorem dX5_addRivals_8 : decode cX5_addRivals 8 = .ok (.aload_n 0, 1) := by decide +kernel
theorem dX5_addRivals_9 : decode cX5_addRivals 9 = .ok (.iload_n 2, 1) := by decide +kernel
theorem dX5_addRivals_10 : decode cX5_addRivals 10 = .ok (.invokevirtual 42, 3) := by decide +kernel
theorem dX5_addRivals_13 : decode cX5_addRivals 13 = .ok (.ifCond .eq 27, 3) := by decide +kernel
theorem dX5_addRivals_16 : decode cX5_addRivals 16 = .ok (.aload_n 0, 1) := by decide +kernel
theorem dX5_addRivals_17 : decode cX5_addRivals 17 = .ok (.getfield 22, 3) := by decide +kernel
theorem dX5_addRivals_20 : decode cX5_addRivals 20 = .ok (.iload_n 1, 1) := by decide +kernel
theorem dX5_addRivals_21 : decode cX5_addRivals 21 = .ok (.dup2, 1) := by decide +kernel
