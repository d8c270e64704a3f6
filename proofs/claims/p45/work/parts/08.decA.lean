theorem dX0_init_0 : decode cX0_init 0 = .ok (.aload_n 0, 1) := by decide +kernel
theorem dX0_init_1 : decode cX0_init 1 = .ok (.invokespecial 1, 3) := by decide +kernel
theorem dX0_init_4 : decode cX0_init 4 = .ok (.return_, 1) := by decide +kernel
theorem dX0_levelAt_0 : decode cX0_levelAt 0 = .ok (.iload_n 1, 1) := by decide +kernel
theorem dX0_levelAt_1 : decode cX0_levelAt 1 = .ok (.aload_n 0, 1) := by decide +kernel
theorem dX0_levelAt_2 : decode cX0_levelAt 2 = .ok (.getfield 7, 3) := by decide +kernel
theorem dX0_levelAt_5 : decode cX0_levelAt 5 = .ok (.isub, 1) := by decide +kernel
theorem dX0_levelAt_6 : decode cX0_levelAt 6 = .ok (.invokestatic 13, 3) := by decide +kernel
theorem dX0_levelAt_9 : decode cX0_levelAt 9 = .ok (.iload_n 2, 1) := by decide +kernel
theorem dX0_levelAt_10 : decode cX0_levelAt 10 = .ok (.aload_n 0, 1) := by decide +kernel
theorem dX0_levelAt_11 : decode cX0_levelAt 11 = .ok (.getfield 19, 3) := by decide +kernel
theorem dX0_levelAt_14 : decode cX0_levelAt 14 = .ok (.isub, 1) := by decide +kernel
theorem dX0_levelAt_15 : decode cX0_levelAt 15 = .ok (.invokestatic 13, 3) := by decide +kernel
theorem dX0_levelAt_18 : decode cX0_levelAt 18 = .ok (.iadd, 1) := by decide +kernel
theorem dX0_levelAt_19 : decode cX0_levelAt 19 = .ok (.istore_n 3, 1) := by decide +kernel
theorem dX0_levelAt_20 : decode cX0_levelAt 20 = .ok (.iconst 0, 1) := by decide +kernel
theorem dX0_levelAt_21 : decode cX0_levelAt 21 = .ok (.aload_n 0, 1) := by decide +kernel
theorem dX0_levelAt_22 : decode cX0_levelAt 22 = .ok (.getfield 22, 3) := by decide +kernel
theorem dX0_levelAt_25 : decode cX0_levelAt 25 = .ok (.aload_n 0, 1) := by decide +kernel
theorem dX0_levelAt_26 : decode cX0_levelAt 26 = .ok (.getfield 25, 3) := by decide +kernel
theorem dX0_levelAt_29 : decode cX0_levelAt 29 = .ok (.iload_n 3, 1) := by decide +kernel
theorem dX0_levelAt_30 : decode cX0_levelAt 30 = .ok (.imul, 1) := by decide +kernel
theorem dX0_levelAt_31 : decode cX0_levelAt 31 = .ok (.bipush 100, 2) := by decide +kernel
theorem dX0_levelAt_33 : decode cX0_levelAt 33 = .ok (.idiv, 1) := by decide +kernel
theorem dX0_levelAt_34 : decode cX0_levelAt 34 = .ok (.isub, 1) := by decide +kernel
theorem dX0_levelAt_35 : decode cX0_levelAt 35 = .ok (.invokestatic 28, 3) := by decide +kernel
theorem dX0_levelAt_38 : decode cX0_levelAt 38 = .ok (.ireturn, 1) := by decide +kernel
theorem dX0_copyFrom_0 : decode cX0_copyFrom 0 = .ok (.aload_n 0, 1) := by decide +kernel
theorem dX0_copyFrom_1 : decode cX0_copyFrom 1 = .ok (.aload_n 1, 1) := by decide +kernel
theorem dX0_copyFrom_2 : decode cX0_copyFrom 2 = .ok (.getfield 7, 3) := by decide +kernel
theorem dX0_copyFrom_5 : decode cX0_copyFrom 5 = .ok (.putfield 7, 3) := by decide +kernel
theorem dX0_copyFrom_8 : decode cX0_copyFrom 8 = .ok (.aload_n 0, 1) := by decide +kernel
theorem dX0_copyFrom_9 : decode cX0_copyFrom 9 = .ok (.aload_n 1, 1) := by decide +kernel
theorem dX0_copyFrom_10 : decode cX0_copyFrom 10 = .ok (.getfield 19, 3) := by decide +kernel
theorem dX0_copyFrom_13 : decode cX0_copyFrom 13 = .ok (.putfield 19, 3) := by decide +kernel
theorem dX0_copyFrom_16 : decode cX0_copyFrom 16 = .ok (.aload_n 0, 1) := by decide +kernel
theorem dX0_copyFrom_17 : decode cX0_copyFrom 17 = .ok (.aload_n 1, 1) := by decide +kernel
theorem dX0_copyFrom_18 : decode cX0_copyFrom 18 = .ok (.getfield 22, 3) := by decide +kernel
theorem dX0_copyFrom_21 : decode cX0_copyFrom 21 = .ok (.putfield 22, 3) := by decide +kernel
theorem dX0_copyFrom_24 : decode cX0_copyFrom 24 = .ok (.aload_n 0, 1) := by decide +kernel
theorem dX0_copyFrom_25 : decode cX0_copyFrom 25 = .ok (.aload_n 1, 1) := by decide +kernel
theorem dX0_copyFrom_26 : decode cX0_copyFrom 26 = .ok (.getfield 25, 3) := by decide +kernel
theorem dX0_copyFrom_29 : decode cX0_copyFrom 29 = .ok (.putfield 25, 3) := by decide +kernel
theorem dX0_copyFrom_32 : decode cX0_copyFrom 32 = .ok (.aload_n 0, 1) := by decide +kernel
theorem dX0_copyFrom_33 : decode cX0_copyFrom 33 = .ok (.aload_n 1, 1) := by decide +kernel
theorem dX0_copyFrom_34 : decode cX0_copyFrom 34 = .ok (.getfield 32, 3) := by decide +kernel
theorem dX0_copyFrom_37 : decode cX0_copyFrom 37 = .ok (.putfield 32, 3) := by decide +kernel
theorem dX0_copyFrom_40 : decode cX0_copyFrom 40 = .ok (.aload_n 0, 1) := by decide +kernel
theorem dX0_copyFrom_41 : decode cX0_copyFrom 41 = .ok (.aload_n 1, 1) := by decide +kernel
theorem dX0_copyFrom_42 : decode cX0_copyFrom 42 = .ok (.getfield 35, 3) := by decide +kernel
theorem dX0_copyFrom_45 : decode cX0_copyFrom 45 = .ok (.putfield 35, 3) := by decide +kernel
theorem dX0_copyFrom_48 : decode cX0_copyFrom 48 = .ok (.aload_n 0, 1) := by decide +kernel
theorem dX0_copyFrom_49 : decode cX0_copyFrom 49 = .ok (.aload_n 1, 1) := by decide +kernel
theorem dX0_copyFrom_50 : decode cX0_copyFrom 50 = .ok (.getfield 38, 3) := by decide +kernel
theorem dX0_copyFrom_53 : decode cX0_copyFrom 53 = .ok (.putfield 38, 3) := by decide +kernel
theorem dX0_copyFrom_56 : decode cX0_copyFrom 56 = .ok (.aload_n 0, 1) := by decide +kernel
theorem dX0_copyFrom_57 : decode cX0_copyFrom 57 = .ok (.aload_n 1, 1) := by decide +kernel
theorem dX0_copyFrom_58 : decode cX0_copyFrom 58 = .ok (.getfield 41, 3) := by decide +kernel
theorem dX0_copyFrom_61 : decode cX0_copyFrom 61 = .ok (.putfield 41, 3) := by decide +kernel
theorem dX0_copyFrom_64 : decode cX0_copyFrom 64 = .ok (.aload_n 0, 1) := by decide +kernel
theorem dX0_copyFrom_65 : decode cX0_copyFrom 65 = .ok (.aload_n 1, 1) := by decide +kernel
theorem dX0_copyFrom_66 : decode cX0_copyFrom 66 = .ok (.getfield 44, 3) := by decide +kernel
theorem dX0_copyFrom_69 : decode cX0_copyFrom 69 = .ok (.putfield 44, 3) := by decide +kernel
theorem dX0_copyFrom_72 : decode cX0_copyFrom 72 = .ok (.return_, 1) := by decide +kernel
theorem dX1_init_0 : decode cX1_init 0 = .ok (.aload_n 0, 1) := by decide +kernel
theorem dX1_init_1 : decode cX1_init 1 = .ok (.invokespecial 3, 3) := by decide +kernel
theorem dX1_init_4 : decode cX1_init 4 = .ok (.aload_n 0, 1) := by decide +kernel
theorem dX1_init_5 : decode cX1_init 5 = .ok (.bipush 12, 2) := by decide +kernel
theorem dX1_init_7 : decode cX1_init 7 = .ok (.anewarray 9, 3) := by decide +kernel
theorem dX1_init_10 : decode cX1_init 10 = .ok (.putfield 11, 3) := by decide +kernel
theorem dX1_init_13 : decode cX1_init 13 = .ok (.iconst 0, 1) := by decide +kernel
theorem dX1_init_14 : decode cX1_init 14 = .ok (.istore_n 1, 1) := by decide +kernel
theorem dX1_init_15 : decode cX1_init 15 = .ok (.iload_n 1, 1) := by decide +kernel
theorem dX1_init_16 : decode cX1_init 16 = .ok (.aload_n 0, 1) := by decide +kernel
theorem dX1_init_17 : decode cX1_init 17 = .ok (.getfield 11, 3) := by decide +kernel
theorem dX1_init_20 : decode cX1_init 20 = .ok (.arraylength, 1) := by decide +kernel
theorem dX1_init_21 : decode cX1_init 21 = .ok (.if_icmp .ge 22, 3) := by decide +kernel
theorem dX1_init_24 : decode cX1_init 24 = .ok (.aload_n 0, 1) := by decide +kernel
theorem dX1_init_25 : decode cX1_init 25 = .ok (.getfield 11, 3) := by decide +kernel
theorem dX1_init_28 : decode cX1_init 28 = .ok (.iload_n 1, 1) := by decide +kernel
theorem dX1_init_29 : decode cX1_init 29 = .ok (.new 9, 3) := by decide +kernel
theorem dX1_init_32 : decode cX1_init 32 = .ok (.dup, 1) := by decide +kernel
theorem dX1_init_33 : decode cX1_init 33 = .ok (.invokespecial 17, 3) := by decide +kernel
theorem dX1_init_36 : decode cX1_init 36 = .ok (.aastore, 1) := by decide +kernel
theorem dX1_init_37 : decode cX1_init 37 = .ok (.iinc 1 1, 3) := by decide +kernel
theorem dX1_init_40 : decode cX1_init 40 = .ok (.goto (-25), 3) := by decide +kernel
theorem dX1_init_43 : decode cX1_init 43 = .ok (.return_, 1) := by decide +kernel
theorem dX1_forget_0 : decode cX1_forget 0 = .ok (.aload_n 0, 1) := by decide +kernel
theorem dX1_forget_1 : decode cX1_forget 1 = .ok (.iconst 0, 1) := by decide +kernel
theorem dX1_forget_2 : decode cX1_forget 2 = .ok (.putfield 18, 3) := by decide +kernel
theorem dX1_forget_5 : decode cX1_forget 5 = .ok (.return_, 1) := by decide +kernel
theorem dX1_record_0 : decode cX1_record 0 = .ok (.aload_n 0, 1) := by decide +kernel
theorem dX1_record_1 : decode cX1_record 1 = .ok (.getfield 22, 3) := by decide +kernel
theorem dX1_record_4 : decode cX1_record 4 = .ok (.ifCond .lt 27, 3) := by decide +kernel
theorem dX1_record_7 : decode cX1_record 7 = .ok (.aload_n 0, 1) := by decide +kernel
theorem dX1_record_8 : decode cX1_record 8 = .ok (.getfield 22, 3) := by decide +kernel
theorem dX1_record_11 : decode cX1_record 11 = .ok (.aload_n 0, 1) := by decide +kernel
theorem dX1_record_12 : decode cX1_record 12 = .ok (.getfield 11, 3) := by decide +kernel
theorem dX1_record_15 : decode cX1_record 15 = .ok (.arraylength, 1) := by decide +kernel
theorem dX1_record_16 : decode cX1_record 16 = .ok (.if_icmp .ge 15, 3) := by decide +kernel
theorem dX1_record_19 : decode cX1_record 19 = .ok (.aload_n 0, 1) := by decide +kernel
theorem dX1_record_20 : decode cX1_record 20 = .ok (.getfield 11, 3) := by decide +kernel
theorem dX1_record_23 : decode cX1_record 23 = .ok (.aload_n 0, 1) := by decide +kernel
theorem dX1_record_24 : decode cX1_record 24 = .ok (.getfield 22, 3) := by decide +kernel
theorem dX1_record_27 : decode cX1_record 27 = .ok (.aaload, 1) := by decide +kernel
theorem dX1_record_28 : decode cX1_record 28 = .ok (.goto 4, 3) := by decide +kernel
theorem dX1_record_31 : decode cX1_record 31 = .ok (.aconst_null, 1) := by decide +kernel
theorem dX1_record_32 : decode cX1_record 32 = .ok (.astore_n 2, 1) := by decide +kernel
theorem dX1_record_33 : decode cX1_record 33 = .ok (.aload_n 2, 1) := by decide +kernel
theorem dX1_record_34 : decode cX1_record 34 = .ok (.ifnonnull 4, 3) := by decide +kernel
theorem dX1_record_37 : decode cX1_record 37 = .ok (.return_, 1) := by decide +kernel
theorem dX1_record_38 : decode cX1_record 38 = .ok (.aload_n 2, 1) := by decide +kernel
theorem dX1_record_39 : decode cX1_record 39 = .ok (.aload_n 1, 1) := by decide +kernel
theorem dX1_record_40 : decode cX1_record 40 = .ok (.invokevirtual 25, 3) := by decide +kernel
theorem dX1_record_43 : decode cX1_record 43 = .ok (.aload_n 0, 1) := by decide +kernel
theorem dX1_record_44 : decode cX1_record 44 = .ok (.aload_n 0, 1) := by decide +kernel
theorem dX1_record_45 : decode cX1_record 45 = .ok (.getfield 22, 3) := by decide +kernel
theorem dX1_record_48 : decode cX1_record 48 = .ok (.iconst 1, 1) := by decide +kernel
theorem dX1_record_49 : decode cX1_record 49 = .ok (.iadd, 1) := by decide +kernel
theorem dX1_record_50 : decode cX1_record 50 = .ok (.bipush 12, 2) := by decide +kernel
theorem dX1_record_52 : decode cX1_record 52 = .ok (.if_icmp .ge 12, 3) := by decide +kernel
theorem dX1_record_55 : decode cX1_record 55 = .ok (.aload_n 0, 1) := by decide +kernel
theorem dX1_record_56 : decode cX1_record 56 = .ok (.getfield 22, 3) := by decide +kernel
theorem dX1_record_59 : decode cX1_record 59 = .ok (.iconst 1, 1) := by decide +kernel
theorem dX1_record_60 : decode cX1_record 60 = .ok (.iadd, 1) := by decide +kernel
theorem dX1_record_61 : decode cX1_record 61 = .ok (.goto 4, 3) := by decide +kernel
theorem dX1_record_64 : decode cX1_record 64 = .ok (.iconst 0, 1) := by decide +kernel
theorem dX1_record_65 : decode cX1_record 65 = .ok (.putfield 22, 3) := by decide +kernel
theorem dX1_record_68 : decode cX1_record 68 = .ok (.aload_n 0, 1) := by decide +kernel
theorem dX1_record_69 : decode cX1_record 69 = .ok (.aload_n 0, 1) := by decide +kernel
theorem dX1_record_70 : decode cX1_record 70 = .ok (.getfield 18, 3) := by decide +kernel
theorem dX1_record_73 : decode cX1_record 73 = .ok (.iconst 1, 1) := by decide +kernel
theorem dX1_record_74 : decode cX1_record 74 = .ok (.iadd, 1) := by decide +kernel
theorem dX1_record_75 : decode cX1_record 75 = .ok (.bipush 12, 2) := by decide +kernel
theorem dX1_record_77 : decode cX1_record 77 = .ok (.invokestatic 29, 3) := by decide +kernel
theorem dX1_record_80 : decode cX1_record 80 = .ok (.putfield 18, 3) := by decide +kernel
theorem dX1_record_83 : decode cX1_record 83 = .ok (.return_, 1) := by decide +kernel
theorem dX1_takeBack_0 : decode cX1_takeBack 0 = .ok (.aload_n 0, 1) := by decide +kernel
theorem dX1_takeBack_1 : decode cX1_takeBack 1 = .ok (.getfield 22, 3) := by decide +kernel
theorem dX1_takeBack_4 : decode cX1_takeBack 4 = .ok (.ifCond .le 12, 3) := by decide +kernel
theorem dX1_takeBack_7 : decode cX1_takeBack 7 = .ok (.aload_n 0, 1) := by decide +kernel
theorem dX1_takeBack_8 : decode cX1_takeBack 8 = .ok (.getfield 22, 3) := by decide +kernel
theorem dX1_takeBack_11 : decode cX1_takeBack 11 = .ok (.iconst 1, 1) := by decide +kernel
theorem dX1_takeBack_12 : decode cX1_takeBack 12 = .ok (.isub, 1) := by decide +kernel
theorem dX1_takeBack_13 : decode cX1_takeBack 13 = .ok (.goto 5, 3) := by decide +kernel
theorem dX1_takeBack_16 : decode cX1_takeBack 16 = .ok (.bipush 11, 2) := by decide +kernel
theorem dX1_takeBack_18 : decode cX1_takeBack 18 = .ok (.istore_n 2, 1) := by decide +kernel
theorem dX1_takeBack_19 : decode cX1_takeBack 19 = .ok (.iload_n 2, 1) := by decide +kernel
theorem dX1_takeBack_20 : decode cX1_takeBack 20 = .ok (.aload_n 0, 1) := by decide +kernel
theorem dX1_takeBack_21 : decode cX1_takeBack 21 = .ok (.getfield 11, 3) := by decide +kernel
theorem dX1_takeBack_24 : decode cX1_takeBack 24 = .ok (.arraylength, 1) := by decide +kernel
theorem dX1_takeBack_25 : decode cX1_takeBack 25 = .ok (.if_icmp .ge 12, 3) := by decide +kernel
theorem dX1_takeBack_28 : decode cX1_takeBack 28 = .ok (.aload_n 0, 1) := by decide +kernel
theorem dX1_takeBack_29 : decode cX1_takeBack 29 = .ok (.getfield 11, 3) := by decide +kernel
theorem dX1_takeBack_32 : decode cX1_takeBack 32 = .ok (.iload_n 2, 1) := by decide +kernel
theorem dX1_takeBack_33 : decode cX1_takeBack 33 = .ok (.aaload, 1) := by decide +kernel
theorem dX1_takeBack_34 : decode cX1_takeBack 34 = .ok (.goto 4, 3) := by decide +kernel
theorem dX1_takeBack_37 : decode cX1_takeBack 37 = .ok (.aconst_null, 1) := by decide +kernel
theorem dX1_takeBack_38 : decode cX1_takeBack 38 = .ok (.astore_n 3, 1) := by decide +kernel
theorem dX1_takeBack_39 : decode cX1_takeBack 39 = .ok (.aload_n 3, 1) := by decide +kernel
theorem dX1_takeBack_40 : decode cX1_takeBack 40 = .ok (.ifnonnull 4, 3) := by decide +kernel
theorem dX1_takeBack_43 : decode cX1_takeBack 43 = .ok (.return_, 1) := by decide +kernel
theorem dX1_takeBack_44 : decode cX1_takeBack 44 = .ok (.aload_n 1, 1) := by decide +kernel
theorem dX1_takeBack_45 : decode cX1_takeBack 45 = .ok (.aload_n 3, 1) := by decide +kernel
theorem dX1_takeBack_46 : decode cX1_takeBack 46 = .ok (.invokevirtual 25, 3) := by decide +kernel
theorem dX1_takeBack_49 : decode cX1_takeBack 49 = .ok (.aload_n 0, 1) := by decide +kernel
theorem dX1_takeBack_50 : decode cX1_takeBack 50 = .ok (.iload_n 2, 1) := by decide +kernel
theorem dX1_takeBack_51 : decode cX1_takeBack 51 = .ok (.putfield 22, 3) := by decide +kernel
theorem dX1_takeBack_54 : decode cX1_takeBack 54 = .ok (.aload_n 0, 1) := by decide +kernel
theorem dX1_takeBack_55 : decode cX1_takeBack 55 = .ok (.dup, 1) := by decide +kernel
theorem dX1_takeBack_56 : decode cX1_takeBack 56 = .ok (.getfield 18, 3) := by decide +kernel
theorem dX1_takeBack_59 : decode cX1_takeBack 59 = .ok (.iconst 1, 1) := by decide +kernel
theorem dX1_takeBack_60 : decode cX1_takeBack 60 = .ok (.isub, 1) := by decide +kernel
theorem dX1_takeBack_61 : decode cX1_takeBack 61 = .ok (.putfield 18, 3) := by decide +kernel
theorem dX1_takeBack_64 : decode cX1_takeBack 64 = .ok (.return_, 1) := by decide +kernel
theorem dX2_init_0 : decode cX2_init 0 = .ok (.aload_n 0, 1) := by decide +kernel
theorem dX2_init_1 : decode cX2_init 1 = .ok (.invokespecial 3, 3) := by decide +kernel
theorem dX2_init_4 : decode cX2_init 4 = .ok (.aload_n 0, 1) := by decide +kernel
theorem dX2_init_5 : decode cX2_init 5 = .ok (.bipush 64, 2) := by decide +kernel
theorem dX2_init_7 : decode cX2_init 7 = .ok (.newarray .int, 2) := by decide +kernel
theorem dX2_init_9 : decode cX2_init 9 = .ok (.putfield 9, 3) := by decide +kernel
theorem dX2_init_12 : decode cX2_init 12 = .ok (.aload_n 0, 1) := by decide +kernel
theorem dX2_init_13 : decode cX2_init 13 = .ok (.bipush 8, 2) := by decide +kernel
theorem dX2_init_15 : decode cX2_init 15 = .ok (.newarray .int, 2) := by decide +kernel
theorem dX2_init_17 : decode cX2_init 17 = .ok (.putfield 15, 3) := by decide +kernel
theorem dX2_init_20 : decode cX2_init 20 = .ok (.aload_n 0, 1) := by decide +kernel
theorem dX2_init_21 : decode cX2_init 21 = .ok (.bipush 8, 2) := by decide +kernel
theorem dX2_init_23 : decode cX2_init 23 = .ok (.newarray .int, 2) := by decide +kernel
theorem dX2_init_25 : decode cX2_init 25 = .ok (.putfield 18, 3) := by decide +kernel
theorem dX2_init_28 : decode cX2_init 28 = .ok (.aload_n 0, 1) := by decide +kernel
theorem dX2_init_29 : decode cX2_init 29 = .ok (.iconst (-1), 1) := by decide +kernel
theorem dX2_init_30 : decode cX2_init 30 = .ok (.putfield 21, 3) := by decide +kernel
theorem dX2_init_33 : decode cX2_init 33 = .ok (.aload_n 0, 1) := by decide +kernel
theorem dX2_init_34 : decode cX2_init 34 = .ok (.iconst (-1), 1) := by decide +kernel
theorem dX2_init_35 : decode cX2_init 35 = .ok (.putfield 25, 3) := by decide +kernel
theorem dX2_init_38 : decode cX2_init 38 = .ok (.return_, 1) := by decide +kernel
theorem dX2_place_0 : decode cX2_place 0 = .ok (.aload_n 0, 1) := by decide +kernel
theorem dX2_place_1 : decode cX2_place 1 = .ok (.iload_n 1, 1) := by decide +kernel
theorem dX2_place_2 : decode cX2_place 2 = .ok (.putfield 28, 3) := by decide +kernel
theorem dX2_place_5 : decode cX2_place 5 = .ok (.aload_n 0, 1) := by decide +kernel
theorem dX2_place_6 : decode cX2_place 6 = .ok (.iload_n 2, 1) := by decide +kernel
theorem dX2_place_7 : decode cX2_place 7 = .ok (.putfield 31, 3) := by decide +kernel
theorem dX2_place_10 : decode cX2_place 10 = .ok (.aload_n 0, 1) := by decide +kernel
theorem dX2_place_11 : decode cX2_place 11 = .ok (.iload_n 3, 1) := by decide +kernel
theorem dX2_place_12 : decode cX2_place 12 = .ok (.putfield 34, 3) := by decide +kernel
theorem dX2_place_15 : decode cX2_place 15 = .ok (.aload_n 0, 1) := by decide +kernel
theorem dX2_place_16 : decode cX2_place 16 = .ok (.iload 4, 2) := by decide +kernel
theorem dX2_place_18 : decode cX2_place 18 = .ok (.putfield 37, 3) := by decide +kernel
theorem dX2_place_21 : decode cX2_place 21 = .ok (.aload_n 0, 1) := by decide +kernel
theorem dX2_place_22 : decode cX2_place 22 = .ok (.invokevirtual 40, 3) := by decide +kernel
theorem dX2_place_25 : decode cX2_place 25 = .ok (.return_, 1) := by decide +kernel
theorem dX2_becomeIdle_0 : decode cX2_becomeIdle 0 = .ok (.aload_n 0, 1) := by decide +kernel
theorem dX2_becomeIdle_1 : decode cX2_becomeIdle 1 = .ok (.iconst 0, 1) := by decide +kernel
theorem dX2_becomeIdle_2 : decode cX2_becomeIdle 2 = .ok (.putfield 43, 3) := by decide +kernel
theorem dX2_becomeIdle_5 : decode cX2_becomeIdle 5 = .ok (.aload_n 0, 1) := by decide +kernel
theorem dX2_becomeIdle_6 : decode cX2_becomeIdle 6 = .ok (.iconst (-1), 1) := by decide +kernel
theorem dX2_becomeIdle_7 : decode cX2_becomeIdle 7 = .ok (.putfield 21, 3) := by decide +kernel
theorem dX2_becomeIdle_10 : decode cX2_becomeIdle 10 = .ok (.aload_n 0, 1) := by decide +kernel
theorem dX2_becomeIdle_11 : decode cX2_becomeIdle 11 = .ok (.iconst 0, 1) := by decide +kernel
theorem dX2_becomeIdle_12 : decode cX2_becomeIdle 12 = .ok (.putfield 46, 3) := by decide +kernel
theorem dX2_becomeIdle_15 : decode cX2_becomeIdle 15 = .ok (.aload_n 0, 1) := by decide +kernel
theorem dX2_becomeIdle_16 : decode cX2_becomeIdle 16 = .ok (.iconst 0, 1) := by decide +kernel
theorem dX2_becomeIdle_17 : decode cX2_becomeIdle 17 = .ok (.putfield 49, 3) := by decide +kernel
theorem dX2_becomeIdle_20 : decode cX2_becomeIdle 20 = .ok (.aload_n 0, 1) := by decide +kernel
theorem dX2_becomeIdle_21 : decode cX2_becomeIdle 21 = .ok (.iconst (-1), 1) := by decide +kernel
theorem dX2_becomeIdle_22 : decode cX2_becomeIdle 22 = .ok (.putfield 25, 3) := by decide +kernel
theorem dX2_becomeIdle_25 : decode cX2_becomeIdle 25 = .ok (.aload_n 0, 1) := by decide +kernel
theorem dX2_becomeIdle_26 : decode cX2_becomeIdle 26 = .ok (.iconst 0, 1) := by decide +kernel
theorem dX2_becomeIdle_27 : decode cX2_becomeIdle 27 = .ok (.putfield 52, 3) := by decide +kernel
theorem dX2_becomeIdle_30 : decode cX2_becomeIdle 30 = .ok (.aload_n 0, 1) := by decide +kernel
theorem dX2_becomeIdle_31 : decode cX2_becomeIdle 31 = .ok (.invokevirtual 55, 3) := by decide +kernel
theorem dX2_becomeIdle_34 : decode cX2_becomeIdle 34 = .ok (.return_, 1) := by decide +kernel
theorem dX2_beginToTalk_0 : decode cX2_beginToTalk 0 = .ok (.aload_n 0, 1) := by decide +kernel
theorem dX2_beginToTalk_1 : decode cX2_beginToTalk 1 = .ok (.iconst 1, 1) := by decide +kernel
theorem dX2_beginToTalk_2 : decode cX2_beginToTalk 2 = .ok (.putfield 43, 3) := by decide +kernel
theorem dX2_beginToTalk_5 : decode cX2_beginToTalk 5 = .ok (.aload_n 0, 1) := by decide +kernel
theorem dX2_beginToTalk_6 : decode cX2_beginToTalk 6 = .ok (.iload_n 1, 1) := by decide +kernel
theorem dX2_beginToTalk_7 : decode cX2_beginToTalk 7 = .ok (.putfield 21, 3) := by decide +kernel
theorem dX2_beginToTalk_10 : decode cX2_beginToTalk 10 = .ok (.aload_n 0, 1) := by decide +kernel
theorem dX2_beginToTalk_11 : decode cX2_beginToTalk 11 = .ok (.iconst 0, 1) := by decide +kernel
theorem dX2_beginToTalk_12 : decode cX2_beginToTalk 12 = .ok (.putfield 49, 3) := by decide +kernel
theorem dX2_beginToTalk_15 : decode cX2_beginToTalk 15 = .ok (.aload_n 0, 1) := by decide +kernel
theorem dX2_beginToTalk_16 : decode cX2_beginToTalk 16 = .ok (.iconst (-1), 1) := by decide +kernel
theorem dX2_beginToTalk_17 : decode cX2_beginToTalk 17 = .ok (.putfield 25, 3) := by decide +kernel
theorem dX2_beginToTalk_20 : decode cX2_beginToTalk 20 = .ok (.aload_n 0, 1) := by decide +kernel
theorem dX2_beginToTalk_21 : decode cX2_beginToTalk 21 = .ok (.invokevirtual 55, 3) := by decide +kernel
theorem dX2_beginToTalk_24 : decode cX2_beginToTalk 24 = .ok (.return_, 1) := by decide +kernel
theorem dX2_waitForSetUp_0 : decode cX2_waitForSetUp 0 = .ok (.aload_n 0, 1) := by decide +kernel
theorem dX2_waitForSetUp_1 : decode cX2_waitForSetUp 1 = .ok (.iconst 2, 1) := by decide +kernel
theorem dX2_waitForSetUp_2 : decode cX2_waitForSetUp 2 = .ok (.putfield 43, 3) := by decide +kernel
theorem dX2_waitForSetUp_5 : decode cX2_waitForSetUp 5 = .ok (.aload_n 0, 1) := by decide +kernel
theorem dX2_waitForSetUp_6 : decode cX2_waitForSetUp 6 = .ok (.iload_n 1, 1) := by decide +kernel
theorem dX2_waitForSetUp_7 : decode cX2_waitForSetUp 7 = .ok (.iload_n 2, 1) := by decide +kernel
theorem dX2_waitForSetUp_8 : decode cX2_waitForSetUp 8 = .ok (.invokevirtual 58, 3) := by decide +kernel
theorem dX2_waitForSetUp_11 : decode cX2_waitForSetUp 11 = .ok (.return_, 1) := by decide +kernel
theorem dX2_makeRequest_0 : decode cX2_makeRequest 0 = .ok (.aload_n 0, 1) := by decide +kernel
theorem dX2_makeRequest_1 : decode cX2_makeRequest 1 = .ok (.iload_n 1, 1) := by decide +kernel
theorem dX2_makeRequest_2 : decode cX2_makeRequest 2 = .ok (.putfield 25, 3) := by decide +kernel
theorem dX2_makeRequest_5 : decode cX2_makeRequest 5 = .ok (.aload_n 0, 1) := by decide +kernel
theorem dX2_makeRequest_6 : decode cX2_makeRequest 6 = .ok (.iload_n 2, 1) := by decide +kernel
theorem dX2_makeRequest_7 : decode cX2_makeRequest 7 = .ok (.putfield 52, 3) := by decide +kernel
theorem dX2_makeRequest_10 : decode cX2_makeRequest 10 = .ok (.return_, 1) := by decide +kernel
theorem dX2_addReport_0 : decode cX2_addReport 0 = .ok (.aload_n 0, 1) := by decide +kernel
theorem dX2_addReport_1 : decode cX2_addReport 1 = .ok (.iload_n 1, 1) := by decide +kernel
theorem dX2_addReport_2 : decode cX2_addReport 2 = .ok (.invokevirtual 62, 3) := by decide +kernel
theorem dX2_addReport_5 : decode cX2_addReport 5 = .ok (.istore 4, 2) := by decide +kernel
theorem dX2_addReport_7 : decode cX2_addReport 7 = .ok (.iload_n 1, 1) := by decide +kernel
theorem dX2_addReport_8 : decode cX2_addReport 8 = .ok (.bipush 8, 2) := by decide +kernel
theorem dX2_addReport_10 : decode cX2_addReport 10 = .ok (.imul, 1) := by decide +kernel
theorem dX2_addReport_11 : decode cX2_addReport 11 = .ok (.istore 5, 2) := by decide +kernel
theorem dX2_addReport_13 : decode cX2_addReport 13 = .ok (.iload 4, 2) := by decide +kernel
theorem dX2_addReport_15 : decode cX2_addReport 15 = .ok (.iload_n 3, 1) := by decide +kernel
theorem dX2_addReport_16 : decode cX2_addReport 16 = .ok (.if_icmp .lt 14, 3) := by decide +kernel
theorem dX2_addReport_19 : decode cX2_addReport 19 = .ok (.aload_n 0, 1) := by decide +kernel
theorem dX2_addReport_20 : decode cX2_addReport 20 = .ok (.iload 5, 2) := by decide +kernel
theorem dX2_addReport_22 : decode cX2_addReport 22 = .ok (.iload 4, 2) := by decide +kernel
theorem dX2_addReport_24 : decode cX2_addReport 24 = .ok (.invokevirtual 66, 3) := by decide +kernel
theorem dX2_addReport_27 : decode cX2_addReport 27 = .ok (.iinc 4 (-1), 3) := by decide +kernel
theorem dX2_addReport_30 : decode cX2_addReport 30 = .ok (.iload 5, 2) := by decide +kernel
theorem dX2_addReport_32 : decode cX2_addReport 32 = .ok (.iload 4, 2) := by decide +kernel
theorem dX2_addReport_34 : decode cX2_addReport 34 = .ok (.iadd, 1) := by decide +kernel
theorem dX2_addReport_35 : decode cX2_addReport 35 = .ok (.istore 6, 2) := by decide +kernel
theorem dX2_addReport_37 : decode cX2_addReport 37 = .ok (.iload_n 1, 1) := by decide +kernel
theorem dX2_addReport_38 : decode cX2_addReport 38 = .ok (.ifCond .lt 27, 3) := by decide +kernel
theorem dX2_addReport_41 : decode cX2_addReport 41 = .ok (.iload_n 1, 1) := by decide +kernel
theorem dX2_addReport_42 : decode cX2_addReport 42 = .ok (.aload_n 0, 1) := by decide +kernel
theorem dX2_addReport_43 : decode cX2_addReport 43 = .ok (.getfield 15, 3) := by decide +kernel
theorem dX2_addReport_46 : decode cX2_addReport 46 = .ok (.arraylength, 1) := by decide +kernel
theorem dX2_addReport_47 : decode cX2_addReport 47 = .ok (.if_icmp .ge 18, 3) := by decide +kernel
theorem dX2_addReport_50 : decode cX2_addReport 50 = .ok (.iload 6, 2) := by decide +kernel
theorem dX2_addReport_52 : decode cX2_addReport 52 = .ok (.ifCond .lt 13, 3) := by decide +kernel
theorem dX2_addReport_55 : decode cX2_addReport 55 = .ok (.iload 6, 2) := by decide +kernel
theorem dX2_addReport_57 : decode cX2_addReport 57 = .ok (.aload_n 0, 1) := by decide +kernel
theorem dX2_addReport_58 : decode cX2_addReport 58 = .ok (.getfield 9, 3) := by decide +kernel
theorem dX2_addReport_61 : decode cX2_addReport 61 = .ok (.arraylength, 1) := by decide +kernel
theorem dX2_addReport_62 : decode cX2_addReport 62 = .ok (.if_icmp .lt 4, 3) := by decide +kernel
theorem dX2_addReport_65 : decode cX2_addReport 65 = .ok (.return_, 1) := by decide +kernel
theorem dX2_addReport_66 : decode cX2_addReport 66 = .ok (.aload_n 0, 1) := by decide +kernel
theorem dX2_addReport_67 : decode cX2_addReport 67 = .ok (.getfield 9, 3) := by decide +kernel
theorem dX2_addReport_70 : decode cX2_addReport 70 = .ok (.iload 6, 2) := by decide +kernel
theorem dX2_addReport_72 : decode cX2_addReport 72 = .ok (.iload_n 2, 1) := by decide +kernel
theorem dX2_addReport_73 : decode cX2_addReport 73 = .ok (.iastore, 1) := by decide +kernel
theorem dX2_addReport_74 : decode cX2_addReport 74 = .ok (.aload_n 0, 1) := by decide +kernel
theorem dX2_addReport_75 : decode cX2_addReport 75 = .ok (.getfield 15, 3) := by decide +kernel
theorem dX2_addReport_78 : decode cX2_addReport 78 = .ok (.iload_n 1, 1) := by decide +kernel
theorem dX2_addReport_79 : decode cX2_addReport 79 = .ok (.iload 4, 2) := by decide +kernel
theorem dX2_addReport_81 : decode cX2_addReport 81 = .ok (.iconst 1, 1) := by decide +kernel
theorem dX2_addReport_82 : decode cX2_addReport 82 = .ok (.iadd, 1) := by decide +kernel
theorem dX2_addReport_83 : decode cX2_addReport 83 = .ok (.iastore, 1) := by decide +kernel
theorem dX2_addReport_84 : decode cX2_addReport 84 = .ok (.return_, 1) := by decide +kernel
theorem dX2_dropOldest_0 : decode cX2_dropOldest 0 = .ok (.iload_n 1, 1) := by decide +kernel
theorem dX2_dropOldest_1 : decode cX2_dropOldest 1 = .ok (.istore_n 3, 1) := by decide +kernel
theorem dX2_dropOldest_2 : decode cX2_dropOldest 2 = .ok (.iload_n 3, 1) := by decide +kernel
theorem dX2_dropOldest_3 : decode cX2_dropOldest 3 = .ok (.iload_n 1, 1) := by decide +kernel
theorem dX2_dropOldest_4 : decode cX2_dropOldest 4 = .ok (.iload_n 2, 1) := by decide +kernel
theorem dX2_dropOldest_5 : decode cX2_dropOldest 5 = .ok (.iadd, 1) := by decide +kernel
theorem dX2_dropOldest_6 : decode cX2_dropOldest 6 = .ok (.iconst 1, 1) := by decide +kernel
theorem dX2_dropOldest_7 : decode cX2_dropOldest 7 = .ok (.isub, 1) := by decide +kernel
theorem dX2_dropOldest_8 : decode cX2_dropOldest 8 = .ok (.if_icmp .ge 38, 3) := by decide +kernel
theorem dX2_dropOldest_11 : decode cX2_dropOldest 11 = .ok (.iload_n 3, 1) := by decide +kernel
theorem dX2_dropOldest_12 : decode cX2_dropOldest 12 = .ok (.ifCond .lt 28, 3) := by decide +kernel
theorem dX2_dropOldest_15 : decode cX2_dropOldest 15 = .ok (.iload_n 3, 1) := by decide +kernel
theorem dX2_dropOldest_16 : decode cX2_dropOldest 16 = .ok (.aload_n 0, 1) := by decide +kernel
theorem dX2_dropOldest_17 : decode cX2_dropOldest 17 = .ok (.getfield 9, 3) := by decide +kernel
theorem dX2_dropOldest_20 : decode cX2_dropOldest 20 = .ok (.arraylength, 1) := by decide +kernel
theorem dX2_dropOldest_21 : decode cX2_dropOldest 21 = .ok (.iconst 1, 1) := by decide +kernel
theorem dX2_dropOldest_22 : decode cX2_dropOldest 22 = .ok (.isub, 1) := by decide +kernel
theorem dX2_dropOldest_23 : decode cX2_dropOldest 23 = .ok (.if_icmp .ge 17, 3) := by decide +kernel
theorem dX2_dropOldest_26 : decode cX2_dropOldest 26 = .ok (.aload_n 0, 1) := by decide +kernel
theorem dX2_dropOldest_27 : decode cX2_dropOldest 27 = .ok (.getfield 9, 3) := by decide +kernel
theorem dX2_dropOldest_30 : decode cX2_dropOldest 30 = .ok (.iload_n 3, 1) := by decide +kernel
theorem dX2_dropOldest_31 : decode cX2_dropOldest 31 = .ok (.aload_n 0, 1) := by decide +kernel
theorem dX2_dropOldest_32 : decode cX2_dropOldest 32 = .ok (.getfield 9, 3) := by decide +kernel
theorem dX2_dropOldest_35 : decode cX2_dropOldest 35 = .ok (.iload_n 3, 1) := by decide +kernel
theorem dX2_dropOldest_36 : decode cX2_dropOldest 36 = .ok (.iconst 1, 1) := by decide +kernel
theorem dX2_dropOldest_37 : decode cX2_dropOldest 37 = .ok (.iadd, 1) := by decide +kernel
theorem dX2_dropOldest_38 : decode cX2_dropOldest 38 = .ok (.iaload, 1) := by decide +kernel
theorem dX2_dropOldest_39 : decode cX2_dropOldest 39 = .ok (.iastore, 1) := by decide +kernel
theorem dX2_dropOldest_40 : decode cX2_dropOldest 40 = .ok (.iinc 3 1, 3) := by decide +kernel
theorem dX2_dropOldest_43 : decode cX2_dropOldest 43 = .ok (.goto (-41), 3) := by decide +kernel
theorem dX2_dropOldest_46 : decode cX2_dropOldest 46 = .ok (.return_, 1) := by decide +kernel
theorem dX2_clearReports_0 : decode cX2_clearReports 0 = .ok (.iload_n 1, 1) := by decide +kernel
theorem dX2_clearReports_1 : decode cX2_clearReports 1 = .ok (.ifCond .lt 19, 3) := by decide +kernel
theorem dX2_clearReports_4 : decode cX2_clearReports 4 = .ok (.iload_n 1, 1) := by decide +kernel
theorem dX2_clearReports_5 : decode cX2_clearReports 5 = .ok (.aload_n 0, 1) := by decide +kernel
theorem dX2_clearReports_6 : decode cX2_clearReports 6 = .ok (.getfield 15, 3) := by decide +kernel
theorem dX2_clearReports_9 : decode cX2_clearReports 9 = .ok (.arraylength, 1) := by decide +kernel
theorem dX2_clearReports_10 : decode cX2_clearReports 10 = .ok (.if_icmp .ge 10, 3) := by decide +kernel
theorem dX2_clearReports_13 : decode cX2_clearReports 13 = .ok (.aload_n 0, 1) := by decide +kernel
theorem dX2_clearReports_14 : decode cX2_clearReports 14 = .ok (.getfield 15, 3) := by decide +kernel
theorem dX2_clearReports_17 : decode cX2_clearReports 17 = .ok (.iload_n 1, 1) := by decide +kernel
theorem dX2_clearReports_18 : decode cX2_clearReports 18 = .ok (.iconst 0, 1) := by decide +kernel
theorem dX2_clearReports_19 : decode cX2_clearReports 19 = .ok (.iastore, 1) := by decide +kernel
theorem dX2_clearReports_20 : decode cX2_clearReports 20 = .ok (.return_, 1) := by decide +kernel
theorem dX2_reportsOf_0 : decode cX2_reportsOf 0 = .ok (.iload_n 1, 1) := by decide +kernel
theorem dX2_reportsOf_1 : decode cX2_reportsOf 1 = .ok (.ifCond .lt 21, 3) := by decide +kernel
theorem dX2_reportsOf_4 : decode cX2_reportsOf 4 = .ok (.iload_n 1, 1) := by decide +kernel
theorem dX2_reportsOf_5 : decode cX2_reportsOf 5 = .ok (.aload_n 0, 1) := by decide +kernel
theorem dX2_reportsOf_6 : decode cX2_reportsOf 6 = .ok (.getfield 15, 3) := by decide +kernel
theorem dX2_reportsOf_9 : decode cX2_reportsOf 9 = .ok (.arraylength, 1) := by decide +kernel
theorem dX2_reportsOf_10 : decode cX2_reportsOf 10 = .ok (.if_icmp .ge 12, 3) := by decide +kernel
theorem dX2_reportsOf_13 : decode cX2_reportsOf 13 = .ok (.aload_n 0, 1) := by decide +kernel
theorem dX2_reportsOf_14 : decode cX2_reportsOf 14 = .ok (.getfield 15, 3) := by decide +kernel
theorem dX2_reportsOf_17 : decode cX2_reportsOf 17 = .ok (.iload_n 1, 1) := by decide +kernel
theorem dX2_reportsOf_18 : decode cX2_reportsOf 18 = .ok (.iaload, 1) := by decide +kernel
theorem dX2_reportsOf_19 : decode cX2_reportsOf 19 = .ok (.goto 4, 3) := by decide +kernel
theorem dX2_reportsOf_22 : decode cX2_reportsOf 22 = .ok (.iconst 0, 1) := by decide +kernel
theorem dX2_reportsOf_23 : decode cX2_reportsOf 23 = .ok (.ireturn, 1) := by decide +kernel
theorem dX2_averageOf_0 : decode cX2_averageOf 0 = .ok (.iload_n 1, 1) := by decide +kernel
theorem dX2_averageOf_1 : decode cX2_averageOf 1 = .ok (.ifCond .lt 21, 3) := by decide +kernel
theorem dX2_averageOf_4 : decode cX2_averageOf 4 = .ok (.iload_n 1, 1) := by decide +kernel
theorem dX2_averageOf_5 : decode cX2_averageOf 5 = .ok (.aload_n 0, 1) := by decide +kernel
theorem dX2_averageOf_6 : decode cX2_averageOf 6 = .ok (.getfield 15, 3) := by decide +kernel
theorem dX2_averageOf_9 : decode cX2_averageOf 9 = .ok (.arraylength, 1) := by decide +kernel
theorem dX2_averageOf_10 : decode cX2_averageOf 10 = .ok (.if_icmp .ge 12, 3) := by decide +kernel
theorem dX2_averageOf_13 : decode cX2_averageOf 13 = .ok (.aload_n 0, 1) := by decide +kernel
theorem dX2_averageOf_14 : decode cX2_averageOf 14 = .ok (.getfield 15, 3) := by decide +kernel
theorem dX2_averageOf_17 : decode cX2_averageOf 17 = .ok (.iload_n 1, 1) := by decide +kernel
theorem dX2_averageOf_18 : decode cX2_averageOf 18 = .ok (.iaload, 1) := by decide +kernel
theorem dX2_averageOf_19 : decode cX2_averageOf 19 = .ok (.goto 4, 3) := by decide +kernel
theorem dX2_averageOf_22 : decode cX2_averageOf 22 = .ok (.iconst 0, 1) := by decide +kernel
theorem dX2_averageOf_23 : decode cX2_averageOf 23 = .ok (.istore_n 2, 1) := by decide +kernel
theorem dX2_averageOf_24 : decode cX2_averageOf 24 = .ok (.iload_n 2, 1) := by decide +kernel
theorem dX2_averageOf_25 : decode cX2_averageOf 25 = .ok (.ifCond .gt 5, 3) := by decide +kernel
theorem dX2_averageOf_28 : decode cX2_averageOf 28 = .ok (.iconst (-1), 1) := by decide +kernel
theorem dX2_averageOf_29 : decode cX2_averageOf 29 = .ok (.ireturn, 1) := by decide +kernel
theorem dX2_averageOf_30 : decode cX2_averageOf 30 = .ok (.iload_n 1, 1) := by decide +kernel
theorem dX2_averageOf_31 : decode cX2_averageOf 31 = .ok (.bipush 8, 2) := by decide +kernel
theorem dX2_averageOf_33 : decode cX2_averageOf 33 = .ok (.imul, 1) := by decide +kernel
theorem dX2_averageOf_34 : decode cX2_averageOf 34 = .ok (.istore_n 3, 1) := by decide +kernel
theorem dX2_averageOf_35 : decode cX2_averageOf 35 = .ok (.iconst 0, 1) := by decide +kernel
theorem dX2_averageOf_36 : decode cX2_averageOf 36 = .ok (.istore 4, 2) := by decide +kernel
theorem dX2_averageOf_38 : decode cX2_averageOf 38 = .ok (.iload_n 3, 1) := by decide +kernel
theorem dX2_averageOf_39 : decode cX2_averageOf 39 = .ok (.istore 5, 2) := by decide +kernel
theorem dX2_averageOf_41 : decode cX2_averageOf 41 = .ok (.iload 5, 2) := by decide +kernel
theorem dX2_averageOf_43 : decode cX2_averageOf 43 = .ok (.iload_n 3, 1) := by decide +kernel
theorem dX2_averageOf_44 : decode cX2_averageOf 44 = .ok (.iload_n 2, 1) := by decide +kernel
theorem dX2_averageOf_45 : decode cX2_averageOf 45 = .ok (.iadd, 1) := by decide +kernel
theorem dX2_averageOf_46 : decode cX2_averageOf 46 = .ok (.if_icmp .ge 36, 3) := by decide +kernel
theorem dX2_averageOf_49 : decode cX2_averageOf 49 = .ok (.iload 5, 2) := by decide +kernel
theorem dX2_averageOf_51 : decode cX2_averageOf 51 = .ok (.ifCond .lt 25, 3) := by decide +kernel
theorem dX2_averageOf_54 : decode cX2_averageOf 54 = .ok (.iload 5, 2) := by decide +kernel
theorem dX2_averageOf_56 : decode cX2_averageOf 56 = .ok (.aload_n 0, 1) := by decide +kernel
theorem dX2_averageOf_57 : decode cX2_averageOf 57 = .ok (.getfield 9, 3) := by decide +kernel
theorem dX2_averageOf_60 : decode cX2_averageOf 60 = .ok (.arraylength, 1) := by decide +kernel
theorem dX2_averageOf_61 : decode cX2_averageOf 61 = .ok (.if_icmp .ge 15, 3) := by decide +kernel
theorem dX2_averageOf_64 : decode cX2_averageOf 64 = .ok (.iload 4, 2) := by decide +kernel
theorem dX2_averageOf_66 : decode cX2_averageOf 66 = .ok (.aload_n 0, 1) := by decide +kernel
theorem dX2_averageOf_67 : decode cX2_averageOf 67 = .ok (.getfield 9, 3) := by decide +kernel
theorem dX2_averageOf_70 : decode cX2_averageOf 70 = .ok (.iload 5, 2) := by decide +kernel
theorem dX2_averageOf_72 : decode cX2_averageOf 72 = .ok (.iaload, 1) := by decide +kernel
theorem dX2_averageOf_73 : decode cX2_averageOf 73 = .ok (.iadd, 1) := by decide +kernel
theorem dX2_averageOf_74 : decode cX2_averageOf 74 = .ok (.istore 4, 2) := by decide +kernel
theorem dX2_averageOf_76 : decode cX2_averageOf 76 = .ok (.iinc 5 1, 3) := by decide +kernel
theorem dX2_averageOf_79 : decode cX2_averageOf 79 = .ok (.goto (-38), 3) := by decide +kernel
theorem dX2_averageOf_82 : decode cX2_averageOf 82 = .ok (.iload 4, 2) := by decide +kernel
theorem dX2_averageOf_84 : decode cX2_averageOf 84 = .ok (.iload_n 2, 1) := by decide +kernel
theorem dX2_averageOf_85 : decode cX2_averageOf 85 = .ok (.idiv, 1) := by decide +kernel
theorem dX2_averageOf_86 : decode cX2_averageOf 86 = .ok (.ireturn, 1) := by decide +kernel
theorem dX2_bar_0 : decode cX2_bar 0 = .ok (.iload_n 1, 1) := by decide +kernel
theorem dX2_bar_1 : decode cX2_bar 1 = .ok (.ifCond .lt 19, 3) := by decide +kernel
theorem dX2_bar_4 : decode cX2_bar 4 = .ok (.iload_n 1, 1) := by decide +kernel
theorem dX2_bar_5 : decode cX2_bar 5 = .ok (.aload_n 0, 1) := by decide +kernel
theorem dX2_bar_6 : decode cX2_bar 6 = .ok (.getfield 18, 3) := by decide +kernel
theorem dX2_bar_9 : decode cX2_bar 9 = .ok (.arraylength, 1) := by decide +kernel
theorem dX2_bar_10 : decode cX2_bar 10 = .ok (.if_icmp .ge 10, 3) := by decide +kernel
theorem dX2_bar_13 : decode cX2_bar 13 = .ok (.aload_n 0, 1) := by decide +kernel
theorem dX2_bar_14 : decode cX2_bar 14 = .ok (.getfield 18, 3) := by decide +kernel
theorem dX2_bar_17 : decode cX2_bar 17 = .ok (.iload_n 1, 1) := by decide +kernel
theorem dX2_bar_18 : decode cX2_bar 18 = .ok (.iload_n 2, 1) := by decide +kernel
theorem dX2_bar_19 : decode cX2_bar 19 = .ok (.iastore, 1) := by decide +kernel
theorem dX2_bar_20 : decode cX2_bar 20 = .ok (.return_, 1) := by decide +kernel
theorem dX2_isBarredAt_0 : decode cX2_isBarredAt 0 = .ok (.iload_n 1, 1) := by decide +kernel
theorem dX2_isBarredAt_1 : decode cX2_isBarredAt 1 = .ok (.ifCond .lt 26, 3) := by decide +kernel
theorem dX2_isBarredAt_4 : decode cX2_isBarredAt 4 = .ok (.iload_n 1, 1) := by decide +kernel
theorem dX2_isBarredAt_5 : decode cX2_isBarredAt 5 = .ok (.aload_n 0, 1) := by decide +kernel
theorem dX2_isBarredAt_6 : decode cX2_isBarredAt 6 = .ok (.getfield 18, 3) := by decide +kernel
theorem dX2_isBarredAt_9 : decode cX2_isBarredAt 9 = .ok (.arraylength, 1) := by decide +kernel
theorem dX2_isBarredAt_10 : decode cX2_isBarredAt 10 = .ok (.if_icmp .ge 17, 3) := by decide +kernel
theorem dX2_isBarredAt_13 : decode cX2_isBarredAt 13 = .ok (.iload_n 2, 1) := by decide +kernel
theorem dX2_isBarredAt_14 : decode cX2_isBarredAt 14 = .ok (.aload_n 0, 1) := by decide +kernel
theorem dX2_isBarredAt_15 : decode cX2_isBarredAt 15 = .ok (.getfield 18, 3) := by decide +kernel
theorem dX2_isBarredAt_18 : decode cX2_isBarredAt 18 = .ok (.iload_n 1, 1) := by decide +kernel
theorem dX2_isBarredAt_19 : decode cX2_isBarredAt 19 = .ok (.iaload, 1) := by decide +kernel
theorem dX2_isBarredAt_20 : decode cX2_isBarredAt 20 = .ok (.if_icmp .gt 7, 3) := by decide +kernel
theorem dX2_isBarredAt_23 : decode cX2_isBarredAt 23 = .ok (.iconst 1, 1) := by decide +kernel
theorem dX2_isBarredAt_24 : decode cX2_isBarredAt 24 = .ok (.goto 4, 3) := by decide +kernel
theorem dX2_isBarredAt_27 : decode cX2_isBarredAt 27 = .ok (.iconst 0, 1) := by decide +kernel
theorem dX2_isBarredAt_28 : decode cX2_isBarredAt 28 = .ok (.ireturn, 1) := by decide +kernel
theorem dX2_clearMeasurements_0 : decode cX2_clearMeasurements 0 = .ok (.aload_n 0, 1) := by decide +kernel
theorem dX2_clearMeasurements_1 : decode cX2_clearMeasurements 1 = .ok (.getfield 15, 3) := by decide +kernel
theorem dX2_clearMeasurements_4 : decode cX2_clearMeasurements 4 = .ok (.iconst 0, 1) := by decide +kernel
theorem dX2_clearMeasurements_5 : decode cX2_clearMeasurements 5 = .ok (.invokestatic 69, 3) := by decide +kernel
theorem dX2_clearMeasurements_8 : decode cX2_clearMeasurements 8 = .ok (.aload_n 0, 1) := by decide +kernel
theorem dX2_clearMeasurements_9 : decode cX2_clearMeasurements 9 = .ok (.getfield 18, 3) := by decide +kernel
theorem dX2_clearMeasurements_12 : decode cX2_clearMeasurements 12 = .ok (.iconst (-1), 1) := by decide +kernel
theorem dX2_clearMeasurements_13 : decode cX2_clearMeasurements 13 = .ok (.invokestatic 69, 3) := by decide +kernel
theorem dX2_clearMeasurements_16 : decode cX2_clearMeasurements 16 = .ok (.return_, 1) := by decide +kernel
theorem dX2_copyFrom_0 : decode cX2_copyFrom 0 = .ok (.aload_n 0, 1) := by decide +kernel
theorem dX2_copyFrom_1 : decode cX2_copyFrom 1 = .ok (.aload_n 1, 1) := by decide +kernel
theorem dX2_copyFrom_2 : decode cX2_copyFrom 2 = .ok (.getfield 28, 3) := by decide +kernel
theorem dX2_copyFrom_5 : decode cX2_copyFrom 5 = .ok (.putfield 28, 3) := by decide +kernel
theorem dX2_copyFrom_8 : decode cX2_copyFrom 8 = .ok (.aload_n 0, 1) := by decide +kernel
theorem dX2_copyFrom_9 : decode cX2_copyFrom 9 = .ok (.aload_n 1, 1) := by decide +kernel
theorem dX2_copyFrom_10 : decode cX2_copyFrom 10 = .ok (.getfield 31, 3) := by decide +kernel
theorem dX2_copyFrom_13 : decode cX2_copyFrom 13 = .ok (.putfield 31, 3) := by decide +kernel
theorem dX2_copyFrom_16 : decode cX2_copyFrom 16 = .ok (.aload_n 0, 1) := by decide +kernel
theorem dX2_copyFrom_17 : decode cX2_copyFrom 17 = .ok (.aload_n 1, 1) := by decide +kernel
theorem dX2_copyFrom_18 : decode cX2_copyFrom 18 = .ok (.getfield 34, 3) := by decide +kernel
theorem dX2_copyFrom_21 : decode cX2_copyFrom 21 = .ok (.putfield 34, 3) := by decide +kernel
theorem dX2_copyFrom_24 : decode cX2_copyFrom 24 = .ok (.aload_n 0, 1) := by decide +kernel
theorem dX2_copyFrom_25 : decode cX2_copyFrom 25 = .ok (.aload_n 1, 1) := by decide +kernel
theorem dX2_copyFrom_26 : decode cX2_copyFrom 26 = .ok (.getfield 37, 3) := by decide +kernel
theorem dX2_copyFrom_29 : decode cX2_copyFrom 29 = .ok (.putfield 37, 3) := by decide +kernel
theorem dX2_copyFrom_32 : decode cX2_copyFrom 32 = .ok (.aload_n 0, 1) := by decide +kernel
theorem dX2_copyFrom_33 : decode cX2_copyFrom 33 = .ok (.aload_n 1, 1) := by decide +kernel
theorem dX2_copyFrom_34 : decode cX2_copyFrom 34 = .ok (.getfield 43, 3) := by decide +kernel
theorem dX2_copyFrom_37 : decode cX2_copyFrom 37 = .ok (.putfield 43, 3) := by decide +kernel
theorem dX2_copyFrom_40 : decode cX2_copyFrom 40 = .ok (.aload_n 0, 1) := by decide +kernel
theorem dX2_copyFrom_41 : decode cX2_copyFrom 41 = .ok (.aload_n 1, 1) := by decide +kernel
theorem dX2_copyFrom_42 : decode cX2_copyFrom 42 = .ok (.getfield 21, 3) := by decide +kernel
theorem dX2_copyFrom_45 : decode cX2_copyFrom 45 = .ok (.putfield 21, 3) := by decide +kernel
theorem dX2_copyFrom_48 : decode cX2_copyFrom 48 = .ok (.aload_n 0, 1) := by decide +kernel
theorem dX2_copyFrom_49 : decode cX2_copyFrom 49 = .ok (.aload_n 1, 1) := by decide +kernel
theorem dX2_copyFrom_50 : decode cX2_copyFrom 50 = .ok (.getfield 46, 3) := by decide +kernel
theorem dX2_copyFrom_53 : decode cX2_copyFrom 53 = .ok (.putfield 46, 3) := by decide +kernel
theorem dX2_copyFrom_56 : decode cX2_copyFrom 56 = .ok (.aload_n 0, 1) := by decide +kernel
theorem dX2_copyFrom_57 : decode cX2_copyFrom 57 = .ok (.aload_n 1, 1) := by decide +kernel
theorem dX2_copyFrom_58 : decode cX2_copyFrom 58 = .ok (.getfield 49, 3) := by decide +kernel
theorem dX2_copyFrom_61 : decode cX2_copyFrom 61 = .ok (.putfield 49, 3) := by decide +kernel
theorem dX2_copyFrom_64 : decode cX2_copyFrom 64 = .ok (.aload_n 0, 1) := by decide +kernel
theorem dX2_copyFrom_65 : decode cX2_copyFrom 65 = .ok (.aload_n 1, 1) := by decide +kernel
theorem dX2_copyFrom_66 : decode cX2_copyFrom 66 = .ok (.getfield 25, 3) := by decide +kernel
theorem dX2_copyFrom_69 : decode cX2_copyFrom 69 = .ok (.putfield 25, 3) := by decide +kernel
theorem dX2_copyFrom_72 : decode cX2_copyFrom 72 = .ok (.aload_n 0, 1) := by decide +kernel
theorem dX2_copyFrom_73 : decode cX2_copyFrom 73 = .ok (.aload_n 1, 1) := by decide +kernel
theorem dX2_copyFrom_74 : decode cX2_copyFrom 74 = .ok (.getfield 52, 3) := by decide +kernel
theorem dX2_copyFrom_77 : decode cX2_copyFrom 77 = .ok (.putfield 52, 3) := by decide +kernel
theorem dX2_copyFrom_80 : decode cX2_copyFrom 80 = .ok (.aload_n 1, 1) := by decide +kernel
theorem dX2_copyFrom_81 : decode cX2_copyFrom 81 = .ok (.getfield 9, 3) := by decide +kernel
theorem dX2_copyFrom_84 : decode cX2_copyFrom 84 = .ok (.aload_n 0, 1) := by decide +kernel
theorem dX2_copyFrom_85 : decode cX2_copyFrom 85 = .ok (.getfield 9, 3) := by decide +kernel
theorem dX2_copyFrom_88 : decode cX2_copyFrom 88 = .ok (.invokestatic 75, 3) := by decide +kernel
theorem dX2_copyFrom_91 : decode cX2_copyFrom 91 = .ok (.aload_n 1, 1) := by decide +kernel
theorem dX2_copyFrom_92 : decode cX2_copyFrom 92 = .ok (.getfield 15, 3) := by decide +kernel
theorem dX2_copyFrom_95 : decode cX2_copyFrom 95 = .ok (.aload_n 0, 1) := by decide +kernel
theorem dX2_copyFrom_96 : decode cX2_copyFrom 96 = .ok (.getfield 15, 3) := by decide +kernel
theorem dX2_copyFrom_99 : decode cX2_copyFrom 99 = .ok (.invokestatic 75, 3) := by decide +kernel
theorem dX2_copyFrom_102 : decode cX2_copyFrom 102 = .ok (.aload_n 1, 1) := by decide +kernel
theorem dX2_copyFrom_103 : decode cX2_copyFrom 103 = .ok (.getfield 18, 3) := by decide +kernel
theorem dX2_copyFrom_106 : decode cX2_copyFrom 106 = .ok (.aload_n 0, 1) := by decide +kernel
theorem dX2_copyFrom_107 : decode cX2_copyFrom 107 = .ok (.getfield 18, 3) := by decide +kernel
theorem dX2_copyFrom_110 : decode cX2_copyFrom 110 = .ok (.invokestatic 75, 3) := by decide +kernel
theorem dX2_copyFrom_113 : decode cX2_copyFrom 113 = .ok (.return_, 1) := by decide +kernel
theorem dX3_init_0 : decode cX3_init 0 = .ok (.aload_n 0, 1) := by decide +kernel
theorem dX3_init_1 : decode cX3_init 1 = .ok (.invokespecial 3, 3) := by decide +kernel
theorem dX3_init_4 : decode cX3_init 4 = .ok (.aload_n 0, 1) := by decide +kernel
theorem dX3_init_5 : decode cX3_init 5 = .ok (.bipush 8, 2) := by decide +kernel
theorem dX3_init_7 : decode cX3_init 7 = .ok (.anewarray 9, 3) := by decide +kernel
theorem dX3_init_10 : decode cX3_init 10 = .ok (.putfield 11, 3) := by decide +kernel
theorem dX3_init_13 : decode cX3_init 13 = .ok (.aload_n 0, 1) := by decide +kernel
theorem dX3_init_14 : decode cX3_init 14 = .ok (.bipush 64, 2) := by decide +kernel
theorem dX3_init_16 : decode cX3_init 16 = .ok (.anewarray 17, 3) := by decide +kernel
theorem dX3_init_19 : decode cX3_init 19 = .ok (.putfield 19, 3) := by decide +kernel
theorem dX3_init_22 : decode cX3_init 22 = .ok (.aload_n 0, 1) := by decide +kernel
theorem dX3_init_23 : decode cX3_init 23 = .ok (.bipush 12, 2) := by decide +kernel
theorem dX3_init_25 : decode cX3_init 25 = .ok (.anewarray 23, 3) := by decide +kernel
theorem dX3_init_28 : decode cX3_init 28 = .ok (.putfield 25, 3) := by decide +kernel
theorem dX3_init_31 : decode cX3_init 31 = .ok (.aload_n 0, 1) := by decide +kernel
theorem dX3_init_32 : decode cX3_init 32 = .ok (.bipush 8, 2) := by decide +kernel
theorem dX3_init_34 : decode cX3_init 34 = .ok (.newarray .int, 2) := by decide +kernel
theorem dX3_init_36 : decode cX3_init 36 = .ok (.putfield 29, 3) := by decide +kernel
theorem dX3_init_39 : decode cX3_init 39 = .ok (.aload_n 0, 1) := by decide +kernel
theorem dX3_init_40 : decode cX3_init 40 = .ok (.new 9, 3) := by decide +kernel
theorem dX3_init_43 : decode cX3_init 43 = .ok (.dup, 1) := by decide +kernel
theorem dX3_init_44 : decode cX3_init 44 = .ok (.invokespecial 33, 3) := by decide +kernel
theorem dX3_init_47 : decode cX3_init 47 = .ok (.putfield 34, 3) := by decide +kernel
theorem dX3_init_50 : decode cX3_init 50 = .ok (.aload_n 0, 1) := by decide +kernel
theorem dX3_init_51 : decode cX3_init 51 = .ok (.new 17, 3) := by decide +kernel
theorem dX3_init_54 : decode cX3_init 54 = .ok (.dup, 1) := by decide +kernel
theorem dX3_init_55 : decode cX3_init 55 = .ok (.invokespecial 38, 3) := by decide +kernel
theorem dX3_init_58 : decode cX3_init 58 = .ok (.putfield 39, 3) := by decide +kernel
theorem dX3_init_61 : decode cX3_init 61 = .ok (.aload_n 0, 1) := by decide +kernel
theorem dX3_init_62 : decode cX3_init 62 = .ok (.new 23, 3) := by decide +kernel
theorem dX3_init_65 : decode cX3_init 65 = .ok (.dup, 1) := by decide +kernel
theorem dX3_init_66 : decode cX3_init 66 = .ok (.invokespecial 43, 3) := by decide +kernel
theorem dX3_init_69 : decode cX3_init 69 = .ok (.putfield 44, 3) := by decide +kernel
theorem dX3_init_72 : decode cX3_init 72 = .ok (.aload_n 0, 1) := by decide +kernel
theorem dX3_init_73 : decode cX3_init 73 = .ok (.invokevirtual 48, 3) := by decide +kernel
theorem dX3_init_76 : decode cX3_init 76 = .ok (.iconst 0, 1) := by decide +kernel
theorem dX3_init_77 : decode cX3_init 77 = .ok (.istore_n 1, 1) := by decide +kernel
theorem dX3_init_78 : decode cX3_init 78 = .ok (.iload_n 1, 1) := by decide +kernel
theorem dX3_init_79 : decode cX3_init 79 = .ok (.aload_n 0, 1) := by decide +kernel
theorem dX3_init_80 : decode cX3_init 80 = .ok (.getfield 11, 3) := by decide +kernel
theorem dX3_init_83 : decode cX3_init 83 = .ok (.arraylength, 1) := by decide +kernel
theorem dX3_init_84 : decode cX3_init 84 = .ok (.if_icmp .ge 22, 3) := by decide +kernel
theorem dX3_init_87 : decode cX3_init 87 = .ok (.aload_n 0, 1) := by decide +kernel
theorem dX3_init_88 : decode cX3_init 88 = .ok (.getfield 11, 3) := by decide +kernel
theorem dX3_init_91 : decode cX3_init 91 = .ok (.iload_n 1, 1) := by decide +kernel
theorem dX3_init_92 : decode cX3_init 92 = .ok (.new 9, 3) := by decide +kernel
theorem dX3_init_95 : decode cX3_init 95 = .ok (.dup, 1) := by decide +kernel
theorem dX3_init_96 : decode cX3_init 96 = .ok (.invokespecial 33, 3) := by decide +kernel
theorem dX3_init_99 : decode cX3_init 99 = .ok (.aastore, 1) := by decide +kernel
theorem dX3_init_100 : decode cX3_init 100 = .ok (.iinc 1 1, 3) := by decide +kernel
theorem dX3_init_103 : decode cX3_init 103 = .ok (.goto (-25), 3) := by decide +kernel
theorem dX3_init_106 : decode cX3_init 106 = .ok (.iconst 0, 1) := by decide +kernel
theorem dX3_init_107 : decode cX3_init 107 = .ok (.istore_n 1, 1) := by decide +kernel
theorem dX3_init_108 : decode cX3_init 108 = .ok (.iload_n 1, 1) := by decide +kernel
theorem dX3_init_109 : decode cX3_init 109 = .ok (.aload_n 0, 1) := by decide +kernel
theorem dX3_init_110 : decode cX3_init 110 = .ok (.getfield 19, 3) := by decide +kernel
theorem dX3_init_113 : decode cX3_init 113 = .ok (.arraylength, 1) := by decide +kernel
theorem dX3_init_114 : decode cX3_init 114 = .ok (.if_icmp .ge 22, 3) := by decide +kernel
theorem dX3_init_117 : decode cX3_init 117 = .ok (.aload_n 0, 1) := by decide +kernel
theorem dX3_init_118 : decode cX3_init 118 = .ok (.getfield 19, 3) := by decide +kernel
theorem dX3_init_121 : decode cX3_init 121 = .ok (.iload_n 1, 1) := by decide +kernel
theorem dX3_init_122 : decode cX3_init 122 = .ok (.new 17, 3) := by decide +kernel
theorem dX3_init_125 : decode cX3_init 125 = .ok (.dup, 1) := by decide +kernel
theorem dX3_init_126 : decode cX3_init 126 = .ok (.invokespecial 38, 3) := by decide +kernel
theorem dX3_init_129 : decode cX3_init 129 = .ok (.aastore, 1) := by decide +kernel
theorem dX3_init_130 : decode cX3_init 130 = .ok (.iinc 1 1, 3) := by decide +kernel
theorem dX3_init_133 : decode cX3_init 133 = .ok (.goto (-25), 3) := by decide +kernel
theorem dX3_init_136 : decode cX3_init 136 = .ok (.iconst 0, 1) := by decide +kernel
theorem dX3_init_137 : decode cX3_init 137 = .ok (.istore_n 1, 1) := by decide +kernel
theorem dX3_init_138 : decode cX3_init 138 = .ok (.iload_n 1, 1) := by decide +kernel
theorem dX3_init_139 : decode cX3_init 139 = .ok (.aload_n 0, 1) := by decide +kernel
theorem dX3_init_140 : decode cX3_init 140 = .ok (.getfield 25, 3) := by decide +kernel
theorem dX3_init_143 : decode cX3_init 143 = .ok (.arraylength, 1) := by decide +kernel
theorem dX3_init_144 : decode cX3_init 144 = .ok (.if_icmp .ge 22, 3) := by decide +kernel
theorem dX3_init_147 : decode cX3_init 147 = .ok (.aload_n 0, 1) := by decide +kernel
theorem dX3_init_148 : decode cX3_init 148 = .ok (.getfield 25, 3) := by decide +kernel
theorem dX3_init_151 : decode cX3_init 151 = .ok (.iload_n 1, 1) := by decide +kernel
theorem dX3_init_152 : decode cX3_init 152 = .ok (.new 23, 3) := by decide +kernel
theorem dX3_init_155 : decode cX3_init 155 = .ok (.dup, 1) := by decide +kernel
theorem dX3_init_156 : decode cX3_init 156 = .ok (.invokespecial 43, 3) := by decide +kernel
theorem dX3_init_159 : decode cX3_init 159 = .ok (.aastore, 1) := by decide +kernel
theorem dX3_init_160 : decode cX3_init 160 = .ok (.iinc 1 1, 3) := by decide +kernel
theorem dX3_init_163 : decode cX3_init 163 = .ok (.goto (-25), 3) := by decide +kernel
theorem dX3_init_166 : decode cX3_init 166 = .ok (.return_, 1) := by decide +kernel
theorem dX3_setDefaults_0 : decode cX3_setDefaults 0 = .ok (.aload_n 0, 1) := by decide +kernel
theorem dX3_setDefaults_1 : decode cX3_setDefaults 1 = .ok (.iconst 4, 1) := by decide +kernel
theorem dX3_setDefaults_2 : decode cX3_setDefaults 2 = .ok (.putfield 51, 3) := by decide +kernel
theorem dX3_setDefaults_5 : decode cX3_setDefaults 5 = .ok (.aload_n 0, 1) := by decide +kernel
theorem dX3_setDefaults_6 : decode cX3_setDefaults 6 = .ok (.iconst 2, 1) := by decide +kernel
theorem dX3_setDefaults_7 : decode cX3_setDefaults 7 = .ok (.putfield 55, 3) := by decide +kernel
theorem dX3_setDefaults_10 : decode cX3_setDefaults 10 = .ok (.aload_n 0, 1) := by decide +kernel
theorem dX3_setDefaults_11 : decode cX3_setDefaults 11 = .ok (.iconst 5, 1) := by decide +kernel
theorem dX3_setDefaults_12 : decode cX3_setDefaults 12 = .ok (.putfield 58, 3) := by decide +kernel
theorem dX3_setDefaults_15 : decode cX3_setDefaults 15 = .ok (.aload_n 0, 1) := by decide +kernel
theorem dX3_setDefaults_16 : decode cX3_setDefaults 16 = .ok (.iconst 4, 1) := by decide +kernel
theorem dX3_setDefaults_17 : decode cX3_setDefaults 17 = .ok (.putfield 61, 3) := by decide +kernel
theorem dX3_setDefaults_20 : decode cX3_setDefaults 20 = .ok (.aload_n 0, 1) := by decide +kernel
theorem dX3_setDefaults_21 : decode cX3_setDefaults 21 = .ok (.iconst 5, 1) := by decide +kernel
theorem dX3_setDefaults_22 : decode cX3_setDefaults 22 = .ok (.putfield 64, 3) := by decide +kernel
theorem dX3_setDefaults_25 : decode cX3_setDefaults 25 = .ok (.aload_n 0, 1) := by decide +kernel
theorem dX3_setDefaults_26 : decode cX3_setDefaults 26 = .ok (.iconst 3, 1) := by decide +kernel
theorem dX3_setDefaults_27 : decode cX3_setDefaults 27 = .ok (.putfield 67, 3) := by decide +kernel
theorem dX3_setDefaults_30 : decode cX3_setDefaults 30 = .ok (.return_, 1) := by decide +kernel
theorem dX3_cellAt_0 : decode cX3_cellAt 0 = .ok (.iload_n 1, 1) := by decide +kernel
theorem dX3_cellAt_1 : decode cX3_cellAt 1 = .ok (.ifCond .lt 21, 3) := by decide +kernel
theorem dX3_cellAt_4 : decode cX3_cellAt 4 = .ok (.iload_n 1, 1) := by decide +kernel
theorem dX3_cellAt_5 : decode cX3_cellAt 5 = .ok (.aload_n 0, 1) := by decide +kernel
theorem dX3_cellAt_6 : decode cX3_cellAt 6 = .ok (.getfield 11, 3) := by decide +kernel
theorem dX3_cellAt_9 : decode cX3_cellAt 9 = .ok (.arraylength, 1) := by decide +kernel
theorem dX3_cellAt_10 : decode cX3_cellAt 10 = .ok (.if_icmp .ge 12, 3) := by decide +kernel
theorem dX3_cellAt_13 : decode cX3_cellAt 13 = .ok (.aload_n 0, 1) := by decide +kernel
theorem dX3_cellAt_14 : decode cX3_cellAt 14 = .ok (.getfield 11, 3) := by decide +kernel
theorem dX3_cellAt_17 : decode cX3_cellAt 17 = .ok (.iload_n 1, 1) := by decide +kernel
theorem dX3_cellAt_18 : decode cX3_cellAt 18 = .ok (.aaload, 1) := by decide +kernel
theorem dX3_cellAt_19 : decode cX3_cellAt 19 = .ok (.goto 4, 3) := by decide +kernel
theorem dX3_cellAt_22 : decode cX3_cellAt 22 = .ok (.aconst_null, 1) := by decide +kernel
theorem dX3_cellAt_23 : decode cX3_cellAt 23 = .ok (.astore_n 2, 1) := by decide +kernel
theorem dX3_cellAt_24 : decode cX3_cellAt 24 = .ok (.aload_n 2, 1) := by decide +kernel
theorem dX3_cellAt_25 : decode cX3_cellAt 25 = .ok (.ifnonnull 10, 3) := by decide +kernel
theorem dX3_cellAt_28 : decode cX3_cellAt 28 = .ok (.aload_n 0, 1) := by decide +kernel
theorem dX3_cellAt_29 : decode cX3_cellAt 29 = .ok (.getfield 34, 3) := by decide +kernel
theorem dX3_cellAt_32 : decode cX3_cellAt 32 = .ok (.goto 4, 3) := by decide +kernel
theorem dX3_cellAt_35 : decode cX3_cellAt 35 = .ok (.aload_n 2, 1) := by decide +kernel
theorem dX3_cellAt_36 : decode cX3_cellAt 36 = .ok (.areturn, 1) := by decide +kernel
theorem dX3_mobileAt_0 : decode cX3_mobileAt 0 = .ok (.iload_n 1, 1) := by decide +kernel
theorem dX3_mobileAt_1 : decode cX3_mobileAt 1 = .ok (.ifCond .lt 21, 3) := by decide +kernel
theorem dX3_mobileAt_4 : decode cX3_mobileAt 4 = .ok (.iload_n 1, 1) := by decide +kernel
theorem dX3_mobileAt_5 : decode cX3_mobileAt 5 = .ok (.aload_n 0, 1) := by decide +kernel
theorem dX3_mobileAt_6 : decode cX3_mobileAt 6 = .ok (.getfield 25, 3) := by decide +kernel
theorem dX3_mobileAt_9 : decode cX3_mobileAt 9 = .ok (.arraylength, 1) := by decide +kernel
theorem dX3_mobileAt_10 : decode cX3_mobileAt 10 = .ok (.if_icmp .ge 12, 3) := by decide +kernel
theorem dX3_mobileAt_13 : decode cX3_mobileAt 13 = .ok (.aload_n 0, 1) := by decide +kernel
theorem dX3_mobileAt_14 : decode cX3_mobileAt 14 = .ok (.getfield 25, 3) := by decide +kernel
theorem dX3_mobileAt_17 : decode cX3_mobileAt 17 = .ok (.iload_n 1, 1) := by decide +kernel
theorem dX3_mobileAt_18 : decode cX3_mobileAt 18 = .ok (.aaload, 1) := by decide +kernel
theorem dX3_mobileAt_19 : decode cX3_mobileAt 19 = .ok (.goto 4, 3) := by decide +kernel
theorem dX3_mobileAt_22 : decode cX3_mobileAt 22 = .ok (.aconst_null, 1) := by decide +kernel
theorem dX3_mobileAt_23 : decode cX3_mobileAt 23 = .ok (.astore_n 2, 1) := by decide +kernel
theorem dX3_mobileAt_24 : decode cX3_mobileAt 24 = .ok (.aload_n 2, 1) := by decide +kernel
theorem dX3_mobileAt_25 : decode cX3_mobileAt 25 = .ok (.ifnonnull 10, 3) := by decide +kernel
theorem dX3_mobileAt_28 : decode cX3_mobileAt 28 = .ok (.aload_n 0, 1) := by decide +kernel
theorem dX3_mobileAt_29 : decode cX3_mobileAt 29 = .ok (.getfield 44, 3) := by decide +kernel
theorem dX3_mobileAt_32 : decode cX3_mobileAt 32 = .ok (.goto 4, 3) := by decide +kernel
theorem dX3_mobileAt_35 : decode cX3_mobileAt 35 = .ok (.aload_n 2, 1) := by decide +kernel
theorem dX3_mobileAt_36 : decode cX3_mobileAt 36 = .ok (.areturn, 1) := by decide +kernel
theorem dX3_relationAt_0 : decode cX3_relationAt 0 = .ok (.iload_n 1, 1) := by decide +kernel
theorem dX3_relationAt_1 : decode cX3_relationAt 1 = .ok (.ifCond .lt 19, 3) := by decide +kernel
theorem dX3_relationAt_4 : decode cX3_relationAt 4 = .ok (.iload_n 1, 1) := by decide +kernel
theorem dX3_relationAt_5 : decode cX3_relationAt 5 = .ok (.bipush 8, 2) := by decide +kernel
theorem dX3_relationAt_7 : decode cX3_relationAt 7 = .ok (.if_icmp .ge 13, 3) := by decide +kernel
theorem dX3_relationAt_10 : decode cX3_relationAt 10 = .ok (.iload_n 2, 1) := by decide +kernel
theorem dX3_relationAt_11 : decode cX3_relationAt 11 = .ok (.ifCond .lt 9, 3) := by decide +kernel
theorem dX3_relationAt_14 : decode cX3_relationAt 14 = .ok (.iload_n 2, 1) := by decide +kernel
theorem dX3_relationAt_15 : decode cX3_relationAt 15 = .ok (.bipush 8, 2) := by decide +kernel
theorem dX3_relationAt_17 : decode cX3_relationAt 17 = .ok (.if_icmp .lt 8, 3) := by decide +kernel
theorem dX3_relationAt_20 : decode cX3_relationAt 20 = .ok (.aload_n 0, 1) := by decide +kernel
theorem dX3_relationAt_21 : decode cX3_relationAt 21 = .ok (.getfield 39, 3) := by decide +kernel
theorem dX3_relationAt_24 : decode cX3_relationAt 24 = .ok (.areturn, 1) := by decide +kernel
theorem dX3_relationAt_25 : decode cX3_relationAt 25 = .ok (.iload_n 1, 1) := by decide +kernel
theorem dX3_relationAt_26 : decode cX3_relationAt 26 = .ok (.bipush 8, 2) := by decide +kernel
theorem dX3_relationAt_28 : decode cX3_relationAt 28 = .ok (.imul, 1) := by decide +kernel
theorem dX3_relationAt_29 : decode cX3_relationAt 29 = .ok (.iload_n 2, 1) := by decide +kernel
theorem dX3_relationAt_30 : decode cX3_relationAt 30 = .ok (.iadd, 1) := by decide +kernel
theorem dX3_relationAt_31 : decode cX3_relationAt 31 = .ok (.istore_n 3, 1) := by decide +kernel
theorem dX3_relationAt_32 : decode cX3_relationAt 32 = .ok (.iload_n 3, 1) := by decide +kernel
theorem dX3_relationAt_33 : decode cX3_relationAt 33 = .ok (.aload_n 0, 1) := by decide +kernel
theorem dX3_relationAt_34 : decode cX3_relationAt 34 = .ok (.getfield 19, 3) := by decide +kernel
theorem dX3_relationAt_37 : decode cX3_relationAt 37 = .ok (.arraylength, 1) := by decide +kernel
theorem dX3_relationAt_38 : decode cX3_relationAt 38 = .ok (.if_icmp .ge 12, 3) := by decide +kernel
theorem dX3_relationAt_41 : decode cX3_relationAt 41 = .ok (.aload_n 0, 1) := by decide +kernel
theorem dX3_relationAt_42 : decode cX3_relationAt 42 = .ok (.getfield 19, 3) := by decide +kernel
theorem dX3_relationAt_45 : decode cX3_relationAt 45 = .ok (.iload_n 3, 1) := by decide +kernel
theorem dX3_relationAt_46 : decode cX3_relationAt 46 = .ok (.aaload, 1) := by decide +kernel
theorem dX3_relationAt_47 : decode cX3_relationAt 47 = .ok (.goto 4, 3) := by decide +kernel
theorem dX3_relationAt_50 : decode cX3_relationAt 50 = .ok (.aconst_null, 1) := by decide +kernel
theorem dX3_relationAt_51 : decode cX3_relationAt 51 = .ok (.astore 4, 2) := by decide +kernel
theorem dX3_relationAt_53 : decode cX3_relationAt 53 = .ok (.aload 4, 2) := by decide +kernel
theorem dX3_relationAt_55 : decode cX3_relationAt 55 = .ok (.ifnonnull 10, 3) := by decide +kernel
theorem dX3_relationAt_58 : decode cX3_relationAt 58 = .ok (.aload_n 0, 1) := by decide +kernel
theorem dX3_relationAt_59 : decode cX3_relationAt 59 = .ok (.getfield 39, 3) := by decide +kernel
theorem dX3_relationAt_62 : decode cX3_relationAt 62 = .ok (.goto 5, 3) := by decide +kernel
theorem dX3_relationAt_65 : decode cX3_relationAt 65 = .ok (.aload 4, 2) := by decide +kernel
theorem dX3_relationAt_67 : decode cX3_relationAt 67 = .ok (.areturn, 1) := by decide +kernel
theorem dX3_totalOf_0 : decode cX3_totalOf 0 = .ok (.iload_n 1, 1) := by decide +kernel
theorem dX3_totalOf_1 : decode cX3_totalOf 1 = .ok (.ifCond .lt 21, 3) := by decide +kernel
theorem dX3_totalOf_4 : decode cX3_totalOf 4 = .ok (.iload_n 1, 1) := by decide +kernel
theorem dX3_totalOf_5 : decode cX3_totalOf 5 = .ok (.aload_n 0, 1) := by decide +kernel
theorem dX3_totalOf_6 : decode cX3_totalOf 6 = .ok (.getfield 29, 3) := by decide +kernel
theorem dX3_totalOf_9 : decode cX3_totalOf 9 = .ok (.arraylength, 1) := by decide +kernel
theorem dX3_totalOf_10 : decode cX3_totalOf 10 = .ok (.if_icmp .ge 12, 3) := by decide +kernel
theorem dX3_totalOf_13 : decode cX3_totalOf 13 = .ok (.aload_n 0, 1) := by decide +kernel
theorem dX3_totalOf_14 : decode cX3_totalOf 14 = .ok (.getfield 29, 3) := by decide +kernel
theorem dX3_totalOf_17 : decode cX3_totalOf 17 = .ok (.iload_n 1, 1) := by decide +kernel
theorem dX3_totalOf_18 : decode cX3_totalOf 18 = .ok (.iaload, 1) := by decide +kernel
theorem dX3_totalOf_19 : decode cX3_totalOf 19 = .ok (.goto 4, 3) := by decide +kernel
theorem dX3_totalOf_22 : decode cX3_totalOf 22 = .ok (.iconst (-1), 1) := by decide +kernel
theorem dX3_totalOf_23 : decode cX3_totalOf 23 = .ok (.ireturn, 1) := by decide +kernel
theorem dX3_count_0 : decode cX3_count 0 = .ok (.iload_n 1, 1) := by decide +kernel
theorem dX3_count_1 : decode cX3_count 1 = .ok (.ifCond .lt 22, 3) := by decide +kernel
theorem dX3_count_4 : decode cX3_count 4 = .ok (.iload_n 1, 1) := by decide +kernel
theorem dX3_count_5 : decode cX3_count 5 = .ok (.aload_n 0, 1) := by decide +kernel
theorem dX3_count_6 : decode cX3_count 6 = .ok (.getfield 29, 3) := by decide +kernel
theorem dX3_count_9 : decode cX3_count 9 = .ok (.arraylength, 1) := by decide +kernel
theorem dX3_count_10 : decode cX3_count 10 = .ok (.if_icmp .ge 13, 3) := by decide +kernel
theorem dX3_count_13 : decode cX3_count 13 = .ok (.aload_n 0, 1) := by decide +kernel
theorem dX3_count_14 : decode cX3_count 14 = .ok (.getfield 29, 3) := by decide +kernel
theorem dX3_count_17 : decode cX3_count 17 = .ok (.iload_n 1, 1) := by decide +kernel
theorem dX3_count_18 : decode cX3_count 18 = .ok (.dup2, 1) := by decide +kernel
theorem dX3_count_19 : decode cX3_count 19 = .ok (.iaload, 1) := by decide +kernel
theorem dX3_count_20 : decode cX3_count 20 = .ok (.iconst 1, 1) := by decide +kernel
theorem dX3_count_21 : decode cX3_count 21 = .ok (.iadd, 1) := by decide +kernel
theorem dX3_count_22 : decode cX3_count 22 = .ok (.iastore, 1) := by decide +kernel
theorem dX3_count_23 : decode cX3_count 23 = .ok (.return_, 1) := by decide +kernel
theorem dX3_clear_0 : decode cX3_clear 0 = .ok (.aload_n 0, 1) := by decide +kernel
theorem dX3_clear_1 : decode cX3_clear 1 = .ok (.iconst 0, 1) := by decide +kernel
theorem dX3_clear_2 : decode cX3_clear 2 = .ok (.putfield 70, 3) := by decide +kernel
theorem dX3_clear_5 : decode cX3_clear 5 = .ok (.aload_n 0, 1) := by decide +kernel
theorem dX3_clear_6 : decode cX3_clear 6 = .ok (.iconst 0, 1) := by decide +kernel
theorem dX3_clear_7 : decode cX3_clear 7 = .ok (.putfield 73, 3) := by decide +kernel
theorem dX3_clear_10 : decode cX3_clear 10 = .ok (.aload_n 0, 1) := by decide +kernel
theorem dX3_clear_11 : decode cX3_clear 11 = .ok (.iconst 0, 1) := by decide +kernel
theorem dX3_clear_12 : decode cX3_clear 12 = .ok (.putfield 76, 3) := by decide +kernel
theorem dX3_clear_15 : decode cX3_clear 15 = .ok (.aload_n 0, 1) := by decide +kernel
theorem dX3_clear_16 : decode cX3_clear 16 = .ok (.iconst 0, 1) := by decide +kernel
theorem dX3_clear_17 : decode cX3_clear 17 = .ok (.putfield 79, 3) := by decide +kernel
theorem dX3_clear_20 : decode cX3_clear 20 = .ok (.aload_n 0, 1) := by decide +kernel
theorem dX3_clear_21 : decode cX3_clear 21 = .ok (.invokevirtual 48, 3) := by decide +kernel
theorem dX3_clear_24 : decode cX3_clear 24 = .ok (.iconst 0, 1) := by decide +kernel
theorem dX3_clear_25 : decode cX3_clear 25 = .ok (.istore_n 1, 1) := by decide +kernel
theorem dX3_clear_26 : decode cX3_clear 26 = .ok (.iload_n 1, 1) := by decide +kernel
theorem dX3_clear_27 : decode cX3_clear 27 = .ok (.bipush 8, 2) := by decide +kernel
theorem dX3_clear_29 : decode cX3_clear 29 = .ok (.if_icmp .ge 32, 3) := by decide +kernel
theorem dX3_clear_32 : decode cX3_clear 32 = .ok (.iconst 0, 1) := by decide +kernel
theorem dX3_clear_33 : decode cX3_clear 33 = .ok (.istore_n 2, 1) := by decide +kernel
theorem dX3_clear_34 : decode cX3_clear 34 = .ok (.iload_n 2, 1) := by decide +kernel
theorem dX3_clear_35 : decode cX3_clear 35 = .ok (.bipush 8, 2) := by decide +kernel
theorem dX3_clear_37 : decode cX3_clear 37 = .ok (.if_icmp .ge 18, 3) := by decide +kernel
theorem dX3_clear_40 : decode cX3_clear 40 = .ok (.aload_n 0, 1) := by decide +kernel
theorem dX3_clear_41 : decode cX3_clear 41 = .ok (.iload_n 1, 1) := by decide +kernel
theorem dX3_clear_42 : decode cX3_clear 42 = .ok (.iload_n 2, 1) := by decide +kernel
theorem dX3_clear_43 : decode cX3_clear 43 = .ok (.invokevirtual 82, 3) := by decide +kernel
theorem dX3_clear_46 : decode cX3_clear 46 = .ok (.invokevirtual 86, 3) := by decide +kernel
theorem dX3_clear_49 : decode cX3_clear 49 = .ok (.iinc 2 1, 3) := by decide +kernel
theorem dX3_clear_52 : decode cX3_clear 52 = .ok (.goto (-18), 3) := by decide +kernel
theorem dX3_clear_55 : decode cX3_clear 55 = .ok (.iinc 1 1, 3) := by decide +kernel
theorem dX3_clear_58 : decode cX3_clear 58 = .ok (.goto (-32), 3) := by decide +kernel
theorem dX3_clear_61 : decode cX3_clear 61 = .ok (.aload_n 0, 1) := by decide +kernel
theorem dX3_clear_62 : decode cX3_clear 62 = .ok (.getfield 29, 3) := by decide +kernel
theorem dX3_clear_65 : decode cX3_clear 65 = .ok (.iconst 0, 1) := by decide +kernel
theorem dX3_clear_66 : decode cX3_clear 66 = .ok (.invokestatic 89, 3) := by decide +kernel
theorem dX3_clear_69 : decode cX3_clear 69 = .ok (.return_, 1) := by decide +kernel
theorem dX3_copyFrom_0 : decode cX3_copyFrom 0 = .ok (.aload_n 0, 1) := by decide +kernel
theorem dX3_copyFrom_1 : decode cX3_copyFrom 1 = .ok (.aload_n 1, 1) := by decide +kernel
theorem dX3_copyFrom_2 : decode cX3_copyFrom 2 = .ok (.getfield 70, 3) := by decide +kernel
theorem dX3_copyFrom_5 : decode cX3_copyFrom 5 = .ok (.putfield 70, 3) := by decide +kernel
theorem dX3_copyFrom_8 : decode cX3_copyFrom 8 = .ok (.aload_n 0, 1) := by decide +kernel
theorem dX3_copyFrom_9 : decode cX3_copyFrom 9 = .ok (.aload_n 1, 1) := by decide +kernel
theorem dX3_copyFrom_10 : decode cX3_copyFrom 10 = .ok (.getfield 73, 3) := by decide +kernel
theorem dX3_copyFrom_13 : decode cX3_copyFrom 13 = .ok (.putfield 73, 3) := by decide +kernel
theorem dX3_copyFrom_16 : decode cX3_copyFrom 16 = .ok (.aload_n 0, 1) := by decide +kernel
theorem dX3_copyFrom_17 : decode cX3_copyFrom 17 = .ok (.aload_n 1, 1) := by decide +kernel
theorem dX3_copyFrom_18 : decode cX3_copyFrom 18 = .ok (.getfield 76, 3) := by decide +kernel
theorem dX3_copyFrom_21 : decode cX3_copyFrom 21 = .ok (.putfield 76, 3) := by decide +kernel
theorem dX3_copyFrom_24 : decode cX3_copyFrom 24 = .ok (.aload_n 0, 1) := by decide +kernel
theorem dX3_copyFrom_25 : decode cX3_copyFrom 25 = .ok (.aload_n 1, 1) := by decide +kernel
theorem dX3_copyFrom_26 : decode cX3_copyFrom 26 = .ok (.getfield 79, 3) := by decide +kernel
theorem dX3_copyFrom_29 : decode cX3_copyFrom 29 = .ok (.putfield 79, 3) := by decide +kernel
theorem dX3_copyFrom_32 : decode cX3_copyFrom 32 = .ok (.aload_n 0, 1) := by decide +kernel
theorem dX3_copyFrom_33 : decode cX3_copyFrom 33 = .ok (.aload_n 1, 1) := by decide +kernel
theorem dX3_copyFrom_34 : decode cX3_copyFrom 34 = .ok (.getfield 51, 3) := by decide +kernel
theorem dX3_copyFrom_37 : decode cX3_copyFrom 37 = .ok (.putfield 51, 3) := by decide +kernel
theorem dX3_copyFrom_40 : decode cX3_copyFrom 40 = .ok (.aload_n 0, 1) := by decide +kernel
theorem dX3_copyFrom_41 : decode cX3_copyFrom 41 = .ok (.aload_n 1, 1) := by decide +kernel
theorem dX3_copyFrom_42 : decode cX3_copyFrom 42 = .ok (.getfield 55, 3) := by decide +kernel
theorem dX3_copyFrom_45 : decode cX3_copyFrom 45 = .ok (.putfield 55, 3) := by decide +kernel
theorem dX3_copyFrom_48 : decode cX3_copyFrom 48 = .ok (.aload_n 0, 1) := by decide +kernel
theorem dX3_copyFrom_49 : decode cX3_copyFrom 49 = .ok (.aload_n 1, 1) := by decide +kernel
theorem dX3_copyFrom_50 : decode cX3_copyFrom 50 = .ok (.getfield 58, 3) := by decide +kernel
theorem dX3_copyFrom_53 : decode cX3_copyFrom 53 = .ok (.putfield 58, 3) := by decide +kernel
theorem dX3_copyFrom_56 : decode cX3_copyFrom 56 = .ok (.aload_n 0, 1) := by decide +kernel
theorem dX3_copyFrom_57 : decode cX3_copyFrom 57 = .ok (.aload_n 1, 1) := by decide +kernel
theorem dX3_copyFrom_58 : decode cX3_copyFrom 58 = .ok (.getfield 61, 3) := by decide +kernel
theorem dX3_copyFrom_61 : decode cX3_copyFrom 61 = .ok (.putfield 61, 3) := by decide +kernel
theorem dX3_copyFrom_64 : decode cX3_copyFrom 64 = .ok (.aload_n 0, 1) := by decide +kernel
theorem dX3_copyFrom_65 : decode cX3_copyFrom 65 = .ok (.aload_n 1, 1) := by decide +kernel
theorem dX3_copyFrom_66 : decode cX3_copyFrom 66 = .ok (.getfield 64, 3) := by decide +kernel
theorem dX3_copyFrom_69 : decode cX3_copyFrom 69 = .ok (.putfield 64, 3) := by decide +kernel
theorem dX3_copyFrom_72 : decode cX3_copyFrom 72 = .ok (.aload_n 0, 1) := by decide +kernel
theorem dX3_copyFrom_73 : decode cX3_copyFrom 73 = .ok (.aload_n 1, 1) := by decide +kernel
theorem dX3_copyFrom_74 : decode cX3_copyFrom 74 = .ok (.getfield 67, 3) := by decide +kernel
theorem dX3_copyFrom_77 : decode cX3_copyFrom 77 = .ok (.putfield 67, 3) := by decide +kernel
theorem dX3_copyFrom_80 : decode cX3_copyFrom 80 = .ok (.iconst 0, 1) := by decide +kernel
theorem dX3_copyFrom_81 : decode cX3_copyFrom 81 = .ok (.istore_n 2, 1) := by decide +kernel
theorem dX3_copyFrom_82 : decode cX3_copyFrom 82 = .ok (.iload_n 2, 1) := by decide +kernel
theorem dX3_copyFrom_83 : decode cX3_copyFrom 83 = .ok (.bipush 8, 2) := by decide +kernel
theorem dX3_copyFrom_85 : decode cX3_copyFrom 85 = .ok (.if_icmp .ge 51, 3) := by decide +kernel
theorem dX3_copyFrom_88 : decode cX3_copyFrom 88 = .ok (.aload_n 0, 1) := by decide +kernel
theorem dX3_copyFrom_89 : decode cX3_copyFrom 89 = .ok (.iload_n 2, 1) := by decide +kernel
theorem dX3_copyFrom_90 : decode cX3_copyFrom 90 = .ok (.invokevirtual 95, 3) := by decide +kernel
theorem dX3_copyFrom_93 : decode cX3_copyFrom 93 = .ok (.aload_n 1, 1) := by decide +kernel
theorem dX3_copyFrom_94 : decode cX3_copyFrom 94 = .ok (.iload_n 2, 1) := by decide +kernel
theorem dX3_copyFrom_95 : decode cX3_copyFrom 95 = .ok (.invokevirtual 95, 3) := by decide +kernel
theorem dX3_copyFrom_98 : decode cX3_copyFrom 98 = .ok (.invokevirtual 99, 3) := by decide +kernel
theorem dX3_copyFrom_101 : decode cX3_copyFrom 101 = .ok (.iconst 0, 1) := by decide +kernel
theorem dX3_copyFrom_102 : decode cX3_copyFrom 102 = .ok (.istore_n 3, 1) := by decide +kernel
theorem dX3_copyFrom_103 : decode cX3_copyFrom 103 = .ok (.iload_n 3, 1) := by decide +kernel
theorem dX3_copyFrom_104 : decode cX3_copyFrom 104 = .ok (.bipush 8, 2) := by decide +kernel
theorem dX3_copyFrom_106 : decode cX3_copyFrom 106 = .ok (.if_icmp .ge 24, 3) := by decide +kernel
theorem dX3_copyFrom_109 : decode cX3_copyFrom 109 = .ok (.aload_n 0, 1) := by decide +kernel
theorem dX3_copyFrom_110 : decode cX3_copyFrom 110 = .ok (.iload_n 2, 1) := by decide +kernel
theorem dX3_copyFrom_111 : decode cX3_copyFrom 111 = .ok (.iload_n 3, 1) := by decide +kernel
theorem dX3_copyFrom_112 : decode cX3_copyFrom 112 = .ok (.invokevirtual 82, 3) := by decide +kernel
theorem dX3_copyFrom_115 : decode cX3_copyFrom 115 = .ok (.aload_n 1, 1) := by decide +kernel
theorem dX3_copyFrom_116 : decode cX3_copyFrom 116 = .ok (.iload_n 2, 1) := by decide +kernel
theorem dX3_copyFrom_117 : decode cX3_copyFrom 117 = .ok (.iload_n 3, 1) := by decide +kernel
theorem dX3_copyFrom_118 : decode cX3_copyFrom 118 = .ok (.invokevirtual 82, 3) := by decide +kernel
theorem dX3_copyFrom_121 : decode cX3_copyFrom 121 = .ok (.invokevirtual 103, 3) := by decide +kernel
theorem dX3_copyFrom_124 : decode cX3_copyFrom 124 = .ok (.iinc 3 1, 3) := by decide +kernel
theorem dX3_copyFrom_127 : decode cX3_copyFrom 127 = .ok (.goto (-24), 3) := by decide +kernel
theorem dX3_copyFrom_130 : decode cX3_copyFrom 130 = .ok (.iinc 2 1, 3) := by decide +kernel
theorem dX3_copyFrom_133 : decode cX3_copyFrom 133 = .ok (.goto (-51), 3) := by decide +kernel
theorem dX3_copyFrom_136 : decode cX3_copyFrom 136 = .ok (.iconst 0, 1) := by decide +kernel
theorem dX3_copyFrom_137 : decode cX3_copyFrom 137 = .ok (.istore_n 2, 1) := by decide +kernel
theorem dX3_copyFrom_138 : decode cX3_copyFrom 138 = .ok (.iload_n 2, 1) := by decide +kernel
theorem dX3_copyFrom_139 : decode cX3_copyFrom 139 = .ok (.bipush 12, 2) := by decide +kernel
theorem dX3_copyFrom_141 : decode cX3_copyFrom 141 = .ok (.if_icmp .ge 22, 3) := by decide +kernel
theorem dX3_copyFrom_144 : decode cX3_copyFrom 144 = .ok (.aload_n 0, 1) := by decide +kernel
theorem dX3_copyFrom_145 : decode cX3_copyFrom 145 = .ok (.iload_n 2, 1) := by decide +kernel
theorem dX3_copyFrom_146 : decode cX3_copyFrom 146 = .ok (.invokevirtual 106, 3) := by decide +kernel
theorem dX3_copyFrom_149 : decode cX3_copyFrom 149 = .ok (.aload_n 1, 1) := by decide +kernel
theorem dX3_copyFrom_150 : decode cX3_copyFrom 150 = .ok (.iload_n 2, 1) := by decide +kernel
theorem dX3_copyFrom_151 : decode cX3_copyFrom 151 = .ok (.invokevirtual 106, 3) := by decide +kernel
theorem dX3_copyFrom_154 : decode cX3_copyFrom 154 = .ok (.invokevirtual 110, 3) := by decide +kernel
theorem dX3_copyFrom_157 : decode cX3_copyFrom 157 = .ok (.iinc 2 1, 3) := by decide +kernel
theorem dX3_copyFrom_160 : decode cX3_copyFrom 160 = .ok (.goto (-22), 3) := by decide +kernel
theorem dX3_copyFrom_163 : decode cX3_copyFrom 163 = .ok (.aload_n 1, 1) := by decide +kernel
theorem dX3_copyFrom_164 : decode cX3_copyFrom 164 = .ok (.getfield 29, 3) := by decide +kernel
theorem dX3_copyFrom_167 : decode cX3_copyFrom 167 = .ok (.aload_n 0, 1) := by decide +kernel
theorem dX3_copyFrom_168 : decode cX3_copyFrom 168 = .ok (.getfield 29, 3) := by decide +kernel
theorem dX3_copyFrom_171 : decode cX3_copyFrom 171 = .ok (.invokestatic 113, 3) := by decide +kernel
theorem dX3_copyFrom_174 : decode cX3_copyFrom 174 = .ok (.return_, 1) := by decide +kernel
theorem dX3_loudestCell_0 : decode cX3_loudestCell 0 = .ok (.iconst (-1), 1) := by decide +kernel
theorem dX3_loudestCell_1 : decode cX3_loudestCell 1 = .ok (.istore_n 3, 1) := by decide +kernel
theorem dX3_loudestCell_2 : decode cX3_loudestCell 2 = .ok (.iconst (-1), 1) := by decide +kernel
theorem dX3_loudestCell_3 : decode cX3_loudestCell 3 = .ok (.istore 4, 2) := by decide +kernel
theorem dX3_loudestCell_5 : decode cX3_loudestCell 5 = .ok (.iconst 0, 1) := by decide +kernel
theorem dX3_loudestCell_6 : decode cX3_loudestCell 6 = .ok (.istore 5, 2) := by decide +kernel
theorem dX3_loudestCell_8 : decode cX3_loudestCell 8 = .ok (.iload 5, 2) := by decide +kernel
theorem dX3_loudestCell_10 : decode cX3_loudestCell 10 = .ok (.aload_n 0, 1) := by decide +kernel
theorem dX3_loudestCell_11 : decode cX3_loudestCell 11 = .ok (.getfield 70, 3) := by decide +kernel
theorem dX3_loudestCell_14 : decode cX3_loudestCell 14 = .ok (.if_icmp .ge 36, 3) := by decide +kernel
theorem dX3_loudestCell_17 : decode cX3_loudestCell 17 = .ok (.aload_n 0, 1) := by decide +kernel
theorem dX3_loudestCell_18 : decode cX3_loudestCell 18 = .ok (.iload 5, 2) := by decide +kernel
theorem dX3_loudestCell_20 : decode cX3_loudestCell 20 = .ok (.invokevirtual 95, 3) := by decide +kernel
theorem dX3_loudestCell_23 : decode cX3_loudestCell 23 = .ok (.iload_n 1, 1) := by decide +kernel
theorem dX3_loudestCell_24 : decode cX3_loudestCell 24 = .ok (.iload_n 2, 1) := by decide +kernel
theorem dX3_loudestCell_25 : decode cX3_loudestCell 25 = .ok (.invokevirtual 117, 3) := by decide +kernel
theorem dX3_loudestCell_28 : decode cX3_loudestCell 28 = .ok (.istore 6, 2) := by decide +kernel
theorem dX3_loudestCell_30 : decode cX3_loudestCell 30 = .ok (.iload 6, 2) := by decide +kernel
theorem dX3_loudestCell_32 : decode cX3_loudestCell 32 = .ok (.iload 4, 2) := by decide +kernel
theorem dX3_loudestCell_34 : decode cX3_loudestCell 34 = .ok (.if_icmp .le 10, 3) := by decide +kernel
theorem dX3_loudestCell_37 : decode cX3_loudestCell 37 = .ok (.iload 5, 2) := by decide +kernel
theorem dX3_loudestCell_39 : decode cX3_loudestCell 39 = .ok (.istore_n 3, 1) := by decide +kernel
theorem dX3_loudestCell_40 : decode cX3_loudestCell 40 = .ok (.iload 6, 2) := by decide +kernel
theorem dX3_loudestCell_42 : decode cX3_loudestCell 42 = .ok (.istore 4, 2) := by decide +kernel
theorem dX3_loudestCell_44 : decode cX3_loudestCell 44 = .ok (.iinc 5 1, 3) := by decide +kernel
theorem dX3_loudestCell_47 : decode cX3_loudestCell 47 = .ok (.goto (-39), 3) := by decide +kernel
theorem dX3_loudestCell_50 : decode cX3_loudestCell 50 = .ok (.iload_n 3, 1) := by decide +kernel
theorem dX3_loudestCell_51 : decode cX3_loudestCell 51 = .ok (.ireturn, 1) := by decide +kernel
theorem dX3_coveringCell_0 : decode cX3_coveringCell 0 = .ok (.aload_n 0, 1) := by decide +kernel
theorem dX3_coveringCell_1 : decode cX3_coveringCell 1 = .ok (.iload_n 1, 1) := by decide +kernel
theorem dX3_coveringCell_2 : decode cX3_coveringCell 2 = .ok (.iload_n 2, 1) := by decide +kernel
theorem dX3_coveringCell_3 : decode cX3_coveringCell 3 = .ok (.invokevirtual 121, 3) := by decide +kernel
theorem dX3_coveringCell_6 : decode cX3_coveringCell 6 = .ok (.istore_n 3, 1) := by decide +kernel
theorem dX3_coveringCell_7 : decode cX3_coveringCell 7 = .ok (.iload_n 3, 1) := by decide +kernel
theorem dX3_coveringCell_8 : decode cX3_coveringCell 8 = .ok (.iconst (-1), 1) := by decide +kernel
theorem dX3_coveringCell_9 : decode cX3_coveringCell 9 = .ok (.if_icmp .eq 17, 3) := by decide +kernel
theorem dX3_coveringCell_12 : decode cX3_coveringCell 12 = .ok (.aload_n 0, 1) := by decide +kernel
theorem dX3_coveringCell_13 : decode cX3_coveringCell 13 = .ok (.iload_n 3, 1) := by decide +kernel
theorem dX3_coveringCell_14 : decode cX3_coveringCell 14 = .ok (.iload_n 1, 1) := by decide +kernel
theorem dX3_coveringCell_15 : decode cX3_coveringCell 15 = .ok (.iload_n 2, 1) := by decide +kernel
theorem dX3_coveringCell_16 : decode cX3_coveringCell 16 = .ok (.invokevirtual 124, 3) := by decide +kernel
theorem dX3_coveringCell_19 : decode cX3_coveringCell 19 = .ok (.ifCond .eq 7, 3) := by decide +kernel
theorem dX3_coveringCell_22 : decode cX3_coveringCell 22 = .ok (.iload_n 3, 1) := by decide +kernel
theorem dX3_coveringCell_23 : decode cX3_coveringCell 23 = .ok (.goto 4, 3) := by decide +kernel
theorem dX3_coveringCell_26 : decode cX3_coveringCell 26 = .ok (.iconst (-1), 1) := by decide +kernel
theorem dX3_coveringCell_27 : decode cX3_coveringCell 27 = .ok (.ireturn, 1) := by decide +kernel
theorem dX3_canBeUsed_0 : decode cX3_canBeUsed 0 = .ok (.aload_n 0, 1) := by decide +kernel
theorem dX3_canBeUsed_1 : decode cX3_canBeUsed 1 = .ok (.iload_n 1, 1) := by decide +kernel
theorem dX3_canBeUsed_2 : decode cX3_canBeUsed 2 = .ok (.invokevirtual 95, 3) := by decide +kernel
theorem dX3_canBeUsed_5 : decode cX3_canBeUsed 5 = .ok (.astore 4, 2) := by decide +kernel
theorem dX3_canBeUsed_7 : decode cX3_canBeUsed 7 = .ok (.aload 4, 2) := by decide +kernel
theorem dX3_canBeUsed_9 : decode cX3_canBeUsed 9 = .ok (.iload_n 2, 1) := by decide +kernel
theorem dX3_canBeUsed_10 : decode cX3_canBeUsed 10 = .ok (.iload_n 3, 1) := by decide +kernel
theorem dX3_canBeUsed_11 : decode cX3_canBeUsed 11 = .ok (.invokevirtual 117, 3) := by decide +kernel
theorem dX3_canBeUsed_14 : decode cX3_canBeUsed 14 = .ok (.aload 4, 2) := by decide +kernel
theorem dX3_canBeUsed_16 : decode cX3_canBeUsed 16 = .ok (.getfield 128, 3) := by decide +kernel
theorem dX3_canBeUsed_19 : decode cX3_canBeUsed 19 = .ok (.if_icmp .lt 7, 3) := by decide +kernel
theorem dX3_canBeUsed_22 : decode cX3_canBeUsed 22 = .ok (.iconst 1, 1) := by decide +kernel
theorem dX3_canBeUsed_23 : decode cX3_canBeUsed 23 = .ok (.goto 4, 3) := by decide +kernel
theorem dX3_canBeUsed_26 : decode cX3_canBeUsed 26 = .ok (.iconst 0, 1) := by decide +kernel
theorem dX3_canBeUsed_27 : decode cX3_canBeUsed 27 = .ok (.ireturn, 1) := by decide +kernel
theorem dX3_talkersIn_0 : decode cX3_talkersIn 0 = .ok (.iconst 0, 1) := by decide +kernel
theorem dX3_talkersIn_1 : decode cX3_talkersIn 1 = .ok (.istore_n 2, 1) := by decide +kernel
theorem dX3_talkersIn_2 : decode cX3_talkersIn 2 = .ok (.iconst 0, 1) := by decide +kernel
theorem dX3_talkersIn_3 : decode cX3_talkersIn 3 = .ok (.istore_n 3, 1) := by decide +kernel
theorem dX3_talkersIn_4 : decode cX3_talkersIn 4 = .ok (.iload_n 3, 1) := by decide +kernel
theorem dX3_talkersIn_5 : decode cX3_talkersIn 5 = .ok (.aload_n 0, 1) := by decide +kernel
theorem dX3_talkersIn_6 : decode cX3_talkersIn 6 = .ok (.getfield 76, 3) := by decide +kernel
theorem dX3_talkersIn_9 : decode cX3_talkersIn 9 = .ok (.if_icmp .ge 37, 3) := by decide +kernel
theorem dX3_talkersIn_12 : decode cX3_talkersIn 12 = .ok (.aload_n 0, 1) := by decide +kernel
theorem dX3_talkersIn_13 : decode cX3_talkersIn 13 = .ok (.iload_n 3, 1) := by decide +kernel
theorem dX3_talkersIn_14 : decode cX3_talkersIn 14 = .ok (.invokevirtual 106, 3) := by decide +kernel
theorem dX3_talkersIn_17 : decode cX3_talkersIn 17 = .ok (.astore 4, 2) := by decide +kernel
theorem dX3_talkersIn_19 : decode cX3_talkersIn 19 = .ok (.aload 4, 2) := by decide +kernel
theorem dX3_talkersIn_21 : decode cX3_talkersIn 21 = .ok (.getfield 131, 3) := by decide +kernel
theorem dX3_talkersIn_24 : decode cX3_talkersIn 24 = .ok (.iconst 1, 1) := by decide +kernel
theorem dX3_talkersIn_25 : decode cX3_talkersIn 25 = .ok (.if_icmp .ne 15, 3) := by decide +kernel
theorem dX3_talkersIn_28 : decode cX3_talkersIn 28 = .ok (.aload 4, 2) := by decide +kernel
theorem dX3_talkersIn_30 : decode cX3_talkersIn 30 = .ok (.getfield 134, 3) := by decide +kernel
theorem dX3_talkersIn_33 : decode cX3_talkersIn 33 = .ok (.iload_n 1, 1) := by decide +kernel
theorem dX3_talkersIn_34 : decode cX3_talkersIn 34 = .ok (.if_icmp .ne 6, 3) := by decide +kernel
theorem dX3_talkersIn_37 : decode cX3_talkersIn 37 = .ok (.iinc 2 1, 3) := by decide +kernel
theorem dX3_talkersIn_40 : decode cX3_talkersIn 40 = .ok (.iinc 3 1, 3) := by decide +kernel
theorem dX3_talkersIn_43 : decode cX3_talkersIn 43 = .ok (.goto (-39), 3) := by decide +kernel
theorem dX3_talkersIn_46 : decode cX3_talkersIn 46 = .ok (.iload_n 2, 1) := by decide +kernel
theorem dX3_talkersIn_47 : decode cX3_talkersIn 47 = .ok (.ireturn, 1) := by decide +kernel
theorem dX3_hasFreeChannel_0 : decode cX3_hasFreeChannel 0 = .ok (.aload_n 0, 1) := by decide +kernel
theorem dX3_hasFreeChannel_1 : decode cX3_hasFreeChannel 1 = .ok (.iload_n 1, 1) := by decide +kernel
theorem dX3_hasFreeChannel_2 : decode cX3_hasFreeChannel 2 = .ok (.invokevirtual 137, 3) := by decide +kernel
theorem dX3_hasFreeChannel_5 : decode cX3_hasFreeChannel 5 = .ok (.aload_n 0, 1) := by decide +kernel
theorem dX3_hasFreeChannel_6 : decode cX3_hasFreeChannel 6 = .ok (.iload_n 1, 1) := by decide +kernel
theorem dX3_hasFreeChannel_7 : decode cX3_hasFreeChannel 7 = .ok (.invokevirtual 95, 3) := by decide +kernel
theorem dX3_hasFreeChannel_10 : decode cX3_hasFreeChannel 10 = .ok (.getfield 141, 3) := by decide +kernel
theorem dX3_hasFreeChannel_13 : decode cX3_hasFreeChannel 13 = .ok (.if_icmp .ge 7, 3) := by decide +kernel
theorem dX3_hasFreeChannel_16 : decode cX3_hasFreeChannel 16 = .ok (.iconst 1, 1) := by decide +kernel
theorem dX3_hasFreeChannel_17 : decode cX3_hasFreeChannel 17 = .ok (.goto 4, 3) := by decide +kernel
theorem dX3_hasFreeChannel_20 : decode cX3_hasFreeChannel 20 = .ok (.iconst 0, 1) := by decide +kernel
theorem dX3_hasFreeChannel_21 : decode cX3_hasFreeChannel 21 = .ok (.ireturn, 1) := by decide +kernel
theorem dX3_requestsAt_0 : decode cX3_requestsAt 0 = .ok (.iconst 0, 1) := by decide +kernel
theorem dX3_requestsAt_1 : decode cX3_requestsAt 1 = .ok (.istore_n 2, 1) := by decide +kernel
theorem dX3_requestsAt_2 : decode cX3_requestsAt 2 = .ok (.iconst 0, 1) := by decide +kernel
theorem dX3_requestsAt_3 : decode cX3_requestsAt 3 = .ok (.istore_n 3, 1) := by decide +kernel
theorem dX3_requestsAt_4 : decode cX3_requestsAt 4 = .ok (.iload_n 3, 1) := by decide +kernel
theorem dX3_requestsAt_5 : decode cX3_requestsAt 5 = .ok (.aload_n 0, 1) := by decide +kernel
theorem dX3_requestsAt_6 : decode cX3_requestsAt 6 = .ok (.getfield 76, 3) := by decide +kernel
theorem dX3_requestsAt_9 : decode cX3_requestsAt 9 = .ok (.if_icmp .ge 24, 3) := by decide +kernel
theorem dX3_requestsAt_12 : decode cX3_requestsAt 12 = .ok (.aload_n 0, 1) := by decide +kernel
theorem dX3_requestsAt_13 : decode cX3_requestsAt 13 = .ok (.iload_n 3, 1) := by decide +kernel
theorem dX3_requestsAt_14 : decode cX3_requestsAt 14 = .ok (.invokevirtual 106, 3) := by decide +kernel
theorem dX3_requestsAt_17 : decode cX3_requestsAt 17 = .ok (.getfield 144, 3) := by decide +kernel
theorem dX3_requestsAt_20 : decode cX3_requestsAt 20 = .ok (.iload_n 1, 1) := by decide +kernel
theorem dX3_requestsAt_21 : decode cX3_requestsAt 21 = .ok (.if_icmp .ne 6, 3) := by decide +kernel
theorem dX3_requestsAt_24 : decode cX3_requestsAt 24 = .ok (.iinc 2 1, 3) := by decide +kernel
theorem dX3_requestsAt_27 : decode cX3_requestsAt 27 = .ok (.iinc 3 1, 3) := by decide +kernel
theorem dX3_requestsAt_30 : decode cX3_requestsAt 30 = .ok (.goto (-26), 3) := by decide +kernel
theorem dX3_requestsAt_33 : decode cX3_requestsAt 33 = .ok (.iload_n 2, 1) := by decide +kernel
theorem dX3_requestsAt_34 : decode cX3_requestsAt 34 = .ok (.ireturn, 1) := by decide +kernel
theorem dX3_hasQueuePlace_0 : decode cX3_hasQueuePlace 0 = .ok (.aload_n 0, 1) := by decide +kernel
theorem dX3_hasQueuePlace_1 : decode cX3_hasQueuePlace 1 = .ok (.iload_n 1, 1) := by decide +kernel
theorem dX3_hasQueuePlace_2 : decode cX3_hasQueuePlace 2 = .ok (.invokevirtual 147, 3) := by decide +kernel
theorem dX3_hasQueuePlace_5 : decode cX3_hasQueuePlace 5 = .ok (.aload_n 0, 1) := by decide +kernel
theorem dX3_hasQueuePlace_6 : decode cX3_hasQueuePlace 6 = .ok (.iload_n 1, 1) := by decide +kernel
theorem dX3_hasQueuePlace_7 : decode cX3_hasQueuePlace 7 = .ok (.invokevirtual 95, 3) := by decide +kernel
theorem dX3_hasQueuePlace_10 : decode cX3_hasQueuePlace 10 = .ok (.getfield 150, 3) := by decide +kernel
theorem dX3_hasQueuePlace_13 : decode cX3_hasQueuePlace 13 = .ok (.if_icmp .ge 7, 3) := by decide +kernel
theorem dX3_hasQueuePlace_16 : decode cX3_hasQueuePlace 16 = .ok (.iconst 1, 1) := by decide +kernel
theorem dX3_hasQueuePlace_17 : decode cX3_hasQueuePlace 17 = .ok (.goto 4, 3) := by decide +kernel
theorem dX3_hasQueuePlace_20 : decode cX3_hasQueuePlace 20 = .ok (.iconst 0, 1) := by decide +kernel
theorem dX3_hasQueuePlace_21 : decode cX3_hasQueuePlace 21 = .ok (.ireturn, 1) := by decide +kernel
theorem dX3_queuedMobile_0 : decode cX3_queuedMobile 0 = .ok (.iconst 0, 1) := by decide +kernel
theorem dX3_queuedMobile_1 : decode cX3_queuedMobile 1 = .ok (.istore_n 3, 1) := by decide +kernel
theorem dX3_queuedMobile_2 : decode cX3_queuedMobile 2 = .ok (.iload_n 3, 1) := by decide +kernel
theorem dX3_queuedMobile_3 : decode cX3_queuedMobile 3 = .ok (.aload_n 0, 1) := by decide +kernel
theorem dX3_queuedMobile_4 : decode cX3_queuedMobile 4 = .ok (.getfield 76, 3) := by decide +kernel
theorem dX3_queuedMobile_7 : decode cX3_queuedMobile 7 = .ok (.if_icmp .ge 32, 3) := by decide +kernel
theorem dX3_queuedMobile_10 : decode cX3_queuedMobile 10 = .ok (.aload_n 0, 1) := by decide +kernel
theorem dX3_queuedMobile_11 : decode cX3_queuedMobile 11 = .ok (.iload_n 3, 1) := by decide +kernel
theorem dX3_queuedMobile_12 : decode cX3_queuedMobile 12 = .ok (.invokevirtual 106, 3) := by decide +kernel
theorem dX3_queuedMobile_15 : decode cX3_queuedMobile 15 = .ok (.getfield 144, 3) := by decide +kernel
theorem dX3_queuedMobile_18 : decode cX3_queuedMobile 18 = .ok (.iload_n 1, 1) := by decide +kernel
theorem dX3_queuedMobile_19 : decode cX3_queuedMobile 19 = .ok (.if_icmp .ne 14, 3) := by decide +kernel
theorem dX3_queuedMobile_22 : decode cX3_queuedMobile 22 = .ok (.aload_n 0, 1) := by decide +kernel
theorem dX3_queuedMobile_23 : decode cX3_queuedMobile 23 = .ok (.iload_n 3, 1) := by decide +kernel
theorem dX3_queuedMobile_24 : decode cX3_queuedMobile 24 = .ok (.invokevirtual 153, 3) := by decide +kernel
theorem dX3_queuedMobile_27 : decode cX3_queuedMobile 27 = .ok (.iload_n 2, 1) := by decide +kernel
theorem dX3_queuedMobile_28 : decode cX3_queuedMobile 28 = .ok (.if_icmp .ne 5, 3) := by decide +kernel
theorem dX3_queuedMobile_31 : decode cX3_queuedMobile 31 = .ok (.iload_n 3, 1) := by decide +kernel
theorem dX3_queuedMobile_32 : decode cX3_queuedMobile 32 = .ok (.ireturn, 1) := by decide +kernel
theorem dX3_queuedMobile_33 : decode cX3_queuedMobile 33 = .ok (.iinc 3 1, 3) := by decide +kernel
theorem dX3_queuedMobile_36 : decode cX3_queuedMobile 36 = .ok (.goto (-34), 3) := by decide +kernel
theorem dX3_queuedMobile_39 : decode cX3_queuedMobile 39 = .ok (.iconst (-1), 1) := by decide +kernel
theorem dX3_queuedMobile_40 : decode cX3_queuedMobile 40 = .ok (.ireturn, 1) := by decide +kernel
theorem dX3_requestsBefore_0 : decode cX3_requestsBefore 0 = .ok (.aload_n 0, 1) := by decide +kernel
theorem dX3_requestsBefore_1 : decode cX3_requestsBefore 1 = .ok (.iload_n 1, 1) := by decide +kernel
theorem dX3_requestsBefore_2 : decode cX3_requestsBefore 2 = .ok (.invokevirtual 106, 3) := by decide +kernel
theorem dX3_requestsBefore_5 : decode cX3_requestsBefore 5 = .ok (.getfield 144, 3) := by decide +kernel
theorem dX3_requestsBefore_8 : decode cX3_requestsBefore 8 = .ok (.istore_n 2, 1) := by decide +kernel
theorem dX3_requestsBefore_9 : decode cX3_requestsBefore 9 = .ok (.iconst 0, 1) := by decide +kernel
theorem dX3_requestsBefore_10 : decode cX3_requestsBefore 10 = .ok (.istore_n 3, 1) := by decide +kernel
theorem dX3_requestsBefore_11 : decode cX3_requestsBefore 11 = .ok (.iconst 0, 1) := by decide +kernel
theorem dX3_requestsBefore_12 : decode cX3_requestsBefore 12 = .ok (.istore 4, 2) := by decide +kernel
theorem dX3_requestsBefore_14 : decode cX3_requestsBefore 14 = .ok (.iload 4, 2) := by decide +kernel
theorem dX3_requestsBefore_16 : decode cX3_requestsBefore 16 = .ok (.aload_n 0, 1) := by decide +kernel
theorem dX3_requestsBefore_17 : decode cX3_requestsBefore 17 = .ok (.getfield 76, 3) := by decide +kernel
theorem dX3_requestsBefore_20 : decode cX3_requestsBefore 20 = .ok (.if_icmp .ge 35, 3) := by decide +kernel
theorem dX3_requestsBefore_23 : decode cX3_requestsBefore 23 = .ok (.aload_n 0, 1) := by decide +kernel
theorem dX3_requestsBefore_24 : decode cX3_requestsBefore 24 = .ok (.iload 4, 2) := by decide +kernel
theorem dX3_requestsBefore_26 : decode cX3_requestsBefore 26 = .ok (.invokevirtual 106, 3) := by decide +kernel
theorem dX3_requestsBefore_29 : decode cX3_requestsBefore 29 = .ok (.getfield 144, 3) := by decide +kernel
theorem dX3_requestsBefore_32 : decode cX3_requestsBefore 32 = .ok (.iload_n 2, 1) := by decide +kernel
theorem dX3_requestsBefore_33 : decode cX3_requestsBefore 33 = .ok (.if_icmp .ne 16, 3) := by decide +kernel
theorem dX3_requestsBefore_36 : decode cX3_requestsBefore 36 = .ok (.aload_n 0, 1) := by decide +kernel
theorem dX3_requestsBefore_37 : decode cX3_requestsBefore 37 = .ok (.iload 4, 2) := by decide +kernel
theorem dX3_requestsBefore_39 : decode cX3_requestsBefore 39 = .ok (.iload_n 1, 1) := by decide +kernel
theorem dX3_requestsBefore_40 : decode cX3_requestsBefore 40 = .ok (.invokevirtual 156, 3) := by decide +kernel
theorem dX3_requestsBefore_43 : decode cX3_requestsBefore 43 = .ok (.ifCond .eq 6, 3) := by decide +kernel
theorem dX3_requestsBefore_46 : decode cX3_requestsBefore 46 = .ok (.iinc 3 1, 3) := by decide +kernel
theorem dX3_requestsBefore_49 : decode cX3_requestsBefore 49 = .ok (.iinc 4 1, 3) := by decide +kernel
theorem dX3_requestsBefore_52 : decode cX3_requestsBefore 52 = .ok (.goto (-38), 3) := by decide +kernel
theorem dX3_requestsBefore_55 : decode cX3_requestsBefore 55 = .ok (.iload_n 3, 1) := by decide +kernel
theorem dX3_requestsBefore_56 : decode cX3_requestsBefore 56 = .ok (.ireturn, 1) := by decide +kernel
theorem dX3_comesBefore_0 : decode cX3_comesBefore 0 = .ok (.aload_n 0, 1) := by decide +kernel
theorem dX3_comesBefore_1 : decode cX3_comesBefore 1 = .ok (.iload_n 1, 1) := by decide +kernel
theorem dX3_comesBefore_2 : decode cX3_comesBefore 2 = .ok (.invokevirtual 106, 3) := by decide +kernel
theorem dX3_comesBefore_5 : decode cX3_comesBefore 5 = .ok (.astore_n 3, 1) := by decide +kernel
theorem dX3_comesBefore_6 : decode cX3_comesBefore 6 = .ok (.aload_n 0, 1) := by decide +kernel
theorem dX3_comesBefore_7 : decode cX3_comesBefore 7 = .ok (.iload_n 2, 1) := by decide +kernel
theorem dX3_comesBefore_8 : decode cX3_comesBefore 8 = .ok (.invokevirtual 106, 3) := by decide +kernel
theorem dX3_comesBefore_11 : decode cX3_comesBefore 11 = .ok (.astore 4, 2) := by decide +kernel
theorem dX3_comesBefore_13 : decode cX3_comesBefore 13 = .ok (.aload_n 3, 1) := by decide +kernel
theorem dX3_comesBefore_14 : decode cX3_comesBefore 14 = .ok (.getfield 131, 3) := by decide +kernel
theorem dX3_comesBefore_17 : decode cX3_comesBefore 17 = .ok (.aload 4, 2) := by decide +kernel
theorem dX3_comesBefore_19 : decode cX3_comesBefore 19 = .ok (.getfield 131, 3) := by decide +kernel
theorem dX3_comesBefore_22 : decode cX3_comesBefore 22 = .ok (.if_icmp .eq 17, 3) := by decide +kernel
theorem dX3_comesBefore_25 : decode cX3_comesBefore 25 = .ok (.aload_n 3, 1) := by decide +kernel
theorem dX3_comesBefore_26 : decode cX3_comesBefore 26 = .ok (.getfield 131, 3) := by decide +kernel
theorem dX3_comesBefore_29 : decode cX3_comesBefore 29 = .ok (.iconst 1, 1) := by decide +kernel
theorem dX3_comesBefore_30 : decode cX3_comesBefore 30 = .ok (.if_icmp .ne 7, 3) := by decide +kernel
theorem dX3_comesBefore_33 : decode cX3_comesBefore 33 = .ok (.iconst 1, 1) := by decide +kernel
theorem dX3_comesBefore_34 : decode cX3_comesBefore 34 = .ok (.goto 4, 3) := by decide +kernel
theorem dX3_comesBefore_37 : decode cX3_comesBefore 37 = .ok (.iconst 0, 1) := by decide +kernel
theorem dX3_comesBefore_38 : decode cX3_comesBefore 38 = .ok (.ireturn, 1) := by decide +kernel
theorem dX3_comesBefore_39 : decode cX3_comesBefore 39 = .ok (.aload_n 3, 1) := by decide +kernel
theorem dX3_comesBefore_40 : decode cX3_comesBefore 40 = .ok (.getfield 160, 3) := by decide +kernel
theorem dX3_comesBefore_43 : decode cX3_comesBefore 43 = .ok (.aload 4, 2) := by decide +kernel
theorem dX3_comesBefore_45 : decode cX3_comesBefore 45 = .ok (.getfield 160, 3) := by decide +kernel
theorem dX3_comesBefore_48 : decode cX3_comesBefore 48 = .ok (.if_icmp .eq 21, 3) := by decide +kernel
theorem dX3_comesBefore_51 : decode cX3_comesBefore 51 = .ok (.aload_n 3, 1) := by decide +kernel
theorem dX3_comesBefore_52 : decode cX3_comesBefore 52 = .ok (.getfield 160, 3) := by decide +kernel
theorem dX3_comesBefore_55 : decode cX3_comesBefore 55 = .ok (.aload 4, 2) := by decide +kernel
theorem dX3_comesBefore_57 : decode cX3_comesBefore 57 = .ok (.getfield 160, 3) := by decide +kernel
theorem dX3_comesBefore_60 : decode cX3_comesBefore 60 = .ok (.if_icmp .ge 7, 3) := by decide +kernel
theorem dX3_comesBefore_63 : decode cX3_comesBefore 63 = .ok (.iconst 1, 1) := by decide +kernel
theorem dX3_comesBefore_64 : decode cX3_comesBefore 64 = .ok (.goto 4, 3) := by decide +kernel
theorem dX3_comesBefore_67 : decode cX3_comesBefore 67 = .ok (.iconst 0, 1) := by decide +kernel
theorem dX3_comesBefore_68 : decode cX3_comesBefore 68 = .ok (.ireturn, 1) := by decide +kernel
theorem dX3_comesBefore_69 : decode cX3_comesBefore 69 = .ok (.iload_n 1, 1) := by decide +kernel
theorem dX3_comesBefore_70 : decode cX3_comesBefore 70 = .ok (.iload_n 2, 1) := by decide +kernel
theorem dX3_comesBefore_71 : decode cX3_comesBefore 71 = .ok (.if_icmp .ge 7, 3) := by decide +kernel
theorem dX3_comesBefore_74 : decode cX3_comesBefore 74 = .ok (.iconst 1, 1) := by decide +kernel
theorem dX3_comesBefore_75 : decode cX3_comesBefore 75 = .ok (.goto 4, 3) := by decide +kernel
theorem dX3_comesBefore_78 : decode cX3_comesBefore 78 = .ok (.iconst 0, 1) := by decide +kernel
theorem dX3_comesBefore_79 : decode cX3_comesBefore 79 = .ok (.ireturn, 1) := by decide +kernel
theorem dX3_setUpCall_0 : decode cX3_setUpCall 0 = .ok (.aload_n 0, 1) := by decide +kernel
theorem dX3_setUpCall_1 : decode cX3_setUpCall 1 = .ok (.iload_n 3, 1) := by decide +kernel
theorem dX3_setUpCall_2 : decode cX3_setUpCall 2 = .ok (.invokevirtual 163, 3) := by decide +kernel
theorem dX3_setUpCall_5 : decode cX3_setUpCall 5 = .ok (.ifCond .eq 7, 3) := by decide +kernel
theorem dX3_setUpCall_8 : decode cX3_setUpCall 8 = .ok (.iload_n 3, 1) := by decide +kernel
theorem dX3_setUpCall_9 : decode cX3_setUpCall 9 = .ok (.goto 16, 3) := by decide +kernel
theorem dX3_setUpCall_12 : decode cX3_setUpCall 12 = .ok (.aload_n 0, 1) := by decide +kernel
theorem dX3_setUpCall_13 : decode cX3_setUpCall 13 = .ok (.iload_n 3, 1) := by decide +kernel
theorem dX3_setUpCall_14 : decode cX3_setUpCall 14 = .ok (.aload_n 1, 1) := by decide +kernel
theorem dX3_setUpCall_15 : decode cX3_setUpCall 15 = .ok (.getfield 167, 3) := by decide +kernel
theorem dX3_setUpCall_18 : decode cX3_setUpCall 18 = .ok (.aload_n 1, 1) := by decide +kernel
theorem dX3_setUpCall_19 : decode cX3_setUpCall 19 = .ok (.getfield 170, 3) := by decide +kernel
theorem dX3_setUpCall_22 : decode cX3_setUpCall 22 = .ok (.invokevirtual 173, 3) := by decide +kernel
theorem dX3_setUpCall_25 : decode cX3_setUpCall 25 = .ok (.istore 4, 2) := by decide +kernel
theorem dX3_setUpCall_27 : decode cX3_setUpCall 27 = .ok (.iload 4, 2) := by decide +kernel
theorem dX3_setUpCall_29 : decode cX3_setUpCall 29 = .ok (.iconst (-1), 1) := by decide +kernel
theorem dX3_setUpCall_30 : decode cX3_setUpCall 30 = .ok (.if_icmp .eq 28, 3) := by decide +kernel
theorem dX3_setUpCall_33 : decode cX3_setUpCall 33 = .ok (.iload 4, 2) := by decide +kernel
theorem dX3_setUpCall_35 : decode cX3_setUpCall 35 = .ok (.iload_n 3, 1) := by decide +kernel
theorem dX3_setUpCall_36 : decode cX3_setUpCall 36 = .ok (.if_icmp .eq 8, 3) := by decide +kernel
theorem dX3_setUpCall_39 : decode cX3_setUpCall 39 = .ok (.aload_n 0, 1) := by decide +kernel
theorem dX3_setUpCall_40 : decode cX3_setUpCall 40 = .ok (.iconst 5, 1) := by decide +kernel
theorem dX3_setUpCall_41 : decode cX3_setUpCall 41 = .ok (.invokevirtual 177, 3) := by decide +kernel
theorem dX3_setUpCall_44 : decode cX3_setUpCall 44 = .ok (.aload_n 1, 1) := by decide +kernel
theorem dX3_setUpCall_45 : decode cX3_setUpCall 45 = .ok (.iload_n 2, 1) := by decide +kernel
theorem dX3_setUpCall_46 : decode cX3_setUpCall 46 = .ok (.putfield 181, 3) := by decide +kernel
theorem dX3_setUpCall_49 : decode cX3_setUpCall 49 = .ok (.aload_n 1, 1) := by decide +kernel
theorem dX3_setUpCall_50 : decode cX3_setUpCall 50 = .ok (.iload 4, 2) := by decide +kernel
theorem dX3_setUpCall_52 : decode cX3_setUpCall 52 = .ok (.invokevirtual 184, 3) := by decide +kernel
theorem dX3_setUpCall_55 : decode cX3_setUpCall 55 = .ok (.iload 4, 2) := by decide +kernel
theorem dX3_setUpCall_57 : decode cX3_setUpCall 57 = .ok (.ireturn, 1) := by decide +kernel
theorem dX3_setUpCall_58 : decode cX3_setUpCall 58 = .ok (.aload_n 0, 1) := by decide +kernel
theorem dX3_setUpCall_59 : decode cX3_setUpCall 59 = .ok (.iload_n 3, 1) := by decide +kernel
theorem dX3_setUpCall_60 : decode cX3_setUpCall 60 = .ok (.invokevirtual 187, 3) := by decide +kernel
theorem dX3_setUpCall_63 : decode cX3_setUpCall 63 = .ok (.ifCond .eq 20, 3) := by decide +kernel
theorem dX3_setUpCall_66 : decode cX3_setUpCall 66 = .ok (.aload_n 1, 1) := by decide +kernel
theorem dX3_setUpCall_67 : decode cX3_setUpCall 67 = .ok (.iload_n 2, 1) := by decide +kernel
theorem dX3_setUpCall_68 : decode cX3_setUpCall 68 = .ok (.putfield 181, 3) := by decide +kernel
theorem dX3_setUpCall_71 : decode cX3_setUpCall 71 = .ok (.aload_n 1, 1) := by decide +kernel
theorem dX3_setUpCall_72 : decode cX3_setUpCall 72 = .ok (.iload_n 3, 1) := by decide +kernel
theorem dX3_setUpCall_73 : decode cX3_setUpCall 73 = .ok (.aload_n 0, 1) := by decide +kernel
theorem dX3_setUpCall_74 : decode cX3_setUpCall 74 = .ok (.getfield 79, 3) := by decide +kernel
theorem dX3_setUpCall_77 : decode cX3_setUpCall 77 = .ok (.invokevirtual 190, 3) := by decide +kernel
theorem dX3_setUpCall_80 : decode cX3_setUpCall 80 = .ok (.bipush (-3), 2) := by decide +kernel
theorem dX3_setUpCall_82 : decode cX3_setUpCall 82 = .ok (.ireturn, 1) := by decide +kernel
theorem dX3_setUpCall_83 : decode cX3_setUpCall 83 = .ok (.aload_n 0, 1) := by decide +kernel
theorem dX3_setUpCall_84 : decode cX3_setUpCall 84 = .ok (.iconst 4, 1) := by decide +kernel
theorem dX3_setUpCall_85 : decode cX3_setUpCall 85 = .ok (.invokevirtual 177, 3) := by decide +kernel
theorem dX3_setUpCall_88 : decode cX3_setUpCall 88 = .ok (.bipush (-5), 2) := by decide +kernel
theorem dX3_setUpCall_90 : decode cX3_setUpCall 90 = .ok (.ireturn, 1) := by decide +kernel
theorem dX3_retryCell_0 : decode cX3_retryCell 0 = .ok (.iconst (-1), 1) := by decide +kernel
theorem dX3_retryCell_1 : decode cX3_retryCell 1 = .ok (.istore 4, 2) := by decide +kernel
theorem dX3_retryCell_3 : decode cX3_retryCell 3 = .ok (.iconst (-1), 1) := by decide +kernel
theorem dX3_retryCell_4 : decode cX3_retryCell 4 = .ok (.istore 5, 2) := by decide +kernel
theorem dX3_retryCell_6 : decode cX3_retryCell 6 = .ok (.iconst 0, 1) := by decide +kernel
theorem dX3_retryCell_7 : decode cX3_retryCell 7 = .ok (.istore 6, 2) := by decide +kernel
theorem dX3_retryCell_9 : decode cX3_retryCell 9 = .ok (.iload 6, 2) := by decide +kernel
theorem dX3_retryCell_11 : decode cX3_retryCell 11 = .ok (.aload_n 0, 1) := by decide +kernel
theorem dX3_retryCell_12 : decode cX3_retryCell 12 = .ok (.getfield 70, 3) := by decide +kernel
theorem dX3_retryCell_15 : decode cX3_retryCell 15 = .ok (.if_icmp .ge 70, 3) := by decide +kernel
theorem dX3_retryCell_18 : decode cX3_retryCell 18 = .ok (.aload_n 0, 1) := by decide +kernel
theorem dX3_retryCell_19 : decode cX3_retryCell 19 = .ok (.iload 6, 2) := by decide +kernel
theorem dX3_retryCell_21 : decode cX3_retryCell 21 = .ok (.invokevirtual 95, 3) := by decide +kernel
theorem dX3_retryCell_24 : decode cX3_retryCell 24 = .ok (.iload_n 2, 1) := by decide +kernel
theorem dX3_retryCell_25 : decode cX3_retryCell 25 = .ok (.iload_n 3, 1) := by decide +kernel
theorem dX3_retryCell_26 : decode cX3_retryCell 26 = .ok (.invokevirtual 117, 3) := by decide +kernel
theorem dX3_retryCell_29 : decode cX3_retryCell 29 = .ok (.istore 7, 2) := by decide +kernel
theorem dX3_retryCell_31 : decode cX3_retryCell 31 = .ok (.aload_n 0, 1) := by decide +kernel
theorem dX3_retryCell_32 : decode cX3_retryCell 32 = .ok (.iload_n 1, 1) := by decide +kernel
theorem dX3_retryCell_33 : decode cX3_retryCell 33 = .ok (.iload 6, 2) := by decide +kernel
theorem dX3_retryCell_35 : decode cX3_retryCell 35 = .ok (.invokevirtual 82, 3) := by decide +kernel
theorem dX3_retryCell_38 : decode cX3_retryCell 38 = .ok (.getfield 194, 3) := by decide +kernel
theorem dX3_retryCell_41 : decode cX3_retryCell 41 = .ok (.ifCond .eq 38, 3) := by decide +kernel
theorem dX3_retryCell_44 : decode cX3_retryCell 44 = .ok (.iload 7, 2) := by decide +kernel
theorem dX3_retryCell_46 : decode cX3_retryCell 46 = .ok (.iload 5, 2) := by decide +kernel
theorem dX3_retryCell_48 : decode cX3_retryCell 48 = .ok (.if_icmp .le 31, 3) := by decide +kernel
theorem dX3_retryCell_51 : decode cX3_retryCell 51 = .ok (.aload_n 0, 1) := by decide +kernel
theorem dX3_retryCell_52 : decode cX3_retryCell 52 = .ok (.iload 6, 2) := by decide +kernel
theorem dX3_retryCell_54 : decode cX3_retryCell 54 = .ok (.iload_n 2, 1) := by decide +kernel
theorem dX3_retryCell_55 : decode cX3_retryCell 55 = .ok (.iload_n 3, 1) := by decide +kernel
theorem dX3_retryCell_56 : decode cX3_retryCell 56 = .ok (.invokevirtual 124, 3) := by decide +kernel
theorem dX3_retryCell_59 : decode cX3_retryCell 59 = .ok (.ifCond .eq 20, 3) := by decide +kernel
theorem dX3_retryCell_62 : decode cX3_retryCell 62 = .ok (.aload_n 0, 1) := by decide +kernel
theorem dX3_retryCell_63 : decode cX3_retryCell 63 = .ok (.iload 6, 2) := by decide +kernel
theorem dX3_retryCell_65 : decode cX3_retryCell 65 = .ok (.invokevirtual 163, 3) := by decide +kernel
theorem dX3_retryCell_68 : decode cX3_retryCell 68 = .ok (.ifCond .eq 11, 3) := by decide +kernel
theorem dX3_retryCell_71 : decode cX3_retryCell 71 = .ok (.iload 6, 2) := by decide +kernel
theorem dX3_retryCell_73 : decode cX3_retryCell 73 = .ok (.istore 4, 2) := by decide +kernel
theorem dX3_retryCell_75 : decode cX3_retryCell 75 = .ok (.iload 7, 2) := by decide +kernel
theorem dX3_retryCell_77 : decode cX3_retryCell 77 = .ok (.istore 5, 2) := by decide +kernel
theorem dX3_retryCell_79 : decode cX3_retryCell 79 = .ok (.iinc 6 1, 3) := by decide +kernel
theorem dX3_retryCell_82 : decode cX3_retryCell 82 = .ok (.goto (-73), 3) := by decide +kernel
theorem dX3_retryCell_85 : decode cX3_retryCell 85 = .ok (.iload 4, 2) := by decide +kernel
theorem dX3_retryCell_87 : decode cX3_retryCell 87 = .ok (.ireturn, 1) := by decide +kernel
theorem dX3_handOver_0 : decode cX3_handOver 0 = .ok (.aload_n 1, 1) := by decide +kernel
theorem dX3_handOver_1 : decode cX3_handOver 1 = .ok (.getfield 134, 3) := by decide +kernel
theorem dX3_handOver_4 : decode cX3_handOver 4 = .ok (.istore_n 3, 1) := by decide +kernel
theorem dX3_handOver_5 : decode cX3_handOver 5 = .ok (.aload_n 1, 1) := by decide +kernel
theorem dX3_handOver_6 : decode cX3_handOver 6 = .ok (.iload_n 2, 1) := by decide +kernel
theorem dX3_handOver_7 : decode cX3_handOver 7 = .ok (.aload_n 0, 1) := by decide +kernel
theorem dX3_handOver_8 : decode cX3_handOver 8 = .ok (.getfield 79, 3) := by decide +kernel
theorem dX3_handOver_11 : decode cX3_handOver 11 = .ok (.invokevirtual 198, 3) := by decide +kernel
theorem dX3_handOver_14 : decode cX3_handOver 14 = .ok (.ifCond .eq 8, 3) := by decide +kernel
theorem dX3_handOver_17 : decode cX3_handOver 17 = .ok (.aload_n 0, 1) := by decide +kernel
theorem dX3_handOver_18 : decode cX3_handOver 18 = .ok (.iconst 1, 1) := by decide +kernel
theorem dX3_handOver_19 : decode cX3_handOver 19 = .ok (.invokevirtual 177, 3) := by decide +kernel
theorem dX3_handOver_22 : decode cX3_handOver 22 = .ok (.aload_n 1, 1) := by decide +kernel
theorem dX3_handOver_23 : decode cX3_handOver 23 = .ok (.iload_n 3, 1) := by decide +kernel
theorem dX3_handOver_24 : decode cX3_handOver 24 = .ok (.aload_n 0, 1) := by decide +kernel
theorem dX3_handOver_25 : decode cX3_handOver 25 = .ok (.getfield 79, 3) := by decide +kernel
theorem dX3_handOver_28 : decode cX3_handOver 28 = .ok (.aload_n 0, 1) := by decide +kernel
theorem dX3_handOver_29 : decode cX3_handOver 29 = .ok (.getfield 58, 3) := by decide +kernel
theorem dX3_handOver_32 : decode cX3_handOver 32 = .ok (.iadd, 1) := by decide +kernel
theorem dX3_handOver_33 : decode cX3_handOver 33 = .ok (.invokevirtual 201, 3) := by decide +kernel
theorem dX3_handOver_36 : decode cX3_handOver 36 = .ok (.aload_n 1, 1) := by decide +kernel
theorem dX3_handOver_37 : decode cX3_handOver 37 = .ok (.iload_n 2, 1) := by decide +kernel
theorem dX3_handOver_38 : decode cX3_handOver 38 = .ok (.putfield 134, 3) := by decide +kernel
theorem dX3_handOver_41 : decode cX3_handOver 41 = .ok (.aload_n 1, 1) := by decide +kernel
theorem dX3_handOver_42 : decode cX3_handOver 42 = .ok (.iconst 0, 1) := by decide +kernel
theorem dX3_handOver_43 : decode cX3_handOver 43 = .ok (.putfield 204, 3) := by decide +kernel
theorem dX3_handOver_46 : decode cX3_handOver 46 = .ok (.aload_n 1, 1) := by decide +kernel
theorem dX3_handOver_47 : decode cX3_handOver 47 = .ok (.iconst (-1), 1) := by decide +kernel
theorem dX3_handOver_48 : decode cX3_handOver 48 = .ok (.putfield 144, 3) := by decide +kernel
theorem dX3_handOver_51 : decode cX3_handOver 51 = .ok (.aload_n 0, 1) := by decide +kernel
theorem dX3_handOver_52 : decode cX3_handOver 52 = .ok (.iload_n 3, 1) := by decide +kernel
theorem dX3_handOver_53 : decode cX3_handOver 53 = .ok (.iload_n 2, 1) := by decide +kernel
theorem dX3_handOver_54 : decode cX3_handOver 54 = .ok (.invokevirtual 82, 3) := by decide +kernel
theorem dX3_handOver_57 : decode cX3_handOver 57 = .ok (.dup, 1) := by decide +kernel
theorem dX3_handOver_58 : decode cX3_handOver 58 = .ok (.getfield 207, 3) := by decide +kernel
theorem dX3_handOver_61 : decode cX3_handOver 61 = .ok (.iconst 1, 1) := by decide +kernel
theorem dX3_handOver_62 : decode cX3_handOver 62 = .ok (.iadd, 1) := by decide +kernel
theorem dX3_handOver_63 : decode cX3_handOver 63 = .ok (.putfield 207, 3) := by decide +kernel
theorem dX3_handOver_66 : decode cX3_handOver 66 = .ok (.aload_n 0, 1) := by decide +kernel
theorem dX3_handOver_67 : decode cX3_handOver 67 = .ok (.iconst 0, 1) := by decide +kernel
theorem dX3_handOver_68 : decode cX3_handOver 68 = .ok (.invokevirtual 177, 3) := by decide +kernel
theorem dX3_handOver_71 : decode cX3_handOver 71 = .ok (.return_, 1) := by decide +kernel
theorem dX4_init_0 : decode cX4_init 0 = .ok (.aload_n 0, 1) := by decide +kernel
theorem dX4_init_1 : decode cX4_init 1 = .ok (.invokespecial 3, 3) := by decide +kernel
theorem dX4_init_4 : decode cX4_init 4 = .ok (.aload_n 0, 1) := by decide +kernel
theorem dX4_init_5 : decode cX4_init 5 = .ok (.aload_n 1, 1) := by decide +kernel
theorem dX4_init_6 : decode cX4_init 6 = .ok (.putfield 9, 3) := by decide +kernel
theorem dX4_init_9 : decode cX4_init 9 = .ok (.aload_n 0, 1) := by decide +kernel
theorem dX4_init_10 : decode cX4_init 10 = .ok (.aload_n 2, 1) := by decide +kernel
theorem dX4_init_11 : decode cX4_init 11 = .ok (.putfield 15, 3) := by decide +kernel
theorem dX4_init_14 : decode cX4_init 14 = .ok (.return_, 1) := by decide +kernel
theorem dX4_readNetwork_0 : decode cX4_readNetwork 0 = .ok (.aload_n 0, 1) := by decide +kernel
theorem dX4_readNetwork_1 : decode cX4_readNetwork 1 = .ok (.getfield 15, 3) := by decide +kernel
theorem dX4_readNetwork_4 : decode cX4_readNetwork 4 = .ok (.invokevirtual 19, 3) := by decide +kernel
theorem dX4_readNetwork_7 : decode cX4_readNetwork 7 = .ok (.iconst 0, 1) := by decide +kernel
theorem dX4_readNetwork_8 : decode cX4_readNetwork 8 = .ok (.istore_n 1, 1) := by decide +kernel
theorem dX4_readNetwork_9 : decode cX4_readNetwork 9 = .ok (.iload_n 1, 1) := by decide +kernel
theorem dX4_readNetwork_10 : decode cX4_readNetwork 10 = .ok (.sipush 700, 3) := by decide +kernel
theorem dX4_readNetwork_13 : decode cX4_readNetwork 13 = .ok (.if_icmp .ge 32, 3) := by decide +kernel
theorem dX4_readNetwork_16 : decode cX4_readNetwork 16 = .ok (.aload_n 0, 1) := by decide +kernel
theorem dX4_readNetwork_17 : decode cX4_readNetwork 17 = .ok (.getfield 9, 3) := by decide +kernel
theorem dX4_readNetwork_20 : decode cX4_readNetwork 20 = .ok (.invokevirtual 24, 3) := by decide +kernel
theorem dX4_readNetwork_23 : decode cX4_readNetwork 23 = .ok (.ifCond .eq 22, 3) := by decide +kernel
theorem dX4_readNetwork_26 : decode cX4_readNetwork 26 = .ok (.aload_n 0, 1) := by decide +kernel
theorem dX4_readNetwork_27 : decode cX4_readNetwork 27 = .ok (.invokevirtual 30, 3) := by decide +kernel
theorem dX4_readNetwork_30 : decode cX4_readNetwork 30 = .ok (.aload_n 0, 1) := by decide +kernel
theorem dX4_readNetwork_31 : decode cX4_readNetwork 31 = .ok (.getfield 9, 3) := by decide +kernel
theorem dX4_readNetwork_34 : decode cX4_readNetwork 34 = .ok (.ldc 33, 2) := by decide +kernel
theorem dX4_readNetwork_36 : decode cX4_readNetwork 36 = .ok (.invokevirtual 35, 3) := by decide +kernel
theorem dX4_readNetwork_39 : decode cX4_readNetwork 39 = .ok (.iinc 1 1, 3) := by decide +kernel
theorem dX4_readNetwork_42 : decode cX4_readNetwork 42 = .ok (.goto (-33), 3) := by decide +kernel
theorem dX4_readNetwork_45 : decode cX4_readNetwork 45 = .ok (.return_, 1) := by decide +kernel
theorem dX4_readClause_0 : decode cX4_readClause 0 = .ok (.aload_n 0, 1) := by decide +kernel
theorem dX4_readClause_1 : decode cX4_readClause 1 = .ok (.getfield 9, 3) := by decide +kernel
theorem dX4_readClause_4 : decode cX4_readClause 4 = .ok (.ldc 39, 2) := by decide +kernel
theorem dX4_readClause_6 : decode cX4_readClause 6 = .ok (.invokevirtual 41, 3) := by decide +kernel
theorem dX4_readClause_9 : decode cX4_readClause 9 = .ok (.ifCond .eq 10, 3) := by decide +kernel
theorem dX4_readClause_12 : decode cX4_readClause 12 = .ok (.aload_n 0, 1) := by decide +kernel
theorem dX4_readClause_13 : decode cX4_readClause 13 = .ok (.invokevirtual 45, 3) := by decide +kernel
theorem dX4_readClause_16 : decode cX4_readClause 16 = .ok (.goto 49, 3) := by decide +kernel
theorem dX4_readClause_19 : decode cX4_readClause 19 = .ok (.aload_n 0, 1) := by decide +kernel
theorem dX4_readClause_20 : decode cX4_readClause 20 = .ok (.getfield 9, 3) := by decide +kernel
theorem dX4_readClause_23 : decode cX4_readClause 23 = .ok (.ldc 48, 2) := by decide +kernel
theorem dX4_readClause_25 : decode cX4_readClause 25 = .ok (.invokevirtual 41, 3) := by decide +kernel
theorem dX4_readClause_28 : decode cX4_readClause 28 = .ok (.ifCond .eq 10, 3) := by decide +kernel
theorem dX4_readClause_31 : decode cX4_readClause 31 = .ok (.aload_n 0, 1) := by decide +kernel
theorem dX4_readClause_32 : decode cX4_readClause 32 = .ok (.invokevirtual 50, 3) := by decide +kernel
theorem dX4_readClause_35 : decode cX4_readClause 35 = .ok (.goto 30, 3) := by decide +kernel
theorem dX4_readClause_38 : decode cX4_readClause 38 = .ok (.aload_n 0, 1) := by decide +kernel
theorem dX4_readClause_39 : decode cX4_readClause 39 = .ok (.getfield 9, 3) := by decide +kernel
theorem dX4_readClause_42 : decode cX4_readClause 42 = .ok (.ldc 53, 2) := by decide +kernel
theorem dX4_readClause_44 : decode cX4_readClause 44 = .ok (.invokevirtual 41, 3) := by decide +kernel
theorem dX4_readClause_47 : decode cX4_readClause 47 = .ok (.ifCond .eq 10, 3) := by decide +kernel
theorem dX4_readClause_50 : decode cX4_readClause 50 = .ok (.aload_n 0, 1) := by decide +kernel
theorem dX4_readClause_51 : decode cX4_readClause 51 = .ok (.invokevirtual 55, 3) := by decide +kernel
theorem dX4_readClause_54 : decode cX4_readClause 54 = .ok (.goto 11, 3) := by decide +kernel
theorem dX4_readClause_57 : decode cX4_readClause 57 = .ok (.aload_n 0, 1) := by decide +kernel
theorem dX4_readClause_58 : decode cX4_readClause 58 = .ok (.getfield 9, 3) := by decide +kernel
theorem dX4_readClause_61 : decode cX4_readClause 61 = .ok (.iconst 1, 1) := by decide +kernel
theorem dX4_readClause_62 : decode cX4_readClause 62 = .ok (.invokevirtual 58, 3) := by decide +kernel
theorem dX4_readClause_65 : decode cX4_readClause 65 = .ok (.return_, 1) := by decide +kernel
theorem dX4_readCell_0 : decode cX4_readCell 0 = .ok (.aload_n 0, 1) := by decide +kernel
theorem dX4_readCell_1 : decode cX4_readCell 1 = .ok (.getfield 15, 3) := by decide +kernel
theorem dX4_readCell_4 : decode cX4_readCell 4 = .ok (.getfield 62, 3) := by decide +kernel
theorem dX4_readCell_7 : decode cX4_readCell 7 = .ok (.bipush 8, 2) := by decide +kernel
theorem dX4_readCell_9 : decode cX4_readCell 9 = .ok (.if_icmp .lt 12, 3) := by decide +kernel
theorem dX4_readCell_12 : decode cX4_readCell 12 = .ok (.aload_n 0, 1) := by decide +kernel
theorem dX4_readCell_13 : decode cX4_readCell 13 = .ok (.getfield 9, 3) := by decide +kernel
theorem dX4_readCell_16 : decode cX4_readCell 16 = .ok (.iconst 3, 1) := by decide +kernel
theorem dX4_readCell_17 : decode cX4_readCell 17 = .ok (.invokevirtual 58, 3) := by decide +kernel
theorem dX4_readCell_20 : decode cX4_readCell 20 = .ok (.return_, 1) := by decide +kernel
theorem dX4_readCell_21 : decode cX4_readCell 21 = .ok (.aload_n 0, 1) := by decide +kernel
theorem dX4_readCell_22 : decode cX4_readCell 22 = .ok (.getfield 9, 3) := by decide +kernel
theorem dX4_readCell_25 : decode cX4_readCell 25 = .ok (.invokevirtual 66, 3) := by decide +kernel
theorem dX4_readCell_28 : decode cX4_readCell 28 = .ok (.aload_n 0, 1) := by decide +kernel
theorem dX4_readCell_29 : decode cX4_readCell 29 = .ok (.getfield 15, 3) := by decide +kernel
theorem dX4_readCell_32 : decode cX4_readCell 32 = .ok (.aload_n 0, 1) := by decide +kernel
theorem dX4_readCell_33 : decode cX4_readCell 33 = .ok (.getfield 15, 3) := by decide +kernel
theorem dX4_readCell_36 : decode cX4_readCell 36 = .ok (.getfield 62, 3) := by decide +kernel
theorem dX4_readCell_39 : decode cX4_readCell 39 = .ok (.invokevirtual 69, 3) := by decide +kernel
theorem dX4_readCell_42 : decode cX4_readCell 42 = .ok (.astore_n 1, 1) := by decide +kernel
theorem dX4_readCell_43 : decode cX4_readCell 43 = .ok (.aload_n 1, 1) := by decide +kernel
theorem dX4_readCell_44 : decode cX4_readCell 44 = .ok (.aload_n 0, 1) := by decide +kernel
theorem dX4_readCell_45 : decode cX4_readCell 45 = .ok (.getfield 9, 3) := by decide +kernel
theorem dX4_readCell_48 : decode cX4_readCell 48 = .ok (.iconst 0, 1) := by decide +kernel
theorem dX4_readCell_49 : decode cX4_readCell 49 = .ok (.sipush 999, 3) := by decide +kernel
theorem dX4_readCell_52 : decode cX4_readCell 52 = .ok (.invokevirtual 73, 3) := by decide +kernel
theorem dX4_readCell_55 : decode cX4_readCell 55 = .ok (.putfield 77, 3) := by decide +kernel
theorem dX4_readCell_58 : decode cX4_readCell 58 = .ok (.aload_n 1, 1) := by decide +kernel
theorem dX4_readCell_59 : decode cX4_readCell 59 = .ok (.aload_n 0, 1) := by decide +kernel
theorem dX4_readCell_60 : decode cX4_readCell 60 = .ok (.getfield 9, 3) := by decide +kernel
theorem dX4_readCell_63 : decode cX4_readCell 63 = .ok (.iconst 0, 1) := by decide +kernel
theorem dX4_readCell_64 : decode cX4_readCell 64 = .ok (.sipush 999, 3) := by decide +kernel
theorem dX4_readCell_67 : decode cX4_readCell 67 = .ok (.invokevirtual 73, 3) := by decide +kernel
theorem dX4_readCell_70 : decode cX4_readCell 70 = .ok (.putfield 82, 3) := by decide +kernel
theorem dX4_readCell_73 : decode cX4_readCell 73 = .ok (.aload_n 1, 1) := by decide +kernel
theorem dX4_readCell_74 : decode cX4_readCell 74 = .ok (.aload_n 0, 1) := by decide +kernel
theorem dX4_readCell_75 : decode cX4_readCell 75 = .ok (.getfield 9, 3) := by decide +kernel
theorem dX4_readCell_78 : decode cX4_readCell 78 = .ok (.iconst 1, 1) := by decide +kernel
theorem dX4_readCell_79 : decode cX4_readCell 79 = .ok (.bipush 99, 2) := by decide +kernel
theorem dX4_readCell_81 : decode cX4_readCell 81 = .ok (.invokevirtual 73, 3) := by decide +kernel
theorem dX4_readCell_84 : decode cX4_readCell 84 = .ok (.putfield 85, 3) := by decide +kernel
theorem dX4_readCell_87 : decode cX4_readCell 87 = .ok (.aload_n 1, 1) := by decide +kernel
theorem dX4_readCell_88 : decode cX4_readCell 88 = .ok (.aload_n 0, 1) := by decide +kernel
theorem dX4_readCell_89 : decode cX4_readCell 89 = .ok (.getfield 9, 3) := by decide +kernel
theorem dX4_readCell_92 : decode cX4_readCell 92 = .ok (.iconst 1, 1) := by decide +kernel
theorem dX4_readCell_93 : decode cX4_readCell 93 = .ok (.bipush 50, 2) := by decide +kernel
theorem dX4_readCell_95 : decode cX4_readCell 95 = .ok (.invokevirtual 73, 3) := by decide +kernel
theorem dX4_readCell_98 : decode cX4_readCell 98 = .ok (.putfield 88, 3) := by decide +kernel
theorem dX4_readCell_101 : decode cX4_readCell 101 = .ok (.aload_n 1, 1) := by decide +kernel
theorem dX4_readCell_102 : decode cX4_readCell 102 = .ok (.aload_n 0, 1) := by decide +kernel
theorem dX4_readCell_103 : decode cX4_readCell 103 = .ok (.getfield 9, 3) := by decide +kernel
theorem dX4_readCell_106 : decode cX4_readCell 106 = .ok (.iconst 1, 1) := by decide +kernel
theorem dX4_readCell_107 : decode cX4_readCell 107 = .ok (.bipush 8, 2) := by decide +kernel
theorem dX4_readCell_109 : decode cX4_readCell 109 = .ok (.invokevirtual 73, 3) := by decide +kernel
theorem dX4_readCell_112 : decode cX4_readCell 112 = .ok (.putfield 91, 3) := by decide +kernel
theorem dX4_readCell_115 : decode cX4_readCell 115 = .ok (.aload_n 1, 1) := by decide +kernel
theorem dX4_readCell_116 : decode cX4_readCell 116 = .ok (.aload_n 0, 1) := by decide +kernel
theorem dX4_readCell_117 : decode cX4_readCell 117 = .ok (.getfield 9, 3) := by decide +kernel
theorem dX4_readCell_120 : decode cX4_readCell 120 = .ok (.iconst 0, 1) := by decide +kernel
theorem dX4_readCell_121 : decode cX4_readCell 121 = .ok (.bipush 6, 2) := by decide +kernel
theorem dX4_readCell_123 : decode cX4_readCell 123 = .ok (.invokevirtual 73, 3) := by decide +kernel
theorem dX4_readCell_126 : decode cX4_readCell 126 = .ok (.putfield 94, 3) := by decide +kernel
theorem dX4_readCell_129 : decode cX4_readCell 129 = .ok (.aload_n 1, 1) := by decide +kernel
theorem dX4_readCell_130 : decode cX4_readCell 130 = .ok (.aload_n 0, 1) := by decide +kernel
theorem dX4_readCell_131 : decode cX4_readCell 131 = .ok (.getfield 9, 3) := by decide +kernel
theorem dX4_readCell_134 : decode cX4_readCell 134 = .ok (.iconst 0, 1) := by decide +kernel
theorem dX4_readCell_135 : decode cX4_readCell 135 = .ok (.bipush 99, 2) := by decide +kernel
theorem dX4_readCell_137 : decode cX4_readCell 137 = .ok (.invokevirtual 73, 3) := by decide +kernel
theorem dX4_readCell_140 : decode cX4_readCell 140 = .ok (.putfield 97, 3) := by decide +kernel
theorem dX4_readCell_143 : decode cX4_readCell 143 = .ok (.aload_n 1, 1) := by decide +kernel
theorem dX4_readCell_144 : decode cX4_readCell 144 = .ok (.aload_n 0, 1) := by decide +kernel
theorem dX4_readCell_145 : decode cX4_readCell 145 = .ok (.getfield 9, 3) := by decide +kernel
theorem dX4_readCell_148 : decode cX4_readCell 148 = .ok (.iconst 0, 1) := by decide +kernel
theorem dX4_readCell_149 : decode cX4_readCell 149 = .ok (.bipush 99, 2) := by decide +kernel
theorem dX4_readCell_151 : decode cX4_readCell 151 = .ok (.invokevirtual 73, 3) := by decide +kernel
theorem dX4_readCell_154 : decode cX4_readCell 154 = .ok (.putfield 100, 3) := by decide +kernel
theorem dX4_readCell_157 : decode cX4_readCell 157 = .ok (.aload_n 1, 1) := by decide +kernel
theorem dX4_readCell_158 : decode cX4_readCell 158 = .ok (.iconst 0, 1) := by decide +kernel
theorem dX4_readCell_159 : decode cX4_readCell 159 = .ok (.putfield 103, 3) := by decide +kernel
theorem dX4_readCell_162 : decode cX4_readCell 162 = .ok (.aload_n 0, 1) := by decide +kernel
theorem dX4_readCell_163 : decode cX4_readCell 163 = .ok (.getfield 15, 3) := by decide +kernel
theorem dX4_readCell_166 : decode cX4_readCell 166 = .ok (.dup, 1) := by decide +kernel
theorem dX4_readCell_167 : decode cX4_readCell 167 = .ok (.getfield 62, 3) := by decide +kernel
theorem dX4_readCell_170 : decode cX4_readCell 170 = .ok (.iconst 1, 1) := by decide +kernel
theorem dX4_readCell_171 : decode cX4_readCell 171 = .ok (.iadd, 1) := by decide +kernel
theorem dX4_readCell_172 : decode cX4_readCell 172 = .ok (.putfield 62, 3) := by decide +kernel
theorem dX4_readCell_175 : decode cX4_readCell 175 = .ok (.return_, 1) := by decide +kernel
theorem dX4_readRelation_0 : decode cX4_readRelation 0 = .ok (.aload_n 0, 1) := by decide +kernel
theorem dX4_readRelation_1 : decode cX4_readRelation 1 = .ok (.getfield 15, 3) := by decide +kernel
theorem dX4_readRelation_4 : decode cX4_readRelation 4 = .ok (.getfield 106, 3) := by decide +kernel
theorem dX4_readRelation_7 : decode cX4_readRelation 7 = .ok (.bipush 24, 2) := by decide +kernel
theorem dX4_readRelation_9 : decode cX4_readRelation 9 = .ok (.if_icmp .lt 12, 3) := by decide +kernel
theorem dX4_readRelation_12 : decode cX4_readRelation 12 = .ok (.aload_n 0, 1) := by decide +kernel
theorem dX4_readRelation_13 : decode cX4_readRelation 13 = .ok (.getfield 9, 3) := by decide +kernel
theorem dX4_readRelation_16 : decode cX4_readRelation 16 = .ok (.iconst 3, 1) := by decide +kernel
theorem dX4_readRelation_17 : decode cX4_readRelation 17 = .ok (.invokevirtual 58, 3) := by decide +kernel
theorem dX4_readRelation_20 : decode cX4_readRelation 20 = .ok (.return_, 1) := by decide +kernel
theorem dX4_readRelation_21 : decode cX4_readRelation 21 = .ok (.aload_n 0, 1) := by decide +kernel
theorem dX4_readRelation_22 : decode cX4_readRelation 22 = .ok (.getfield 9, 3) := by decide +kernel
theorem dX4_readRelation_25 : decode cX4_readRelation 25 = .ok (.invokevirtual 66, 3) := by decide +kernel
theorem dX4_readRelation_28 : decode cX4_readRelation 28 = .ok (.aload_n 0, 1) := by decide +kernel
theorem dX4_readRelation_29 : decode cX4_readRelation 29 = .ok (.getfield 9, 3) := by decide +kernel
theorem dX4_readRelation_32 : decode cX4_readRelation 32 = .ok (.iconst 0, 1) := by decide +kernel
theorem dX4_readRelation_33 : decode cX4_readRelation 33 = .ok (.aload_n 0, 1) := by decide +kernel
theorem dX4_readRelation_34 : decode cX4_readRelation 34 = .ok (.getfield 15, 3) := by decide +kernel
theorem dX4_readRelation_37 : decode cX4_readRelation 37 = .ok (.getfield 62, 3) := by decide +kernel
theorem dX4_readRelation_40 : decode cX4_readRelation 40 = .ok (.iconst 1, 1) := by decide +kernel
theorem dX4_readRelation_41 : decode cX4_readRelation 41 = .ok (.isub, 1) := by decide +kernel
theorem dX4_readRelation_42 : decode cX4_readRelation 42 = .ok (.invokevirtual 73, 3) := by decide +kernel
theorem dX4_readRelation_45 : decode cX4_readRelation 45 = .ok (.istore_n 1, 1) := by decide +kernel
theorem dX4_readRelation_46 : decode cX4_readRelation 46 = .ok (.aload_n 0, 1) := by decide +kernel
theorem dX4_readRelation_47 : decode cX4_readRelation 47 = .ok (.getfield 9, 3) := by decide +kernel
theorem dX4_readRelation_50 : decode cX4_readRelation 50 = .ok (.iconst 0, 1) := by decide +kernel
theorem dX4_readRelation_51 : decode cX4_readRelation 51 = .ok (.aload_n 0, 1) := by decide +kernel
theorem dX4_readRelation_52 : decode cX4_readRelation 52 = .ok (.getfield 15, 3) := by decide +kernel
theorem dX4_readRelation_55 : decode cX4_readRelation 55 = .ok (.getfield 62, 3) := by decide +kernel
theorem dX4_readRelation_58 : decode cX4_readRelation 58 = .ok (.iconst 1, 1) := by decide +kernel
theorem dX4_readRelation_59 : decode cX4_readRelation 59 = .ok (.isub, 1) := by decide +kernel
theorem dX4_readRelation_60 : decode cX4_readRelation 60 = .ok (.invokevirtual 109, 3) := by decide +kernel
theorem dX4_readRelation_63 : decode cX4_readRelation 63 = .ok (.istore_n 2, 1) := by decide +kernel
theorem dX4_readRelation_64 : decode cX4_readRelation 64 = .ok (.iload_n 2, 1) := by decide +kernel
theorem dX4_readRelation_65 : decode cX4_readRelation 65 = .ok (.iload_n 1, 1) := by decide +kernel
theorem dX4_readRelation_66 : decode cX4_readRelation 66 = .ok (.if_icmp .ne 11, 3) := by decide +kernel
theorem dX4_readRelation_69 : decode cX4_readRelation 69 = .ok (.aload_n 0, 1) := by decide +kernel
theorem dX4_readRelation_70 : decode cX4_readRelation 70 = .ok (.getfield 9, 3) := by decide +kernel
theorem dX4_readRelation_73 : decode cX4_readRelation 73 = .ok (.iconst 2, 1) := by decide +kernel
theorem dX4_readRelation_74 : decode cX4_readRelation 74 = .ok (.invokevirtual 58, 3) := by decide +kernel
theorem dX4_readRelation_77 : decode cX4_readRelation 77 = .ok (.aload_n 0, 1) := by decide +kernel
theorem dX4_readRelation_78 : decode cX4_readRelation 78 = .ok (.getfield 15, 3) := by decide +kernel
theorem dX4_readRelation_81 : decode cX4_readRelation 81 = .ok (.iload_n 1, 1) := by decide +kernel
theorem dX4_readRelation_82 : decode cX4_readRelation 82 = .ok (.iload_n 2, 1) := by decide +kernel
theorem dX4_readRelation_83 : decode cX4_readRelation 83 = .ok (.invokevirtual 112, 3) := by decide +kernel
theorem dX4_readRelation_86 : decode cX4_readRelation 86 = .ok (.astore_n 3, 1) := by decide +kernel
theorem dX4_readRelation_87 : decode cX4_readRelation 87 = .ok (.aload_n 3, 1) := by decide +kernel
theorem dX4_readRelation_88 : decode cX4_readRelation 88 = .ok (.getfield 116, 3) := by decide +kernel
theorem dX4_readRelation_91 : decode cX4_readRelation 91 = .ok (.ifCond .eq 11, 3) := by decide +kernel
theorem dX4_readRelation_94 : decode cX4_readRelation 94 = .ok (.aload_n 0, 1) := by decide +kernel
theorem dX4_readRelation_95 : decode cX4_readRelation 95 = .ok (.getfield 9, 3) := by decide +kernel
theorem dX4_readRelation_98 : decode cX4_readRelation 98 = .ok (.iconst 4, 1) := by decide +kernel
theorem dX4_readRelation_99 : decode cX4_readRelation 99 = .ok (.invokevirtual 58, 3) := by decide +kernel
theorem dX4_readRelation_102 : decode cX4_readRelation 102 = .ok (.aload_n 0, 1) := by decide +kernel
theorem dX4_readRelation_103 : decode cX4_readRelation 103 = .ok (.getfield 9, 3) := by decide +kernel
theorem dX4_readRelation_106 : decode cX4_readRelation 106 = .ok (.invokevirtual 66, 3) := by decide +kernel
theorem dX4_readRelation_109 : decode cX4_readRelation 109 = .ok (.aload_n 3, 1) := by decide +kernel
theorem dX4_readRelation_110 : decode cX4_readRelation 110 = .ok (.aload_n 0, 1) := by decide +kernel
theorem dX4_readRelation_111 : decode cX4_readRelation 111 = .ok (.getfield 9, 3) := by decide +kernel
theorem dX4_readRelation_114 : decode cX4_readRelation 114 = .ok (.iconst 0, 1) := by decide +kernel
theorem dX4_readRelation_115 : decode cX4_readRelation 115 = .ok (.bipush 30, 2) := by decide +kernel
theorem dX4_readRelation_117 : decode cX4_readRelation 117 = .ok (.invokevirtual 73, 3) := by decide +kernel
theorem dX4_readRelation_120 : decode cX4_readRelation 120 = .ok (.putfield 122, 3) := by decide +kernel
theorem dX4_readRelation_123 : decode cX4_readRelation 123 = .ok (.aload_n 3, 1) := by decide +kernel
theorem dX4_readRelation_124 : decode cX4_readRelation 124 = .ok (.iconst 1, 1) := by decide +kernel
theorem dX4_readRelation_125 : decode cX4_readRelation 125 = .ok (.putfield 116, 3) := by decide +kernel
theorem dX4_readRelation_128 : decode cX4_readRelation 128 = .ok (.aload_n 0, 1) := by decide +kernel
theorem dX4_readRelation_129 : decode cX4_readRelation 129 = .ok (.getfield 15, 3) := by decide +kernel
theorem dX4_readRelation_132 : decode cX4_readRelation 132 = .ok (.dup, 1) := by decide +kernel
theorem dX4_readRelation_133 : decode cX4_readRelation 133 = .ok (.getfield 106, 3) := by decide +kernel
theorem dX4_readRelation_136 : decode cX4_readRelation 136 = .ok (.iconst 1, 1) := by decide +kernel
theorem dX4_readRelation_137 : decode cX4_readRelation 137 = .ok (.iadd, 1) := by decide +kernel
theorem dX4_readRelation_138 : decode cX4_readRelation 138 = .ok (.putfield 106, 3) := by decide +kernel
theorem dX4_readRelation_141 : decode cX4_readRelation 141 = .ok (.return_, 1) := by decide +kernel
theorem dX4_readSettings_0 : decode cX4_readSettings 0 = .ok (.aload_n 0, 1) := by decide +kernel
theorem dX4_readSettings_1 : decode cX4_readSettings 1 = .ok (.getfield 9, 3) := by decide +kernel
theorem dX4_readSettings_4 : decode cX4_readSettings 4 = .ok (.invokevirtual 66, 3) := by decide +kernel
theorem dX4_readSettings_7 : decode cX4_readSettings 7 = .ok (.aload_n 0, 1) := by decide +kernel
theorem dX4_readSettings_8 : decode cX4_readSettings 8 = .ok (.getfield 15, 3) := by decide +kernel
theorem dX4_readSettings_11 : decode cX4_readSettings 11 = .ok (.aload_n 0, 1) := by decide +kernel
theorem dX4_readSettings_12 : decode cX4_readSettings 12 = .ok (.getfield 9, 3) := by decide +kernel
theorem dX4_readSettings_15 : decode cX4_readSettings 15 = .ok (.iconst 1, 1) := by decide +kernel
theorem dX4_readSettings_16 : decode cX4_readSettings 16 = .ok (.bipush 8, 2) := by decide +kernel
theorem dX4_readSettings_18 : decode cX4_readSettings 18 = .ok (.invokevirtual 73, 3) := by decide +kernel
theorem dX4_readSettings_21 : decode cX4_readSettings 21 = .ok (.putfield 125, 3) := by decide +kernel
theorem dX4_readSettings_24 : decode cX4_readSettings 24 = .ok (.aload_n 0, 1) := by decide +kernel
theorem dX4_readSettings_25 : decode cX4_readSettings 25 = .ok (.getfield 15, 3) := by decide +kernel
theorem dX4_readSettings_28 : decode cX4_readSettings 28 = .ok (.aload_n 0, 1) := by decide +kernel
theorem dX4_readSettings_29 : decode cX4_readSettings 29 = .ok (.getfield 9, 3) := by decide +kernel
theorem dX4_readSettings_32 : decode cX4_readSettings 32 = .ok (.iconst 1, 1) := by decide +kernel
theorem dX4_readSettings_33 : decode cX4_readSettings 33 = .ok (.aload_n 0, 1) := by decide +kernel
theorem dX4_readSettings_34 : decode cX4_readSettings 34 = .ok (.getfield 15, 3) := by decide +kernel
theorem dX4_readSettings_37 : decode cX4_readSettings 37 = .ok (.getfield 125, 3) := by decide +kernel
theorem dX4_readSettings_40 : decode cX4_readSettings 40 = .ok (.invokevirtual 73, 3) := by decide +kernel
theorem dX4_readSettings_43 : decode cX4_readSettings 43 = .ok (.putfield 128, 3) := by decide +kernel
theorem dX4_readSettings_46 : decode cX4_readSettings 46 = .ok (.aload_n 0, 1) := by decide +kernel
theorem dX4_readSettings_47 : decode cX4_readSettings 47 = .ok (.getfield 15, 3) := by decide +kernel
theorem dX4_readSettings_50 : decode cX4_readSettings 50 = .ok (.aload_n 0, 1) := by decide +kernel
theorem dX4_readSettings_51 : decode cX4_readSettings 51 = .ok (.getfield 9, 3) := by decide +kernel
theorem dX4_readSettings_54 : decode cX4_readSettings 54 = .ok (.iconst 0, 1) := by decide +kernel
theorem dX4_readSettings_55 : decode cX4_readSettings 55 = .ok (.bipush 50, 2) := by decide +kernel
theorem dX4_readSettings_57 : decode cX4_readSettings 57 = .ok (.invokevirtual 73, 3) := by decide +kernel
theorem dX4_readSettings_60 : decode cX4_readSettings 60 = .ok (.putfield 131, 3) := by decide +kernel
theorem dX4_readSettings_63 : decode cX4_readSettings 63 = .ok (.aload_n 0, 1) := by decide +kernel
theorem dX4_readSettings_64 : decode cX4_readSettings 64 = .ok (.getfield 15, 3) := by decide +kernel
theorem dX4_readSettings_67 : decode cX4_readSettings 67 = .ok (.aload_n 0, 1) := by decide +kernel
theorem dX4_readSettings_68 : decode cX4_readSettings 68 = .ok (.getfield 9, 3) := by decide +kernel
theorem dX4_readSettings_71 : decode cX4_readSettings 71 = .ok (.iconst 1, 1) := by decide +kernel
theorem dX4_readSettings_72 : decode cX4_readSettings 72 = .ok (.bipush 30, 2) := by decide +kernel
theorem dX4_readSettings_74 : decode cX4_readSettings 74 = .ok (.invokevirtual 73, 3) := by decide +kernel
theorem dX4_readSettings_77 : decode cX4_readSettings 77 = .ok (.putfield 134, 3) := by decide +kernel
theorem dX4_readSettings_80 : decode cX4_readSettings 80 = .ok (.aload_n 0, 1) := by decide +kernel
theorem dX4_readSettings_81 : decode cX4_readSettings 81 = .ok (.getfield 15, 3) := by decide +kernel
theorem dX4_readSettings_84 : decode cX4_readSettings 84 = .ok (.aload_n 0, 1) := by decide +kernel
theorem dX4_readSettings_85 : decode cX4_readSettings 85 = .ok (.getfield 9, 3) := by decide +kernel
theorem dX4_readSettings_88 : decode cX4_readSettings 88 = .ok (.iconst 0, 1) := by decide +kernel
theorem dX4_readSettings_89 : decode cX4_readSettings 89 = .ok (.bipush 99, 2) := by decide +kernel
theorem dX4_readSettings_91 : decode cX4_readSettings 91 = .ok (.invokevirtual 73, 3) := by decide +kernel
theorem dX4_readSettings_94 : decode cX4_readSettings 94 = .ok (.putfield 137, 3) := by decide +kernel
theorem dX4_readSettings_97 : decode cX4_readSettings 97 = .ok (.aload_n 0, 1) := by decide +kernel
theorem dX4_readSettings_98 : decode cX4_readSettings 98 = .ok (.getfield 15, 3) := by decide +kernel
theorem dX4_readSettings_101 : decode cX4_readSettings 101 = .ok (.aload_n 0, 1) := by decide +kernel
theorem dX4_readSettings_102 : decode cX4_readSettings 102 = .ok (.getfield 9, 3) := by decide +kernel
theorem dX4_readSettings_105 : decode cX4_readSettings 105 = .ok (.iconst 1, 1) := by decide +kernel
theorem dX4_readSettings_106 : decode cX4_readSettings 106 = .ok (.bipush 20, 2) := by decide +kernel
theorem dX4_readSettings_108 : decode cX4_readSettings 108 = .ok (.invokevirtual 73, 3) := by decide +kernel
theorem dX4_readSettings_111 : decode cX4_readSettings 111 = .ok (.putfield 140, 3) := by decide +kernel
theorem dX4_readSettings_114 : decode cX4_readSettings 114 = .ok (.return_, 1) := by decide +kernel
theorem dX6_init_0 : decode cX6_init 0 = .ok (.aload_n 0, 1) := by decide +kernel
theorem dX6_init_1 : decode cX6_init 1 = .ok (.invokespecial 3, 3) := by decide +kernel
theorem dX6_init_4 : decode cX6_init 4 = .ok (.aload_n 0, 1) := by decide +kernel
theorem dX6_init_5 : decode cX6_init 5 = .ok (.bipush 8, 2) := by decide +kernel
theorem dX6_init_7 : decode cX6_init 7 = .ok (.newarray .int, 2) := by decide +kernel
theorem dX6_init_9 : decode cX6_init 9 = .ok (.putfield 9, 3) := by decide +kernel
theorem dX6_init_12 : decode cX6_init 12 = .ok (.aload_n 0, 1) := by decide +kernel
theorem dX6_init_13 : decode cX6_init 13 = .ok (.bipush 8, 2) := by decide +kernel
theorem dX6_init_15 : decode cX6_init 15 = .ok (.newarray .int, 2) := by decide +kernel
theorem dX6_init_17 : decode cX6_init 17 = .ok (.putfield 15, 3) := by decide +kernel
theorem dX6_init_20 : decode cX6_init 20 = .ok (.return_, 1) := by decide +kernel
theorem dX6_rank_0 : decode cX6_rank 0 = .ok (.aload_n 0, 1) := by decide +kernel
theorem dX6_rank_1 : decode cX6_rank 1 = .ok (.iconst 0, 1) := by decide +kernel
theorem dX6_rank_2 : decode cX6_rank 2 = .ok (.putfield 18, 3) := by decide +kernel
theorem dX6_rank_5 : decode cX6_rank 5 = .ok (.aload_n 0, 1) := by decide +kernel
theorem dX6_rank_6 : decode cX6_rank 6 = .ok (.iconst 0, 1) := by decide +kernel
theorem dX6_rank_7 : decode cX6_rank 7 = .ok (.putfield 22, 3) := by decide +kernel
theorem dX6_rank_10 : decode cX6_rank 10 = .ok (.aload_n 2, 1) := by decide +kernel
theorem dX6_rank_11 : decode cX6_rank 11 = .ok (.aload_n 2, 1) := by decide +kernel
theorem dX6_rank_12 : decode cX6_rank 12 = .ok (.getfield 26, 3) := by decide +kernel
theorem dX6_rank_15 : decode cX6_rank 15 = .ok (.invokevirtual 31, 3) := by decide +kernel
theorem dX6_rank_18 : decode cX6_rank 18 = .ok (.istore_n 3, 1) := by decide +kernel
theorem dX6_rank_19 : decode cX6_rank 19 = .ok (.iload_n 3, 1) := by decide +kernel
theorem dX6_rank_20 : decode cX6_rank 20 = .ok (.iconst (-1), 1) := by decide +kernel
theorem dX6_rank_21 : decode cX6_rank 21 = .ok (.if_icmp .ne 4, 3) := by decide +kernel
theorem dX6_rank_24 : decode cX6_rank 24 = .ok (.return_, 1) := by decide +kernel
theorem dX6_rank_25 : decode cX6_rank 25 = .ok (.aload_n 0, 1) := by decide +kernel
theorem dX6_rank_26 : decode cX6_rank 26 = .ok (.iload_n 3, 1) := by decide +kernel
theorem dX6_rank_27 : decode cX6_rank 27 = .ok (.aload_n 1, 1) := by decide +kernel
theorem dX6_rank_28 : decode cX6_rank 28 = .ok (.aload_n 2, 1) := by decide +kernel
theorem dX6_rank_29 : decode cX6_rank 29 = .ok (.getfield 26, 3) := by decide +kernel
theorem dX6_rank_32 : decode cX6_rank 32 = .ok (.invokevirtual 35, 3) := by decide +kernel
theorem dX6_rank_35 : decode cX6_rank 35 = .ok (.getfield 41, 3) := by decide +kernel
theorem dX6_rank_38 : decode cX6_rank 38 = .ok (.if_icmp .ge 7, 3) := by decide +kernel
theorem dX6_rank_41 : decode cX6_rank 41 = .ok (.iconst 1, 1) := by decide +kernel
theorem dX6_rank_42 : decode cX6_rank 42 = .ok (.goto 4, 3) := by decide +kernel
theorem dX6_rank_45 : decode cX6_rank 45 = .ok (.iconst 0, 1) := by decide +kernel
theorem dX6_rank_46 : decode cX6_rank 46 = .ok (.putfield 22, 3) := by decide +kernel
theorem dX6_rank_49 : decode cX6_rank 49 = .ok (.iconst 0, 1) := by decide +kernel
theorem dX6_rank_50 : decode cX6_rank 50 = .ok (.istore 4, 2) := by decide +kernel
theorem dX6_rank_52 : decode cX6_rank 52 = .ok (.iload 4, 2) := by decide +kernel
theorem dX6_rank_54 : decode cX6_rank 54 = .ok (.aload_n 1, 1) := by decide +kernel
theorem dX6_rank_55 : decode cX6_rank 55 = .ok (.getfield 46, 3) := by decide +kernel
theorem dX6_rank_58 : decode cX6_rank 58 = .ok (.if_icmp .ge 32, 3) := by decide +kernel
theorem dX6_rank_61 : decode cX6_rank 61 = .ok (.aload_n 0, 1) := by decide +kernel
theorem dX6_rank_62 : decode cX6_rank 62 = .ok (.aload_n 1, 1) := by decide +kernel
theorem dX6_rank_63 : decode cX6_rank 63 = .ok (.aload_n 2, 1) := by decide +kernel
theorem dX6_rank_64 : decode cX6_rank 64 = .ok (.iload 4, 2) := by decide +kernel
theorem dX6_rank_66 : decode cX6_rank 66 = .ok (.invokevirtual 49, 3) := by decide +kernel
theorem dX6_rank_69 : decode cX6_rank 69 = .ok (.istore 5, 2) := by decide +kernel
theorem dX6_rank_71 : decode cX6_rank 71 = .ok (.iload 5, 2) := by decide +kernel
theorem dX6_rank_73 : decode cX6_rank 73 = .ok (.ifCond .le 11, 3) := by decide +kernel
theorem dX6_rank_76 : decode cX6_rank 76 = .ok (.aload_n 0, 1) := by decide +kernel
theorem dX6_rank_77 : decode cX6_rank 77 = .ok (.iload 4, 2) := by decide +kernel
theorem dX6_rank_79 : decode cX6_rank 79 = .ok (.iload 5, 2) := by decide +kernel
theorem dX6_rank_81 : decode cX6_rank 81 = .ok (.invokevirtual 53, 3) := by decide +kernel
theorem dX6_rank_84 : decode cX6_rank 84 = .ok (.iinc 4 1, 3) := by decide +kernel
theorem dX6_rank_87 : decode cX6_rank 87 = .ok (.goto (-35), 3) := by decide +kernel
theorem dX6_rank_90 : decode cX6_rank 90 = .ok (.return_, 1) := by decide +kernel
theorem dX6_marginOf_0 : decode cX6_marginOf 0 = .ok (.aload_n 1, 1) := by decide +kernel
theorem dX6_marginOf_1 : decode cX6_marginOf 1 = .ok (.aload_n 2, 1) := by decide +kernel
theorem dX6_marginOf_2 : decode cX6_marginOf 2 = .ok (.getfield 26, 3) := by decide +kernel
theorem dX6_marginOf_5 : decode cX6_marginOf 5 = .ok (.iload_n 3, 1) := by decide +kernel
theorem dX6_marginOf_6 : decode cX6_marginOf 6 = .ok (.invokevirtual 57, 3) := by decide +kernel
theorem dX6_marginOf_9 : decode cX6_marginOf 9 = .ok (.astore 4, 2) := by decide +kernel
theorem dX6_marginOf_11 : decode cX6_marginOf 11 = .ok (.aload 4, 2) := by decide +kernel
theorem dX6_marginOf_13 : decode cX6_marginOf 13 = .ok (.getfield 61, 3) := by decide +kernel
theorem dX6_marginOf_16 : decode cX6_marginOf 16 = .ok (.ifCond .eq 15, 3) := by decide +kernel
theorem dX6_marginOf_19 : decode cX6_marginOf 19 = .ok (.aload_n 2, 1) := by decide +kernel
theorem dX6_marginOf_20 : decode cX6_marginOf 20 = .ok (.iload_n 3, 1) := by decide +kernel
theorem dX6_marginOf_21 : decode cX6_marginOf 21 = .ok (.invokevirtual 66, 3) := by decide +kernel
theorem dX6_marginOf_24 : decode cX6_marginOf 24 = .ok (.aload_n 1, 1) := by decide +kernel
theorem dX6_marginOf_25 : decode cX6_marginOf 25 = .ok (.getfield 69, 3) := by decide +kernel
theorem dX6_marginOf_28 : decode cX6_marginOf 28 = .ok (.if_icmp .ge 5, 3) := by decide +kernel
theorem dX6_marginOf_31 : decode cX6_marginOf 31 = .ok (.iconst 0, 1) := by decide +kernel
theorem dX6_marginOf_32 : decode cX6_marginOf 32 = .ok (.ireturn, 1) := by decide +kernel
theorem dX6_marginOf_33 : decode cX6_marginOf 33 = .ok (.aload_n 0, 1) := by decide +kernel
theorem dX6_marginOf_34 : decode cX6_marginOf 34 = .ok (.getfield 22, 3) := by decide +kernel
theorem dX6_marginOf_37 : decode cX6_marginOf 37 = .ok (.ifCond .ne 17, 3) := by decide +kernel
theorem dX6_marginOf_40 : decode cX6_marginOf 40 = .ok (.aload_n 2, 1) := by decide +kernel
theorem dX6_marginOf_41 : decode cX6_marginOf 41 = .ok (.iload_n 3, 1) := by decide +kernel
theorem dX6_marginOf_42 : decode cX6_marginOf 42 = .ok (.aload_n 1, 1) := by decide +kernel
theorem dX6_marginOf_43 : decode cX6_marginOf 43 = .ok (.getfield 72, 3) := by decide +kernel
theorem dX6_marginOf_46 : decode cX6_marginOf 46 = .ok (.invokevirtual 75, 3) := by decide +kernel
theorem dX6_marginOf_49 : decode cX6_marginOf 49 = .ok (.ifCond .eq 5, 3) := by decide +kernel
theorem dX6_marginOf_52 : decode cX6_marginOf 52 = .ok (.iconst 0, 1) := by decide +kernel
theorem dX6_marginOf_53 : decode cX6_marginOf 53 = .ok (.ireturn, 1) := by decide +kernel
theorem dX6_marginOf_54 : decode cX6_marginOf 54 = .ok (.aload_n 2, 1) := by decide +kernel
theorem dX6_marginOf_55 : decode cX6_marginOf 55 = .ok (.iload_n 3, 1) := by decide +kernel
theorem dX6_marginOf_56 : decode cX6_marginOf 56 = .ok (.invokevirtual 31, 3) := by decide +kernel
theorem dX6_marginOf_59 : decode cX6_marginOf 59 = .ok (.istore 5, 2) := by decide +kernel
theorem dX6_marginOf_61 : decode cX6_marginOf 61 = .ok (.iload 5, 2) := by decide +kernel
theorem dX6_marginOf_63 : decode cX6_marginOf 63 = .ok (.aload_n 1, 1) := by decide +kernel
theorem dX6_marginOf_64 : decode cX6_marginOf 64 = .ok (.iload_n 3, 1) := by decide +kernel
theorem dX6_marginOf_65 : decode cX6_marginOf 65 = .ok (.invokevirtual 35, 3) := by decide +kernel
theorem dX6_marginOf_68 : decode cX6_marginOf 68 = .ok (.getfield 79, 3) := by decide +kernel
theorem dX6_marginOf_71 : decode cX6_marginOf 71 = .ok (.if_icmp .ge 5, 3) := by decide +kernel
theorem dX6_marginOf_74 : decode cX6_marginOf 74 = .ok (.iconst 0, 1) := by decide +kernel
theorem dX6_marginOf_75 : decode cX6_marginOf 75 = .ok (.ireturn, 1) := by decide +kernel
theorem dX6_marginOf_76 : decode cX6_marginOf 76 = .ok (.iload 5, 2) := by decide +kernel
theorem dX6_marginOf_78 : decode cX6_marginOf 78 = .ok (.aload_n 2, 1) := by decide +kernel
theorem dX6_marginOf_79 : decode cX6_marginOf 79 = .ok (.aload_n 2, 1) := by decide +kernel
theorem dX6_marginOf_80 : decode cX6_marginOf 80 = .ok (.getfield 26, 3) := by decide +kernel
theorem dX6_marginOf_83 : decode cX6_marginOf 83 = .ok (.invokevirtual 31, 3) := by decide +kernel
theorem dX6_marginOf_86 : decode cX6_marginOf 86 = .ok (.isub, 1) := by decide +kernel
theorem dX6_marginOf_87 : decode cX6_marginOf 87 = .ok (.istore 6, 2) := by decide +kernel
theorem dX6_marginOf_89 : decode cX6_marginOf 89 = .ok (.aload_n 0, 1) := by decide +kernel
theorem dX6_marginOf_90 : decode cX6_marginOf 90 = .ok (.getfield 22, 3) := by decide +kernel
theorem dX6_marginOf_93 : decode cX6_marginOf 93 = .ok (.ifCond .eq 8, 3) := by decide +kernel
theorem dX6_marginOf_96 : decode cX6_marginOf 96 = .ok (.iload 6, 2) := by decide +kernel
theorem dX6_marginOf_98 : decode cX6_marginOf 98 = .ok (.goto 11, 3) := by decide +kernel
theorem dX6_marginOf_101 : decode cX6_marginOf 101 = .ok (.iload 6, 2) := by decide +kernel
theorem dX6_marginOf_103 : decode cX6_marginOf 103 = .ok (.aload 4, 2) := by decide +kernel
theorem dX6_marginOf_105 : decode cX6_marginOf 105 = .ok (.getfield 82, 3) := by decide +kernel
theorem dX6_marginOf_108 : decode cX6_marginOf 108 = .ok (.isub, 1) := by decide +kernel
theorem dX6_marginOf_109 : decode cX6_marginOf 109 = .ok (.ireturn, 1) := by decide +kernel
theorem dX6_insert_0 : decode cX6_insert 0 = .ok (.aload_n 0, 1) := by decide +kernel
theorem dX6_insert_1 : decode cX6_insert 1 = .ok (.getfield 18, 3) := by decide +kernel
theorem dX6_insert_4 : decode cX6_insert 4 = .ok (.aload_n 0, 1) := by decide +kernel
theorem dX6_insert_5 : decode cX6_insert 5 = .ok (.getfield 9, 3) := by decide +kernel
theorem dX6_insert_8 : decode cX6_insert 8 = .ok (.arraylength, 1) := by decide +kernel
theorem dX6_insert_9 : decode cX6_insert 9 = .ok (.if_icmp .ge 15, 3) := by decide +kernel
theorem dX6_insert_12 : decode cX6_insert 12 = .ok (.aload_n 0, 1) := by decide +kernel
theorem dX6_insert_13 : decode cX6_insert 13 = .ok (.getfield 18, 3) := by decide +kernel
theorem dX6_insert_16 : decode cX6_insert 16 = .ok (.aload_n 0, 1) := by decide +kernel
theorem dX6_insert_17 : decode cX6_insert 17 = .ok (.getfield 15, 3) := by decide +kernel
theorem dX6_insert_20 : decode cX6_insert 20 = .ok (.arraylength, 1) := by decide +kernel
theorem dX6_insert_21 : decode cX6_insert 21 = .ok (.if_icmp .lt 4, 3) := by decide +kernel
theorem dX6_insert_24 : decode cX6_insert 24 = .ok (.return_, 1) := by decide +kernel
theorem dX6_insert_25 : decode cX6_insert 25 = .ok (.aload_n 0, 1) := by decide +kernel
theorem dX6_insert_26 : decode cX6_insert 26 = .ok (.getfield 18, 3) := by decide +kernel
theorem dX6_insert_29 : decode cX6_insert 29 = .ok (.istore_n 3, 1) := by decide +kernel
theorem dX6_insert_30 : decode cX6_insert 30 = .ok (.iload_n 3, 1) := by decide +kernel
theorem dX6_insert_31 : decode cX6_insert 31 = .ok (.ifCond .le 49, 3) := by decide +kernel
theorem dX6_insert_34 : decode cX6_insert 34 = .ok (.aload_n 0, 1) := by decide +kernel
theorem dX6_insert_35 : decode cX6_insert 35 = .ok (.getfield 15, 3) := by decide +kernel
theorem dX6_insert_38 : decode cX6_insert 38 = .ok (.iload_n 3, 1) := by decide +kernel
theorem dX6_insert_39 : decode cX6_insert 39 = .ok (.iconst 1, 1) := by decide +kernel
theorem dX6_insert_40 : decode cX6_insert 40 = .ok (.isub, 1) := by decide +kernel
theorem dX6_insert_41 : decode cX6_insert 41 = .ok (.iaload, 1) := by decide +kernel
theorem dX6_insert_42 : decode cX6_insert 42 = .ok (.iload_n 2, 1) := by decide +kernel
theorem dX6_insert_43 : decode cX6_insert 43 = .ok (.if_icmp .ge 37, 3) := by decide +kernel
theorem dX6_insert_46 : decode cX6_insert 46 = .ok (.aload_n 0, 1) := by decide +kernel
theorem dX6_insert_47 : decode cX6_insert 47 = .ok (.getfield 9, 3) := by decide +kernel
theorem dX6_insert_50 : decode cX6_insert 50 = .ok (.iload_n 3, 1) := by decide +kernel
theorem dX6_insert_51 : decode cX6_insert 51 = .ok (.aload_n 0, 1) := by decide +kernel
theorem dX6_insert_52 : decode cX6_insert 52 = .ok (.getfield 9, 3) := by decide +kernel
theorem dX6_insert_55 : decode cX6_insert 55 = .ok (.iload_n 3, 1) := by decide +kernel
theorem dX6_insert_56 : decode cX6_insert 56 = .ok (.iconst 1, 1) := by decide +kernel
theorem dX6_insert_57 : decode cX6_insert 57 = .ok (.isub, 1) := by decide +kernel
theorem dX6_insert_58 : decode cX6_insert 58 = .ok (.iaload, 1) := by decide +kernel
theorem dX6_insert_59 : decode cX6_insert 59 = .ok (.iastore, 1) := by decide +kernel
theorem dX6_insert_60 : decode cX6_insert 60 = .ok (.aload_n 0, 1) := by decide +kernel
theorem dX6_insert_61 : decode cX6_insert 61 = .ok (.getfield 15, 3) := by decide +kernel
theorem dX6_insert_64 : decode cX6_insert 64 = .ok (.iload_n 3, 1) := by decide +kernel
theorem dX6_insert_65 : decode cX6_insert 65 = .ok (.aload_n 0, 1) := by decide +kernel
theorem dX6_insert_66 : decode cX6_insert 66 = .ok (.getfield 15, 3) := by decide +kernel
theorem dX6_insert_69 : decode cX6_insert 69 = .ok (.iload_n 3, 1) := by decide +kernel
theorem dX6_insert_70 : decode cX6_insert 70 = .ok (.iconst 1, 1) := by decide +kernel
theorem dX6_insert_71 : decode cX6_insert 71 = .ok (.isub, 1) := by decide +kernel
theorem dX6_insert_72 : decode cX6_insert 72 = .ok (.iaload, 1) := by decide +kernel
theorem dX6_insert_73 : decode cX6_insert 73 = .ok (.iastore, 1) := by decide +kernel
theorem dX6_insert_74 : decode cX6_insert 74 = .ok (.iinc 3 (-1), 3) := by decide +kernel
theorem dX6_insert_77 : decode cX6_insert 77 = .ok (.goto (-47), 3) := by decide +kernel
theorem dX6_insert_80 : decode cX6_insert 80 = .ok (.aload_n 0, 1) := by decide +kernel
theorem dX6_insert_81 : decode cX6_insert 81 = .ok (.getfield 9, 3) := by decide +kernel
theorem dX6_insert_84 : decode cX6_insert 84 = .ok (.iload_n 3, 1) := by decide +kernel
theorem dX6_insert_85 : decode cX6_insert 85 = .ok (.iload_n 1, 1) := by decide +kernel
theorem dX6_insert_86 : decode cX6_insert 86 = .ok (.iastore, 1) := by decide +kernel
theorem dX6_insert_87 : decode cX6_insert 87 = .ok (.aload_n 0, 1) := by decide +kernel
theorem dX6_insert_88 : decode cX6_insert 88 = .ok (.getfield 15, 3) := by decide +kernel
theorem dX6_insert_91 : decode cX6_insert 91 = .ok (.iload_n 3, 1) := by decide +kernel
theorem dX6_insert_92 : decode cX6_insert 92 = .ok (.iload_n 2, 1) := by decide +kernel
theorem dX6_insert_93 : decode cX6_insert 93 = .ok (.iastore, 1) := by decide +kernel
theorem dX6_insert_94 : decode cX6_insert 94 = .ok (.aload_n 0, 1) := by decide +kernel
theorem dX6_insert_95 : decode cX6_insert 95 = .ok (.dup, 1) := by decide +kernel
theorem dX6_insert_96 : decode cX6_insert 96 = .ok (.getfield 18, 3) := by decide +kernel
theorem dX6_insert_99 : decode cX6_insert 99 = .ok (.iconst 1, 1) := by decide +kernel
theorem dX6_insert_100 : decode cX6_insert 100 = .ok (.iadd, 1) := by decide +kernel
theorem dX6_insert_101 : decode cX6_insert 101 = .ok (.putfield 18, 3) := by decide +kernel
theorem dX6_insert_104 : decode cX6_insert 104 = .ok (.return_, 1) := by decide +kernel
theorem dX6_cellAtRank_0 : decode cX6_cellAtRank 0 = .ok (.iload_n 1, 1) := by decide +kernel
theorem dX6_cellAtRank_1 : decode cX6_cellAtRank 1 = .ok (.ifCond .lt 29, 3) := by decide +kernel
theorem dX6_cellAtRank_4 : decode cX6_cellAtRank 4 = .ok (.iload_n 1, 1) := by decide +kernel
theorem dX6_cellAtRank_5 : decode cX6_cellAtRank 5 = .ok (.aload_n 0, 1) := by decide +kernel
theorem dX6_cellAtRank_6 : decode cX6_cellAtRank 6 = .ok (.getfield 18, 3) := by decide +kernel
theorem dX6_cellAtRank_9 : decode cX6_cellAtRank 9 = .ok (.if_icmp .ge 21, 3) := by decide +kernel
theorem dX6_cellAtRank_12 : decode cX6_cellAtRank 12 = .ok (.iload_n 1, 1) := by decide +kernel
theorem dX6_cellAtRank_13 : decode cX6_cellAtRank 13 = .ok (.aload_n 0, 1) := by decide +kernel
theorem dX6_cellAtRank_14 : decode cX6_cellAtRank 14 = .ok (.getfield 9, 3) := by decide +kernel
theorem dX6_cellAtRank_17 : decode cX6_cellAtRank 17 = .ok (.arraylength, 1) := by decide +kernel
theorem dX6_cellAtRank_18 : decode cX6_cellAtRank 18 = .ok (.if_icmp .ge 12, 3) := by decide +kernel
theorem dX6_cellAtRank_21 : decode cX6_cellAtRank 21 = .ok (.aload_n 0, 1) := by decide +kernel
theorem dX6_cellAtRank_22 : decode cX6_cellAtRank 22 = .ok (.getfield 9, 3) := by decide +kernel
theorem dX6_cellAtRank_25 : decode cX6_cellAtRank 25 = .ok (.iload_n 1, 1) := by decide +kernel
theorem dX6_cellAtRank_26 : decode cX6_cellAtRank 26 = .ok (.iaload, 1) := by decide +kernel
theorem dX6_cellAtRank_27 : decode cX6_cellAtRank 27 = .ok (.goto 4, 3) := by decide +kernel
theorem dX6_cellAtRank_30 : decode cX6_cellAtRank 30 = .ok (.iconst (-1), 1) := by decide +kernel
theorem dX6_cellAtRank_31 : decode cX6_cellAtRank 31 = .ok (.ireturn, 1) := by decide +kernel
theorem dX7_init_0 : decode cX7_init 0 = .ok (.aload_n 0, 1) := by decide +kernel
theorem dX7_init_1 : decode cX7_init 1 = .ok (.invokespecial 1, 3) := by decide +kernel
theorem dX7_init_4 : decode cX7_init 4 = .ok (.return_, 1) := by decide +kernel
theorem dX7_clear_0 : decode cX7_clear 0 = .ok (.aload_n 0, 1) := by decide +kernel
theorem dX7_clear_1 : decode cX7_clear 1 = .ok (.iconst 0, 1) := by decide +kernel
theorem dX7_clear_2 : decode cX7_clear 2 = .ok (.putfield 7, 3) := by decide +kernel
theorem dX7_clear_5 : decode cX7_clear 5 = .ok (.aload_n 0, 1) := by decide +kernel
theorem dX7_clear_6 : decode cX7_clear 6 = .ok (.iconst 0, 1) := by decide +kernel
theorem dX7_clear_7 : decode cX7_clear 7 = .ok (.putfield 13, 3) := by decide +kernel
theorem dX7_clear_10 : decode cX7_clear 10 = .ok (.aload_n 0, 1) := by decide +kernel
theorem dX7_clear_11 : decode cX7_clear 11 = .ok (.iconst 0, 1) := by decide +kernel
theorem dX7_clear_12 : decode cX7_clear 12 = .ok (.putfield 17, 3) := by decide +kernel
theorem dX7_clear_15 : decode cX7_clear 15 = .ok (.aload_n 0, 1) := by decide +kernel
theorem dX7_clear_16 : decode cX7_clear 16 = .ok (.iconst 0, 1) := by decide +kernel
theorem dX7_clear_17 : decode cX7_clear 17 = .ok (.putfield 20, 3) := by decide +kernel
theorem dX7_clear_20 : decode cX7_clear 20 = .ok (.return_, 1) := by decide +kernel
theorem dX7_copyFrom_0 : decode cX7_copyFrom 0 = .ok (.aload_n 0, 1) := by decide +kernel
theorem dX7_copyFrom_1 : decode cX7_copyFrom 1 = .ok (.aload_n 1, 1) := by decide +kernel
theorem dX7_copyFrom_2 : decode cX7_copyFrom 2 = .ok (.getfield 7, 3) := by decide +kernel
theorem dX7_copyFrom_5 : decode cX7_copyFrom 5 = .ok (.putfield 7, 3) := by decide +kernel
theorem dX7_copyFrom_8 : decode cX7_copyFrom 8 = .ok (.aload_n 0, 1) := by decide +kernel
theorem dX7_copyFrom_9 : decode cX7_copyFrom 9 = .ok (.aload_n 1, 1) := by decide +kernel
theorem dX7_copyFrom_10 : decode cX7_copyFrom 10 = .ok (.getfield 13, 3) := by decide +kernel
theorem dX7_copyFrom_13 : decode cX7_copyFrom 13 = .ok (.putfield 13, 3) := by decide +kernel
theorem dX7_copyFrom_16 : decode cX7_copyFrom 16 = .ok (.aload_n 0, 1) := by decide +kernel
theorem dX7_copyFrom_17 : decode cX7_copyFrom 17 = .ok (.aload_n 1, 1) := by decide +kernel
theorem dX7_copyFrom_18 : decode cX7_copyFrom 18 = .ok (.getfield 17, 3) := by decide +kernel
theorem dX7_copyFrom_21 : decode cX7_copyFrom 21 = .ok (.putfield 17, 3) := by decide +kernel
theorem dX7_copyFrom_24 : decode cX7_copyFrom 24 = .ok (.aload_n 0, 1) := by decide +kernel
theorem dX7_copyFrom_25 : decode cX7_copyFrom 25 = .ok (.aload_n 1, 1) := by decide +kernel
theorem dX7_copyFrom_26 : decode cX7_copyFrom 26 = .ok (.getfield 20, 3) := by decide +kernel
theorem dX7_copyFrom_29 : decode cX7_copyFrom 29 = .ok (.putfield 20, 3) := by decide +kernel
theorem dX7_copyFrom_32 : decode cX7_copyFrom 32 = .ok (.return_, 1) := by decide +kernel
theorem dX8_init_0 : decode cX8_init 0 = .ok (.aload_n 0, 1) := by decide +kernel
theorem dX8_init_1 : decode cX8_init 1 = .ok (.invokespecial 3, 3) := by decide +kernel
theorem dX8_init_4 : decode cX8_init 4 = .ok (.aload_n 0, 1) := by decide +kernel
theorem dX8_init_5 : decode cX8_init 5 = .ok (.new 9, 3) := by decide +kernel
theorem dX8_init_8 : decode cX8_init 8 = .ok (.dup, 1) := by decide +kernel
theorem dX8_init_9 : decode cX8_init 9 = .ok (.invokespecial 11, 3) := by decide +kernel
theorem dX8_init_12 : decode cX8_init 12 = .ok (.putfield 12, 3) := by decide +kernel
theorem dX8_init_15 : decode cX8_init 15 = .ok (.return_, 1) := by decide +kernel
theorem dX8_advance_0 : decode cX8_advance 0 = .ok (.iconst 0, 1) := by decide +kernel
theorem dX8_advance_1 : decode cX8_advance 1 = .ok (.istore_n 3, 1) := by decide +kernel
theorem dX8_advance_2 : decode cX8_advance 2 = .ok (.iload_n 3, 1) := by decide +kernel
theorem dX8_advance_3 : decode cX8_advance 3 = .ok (.iload_n 2, 1) := by decide +kernel
theorem dX8_advance_4 : decode cX8_advance 4 = .ok (.if_icmp .ge 59, 3) := by decide +kernel
theorem dX8_advance_7 : decode cX8_advance 7 = .ok (.aload_n 0, 1) := by decide +kernel
theorem dX8_advance_8 : decode cX8_advance 8 = .ok (.aload_n 1, 1) := by decide +kernel
theorem dX8_advance_9 : decode cX8_advance 9 = .ok (.invokevirtual 18, 3) := by decide +kernel
theorem dX8_advance_12 : decode cX8_advance 12 = .ok (.aload_n 0, 1) := by decide +kernel
theorem dX8_advance_13 : decode cX8_advance 13 = .ok (.aload_n 1, 1) := by decide +kernel
theorem dX8_advance_14 : decode cX8_advance 14 = .ok (.invokevirtual 22, 3) := by decide +kernel
theorem dX8_advance_17 : decode cX8_advance 17 = .ok (.aload_n 0, 1) := by decide +kernel
theorem dX8_advance_18 : decode cX8_advance 18 = .ok (.aload_n 1, 1) := by decide +kernel
theorem dX8_advance_19 : decode cX8_advance 19 = .ok (.invokevirtual 25, 3) := by decide +kernel
theorem dX8_advance_22 : decode cX8_advance 22 = .ok (.aload_n 0, 1) := by decide +kernel
theorem dX8_advance_23 : decode cX8_advance 23 = .ok (.aload_n 1, 1) := by decide +kernel
theorem dX8_advance_24 : decode cX8_advance 24 = .ok (.invokevirtual 28, 3) := by decide +kernel
theorem dX8_advance_27 : decode cX8_advance 27 = .ok (.aload_n 0, 1) := by decide +kernel
theorem dX8_advance_28 : decode cX8_advance 28 = .ok (.aload_n 1, 1) := by decide +kernel
theorem dX8_advance_29 : decode cX8_advance 29 = .ok (.invokevirtual 31, 3) := by decide +kernel
theorem dX8_advance_32 : decode cX8_advance 32 = .ok (.aload_n 0, 1) := by decide +kernel
theorem dX8_advance_33 : decode cX8_advance 33 = .ok (.aload_n 1, 1) := by decide +kernel
theorem dX8_advance_34 : decode cX8_advance 34 = .ok (.invokevirtual 34, 3) := by decide +kernel
theorem dX8_advance_37 : decode cX8_advance 37 = .ok (.aload_n 0, 1) := by decide +kernel
theorem dX8_advance_38 : decode cX8_advance 38 = .ok (.aload_n 1, 1) := by decide +kernel
theorem dX8_advance_39 : decode cX8_advance 39 = .ok (.invokevirtual 37, 3) := by decide +kernel
theorem dX8_advance_42 : decode cX8_advance 42 = .ok (.aload_n 0, 1) := by decide +kernel
theorem dX8_advance_43 : decode cX8_advance 43 = .ok (.aload_n 1, 1) := by decide +kernel
theorem dX8_advance_44 : decode cX8_advance 44 = .ok (.invokevirtual 40, 3) := by decide +kernel
theorem dX8_advance_47 : decode cX8_advance 47 = .ok (.aload_n 1, 1) := by decide +kernel
theorem dX8_advance_48 : decode cX8_advance 48 = .ok (.dup, 1) := by decide +kernel
theorem dX8_advance_49 : decode cX8_advance 49 = .ok (.getfield 43, 3) := by decide +kernel
theorem dX8_advance_52 : decode cX8_advance 52 = .ok (.iconst 1, 1) := by decide +kernel
theorem dX8_advance_53 : decode cX8_advance 53 = .ok (.iadd, 1) := by decide +kernel
theorem dX8_advance_54 : decode cX8_advance 54 = .ok (.putfield 43, 3) := by decide +kernel
theorem dX8_advance_57 : decode cX8_advance 57 = .ok (.iinc 3 1, 3) := by decide +kernel
theorem dX8_advance_60 : decode cX8_advance 60 = .ok (.goto (-58), 3) := by decide +kernel
theorem dX8_advance_63 : decode cX8_advance 63 = .ok (.return_, 1) := by decide +kernel
theorem dX8_candidateAt_0 : decode cX8_candidateAt 0 = .ok (.aload_n 0, 1) := by decide +kernel
theorem dX8_candidateAt_1 : decode cX8_candidateAt 1 = .ok (.getfield 12, 3) := by decide +kernel
theorem dX8_candidateAt_4 : decode cX8_candidateAt 4 = .ok (.aload_n 1, 1) := by decide +kernel
theorem dX8_candidateAt_5 : decode cX8_candidateAt 5 = .ok (.aload_n 1, 1) := by decide +kernel
theorem dX8_candidateAt_6 : decode cX8_candidateAt 6 = .ok (.iload_n 2, 1) := by decide +kernel
theorem dX8_candidateAt_7 : decode cX8_candidateAt 7 = .ok (.invokevirtual 49, 3) := by decide +kernel
theorem dX8_candidateAt_10 : decode cX8_candidateAt 10 = .ok (.invokevirtual 53, 3) := by decide +kernel
theorem dX8_candidateAt_13 : decode cX8_candidateAt 13 = .ok (.aload_n 0, 1) := by decide +kernel
theorem dX8_candidateAt_14 : decode cX8_candidateAt 14 = .ok (.getfield 12, 3) := by decide +kernel
theorem dX8_candidateAt_17 : decode cX8_candidateAt 17 = .ok (.iload_n 3, 1) := by decide +kernel
theorem dX8_candidateAt_18 : decode cX8_candidateAt 18 = .ok (.invokevirtual 57, 3) := by decide +kernel
theorem dX8_candidateAt_21 : decode cX8_candidateAt 21 = .ok (.ireturn, 1) := by decide +kernel
theorem dX8_moveMobiles_0 : decode cX8_moveMobiles 0 = .ok (.iconst 0, 1) := by decide +kernel
theorem dX8_moveMobiles_1 : decode cX8_moveMobiles 1 = .ok (.istore_n 2, 1) := by decide +kernel
theorem dX8_moveMobiles_2 : decode cX8_moveMobiles 2 = .ok (.iload_n 2, 1) := by decide +kernel
theorem dX8_moveMobiles_3 : decode cX8_moveMobiles 3 = .ok (.aload_n 1, 1) := by decide +kernel
theorem dX8_moveMobiles_4 : decode cX8_moveMobiles 4 = .ok (.getfield 61, 3) := by decide +kernel
theorem dX8_moveMobiles_7 : decode cX8_moveMobiles 7 = .ok (.if_icmp .ge 61, 3) := by decide +kernel
theorem dX8_moveMobiles_10 : decode cX8_moveMobiles 10 = .ok (.aload_n 1, 1) := by decide +kernel
theorem dX8_moveMobiles_11 : decode cX8_moveMobiles 11 = .ok (.iload_n 2, 1) := by decide +kernel
theorem dX8_moveMobiles_12 : decode cX8_moveMobiles 12 = .ok (.invokevirtual 49, 3) := by decide +kernel
theorem dX8_moveMobiles_15 : decode cX8_moveMobiles 15 = .ok (.astore_n 3, 1) := by decide +kernel
theorem dX8_moveMobiles_16 : decode cX8_moveMobiles 16 = .ok (.aload_n 3, 1) := by decide +kernel
theorem dX8_moveMobiles_17 : decode cX8_moveMobiles 17 = .ok (.iconst 0, 1) := by decide +kernel
theorem dX8_moveMobiles_18 : decode cX8_moveMobiles 18 = .ok (.sipush 999, 3) := by decide +kernel
theorem dX8_moveMobiles_21 : decode cX8_moveMobiles 21 = .ok (.aload_n 3, 1) := by decide +kernel
theorem dX8_moveMobiles_22 : decode cX8_moveMobiles 22 = .ok (.getfield 64, 3) := by decide +kernel
theorem dX8_moveMobiles_25 : decode cX8_moveMobiles 25 = .ok (.aload_n 3, 1) := by decide +kernel
theorem dX8_moveMobiles_26 : decode cX8_moveMobiles 26 = .ok (.getfield 69, 3) := by decide +kernel
theorem dX8_moveMobiles_29 : decode cX8_moveMobiles 29 = .ok (.iadd, 1) := by decide +kernel
theorem dX8_moveMobiles_30 : decode cX8_moveMobiles 30 = .ok (.invokestatic 72, 3) := by decide +kernel
theorem dX8_moveMobiles_33 : decode cX8_moveMobiles 33 = .ok (.invokestatic 78, 3) := by decide +kernel
theorem dX8_moveMobiles_36 : decode cX8_moveMobiles 36 = .ok (.putfield 64, 3) := by decide +kernel
theorem dX8_moveMobiles_39 : decode cX8_moveMobiles 39 = .ok (.aload_n 3, 1) := by decide +kernel
theorem dX8_moveMobiles_40 : decode cX8_moveMobiles 40 = .ok (.iconst 0, 1) := by decide +kernel
theorem dX8_moveMobiles_41 : decode cX8_moveMobiles 41 = .ok (.sipush 999, 3) := by decide +kernel
theorem dX8_moveMobiles_44 : decode cX8_moveMobiles 44 = .ok (.aload_n 3, 1) := by decide +kernel
theorem dX8_moveMobiles_45 : decode cX8_moveMobiles 45 = .ok (.getfield 81, 3) := by decide +kernel
theorem dX8_moveMobiles_48 : decode cX8_moveMobiles 48 = .ok (.aload_n 3, 1) := by decide +kernel
theorem dX8_moveMobiles_49 : decode cX8_moveMobiles 49 = .ok (.getfield 84, 3) := by decide +kernel
theorem dX8_moveMobiles_52 : decode cX8_moveMobiles 52 = .ok (.iadd, 1) := by decide +kernel
theorem dX8_moveMobiles_53 : decode cX8_moveMobiles 53 = .ok (.invokestatic 72, 3) := by decide +kernel
theorem dX8_moveMobiles_56 : decode cX8_moveMobiles 56 = .ok (.invokestatic 78, 3) := by decide +kernel
theorem dX8_moveMobiles_59 : decode cX8_moveMobiles 59 = .ok (.putfield 81, 3) := by decide +kernel
theorem dX8_moveMobiles_62 : decode cX8_moveMobiles 62 = .ok (.iinc 2 1, 3) := by decide +kernel
theorem dX8_moveMobiles_65 : decode cX8_moveMobiles 65 = .ok (.goto (-63), 3) := by decide +kernel
theorem dX8_moveMobiles_68 : decode cX8_moveMobiles 68 = .ok (.return_, 1) := by decide +kernel
theorem dX8_measureLevels_0 : decode cX8_measureLevels 0 = .ok (.iconst 0, 1) := by decide +kernel
theorem dX8_measureLevels_1 : decode cX8_measureLevels 1 = .ok (.istore_n 2, 1) := by decide +kernel
theorem dX8_measureLevels_2 : decode cX8_measureLevels 2 = .ok (.iload_n 2, 1) := by decide +kernel
theorem dX8_measureLevels_3 : decode cX8_measureLevels 3 = .ok (.aload_n 1, 1) := by decide +kernel
theorem dX8_measureLevels_4 : decode cX8_measureLevels 4 = .ok (.getfield 61, 3) := by decide +kernel
theorem dX8_measureLevels_7 : decode cX8_measureLevels 7 = .ok (.if_icmp .ge 29, 3) := by decide +kernel
theorem dX8_measureLevels_10 : decode cX8_measureLevels 10 = .ok (.aload_n 1, 1) := by decide +kernel
theorem dX8_measureLevels_11 : decode cX8_measureLevels 11 = .ok (.iload_n 2, 1) := by decide +kernel
theorem dX8_measureLevels_12 : decode cX8_measureLevels 12 = .ok (.invokevirtual 49, 3) := by decide +kernel
theorem dX8_measureLevels_15 : decode cX8_measureLevels 15 = .ok (.astore_n 3, 1) := by decide +kernel
theorem dX8_measureLevels_16 : decode cX8_measureLevels 16 = .ok (.aload_n 3, 1) := by decide +kernel
theorem dX8_measureLevels_17 : decode cX8_measureLevels 17 = .ok (.getfield 87, 3) := by decide +kernel
theorem dX8_measureLevels_20 : decode cX8_measureLevels 20 = .ok (.iconst 1, 1) := by decide +kernel
theorem dX8_measureLevels_21 : decode cX8_measureLevels 21 = .ok (.if_icmp .ne 9, 3) := by decide +kernel
theorem dX8_measureLevels_24 : decode cX8_measureLevels 24 = .ok (.aload_n 0, 1) := by decide +kernel
theorem dX8_measureLevels_25 : decode cX8_measureLevels 25 = .ok (.aload_n 1, 1) := by decide +kernel
theorem dX8_measureLevels_26 : decode cX8_measureLevels 26 = .ok (.aload_n 3, 1) := by decide +kernel
theorem dX8_measureLevels_27 : decode cX8_measureLevels 27 = .ok (.invokevirtual 90, 3) := by decide +kernel
theorem dX8_measureLevels_30 : decode cX8_measureLevels 30 = .ok (.iinc 2 1, 3) := by decide +kernel
theorem dX8_measureLevels_33 : decode cX8_measureLevels 33 = .ok (.goto (-31), 3) := by decide +kernel
theorem dX8_measureLevels_36 : decode cX8_measureLevels 36 = .ok (.return_, 1) := by decide +kernel
theorem dX8_measure_0 : decode cX8_measure 0 = .ok (.iconst 0, 1) := by decide +kernel
theorem dX8_measure_1 : decode cX8_measure 1 = .ok (.istore_n 3, 1) := by decide +kernel
theorem dX8_measure_2 : decode cX8_measure 2 = .ok (.iload_n 3, 1) := by decide +kernel
theorem dX8_measure_3 : decode cX8_measure 3 = .ok (.aload_n 1, 1) := by decide +kernel
theorem dX8_measure_4 : decode cX8_measure 4 = .ok (.getfield 93, 3) := by decide +kernel
theorem dX8_measure_7 : decode cX8_measure 7 = .ok (.if_icmp .ge 69, 3) := by decide +kernel
theorem dX8_measure_10 : decode cX8_measure 10 = .ok (.iload_n 3, 1) := by decide +kernel
theorem dX8_measure_11 : decode cX8_measure 11 = .ok (.aload_n 2, 1) := by decide +kernel
theorem dX8_measure_12 : decode cX8_measure 12 = .ok (.getfield 96, 3) := by decide +kernel
theorem dX8_measure_15 : decode cX8_measure 15 = .ok (.if_icmp .eq 18, 3) := by decide +kernel
theorem dX8_measure_18 : decode cX8_measure 18 = .ok (.aload_n 1, 1) := by decide +kernel
theorem dX8_measure_19 : decode cX8_measure 19 = .ok (.aload_n 2, 1) := by decide +kernel
theorem dX8_measure_20 : decode cX8_measure 20 = .ok (.getfield 96, 3) := by decide +kernel
theorem dX8_measure_23 : decode cX8_measure 23 = .ok (.iload_n 3, 1) := by decide +kernel
theorem dX8_measure_24 : decode cX8_measure 24 = .ok (.invokevirtual 99, 3) := by decide +kernel
theorem dX8_measure_27 : decode cX8_measure 27 = .ok (.getfield 103, 3) := by decide +kernel
theorem dX8_measure_30 : decode cX8_measure 30 = .ok (.ifCond .eq 35, 3) := by decide +kernel
theorem dX8_measure_33 : decode cX8_measure 33 = .ok (.aload_n 1, 1) := by decide +kernel
theorem dX8_measure_34 : decode cX8_measure 34 = .ok (.iload_n 3, 1) := by decide +kernel
theorem dX8_measure_35 : decode cX8_measure 35 = .ok (.invokevirtual 109, 3) := by decide +kernel
theorem dX8_measure_38 : decode cX8_measure 38 = .ok (.aload_n 2, 1) := by decide +kernel
theorem dX8_measure_39 : decode cX8_measure 39 = .ok (.getfield 64, 3) := by decide +kernel
theorem dX8_measure_42 : decode cX8_measure 42 = .ok (.aload_n 2, 1) := by decide +kernel
theorem dX8_measure_43 : decode cX8_measure 43 = .ok (.getfield 81, 3) := by decide +kernel
theorem dX8_measure_46 : decode cX8_measure 46 = .ok (.invokevirtual 113, 3) := by decide +kernel
theorem dX8_measure_49 : decode cX8_measure 49 = .ok (.istore 4, 2) := by decide +kernel
theorem dX8_measure_51 : decode cX8_measure 51 = .ok (.aload_n 2, 1) := by decide +kernel
theorem dX8_measure_52 : decode cX8_measure 52 = .ok (.iload_n 3, 1) := by decide +kernel
theorem dX8_measure_53 : decode cX8_measure 53 = .ok (.iload 4, 2) := by decide +kernel
theorem dX8_measure_55 : decode cX8_measure 55 = .ok (.aload_n 1, 1) := by decide +kernel
theorem dX8_measure_56 : decode cX8_measure 56 = .ok (.getfield 118, 3) := by decide +kernel
theorem dX8_measure_59 : decode cX8_measure 59 = .ok (.invokevirtual 121, 3) := by decide +kernel
theorem dX8_measure_62 : decode cX8_measure 62 = .ok (.goto 8, 3) := by decide +kernel
theorem dX8_measure_65 : decode cX8_measure 65 = .ok (.aload_n 2, 1) := by decide +kernel
theorem dX8_measure_66 : decode cX8_measure 66 = .ok (.iload_n 3, 1) := by decide +kernel
theorem dX8_measure_67 : decode cX8_measure 67 = .ok (.invokevirtual 125, 3) := by decide +kernel
theorem dX8_measure_70 : decode cX8_measure 70 = .ok (.iinc 3 1, 3) := by decide +kernel
theorem dX8_measure_73 : decode cX8_measure 73 = .ok (.goto (-71), 3) := by decide +kernel
theorem dX8_measure_76 : decode cX8_measure 76 = .ok (.return_, 1) := by decide +kernel
theorem dX8_completeCalls_0 : decode cX8_completeCalls 0 = .ok (.iconst 0, 1) := by decide +kernel
theorem dX8_completeCalls_1 : decode cX8_completeCalls 1 = .ok (.istore_n 2, 1) := by decide +kernel
theorem dX8_completeCalls_2 : decode cX8_completeCalls 2 = .ok (.iload_n 2, 1) := by decide +kernel
theorem dX8_completeCalls_3 : decode cX8_completeCalls 3 = .ok (.aload_n 1, 1) := by decide +kernel
theorem dX8_completeCalls_4 : decode cX8_completeCalls 4 = .ok (.getfield 61, 3) := by decide +kernel
theorem dX8_completeCalls_7 : decode cX8_completeCalls 7 = .ok (.if_icmp .ge 49, 3) := by decide +kernel
theorem dX8_completeCalls_10 : decode cX8_completeCalls 10 = .ok (.aload_n 1, 1) := by decide +kernel
theorem dX8_completeCalls_11 : decode cX8_completeCalls 11 = .ok (.iload_n 2, 1) := by decide +kernel
theorem dX8_completeCalls_12 : decode cX8_completeCalls 12 = .ok (.invokevirtual 49, 3) := by decide +kernel
theorem dX8_completeCalls_15 : decode cX8_completeCalls 15 = .ok (.astore_n 3, 1) := by decide +kernel
theorem dX8_completeCalls_16 : decode cX8_completeCalls 16 = .ok (.aload_n 3, 1) := by decide +kernel
theorem dX8_completeCalls_17 : decode cX8_completeCalls 17 = .ok (.getfield 87, 3) := by decide +kernel
theorem dX8_completeCalls_20 : decode cX8_completeCalls 20 = .ok (.iconst 1, 1) := by decide +kernel
theorem dX8_completeCalls_21 : decode cX8_completeCalls 21 = .ok (.if_icmp .ne 29, 3) := by decide +kernel
theorem dX8_completeCalls_24 : decode cX8_completeCalls 24 = .ok (.aload_n 3, 1) := by decide +kernel
theorem dX8_completeCalls_25 : decode cX8_completeCalls 25 = .ok (.dup, 1) := by decide +kernel
theorem dX8_completeCalls_26 : decode cX8_completeCalls 26 = .ok (.getfield 129, 3) := by decide +kernel
theorem dX8_completeCalls_29 : decode cX8_completeCalls 29 = .ok (.iconst 1, 1) := by decide +kernel
theorem dX8_completeCalls_30 : decode cX8_completeCalls 30 = .ok (.isub, 1) := by decide +kernel
theorem dX8_completeCalls_31 : decode cX8_completeCalls 31 = .ok (.putfield 129, 3) := by decide +kernel
theorem dX8_completeCalls_34 : decode cX8_completeCalls 34 = .ok (.aload_n 3, 1) := by decide +kernel
theorem dX8_completeCalls_35 : decode cX8_completeCalls 35 = .ok (.getfield 129, 3) := by decide +kernel
theorem dX8_completeCalls_38 : decode cX8_completeCalls 38 = .ok (.ifCond .gt 12, 3) := by decide +kernel
theorem dX8_completeCalls_41 : decode cX8_completeCalls 41 = .ok (.aload_n 3, 1) := by decide +kernel
theorem dX8_completeCalls_42 : decode cX8_completeCalls 42 = .ok (.invokevirtual 132, 3) := by decide +kernel
theorem dX8_completeCalls_45 : decode cX8_completeCalls 45 = .ok (.aload_n 1, 1) := by decide +kernel
theorem dX8_completeCalls_46 : decode cX8_completeCalls 46 = .ok (.iconst 2, 1) := by decide +kernel
theorem dX8_completeCalls_47 : decode cX8_completeCalls 47 = .ok (.invokevirtual 135, 3) := by decide +kernel
theorem dX8_completeCalls_50 : decode cX8_completeCalls 50 = .ok (.iinc 2 1, 3) := by decide +kernel
theorem dX8_completeCalls_53 : decode cX8_completeCalls 53 = .ok (.goto (-51), 3) := by decide +kernel
theorem dX8_completeCalls_56 : decode cX8_completeCalls 56 = .ok (.return_, 1) := by decide +kernel
theorem dX8_dropCalls_0 : decode cX8_dropCalls 0 = .ok (.iconst 0, 1) := by decide +kernel
theorem dX8_dropCalls_1 : decode cX8_dropCalls 1 = .ok (.istore_n 2, 1) := by decide +kernel
theorem dX8_dropCalls_2 : decode cX8_dropCalls 2 = .ok (.iload_n 2, 1) := by decide +kernel
theorem dX8_dropCalls_3 : decode cX8_dropCalls 3 = .ok (.aload_n 1, 1) := by decide +kernel
theorem dX8_dropCalls_4 : decode cX8_dropCalls 4 = .ok (.getfield 61, 3) := by decide +kernel
theorem dX8_dropCalls_7 : decode cX8_dropCalls 7 = .ok (.if_icmp .ge 84, 3) := by decide +kernel
theorem dX8_dropCalls_10 : decode cX8_dropCalls 10 = .ok (.aload_n 1, 1) := by decide +kernel
theorem dX8_dropCalls_11 : decode cX8_dropCalls 11 = .ok (.iload_n 2, 1) := by decide +kernel
theorem dX8_dropCalls_12 : decode cX8_dropCalls 12 = .ok (.invokevirtual 49, 3) := by decide +kernel
theorem dX8_dropCalls_15 : decode cX8_dropCalls 15 = .ok (.astore_n 3, 1) := by decide +kernel
theorem dX8_dropCalls_16 : decode cX8_dropCalls 16 = .ok (.aload_n 3, 1) := by decide +kernel
theorem dX8_dropCalls_17 : decode cX8_dropCalls 17 = .ok (.getfield 87, 3) := by decide +kernel
theorem dX8_dropCalls_20 : decode cX8_dropCalls 20 = .ok (.iconst 1, 1) := by decide +kernel
theorem dX8_dropCalls_21 : decode cX8_dropCalls 21 = .ok (.if_icmp .ne 64, 3) := by decide +kernel
theorem dX8_dropCalls_24 : decode cX8_dropCalls 24 = .ok (.aload_n 3, 1) := by decide +kernel
theorem dX8_dropCalls_25 : decode cX8_dropCalls 25 = .ok (.aload_n 3, 1) := by decide +kernel
theorem dX8_dropCalls_26 : decode cX8_dropCalls 26 = .ok (.getfield 96, 3) := by decide +kernel
theorem dX8_dropCalls_29 : decode cX8_dropCalls 29 = .ok (.invokevirtual 138, 3) := by decide +kernel
theorem dX8_dropCalls_32 : decode cX8_dropCalls 32 = .ok (.aload_n 1, 1) := by decide +kernel
theorem dX8_dropCalls_33 : decode cX8_dropCalls 33 = .ok (.getfield 141, 3) := by decide +kernel
theorem dX8_dropCalls_36 : decode cX8_dropCalls 36 = .ok (.if_icmp .ge 7, 3) := by decide +kernel
theorem dX8_dropCalls_39 : decode cX8_dropCalls 39 = .ok (.iconst 1, 1) := by decide +kernel
theorem dX8_dropCalls_40 : decode cX8_dropCalls 40 = .ok (.goto 4, 3) := by decide +kernel
theorem dX8_dropCalls_43 : decode cX8_dropCalls 43 = .ok (.iconst 0, 1) := by decide +kernel
theorem dX8_dropCalls_44 : decode cX8_dropCalls 44 = .ok (.istore 4, 2) := by decide +kernel
theorem dX8_dropCalls_46 : decode cX8_dropCalls 46 = .ok (.aload_n 3, 1) := by decide +kernel
theorem dX8_dropCalls_47 : decode cX8_dropCalls 47 = .ok (.iload 4, 2) := by decide +kernel
theorem dX8_dropCalls_49 : decode cX8_dropCalls 49 = .ok (.ifCond .eq 12, 3) := by decide +kernel
theorem dX8_dropCalls_52 : decode cX8_dropCalls 52 = .ok (.aload_n 3, 1) := by decide +kernel
theorem dX8_dropCalls_53 : decode cX8_dropCalls 53 = .ok (.getfield 144, 3) := by decide +kernel
theorem dX8_dropCalls_56 : decode cX8_dropCalls 56 = .ok (.iconst 1, 1) := by decide +kernel
theorem dX8_dropCalls_57 : decode cX8_dropCalls 57 = .ok (.iadd, 1) := by decide +kernel
theorem dX8_dropCalls_58 : decode cX8_dropCalls 58 = .ok (.goto 4, 3) := by decide +kernel
theorem dX8_dropCalls_61 : decode cX8_dropCalls 61 = .ok (.iconst 0, 1) := by decide +kernel
theorem dX8_dropCalls_62 : decode cX8_dropCalls 62 = .ok (.putfield 144, 3) := by decide +kernel
theorem dX8_dropCalls_65 : decode cX8_dropCalls 65 = .ok (.aload_n 3, 1) := by decide +kernel
theorem dX8_dropCalls_66 : decode cX8_dropCalls 66 = .ok (.getfield 144, 3) := by decide +kernel
theorem dX8_dropCalls_69 : decode cX8_dropCalls 69 = .ok (.aload_n 1, 1) := by decide +kernel
theorem dX8_dropCalls_70 : decode cX8_dropCalls 70 = .ok (.getfield 147, 3) := by decide +kernel
theorem dX8_dropCalls_73 : decode cX8_dropCalls 73 = .ok (.if_icmp .lt 12, 3) := by decide +kernel
theorem dX8_dropCalls_76 : decode cX8_dropCalls 76 = .ok (.aload_n 3, 1) := by decide +kernel
theorem dX8_dropCalls_77 : decode cX8_dropCalls 77 = .ok (.invokevirtual 132, 3) := by decide +kernel
theorem dX8_dropCalls_80 : decode cX8_dropCalls 80 = .ok (.aload_n 1, 1) := by decide +kernel
theorem dX8_dropCalls_81 : decode cX8_dropCalls 81 = .ok (.iconst 3, 1) := by decide +kernel
theorem dX8_dropCalls_82 : decode cX8_dropCalls 82 = .ok (.invokevirtual 135, 3) := by decide +kernel
theorem dX8_dropCalls_85 : decode cX8_dropCalls 85 = .ok (.iinc 2 1, 3) := by decide +kernel
theorem dX8_dropCalls_88 : decode cX8_dropCalls 88 = .ok (.goto (-86), 3) := by decide +kernel
theorem dX8_dropCalls_91 : decode cX8_dropCalls 91 = .ok (.return_, 1) := by decide +kernel
theorem dX8_serveQueues_0 : decode cX8_serveQueues 0 = .ok (.iconst 0, 1) := by decide +kernel
theorem dX8_serveQueues_1 : decode cX8_serveQueues 1 = .ok (.istore_n 2, 1) := by decide +kernel
theorem dX8_serveQueues_2 : decode cX8_serveQueues 2 = .ok (.iload_n 2, 1) := by decide +kernel
theorem dX8_serveQueues_3 : decode cX8_serveQueues 3 = .ok (.aload_n 1, 1) := by decide +kernel
theorem dX8_serveQueues_4 : decode cX8_serveQueues 4 = .ok (.getfield 93, 3) := by decide +kernel
theorem dX8_serveQueues_7 : decode cX8_serveQueues 7 = .ok (.if_icmp .ge 60, 3) := by decide +kernel
theorem dX8_serveQueues_10 : decode cX8_serveQueues 10 = .ok (.iconst 0, 1) := by decide +kernel
theorem dX8_serveQueues_11 : decode cX8_serveQueues 11 = .ok (.istore_n 3, 1) := by decide +kernel
theorem dX8_serveQueues_12 : decode cX8_serveQueues 12 = .ok (.iload_n 3, 1) := by decide +kernel
theorem dX8_serveQueues_13 : decode cX8_serveQueues 13 = .ok (.bipush 12, 2) := by decide +kernel
theorem dX8_serveQueues_15 : decode cX8_serveQueues 15 = .ok (.if_icmp .ge 46, 3) := by decide +kernel
theorem dX8_serveQueues_18 : decode cX8_serveQueues 18 = .ok (.aload_n 1, 1) := by decide +kernel
theorem dX8_serveQueues_19 : decode cX8_serveQueues 19 = .ok (.iload_n 2, 1) := by decide +kernel
theorem dX8_serveQueues_20 : decode cX8_serveQueues 20 = .ok (.invokevirtual 150, 3) := by decide +kernel
theorem dX8_serveQueues_23 : decode cX8_serveQueues 23 = .ok (.ifCond .eq 38, 3) := by decide +kernel
theorem dX8_serveQueues_26 : decode cX8_serveQueues 26 = .ok (.aload_n 1, 1) := by decide +kernel
theorem dX8_serveQueues_27 : decode cX8_serveQueues 27 = .ok (.iload_n 2, 1) := by decide +kernel
theorem dX8_serveQueues_28 : decode cX8_serveQueues 28 = .ok (.iconst 0, 1) := by decide +kernel
theorem dX8_serveQueues_29 : decode cX8_serveQueues 29 = .ok (.invokevirtual 154, 3) := by decide +kernel
theorem dX8_serveQueues_32 : decode cX8_serveQueues 32 = .ok (.istore 4, 2) := by decide +kernel
theorem dX8_serveQueues_34 : decode cX8_serveQueues 34 = .ok (.iload 4, 2) := by decide +kernel
theorem dX8_serveQueues_36 : decode cX8_serveQueues 36 = .ok (.iconst (-1), 1) := by decide +kernel
theorem dX8_serveQueues_37 : decode cX8_serveQueues 37 = .ok (.if_icmp .ne 6, 3) := by decide +kernel
theorem dX8_serveQueues_40 : decode cX8_serveQueues 40 = .ok (.goto 21, 3) := by decide +kernel
theorem dX8_serveQueues_43 : decode cX8_serveQueues 43 = .ok (.aload_n 0, 1) := by decide +kernel
theorem dX8_serveQueues_44 : decode cX8_serveQueues 44 = .ok (.aload_n 1, 1) := by decide +kernel
theorem dX8_serveQueues_45 : decode cX8_serveQueues 45 = .ok (.aload_n 1, 1) := by decide +kernel
theorem dX8_serveQueues_46 : decode cX8_serveQueues 46 = .ok (.iload 4, 2) := by decide +kernel
theorem dX8_serveQueues_48 : decode cX8_serveQueues 48 = .ok (.invokevirtual 49, 3) := by decide +kernel
theorem dX8_serveQueues_51 : decode cX8_serveQueues 51 = .ok (.iload_n 2, 1) := by decide +kernel
theorem dX8_serveQueues_52 : decode cX8_serveQueues 52 = .ok (.invokevirtual 157, 3) := by decide +kernel
theorem dX8_serveQueues_55 : decode cX8_serveQueues 55 = .ok (.iinc 3 1, 3) := by decide +kernel
theorem dX8_serveQueues_58 : decode cX8_serveQueues 58 = .ok (.goto (-46), 3) := by decide +kernel
theorem dX8_serveQueues_61 : decode cX8_serveQueues 61 = .ok (.iinc 2 1, 3) := by decide +kernel
theorem dX8_serveQueues_64 : decode cX8_serveQueues 64 = .ok (.goto (-62), 3) := by decide +kernel
theorem dX8_serveQueues_67 : decode cX8_serveQueues 67 = .ok (.return_, 1) := by decide +kernel
theorem dX8_serve_0 : decode cX8_serve 0 = .ok (.aload_n 2, 1) := by decide +kernel
theorem dX8_serve_1 : decode cX8_serve 1 = .ok (.getfield 87, 3) := by decide +kernel
theorem dX8_serve_4 : decode cX8_serve 4 = .ok (.iconst 1, 1) := by decide +kernel
theorem dX8_serve_5 : decode cX8_serve 5 = .ok (.if_icmp .ne 12, 3) := by decide +kernel
theorem dX8_serve_8 : decode cX8_serve 8 = .ok (.aload_n 1, 1) := by decide +kernel
theorem dX8_serve_9 : decode cX8_serve 9 = .ok (.aload_n 2, 1) := by decide +kernel
theorem dX8_serve_10 : decode cX8_serve 10 = .ok (.iload_n 3, 1) := by decide +kernel
theorem dX8_serve_11 : decode cX8_serve 11 = .ok (.invokevirtual 161, 3) := by decide +kernel
theorem dX8_serve_14 : decode cX8_serve 14 = .ok (.goto 8, 3) := by decide +kernel
theorem dX8_serve_17 : decode cX8_serve 17 = .ok (.aload_n 2, 1) := by decide +kernel
theorem dX8_serve_18 : decode cX8_serve 18 = .ok (.iload_n 3, 1) := by decide +kernel
theorem dX8_serve_19 : decode cX8_serve 19 = .ok (.invokevirtual 165, 3) := by decide +kernel
theorem dX8_serve_22 : decode cX8_serve 22 = .ok (.aload_n 1, 1) := by decide +kernel
theorem dX8_serve_23 : decode cX8_serve 23 = .ok (.bipush 6, 2) := by decide +kernel
theorem dX8_serve_25 : decode cX8_serve 25 = .ok (.invokevirtual 135, 3) := by decide +kernel
theorem dX8_serve_28 : decode cX8_serve 28 = .ok (.return_, 1) := by decide +kernel
theorem dX8_decideHandovers_0 : decode cX8_decideHandovers 0 = .ok (.iconst 0, 1) := by decide +kernel
theorem dX8_decideHandovers_1 : decode cX8_decideHandovers 1 = .ok (.istore_n 2, 1) := by decide +kernel
theorem dX8_decideHandovers_2 : decode cX8_decideHandovers 2 = .ok (.iload_n 2, 1) := by decide +kernel
theorem dX8_decideHandovers_3 : decode cX8_decideHandovers 3 = .ok (.aload_n 1, 1) := by decide +kernel
theorem dX8_decideHandovers_4 : decode cX8_decideHandovers 4 = .ok (.getfield 61, 3) := by decide +kernel
theorem dX8_decideHandovers_7 : decode cX8_decideHandovers 7 = .ok (.if_icmp .ge 37, 3) := by decide +kernel
theorem dX8_decideHandovers_10 : decode cX8_decideHandovers 10 = .ok (.aload_n 1, 1) := by decide +kernel
theorem dX8_decideHandovers_11 : decode cX8_decideHandovers 11 = .ok (.iload_n 2, 1) := by decide +kernel
theorem dX8_decideHandovers_12 : decode cX8_decideHandovers 12 = .ok (.invokevirtual 49, 3) := by decide +kernel
theorem dX8_decideHandovers_15 : decode cX8_decideHandovers 15 = .ok (.astore_n 3, 1) := by decide +kernel
theorem dX8_decideHandovers_16 : decode cX8_decideHandovers 16 = .ok (.aload_n 3, 1) := by decide +kernel
theorem dX8_decideHandovers_17 : decode cX8_decideHandovers 17 = .ok (.getfield 87, 3) := by decide +kernel
theorem dX8_decideHandovers_20 : decode cX8_decideHandovers 20 = .ok (.iconst 1, 1) := by decide +kernel
theorem dX8_decideHandovers_21 : decode cX8_decideHandovers 21 = .ok (.if_icmp .ne 17, 3) := by decide +kernel
theorem dX8_decideHandovers_24 : decode cX8_decideHandovers 24 = .ok (.aload_n 3, 1) := by decide +kernel
theorem dX8_decideHandovers_25 : decode cX8_decideHandovers 25 = .ok (.getfield 168, 3) := by decide +kernel
theorem dX8_decideHandovers_28 : decode cX8_decideHandovers 28 = .ok (.iconst (-1), 1) := by decide +kernel
theorem dX8_decideHandovers_29 : decode cX8_decideHandovers 29 = .ok (.if_icmp .ne 9, 3) := by decide +kernel
theorem dX8_decideHandovers_32 : decode cX8_decideHandovers 32 = .ok (.aload_n 0, 1) := by decide +kernel
theorem dX8_decideHandovers_33 : decode cX8_decideHandovers 33 = .ok (.aload_n 1, 1) := by decide +kernel
theorem dX8_decideHandovers_34 : decode cX8_decideHandovers 34 = .ok (.aload_n 3, 1) := by decide +kernel
theorem dX8_decideHandovers_35 : decode cX8_decideHandovers 35 = .ok (.invokevirtual 171, 3) := by decide +kernel
theorem dX8_decideHandovers_38 : decode cX8_decideHandovers 38 = .ok (.iinc 2 1, 3) := by decide +kernel
theorem dX8_decideHandovers_41 : decode cX8_decideHandovers 41 = .ok (.goto (-39), 3) := by decide +kernel
theorem dX8_decideHandovers_44 : decode cX8_decideHandovers 44 = .ok (.return_, 1) := by decide +kernel
theorem dX8_considerHandover_0 : decode cX8_considerHandover 0 = .ok (.aload_n 0, 1) := by decide +kernel
theorem dX8_considerHandover_1 : decode cX8_considerHandover 1 = .ok (.getfield 12, 3) := by decide +kernel
theorem dX8_considerHandover_4 : decode cX8_considerHandover 4 = .ok (.aload_n 1, 1) := by decide +kernel
theorem dX8_considerHandover_5 : decode cX8_considerHandover 5 = .ok (.aload_n 2, 1) := by decide +kernel
theorem dX8_considerHandover_6 : decode cX8_considerHandover 6 = .ok (.invokevirtual 53, 3) := by decide +kernel
theorem dX8_considerHandover_9 : decode cX8_considerHandover 9 = .ok (.iconst 0, 1) := by decide +kernel
theorem dX8_considerHandover_10 : decode cX8_considerHandover 10 = .ok (.istore_n 3, 1) := by decide +kernel
theorem dX8_considerHandover_11 : decode cX8_considerHandover 11 = .ok (.iload_n 3, 1) := by decide +kernel
theorem dX8_considerHandover_12 : decode cX8_considerHandover 12 = .ok (.aload_n 0, 1) := by decide +kernel
theorem dX8_considerHandover_13 : decode cX8_considerHandover 13 = .ok (.getfield 12, 3) := by decide +kernel
theorem dX8_considerHandover_16 : decode cX8_considerHandover 16 = .ok (.getfield 174, 3) := by decide +kernel
theorem dX8_considerHandover_19 : decode cX8_considerHandover 19 = .ok (.if_icmp .ge 55, 3) := by decide +kernel
theorem dX8_considerHandover_22 : decode cX8_considerHandover 22 = .ok (.aload_n 0, 1) := by decide +kernel
theorem dX8_considerHandover_23 : decode cX8_considerHandover 23 = .ok (.getfield 12, 3) := by decide +kernel
theorem dX8_considerHandover_26 : decode cX8_considerHandover 26 = .ok (.iload_n 3, 1) := by decide +kernel
theorem dX8_considerHandover_27 : decode cX8_considerHandover 27 = .ok (.invokevirtual 57, 3) := by decide +kernel
theorem dX8_considerHandover_30 : decode cX8_considerHandover 30 = .ok (.istore 4, 2) := by decide +kernel
theorem dX8_considerHandover_32 : decode cX8_considerHandover 32 = .ok (.aload_n 1, 1) := by decide +kernel
theorem dX8_considerHandover_33 : decode cX8_considerHandover 33 = .ok (.iload 4, 2) := by decide +kernel
theorem dX8_considerHandover_35 : decode cX8_considerHandover 35 = .ok (.invokevirtual 150, 3) := by decide +kernel
theorem dX8_considerHandover_38 : decode cX8_considerHandover 38 = .ok (.ifCond .eq 11, 3) := by decide +kernel
theorem dX8_considerHandover_41 : decode cX8_considerHandover 41 = .ok (.aload_n 1, 1) := by decide +kernel
theorem dX8_considerHandover_42 : decode cX8_considerHandover 42 = .ok (.aload_n 2, 1) := by decide +kernel
theorem dX8_considerHandover_43 : decode cX8_considerHandover 43 = .ok (.iload 4, 2) := by decide +kernel
theorem dX8_considerHandover_45 : decode cX8_considerHandover 45 = .ok (.invokevirtual 161, 3) := by decide +kernel
theorem dX8_considerHandover_48 : decode cX8_considerHandover 48 = .ok (.return_, 1) := by decide +kernel
theorem dX8_considerHandover_49 : decode cX8_considerHandover 49 = .ok (.aload_n 1, 1) := by decide +kernel
theorem dX8_considerHandover_50 : decode cX8_considerHandover 50 = .ok (.aload_n 2, 1) := by decide +kernel
theorem dX8_considerHandover_51 : decode cX8_considerHandover 51 = .ok (.getfield 96, 3) := by decide +kernel
theorem dX8_considerHandover_54 : decode cX8_considerHandover 54 = .ok (.iload 4, 2) := by decide +kernel
theorem dX8_considerHandover_56 : decode cX8_considerHandover 56 = .ok (.invokevirtual 99, 3) := by decide +kernel
theorem dX8_considerHandover_59 : decode cX8_considerHandover 59 = .ok (.dup, 1) := by decide +kernel
theorem dX8_considerHandover_60 : decode cX8_considerHandover 60 = .ok (.getfield 176, 3) := by decide +kernel
theorem dX8_considerHandover_63 : decode cX8_considerHandover 63 = .ok (.iconst 1, 1) := by decide +kernel
theorem dX8_considerHandover_64 : decode cX8_considerHandover 64 = .ok (.iadd, 1) := by decide +kernel
theorem dX8_considerHandover_65 : decode cX8_considerHandover 65 = .ok (.putfield 176, 3) := by decide +kernel
theorem dX8_considerHandover_68 : decode cX8_considerHandover 68 = .ok (.iinc 3 1, 3) := by decide +kernel
theorem dX8_considerHandover_71 : decode cX8_considerHandover 71 = .ok (.goto (-60), 3) := by decide +kernel
theorem dX8_considerHandover_74 : decode cX8_considerHandover 74 = .ok (.aload_n 0, 1) := by decide +kernel
theorem dX8_considerHandover_75 : decode cX8_considerHandover 75 = .ok (.getfield 12, 3) := by decide +kernel
theorem dX8_considerHandover_78 : decode cX8_considerHandover 78 = .ok (.getfield 179, 3) := by decide +kernel
theorem dX8_considerHandover_81 : decode cX8_considerHandover 81 = .ok (.ifCond .ne 4, 3) := by decide +kernel
theorem dX8_considerHandover_84 : decode cX8_considerHandover 84 = .ok (.return_, 1) := by decide +kernel
theorem dX8_considerHandover_85 : decode cX8_considerHandover 85 = .ok (.iconst 0, 1) := by decide +kernel
theorem dX8_considerHandover_86 : decode cX8_considerHandover 86 = .ok (.istore_n 3, 1) := by decide +kernel
theorem dX8_considerHandover_87 : decode cX8_considerHandover 87 = .ok (.iload_n 3, 1) := by decide +kernel
theorem dX8_considerHandover_88 : decode cX8_considerHandover 88 = .ok (.aload_n 0, 1) := by decide +kernel
theorem dX8_considerHandover_89 : decode cX8_considerHandover 89 = .ok (.getfield 12, 3) := by decide +kernel
theorem dX8_considerHandover_92 : decode cX8_considerHandover 92 = .ok (.getfield 174, 3) := by decide +kernel
theorem dX8_considerHandover_95 : decode cX8_considerHandover 95 = .ok (.if_icmp .ge 39, 3) := by decide +kernel
theorem dX8_considerHandover_98 : decode cX8_considerHandover 98 = .ok (.aload_n 0, 1) := by decide +kernel
theorem dX8_considerHandover_99 : decode cX8_considerHandover 99 = .ok (.getfield 12, 3) := by decide +kernel
theorem dX8_considerHandover_102 : decode cX8_considerHandover 102 = .ok (.iload_n 3, 1) := by decide +kernel
theorem dX8_considerHandover_103 : decode cX8_considerHandover 103 = .ok (.invokevirtual 57, 3) := by decide +kernel
theorem dX8_considerHandover_106 : decode cX8_considerHandover 106 = .ok (.istore 4, 2) := by decide +kernel
theorem dX8_considerHandover_108 : decode cX8_considerHandover 108 = .ok (.aload_n 1, 1) := by decide +kernel
theorem dX8_considerHandover_109 : decode cX8_considerHandover 109 = .ok (.iload 4, 2) := by decide +kernel
theorem dX8_considerHandover_111 : decode cX8_considerHandover 111 = .ok (.invokevirtual 182, 3) := by decide +kernel
theorem dX8_considerHandover_114 : decode cX8_considerHandover 114 = .ok (.ifCond .eq 14, 3) := by decide +kernel
theorem dX8_considerHandover_117 : decode cX8_considerHandover 117 = .ok (.aload_n 2, 1) := by decide +kernel
theorem dX8_considerHandover_118 : decode cX8_considerHandover 118 = .ok (.iload 4, 2) := by decide +kernel
theorem dX8_considerHandover_120 : decode cX8_considerHandover 120 = .ok (.aload_n 1, 1) := by decide +kernel
theorem dX8_considerHandover_121 : decode cX8_considerHandover 121 = .ok (.getfield 43, 3) := by decide +kernel
theorem dX8_considerHandover_124 : decode cX8_considerHandover 124 = .ok (.invokevirtual 185, 3) := by decide +kernel
theorem dX8_considerHandover_127 : decode cX8_considerHandover 127 = .ok (.return_, 1) := by decide +kernel
theorem dX8_considerHandover_128 : decode cX8_considerHandover 128 = .ok (.iinc 3 1, 3) := by decide +kernel
theorem dX8_considerHandover_131 : decode cX8_considerHandover 131 = .ok (.goto (-44), 3) := by decide +kernel
theorem dX8_considerHandover_134 : decode cX8_considerHandover 134 = .ok (.return_, 1) := by decide +kernel
theorem dX8_countCongestion_0 : decode cX8_countCongestion 0 = .ok (.iconst 0, 1) := by decide +kernel
theorem dX8_countCongestion_1 : decode cX8_countCongestion 1 = .ok (.istore_n 2, 1) := by decide +kernel
theorem dX8_countCongestion_2 : decode cX8_countCongestion 2 = .ok (.iload_n 2, 1) := by decide +kernel
theorem dX8_countCongestion_3 : decode cX8_countCongestion 3 = .ok (.aload_n 1, 1) := by decide +kernel
theorem dX8_countCongestion_4 : decode cX8_countCongestion 4 = .ok (.getfield 93, 3) := by decide +kernel
theorem dX8_countCongestion_7 : decode cX8_countCongestion 7 = .ok (.if_icmp .ge 31, 3) := by decide +kernel
theorem dX8_countCongestion_10 : decode cX8_countCongestion 10 = .ok (.aload_n 1, 1) := by decide +kernel
theorem dX8_countCongestion_11 : decode cX8_countCongestion 11 = .ok (.iload_n 2, 1) := by decide +kernel
theorem dX8_countCongestion_12 : decode cX8_countCongestion 12 = .ok (.invokevirtual 150, 3) := by decide +kernel
theorem dX8_countCongestion_15 : decode cX8_countCongestion 15 = .ok (.ifCond .ne 17, 3) := by decide +kernel
theorem dX8_countCongestion_18 : decode cX8_countCongestion 18 = .ok (.aload_n 1, 1) := by decide +kernel
theorem dX8_countCongestion_19 : decode cX8_countCongestion 19 = .ok (.iload_n 2, 1) := by decide +kernel
theorem dX8_countCongestion_20 : decode cX8_countCongestion 20 = .ok (.invokevirtual 109, 3) := by decide +kernel
theorem dX8_countCongestion_23 : decode cX8_countCongestion 23 = .ok (.dup, 1) := by decide +kernel
theorem dX8_countCongestion_24 : decode cX8_countCongestion 24 = .ok (.getfield 189, 3) := by decide +kernel
theorem dX8_countCongestion_27 : decode cX8_countCongestion 27 = .ok (.iconst 1, 1) := by decide +kernel
theorem dX8_countCongestion_28 : decode cX8_countCongestion 28 = .ok (.iadd, 1) := by decide +kernel
theorem dX8_countCongestion_29 : decode cX8_countCongestion 29 = .ok (.putfield 189, 3) := by decide +kernel
theorem dX8_countCongestion_32 : decode cX8_countCongestion 32 = .ok (.iinc 2 1, 3) := by decide +kernel
theorem dX8_countCongestion_35 : decode cX8_countCongestion 35 = .ok (.goto (-33), 3) := by decide +kernel
theorem dX8_countCongestion_38 : decode cX8_countCongestion 38 = .ok (.return_, 1) := by decide +kernel
theorem dX8_expireRequests_0 : decode cX8_expireRequests 0 = .ok (.iconst 0, 1) := by decide +kernel
theorem dX8_expireRequests_1 : decode cX8_expireRequests 1 = .ok (.istore_n 2, 1) := by decide +kernel
theorem dX8_expireRequests_2 : decode cX8_expireRequests 2 = .ok (.iload_n 2, 1) := by decide +kernel
theorem dX8_expireRequests_3 : decode cX8_expireRequests 3 = .ok (.aload_n 1, 1) := by decide +kernel
theorem dX8_expireRequests_4 : decode cX8_expireRequests 4 = .ok (.getfield 61, 3) := by decide +kernel
theorem dX8_expireRequests_7 : decode cX8_expireRequests 7 = .ok (.if_icmp .ge 45, 3) := by decide +kernel
theorem dX8_expireRequests_10 : decode cX8_expireRequests 10 = .ok (.aload_n 1, 1) := by decide +kernel
theorem dX8_expireRequests_11 : decode cX8_expireRequests 11 = .ok (.iload_n 2, 1) := by decide +kernel
theorem dX8_expireRequests_12 : decode cX8_expireRequests 12 = .ok (.invokevirtual 49, 3) := by decide +kernel
theorem dX8_expireRequests_15 : decode cX8_expireRequests 15 = .ok (.astore_n 3, 1) := by decide +kernel
theorem dX8_expireRequests_16 : decode cX8_expireRequests 16 = .ok (.aload_n 3, 1) := by decide +kernel
theorem dX8_expireRequests_17 : decode cX8_expireRequests 17 = .ok (.getfield 168, 3) := by decide +kernel
theorem dX8_expireRequests_20 : decode cX8_expireRequests 20 = .ok (.iconst (-1), 1) := by decide +kernel
theorem dX8_expireRequests_21 : decode cX8_expireRequests 21 = .ok (.if_icmp .eq 25, 3) := by decide +kernel
theorem dX8_expireRequests_24 : decode cX8_expireRequests 24 = .ok (.aload_n 3, 1) := by decide +kernel
theorem dX8_expireRequests_25 : decode cX8_expireRequests 25 = .ok (.getfield 192, 3) := by decide +kernel
theorem dX8_expireRequests_28 : decode cX8_expireRequests 28 = .ok (.aload_n 1, 1) := by decide +kernel
theorem dX8_expireRequests_29 : decode cX8_expireRequests 29 = .ok (.getfield 195, 3) := by decide +kernel
theorem dX8_expireRequests_32 : decode cX8_expireRequests 32 = .ok (.iadd, 1) := by decide +kernel
theorem dX8_expireRequests_33 : decode cX8_expireRequests 33 = .ok (.aload_n 1, 1) := by decide +kernel
theorem dX8_expireRequests_34 : decode cX8_expireRequests 34 = .ok (.getfield 43, 3) := by decide +kernel
theorem dX8_expireRequests_37 : decode cX8_expireRequests 37 = .ok (.if_icmp .gt 9, 3) := by decide +kernel
theorem dX8_expireRequests_40 : decode cX8_expireRequests 40 = .ok (.aload_n 0, 1) := by decide +kernel
theorem dX8_expireRequests_41 : decode cX8_expireRequests 41 = .ok (.aload_n 1, 1) := by decide +kernel
theorem dX8_expireRequests_42 : decode cX8_expireRequests 42 = .ok (.aload_n 3, 1) := by decide +kernel
theorem dX8_expireRequests_43 : decode cX8_expireRequests 43 = .ok (.invokevirtual 198, 3) := by decide +kernel
theorem dX8_expireRequests_46 : decode cX8_expireRequests 46 = .ok (.iinc 2 1, 3) := by decide +kernel
theorem dX8_expireRequests_49 : decode cX8_expireRequests 49 = .ok (.goto (-47), 3) := by decide +kernel
theorem dX8_expireRequests_52 : decode cX8_expireRequests 52 = .ok (.return_, 1) := by decide +kernel
theorem dX8_expire_0 : decode cX8_expire 0 = .ok (.aload_n 1, 1) := by decide +kernel
theorem dX8_expire_1 : decode cX8_expire 1 = .ok (.bipush 7, 2) := by decide +kernel
theorem dX8_expire_3 : decode cX8_expire 3 = .ok (.invokevirtual 135, 3) := by decide +kernel
theorem dX8_expire_6 : decode cX8_expire 6 = .ok (.aload_n 2, 1) := by decide +kernel
theorem dX8_expire_7 : decode cX8_expire 7 = .ok (.iconst (-1), 1) := by decide +kernel
theorem dX8_expire_8 : decode cX8_expire 8 = .ok (.putfield 168, 3) := by decide +kernel
theorem dX8_expire_11 : decode cX8_expire 11 = .ok (.aload_n 2, 1) := by decide +kernel
theorem dX8_expire_12 : decode cX8_expire 12 = .ok (.getfield 87, 3) := by decide +kernel
theorem dX8_expire_15 : decode cX8_expire 15 = .ok (.iconst 2, 1) := by decide +kernel
theorem dX8_expire_16 : decode cX8_expire 16 = .ok (.if_icmp .ne 12, 3) := by decide +kernel
theorem dX8_expire_19 : decode cX8_expire 19 = .ok (.aload_n 2, 1) := by decide +kernel
theorem dX8_expire_20 : decode cX8_expire 20 = .ok (.invokevirtual 132, 3) := by decide +kernel
theorem dX8_expire_23 : decode cX8_expire 23 = .ok (.aload_n 1, 1) := by decide +kernel
theorem dX8_expire_24 : decode cX8_expire 24 = .ok (.iconst 4, 1) := by decide +kernel
theorem dX8_expire_25 : decode cX8_expire 25 = .ok (.invokevirtual 135, 3) := by decide +kernel
theorem dX8_expire_28 : decode cX8_expire 28 = .ok (.return_, 1) := by decide +kernel
theorem dX9_init_0 : decode cX9_init 0 = .ok (.aload_n 0, 1) := by decide +kernel
theorem dX9_init_1 : decode cX9_init 1 = .ok (.invokespecial 3, 3) := by decide +kernel
theorem dX9_init_4 : decode cX9_init 4 = .ok (.aload_n 0, 1) := by decide +kernel
theorem dX9_init_5 : decode cX9_init 5 = .ok (.bipush 64, 2) := by decide +kernel
theorem dX9_init_7 : decode cX9_init 7 = .ok (.newarray .int, 2) := by decide +kernel
theorem dX9_init_9 : decode cX9_init 9 = .ok (.putfield 9, 3) := by decide +kernel
theorem dX9_init_12 : decode cX9_init 12 = .ok (.return_, 1) := by decide +kernel
theorem dX10_init_0 : decode cX10_init 0 = .ok (.aload_n 0, 1) := by decide +kernel
theorem dX10_init_1 : decode cX10_init 1 = .ok (.invokespecial 3, 3) := by decide +kernel
theorem dX10_init_4 : decode cX10_init 4 = .ok (.aload_n 0, 1) := by decide +kernel
theorem dX10_init_5 : decode cX10_init 5 = .ok (.iconst (-1), 1) := by decide +kernel
theorem dX10_init_6 : decode cX10_init 6 = .ok (.putfield 9, 3) := by decide +kernel
theorem dX10_init_9 : decode cX10_init 9 = .ok (.aload_n 0, 1) := by decide +kernel
theorem dX10_init_10 : decode cX10_init 10 = .ok (.sipush 700, 3) := by decide +kernel
theorem dX10_init_13 : decode cX10_init 13 = .ok (.newarray .int, 2) := by decide +kernel
theorem dX10_init_15 : decode cX10_init 15 = .ok (.putfield 15, 3) := by decide +kernel
theorem dX10_init_18 : decode cX10_init 18 = .ok (.return_, 1) := by decide +kernel
theorem dX10_append_0 : decode cX10_append 0 = .ok (.bipush 24, 2) := by decide +kernel
theorem dX10_append_2 : decode cX10_append 2 = .ok (.istore_n 2, 1) := by decide +kernel
theorem dX10_append_3 : decode cX10_append 3 = .ok (.iload_n 2, 1) := by decide +kernel
theorem dX10_append_4 : decode cX10_append 4 = .ok (.ifCond .lt 54, 3) := by decide +kernel
theorem dX10_append_7 : decode cX10_append 7 = .ok (.aload_n 0, 1) := by decide +kernel
theorem dX10_append_8 : decode cX10_append 8 = .ok (.getfield 19, 3) := by decide +kernel
theorem dX10_append_11 : decode cX10_append 11 = .ok (.ifCond .lt 41, 3) := by decide +kernel
theorem dX10_append_14 : decode cX10_append 14 = .ok (.aload_n 0, 1) := by decide +kernel
theorem dX10_append_15 : decode cX10_append 15 = .ok (.getfield 19, 3) := by decide +kernel
theorem dX10_append_18 : decode cX10_append 18 = .ok (.aload_n 0, 1) := by decide +kernel
theorem dX10_append_19 : decode cX10_append 19 = .ok (.getfield 15, 3) := by decide +kernel
theorem dX10_append_22 : decode cX10_append 22 = .ok (.arraylength, 1) := by decide +kernel
theorem dX10_append_23 : decode cX10_append 23 = .ok (.if_icmp .ge 29, 3) := by decide +kernel
theorem dX10_append_26 : decode cX10_append 26 = .ok (.aload_n 0, 1) := by decide +kernel
theorem dX10_append_27 : decode cX10_append 27 = .ok (.getfield 15, 3) := by decide +kernel
theorem dX10_append_30 : decode cX10_append 30 = .ok (.aload_n 0, 1) := by decide +kernel
theorem dX10_append_31 : decode cX10_append 31 = .ok (.getfield 19, 3) := by decide +kernel
theorem dX10_append_34 : decode cX10_append 34 = .ok (.iload_n 1, 1) := by decide +kernel
theorem dX10_append_35 : decode cX10_append 35 = .ok (.iload_n 2, 1) := by decide +kernel
theorem dX10_append_36 : decode cX10_append 36 = .ok (.iushr, 1) := by decide +kernel
theorem dX10_append_37 : decode cX10_append 37 = .ok (.sipush 255, 3) := by decide +kernel
theorem dX10_append_40 : decode cX10_append 40 = .ok (.iand, 1) := by decide +kernel
theorem dX10_append_41 : decode cX10_append 41 = .ok (.iastore, 1) := by decide +kernel
theorem dX10_append_42 : decode cX10_append 42 = .ok (.aload_n 0, 1) := by decide +kernel
theorem dX10_append_43 : decode cX10_append 43 = .ok (.dup, 1) := by decide +kernel
theorem dX10_append_44 : decode cX10_append 44 = .ok (.getfield 19, 3) := by decide +kernel
theorem dX10_append_47 : decode cX10_append 47 = .ok (.iconst 1, 1) := by decide +kernel
theorem dX10_append_48 : decode cX10_append 48 = .ok (.iadd, 1) := by decide +kernel
theorem dX10_append_49 : decode cX10_append 49 = .ok (.putfield 19, 3) := by decide +kernel
theorem dX10_append_52 : decode cX10_append 52 = .ok (.iinc 2 (-8), 3) := by decide +kernel
theorem dX10_append_55 : decode cX10_append 55 = .ok (.goto (-52), 3) := by decide +kernel
theorem dX10_append_58 : decode cX10_append 58 = .ok (.return_, 1) := by decide +kernel
theorem dX10_open_0 : decode cX10_open 0 = .ok (.aload_n 0, 1) := by decide +kernel
theorem dX10_open_1 : decode cX10_open 1 = .ok (.iload_n 1, 1) := by decide +kernel
theorem dX10_open_2 : decode cX10_open 2 = .ok (.putfield 22, 3) := by decide +kernel
theorem dX10_open_5 : decode cX10_open 5 = .ok (.aload_n 0, 1) := by decide +kernel
theorem dX10_open_6 : decode cX10_open 6 = .ok (.iconst 0, 1) := by decide +kernel
theorem dX10_open_7 : decode cX10_open 7 = .ok (.putfield 25, 3) := by decide +kernel
theorem dX10_open_10 : decode cX10_open 10 = .ok (.aload_n 0, 1) := by decide +kernel
theorem dX10_open_11 : decode cX10_open 11 = .ok (.iconst 0, 1) := by decide +kernel
theorem dX10_open_12 : decode cX10_open 12 = .ok (.putfield 28, 3) := by decide +kernel
theorem dX10_open_15 : decode cX10_open 15 = .ok (.aload_n 0, 1) := by decide +kernel
theorem dX10_open_16 : decode cX10_open 16 = .ok (.invokevirtual 31, 3) := by decide +kernel
theorem dX10_open_19 : decode cX10_open 19 = .ok (.return_, 1) := by decide +kernel
theorem dX10_close_0 : decode cX10_close 0 = .ok (.aload_n 0, 1) := by decide +kernel
theorem dX10_close_1 : decode cX10_close 1 = .ok (.aload_n 0, 1) := by decide +kernel
theorem dX10_close_2 : decode cX10_close 2 = .ok (.getfield 28, 3) := by decide +kernel
theorem dX10_close_5 : decode cX10_close 5 = .ok (.ifCond .eq 10, 3) := by decide +kernel
theorem dX10_close_8 : decode cX10_close 8 = .ok (.aload_n 0, 1) := by decide +kernel
theorem dX10_close_9 : decode cX10_close 9 = .ok (.getfield 34, 3) := by decide +kernel
theorem dX10_close_12 : decode cX10_close 12 = .ok (.goto 4, 3) := by decide +kernel
theorem dX10_close_15 : decode cX10_close 15 = .ok (.iconst (-1), 1) := by decide +kernel
theorem dX10_close_16 : decode cX10_close 16 = .ok (.putfield 9, 3) := by decide +kernel
theorem dX10_close_19 : decode cX10_close 19 = .ok (.aload_n 0, 1) := by decide +kernel
theorem dX10_close_20 : decode cX10_close 20 = .ok (.iconst 0, 1) := by decide +kernel
theorem dX10_close_21 : decode cX10_close 21 = .ok (.putfield 19, 3) := by decide +kernel
theorem dX10_close_24 : decode cX10_close 24 = .ok (.return_, 1) := by decide +kernel
theorem dX10_advance_0 : decode cX10_advance 0 = .ok (.aload_n 0, 1) := by decide +kernel
theorem dX10_advance_1 : decode cX10_advance 1 = .ok (.getfield 28, 3) := by decide +kernel
theorem dX10_advance_4 : decode cX10_advance 4 = .ok (.ifCond .eq 4, 3) := by decide +kernel
theorem dX10_advance_7 : decode cX10_advance 7 = .ok (.return_, 1) := by decide +kernel
theorem dX10_advance_8 : decode cX10_advance 8 = .ok (.aload_n 0, 1) := by decide +kernel
theorem dX10_advance_9 : decode cX10_advance 9 = .ok (.aload_n 0, 1) := by decide +kernel
theorem dX10_advance_10 : decode cX10_advance 10 = .ok (.getfield 25, 3) := by decide +kernel
theorem dX10_advance_13 : decode cX10_advance 13 = .ok (.putfield 34, 3) := by decide +kernel
theorem dX10_advance_16 : decode cX10_advance 16 = .ok (.aload_n 0, 1) := by decide +kernel
theorem dX10_advance_17 : decode cX10_advance 17 = .ok (.getfield 34, 3) := by decide +kernel
theorem dX10_advance_20 : decode cX10_advance 20 = .ok (.aload_n 0, 1) := by decide +kernel
theorem dX10_advance_21 : decode cX10_advance 21 = .ok (.getfield 22, 3) := by decide +kernel
theorem dX10_advance_24 : decode cX10_advance 24 = .ok (.if_icmp .ge 31, 3) := by decide +kernel
theorem dX10_advance_27 : decode cX10_advance 27 = .ok (.aload_n 0, 1) := by decide +kernel
theorem dX10_advance_28 : decode cX10_advance 28 = .ok (.aload_n 0, 1) := by decide +kernel
theorem dX10_advance_29 : decode cX10_advance 29 = .ok (.getfield 34, 3) := by decide +kernel
theorem dX10_advance_32 : decode cX10_advance 32 = .ok (.invokevirtual 37, 3) := by decide +kernel
theorem dX10_advance_35 : decode cX10_advance 35 = .ok (.invokestatic 41, 3) := by decide +kernel
theorem dX10_advance_38 : decode cX10_advance 38 = .ok (.iconst 3, 1) := by decide +kernel
theorem dX10_advance_39 : decode cX10_advance 39 = .ok (.if_icmp .ne 16, 3) := by decide +kernel
theorem dX10_advance_42 : decode cX10_advance 42 = .ok (.aload_n 0, 1) := by decide +kernel
theorem dX10_advance_43 : decode cX10_advance 43 = .ok (.dup, 1) := by decide +kernel
theorem dX10_advance_44 : decode cX10_advance 44 = .ok (.getfield 34, 3) := by decide +kernel
theorem dX10_advance_47 : decode cX10_advance 47 = .ok (.iconst 1, 1) := by decide +kernel
theorem dX10_advance_48 : decode cX10_advance 48 = .ok (.iadd, 1) := by decide +kernel
theorem dX10_advance_49 : decode cX10_advance 49 = .ok (.putfield 34, 3) := by decide +kernel
theorem dX10_advance_52 : decode cX10_advance 52 = .ok (.goto (-36), 3) := by decide +kernel
theorem dX10_advance_55 : decode cX10_advance 55 = .ok (.aload_n 0, 1) := by decide +kernel
theorem dX10_advance_56 : decode cX10_advance 56 = .ok (.aload_n 0, 1) := by decide +kernel
theorem dX10_advance_57 : decode cX10_advance 57 = .ok (.getfield 34, 3) := by decide +kernel
theorem dX10_advance_60 : decode cX10_advance 60 = .ok (.iconst 1, 1) := by decide +kernel
theorem dX10_advance_61 : decode cX10_advance 61 = .ok (.iadd, 1) := by decide +kernel
theorem dX10_advance_62 : decode cX10_advance 62 = .ok (.aload_n 0, 1) := by decide +kernel
theorem dX10_advance_63 : decode cX10_advance 63 = .ok (.getfield 22, 3) := by decide +kernel
theorem dX10_advance_66 : decode cX10_advance 66 = .ok (.invokestatic 44, 3) := by decide +kernel
theorem dX10_advance_69 : decode cX10_advance 69 = .ok (.putfield 25, 3) := by decide +kernel
theorem dX10_advance_72 : decode cX10_advance 72 = .ok (.aload_n 0, 1) := by decide +kernel
theorem dX10_advance_73 : decode cX10_advance 73 = .ok (.aload_n 0, 1) := by decide +kernel
theorem dX10_advance_74 : decode cX10_advance 74 = .ok (.aload_n 0, 1) := by decide +kernel
theorem dX10_advance_75 : decode cX10_advance 75 = .ok (.getfield 34, 3) := by decide +kernel
theorem dX10_advance_78 : decode cX10_advance 78 = .ok (.invokevirtual 37, 3) := by decide +kernel
theorem dX10_advance_81 : decode cX10_advance 81 = .ok (.invokestatic 41, 3) := by decide +kernel
theorem dX10_advance_84 : decode cX10_advance 84 = .ok (.putfield 50, 3) := by decide +kernel
theorem dX10_advance_87 : decode cX10_advance 87 = .ok (.aload_n 0, 1) := by decide +kernel
theorem dX10_advance_88 : decode cX10_advance 88 = .ok (.getfield 50, 3) := by decide +kernel
theorem dX10_advance_91 : decode cX10_advance 91 = .ok (.iconst 1, 1) := by decide +kernel
theorem dX10_advance_92 : decode cX10_advance 92 = .ok (.if_icmp .eq 11, 3) := by decide +kernel
theorem dX10_advance_95 : decode cX10_advance 95 = .ok (.aload_n 0, 1) := by decide +kernel
theorem dX10_advance_96 : decode cX10_advance 96 = .ok (.getfield 50, 3) := by decide +kernel
theorem dX10_advance_99 : decode cX10_advance 99 = .ok (.iconst 2, 1) := by decide +kernel
theorem dX10_advance_100 : decode cX10_advance 100 = .ok (.if_icmp .ne 45, 3) := by decide +kernel
theorem dX10_advance_103 : decode cX10_advance 103 = .ok (.aload_n 0, 1) := by decide +kernel
theorem dX10_advance_104 : decode cX10_advance 104 = .ok (.getfield 25, 3) := by decide +kernel
theorem dX10_advance_107 : decode cX10_advance 107 = .ok (.aload_n 0, 1) := by decide +kernel
theorem dX10_advance_108 : decode cX10_advance 108 = .ok (.getfield 22, 3) := by decide +kernel
theorem dX10_advance_111 : decode cX10_advance 111 = .ok (.if_icmp .ge 34, 3) := by decide +kernel
theorem dX10_advance_114 : decode cX10_advance 114 = .ok (.aload_n 0, 1) := by decide +kernel
theorem dX10_advance_115 : decode cX10_advance 115 = .ok (.aload_n 0, 1) := by decide +kernel
theorem dX10_advance_116 : decode cX10_advance 116 = .ok (.getfield 25, 3) := by decide +kernel
theorem dX10_advance_119 : decode cX10_advance 119 = .ok (.invokevirtual 37, 3) := by decide +kernel
theorem dX10_advance_122 : decode cX10_advance 122 = .ok (.invokestatic 41, 3) := by decide +kernel
theorem dX10_advance_125 : decode cX10_advance 125 = .ok (.aload_n 0, 1) := by decide +kernel
theorem dX10_advance_126 : decode cX10_advance 126 = .ok (.getfield 50, 3) := by decide +kernel
theorem dX10_advance_129 : decode cX10_advance 129 = .ok (.if_icmp .ne 16, 3) := by decide +kernel
theorem dX10_advance_132 : decode cX10_advance 132 = .ok (.aload_n 0, 1) := by decide +kernel
theorem dX10_advance_133 : decode cX10_advance 133 = .ok (.dup, 1) := by decide +kernel
theorem dX10_advance_134 : decode cX10_advance 134 = .ok (.getfield 25, 3) := by decide +kernel
theorem dX10_advance_137 : decode cX10_advance 137 = .ok (.iconst 1, 1) := by decide +kernel
theorem dX10_advance_138 : decode cX10_advance 138 = .ok (.iadd, 1) := by decide +kernel
theorem dX10_advance_139 : decode cX10_advance 139 = .ok (.putfield 25, 3) := by decide +kernel
theorem dX10_advance_142 : decode cX10_advance 142 = .ok (.goto (-39), 3) := by decide +kernel
theorem dX10_advance_145 : decode cX10_advance 145 = .ok (.return_, 1) := by decide +kernel
theorem dX10_byteAt_0 : decode cX10_byteAt 0 = .ok (.iload_n 1, 1) := by decide +kernel
theorem dX10_byteAt_1 : decode cX10_byteAt 1 = .ok (.ifCond .lt 29, 3) := by decide +kernel
theorem dX10_byteAt_4 : decode cX10_byteAt 4 = .ok (.iload_n 1, 1) := by decide +kernel
theorem dX10_byteAt_5 : decode cX10_byteAt 5 = .ok (.aload_n 0, 1) := by decide +kernel
theorem dX10_byteAt_6 : decode cX10_byteAt 6 = .ok (.getfield 22, 3) := by decide +kernel
theorem dX10_byteAt_9 : decode cX10_byteAt 9 = .ok (.if_icmp .ge 21, 3) := by decide +kernel
theorem dX10_byteAt_12 : decode cX10_byteAt 12 = .ok (.iload_n 1, 1) := by decide +kernel
theorem dX10_byteAt_13 : decode cX10_byteAt 13 = .ok (.aload_n 0, 1) := by decide +kernel
theorem dX10_byteAt_14 : decode cX10_byteAt 14 = .ok (.getfield 15, 3) := by decide +kernel
theorem dX10_byteAt_17 : decode cX10_byteAt 17 = .ok (.arraylength, 1) := by decide +kernel
theorem dX10_byteAt_18 : decode cX10_byteAt 18 = .ok (.if_icmp .ge 12, 3) := by decide +kernel
theorem dX10_byteAt_21 : decode cX10_byteAt 21 = .ok (.aload_n 0, 1) := by decide +kernel
theorem dX10_byteAt_22 : decode cX10_byteAt 22 = .ok (.getfield 15, 3) := by decide +kernel
theorem dX10_byteAt_25 : decode cX10_byteAt 25 = .ok (.iload_n 1, 1) := by decide +kernel
theorem dX10_byteAt_26 : decode cX10_byteAt 26 = .ok (.iaload, 1) := by decide +kernel
theorem dX10_byteAt_27 : decode cX10_byteAt 27 = .ok (.goto 4, 3) := by decide +kernel
theorem dX10_byteAt_30 : decode cX10_byteAt 30 = .ok (.iconst (-1), 1) := by decide +kernel
theorem dX10_byteAt_31 : decode cX10_byteAt 31 = .ok (.ireturn, 1) := by decide +kernel
theorem dX10_kindOf_0 : decode cX10_kindOf 0 = .ok (.iload_n 0, 1) := by decide +kernel
theorem dX10_kindOf_1 : decode cX10_kindOf 1 = .ok (.iconst (-1), 1) := by decide +kernel
theorem dX10_kindOf_2 : decode cX10_kindOf 2 = .ok (.if_icmp .ne 5, 3) := by decide +kernel
theorem dX10_kindOf_5 : decode cX10_kindOf 5 = .ok (.iconst 0, 1) := by decide +kernel
theorem dX10_kindOf_6 : decode cX10_kindOf 6 = .ok (.ireturn, 1) := by decide +kernel
theorem dX10_kindOf_7 : decode cX10_kindOf 7 = .ok (.iload_n 0, 1) := by decide +kernel
theorem dX10_kindOf_8 : decode cX10_kindOf 8 = .ok (.bipush 97, 2) := by decide +kernel
theorem dX10_kindOf_10 : decode cX10_kindOf 10 = .ok (.if_icmp .lt 11, 3) := by decide +kernel
theorem dX10_kindOf_13 : decode cX10_kindOf 13 = .ok (.iload_n 0, 1) := by decide +kernel
theorem dX10_kindOf_14 : decode cX10_kindOf 14 = .ok (.bipush 122, 2) := by decide +kernel
theorem dX10_kindOf_16 : decode cX10_kindOf 16 = .ok (.if_icmp .gt 5, 3) := by decide +kernel
theorem dX10_kindOf_19 : decode cX10_kindOf 19 = .ok (.iconst 1, 1) := by decide +kernel
theorem dX10_kindOf_20 : decode cX10_kindOf 20 = .ok (.ireturn, 1) := by decide +kernel
theorem dX10_kindOf_21 : decode cX10_kindOf 21 = .ok (.iload_n 0, 1) := by decide +kernel
theorem dX10_kindOf_22 : decode cX10_kindOf 22 = .ok (.bipush 48, 2) := by decide +kernel
theorem dX10_kindOf_24 : decode cX10_kindOf 24 = .ok (.if_icmp .lt 11, 3) := by decide +kernel
theorem dX10_kindOf_27 : decode cX10_kindOf 27 = .ok (.iload_n 0, 1) := by decide +kernel
theorem dX10_kindOf_28 : decode cX10_kindOf 28 = .ok (.bipush 57, 2) := by decide +kernel
theorem dX10_kindOf_30 : decode cX10_kindOf 30 = .ok (.if_icmp .gt 5, 3) := by decide +kernel
theorem dX10_kindOf_33 : decode cX10_kindOf 33 = .ok (.iconst 2, 1) := by decide +kernel
theorem dX10_kindOf_34 : decode cX10_kindOf 34 = .ok (.ireturn, 1) := by decide +kernel
theorem dX10_kindOf_35 : decode cX10_kindOf 35 = .ok (.iload_n 0, 1) := by decide +kernel
theorem dX10_kindOf_36 : decode cX10_kindOf 36 = .ok (.bipush 32, 2) := by decide +kernel
theorem dX10_kindOf_38 : decode cX10_kindOf 38 = .ok (.if_icmp .eq 9, 3) := by decide +kernel
theorem dX10_kindOf_41 : decode cX10_kindOf 41 = .ok (.iload_n 0, 1) := by decide +kernel
theorem dX10_kindOf_42 : decode cX10_kindOf 42 = .ok (.bipush 10, 2) := by decide +kernel
theorem dX10_kindOf_44 : decode cX10_kindOf 44 = .ok (.if_icmp .ne 7, 3) := by decide +kernel
theorem dX10_kindOf_47 : decode cX10_kindOf 47 = .ok (.iconst 3, 1) := by decide +kernel
theorem dX10_kindOf_48 : decode cX10_kindOf 48 = .ok (.goto 4, 3) := by decide +kernel
theorem dX10_kindOf_51 : decode cX10_kindOf 51 = .ok (.iconst 4, 1) := by decide +kernel
theorem dX10_kindOf_52 : decode cX10_kindOf 52 = .ok (.ireturn, 1) := by decide +kernel
theorem dX10_goesOn_0 : decode cX10_goesOn 0 = .ok (.aload_n 0, 1) := by decide +kernel
theorem dX10_goesOn_1 : decode cX10_goesOn 1 = .ok (.getfield 28, 3) := by decide +kernel
theorem dX10_goesOn_4 : decode cX10_goesOn 4 = .ok (.ifCond .ne 18, 3) := by decide +kernel
theorem dX10_goesOn_7 : decode cX10_goesOn 7 = .ok (.aload_n 0, 1) := by decide +kernel
theorem dX10_goesOn_8 : decode cX10_goesOn 8 = .ok (.getfield 34, 3) := by decide +kernel
theorem dX10_goesOn_11 : decode cX10_goesOn 11 = .ok (.aload_n 0, 1) := by decide +kernel
theorem dX10_goesOn_12 : decode cX10_goesOn 12 = .ok (.getfield 22, 3) := by decide +kernel
theorem dX10_goesOn_15 : decode cX10_goesOn 15 = .ok (.if_icmp .ge 7, 3) := by decide +kernel
theorem dX10_goesOn_18 : decode cX10_goesOn 18 = .ok (.iconst 1, 1) := by decide +kernel
theorem dX10_goesOn_19 : decode cX10_goesOn 19 = .ok (.goto 4, 3) := by decide +kernel
theorem dX10_goesOn_22 : decode cX10_goesOn 22 = .ok (.iconst 0, 1) := by decide +kernel
theorem dX10_goesOn_23 : decode cX10_goesOn 23 = .ok (.ireturn, 1) := by decide +kernel
theorem dX10_is_0 : decode cX10_is 0 = .ok (.aload_n 0, 1) := by decide +kernel
theorem dX10_is_1 : decode cX10_is 1 = .ok (.getfield 28, 3) := by decide +kernel
theorem dX10_is_4 : decode cX10_is 4 = .ok (.ifCond .ne 19, 3) := by decide +kernel
theorem dX10_is_7 : decode cX10_is 7 = .ok (.aload_n 0, 1) := by decide +kernel
theorem dX10_is_8 : decode cX10_is 8 = .ok (.getfield 25, 3) := by decide +kernel
theorem dX10_is_11 : decode cX10_is 11 = .ok (.aload_n 0, 1) := by decide +kernel
theorem dX10_is_12 : decode cX10_is 12 = .ok (.getfield 34, 3) := by decide +kernel
theorem dX10_is_15 : decode cX10_is 15 = .ok (.isub, 1) := by decide +kernel
theorem dX10_is_16 : decode cX10_is 16 = .ok (.aload_n 1, 1) := by decide +kernel
theorem dX10_is_17 : decode cX10_is 17 = .ok (.invokevirtual 53, 3) := by decide +kernel
theorem dX10_is_20 : decode cX10_is 20 = .ok (.if_icmp .eq 5, 3) := by decide +kernel
theorem dX10_is_23 : decode cX10_is 23 = .ok (.iconst 0, 1) := by decide +kernel
theorem dX10_is_24 : decode cX10_is 24 = .ok (.ireturn, 1) := by decide +kernel
theorem dX10_is_25 : decode cX10_is 25 = .ok (.iconst 0, 1) := by decide +kernel
theorem dX10_is_26 : decode cX10_is 26 = .ok (.istore_n 2, 1) := by decide +kernel
theorem dX10_is_27 : decode cX10_is 27 = .ok (.iload_n 2, 1) := by decide +kernel
theorem dX10_is_28 : decode cX10_is 28 = .ok (.aload_n 1, 1) := by decide +kernel
theorem dX10_is_29 : decode cX10_is 29 = .ok (.invokevirtual 53, 3) := by decide +kernel
theorem dX10_is_32 : decode cX10_is 32 = .ok (.if_icmp .ge 29, 3) := by decide +kernel
theorem dX10_is_35 : decode cX10_is 35 = .ok (.aload_n 0, 1) := by decide +kernel
theorem dX10_is_36 : decode cX10_is 36 = .ok (.aload_n 0, 1) := by decide +kernel
theorem dX10_is_37 : decode cX10_is 37 = .ok (.getfield 34, 3) := by decide +kernel
theorem dX10_is_40 : decode cX10_is 40 = .ok (.iload_n 2, 1) := by decide +kernel
theorem dX10_is_41 : decode cX10_is 41 = .ok (.iadd, 1) := by decide +kernel
theorem dX10_is_42 : decode cX10_is 42 = .ok (.invokevirtual 37, 3) := by decide +kernel
theorem dX10_is_45 : decode cX10_is 45 = .ok (.aload_n 1, 1) := by decide +kernel
theorem dX10_is_46 : decode cX10_is 46 = .ok (.iload_n 2, 1) := by decide +kernel
theorem dX10_is_47 : decode cX10_is 47 = .ok (.invokevirtual 59, 3) := by decide +kernel
theorem dX10_is_50 : decode cX10_is 50 = .ok (.if_icmp .eq 5, 3) := by decide +kernel
theorem dX10_is_53 : decode cX10_is 53 = .ok (.iconst 0, 1) := by decide +kernel
theorem dX10_is_54 : decode cX10_is 54 = .ok (.ireturn, 1) := by decide +kernel
theorem dX10_is_55 : decode cX10_is 55 = .ok (.iinc 2 1, 3) := by decide +kernel
theorem dX10_is_58 : decode cX10_is 58 = .ok (.goto (-31), 3) := by decide +kernel
theorem dX10_is_61 : decode cX10_is 61 = .ok (.iconst 1, 1) := by decide +kernel
theorem dX10_is_62 : decode cX10_is 62 = .ok (.ireturn, 1) := by decide +kernel
theorem dX10_fail_0 : decode cX10_fail 0 = .ok (.aload_n 0, 1) := by decide +kernel
theorem dX10_fail_1 : decode cX10_fail 1 = .ok (.getfield 28, 3) := by decide +kernel
theorem dX10_fail_4 : decode cX10_fail 4 = .ok (.ifCond .ne 8, 3) := by decide +kernel
theorem dX10_fail_7 : decode cX10_fail 7 = .ok (.aload_n 0, 1) := by decide +kernel
theorem dX10_fail_8 : decode cX10_fail 8 = .ok (.iload_n 1, 1) := by decide +kernel
theorem dX10_fail_9 : decode cX10_fail 9 = .ok (.putfield 28, 3) := by decide +kernel
theorem dX10_fail_12 : decode cX10_fail 12 = .ok (.return_, 1) := by decide +kernel
theorem dX10_expect_0 : decode cX10_expect 0 = .ok (.aload_n 0, 1) := by decide +kernel
theorem dX10_expect_1 : decode cX10_expect 1 = .ok (.aload_n 1, 1) := by decide +kernel
theorem dX10_expect_2 : decode cX10_expect 2 = .ok (.invokevirtual 63, 3) := by decide +kernel
theorem dX10_expect_5 : decode cX10_expect 5 = .ok (.ifCond .eq 10, 3) := by decide +kernel
theorem dX10_expect_8 : decode cX10_expect 8 = .ok (.aload_n 0, 1) := by decide +kernel
theorem dX10_expect_9 : decode cX10_expect 9 = .ok (.invokevirtual 31, 3) := by decide +kernel
theorem dX10_expect_12 : decode cX10_expect 12 = .ok (.goto 8, 3) := by decide +kernel
theorem dX10_expect_15 : decode cX10_expect 15 = .ok (.aload_n 0, 1) := by decide +kernel
theorem dX10_expect_16 : decode cX10_expect 16 = .ok (.iconst 1, 1) := by decide +kernel
theorem dX10_expect_17 : decode cX10_expect 17 = .ok (.invokevirtual 67, 3) := by decide +kernel
theorem dX10_expect_20 : decode cX10_expect 20 = .ok (.return_, 1) := by decide +kernel
theorem dX10_takeNumber_0 : decode cX10_takeNumber 0 = .ok (.aload_n 0, 1) := by decide +kernel
theorem dX10_takeNumber_1 : decode cX10_takeNumber 1 = .ok (.iload_n 1, 1) := by decide +kernel
theorem dX10_takeNumber_2 : decode cX10_takeNumber 2 = .ok (.iload_n 2, 1) := by decide +kernel
theorem dX10_takeNumber_3 : decode cX10_takeNumber 3 = .ok (.invokevirtual 71, 3) := by decide +kernel
theorem dX10_takeNumber_6 : decode cX10_takeNumber 6 = .ok (.istore_n 3, 1) := by decide +kernel
theorem dX10_takeNumber_7 : decode cX10_takeNumber 7 = .ok (.aload_n 0, 1) := by decide +kernel
theorem dX10_takeNumber_8 : decode cX10_takeNumber 8 = .ok (.invokevirtual 31, 3) := by decide +kernel
theorem dX10_takeNumber_11 : decode cX10_takeNumber 11 = .ok (.iload_n 3, 1) := by decide +kernel
theorem dX10_takeNumber_12 : decode cX10_takeNumber 12 = .ok (.ireturn, 1) := by decide +kernel
theorem dX10_seeNumber_0 : decode cX10_seeNumber 0 = .ok (.aload_n 0, 1) := by decide +kernel
theorem dX10_seeNumber_1 : decode cX10_seeNumber 1 = .ok (.getfield 50, 3) := by decide +kernel
theorem dX10_seeNumber_4 : decode cX10_seeNumber 4 = .ok (.iconst 2, 1) := by decide +kernel
theorem dX10_seeNumber_5 : decode cX10_seeNumber 5 = .ok (.if_icmp .eq 8, 3) := by decide +kernel
theorem dX10_seeNumber_8 : decode cX10_seeNumber 8 = .ok (.aload_n 0, 1) := by decide +kernel
theorem dX10_seeNumber_9 : decode cX10_seeNumber 9 = .ok (.iconst 1, 1) := by decide +kernel
theorem dX10_seeNumber_10 : decode cX10_seeNumber 10 = .ok (.invokevirtual 67, 3) := by decide +kernel
theorem dX10_seeNumber_13 : decode cX10_seeNumber 13 = .ok (.aload_n 0, 1) := by decide +kernel
theorem dX10_seeNumber_14 : decode cX10_seeNumber 14 = .ok (.getfield 28, 3) := by decide +kernel
theorem dX10_seeNumber_17 : decode cX10_seeNumber 17 = .ok (.ifCond .eq 5, 3) := by decide +kernel
theorem dX10_seeNumber_20 : decode cX10_seeNumber 20 = .ok (.iload_n 1, 1) := by decide +kernel
theorem dX10_seeNumber_21 : decode cX10_seeNumber 21 = .ok (.ireturn, 1) := by decide +kernel
theorem dX10_seeNumber_22 : decode cX10_seeNumber 22 = .ok (.iconst 0, 1) := by decide +kernel
theorem dX10_seeNumber_23 : decode cX10_seeNumber 23 = .ok (.istore_n 3, 1) := by decide +kernel
theorem dX10_seeNumber_24 : decode cX10_seeNumber 24 = .ok (.aload_n 0, 1) := by decide +kernel
theorem dX10_seeNumber_25 : decode cX10_seeNumber 25 = .ok (.getfield 34, 3) := by decide +kernel
theorem dX10_seeNumber_28 : decode cX10_seeNumber 28 = .ok (.istore 4, 2) := by decide +kernel
theorem dX10_seeNumber_30 : decode cX10_seeNumber 30 = .ok (.iload 4, 2) := by decide +kernel
theorem dX10_seeNumber_32 : decode cX10_seeNumber 32 = .ok (.aload_n 0, 1) := by decide +kernel
theorem dX10_seeNumber_33 : decode cX10_seeNumber 33 = .ok (.getfield 25, 3) := by decide +kernel
theorem dX10_seeNumber_36 : decode cX10_seeNumber 36 = .ok (.if_icmp .ge 30, 3) := by decide +kernel
theorem dX10_seeNumber_39 : decode cX10_seeNumber 39 = .ok (.iload_n 3, 1) := by decide +kernel
theorem dX10_seeNumber_40 : decode cX10_seeNumber 40 = .ok (.ldc 74, 2) := by decide +kernel
theorem dX10_seeNumber_42 : decode cX10_seeNumber 42 = .ok (.if_icmp .ge 18, 3) := by decide +kernel
theorem dX10_seeNumber_45 : decode cX10_seeNumber 45 = .ok (.iload_n 3, 1) := by decide +kernel
theorem dX10_seeNumber_46 : decode cX10_seeNumber 46 = .ok (.bipush 10, 2) := by decide +kernel
theorem dX10_seeNumber_48 : decode cX10_seeNumber 48 = .ok (.imul, 1) := by decide +kernel
theorem dX10_seeNumber_49 : decode cX10_seeNumber 49 = .ok (.aload_n 0, 1) := by decide +kernel
theorem dX10_seeNumber_50 : decode cX10_seeNumber 50 = .ok (.iload 4, 2) := by decide +kernel
theorem dX10_seeNumber_52 : decode cX10_seeNumber 52 = .ok (.invokevirtual 37, 3) := by decide +kernel
theorem dX10_seeNumber_55 : decode cX10_seeNumber 55 = .ok (.bipush 48, 2) := by decide +kernel
theorem dX10_seeNumber_57 : decode cX10_seeNumber 57 = .ok (.isub, 1) := by decide +kernel
theorem dX10_seeNumber_58 : decode cX10_seeNumber 58 = .ok (.iadd, 1) := by decide +kernel
theorem dX10_seeNumber_59 : decode cX10_seeNumber 59 = .ok (.istore_n 3, 1) := by decide +kernel
theorem dX10_seeNumber_60 : decode cX10_seeNumber 60 = .ok (.iinc 4 1, 3) := by decide +kernel
theorem dX10_seeNumber_63 : decode cX10_seeNumber 63 = .ok (.goto (-33), 3) := by decide +kernel
theorem dX10_seeNumber_66 : decode cX10_seeNumber 66 = .ok (.iload_n 3, 1) := by decide +kernel
theorem dX10_seeNumber_67 : decode cX10_seeNumber 67 = .ok (.iload_n 1, 1) := by decide +kernel
theorem dX10_seeNumber_68 : decode cX10_seeNumber 68 = .ok (.if_icmp .lt 8, 3) := by decide +kernel
theorem dX10_seeNumber_71 : decode cX10_seeNumber 71 = .ok (.iload_n 3, 1) := by decide +kernel
theorem dX10_seeNumber_72 : decode cX10_seeNumber 72 = .ok (.iload_n 2, 1) := by decide +kernel
theorem dX10_seeNumber_73 : decode cX10_seeNumber 73 = .ok (.if_icmp .le 10, 3) := by decide +kernel
theorem dX10_seeNumber_76 : decode cX10_seeNumber 76 = .ok (.aload_n 0, 1) := by decide +kernel
theorem dX10_seeNumber_77 : decode cX10_seeNumber 77 = .ok (.iconst 2, 1) := by decide +kernel
theorem dX10_seeNumber_78 : decode cX10_seeNumber 78 = .ok (.invokevirtual 67, 3) := by decide +kernel
theorem dX10_seeNumber_81 : decode cX10_seeNumber 81 = .ok (.iload_n 1, 1) := by decide +kernel
theorem dX10_seeNumber_82 : decode cX10_seeNumber 82 = .ok (.ireturn, 1) := by decide +kernel
theorem dX10_seeNumber_83 : decode cX10_seeNumber 83 = .ok (.iload_n 3, 1) := by decide +kernel
theorem dX10_seeNumber_84 : decode cX10_seeNumber 84 = .ok (.ireturn, 1) := by decide +kernel
theorem dX11_init_0 : decode cX11_init 0 = .ok (.aload_n 0, 1) := by decide +kernel
theorem dX11_init_1 : decode cX11_init 1 = .ok (.invokespecial 1, 3) := by decide +kernel
theorem dX11_init_4 : decode cX11_init 4 = .ok (.aload_n 0, 1) := by decide +kernel
theorem dX11_init_5 : decode cX11_init 5 = .ok (.new 7, 3) := by decide +kernel
theorem dX11_init_8 : decode cX11_init 8 = .ok (.dup, 1) := by decide +kernel
theorem dX11_init_9 : decode cX11_init 9 = .ok (.invokespecial 9, 3) := by decide +kernel
theorem dX11_init_12 : decode cX11_init 12 = .ok (.putfield 10, 3) := by decide +kernel
theorem dX11_init_15 : decode cX11_init 15 = .ok (.aload_n 0, 1) := by decide +kernel
theorem dX11_init_16 : decode cX11_init 16 = .ok (.new 16, 3) := by decide +kernel
theorem dX11_init_19 : decode cX11_init 19 = .ok (.dup, 1) := by decide +kernel
theorem dX11_init_20 : decode cX11_init 20 = .ok (.invokespecial 18, 3) := by decide +kernel
theorem dX11_init_23 : decode cX11_init 23 = .ok (.putfield 19, 3) := by decide +kernel
theorem dX11_init_26 : decode cX11_init 26 = .ok (.aload_n 0, 1) := by decide +kernel
theorem dX11_init_27 : decode cX11_init 27 = .ok (.new 16, 3) := by decide +kernel
theorem dX11_init_30 : decode cX11_init 30 = .ok (.dup, 1) := by decide +kernel
theorem dX11_init_31 : decode cX11_init 31 = .ok (.invokespecial 18, 3) := by decide +kernel
theorem dX11_init_34 : decode cX11_init 34 = .ok (.putfield 23, 3) := by decide +kernel
theorem dX11_init_37 : decode cX11_init 37 = .ok (.aload_n 0, 1) := by decide +kernel
theorem dX11_init_38 : decode cX11_init 38 = .ok (.new 16, 3) := by decide +kernel
theorem dX11_init_41 : decode cX11_init 41 = .ok (.dup, 1) := by decide +kernel
theorem dX11_init_42 : decode cX11_init 42 = .ok (.invokespecial 18, 3) := by decide +kernel
theorem dX11_init_45 : decode cX11_init 45 = .ok (.putfield 26, 3) := by decide +kernel
theorem dX11_init_48 : decode cX11_init 48 = .ok (.aload_n 0, 1) := by decide +kernel
theorem dX11_init_49 : decode cX11_init 49 = .ok (.new 29, 3) := by decide +kernel
theorem dX11_init_52 : decode cX11_init 52 = .ok (.dup, 1) := by decide +kernel
theorem dX11_init_53 : decode cX11_init 53 = .ok (.invokespecial 31, 3) := by decide +kernel
theorem dX11_init_56 : decode cX11_init 56 = .ok (.putfield 32, 3) := by decide +kernel
theorem dX11_init_59 : decode cX11_init 59 = .ok (.aload_n 0, 1) := by decide +kernel
theorem dX11_init_60 : decode cX11_init 60 = .ok (.new 36, 3) := by decide +kernel
theorem dX11_init_63 : decode cX11_init 63 = .ok (.dup, 1) := by decide +kernel
theorem dX11_init_64 : decode cX11_init 64 = .ok (.invokespecial 38, 3) := by decide +kernel
theorem dX11_init_67 : decode cX11_init 67 = .ok (.putfield 39, 3) := by decide +kernel
theorem dX11_init_70 : decode cX11_init 70 = .ok (.aload_n 0, 1) := by decide +kernel
theorem dX11_init_71 : decode cX11_init 71 = .ok (.new 43, 3) := by decide +kernel
theorem dX11_init_74 : decode cX11_init 74 = .ok (.dup, 1) := by decide +kernel
theorem dX11_init_75 : decode cX11_init 75 = .ok (.invokespecial 45, 3) := by decide +kernel
theorem dX11_init_78 : decode cX11_init 78 = .ok (.putfield 46, 3) := by decide +kernel
theorem dX11_init_81 : decode cX11_init 81 = .ok (.aload_n 0, 1) := by decide +kernel
theorem dX11_init_82 : decode cX11_init 82 = .ok (.iconst 0, 1) := by decide +kernel
theorem dX11_init_83 : decode cX11_init 83 = .ok (.putfield 50, 3) := by decide +kernel
theorem dX11_init_86 : decode cX11_init 86 = .ok (.return_, 1) := by decide +kernel
theorem dX11_feed_0 : decode cX11_feed 0 = .ok (.aload_n 0, 1) := by decide +kernel
theorem dX11_feed_1 : decode cX11_feed 1 = .ok (.getfield 10, 3) := by decide +kernel
theorem dX11_feed_4 : decode cX11_feed 4 = .ok (.getfield 54, 3) := by decide +kernel
theorem dX11_feed_7 : decode cX11_feed 7 = .ok (.sipush 680, 3) := by decide +kernel
theorem dX11_feed_10 : decode cX11_feed 10 = .ok (.if_icmp .le 5, 3) := by decide +kernel
theorem dX11_feed_13 : decode cX11_feed 13 = .ok (.iconst (-1), 1) := by decide +kernel
theorem dX11_feed_14 : decode cX11_feed 14 = .ok (.ireturn, 1) := by decide +kernel
theorem dX11_feed_15 : decode cX11_feed 15 = .ok (.aload_n 0, 1) := by decide +kernel
theorem dX11_feed_16 : decode cX11_feed 16 = .ok (.getfield 10, 3) := by decide +kernel
theorem dX11_feed_19 : decode cX11_feed 19 = .ok (.iload_n 1, 1) := by decide +kernel
theorem dX11_feed_20 : decode cX11_feed 20 = .ok (.invokevirtual 58, 3) := by decide +kernel
theorem dX11_feed_23 : decode cX11_feed 23 = .ok (.aload_n 0, 1) := by decide +kernel
theorem dX11_feed_24 : decode cX11_feed 24 = .ok (.getfield 10, 3) := by decide +kernel
theorem dX11_feed_27 : decode cX11_feed 27 = .ok (.iload_n 2, 1) := by decide +kernel
theorem dX11_feed_28 : decode cX11_feed 28 = .ok (.invokevirtual 58, 3) := by decide +kernel
theorem dX11_feed_31 : decode cX11_feed 31 = .ok (.aload_n 0, 1) := by decide +kernel
theorem dX11_feed_32 : decode cX11_feed 32 = .ok (.getfield 10, 3) := by decide +kernel
theorem dX11_feed_35 : decode cX11_feed 35 = .ok (.iload_n 3, 1) := by decide +kernel
theorem dX11_feed_36 : decode cX11_feed 36 = .ok (.invokevirtual 58, 3) := by decide +kernel
theorem dX11_feed_39 : decode cX11_feed 39 = .ok (.aload_n 0, 1) := by decide +kernel
theorem dX11_feed_40 : decode cX11_feed 40 = .ok (.getfield 10, 3) := by decide +kernel
theorem dX11_feed_43 : decode cX11_feed 43 = .ok (.iload 4, 2) := by decide +kernel
theorem dX11_feed_45 : decode cX11_feed 45 = .ok (.invokevirtual 58, 3) := by decide +kernel
theorem dX11_feed_48 : decode cX11_feed 48 = .ok (.aload_n 0, 1) := by decide +kernel
theorem dX11_feed_49 : decode cX11_feed 49 = .ok (.getfield 10, 3) := by decide +kernel
theorem dX11_feed_52 : decode cX11_feed 52 = .ok (.iload 5, 2) := by decide +kernel
theorem dX11_feed_54 : decode cX11_feed 54 = .ok (.invokevirtual 58, 3) := by decide +kernel
theorem dX11_feed_57 : decode cX11_feed 57 = .ok (.aload_n 0, 1) := by decide +kernel
theorem dX11_feed_58 : decode cX11_feed 58 = .ok (.getfield 10, 3) := by decide +kernel
theorem dX11_feed_61 : decode cX11_feed 61 = .ok (.getfield 54, 3) := by decide +kernel
theorem dX11_feed_64 : decode cX11_feed 64 = .ok (.ireturn, 1) := by decide +kernel
theorem dX11_load_0 : decode cX11_load 0 = .ok (.iload_n 1, 1) := by decide +kernel
theorem dX11_load_1 : decode cX11_load 1 = .ok (.iconst 0, 1) := by decide +kernel
theorem dX11_load_2 : decode cX11_load 2 = .ok (.aload_n 0, 1) := by decide +kernel
theorem dX11_load_3 : decode cX11_load 3 = .ok (.getfield 10, 3) := by decide +kernel
theorem dX11_load_6 : decode cX11_load 6 = .ok (.getfield 54, 3) := by decide +kernel
theorem dX11_load_9 : decode cX11_load 9 = .ok (.invokestatic 62, 3) := by decide +kernel
theorem dX11_load_12 : decode cX11_load 12 = .ok (.aload_n 0, 1) := by decide +kernel
theorem dX11_load_13 : decode cX11_load 13 = .ok (.getfield 10, 3) := by decide +kernel
theorem dX11_load_16 : decode cX11_load 16 = .ok (.iload_n 1, 1) := by decide +kernel
theorem dX11_load_17 : decode cX11_load 17 = .ok (.invokevirtual 66, 3) := by decide +kernel
theorem dX11_load_20 : decode cX11_load 20 = .ok (.new 69, 3) := by decide +kernel
theorem dX11_load_23 : decode cX11_load 23 = .ok (.dup, 1) := by decide +kernel
theorem dX11_load_24 : decode cX11_load 24 = .ok (.aload_n 0, 1) := by decide +kernel
theorem dX11_load_25 : decode cX11_load 25 = .ok (.getfield 10, 3) := by decide +kernel
theorem dX11_load_28 : decode cX11_load 28 = .ok (.aload_n 0, 1) := by decide +kernel
theorem dX11_load_29 : decode cX11_load 29 = .ok (.getfield 23, 3) := by decide +kernel
theorem dX11_load_32 : decode cX11_load 32 = .ok (.invokespecial 71, 3) := by decide +kernel
theorem dX11_load_35 : decode cX11_load 35 = .ok (.invokevirtual 74, 3) := by decide +kernel
theorem dX11_load_38 : decode cX11_load 38 = .ok (.aload_n 0, 1) := by decide +kernel
theorem dX11_load_39 : decode cX11_load 39 = .ok (.getfield 10, 3) := by decide +kernel
theorem dX11_load_42 : decode cX11_load 42 = .ok (.invokevirtual 77, 3) := by decide +kernel
theorem dX11_load_45 : decode cX11_load 45 = .ok (.aload_n 0, 1) := by decide +kernel
theorem dX11_load_46 : decode cX11_load 46 = .ok (.getfield 10, 3) := by decide +kernel
theorem dX11_load_49 : decode cX11_load 49 = .ok (.getfield 80, 3) := by decide +kernel
theorem dX11_load_52 : decode cX11_load 52 = .ok (.ifCond .eq 14, 3) := by decide +kernel
theorem dX11_load_55 : decode cX11_load 55 = .ok (.bipush (-10), 2) := by decide +kernel
theorem dX11_load_57 : decode cX11_load 57 = .ok (.aload_n 0, 1) := by decide +kernel
theorem dX11_load_58 : decode cX11_load 58 = .ok (.getfield 10, 3) := by decide +kernel
theorem dX11_load_61 : decode cX11_load 61 = .ok (.getfield 80, 3) := by decide +kernel
theorem dX11_load_64 : decode cX11_load 64 = .ok (.isub, 1) := by decide +kernel
theorem dX11_load_65 : decode cX11_load 65 = .ok (.ireturn, 1) := by decide +kernel
theorem dX11_load_66 : decode cX11_load 66 = .ok (.aload_n 0, 1) := by decide +kernel
theorem dX11_load_67 : decode cX11_load 67 = .ok (.getfield 19, 3) := by decide +kernel
theorem dX11_load_70 : decode cX11_load 70 = .ok (.aload_n 0, 1) := by decide +kernel
theorem dX11_load_71 : decode cX11_load 71 = .ok (.getfield 23, 3) := by decide +kernel
theorem dX11_load_74 : decode cX11_load 74 = .ok (.invokevirtual 83, 3) := by decide +kernel
theorem dX11_load_77 : decode cX11_load 77 = .ok (.aload_n 0, 1) := by decide +kernel
theorem dX11_load_78 : decode cX11_load 78 = .ok (.getfield 32, 3) := by decide +kernel
theorem dX11_load_81 : decode cX11_load 81 = .ok (.invokevirtual 87, 3) := by decide +kernel
theorem dX11_load_84 : decode cX11_load 84 = .ok (.aload_n 0, 1) := by decide +kernel
theorem dX11_load_85 : decode cX11_load 85 = .ok (.getfield 19, 3) := by decide +kernel
theorem dX11_load_88 : decode cX11_load 88 = .ok (.getfield 90, 3) := by decide +kernel
theorem dX11_load_91 : decode cX11_load 91 = .ok (.ireturn, 1) := by decide +kernel
theorem dX11_mobileCount_0 : decode cX11_mobileCount 0 = .ok (.aload_n 0, 1) := by decide +kernel
theorem dX11_mobileCount_1 : decode cX11_mobileCount 1 = .ok (.getfield 19, 3) := by decide +kernel
theorem dX11_mobileCount_4 : decode cX11_mobileCount 4 = .ok (.getfield 99, 3) := by decide +kernel
theorem dX11_mobileCount_7 : decode cX11_mobileCount 7 = .ok (.ireturn, 1) := by decide +kernel
theorem dX11_clock_0 : decode cX11_clock 0 = .ok (.aload_n 0, 1) := by decide +kernel
theorem dX11_clock_1 : decode cX11_clock 1 = .ok (.getfield 19, 3) := by decide +kernel
theorem dX11_clock_4 : decode cX11_clock 4 = .ok (.getfield 102, 3) := by decide +kernel
theorem dX11_clock_7 : decode cX11_clock 7 = .ok (.ireturn, 1) := by decide +kernel
theorem dX11_hysteresis_0 : decode cX11_hysteresis 0 = .ok (.aload_n 0, 1) := by decide +kernel
theorem dX11_hysteresis_1 : decode cX11_hysteresis 1 = .ok (.iload_n 1, 1) := by decide +kernel
theorem dX11_hysteresis_2 : decode cX11_hysteresis 2 = .ok (.invokevirtual 105, 3) := by decide +kernel
theorem dX11_hysteresis_5 : decode cX11_hysteresis 5 = .ok (.aload_n 0, 1) := by decide +kernel
theorem dX11_hysteresis_6 : decode cX11_hysteresis 6 = .ok (.iload_n 2, 1) := by decide +kernel
theorem dX11_hysteresis_7 : decode cX11_hysteresis 7 = .ok (.invokevirtual 105, 3) := by decide +kernel
theorem dX11_hysteresis_10 : decode cX11_hysteresis 10 = .ok (.aload_n 0, 1) := by decide +kernel
theorem dX11_hysteresis_11 : decode cX11_hysteresis 11 = .ok (.getfield 19, 3) := by decide +kernel
theorem dX11_hysteresis_14 : decode cX11_hysteresis 14 = .ok (.iload_n 1, 1) := by decide +kernel
theorem dX11_hysteresis_15 : decode cX11_hysteresis 15 = .ok (.iload_n 2, 1) := by decide +kernel
theorem dX11_hysteresis_16 : decode cX11_hysteresis 16 = .ok (.invokevirtual 108, 3) := by decide +kernel
theorem dX11_hysteresis_19 : decode cX11_hysteresis 19 = .ok (.astore_n 3, 1) := by decide +kernel
theorem dX11_hysteresis_20 : decode cX11_hysteresis 20 = .ok (.aload_n 3, 1) := by decide +kernel
theorem dX11_hysteresis_21 : decode cX11_hysteresis 21 = .ok (.getfield 112, 3) := by decide +kernel
theorem dX11_hysteresis_24 : decode cX11_hysteresis 24 = .ok (.ifCond .eq 10, 3) := by decide +kernel
theorem dX11_hysteresis_27 : decode cX11_hysteresis 27 = .ok (.aload_n 3, 1) := by decide +kernel
theorem dX11_hysteresis_28 : decode cX11_hysteresis 28 = .ok (.getfield 117, 3) := by decide +kernel
theorem dX11_hysteresis_31 : decode cX11_hysteresis 31 = .ok (.goto 4, 3) := by decide +kernel
theorem dX11_hysteresis_34 : decode cX11_hysteresis 34 = .ok (.iconst (-1), 1) := by decide +kernel
theorem dX11_hysteresis_35 : decode cX11_hysteresis 35 = .ok (.ireturn, 1) := by decide +kernel
theorem dX11_addMobile_0 : decode cX11_addMobile 0 = .ok (.iload_n 1, 1) := by decide +kernel
theorem dX11_addMobile_1 : decode cX11_addMobile 1 = .ok (.iconst 0, 1) := by decide +kernel
theorem dX11_addMobile_2 : decode cX11_addMobile 2 = .ok (.sipush 999, 3) := by decide +kernel
theorem dX11_addMobile_5 : decode cX11_addMobile 5 = .ok (.invokestatic 62, 3) := by decide +kernel
theorem dX11_addMobile_8 : decode cX11_addMobile 8 = .ok (.iload_n 2, 1) := by decide +kernel
theorem dX11_addMobile_9 : decode cX11_addMobile 9 = .ok (.iconst 0, 1) := by decide +kernel
theorem dX11_addMobile_10 : decode cX11_addMobile 10 = .ok (.sipush 999, 3) := by decide +kernel
theorem dX11_addMobile_13 : decode cX11_addMobile 13 = .ok (.invokestatic 62, 3) := by decide +kernel
theorem dX11_addMobile_16 : decode cX11_addMobile 16 = .ok (.iload_n 3, 1) := by decide +kernel
theorem dX11_addMobile_17 : decode cX11_addMobile 17 = .ok (.bipush (-99), 2) := by decide +kernel
theorem dX11_addMobile_19 : decode cX11_addMobile 19 = .ok (.bipush 99, 2) := by decide +kernel
theorem dX11_addMobile_21 : decode cX11_addMobile 21 = .ok (.invokestatic 62, 3) := by decide +kernel
theorem dX11_addMobile_24 : decode cX11_addMobile 24 = .ok (.iload 4, 2) := by decide +kernel
theorem dX11_addMobile_26 : decode cX11_addMobile 26 = .ok (.bipush (-99), 2) := by decide +kernel
theorem dX11_addMobile_28 : decode cX11_addMobile 28 = .ok (.bipush 99, 2) := by decide +kernel
theorem dX11_addMobile_30 : decode cX11_addMobile 30 = .ok (.invokestatic 62, 3) := by decide +kernel
theorem dX11_addMobile_33 : decode cX11_addMobile 33 = .ok (.aload_n 0, 1) := by decide +kernel
theorem dX11_addMobile_34 : decode cX11_addMobile 34 = .ok (.getfield 19, 3) := by decide +kernel
theorem dX11_addMobile_37 : decode cX11_addMobile 37 = .ok (.getfield 99, 3) := by decide +kernel
theorem dX11_addMobile_40 : decode cX11_addMobile 40 = .ok (.bipush 12, 2) := by decide +kernel
theorem dX11_addMobile_42 : decode cX11_addMobile 42 = .ok (.if_icmp .lt 6, 3) := by decide +kernel
theorem dX11_addMobile_45 : decode cX11_addMobile 45 = .ok (.bipush (-2), 2) := by decide +kernel
theorem dX11_addMobile_47 : decode cX11_addMobile 47 = .ok (.ireturn, 1) := by decide +kernel
theorem dX11_addMobile_48 : decode cX11_addMobile 48 = .ok (.aload_n 0, 1) := by decide +kernel
theorem dX11_addMobile_49 : decode cX11_addMobile 49 = .ok (.getfield 32, 3) := by decide +kernel
theorem dX11_addMobile_52 : decode cX11_addMobile 52 = .ok (.aload_n 0, 1) := by decide +kernel
theorem dX11_addMobile_53 : decode cX11_addMobile 53 = .ok (.getfield 19, 3) := by decide +kernel
theorem dX11_addMobile_56 : decode cX11_addMobile 56 = .ok (.invokevirtual 140, 3) := by decide +kernel
theorem dX11_addMobile_59 : decode cX11_addMobile 59 = .ok (.aload_n 0, 1) := by decide +kernel
theorem dX11_addMobile_60 : decode cX11_addMobile 60 = .ok (.getfield 19, 3) := by decide +kernel
theorem dX11_addMobile_63 : decode cX11_addMobile 63 = .ok (.getfield 99, 3) := by decide +kernel
theorem dX11_addMobile_66 : decode cX11_addMobile 66 = .ok (.istore 5, 2) := by decide +kernel
theorem dX11_addMobile_68 : decode cX11_addMobile 68 = .ok (.aload_n 0, 1) := by decide +kernel
theorem dX11_addMobile_69 : decode cX11_addMobile 69 = .ok (.getfield 19, 3) := by decide +kernel
theorem dX11_addMobile_72 : decode cX11_addMobile 72 = .ok (.iload 5, 2) := by decide +kernel
theorem dX11_addMobile_74 : decode cX11_addMobile 74 = .ok (.iconst 1, 1) := by decide +kernel
theorem dX11_addMobile_75 : decode cX11_addMobile 75 = .ok (.iadd, 1) := by decide +kernel
theorem dX11_addMobile_76 : decode cX11_addMobile 76 = .ok (.putfield 99, 3) := by decide +kernel
theorem dX11_addMobile_79 : decode cX11_addMobile 79 = .ok (.aload_n 0, 1) := by decide +kernel
theorem dX11_addMobile_80 : decode cX11_addMobile 80 = .ok (.getfield 19, 3) := by decide +kernel
theorem dX11_addMobile_83 : decode cX11_addMobile 83 = .ok (.iload 5, 2) := by decide +kernel
theorem dX11_addMobile_85 : decode cX11_addMobile 85 = .ok (.invokevirtual 143, 3) := by decide +kernel
theorem dX11_addMobile_88 : decode cX11_addMobile 88 = .ok (.iload_n 1, 1) := by decide +kernel
theorem dX11_addMobile_89 : decode cX11_addMobile 89 = .ok (.iload_n 2, 1) := by decide +kernel
theorem dX11_addMobile_90 : decode cX11_addMobile 90 = .ok (.iload_n 3, 1) := by decide +kernel
theorem dX11_addMobile_91 : decode cX11_addMobile 91 = .ok (.iload 4, 2) := by decide +kernel
theorem dX11_addMobile_93 : decode cX11_addMobile 93 = .ok (.invokevirtual 147, 3) := by decide +kernel
theorem dX11_addMobile_96 : decode cX11_addMobile 96 = .ok (.iload 5, 2) := by decide +kernel
theorem dX11_addMobile_98 : decode cX11_addMobile 98 = .ok (.ireturn, 1) := by decide +kernel
theorem dX11_setVelocity_0 : decode cX11_setVelocity 0 = .ok (.aload_n 0, 1) := by decide +kernel
theorem dX11_setVelocity_1 : decode cX11_setVelocity 1 = .ok (.iload_n 1, 1) := by decide +kernel
theorem dX11_setVelocity_2 : decode cX11_setVelocity 2 = .ok (.invokevirtual 153, 3) := by decide +kernel
theorem dX11_setVelocity_5 : decode cX11_setVelocity 5 = .ok (.iload_n 2, 1) := by decide +kernel
theorem dX11_setVelocity_6 : decode cX11_setVelocity 6 = .ok (.bipush (-99), 2) := by decide +kernel
theorem dX11_setVelocity_8 : decode cX11_setVelocity 8 = .ok (.bipush 99, 2) := by decide +kernel
theorem dX11_setVelocity_10 : decode cX11_setVelocity 10 = .ok (.invokestatic 62, 3) := by decide +kernel
theorem dX11_setVelocity_13 : decode cX11_setVelocity 13 = .ok (.iload_n 3, 1) := by decide +kernel
theorem dX11_setVelocity_14 : decode cX11_setVelocity 14 = .ok (.bipush (-99), 2) := by decide +kernel
theorem dX11_setVelocity_16 : decode cX11_setVelocity 16 = .ok (.bipush 99, 2) := by decide +kernel
theorem dX11_setVelocity_18 : decode cX11_setVelocity 18 = .ok (.invokestatic 62, 3) := by decide +kernel
theorem dX11_setVelocity_21 : decode cX11_setVelocity 21 = .ok (.aload_n 0, 1) := by decide +kernel
theorem dX11_setVelocity_22 : decode cX11_setVelocity 22 = .ok (.getfield 32, 3) := by decide +kernel
theorem dX11_setVelocity_25 : decode cX11_setVelocity 25 = .ok (.aload_n 0, 1) := by decide +kernel
theorem dX11_setVelocity_26 : decode cX11_setVelocity 26 = .ok (.getfield 19, 3) := by decide +kernel
theorem dX11_setVelocity_29 : decode cX11_setVelocity 29 = .ok (.invokevirtual 140, 3) := by decide +kernel
theorem dX11_setVelocity_32 : decode cX11_setVelocity 32 = .ok (.aload_n 0, 1) := by decide +kernel
theorem dX11_setVelocity_33 : decode cX11_setVelocity 33 = .ok (.getfield 19, 3) := by decide +kernel
theorem dX11_setVelocity_36 : decode cX11_setVelocity 36 = .ok (.iload_n 1, 1) := by decide +kernel
theorem dX11_setVelocity_37 : decode cX11_setVelocity 37 = .ok (.invokevirtual 143, 3) := by decide +kernel
theorem dX11_setVelocity_40 : decode cX11_setVelocity 40 = .ok (.astore 4, 2) := by decide +kernel
theorem dX11_setVelocity_42 : decode cX11_setVelocity 42 = .ok (.aload 4, 2) := by decide +kernel
theorem dX11_setVelocity_44 : decode cX11_setVelocity 44 = .ok (.iload_n 2, 1) := by decide +kernel
theorem dX11_setVelocity_45 : decode cX11_setVelocity 45 = .ok (.putfield 156, 3) := by decide +kernel
theorem dX11_setVelocity_48 : decode cX11_setVelocity 48 = .ok (.aload 4, 2) := by decide +kernel
theorem dX11_setVelocity_50 : decode cX11_setVelocity 50 = .ok (.iload_n 3, 1) := by decide +kernel
theorem dX11_setVelocity_51 : decode cX11_setVelocity 51 = .ok (.putfield 159, 3) := by decide +kernel
theorem dX11_setVelocity_54 : decode cX11_setVelocity 54 = .ok (.aload 4, 2) := by decide +kernel
theorem dX11_setVelocity_56 : decode cX11_setVelocity 56 = .ok (.getfield 162, 3) := by decide +kernel
theorem dX11_setVelocity_59 : decode cX11_setVelocity 59 = .ok (.ireturn, 1) := by decide +kernel
theorem dX11_call_0 : decode cX11_call 0 = .ok (.aload_n 0, 1) := by decide +kernel
theorem dX11_call_1 : decode cX11_call 1 = .ok (.iload_n 1, 1) := by decide +kernel
theorem dX11_call_2 : decode cX11_call 2 = .ok (.invokevirtual 153, 3) := by decide +kernel
theorem dX11_call_5 : decode cX11_call 5 = .ok (.iload_n 2, 1) := by decide +kernel
theorem dX11_call_6 : decode cX11_call 6 = .ok (.iconst 1, 1) := by decide +kernel
theorem dX11_call_7 : decode cX11_call 7 = .ok (.sipush 500, 3) := by decide +kernel
theorem dX11_call_10 : decode cX11_call 10 = .ok (.invokestatic 62, 3) := by decide +kernel
theorem dX11_call_13 : decode cX11_call 13 = .ok (.aload_n 0, 1) := by decide +kernel
theorem dX11_call_14 : decode cX11_call 14 = .ok (.getfield 19, 3) := by decide +kernel
theorem dX11_call_17 : decode cX11_call 17 = .ok (.iload_n 1, 1) := by decide +kernel
theorem dX11_call_18 : decode cX11_call 18 = .ok (.invokevirtual 143, 3) := by decide +kernel
theorem dX11_call_21 : decode cX11_call 21 = .ok (.astore_n 3, 1) := by decide +kernel
theorem dX11_call_22 : decode cX11_call 22 = .ok (.aload_n 3, 1) := by decide +kernel
theorem dX11_call_23 : decode cX11_call 23 = .ok (.getfield 162, 3) := by decide +kernel
theorem dX11_call_26 : decode cX11_call 26 = .ok (.ifCond .eq 6, 3) := by decide +kernel
theorem dX11_call_29 : decode cX11_call 29 = .ok (.bipush (-2), 2) := by decide +kernel
theorem dX11_call_31 : decode cX11_call 31 = .ok (.ireturn, 1) := by decide +kernel
theorem dX11_call_32 : decode cX11_call 32 = .ok (.aload_n 0, 1) := by decide +kernel
theorem dX11_call_33 : decode cX11_call 33 = .ok (.getfield 19, 3) := by decide +kernel
theorem dX11_call_36 : decode cX11_call 36 = .ok (.aload_n 3, 1) := by decide +kernel
theorem dX11_call_37 : decode cX11_call 37 = .ok (.getfield 165, 3) := by decide +kernel
theorem dX11_call_40 : decode cX11_call 40 = .ok (.aload_n 3, 1) := by decide +kernel
theorem dX11_call_41 : decode cX11_call 41 = .ok (.getfield 168, 3) := by decide +kernel
theorem dX11_call_44 : decode cX11_call 44 = .ok (.invokevirtual 130, 3) := by decide +kernel
theorem dX11_call_47 : decode cX11_call 47 = .ok (.istore 4, 2) := by decide +kernel
theorem dX11_call_49 : decode cX11_call 49 = .ok (.iload 4, 2) := by decide +kernel
theorem dX11_call_51 : decode cX11_call 51 = .ok (.iconst (-1), 1) := by decide +kernel
theorem dX11_call_52 : decode cX11_call 52 = .ok (.if_icmp .ne 6, 3) := by decide +kernel
theorem dX11_call_55 : decode cX11_call 55 = .ok (.bipush (-4), 2) := by decide +kernel
theorem dX11_call_57 : decode cX11_call 57 = .ok (.ireturn, 1) := by decide +kernel
theorem dX11_call_58 : decode cX11_call 58 = .ok (.aload_n 0, 1) := by decide +kernel
theorem dX11_call_59 : decode cX11_call 59 = .ok (.getfield 32, 3) := by decide +kernel
theorem dX11_call_62 : decode cX11_call 62 = .ok (.aload_n 0, 1) := by decide +kernel
theorem dX11_call_63 : decode cX11_call 63 = .ok (.getfield 19, 3) := by decide +kernel
theorem dX11_call_66 : decode cX11_call 66 = .ok (.invokevirtual 140, 3) := by decide +kernel
theorem dX11_call_69 : decode cX11_call 69 = .ok (.aload_n 0, 1) := by decide +kernel
theorem dX11_call_70 : decode cX11_call 70 = .ok (.getfield 19, 3) := by decide +kernel
theorem dX11_call_73 : decode cX11_call 73 = .ok (.aload_n 3, 1) := by decide +kernel
theorem dX11_call_74 : decode cX11_call 74 = .ok (.iload_n 2, 1) := by decide +kernel
theorem dX11_call_75 : decode cX11_call 75 = .ok (.iload 4, 2) := by decide +kernel
theorem dX11_call_77 : decode cX11_call 77 = .ok (.invokevirtual 171, 3) := by decide +kernel
theorem dX11_call_80 : decode cX11_call 80 = .ok (.ireturn, 1) := by decide +kernel
theorem dX11_hangUp_0 : decode cX11_hangUp 0 = .ok (.aload_n 0, 1) := by decide +kernel
theorem dX11_hangUp_1 : decode cX11_hangUp 1 = .ok (.iload_n 1, 1) := by decide +kernel
theorem dX11_hangUp_2 : decode cX11_hangUp 2 = .ok (.invokevirtual 153, 3) := by decide +kernel
theorem dX11_hangUp_5 : decode cX11_hangUp 5 = .ok (.aload_n 0, 1) := by decide +kernel
theorem dX11_hangUp_6 : decode cX11_hangUp 6 = .ok (.getfield 19, 3) := by decide +kernel
theorem dX11_hangUp_9 : decode cX11_hangUp 9 = .ok (.iload_n 1, 1) := by decide +kernel
theorem dX11_hangUp_10 : decode cX11_hangUp 10 = .ok (.invokevirtual 143, 3) := by decide +kernel
theorem dX11_hangUp_13 : decode cX11_hangUp 13 = .ok (.astore_n 2, 1) := by decide +kernel
theorem dX11_hangUp_14 : decode cX11_hangUp 14 = .ok (.aload_n 2, 1) := by decide +kernel
theorem dX11_hangUp_15 : decode cX11_hangUp 15 = .ok (.getfield 162, 3) := by decide +kernel
theorem dX11_hangUp_18 : decode cX11_hangUp 18 = .ok (.istore_n 3, 1) := by decide +kernel
theorem dX11_hangUp_19 : decode cX11_hangUp 19 = .ok (.iload_n 3, 1) := by decide +kernel
theorem dX11_hangUp_20 : decode cX11_hangUp 20 = .ok (.ifCond .ne 6, 3) := by decide +kernel
theorem dX11_hangUp_23 : decode cX11_hangUp 23 = .ok (.bipush (-2), 2) := by decide +kernel
theorem dX11_hangUp_25 : decode cX11_hangUp 25 = .ok (.ireturn, 1) := by decide +kernel
theorem dX11_hangUp_26 : decode cX11_hangUp 26 = .ok (.aload_n 0, 1) := by decide +kernel
theorem dX11_hangUp_27 : decode cX11_hangUp 27 = .ok (.getfield 32, 3) := by decide +kernel
theorem dX11_hangUp_30 : decode cX11_hangUp 30 = .ok (.aload_n 0, 1) := by decide +kernel
theorem dX11_hangUp_31 : decode cX11_hangUp 31 = .ok (.getfield 19, 3) := by decide +kernel
theorem dX11_hangUp_34 : decode cX11_hangUp 34 = .ok (.invokevirtual 140, 3) := by decide +kernel
theorem dX11_hangUp_37 : decode cX11_hangUp 37 = .ok (.aload_n 2, 1) := by decide +kernel
theorem dX11_hangUp_38 : decode cX11_hangUp 38 = .ok (.invokevirtual 175, 3) := by decide +kernel
theorem dX11_hangUp_41 : decode cX11_hangUp 41 = .ok (.iload_n 3, 1) := by decide +kernel
theorem dX11_hangUp_42 : decode cX11_hangUp 42 = .ok (.ireturn, 1) := by decide +kernel
theorem dX11_setHysteresis_0 : decode cX11_setHysteresis 0 = .ok (.aload_n 0, 1) := by decide +kernel
theorem dX11_setHysteresis_1 : decode cX11_setHysteresis 1 = .ok (.iload_n 1, 1) := by decide +kernel
theorem dX11_setHysteresis_2 : decode cX11_setHysteresis 2 = .ok (.invokevirtual 105, 3) := by decide +kernel
theorem dX11_setHysteresis_5 : decode cX11_setHysteresis 5 = .ok (.aload_n 0, 1) := by decide +kernel
theorem dX11_setHysteresis_6 : decode cX11_setHysteresis 6 = .ok (.iload_n 2, 1) := by decide +kernel
theorem dX11_setHysteresis_7 : decode cX11_setHysteresis 7 = .ok (.invokevirtual 105, 3) := by decide +kernel
theorem dX11_setHysteresis_10 : decode cX11_setHysteresis 10 = .ok (.iload_n 3, 1) := by decide +kernel
theorem dX11_setHysteresis_11 : decode cX11_setHysteresis 11 = .ok (.iconst 0, 1) := by decide +kernel
theorem dX11_setHysteresis_12 : decode cX11_setHysteresis 12 = .ok (.bipush 30, 2) := by decide +kernel
theorem dX11_setHysteresis_14 : decode cX11_setHysteresis 14 = .ok (.invokestatic 62, 3) := by decide +kernel
theorem dX11_setHysteresis_17 : decode cX11_setHysteresis 17 = .ok (.aload_n 0, 1) := by decide +kernel
theorem dX11_setHysteresis_18 : decode cX11_setHysteresis 18 = .ok (.getfield 19, 3) := by decide +kernel
theorem dX11_setHysteresis_21 : decode cX11_setHysteresis 21 = .ok (.iload_n 1, 1) := by decide +kernel
theorem dX11_setHysteresis_22 : decode cX11_setHysteresis 22 = .ok (.iload_n 2, 1) := by decide +kernel
theorem dX11_setHysteresis_23 : decode cX11_setHysteresis 23 = .ok (.invokevirtual 108, 3) := by decide +kernel
theorem dX11_setHysteresis_26 : decode cX11_setHysteresis 26 = .ok (.astore 4, 2) := by decide +kernel
theorem dX11_setHysteresis_28 : decode cX11_setHysteresis 28 = .ok (.aload 4, 2) := by decide +kernel
theorem dX11_setHysteresis_30 : decode cX11_setHysteresis 30 = .ok (.getfield 112, 3) := by decide +kernel
theorem dX11_setHysteresis_33 : decode cX11_setHysteresis 33 = .ok (.ifCond .ne 6, 3) := by decide +kernel
theorem dX11_setHysteresis_36 : decode cX11_setHysteresis 36 = .ok (.bipush (-2), 2) := by decide +kernel
theorem dX11_setHysteresis_38 : decode cX11_setHysteresis 38 = .ok (.ireturn, 1) := by decide +kernel
theorem dX11_setHysteresis_39 : decode cX11_setHysteresis 39 = .ok (.aload_n 0, 1) := by decide +kernel
theorem dX11_setHysteresis_40 : decode cX11_setHysteresis 40 = .ok (.getfield 32, 3) := by decide +kernel
theorem dX11_setHysteresis_43 : decode cX11_setHysteresis 43 = .ok (.aload_n 0, 1) := by decide +kernel
theorem dX11_setHysteresis_44 : decode cX11_setHysteresis 44 = .ok (.getfield 19, 3) := by decide +kernel
theorem dX11_setHysteresis_47 : decode cX11_setHysteresis 47 = .ok (.invokevirtual 140, 3) := by decide +kernel
theorem dX11_setHysteresis_50 : decode cX11_setHysteresis 50 = .ok (.aload 4, 2) := by decide +kernel
theorem dX11_setHysteresis_52 : decode cX11_setHysteresis 52 = .ok (.getfield 117, 3) := by decide +kernel
theorem dX11_setHysteresis_55 : decode cX11_setHysteresis 55 = .ok (.istore 5, 2) := by decide +kernel
theorem dX11_setHysteresis_57 : decode cX11_setHysteresis 57 = .ok (.aload 4, 2) := by decide +kernel
theorem dX11_setHysteresis_59 : decode cX11_setHysteresis 59 = .ok (.iload_n 3, 1) := by decide +kernel
theorem dX11_setHysteresis_60 : decode cX11_setHysteresis 60 = .ok (.putfield 117, 3) := by decide +kernel
theorem dX11_setHysteresis_63 : decode cX11_setHysteresis 63 = .ok (.iload 5, 2) := by decide +kernel
theorem dX11_setHysteresis_65 : decode cX11_setHysteresis 65 = .ok (.ireturn, 1) := by decide +kernel
theorem dX11_run_0 : decode cX11_run 0 = .ok (.aload_n 0, 1) := by decide +kernel
theorem dX11_run_1 : decode cX11_run 1 = .ok (.iload_n 1, 1) := by decide +kernel
theorem dX11_run_2 : decode cX11_run 2 = .ok (.bipush 60, 2) := by decide +kernel
theorem dX11_run_4 : decode cX11_run 4 = .ok (.invokevirtual 178, 3) := by decide +kernel
theorem dX11_run_7 : decode cX11_run 7 = .ok (.aload_n 0, 1) := by decide +kernel
theorem dX11_run_8 : decode cX11_run 8 = .ok (.getfield 32, 3) := by decide +kernel
theorem dX11_run_11 : decode cX11_run 11 = .ok (.aload_n 0, 1) := by decide +kernel
theorem dX11_run_12 : decode cX11_run 12 = .ok (.getfield 19, 3) := by decide +kernel
theorem dX11_run_15 : decode cX11_run 15 = .ok (.invokevirtual 140, 3) := by decide +kernel
theorem dX11_run_18 : decode cX11_run 18 = .ok (.aload_n 0, 1) := by decide +kernel
theorem dX11_run_19 : decode cX11_run 19 = .ok (.getfield 19, 3) := by decide +kernel
theorem dX11_run_22 : decode cX11_run 22 = .ok (.iconst 0, 1) := by decide +kernel
theorem dX11_run_23 : decode cX11_run 23 = .ok (.invokevirtual 182, 3) := by decide +kernel
theorem dX11_run_26 : decode cX11_run 26 = .ok (.istore_n 2, 1) := by decide +kernel
theorem dX11_run_27 : decode cX11_run 27 = .ok (.aload_n 0, 1) := by decide +kernel
theorem dX11_run_28 : decode cX11_run 28 = .ok (.getfield 39, 3) := by decide +kernel
theorem dX11_run_31 : decode cX11_run 31 = .ok (.aload_n 0, 1) := by decide +kernel
theorem dX11_run_32 : decode cX11_run 32 = .ok (.getfield 19, 3) := by decide +kernel
theorem dX11_run_35 : decode cX11_run 35 = .ok (.iload_n 1, 1) := by decide +kernel
theorem dX11_run_36 : decode cX11_run 36 = .ok (.invokevirtual 186, 3) := by decide +kernel
theorem dX11_run_39 : decode cX11_run 39 = .ok (.aload_n 0, 1) := by decide +kernel
theorem dX11_run_40 : decode cX11_run 40 = .ok (.getfield 19, 3) := by decide +kernel
theorem dX11_run_43 : decode cX11_run 43 = .ok (.iconst 0, 1) := by decide +kernel
theorem dX11_run_44 : decode cX11_run 44 = .ok (.invokevirtual 182, 3) := by decide +kernel
theorem dX11_run_47 : decode cX11_run 47 = .ok (.iload_n 2, 1) := by decide +kernel
theorem dX11_run_48 : decode cX11_run 48 = .ok (.isub, 1) := by decide +kernel
theorem dX11_run_49 : decode cX11_run 49 = .ok (.ireturn, 1) := by decide +kernel
theorem dX11_x_0 : decode cX11_x 0 = .ok (.aload_n 0, 1) := by decide +kernel
theorem dX11_x_1 : decode cX11_x 1 = .ok (.iload_n 1, 1) := by decide +kernel
theorem dX11_x_2 : decode cX11_x 2 = .ok (.invokevirtual 153, 3) := by decide +kernel
theorem dX11_x_5 : decode cX11_x 5 = .ok (.aload_n 0, 1) := by decide +kernel
theorem dX11_x_6 : decode cX11_x 6 = .ok (.getfield 19, 3) := by decide +kernel
theorem dX11_x_9 : decode cX11_x 9 = .ok (.iload_n 1, 1) := by decide +kernel
theorem dX11_x_10 : decode cX11_x 10 = .ok (.invokevirtual 143, 3) := by decide +kernel
theorem dX11_x_13 : decode cX11_x 13 = .ok (.getfield 165, 3) := by decide +kernel
theorem dX11_x_16 : decode cX11_x 16 = .ok (.ireturn, 1) := by decide +kernel
theorem dX11_y_0 : decode cX11_y 0 = .ok (.aload_n 0, 1) := by decide +kernel
theorem dX11_y_1 : decode cX11_y 1 = .ok (.iload_n 1, 1) := by decide +kernel
theorem dX11_y_2 : decode cX11_y 2 = .ok (.invokevirtual 153, 3) := by decide +kernel
theorem dX11_y_5 : decode cX11_y 5 = .ok (.aload_n 0, 1) := by decide +kernel
theorem dX11_y_6 : decode cX11_y 6 = .ok (.getfield 19, 3) := by decide +kernel
theorem dX11_y_9 : decode cX11_y 9 = .ok (.iload_n 1, 1) := by decide +kernel
theorem dX11_y_10 : decode cX11_y 10 = .ok (.invokevirtual 143, 3) := by decide +kernel
theorem dX11_y_13 : decode cX11_y 13 = .ok (.getfield 168, 3) := by decide +kernel
theorem dX11_y_16 : decode cX11_y 16 = .ok (.ireturn, 1) := by decide +kernel
theorem dX11_state_0 : decode cX11_state 0 = .ok (.aload_n 0, 1) := by decide +kernel
theorem dX11_state_1 : decode cX11_state 1 = .ok (.iload_n 1, 1) := by decide +kernel
theorem dX11_state_2 : decode cX11_state 2 = .ok (.invokevirtual 153, 3) := by decide +kernel
theorem dX11_state_5 : decode cX11_state 5 = .ok (.aload_n 0, 1) := by decide +kernel
theorem dX11_state_6 : decode cX11_state 6 = .ok (.getfield 19, 3) := by decide +kernel
theorem dX11_state_9 : decode cX11_state 9 = .ok (.iload_n 1, 1) := by decide +kernel
theorem dX11_state_10 : decode cX11_state 10 = .ok (.invokevirtual 143, 3) := by decide +kernel
theorem dX11_state_13 : decode cX11_state 13 = .ok (.getfield 162, 3) := by decide +kernel
theorem dX11_state_16 : decode cX11_state 16 = .ok (.ireturn, 1) := by decide +kernel
theorem dX11_servingCell_0 : decode cX11_servingCell 0 = .ok (.aload_n 0, 1) := by decide +kernel
theorem dX11_servingCell_1 : decode cX11_servingCell 1 = .ok (.iload_n 1, 1) := by decide +kernel
theorem dX11_servingCell_2 : decode cX11_servingCell 2 = .ok (.invokevirtual 153, 3) := by decide +kernel
theorem dX11_servingCell_5 : decode cX11_servingCell 5 = .ok (.aload_n 0, 1) := by decide +kernel
theorem dX11_servingCell_6 : decode cX11_servingCell 6 = .ok (.getfield 19, 3) := by decide +kernel
theorem dX11_servingCell_9 : decode cX11_servingCell 9 = .ok (.iload_n 1, 1) := by decide +kernel
theorem dX11_servingCell_10 : decode cX11_servingCell 10 = .ok (.invokevirtual 143, 3) := by decide +kernel
theorem dX11_servingCell_13 : decode cX11_servingCell 13 = .ok (.getfield 190, 3) := by decide +kernel
theorem dX11_servingCell_16 : decode cX11_servingCell 16 = .ok (.ireturn, 1) := by decide +kernel
theorem dX11_remaining_0 : decode cX11_remaining 0 = .ok (.aload_n 0, 1) := by decide +kernel
theorem dX11_remaining_1 : decode cX11_remaining 1 = .ok (.iload_n 1, 1) := by decide +kernel
theorem dX11_remaining_2 : decode cX11_remaining 2 = .ok (.invokevirtual 153, 3) := by decide +kernel
theorem dX11_remaining_5 : decode cX11_remaining 5 = .ok (.aload_n 0, 1) := by decide +kernel
theorem dX11_remaining_6 : decode cX11_remaining 6 = .ok (.getfield 19, 3) := by decide +kernel
theorem dX11_remaining_9 : decode cX11_remaining 9 = .ok (.iload_n 1, 1) := by decide +kernel
theorem dX11_remaining_10 : decode cX11_remaining 10 = .ok (.invokevirtual 143, 3) := by decide +kernel
theorem dX11_remaining_13 : decode cX11_remaining 13 = .ok (.getfield 193, 3) := by decide +kernel
theorem dX11_remaining_16 : decode cX11_remaining 16 = .ok (.ireturn, 1) := by decide +kernel
theorem dX11_requestCell_0 : decode cX11_requestCell 0 = .ok (.aload_n 0, 1) := by decide +kernel
theorem dX11_requestCell_1 : decode cX11_requestCell 1 = .ok (.iload_n 1, 1) := by decide +kernel
theorem dX11_requestCell_2 : decode cX11_requestCell 2 = .ok (.invokevirtual 153, 3) := by decide +kernel
theorem dX11_requestCell_5 : decode cX11_requestCell 5 = .ok (.aload_n 0, 1) := by decide +kernel
theorem dX11_requestCell_6 : decode cX11_requestCell 6 = .ok (.getfield 19, 3) := by decide +kernel
theorem dX11_requestCell_9 : decode cX11_requestCell 9 = .ok (.iload_n 1, 1) := by decide +kernel
theorem dX11_requestCell_10 : decode cX11_requestCell 10 = .ok (.invokevirtual 143, 3) := by decide +kernel
theorem dX11_requestCell_13 : decode cX11_requestCell 13 = .ok (.getfield 196, 3) := by decide +kernel
theorem dX11_requestCell_16 : decode cX11_requestCell 16 = .ok (.ireturn, 1) := by decide +kernel
theorem dX11_average_0 : decode cX11_average 0 = .ok (.aload_n 0, 1) := by decide +kernel
theorem dX11_average_1 : decode cX11_average 1 = .ok (.iload_n 1, 1) := by decide +kernel
theorem dX11_average_2 : decode cX11_average 2 = .ok (.invokevirtual 153, 3) := by decide +kernel
theorem dX11_average_5 : decode cX11_average 5 = .ok (.aload_n 0, 1) := by decide +kernel
theorem dX11_average_6 : decode cX11_average 6 = .ok (.iload_n 2, 1) := by decide +kernel
theorem dX11_average_7 : decode cX11_average 7 = .ok (.invokevirtual 105, 3) := by decide +kernel
theorem dX11_average_10 : decode cX11_average 10 = .ok (.aload_n 0, 1) := by decide +kernel
theorem dX11_average_11 : decode cX11_average 11 = .ok (.getfield 19, 3) := by decide +kernel
theorem dX11_average_14 : decode cX11_average 14 = .ok (.iload_n 1, 1) := by decide +kernel
theorem dX11_average_15 : decode cX11_average 15 = .ok (.invokevirtual 143, 3) := by decide +kernel
theorem dX11_average_18 : decode cX11_average 18 = .ok (.iload_n 2, 1) := by decide +kernel
theorem dX11_average_19 : decode cX11_average 19 = .ok (.invokevirtual 199, 3) := by decide +kernel
theorem dX11_average_22 : decode cX11_average 22 = .ok (.ireturn, 1) := by decide +kernel
theorem dX11_reportCount_0 : decode cX11_reportCount 0 = .ok (.aload_n 0, 1) := by decide +kernel
theorem dX11_reportCount_1 : decode cX11_reportCount 1 = .ok (.iload_n 1, 1) := by decide +kernel
theorem dX11_reportCount_2 : decode cX11_reportCount 2 = .ok (.invokevirtual 153, 3) := by decide +kernel
theorem dX11_reportCount_5 : decode cX11_reportCount 5 = .ok (.aload_n 0, 1) := by decide +kernel
theorem dX11_reportCount_6 : decode cX11_reportCount 6 = .ok (.iload_n 2, 1) := by decide +kernel
theorem dX11_reportCount_7 : decode cX11_reportCount 7 = .ok (.invokevirtual 105, 3) := by decide +kernel
theorem dX11_reportCount_10 : decode cX11_reportCount 10 = .ok (.aload_n 0, 1) := by decide +kernel
theorem dX11_reportCount_11 : decode cX11_reportCount 11 = .ok (.getfield 19, 3) := by decide +kernel
theorem dX11_reportCount_14 : decode cX11_reportCount 14 = .ok (.iload_n 1, 1) := by decide +kernel
theorem dX11_reportCount_15 : decode cX11_reportCount 15 = .ok (.invokevirtual 143, 3) := by decide +kernel
theorem dX11_reportCount_18 : decode cX11_reportCount 18 = .ok (.iload_n 2, 1) := by decide +kernel
theorem dX11_reportCount_19 : decode cX11_reportCount 19 = .ok (.invokevirtual 202, 3) := by decide +kernel
theorem dX11_reportCount_22 : decode cX11_reportCount 22 = .ok (.ireturn, 1) := by decide +kernel
theorem dX11_isBarred_0 : decode cX11_isBarred 0 = .ok (.aload_n 0, 1) := by decide +kernel
theorem dX11_isBarred_1 : decode cX11_isBarred 1 = .ok (.iload_n 1, 1) := by decide +kernel
theorem dX11_isBarred_2 : decode cX11_isBarred 2 = .ok (.invokevirtual 153, 3) := by decide +kernel
theorem dX11_isBarred_5 : decode cX11_isBarred 5 = .ok (.aload_n 0, 1) := by decide +kernel
theorem dX11_isBarred_6 : decode cX11_isBarred 6 = .ok (.iload_n 2, 1) := by decide +kernel
theorem dX11_isBarred_7 : decode cX11_isBarred 7 = .ok (.invokevirtual 105, 3) := by decide +kernel
theorem dX11_isBarred_10 : decode cX11_isBarred 10 = .ok (.aload_n 0, 1) := by decide +kernel
theorem dX11_isBarred_11 : decode cX11_isBarred 11 = .ok (.getfield 19, 3) := by decide +kernel
theorem dX11_isBarred_14 : decode cX11_isBarred 14 = .ok (.iload_n 1, 1) := by decide +kernel
theorem dX11_isBarred_15 : decode cX11_isBarred 15 = .ok (.invokevirtual 143, 3) := by decide +kernel
theorem dX11_isBarred_18 : decode cX11_isBarred 18 = .ok (.iload_n 2, 1) := by decide +kernel
theorem dX11_isBarred_19 : decode cX11_isBarred 19 = .ok (.aload_n 0, 1) := by decide +kernel
theorem dX11_isBarred_20 : decode cX11_isBarred 20 = .ok (.getfield 19, 3) := by decide +kernel
theorem dX11_isBarred_23 : decode cX11_isBarred 23 = .ok (.getfield 102, 3) := by decide +kernel
theorem dX11_isBarred_26 : decode cX11_isBarred 26 = .ok (.invokevirtual 205, 3) := by decide +kernel
theorem dX11_isBarred_29 : decode cX11_isBarred 29 = .ok (.ireturn, 1) := by decide +kernel
theorem dX11_candidate_0 : decode cX11_candidate 0 = .ok (.aload_n 0, 1) := by decide +kernel
theorem dX11_candidate_1 : decode cX11_candidate 1 = .ok (.iload_n 1, 1) := by decide +kernel
theorem dX11_candidate_2 : decode cX11_candidate 2 = .ok (.invokevirtual 153, 3) := by decide +kernel
theorem dX11_candidate_5 : decode cX11_candidate 5 = .ok (.iload_n 2, 1) := by decide +kernel
theorem dX11_candidate_6 : decode cX11_candidate 6 = .ok (.invokestatic 209, 3) := by decide +kernel
theorem dX11_candidate_9 : decode cX11_candidate 9 = .ok (.aload_n 0, 1) := by decide +kernel
theorem dX11_candidate_10 : decode cX11_candidate 10 = .ok (.getfield 39, 3) := by decide +kernel
theorem dX11_candidate_13 : decode cX11_candidate 13 = .ok (.aload_n 0, 1) := by decide +kernel
theorem dX11_candidate_14 : decode cX11_candidate 14 = .ok (.getfield 19, 3) := by decide +kernel
theorem dX11_candidate_17 : decode cX11_candidate 17 = .ok (.iload_n 1, 1) := by decide +kernel
theorem dX11_candidate_18 : decode cX11_candidate 18 = .ok (.iload_n 2, 1) := by decide +kernel
theorem dX11_candidate_19 : decode cX11_candidate 19 = .ok (.invokevirtual 212, 3) := by decide +kernel
theorem dX11_candidate_22 : decode cX11_candidate 22 = .ok (.ireturn, 1) := by decide +kernel
theorem dX11_busyChannels_0 : decode cX11_busyChannels 0 = .ok (.aload_n 0, 1) := by decide +kernel
theorem dX11_busyChannels_1 : decode cX11_busyChannels 1 = .ok (.iload_n 1, 1) := by decide +kernel
theorem dX11_busyChannels_2 : decode cX11_busyChannels 2 = .ok (.invokevirtual 105, 3) := by decide +kernel
theorem dX11_busyChannels_5 : decode cX11_busyChannels 5 = .ok (.aload_n 0, 1) := by decide +kernel
theorem dX11_busyChannels_6 : decode cX11_busyChannels 6 = .ok (.getfield 19, 3) := by decide +kernel
theorem dX11_busyChannels_9 : decode cX11_busyChannels 9 = .ok (.iload_n 1, 1) := by decide +kernel
theorem dX11_busyChannels_10 : decode cX11_busyChannels 10 = .ok (.invokevirtual 216, 3) := by decide +kernel
theorem dX11_busyChannels_13 : decode cX11_busyChannels 13 = .ok (.ireturn, 1) := by decide +kernel
theorem dX11_queueLength_0 : decode cX11_queueLength 0 = .ok (.aload_n 0, 1) := by decide +kernel
theorem dX11_queueLength_1 : decode cX11_queueLength 1 = .ok (.iload_n 1, 1) := by decide +kernel
theorem dX11_queueLength_2 : decode cX11_queueLength 2 = .ok (.invokevirtual 105, 3) := by decide +kernel
theorem dX11_queueLength_5 : decode cX11_queueLength 5 = .ok (.aload_n 0, 1) := by decide +kernel
theorem dX11_queueLength_6 : decode cX11_queueLength 6 = .ok (.getfield 19, 3) := by decide +kernel
theorem dX11_queueLength_9 : decode cX11_queueLength 9 = .ok (.iload_n 1, 1) := by decide +kernel
theorem dX11_queueLength_10 : decode cX11_queueLength 10 = .ok (.invokevirtual 219, 3) := by decide +kernel
theorem dX11_queueLength_13 : decode cX11_queueLength 13 = .ok (.ireturn, 1) := by decide +kernel
theorem dX11_queued_0 : decode cX11_queued 0 = .ok (.aload_n 0, 1) := by decide +kernel
theorem dX11_queued_1 : decode cX11_queued 1 = .ok (.iload_n 1, 1) := by decide +kernel
theorem dX11_queued_2 : decode cX11_queued 2 = .ok (.invokevirtual 105, 3) := by decide +kernel
theorem dX11_queued_5 : decode cX11_queued 5 = .ok (.iload_n 2, 1) := by decide +kernel
theorem dX11_queued_6 : decode cX11_queued 6 = .ok (.invokestatic 209, 3) := by decide +kernel
theorem dX11_queued_9 : decode cX11_queued 9 = .ok (.aload_n 0, 1) := by decide +kernel
theorem dX11_queued_10 : decode cX11_queued 10 = .ok (.getfield 19, 3) := by decide +kernel
theorem dX11_queued_13 : decode cX11_queued 13 = .ok (.iload_n 1, 1) := by decide +kernel
theorem dX11_queued_14 : decode cX11_queued 14 = .ok (.iload_n 2, 1) := by decide +kernel
theorem dX11_queued_15 : decode cX11_queued 15 = .ok (.invokevirtual 222, 3) := by decide +kernel
theorem dX11_queued_18 : decode cX11_queued 18 = .ok (.ireturn, 1) := by decide +kernel
theorem dX11_successes_0 : decode cX11_successes 0 = .ok (.aload_n 0, 1) := by decide +kernel
theorem dX11_successes_1 : decode cX11_successes 1 = .ok (.iload_n 1, 1) := by decide +kernel
theorem dX11_successes_2 : decode cX11_successes 2 = .ok (.invokevirtual 105, 3) := by decide +kernel
theorem dX11_successes_5 : decode cX11_successes 5 = .ok (.aload_n 0, 1) := by decide +kernel
theorem dX11_successes_6 : decode cX11_successes 6 = .ok (.iload_n 2, 1) := by decide +kernel
theorem dX11_successes_7 : decode cX11_successes 7 = .ok (.invokevirtual 105, 3) := by decide +kernel
theorem dX11_successes_10 : decode cX11_successes 10 = .ok (.aload_n 0, 1) := by decide +kernel
theorem dX11_successes_11 : decode cX11_successes 11 = .ok (.getfield 19, 3) := by decide +kernel
theorem dX11_successes_14 : decode cX11_successes 14 = .ok (.iload_n 1, 1) := by decide +kernel
theorem dX11_successes_15 : decode cX11_successes 15 = .ok (.iload_n 2, 1) := by decide +kernel
theorem dX11_successes_16 : decode cX11_successes 16 = .ok (.invokevirtual 108, 3) := by decide +kernel
theorem dX11_successes_19 : decode cX11_successes 19 = .ok (.getfield 225, 3) := by decide +kernel
theorem dX11_successes_22 : decode cX11_successes 22 = .ok (.ireturn, 1) := by decide +kernel
theorem dX11_refusals_0 : decode cX11_refusals 0 = .ok (.aload_n 0, 1) := by decide +kernel
theorem dX11_refusals_1 : decode cX11_refusals 1 = .ok (.iload_n 1, 1) := by decide +kernel
theorem dX11_refusals_2 : decode cX11_refusals 2 = .ok (.invokevirtual 105, 3) := by decide +kernel
theorem dX11_refusals_5 : decode cX11_refusals 5 = .ok (.aload_n 0, 1) := by decide +kernel
theorem dX11_refusals_6 : decode cX11_refusals 6 = .ok (.iload_n 2, 1) := by decide +kernel
theorem dX11_refusals_7 : decode cX11_refusals 7 = .ok (.invokevirtual 105, 3) := by decide +kernel
theorem dX11_refusals_10 : decode cX11_refusals 10 = .ok (.aload_n 0, 1) := by decide +kernel
theorem dX11_refusals_11 : decode cX11_refusals 11 = .ok (.getfield 19, 3) := by decide +kernel
theorem dX11_refusals_14 : decode cX11_refusals 14 = .ok (.iload_n 1, 1) := by decide +kernel
theorem dX11_refusals_15 : decode cX11_refusals 15 = .ok (.iload_n 2, 1) := by decide +kernel
theorem dX11_refusals_16 : decode cX11_refusals 16 = .ok (.invokevirtual 108, 3) := by decide +kernel
theorem dX11_refusals_19 : decode cX11_refusals 19 = .ok (.getfield 228, 3) := by decide +kernel
theorem dX11_refusals_22 : decode cX11_refusals 22 = .ok (.ireturn, 1) := by decide +kernel
theorem dX11_total_0 : decode cX11_total 0 = .ok (.aload_n 0, 1) := by decide +kernel
theorem dX11_total_1 : decode cX11_total 1 = .ok (.getfield 19, 3) := by decide +kernel
theorem dX11_total_4 : decode cX11_total 4 = .ok (.iload_n 1, 1) := by decide +kernel
theorem dX11_total_5 : decode cX11_total 5 = .ok (.invokevirtual 182, 3) := by decide +kernel
theorem dX11_total_8 : decode cX11_total 8 = .ok (.ireturn, 1) := by decide +kernel
theorem dX11_congestedTicks_0 : decode cX11_congestedTicks 0 = .ok (.aload_n 0, 1) := by decide +kernel
theorem dX11_congestedTicks_1 : decode cX11_congestedTicks 1 = .ok (.iload_n 1, 1) := by decide +kernel
theorem dX11_congestedTicks_2 : decode cX11_congestedTicks 2 = .ok (.invokevirtual 105, 3) := by decide +kernel
theorem dX11_congestedTicks_5 : decode cX11_congestedTicks 5 = .ok (.aload_n 0, 1) := by decide +kernel
theorem dX11_congestedTicks_6 : decode cX11_congestedTicks 6 = .ok (.getfield 19, 3) := by decide +kernel
theorem dX11_congestedTicks_9 : decode cX11_congestedTicks 9 = .ok (.iload_n 1, 1) := by decide +kernel
theorem dX11_congestedTicks_10 : decode cX11_congestedTicks 10 = .ok (.invokevirtual 120, 3) := by decide +kernel
theorem dX11_congestedTicks_13 : decode cX11_congestedTicks 13 = .ok (.getfield 231, 3) := by decide +kernel
theorem dX11_congestedTicks_16 : decode cX11_congestedTicks 16 = .ok (.ireturn, 1) := by decide +kernel
theorem dX11_forecastCell_0 : decode cX11_forecastCell 0 = .ok (.aload_n 0, 1) := by decide +kernel
theorem dX11_forecastCell_1 : decode cX11_forecastCell 1 = .ok (.iload_n 1, 1) := by decide +kernel
theorem dX11_forecastCell_2 : decode cX11_forecastCell 2 = .ok (.invokevirtual 153, 3) := by decide +kernel
theorem dX11_forecastCell_5 : decode cX11_forecastCell 5 = .ok (.aload_n 0, 1) := by decide +kernel
theorem dX11_forecastCell_6 : decode cX11_forecastCell 6 = .ok (.iload_n 2, 1) := by decide +kernel
theorem dX11_forecastCell_7 : decode cX11_forecastCell 7 = .ok (.bipush 60, 2) := by decide +kernel
theorem dX11_forecastCell_9 : decode cX11_forecastCell 9 = .ok (.invokevirtual 178, 3) := by decide +kernel
theorem dX11_forecastCell_12 : decode cX11_forecastCell 12 = .ok (.aload_n 0, 1) := by decide +kernel
theorem dX11_forecastCell_13 : decode cX11_forecastCell 13 = .ok (.getfield 23, 3) := by decide +kernel
theorem dX11_forecastCell_16 : decode cX11_forecastCell 16 = .ok (.aload_n 0, 1) := by decide +kernel
theorem dX11_forecastCell_17 : decode cX11_forecastCell 17 = .ok (.getfield 19, 3) := by decide +kernel
theorem dX11_forecastCell_20 : decode cX11_forecastCell 20 = .ok (.invokevirtual 83, 3) := by decide +kernel
theorem dX11_forecastCell_23 : decode cX11_forecastCell 23 = .ok (.aload_n 0, 1) := by decide +kernel
theorem dX11_forecastCell_24 : decode cX11_forecastCell 24 = .ok (.getfield 39, 3) := by decide +kernel
theorem dX11_forecastCell_27 : decode cX11_forecastCell 27 = .ok (.aload_n 0, 1) := by decide +kernel
theorem dX11_forecastCell_28 : decode cX11_forecastCell 28 = .ok (.getfield 23, 3) := by decide +kernel
theorem dX11_forecastCell_31 : decode cX11_forecastCell 31 = .ok (.iload_n 2, 1) := by decide +kernel
theorem dX11_forecastCell_32 : decode cX11_forecastCell 32 = .ok (.invokevirtual 186, 3) := by decide +kernel
theorem dX11_forecastCell_35 : decode cX11_forecastCell 35 = .ok (.aload_n 0, 1) := by decide +kernel
theorem dX11_forecastCell_36 : decode cX11_forecastCell 36 = .ok (.getfield 23, 3) := by decide +kernel
theorem dX11_forecastCell_39 : decode cX11_forecastCell 39 = .ok (.iload_n 1, 1) := by decide +kernel
theorem dX11_forecastCell_40 : decode cX11_forecastCell 40 = .ok (.invokevirtual 143, 3) := by decide +kernel
theorem dX11_forecastCell_43 : decode cX11_forecastCell 43 = .ok (.getfield 190, 3) := by decide +kernel
theorem dX11_forecastCell_46 : decode cX11_forecastCell 46 = .ok (.ireturn, 1) := by decide +kernel
theorem dX11_bestHysteresis_0 : decode cX11_bestHysteresis 0 = .ok (.aload_n 0, 1) := by decide +kernel
theorem dX11_bestHysteresis_1 : decode cX11_bestHysteresis 1 = .ok (.iload_n 1, 1) := by decide +kernel
theorem dX11_bestHysteresis_2 : decode cX11_bestHysteresis 2 = .ok (.invokevirtual 105, 3) := by decide +kernel
theorem dX11_bestHysteresis_5 : decode cX11_bestHysteresis 5 = .ok (.aload_n 0, 1) := by decide +kernel
theorem dX11_bestHysteresis_6 : decode cX11_bestHysteresis 6 = .ok (.iload_n 2, 1) := by decide +kernel
theorem dX11_bestHysteresis_7 : decode cX11_bestHysteresis 7 = .ok (.invokevirtual 105, 3) := by decide +kernel
theorem dX11_bestHysteresis_10 : decode cX11_bestHysteresis 10 = .ok (.aload_n 0, 1) := by decide +kernel
theorem dX11_bestHysteresis_11 : decode cX11_bestHysteresis 11 = .ok (.iload_n 3, 1) := by decide +kernel
theorem dX11_bestHysteresis_12 : decode cX11_bestHysteresis 12 = .ok (.bipush 30, 2) := by decide +kernel
theorem dX11_bestHysteresis_14 : decode cX11_bestHysteresis 14 = .ok (.invokevirtual 178, 3) := by decide +kernel
theorem dX11_bestHysteresis_17 : decode cX11_bestHysteresis 17 = .ok (.aload_n 0, 1) := by decide +kernel
theorem dX11_bestHysteresis_18 : decode cX11_bestHysteresis 18 = .ok (.getfield 19, 3) := by decide +kernel
theorem dX11_bestHysteresis_21 : decode cX11_bestHysteresis 21 = .ok (.iload_n 1, 1) := by decide +kernel
theorem dX11_bestHysteresis_22 : decode cX11_bestHysteresis 22 = .ok (.iload_n 2, 1) := by decide +kernel
theorem dX11_bestHysteresis_23 : decode cX11_bestHysteresis 23 = .ok (.invokevirtual 108, 3) := by decide +kernel
theorem dX11_bestHysteresis_26 : decode cX11_bestHysteresis 26 = .ok (.getfield 112, 3) := by decide +kernel
theorem dX11_bestHysteresis_29 : decode cX11_bestHysteresis 29 = .ok (.ifCond .ne 6, 3) := by decide +kernel
theorem dX11_bestHysteresis_32 : decode cX11_bestHysteresis 32 = .ok (.bipush (-2), 2) := by decide +kernel
theorem dX11_bestHysteresis_34 : decode cX11_bestHysteresis 34 = .ok (.ireturn, 1) := by decide +kernel
theorem dX11_bestHysteresis_35 : decode cX11_bestHysteresis 35 = .ok (.iconst 0, 1) := by decide +kernel
theorem dX11_bestHysteresis_36 : decode cX11_bestHysteresis 36 = .ok (.istore 4, 2) := by decide +kernel
theorem dX11_bestHysteresis_38 : decode cX11_bestHysteresis 38 = .ok (.iconst 0, 1) := by decide +kernel
theorem dX11_bestHysteresis_39 : decode cX11_bestHysteresis 39 = .ok (.istore 5, 2) := by decide +kernel
theorem dX11_bestHysteresis_41 : decode cX11_bestHysteresis 41 = .ok (.iconst 0, 1) := by decide +kernel
theorem dX11_bestHysteresis_42 : decode cX11_bestHysteresis 42 = .ok (.istore 6, 2) := by decide +kernel
theorem dX11_bestHysteresis_44 : decode cX11_bestHysteresis 44 = .ok (.iconst 0, 1) := by decide +kernel
theorem dX11_bestHysteresis_45 : decode cX11_bestHysteresis 45 = .ok (.istore 7, 2) := by decide +kernel
theorem dX11_bestHysteresis_47 : decode cX11_bestHysteresis 47 = .ok (.iload 7, 2) := by decide +kernel
theorem dX11_bestHysteresis_49 : decode cX11_bestHysteresis 49 = .ok (.bipush 30, 2) := by decide +kernel
theorem dX11_bestHysteresis_51 : decode cX11_bestHysteresis 51 = .ok (.if_icmp .gt 104, 3) := by decide +kernel
theorem dX11_bestHysteresis_54 : decode cX11_bestHysteresis 54 = .ok (.aload_n 0, 1) := by decide +kernel
theorem dX11_bestHysteresis_55 : decode cX11_bestHysteresis 55 = .ok (.getfield 23, 3) := by decide +kernel
theorem dX11_bestHysteresis_58 : decode cX11_bestHysteresis 58 = .ok (.aload_n 0, 1) := by decide +kernel
theorem dX11_bestHysteresis_59 : decode cX11_bestHysteresis 59 = .ok (.getfield 19, 3) := by decide +kernel
theorem dX11_bestHysteresis_62 : decode cX11_bestHysteresis 62 = .ok (.invokevirtual 83, 3) := by decide +kernel
theorem dX11_bestHysteresis_65 : decode cX11_bestHysteresis 65 = .ok (.aload_n 0, 1) := by decide +kernel
theorem dX11_bestHysteresis_66 : decode cX11_bestHysteresis 66 = .ok (.getfield 23, 3) := by decide +kernel
theorem dX11_bestHysteresis_69 : decode cX11_bestHysteresis 69 = .ok (.iload_n 1, 1) := by decide +kernel
theorem dX11_bestHysteresis_70 : decode cX11_bestHysteresis 70 = .ok (.iload_n 2, 1) := by decide +kernel
theorem dX11_bestHysteresis_71 : decode cX11_bestHysteresis 71 = .ok (.invokevirtual 108, 3) := by decide +kernel
theorem dX11_bestHysteresis_74 : decode cX11_bestHysteresis 74 = .ok (.iload 7, 2) := by decide +kernel
theorem dX11_bestHysteresis_76 : decode cX11_bestHysteresis 76 = .ok (.putfield 117, 3) := by decide +kernel
theorem dX11_bestHysteresis_79 : decode cX11_bestHysteresis 79 = .ok (.aload_n 0, 1) := by decide +kernel
theorem dX11_bestHysteresis_80 : decode cX11_bestHysteresis 80 = .ok (.getfield 39, 3) := by decide +kernel
theorem dX11_bestHysteresis_83 : decode cX11_bestHysteresis 83 = .ok (.aload_n 0, 1) := by decide +kernel
theorem dX11_bestHysteresis_84 : decode cX11_bestHysteresis 84 = .ok (.getfield 23, 3) := by decide +kernel
theorem dX11_bestHysteresis_87 : decode cX11_bestHysteresis 87 = .ok (.iload_n 3, 1) := by decide +kernel
theorem dX11_bestHysteresis_88 : decode cX11_bestHysteresis 88 = .ok (.invokevirtual 186, 3) := by decide +kernel
theorem dX11_bestHysteresis_91 : decode cX11_bestHysteresis 91 = .ok (.aload_n 0, 1) := by decide +kernel
theorem dX11_bestHysteresis_92 : decode cX11_bestHysteresis 92 = .ok (.getfield 23, 3) := by decide +kernel
theorem dX11_bestHysteresis_95 : decode cX11_bestHysteresis 95 = .ok (.iconst 3, 1) := by decide +kernel
theorem dX11_bestHysteresis_96 : decode cX11_bestHysteresis 96 = .ok (.invokevirtual 182, 3) := by decide +kernel
theorem dX11_bestHysteresis_99 : decode cX11_bestHysteresis 99 = .ok (.istore 8, 2) := by decide +kernel
theorem dX11_bestHysteresis_101 : decode cX11_bestHysteresis 101 = .ok (.aload_n 0, 1) := by decide +kernel
theorem dX11_bestHysteresis_102 : decode cX11_bestHysteresis 102 = .ok (.getfield 23, 3) := by decide +kernel
theorem dX11_bestHysteresis_105 : decode cX11_bestHysteresis 105 = .ok (.iconst 0, 1) := by decide +kernel
theorem dX11_bestHysteresis_106 : decode cX11_bestHysteresis 106 = .ok (.invokevirtual 182, 3) := by decide +kernel
theorem dX11_bestHysteresis_109 : decode cX11_bestHysteresis 109 = .ok (.istore 9, 2) := by decide +kernel
theorem dX11_bestHysteresis_111 : decode cX11_bestHysteresis 111 = .ok (.iload 7, 2) := by decide +kernel
theorem dX11_bestHysteresis_113 : decode cX11_bestHysteresis 113 = .ok (.ifCond .eq 24, 3) := by decide +kernel
theorem dX11_bestHysteresis_116 : decode cX11_bestHysteresis 116 = .ok (.iload 8, 2) := by decide +kernel
theorem dX11_bestHysteresis_118 : decode cX11_bestHysteresis 118 = .ok (.iload 5, 2) := by decide +kernel
theorem dX11_bestHysteresis_120 : decode cX11_bestHysteresis 120 = .ok (.if_icmp .lt 17, 3) := by decide +kernel
theorem dX11_bestHysteresis_123 : decode cX11_bestHysteresis 123 = .ok (.iload 8, 2) := by decide +kernel
theorem dX11_bestHysteresis_125 : decode cX11_bestHysteresis 125 = .ok (.iload 5, 2) := by decide +kernel
theorem dX11_bestHysteresis_127 : decode cX11_bestHysteresis 127 = .ok (.if_icmp .ne 22, 3) := by decide +kernel
theorem dX11_bestHysteresis_130 : decode cX11_bestHysteresis 130 = .ok (.iload 9, 2) := by decide +kernel
theorem dX11_bestHysteresis_132 : decode cX11_bestHysteresis 132 = .ok (.iload 6, 2) := by decide +kernel
theorem dX11_bestHysteresis_134 : decode cX11_bestHysteresis 134 = .ok (.if_icmp .ge 15, 3) := by decide +kernel
theorem dX11_bestHysteresis_137 : decode cX11_bestHysteresis 137 = .ok (.iload 7, 2) := by decide +kernel
theorem dX11_bestHysteresis_139 : decode cX11_bestHysteresis 139 = .ok (.istore 4, 2) := by decide +kernel
theorem dX11_bestHysteresis_141 : decode cX11_bestHysteresis 141 = .ok (.iload 8, 2) := by decide +kernel
theorem dX11_bestHysteresis_143 : decode cX11_bestHysteresis 143 = .ok (.istore 5, 2) := by decide +kernel
theorem dX11_bestHysteresis_145 : decode cX11_bestHysteresis 145 = .ok (.iload 9, 2) := by decide +kernel
theorem dX11_bestHysteresis_147 : decode cX11_bestHysteresis 147 = .ok (.istore 6, 2) := by decide +kernel
theorem dX11_bestHysteresis_149 : decode cX11_bestHysteresis 149 = .ok (.iinc 7 1, 3) := by decide +kernel
theorem dX11_bestHysteresis_152 : decode cX11_bestHysteresis 152 = .ok (.goto (-105), 3) := by decide +kernel
theorem dX11_bestHysteresis_155 : decode cX11_bestHysteresis 155 = .ok (.iload 4, 2) := by decide +kernel
theorem dX11_bestHysteresis_157 : decode cX11_bestHysteresis 157 = .ok (.ireturn, 1) := by decide +kernel
theorem dX11_undoCount_0 : decode cX11_undoCount 0 = .ok (.aload_n 0, 1) := by decide +kernel
theorem dX11_undoCount_1 : decode cX11_undoCount 1 = .ok (.getfield 32, 3) := by decide +kernel
theorem dX11_undoCount_4 : decode cX11_undoCount 4 = .ok (.getfield 234, 3) := by decide +kernel
theorem dX11_undoCount_7 : decode cX11_undoCount 7 = .ok (.ireturn, 1) := by decide +kernel
theorem dX11_undo_0 : decode cX11_undo 0 = .ok (.aload_n 0, 1) := by decide +kernel
theorem dX11_undo_1 : decode cX11_undo 1 = .ok (.getfield 32, 3) := by decide +kernel
theorem dX11_undo_4 : decode cX11_undo 4 = .ok (.getfield 234, 3) := by decide +kernel
theorem dX11_undo_7 : decode cX11_undo 7 = .ok (.ifCond .gt 5, 3) := by decide +kernel
theorem dX11_undo_10 : decode cX11_undo 10 = .ok (.iconst (-1), 1) := by decide +kernel
theorem dX11_undo_11 : decode cX11_undo 11 = .ok (.ireturn, 1) := by decide +kernel
theorem dX11_undo_12 : decode cX11_undo 12 = .ok (.aload_n 0, 1) := by decide +kernel
theorem dX11_undo_13 : decode cX11_undo 13 = .ok (.getfield 32, 3) := by decide +kernel
theorem dX11_undo_16 : decode cX11_undo 16 = .ok (.aload_n 0, 1) := by decide +kernel
theorem dX11_undo_17 : decode cX11_undo 17 = .ok (.getfield 19, 3) := by decide +kernel
theorem dX11_undo_20 : decode cX11_undo 20 = .ok (.invokevirtual 237, 3) := by decide +kernel
theorem dX11_undo_23 : decode cX11_undo 23 = .ok (.aload_n 0, 1) := by decide +kernel
theorem dX11_undo_24 : decode cX11_undo 24 = .ok (.getfield 32, 3) := by decide +kernel
theorem dX11_undo_27 : decode cX11_undo 27 = .ok (.getfield 234, 3) := by decide +kernel
theorem dX11_undo_30 : decode cX11_undo 30 = .ok (.ireturn, 1) := by decide +kernel
theorem dX11_saveSnapshot_0 : decode cX11_saveSnapshot 0 = .ok (.aload_n 0, 1) := by decide +kernel
theorem dX11_saveSnapshot_1 : decode cX11_saveSnapshot 1 = .ok (.getfield 26, 3) := by decide +kernel
theorem dX11_saveSnapshot_4 : decode cX11_saveSnapshot 4 = .ok (.aload_n 0, 1) := by decide +kernel
theorem dX11_saveSnapshot_5 : decode cX11_saveSnapshot 5 = .ok (.getfield 19, 3) := by decide +kernel
theorem dX11_saveSnapshot_8 : decode cX11_saveSnapshot 8 = .ok (.invokevirtual 83, 3) := by decide +kernel
theorem dX11_saveSnapshot_11 : decode cX11_saveSnapshot 11 = .ok (.aload_n 0, 1) := by decide +kernel
theorem dX11_saveSnapshot_12 : decode cX11_saveSnapshot 12 = .ok (.iconst 1, 1) := by decide +kernel
theorem dX11_saveSnapshot_13 : decode cX11_saveSnapshot 13 = .ok (.putfield 50, 3) := by decide +kernel
theorem dX11_saveSnapshot_16 : decode cX11_saveSnapshot 16 = .ok (.return_, 1) := by decide +kernel
theorem dX11_restoreSnapshot_0 : decode cX11_restoreSnapshot 0 = .ok (.aload_n 0, 1) := by decide +kernel
theorem dX11_restoreSnapshot_1 : decode cX11_restoreSnapshot 1 = .ok (.getfield 50, 3) := by decide +kernel
theorem dX11_restoreSnapshot_4 : decode cX11_restoreSnapshot 4 = .ok (.ifCond .ne 5, 3) := by decide +kernel
theorem dX11_restoreSnapshot_7 : decode cX11_restoreSnapshot 7 = .ok (.iconst 0, 1) := by decide +kernel
theorem dX11_restoreSnapshot_8 : decode cX11_restoreSnapshot 8 = .ok (.ireturn, 1) := by decide +kernel
theorem dX11_restoreSnapshot_9 : decode cX11_restoreSnapshot 9 = .ok (.aload_n 0, 1) := by decide +kernel
theorem dX11_restoreSnapshot_10 : decode cX11_restoreSnapshot 10 = .ok (.getfield 19, 3) := by decide +kernel
theorem dX11_restoreSnapshot_13 : decode cX11_restoreSnapshot 13 = .ok (.aload_n 0, 1) := by decide +kernel
theorem dX11_restoreSnapshot_14 : decode cX11_restoreSnapshot 14 = .ok (.getfield 26, 3) := by decide +kernel
theorem dX11_restoreSnapshot_17 : decode cX11_restoreSnapshot 17 = .ok (.invokevirtual 83, 3) := by decide +kernel
theorem dX11_restoreSnapshot_20 : decode cX11_restoreSnapshot 20 = .ok (.aload_n 0, 1) := by decide +kernel
theorem dX11_restoreSnapshot_21 : decode cX11_restoreSnapshot 21 = .ok (.getfield 32, 3) := by decide +kernel
theorem dX11_restoreSnapshot_24 : decode cX11_restoreSnapshot 24 = .ok (.invokevirtual 87, 3) := by decide +kernel
theorem dX11_restoreSnapshot_27 : decode cX11_restoreSnapshot 27 = .ok (.iconst 1, 1) := by decide +kernel
theorem dX11_restoreSnapshot_28 : decode cX11_restoreSnapshot 28 = .ok (.ireturn, 1) := by decide +kernel
theorem dX11_requireCell_0 : decode cX11_requireCell 0 = .ok (.iload_n 1, 1) := by decide +kernel
theorem dX11_requireCell_1 : decode cX11_requireCell 1 = .ok (.ifCond .lt 14, 3) := by decide +kernel
theorem dX11_requireCell_4 : decode cX11_requireCell 4 = .ok (.iload_n 1, 1) := by decide +kernel
theorem dX11_requireCell_5 : decode cX11_requireCell 5 = .ok (.aload_n 0, 1) := by decide +kernel
theorem dX11_requireCell_6 : decode cX11_requireCell 6 = .ok (.getfield 19, 3) := by decide +kernel
theorem dX11_requireCell_9 : decode cX11_requireCell 9 = .ok (.getfield 90, 3) := by decide +kernel
theorem dX11_requireCell_12 : decode cX11_requireCell 12 = .ok (.if_icmp .lt 13, 3) := by decide +kernel
theorem dX11_requireCell_15 : decode cX11_requireCell 15 = .ok (.new 253, 3) := by decide +kernel
theorem dX11_requireCell_18 : decode cX11_requireCell 18 = .ok (.dup, 1) := by decide +kernel
theorem dX11_requireCell_19 : decode cX11_requireCell 19 = .ok (.ldc 255, 2) := by decide +kernel
theorem dX11_requireCell_21 : decode cX11_requireCell 21 = .ok (.invokespecial 257, 3) := by decide +kernel
theorem dX11_requireCell_24 : decode cX11_requireCell 24 = .ok (.athrow, 1) := by decide +kernel
theorem dX11_requireCell_25 : decode cX11_requireCell 25 = .ok (.return_, 1) := by decide +kernel
theorem dX11_requireMobile_0 : decode cX11_requireMobile 0 = .ok (.iload_n 1, 1) := by decide +kernel
theorem dX11_requireMobile_1 : decode cX11_requireMobile 1 = .ok (.ifCond .lt 14, 3) := by decide +kernel
theorem dX11_requireMobile_4 : decode cX11_requireMobile 4 = .ok (.iload_n 1, 1) := by decide +kernel
theorem dX11_requireMobile_5 : decode cX11_requireMobile 5 = .ok (.aload_n 0, 1) := by decide +kernel
theorem dX11_requireMobile_6 : decode cX11_requireMobile 6 = .ok (.getfield 19, 3) := by decide +kernel
theorem dX11_requireMobile_9 : decode cX11_requireMobile 9 = .ok (.getfield 99, 3) := by decide +kernel
theorem dX11_requireMobile_12 : decode cX11_requireMobile 12 = .ok (.if_icmp .lt 14, 3) := by decide +kernel
theorem dX11_requireMobile_15 : decode cX11_requireMobile 15 = .ok (.new 253, 3) := by decide +kernel
theorem dX11_requireMobile_18 : decode cX11_requireMobile 18 = .ok (.dup, 1) := by decide +kernel
theorem dX11_requireMobile_19 : decode cX11_requireMobile 19 = .ok (.ldc_w 260, 3) := by decide +kernel
theorem dX11_requireMobile_22 : decode cX11_requireMobile 22 = .ok (.invokespecial 257, 3) := by decide +kernel
theorem dX11_requireMobile_25 : decode cX11_requireMobile 25 = .ok (.athrow, 1) := by decide +kernel
theorem dX11_requireMobile_26 : decode cX11_requireMobile 26 = .ok (.return_, 1) := by decide +kernel
theorem dX11_requireTicks_0 : decode cX11_requireTicks 0 = .ok (.iload_n 1, 1) := by decide +kernel
theorem dX11_requireTicks_1 : decode cX11_requireTicks 1 = .ok (.iconst 0, 1) := by decide +kernel
theorem dX11_requireTicks_2 : decode cX11_requireTicks 2 = .ok (.iload_n 2, 1) := by decide +kernel
theorem dX11_requireTicks_3 : decode cX11_requireTicks 3 = .ok (.invokestatic 62, 3) := by decide +kernel
theorem dX11_requireTicks_6 : decode cX11_requireTicks 6 = .ok (.aload_n 0, 1) := by decide +kernel
theorem dX11_requireTicks_7 : decode cX11_requireTicks 7 = .ok (.getfield 19, 3) := by decide +kernel
theorem dX11_requireTicks_10 : decode cX11_requireTicks 10 = .ok (.getfield 102, 3) := by decide +kernel
theorem dX11_requireTicks_13 : decode cX11_requireTicks 13 = .ok (.iload_n 1, 1) := by decide +kernel
theorem dX11_requireTicks_14 : decode cX11_requireTicks 14 = .ok (.iadd, 1) := by decide +kernel
theorem dX11_requireTicks_15 : decode cX11_requireTicks 15 = .ok (.iconst 0, 1) := by decide +kernel
theorem dX11_requireTicks_16 : decode cX11_requireTicks 16 = .ok (.ldc_w 262, 3) := by decide +kernel
theorem dX11_requireTicks_19 : decode cX11_requireTicks 19 = .ok (.invokestatic 62, 3) := by decide +kernel
theorem dX11_requireTicks_22 : decode cX11_requireTicks 22 = .ok (.return_, 1) := by decide +kernel
theorem dX11_requireIndex_0 : decode cX11_requireIndex 0 = .ok (.iload_n 0, 1) := by decide +kernel
theorem dX11_requireIndex_1 : decode cX11_requireIndex 1 = .ok (.ifCond .ge 14, 3) := by decide +kernel
theorem dX11_requireIndex_4 : decode cX11_requireIndex 4 = .ok (.new 253, 3) := by decide +kernel
theorem dX11_requireIndex_7 : decode cX11_requireIndex 7 = .ok (.dup, 1) := by decide +kernel
theorem dX11_requireIndex_8 : decode cX11_requireIndex 8 = .ok (.ldc_w 263, 3) := by decide +kernel
theorem dX11_requireIndex_11 : decode cX11_requireIndex 11 = .ok (.invokespecial 257, 3) := by decide +kernel
theorem dX11_requireIndex_14 : decode cX11_requireIndex 14 = .ok (.athrow, 1) := by decide +kernel
theorem dX11_requireIndex_15 : decode cX11_requireIndex 15 = .ok (.return_, 1) := by decide +kernel
theorem dX11_requireRange_0 : decode cX11_requireRange 0 = .ok (.iload_n 0, 1) := by decide +kernel
theorem dX11_requireRange_1 : decode cX11_requireRange 1 = .ok (.iload_n 1, 1) := by decide +kernel
theorem dX11_requireRange_2 : decode cX11_requireRange 2 = .ok (.if_icmp .lt 8, 3) := by decide +kernel
theorem dX11_requireRange_5 : decode cX11_requireRange 5 = .ok (.iload_n 0, 1) := by decide +kernel
theorem dX11_requireRange_6 : decode cX11_requireRange 6 = .ok (.iload_n 2, 1) := by decide +kernel
theorem dX11_requireRange_7 : decode cX11_requireRange 7 = .ok (.if_icmp .le 14, 3) := by decide +kernel
theorem dX11_requireRange_10 : decode cX11_requireRange 10 = .ok (.new 265, 3) := by decide +kernel
theorem dX11_requireRange_13 : decode cX11_requireRange 13 = .ok (.dup, 1) := by decide +kernel
theorem dX11_requireRange_14 : decode cX11_requireRange 14 = .ok (.ldc_w 267, 3) := by decide +kernel
theorem dX11_requireRange_17 : decode cX11_requireRange 17 = .ok (.invokespecial 269, 3) := by decide +kernel
theorem dX11_requireRange_20 : decode cX11_requireRange 20 = .ok (.athrow, 1) := by decide +kernel
theorem dX11_requireRange_21 : decode cX11_requireRange 21 = .ok (.return_, 1) := by decide +kernel
theorem dX11_copyInts_0 : decode cX11_copyInts 0 = .ok (.aload_n 0, 1) := by decide +kernel
theorem dX11_copyInts_1 : decode cX11_copyInts 1 = .ok (.iconst 0, 1) := by decide +kernel
theorem dX11_copyInts_2 : decode cX11_copyInts 2 = .ok (.aload_n 1, 1) := by decide +kernel
theorem dX11_copyInts_3 : decode cX11_copyInts 3 = .ok (.iconst 0, 1) := by decide +kernel
theorem dX11_copyInts_4 : decode cX11_copyInts 4 = .ok (.aload_n 0, 1) := by decide +kernel
theorem dX11_copyInts_5 : decode cX11_copyInts 5 = .ok (.arraylength, 1) := by decide +kernel
theorem dX11_copyInts_6 : decode cX11_copyInts 6 = .ok (.aload_n 1, 1) := by decide +kernel
theorem dX11_copyInts_7 : decode cX11_copyInts 7 = .ok (.arraylength, 1) := by decide +kernel
theorem dX11_copyInts_8 : decode cX11_copyInts 8 = .ok (.invokestatic 240, 3) := by decide +kernel
theorem dX11_copyInts_11 : decode cX11_copyInts 11 = .ok (.invokestatic 270, 3) := by decide +kernel
theorem dX11_copyInts_14 : decode cX11_copyInts 14 = .ok (.return_, 1) := by decide +kernel
theorem dJ9_abs_0f7a4_0 : decode cJ9_abs_0f7a4 0 = .ok (.iload_n 0, 1) := by decide +kernel
theorem dJ9_abs_0f7a4_1 : decode cJ9_abs_0f7a4 1 = .ok (.ifCond .ge 8, 3) := by decide +kernel
theorem dJ9_abs_0f7a4_4 : decode cJ9_abs_0f7a4 4 = .ok (.iload_n 0, 1) := by decide +kernel
theorem dJ9_abs_0f7a4_5 : decode cJ9_abs_0f7a4 5 = .ok (.ineg, 1) := by decide +kernel
theorem dJ9_abs_0f7a4_6 : decode cJ9_abs_0f7a4 6 = .ok (.goto 4, 3) := by decide +kernel
theorem dJ9_abs_0f7a4_9 : decode cJ9_abs_0f7a4 9 = .ok (.iload_n 0, 1) := by decide +kernel
theorem dJ9_abs_0f7a4_10 : decode cJ9_abs_0f7a4 10 = .ok (.ireturn, 1) := by decide +kernel
theorem dJ9_max_7cf53_0 : decode cJ9_max_7cf53 0 = .ok (.iload_n 0, 1) := by decide +kernel
theorem dJ9_max_7cf53_1 : decode cJ9_max_7cf53 1 = .ok (.iload_n 1, 1) := by decide +kernel
theorem dJ9_max_7cf53_2 : decode cJ9_max_7cf53 2 = .ok (.if_icmp .lt 7, 3) := by decide +kernel
theorem dJ9_max_7cf53_5 : decode cJ9_max_7cf53 5 = .ok (.iload_n 0, 1) := by decide +kernel
theorem dJ9_max_7cf53_6 : decode cJ9_max_7cf53 6 = .ok (.goto 4, 3) := by decide +kernel
theorem dJ9_max_7cf53_9 : decode cJ9_max_7cf53 9 = .ok (.iload_n 1, 1) := by decide +kernel
theorem dJ9_max_7cf53_10 : decode cJ9_max_7cf53 10 = .ok (.ireturn, 1) := by decide +kernel
theorem dJ9_min_7cf53_0 : decode cJ9_min_7cf53 0 = .ok (.iload_n 0, 1) := by decide +kernel
theorem dJ9_min_7cf53_1 : decode cJ9_min_7cf53 1 = .ok (.iload_n 1, 1) := by decide +kernel
theorem dJ9_min_7cf53_2 : decode cJ9_min_7cf53 2 = .ok (.if_icmp .gt 7, 3) := by decide +kernel
theorem dJ9_min_7cf53_5 : decode cJ9_min_7cf53 5 = .ok (.iload_n 0, 1) := by decide +kernel
theorem dJ9_min_7cf53_6 : decode cJ9_min_7cf53 6 = .ok (.goto 4, 3) := by decide +kernel
theorem dJ9_min_7cf53_9 : decode cJ9_min_7cf53 9 = .ok (.iload_n 1, 1) := by decide +kernel
theorem dJ9_min_7cf53_10 : decode cJ9_min_7cf53 10 = .ok (.ireturn, 1) := by decide +kernel
theorem dJ0_length_8abf5_0 : decode cJ0_length_8abf5 0 = .ok (.aload_n 0, 1) := by decide +kernel
theorem dJ0_length_8abf5_1 : decode cJ0_length_8abf5 1 = .ok (.getfield 9, 3) := by decide +kernel
theorem dJ0_length_8abf5_4 : decode cJ0_length_8abf5 4 = .ok (.arraylength, 1) := by decide +kernel
theorem dJ0_length_8abf5_5 : decode cJ0_length_8abf5 5 = .ok (.aload_n 0, 1) := by decide +kernel
theorem dJ0_length_8abf5_6 : decode cJ0_length_8abf5 6 = .ok (.invokevirtual 335, 3) := by decide +kernel
theorem dJ0_length_8abf5_9 : decode cJ0_length_8abf5 9 = .ok (.ishr, 1) := by decide +kernel
theorem dJ0_length_8abf5_10 : decode cJ0_length_8abf5 10 = .ok (.ireturn, 1) := by decide +kernel
theorem dJ0_charAt_5068e_0 : decode cJ0_charAt_5068e 0 = .ok (.aload_n 0, 1) := by decide +kernel
theorem dJ0_charAt_5068e_1 : decode cJ0_charAt_5068e 1 = .ok (.invokevirtual 492, 3) := by decide +kernel
theorem dJ0_charAt_5068e_4 : decode cJ0_charAt_5068e 4 = .ok (.ifCond .eq 12, 3) := by decide +kernel
theorem dJ0_charAt_5068e_7 : decode cJ0_charAt_5068e 7 = .ok (.aload_n 0, 1) := by decide +kernel
theorem dJ0_charAt_5068e_8 : decode cJ0_charAt_5068e 8 = .ok (.getfield 9, 3) := by decide +kernel
theorem dJ0_charAt_5068e_11 : decode cJ0_charAt_5068e 11 = .ok (.iload_n 1, 1) := by decide +kernel
theorem dJ0_charAt_5068e_12 : decode cJ0_charAt_5068e 12 = .ok (.invokestatic 495, 3) := by decide +kernel
theorem dJ0_charAt_5068e_15 : decode cJ0_charAt_5068e 15 = .ok (.ireturn, 1) := by decide +kernel
theorem dJ0_charAt_5068e_16 : decode cJ0_charAt_5068e 16 = .ok (.aload_n 0, 1) := by decide +kernel
theorem dJ0_charAt_5068e_17 : decode cJ0_charAt_5068e 17 = .ok (.getfield 9, 3) := by decide +kernel
theorem dJ0_charAt_5068e_20 : decode cJ0_charAt_5068e 20 = .ok (.iload_n 1, 1) := by decide +kernel
theorem dJ0_charAt_5068e_21 : decode cJ0_charAt_5068e 21 = .ok (.invokestatic 498, 3) := by decide +kernel
theorem dJ0_charAt_5068e_24 : decode cJ0_charAt_5068e 24 = .ok (.ireturn, 1) := by decide +kernel
theorem dJ0_coder_7d493_0 : decode cJ0_coder_7d493 0 = .ok (.getstatic 38, 3) := by decide +kernel
theorem dJ0_coder_7d493_3 : decode cJ0_coder_7d493 3 = .ok (.ifCond .eq 10, 3) := by decide +kernel
theorem dJ0_coder_7d493_6 : decode cJ0_coder_7d493 6 = .ok (.aload_n 0, 1) := by decide +kernel
theorem dJ0_coder_7d493_7 : decode cJ0_coder_7d493 7 = .ok (.getfield 15, 3) := by decide +kernel
theorem dJ0_coder_7d493_10 : decode cJ0_coder_7d493 10 = .ok (.goto 4, 3) := by decide +kernel
theorem dJ0_coder_7d493_13 : decode cJ0_coder_7d493 13 = .ok (.iconst 1, 1) := by decide +kernel
theorem dJ0_coder_7d493_14 : decode cJ0_coder_7d493 14 = .ok (.ireturn, 1) := by decide +kernel
theorem dJ0_isLatin1_aae02_0 : decode cJ0_isLatin1_aae02 0 = .ok (.getstatic 38, 3) := by decide +kernel
theorem dJ0_isLatin1_aae02_3 : decode cJ0_isLatin1_aae02 3 = .ok (.ifCond .eq 14, 3) := by decide +kernel
theorem dJ0_isLatin1_aae02_6 : decode cJ0_isLatin1_aae02 6 = .ok (.aload_n 0, 1) := by decide +kernel
theorem dJ0_isLatin1_aae02_7 : decode cJ0_isLatin1_aae02 7 = .ok (.getfield 15, 3) := by decide +kernel
theorem dJ0_isLatin1_aae02_10 : decode cJ0_isLatin1_aae02 10 = .ok (.ifCond .ne 7, 3) := by decide +kernel
theorem dJ0_isLatin1_aae02_13 : decode cJ0_isLatin1_aae02 13 = .ok (.iconst 1, 1) := by decide +kernel
theorem dJ0_isLatin1_aae02_14 : decode cJ0_isLatin1_aae02 14 = .ok (.goto 4, 3) := by decide +kernel
theorem dJ0_isLatin1_aae02_17 : decode cJ0_isLatin1_aae02 17 = .ok (.iconst 0, 1) := by decide +kernel
theorem dJ0_isLatin1_aae02_18 : decode cJ0_isLatin1_aae02 18 = .ok (.ireturn, 1) := by decide +kernel
theorem dJ0_checkIndex_df160_0 : decode cJ0_checkIndex_df160 0 = .ok (.iload_n 0, 1) := by decide +kernel
theorem dJ0_checkIndex_df160_1 : decode cJ0_checkIndex_df160 1 = .ok (.iload_n 1, 1) := by decide +kernel
theorem dJ0_checkIndex_df160_2 : decode cJ0_checkIndex_df160 2 = .ok (.getstatic 1053, 3) := by decide +kernel
theorem dJ0_checkIndex_df160_5 : decode cJ0_checkIndex_df160 5 = .ok (.invokestatic 1059, 3) := by decide +kernel
theorem dJ0_checkIndex_df160_8 : decode cJ0_checkIndex_df160 8 = .ok (.pop, 1) := by decide +kernel
theorem dJ0_checkIndex_df160_9 : decode cJ0_checkIndex_df160 9 = .ok (.return_, 1) := by decide +kernel
theorem dJ1_charAt_3b067_0 : decode cJ1_charAt_3b067 0 = .ok (.iload_n 1, 1) := by decide +kernel
theorem dJ1_charAt_3b067_1 : decode cJ1_charAt_3b067 1 = .ok (.aload_n 0, 1) := by decide +kernel
theorem dJ1_charAt_3b067_2 : decode cJ1_charAt_3b067 2 = .ok (.arraylength, 1) := by decide +kernel
theorem dJ1_charAt_3b067_3 : decode cJ1_charAt_3b067 3 = .ok (.invokestatic 9, 3) := by decide +kernel
theorem dJ1_charAt_3b067_6 : decode cJ1_charAt_3b067 6 = .ok (.aload_n 0, 1) := by decide +kernel
theorem dJ1_charAt_3b067_7 : decode cJ1_charAt_3b067 7 = .ok (.iload_n 1, 1) := by decide +kernel
theorem dJ1_charAt_3b067_8 : decode cJ1_charAt_3b067 8 = .ok (.baload, 1) := by decide +kernel
theorem dJ1_charAt_3b067_9 : decode cJ1_charAt_3b067 9 = .ok (.sipush 255, 3) := by decide +kernel
theorem dJ1_charAt_3b067_12 : decode cJ1_charAt_3b067 12 = .ok (.iand, 1) := by decide +kernel
theorem dJ1_charAt_3b067_13 : decode cJ1_charAt_3b067 13 = .ok (.i2c, 1) := by decide +kernel
theorem dJ1_charAt_3b067_14 : decode cJ1_charAt_3b067 14 = .ok (.ireturn, 1) := by decide +kernel
theorem dJ2_getChar_3b067_0 : decode cJ2_getChar_3b067 0 = .ok (.getstatic 44, 3) := by decide +kernel
theorem dJ2_getChar_3b067_3 : decode cJ2_getChar_3b067 3 = .ok (.ifCond .ne 25, 3) := by decide +kernel
theorem dJ2_getChar_3b067_6 : decode cJ2_getChar_3b067 6 = .ok (.iload_n 1, 1) := by decide +kernel
theorem dJ2_getChar_3b067_7 : decode cJ2_getChar_3b067 7 = .ok (.ifCond .lt 11, 3) := by decide +kernel
theorem dJ2_getChar_3b067_10 : decode cJ2_getChar_3b067 10 = .ok (.iload_n 1, 1) := by decide +kernel
theorem dJ2_getChar_3b067_11 : decode cJ2_getChar_3b067 11 = .ok (.aload_n 0, 1) := by decide +kernel
theorem dJ2_getChar_3b067_12 : decode cJ2_getChar_3b067 12 = .ok (.invokestatic 48, 3) := by decide +kernel
theorem dJ2_getChar_3b067_15 : decode cJ2_getChar_3b067 15 = .ok (.if_icmp .lt 13, 3) := by decide +kernel
theorem dJ2_getChar_3b067_18 : decode cJ2_getChar_3b067 18 = .ok (.new 52, 3) := by decide +kernel
theorem dJ2_getChar_3b067_21 : decode cJ2_getChar_3b067 21 = .ok (.dup, 1) := by decide +kernel
theorem dJ2_getChar_3b067_22 : decode cJ2_getChar_3b067 22 = .ok (.ldc 54, 2) := by decide +kernel
theorem dJ2_getChar_3b067_24 : decode cJ2_getChar_3b067 24 = .ok (.invokespecial 56, 3) := by decide +kernel
theorem dJ2_getChar_3b067_27 : decode cJ2_getChar_3b067 27 = .ok (.athrow, 1) := by decide +kernel
theorem dJ2_getChar_3b067_28 : decode cJ2_getChar_3b067 28 = .ok (.iload_n 1, 1) := by decide +kernel
theorem dJ2_getChar_3b067_29 : decode cJ2_getChar_3b067 29 = .ok (.iconst 1, 1) := by decide +kernel
theorem dJ2_getChar_3b067_30 : decode cJ2_getChar_3b067 30 = .ok (.ishl, 1) := by decide +kernel
theorem dJ2_getChar_3b067_31 : decode cJ2_getChar_3b067 31 = .ok (.istore_n 1, 1) := by decide +kernel
theorem dJ2_getChar_3b067_32 : decode cJ2_getChar_3b067 32 = .ok (.aload_n 0, 1) := by decide +kernel
theorem dJ2_getChar_3b067_33 : decode cJ2_getChar_3b067 33 = .ok (.iload_n 1, 1) := by decide +kernel
theorem dJ2_getChar_3b067_34 : decode cJ2_getChar_3b067 34 = .ok (.iinc 1 1, 3) := by decide +kernel
theorem dJ2_getChar_3b067_37 : decode cJ2_getChar_3b067 37 = .ok (.baload, 1) := by decide +kernel
theorem dJ2_getChar_3b067_38 : decode cJ2_getChar_3b067 38 = .ok (.sipush 255, 3) := by decide +kernel
theorem dJ2_getChar_3b067_41 : decode cJ2_getChar_3b067 41 = .ok (.iand, 1) := by decide +kernel
theorem dJ2_getChar_3b067_42 : decode cJ2_getChar_3b067 42 = .ok (.getstatic 59, 3) := by decide +kernel
theorem dJ2_getChar_3b067_45 : decode cJ2_getChar_3b067 45 = .ok (.ishl, 1) := by decide +kernel
theorem dJ2_getChar_3b067_46 : decode cJ2_getChar_3b067 46 = .ok (.aload_n 0, 1) := by decide +kernel
theorem dJ2_getChar_3b067_47 : decode cJ2_getChar_3b067 47 = .ok (.iload_n 1, 1) := by decide +kernel
theorem dJ2_getChar_3b067_48 : decode cJ2_getChar_3b067 48 = .ok (.baload, 1) := by decide +kernel
theorem dJ2_getChar_3b067_49 : decode cJ2_getChar_3b067 49 = .ok (.sipush 255, 3) := by decide +kernel
theorem dJ2_getChar_3b067_52 : decode cJ2_getChar_3b067 52 = .ok (.iand, 1) := by decide +kernel
theorem dJ2_getChar_3b067_53 : decode cJ2_getChar_3b067 53 = .ok (.getstatic 63, 3) := by decide +kernel
theorem dJ2_getChar_3b067_56 : decode cJ2_getChar_3b067 56 = .ok (.ishl, 1) := by decide +kernel
theorem dJ2_getChar_3b067_57 : decode cJ2_getChar_3b067 57 = .ok (.ior, 1) := by decide +kernel
theorem dJ2_getChar_3b067_58 : decode cJ2_getChar_3b067 58 = .ok (.i2c, 1) := by decide +kernel
theorem dJ2_getChar_3b067_59 : decode cJ2_getChar_3b067 59 = .ok (.ireturn, 1) := by decide +kernel
theorem dJ2_length_9d52b_0 : decode cJ2_length_9d52b 0 = .ok (.aload_n 0, 1) := by decide +kernel
theorem dJ2_length_9d52b_1 : decode cJ2_length_9d52b 1 = .ok (.arraylength, 1) := by decide +kernel
theorem dJ2_length_9d52b_2 : decode cJ2_length_9d52b 2 = .ok (.iconst 1, 1) := by decide +kernel
theorem dJ2_length_9d52b_3 : decode cJ2_length_9d52b 3 = .ok (.ishr, 1) := by decide +kernel
theorem dJ2_length_9d52b_4 : decode cJ2_length_9d52b 4 = .ok (.ireturn, 1) := by decide +kernel
theorem dJ2_charAt_3b067_0 : decode cJ2_charAt_3b067 0 = .ok (.iload_n 1, 1) := by decide +kernel
theorem dJ2_charAt_3b067_1 : decode cJ2_charAt_3b067 1 = .ok (.aload_n 0, 1) := by decide +kernel
theorem dJ2_charAt_3b067_2 : decode cJ2_charAt_3b067 2 = .ok (.invokestatic 67, 3) := by decide +kernel
theorem dJ2_charAt_3b067_5 : decode cJ2_charAt_3b067 5 = .ok (.aload_n 0, 1) := by decide +kernel
theorem dJ2_charAt_3b067_6 : decode cJ2_charAt_3b067 6 = .ok (.iload_n 1, 1) := by decide +kernel
theorem dJ2_charAt_3b067_7 : decode cJ2_charAt_3b067 7 = .ok (.invokestatic 71, 3) := by decide +kernel
theorem dJ2_charAt_3b067_10 : decode cJ2_charAt_3b067 10 = .ok (.ireturn, 1) := by decide +kernel
theorem dJ2_checkIndex_2214a_0 : decode cJ2_checkIndex_2214a 0 = .ok (.iload_n 0, 1) := by decide +kernel
theorem dJ2_checkIndex_2214a_1 : decode cJ2_checkIndex_2214a 1 = .ok (.aload_n 1, 1) := by decide +kernel
theorem dJ2_checkIndex_2214a_2 : decode cJ2_checkIndex_2214a 2 = .ok (.invokestatic 48, 3) := by decide +kernel
theorem dJ2_checkIndex_2214a_5 : decode cJ2_checkIndex_2214a 5 = .ok (.invokestatic 414, 3) := by decide +kernel
theorem dJ2_checkIndex_2214a_8 : decode cJ2_checkIndex_2214a 8 = .ok (.return_, 1) := by decide +kernel
theorem dJ7_fill_53178_0 : decode cJ7_fill_53178 0 = .ok (.iconst 0, 1) := by decide +kernel
theorem dJ7_fill_53178_1 : decode cJ7_fill_53178 1 = .ok (.istore_n 2, 1) := by decide +kernel
theorem dJ7_fill_53178_2 : decode cJ7_fill_53178 2 = .ok (.aload_n 0, 1) := by decide +kernel
theorem dJ7_fill_53178_3 : decode cJ7_fill_53178 3 = .ok (.arraylength, 1) := by decide +kernel
theorem dJ7_fill_53178_4 : decode cJ7_fill_53178 4 = .ok (.istore_n 3, 1) := by decide +kernel
theorem dJ7_fill_53178_5 : decode cJ7_fill_53178 5 = .ok (.iload_n 2, 1) := by decide +kernel
theorem dJ7_fill_53178_6 : decode cJ7_fill_53178 6 = .ok (.iload_n 3, 1) := by decide +kernel
theorem dJ7_fill_53178_7 : decode cJ7_fill_53178 7 = .ok (.if_icmp .ge 13, 3) := by decide +kernel
theorem dJ7_fill_53178_10 : decode cJ7_fill_53178 10 = .ok (.aload_n 0, 1) := by decide +kernel
theorem dJ7_fill_53178_11 : decode cJ7_fill_53178 11 = .ok (.iload_n 2, 1) := by decide +kernel
theorem dJ7_fill_53178_12 : decode cJ7_fill_53178 12 = .ok (.iload_n 1, 1) := by decide +kernel
theorem dJ7_fill_53178_13 : decode cJ7_fill_53178 13 = .ok (.iastore, 1) := by decide +kernel
theorem dJ7_fill_53178_14 : decode cJ7_fill_53178 14 = .ok (.iinc 2 1, 3) := by decide +kernel
theorem dJ7_fill_53178_17 : decode cJ7_fill_53178 17 = .ok (.goto (-12), 3) := by decide +kernel
theorem dJ7_fill_53178_20 : decode cJ7_fill_53178 20 = .ok (.return_, 1) := by decide +kernel
theorem dJ3_checkIndex_8e157_0 : decode cJ3_checkIndex_8e157 0 = .ok (.iload_n 0, 1) := by decide +kernel
theorem dJ3_checkIndex_8e157_1 : decode cJ3_checkIndex_8e157 1 = .ok (.ifCond .lt 8, 3) := by decide +kernel
theorem dJ3_checkIndex_8e157_4 : decode cJ3_checkIndex_8e157 4 = .ok (.iload_n 0, 1) := by decide +kernel
theorem dJ3_checkIndex_8e157_5 : decode cJ3_checkIndex_8e157 5 = .ok (.iload_n 1, 1) := by decide +kernel
theorem dJ3_checkIndex_8e157_6 : decode cJ3_checkIndex_8e157 6 = .ok (.if_icmp .lt 10, 3) := by decide +kernel
theorem dJ3_checkIndex_8e157_9 : decode cJ3_checkIndex_8e157 9 = .ok (.aload_n 2, 1) := by decide +kernel
theorem dJ3_checkIndex_8e157_10 : decode cJ3_checkIndex_8e157 10 = .ok (.iload_n 0, 1) := by decide +kernel
theorem dJ3_checkIndex_8e157_11 : decode cJ3_checkIndex_8e157 11 = .ok (.iload_n 1, 1) := by decide +kernel
theorem dJ3_checkIndex_8e157_12 : decode cJ3_checkIndex_8e157 12 = .ok (.invokestatic 95, 3) := by decide +kernel
theorem dJ3_checkIndex_8e157_15 : decode cJ3_checkIndex_8e157 15 = .ok (.athrow, 1) := by decide +kernel
theorem dJ3_checkIndex_8e157_16 : decode cJ3_checkIndex_8e157 16 = .ok (.iload_n 0, 1) := by decide +kernel
theorem dJ3_checkIndex_8e157_17 : decode cJ3_checkIndex_8e157 17 = .ok (.ireturn, 1) := by decide +kernel
