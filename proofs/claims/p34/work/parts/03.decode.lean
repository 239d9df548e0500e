theorem dX0_init_0 : decode cX0_init 0 = .ok (.aload_n 0, 1) := by decide +kernel
theorem dX0_init_1 : decode cX0_init 1 = .ok (.invokespecial 1, 3) := by decide +kernel
theorem dX0_init_4 : decode cX0_init 4 = .ok (.aload_n 0, 1) := by decide +kernel
theorem dX0_init_5 : decode cX0_init 5 = .ok (.iconst 4, 1) := by decide +kernel
theorem dX0_init_6 : decode cX0_init 6 = .ok (.anewarray 9, 3) := by decide +kernel
theorem dX0_init_9 : decode cX0_init 9 = .ok (.putfield 11, 3) := by decide +kernel
theorem dX0_init_12 : decode cX0_init 12 = .ok (.aload_n 0, 1) := by decide +kernel
theorem dX0_init_13 : decode cX0_init 13 = .ok (.iconst 0, 1) := by decide +kernel
theorem dX0_init_14 : decode cX0_init 14 = .ok (.putfield 15, 3) := by decide +kernel
theorem dX0_init_17 : decode cX0_init 17 = .ok (.aload_n 0, 1) := by decide +kernel
theorem dX0_init_18 : decode cX0_init 18 = .ok (.iconst 0, 1) := by decide +kernel
theorem dX0_init_19 : decode cX0_init 19 = .ok (.putfield 19, 3) := by decide +kernel
theorem dX0_init_22 : decode cX0_init 22 = .ok (.iconst 0, 1) := by decide +kernel
theorem dX0_init_23 : decode cX0_init 23 = .ok (.istore_n 1, 1) := by decide +kernel
theorem dX0_init_24 : decode cX0_init 24 = .ok (.iload_n 1, 1) := by decide +kernel
theorem dX0_init_25 : decode cX0_init 25 = .ok (.iconst 4, 1) := by decide +kernel
theorem dX0_init_26 : decode cX0_init 26 = .ok (.if_icmp .ge 22, 3) := by decide +kernel
theorem dX0_init_29 : decode cX0_init 29 = .ok (.aload_n 0, 1) := by decide +kernel
theorem dX0_init_30 : decode cX0_init 30 = .ok (.getfield 11, 3) := by decide +kernel
theorem dX0_init_33 : decode cX0_init 33 = .ok (.iload_n 1, 1) := by decide +kernel
theorem dX0_init_34 : decode cX0_init 34 = .ok (.new 9, 3) := by decide +kernel
theorem dX0_init_37 : decode cX0_init 37 = .ok (.dup, 1) := by decide +kernel
theorem dX0_init_38 : decode cX0_init 38 = .ok (.invokespecial 22, 3) := by decide +kernel
theorem dX0_init_41 : decode cX0_init 41 = .ok (.aastore, 1) := by decide +kernel
theorem dX0_init_42 : decode cX0_init 42 = .ok (.iinc 1 1, 3) := by decide +kernel
theorem dX0_init_45 : decode cX0_init 45 = .ok (.goto (-21), 3) := by decide +kernel
theorem dX0_init_48 : decode cX0_init 48 = .ok (.return_, 1) := by decide +kernel
theorem dX0_record_0 : decode cX0_record 0 = .ok (.aload_n 0, 1) := by decide +kernel
theorem dX0_record_1 : decode cX0_record 1 = .ok (.getfield 19, 3) := by decide +kernel
theorem dX0_record_4 : decode cX0_record 4 = .ok (.iconst 4, 1) := by decide +kernel
theorem dX0_record_5 : decode cX0_record 5 = .ok (.if_icmp .ne 27, 3) := by decide +kernel
theorem dX0_record_8 : decode cX0_record 8 = .ok (.aload_n 0, 1) := by decide +kernel
theorem dX0_record_9 : decode cX0_record 9 = .ok (.aload_n 0, 1) := by decide +kernel
theorem dX0_record_10 : decode cX0_record 10 = .ok (.getfield 15, 3) := by decide +kernel
theorem dX0_record_13 : decode cX0_record 13 = .ok (.iconst 1, 1) := by decide +kernel
theorem dX0_record_14 : decode cX0_record 14 = .ok (.iadd, 1) := by decide +kernel
theorem dX0_record_15 : decode cX0_record 15 = .ok (.iconst 4, 1) := by decide +kernel
theorem dX0_record_16 : decode cX0_record 16 = .ok (.invokestatic 23, 3) := by decide +kernel
theorem dX0_record_19 : decode cX0_record 19 = .ok (.putfield 15, 3) := by decide +kernel
theorem dX0_record_22 : decode cX0_record 22 = .ok (.aload_n 0, 1) := by decide +kernel
theorem dX0_record_23 : decode cX0_record 23 = .ok (.dup, 1) := by decide +kernel
theorem dX0_record_24 : decode cX0_record 24 = .ok (.getfield 19, 3) := by decide +kernel
theorem dX0_record_27 : decode cX0_record 27 = .ok (.iconst 1, 1) := by decide +kernel
theorem dX0_record_28 : decode cX0_record 28 = .ok (.isub, 1) := by decide +kernel
theorem dX0_record_29 : decode cX0_record 29 = .ok (.putfield 19, 3) := by decide +kernel
theorem dX0_record_32 : decode cX0_record 32 = .ok (.aload_n 1, 1) := by decide +kernel
theorem dX0_record_33 : decode cX0_record 33 = .ok (.aload_n 0, 1) := by decide +kernel
theorem dX0_record_34 : decode cX0_record 34 = .ok (.getfield 11, 3) := by decide +kernel
theorem dX0_record_37 : decode cX0_record 37 = .ok (.aload_n 0, 1) := by decide +kernel
theorem dX0_record_38 : decode cX0_record 38 = .ok (.getfield 15, 3) := by decide +kernel
theorem dX0_record_41 : decode cX0_record 41 = .ok (.aload_n 0, 1) := by decide +kernel
theorem dX0_record_42 : decode cX0_record 42 = .ok (.getfield 19, 3) := by decide +kernel
theorem dX0_record_45 : decode cX0_record 45 = .ok (.iadd, 1) := by decide +kernel
theorem dX0_record_46 : decode cX0_record 46 = .ok (.iconst 4, 1) := by decide +kernel
theorem dX0_record_47 : decode cX0_record 47 = .ok (.invokestatic 23, 3) := by decide +kernel
theorem dX0_record_50 : decode cX0_record 50 = .ok (.aaload, 1) := by decide +kernel
theorem dX0_record_51 : decode cX0_record 51 = .ok (.invokestatic 29, 3) := by decide +kernel
theorem dX0_record_54 : decode cX0_record 54 = .ok (.aload_n 0, 1) := by decide +kernel
theorem dX0_record_55 : decode cX0_record 55 = .ok (.dup, 1) := by decide +kernel
theorem dX0_record_56 : decode cX0_record 56 = .ok (.getfield 19, 3) := by decide +kernel
theorem dX0_record_59 : decode cX0_record 59 = .ok (.iconst 1, 1) := by decide +kernel
theorem dX0_record_60 : decode cX0_record 60 = .ok (.iadd, 1) := by decide +kernel
theorem dX0_record_61 : decode cX0_record 61 = .ok (.putfield 19, 3) := by decide +kernel
theorem dX0_record_64 : decode cX0_record 64 = .ok (.return_, 1) := by decide +kernel
theorem dX0_takeLatestInto_0 : decode cX0_takeLatestInto 0 = .ok (.aload_n 0, 1) := by decide +kernel
theorem dX0_takeLatestInto_1 : decode cX0_takeLatestInto 1 = .ok (.getfield 19, 3) := by decide +kernel
theorem dX0_takeLatestInto_4 : decode cX0_takeLatestInto 4 = .ok (.ifCond .le 35, 3) := by decide +kernel
theorem dX0_takeLatestInto_7 : decode cX0_takeLatestInto 7 = .ok (.aload_n 0, 1) := by decide +kernel
theorem dX0_takeLatestInto_8 : decode cX0_takeLatestInto 8 = .ok (.dup, 1) := by decide +kernel
theorem dX0_takeLatestInto_9 : decode cX0_takeLatestInto 9 = .ok (.getfield 19, 3) := by decide +kernel
theorem dX0_takeLatestInto_12 : decode cX0_takeLatestInto 12 = .ok (.iconst 1, 1) := by decide +kernel
theorem dX0_takeLatestInto_13 : decode cX0_takeLatestInto 13 = .ok (.isub, 1) := by decide +kernel
theorem dX0_takeLatestInto_14 : decode cX0_takeLatestInto 14 = .ok (.putfield 19, 3) := by decide +kernel
theorem dX0_takeLatestInto_17 : decode cX0_takeLatestInto 17 = .ok (.aload_n 0, 1) := by decide +kernel
theorem dX0_takeLatestInto_18 : decode cX0_takeLatestInto 18 = .ok (.getfield 11, 3) := by decide +kernel
theorem dX0_takeLatestInto_21 : decode cX0_takeLatestInto 21 = .ok (.aload_n 0, 1) := by decide +kernel
theorem dX0_takeLatestInto_22 : decode cX0_takeLatestInto 22 = .ok (.getfield 15, 3) := by decide +kernel
theorem dX0_takeLatestInto_25 : decode cX0_takeLatestInto 25 = .ok (.aload_n 0, 1) := by decide +kernel
theorem dX0_takeLatestInto_26 : decode cX0_takeLatestInto 26 = .ok (.getfield 19, 3) := by decide +kernel
theorem dX0_takeLatestInto_29 : decode cX0_takeLatestInto 29 = .ok (.iadd, 1) := by decide +kernel
theorem dX0_takeLatestInto_30 : decode cX0_takeLatestInto 30 = .ok (.iconst 4, 1) := by decide +kernel
theorem dX0_takeLatestInto_31 : decode cX0_takeLatestInto 31 = .ok (.invokestatic 23, 3) := by decide +kernel
theorem dX0_takeLatestInto_34 : decode cX0_takeLatestInto 34 = .ok (.aaload, 1) := by decide +kernel
theorem dX0_takeLatestInto_35 : decode cX0_takeLatestInto 35 = .ok (.aload_n 1, 1) := by decide +kernel
theorem dX0_takeLatestInto_36 : decode cX0_takeLatestInto 36 = .ok (.invokestatic 29, 3) := by decide +kernel
theorem dX0_takeLatestInto_39 : decode cX0_takeLatestInto 39 = .ok (.return_, 1) := by decide +kernel
theorem dX1_init_0 : decode cX1_init 0 = .ok (.aload_n 0, 1) := by decide +kernel
theorem dX1_init_1 : decode cX1_init 1 = .ok (.invokespecial 3, 3) := by decide +kernel
theorem dX1_init_4 : decode cX1_init 4 = .ok (.aload_n 0, 1) := by decide +kernel
theorem dX1_init_5 : decode cX1_init 5 = .ok (.bipush 32, 2) := by decide +kernel
theorem dX1_init_7 : decode cX1_init 7 = .ok (.newarray .int, 2) := by decide +kernel
theorem dX1_init_9 : decode cX1_init 9 = .ok (.putfield 9, 3) := by decide +kernel
theorem dX1_init_12 : decode cX1_init 12 = .ok (.aload_n 0, 1) := by decide +kernel
theorem dX1_init_13 : decode cX1_init 13 = .ok (.bipush 32, 2) := by decide +kernel
theorem dX1_init_15 : decode cX1_init 15 = .ok (.newarray .int, 2) := by decide +kernel
theorem dX1_init_17 : decode cX1_init 17 = .ok (.putfield 15, 3) := by decide +kernel
theorem dX1_init_20 : decode cX1_init 20 = .ok (.aload_n 0, 1) := by decide +kernel
theorem dX1_init_21 : decode cX1_init 21 = .ok (.bipush 32, 2) := by decide +kernel
theorem dX1_init_23 : decode cX1_init 23 = .ok (.newarray .int, 2) := by decide +kernel
theorem dX1_init_25 : decode cX1_init 25 = .ok (.putfield 18, 3) := by decide +kernel
theorem dX1_init_28 : decode cX1_init 28 = .ok (.aload_n 0, 1) := by decide +kernel
theorem dX1_init_29 : decode cX1_init 29 = .ok (.bipush 32, 2) := by decide +kernel
theorem dX1_init_31 : decode cX1_init 31 = .ok (.newarray .int, 2) := by decide +kernel
theorem dX1_init_33 : decode cX1_init 33 = .ok (.putfield 21, 3) := by decide +kernel
theorem dX1_init_36 : decode cX1_init 36 = .ok (.aload_n 0, 1) := by decide +kernel
theorem dX1_init_37 : decode cX1_init 37 = .ok (.bipush 32, 2) := by decide +kernel
theorem dX1_init_39 : decode cX1_init 39 = .ok (.newarray .int, 2) := by decide +kernel
theorem dX1_init_41 : decode cX1_init 41 = .ok (.putfield 24, 3) := by decide +kernel
theorem dX1_init_44 : decode cX1_init 44 = .ok (.aload_n 0, 1) := by decide +kernel
theorem dX1_init_45 : decode cX1_init 45 = .ok (.bipush 32, 2) := by decide +kernel
theorem dX1_init_47 : decode cX1_init 47 = .ok (.newarray .int, 2) := by decide +kernel
theorem dX1_init_49 : decode cX1_init 49 = .ok (.putfield 27, 3) := by decide +kernel
theorem dX1_init_52 : decode cX1_init 52 = .ok (.aload_n 0, 1) := by decide +kernel
theorem dX1_init_53 : decode cX1_init 53 = .ok (.bipush 32, 2) := by decide +kernel
theorem dX1_init_55 : decode cX1_init 55 = .ok (.newarray .int, 2) := by decide +kernel
theorem dX1_init_57 : decode cX1_init 57 = .ok (.putfield 30, 3) := by decide +kernel
theorem dX1_init_60 : decode cX1_init 60 = .ok (.aload_n 0, 1) := by decide +kernel
theorem dX1_init_61 : decode cX1_init 61 = .ok (.iconst 0, 1) := by decide +kernel
theorem dX1_init_62 : decode cX1_init 62 = .ok (.putfield 33, 3) := by decide +kernel
theorem dX1_init_65 : decode cX1_init 65 = .ok (.aload_n 0, 1) := by decide +kernel
theorem dX1_init_66 : decode cX1_init 66 = .ok (.iconst 0, 1) := by decide +kernel
theorem dX1_init_67 : decode cX1_init 67 = .ok (.putfield 37, 3) := by decide +kernel
theorem dX1_init_70 : decode cX1_init 70 = .ok (.aload_n 0, 1) := by decide +kernel
theorem dX1_init_71 : decode cX1_init 71 = .ok (.iconst 0, 1) := by decide +kernel
theorem dX1_init_72 : decode cX1_init 72 = .ok (.putfield 40, 3) := by decide +kernel
theorem dX1_init_75 : decode cX1_init 75 = .ok (.aload_n 0, 1) := by decide +kernel
theorem dX1_init_76 : decode cX1_init 76 = .ok (.iconst 0, 1) := by decide +kernel
theorem dX1_init_77 : decode cX1_init 77 = .ok (.putfield 43, 3) := by decide +kernel
theorem dX1_init_80 : decode cX1_init 80 = .ok (.aload_n 0, 1) := by decide +kernel
theorem dX1_init_81 : decode cX1_init 81 = .ok (.iconst 0, 1) := by decide +kernel
theorem dX1_init_82 : decode cX1_init 82 = .ok (.putfield 46, 3) := by decide +kernel
theorem dX1_init_85 : decode cX1_init 85 = .ok (.iconst 0, 1) := by decide +kernel
theorem dX1_init_86 : decode cX1_init 86 = .ok (.istore_n 1, 1) := by decide +kernel
theorem dX1_init_87 : decode cX1_init 87 = .ok (.iload_n 1, 1) := by decide +kernel
theorem dX1_init_88 : decode cX1_init 88 = .ok (.bipush 32, 2) := by decide +kernel
theorem dX1_init_90 : decode cX1_init 90 = .ok (.if_icmp .ge 16, 3) := by decide +kernel
theorem dX1_init_93 : decode cX1_init 93 = .ok (.aload_n 0, 1) := by decide +kernel
theorem dX1_init_94 : decode cX1_init 94 = .ok (.getfield 9, 3) := by decide +kernel
theorem dX1_init_97 : decode cX1_init 97 = .ok (.iload_n 1, 1) := by decide +kernel
theorem dX1_init_98 : decode cX1_init 98 = .ok (.iconst (-1), 1) := by decide +kernel
theorem dX1_init_99 : decode cX1_init 99 = .ok (.iastore, 1) := by decide +kernel
theorem dX1_init_100 : decode cX1_init 100 = .ok (.iinc 1 1, 3) := by decide +kernel
theorem dX1_init_103 : decode cX1_init 103 = .ok (.goto (-16), 3) := by decide +kernel
theorem dX1_init_106 : decode cX1_init 106 = .ok (.return_, 1) := by decide +kernel
theorem dX1_copyFrom_0 : decode cX1_copyFrom 0 = .ok (.iconst 0, 1) := by decide +kernel
theorem dX1_copyFrom_1 : decode cX1_copyFrom 1 = .ok (.istore_n 2, 1) := by decide +kernel
theorem dX1_copyFrom_2 : decode cX1_copyFrom 2 = .ok (.iload_n 2, 1) := by decide +kernel
theorem dX1_copyFrom_3 : decode cX1_copyFrom 3 = .ok (.bipush 32, 2) := by decide +kernel
theorem dX1_copyFrom_5 : decode cX1_copyFrom 5 = .ok (.if_icmp .ge 93, 3) := by decide +kernel
theorem dX1_copyFrom_8 : decode cX1_copyFrom 8 = .ok (.aload_n 0, 1) := by decide +kernel
theorem dX1_copyFrom_9 : decode cX1_copyFrom 9 = .ok (.getfield 9, 3) := by decide +kernel
theorem dX1_copyFrom_12 : decode cX1_copyFrom 12 = .ok (.iload_n 2, 1) := by decide +kernel
theorem dX1_copyFrom_13 : decode cX1_copyFrom 13 = .ok (.aload_n 1, 1) := by decide +kernel
theorem dX1_copyFrom_14 : decode cX1_copyFrom 14 = .ok (.getfield 9, 3) := by decide +kernel
theorem dX1_copyFrom_17 : decode cX1_copyFrom 17 = .ok (.iload_n 2, 1) := by decide +kernel
theorem dX1_copyFrom_18 : decode cX1_copyFrom 18 = .ok (.iaload, 1) := by decide +kernel
theorem dX1_copyFrom_19 : decode cX1_copyFrom 19 = .ok (.iastore, 1) := by decide +kernel
theorem dX1_copyFrom_20 : decode cX1_copyFrom 20 = .ok (.aload_n 0, 1) := by decide +kernel
theorem dX1_copyFrom_21 : decode cX1_copyFrom 21 = .ok (.getfield 15, 3) := by decide +kernel
theorem dX1_copyFrom_24 : decode cX1_copyFrom 24 = .ok (.iload_n 2, 1) := by decide +kernel
theorem dX1_copyFrom_25 : decode cX1_copyFrom 25 = .ok (.aload_n 1, 1) := by decide +kernel
theorem dX1_copyFrom_26 : decode cX1_copyFrom 26 = .ok (.getfield 15, 3) := by decide +kernel
theorem dX1_copyFrom_29 : decode cX1_copyFrom 29 = .ok (.iload_n 2, 1) := by decide +kernel
theorem dX1_copyFrom_30 : decode cX1_copyFrom 30 = .ok (.iaload, 1) := by decide +kernel
theorem dX1_copyFrom_31 : decode cX1_copyFrom 31 = .ok (.iastore, 1) := by decide +kernel
theorem dX1_copyFrom_32 : decode cX1_copyFrom 32 = .ok (.aload_n 0, 1) := by decide +kernel
theorem dX1_copyFrom_33 : decode cX1_copyFrom 33 = .ok (.getfield 18, 3) := by decide +kernel
theorem dX1_copyFrom_36 : decode cX1_copyFrom 36 = .ok (.iload_n 2, 1) := by decide +kernel
theorem dX1_copyFrom_37 : decode cX1_copyFrom 37 = .ok (.aload_n 1, 1) := by decide +kernel
theorem dX1_copyFrom_38 : decode cX1_copyFrom 38 = .ok (.getfield 18, 3) := by decide +kernel
theorem dX1_copyFrom_41 : decode cX1_copyFrom 41 = .ok (.iload_n 2, 1) := by decide +kernel
theorem dX1_copyFrom_42 : decode cX1_copyFrom 42 = .ok (.iaload, 1) := by decide +kernel
theorem dX1_copyFrom_43 : decode cX1_copyFrom 43 = .ok (.iastore, 1) := by decide +kernel
theorem dX1_copyFrom_44 : decode cX1_copyFrom 44 = .ok (.aload_n 0, 1) := by decide +kernel
theorem dX1_copyFrom_45 : decode cX1_copyFrom 45 = .ok (.getfield 21, 3) := by decide +kernel
theorem dX1_copyFrom_48 : decode cX1_copyFrom 48 = .ok (.iload_n 2, 1) := by decide +kernel
theorem dX1_copyFrom_49 : decode cX1_copyFrom 49 = .ok (.aload_n 1, 1) := by decide +kernel
theorem dX1_copyFrom_50 : decode cX1_copyFrom 50 = .ok (.getfield 21, 3) := by decide +kernel
theorem dX1_copyFrom_53 : decode cX1_copyFrom 53 = .ok (.iload_n 2, 1) := by decide +kernel
theorem dX1_copyFrom_54 : decode cX1_copyFrom 54 = .ok (.iaload, 1) := by decide +kernel
theorem dX1_copyFrom_55 : decode cX1_copyFrom 55 = .ok (.iastore, 1) := by decide +kernel
theorem dX1_copyFrom_56 : decode cX1_copyFrom 56 = .ok (.aload_n 0, 1) := by decide +kernel
theorem dX1_copyFrom_57 : decode cX1_copyFrom 57 = .ok (.getfield 24, 3) := by decide +kernel
theorem dX1_copyFrom_60 : decode cX1_copyFrom 60 = .ok (.iload_n 2, 1) := by decide +kernel
theorem dX1_copyFrom_61 : decode cX1_copyFrom 61 = .ok (.aload_n 1, 1) := by decide +kernel
theorem dX1_copyFrom_62 : decode cX1_copyFrom 62 = .ok (.getfield 24, 3) := by decide +kernel
theorem dX1_copyFrom_65 : decode cX1_copyFrom 65 = .ok (.iload_n 2, 1) := by decide +kernel
theorem dX1_copyFrom_66 : decode cX1_copyFrom 66 = .ok (.iaload, 1) := by decide +kernel
theorem dX1_copyFrom_67 : decode cX1_copyFrom 67 = .ok (.iastore, 1) := by decide +kernel
theorem dX1_copyFrom_68 : decode cX1_copyFrom 68 = .ok (.aload_n 0, 1) := by decide +kernel
theorem dX1_copyFrom_69 : decode cX1_copyFrom 69 = .ok (.getfield 27, 3) := by decide +kernel
theorem dX1_copyFrom_72 : decode cX1_copyFrom 72 = .ok (.iload_n 2, 1) := by decide +kernel
theorem dX1_copyFrom_73 : decode cX1_copyFrom 73 = .ok (.aload_n 1, 1) := by decide +kernel
theorem dX1_copyFrom_74 : decode cX1_copyFrom 74 = .ok (.getfield 27, 3) := by decide +kernel
theorem dX1_copyFrom_77 : decode cX1_copyFrom 77 = .ok (.iload_n 2, 1) := by decide +kernel
theorem dX1_copyFrom_78 : decode cX1_copyFrom 78 = .ok (.iaload, 1) := by decide +kernel
theorem dX1_copyFrom_79 : decode cX1_copyFrom 79 = .ok (.iastore, 1) := by decide +kernel
theorem dX1_copyFrom_80 : decode cX1_copyFrom 80 = .ok (.aload_n 0, 1) := by decide +kernel
theorem dX1_copyFrom_81 : decode cX1_copyFrom 81 = .ok (.getfield 30, 3) := by decide +kernel
theorem dX1_copyFrom_84 : decode cX1_copyFrom 84 = .ok (.iload_n 2, 1) := by decide +kernel
theorem dX1_copyFrom_85 : decode cX1_copyFrom 85 = .ok (.aload_n 1, 1) := by decide +kernel
theorem dX1_copyFrom_86 : decode cX1_copyFrom 86 = .ok (.getfield 30, 3) := by decide +kernel
theorem dX1_copyFrom_89 : decode cX1_copyFrom 89 = .ok (.iload_n 2, 1) := by decide +kernel
theorem dX1_copyFrom_90 : decode cX1_copyFrom 90 = .ok (.iaload, 1) := by decide +kernel
theorem dX1_copyFrom_91 : decode cX1_copyFrom 91 = .ok (.iastore, 1) := by decide +kernel
theorem dX1_copyFrom_92 : decode cX1_copyFrom 92 = .ok (.iinc 2 1, 3) := by decide +kernel
theorem dX1_copyFrom_95 : decode cX1_copyFrom 95 = .ok (.goto (-93), 3) := by decide +kernel
theorem dX1_copyFrom_98 : decode cX1_copyFrom 98 = .ok (.aload_n 0, 1) := by decide +kernel
theorem dX1_copyFrom_99 : decode cX1_copyFrom 99 = .ok (.aload_n 1, 1) := by decide +kernel
theorem dX1_copyFrom_100 : decode cX1_copyFrom 100 = .ok (.getfield 33, 3) := by decide +kernel
theorem dX1_copyFrom_103 : decode cX1_copyFrom 103 = .ok (.putfield 33, 3) := by decide +kernel
theorem dX1_copyFrom_106 : decode cX1_copyFrom 106 = .ok (.aload_n 0, 1) := by decide +kernel
theorem dX1_copyFrom_107 : decode cX1_copyFrom 107 = .ok (.aload_n 1, 1) := by decide +kernel
theorem dX1_copyFrom_108 : decode cX1_copyFrom 108 = .ok (.getfield 37, 3) := by decide +kernel
theorem dX1_copyFrom_111 : decode cX1_copyFrom 111 = .ok (.putfield 37, 3) := by decide +kernel
theorem dX1_copyFrom_114 : decode cX1_copyFrom 114 = .ok (.aload_n 0, 1) := by decide +kernel
theorem dX1_copyFrom_115 : decode cX1_copyFrom 115 = .ok (.aload_n 1, 1) := by decide +kernel
theorem dX1_copyFrom_116 : decode cX1_copyFrom 116 = .ok (.getfield 40, 3) := by decide +kernel
theorem dX1_copyFrom_119 : decode cX1_copyFrom 119 = .ok (.putfield 40, 3) := by decide +kernel
theorem dX1_copyFrom_122 : decode cX1_copyFrom 122 = .ok (.aload_n 0, 1) := by decide +kernel
theorem dX1_copyFrom_123 : decode cX1_copyFrom 123 = .ok (.aload_n 1, 1) := by decide +kernel
theorem dX1_copyFrom_124 : decode cX1_copyFrom 124 = .ok (.getfield 43, 3) := by decide +kernel
theorem dX1_copyFrom_127 : decode cX1_copyFrom 127 = .ok (.putfield 43, 3) := by decide +kernel
theorem dX1_copyFrom_130 : decode cX1_copyFrom 130 = .ok (.aload_n 0, 1) := by decide +kernel
theorem dX1_copyFrom_131 : decode cX1_copyFrom 131 = .ok (.aload_n 1, 1) := by decide +kernel
theorem dX1_copyFrom_132 : decode cX1_copyFrom 132 = .ok (.getfield 46, 3) := by decide +kernel
theorem dX1_copyFrom_135 : decode cX1_copyFrom 135 = .ok (.putfield 46, 3) := by decide +kernel
theorem dX1_copyFrom_138 : decode cX1_copyFrom 138 = .ok (.return_, 1) := by decide +kernel
theorem dX1_holdsEntry_0 : decode cX1_holdsEntry 0 = .ok (.iload_n 1, 1) := by decide +kernel
theorem dX1_holdsEntry_1 : decode cX1_holdsEntry 1 = .ok (.ifCond .lt 23, 3) := by decide +kernel
theorem dX1_holdsEntry_4 : decode cX1_holdsEntry 4 = .ok (.iload_n 1, 1) := by decide +kernel
theorem dX1_holdsEntry_5 : decode cX1_holdsEntry 5 = .ok (.bipush 32, 2) := by decide +kernel
theorem dX1_holdsEntry_7 : decode cX1_holdsEntry 7 = .ok (.if_icmp .ge 17, 3) := by decide +kernel
theorem dX1_holdsEntry_10 : decode cX1_holdsEntry 10 = .ok (.aload_n 0, 1) := by decide +kernel
theorem dX1_holdsEntry_11 : decode cX1_holdsEntry 11 = .ok (.getfield 9, 3) := by decide +kernel
theorem dX1_holdsEntry_14 : decode cX1_holdsEntry 14 = .ok (.iload_n 1, 1) := by decide +kernel
theorem dX1_holdsEntry_15 : decode cX1_holdsEntry 15 = .ok (.iaload, 1) := by decide +kernel
theorem dX1_holdsEntry_16 : decode cX1_holdsEntry 16 = .ok (.iconst (-1), 1) := by decide +kernel
theorem dX1_holdsEntry_17 : decode cX1_holdsEntry 17 = .ok (.if_icmp .eq 7, 3) := by decide +kernel
theorem dX1_holdsEntry_20 : decode cX1_holdsEntry 20 = .ok (.iconst 1, 1) := by decide +kernel
theorem dX1_holdsEntry_21 : decode cX1_holdsEntry 21 = .ok (.goto 4, 3) := by decide +kernel
theorem dX1_holdsEntry_24 : decode cX1_holdsEntry 24 = .ok (.iconst 0, 1) := by decide +kernel
theorem dX1_holdsEntry_25 : decode cX1_holdsEntry 25 = .ok (.ireturn, 1) := by decide +kernel
theorem dX1_told_0 : decode cX1_told 0 = .ok (.iload_n 2, 1) := by decide +kernel
theorem dX1_told_1 : decode cX1_told 1 = .ok (.invokestatic 49, 3) := by decide +kernel
theorem dX1_told_4 : decode cX1_told 4 = .ok (.ifCond .eq 9, 3) := by decide +kernel
theorem dX1_told_7 : decode cX1_told 7 = .ok (.iload_n 2, 1) := by decide +kernel
theorem dX1_told_8 : decode cX1_told 8 = .ok (.aload_n 1, 1) := by decide +kernel
theorem dX1_told_9 : decode cX1_told 9 = .ok (.arraylength, 1) := by decide +kernel
theorem dX1_told_10 : decode cX1_told 10 = .ok (.if_icmp .lt 5, 3) := by decide +kernel
theorem dX1_told_13 : decode cX1_told 13 = .ok (.iconst (-1), 1) := by decide +kernel
theorem dX1_told_14 : decode cX1_told 14 = .ok (.ireturn, 1) := by decide +kernel
theorem dX1_told_15 : decode cX1_told 15 = .ok (.aload_n 0, 1) := by decide +kernel
theorem dX1_told_16 : decode cX1_told 16 = .ok (.iload_n 2, 1) := by decide +kernel
theorem dX1_told_17 : decode cX1_told 17 = .ok (.invokevirtual 53, 3) := by decide +kernel
theorem dX1_told_20 : decode cX1_told 20 = .ok (.ifCond .eq 9, 3) := by decide +kernel
theorem dX1_told_23 : decode cX1_told 23 = .ok (.aload_n 1, 1) := by decide +kernel
theorem dX1_told_24 : decode cX1_told 24 = .ok (.iload_n 2, 1) := by decide +kernel
theorem dX1_told_25 : decode cX1_told 25 = .ok (.iaload, 1) := by decide +kernel
theorem dX1_told_26 : decode cX1_told 26 = .ok (.goto 5, 3) := by decide +kernel
theorem dX1_told_29 : decode cX1_told 29 = .ok (.bipush (-4), 2) := by decide +kernel
theorem dX1_told_31 : decode cX1_told 31 = .ok (.ireturn, 1) := by decide +kernel
theorem dX1_entries_0 : decode cX1_entries 0 = .ok (.iconst 0, 1) := by decide +kernel
theorem dX1_entries_1 : decode cX1_entries 1 = .ok (.istore_n 1, 1) := by decide +kernel
theorem dX1_entries_2 : decode cX1_entries 2 = .ok (.iconst 0, 1) := by decide +kernel
theorem dX1_entries_3 : decode cX1_entries 3 = .ok (.istore_n 2, 1) := by decide +kernel
theorem dX1_entries_4 : decode cX1_entries 4 = .ok (.iload_n 2, 1) := by decide +kernel
theorem dX1_entries_5 : decode cX1_entries 5 = .ok (.iconst 4, 1) := by decide +kernel
theorem dX1_entries_6 : decode cX1_entries 6 = .ok (.if_icmp .ge 17, 3) := by decide +kernel
theorem dX1_entries_9 : decode cX1_entries 9 = .ok (.iload_n 1, 1) := by decide +kernel
theorem dX1_entries_10 : decode cX1_entries 10 = .ok (.aload_n 0, 1) := by decide +kernel
theorem dX1_entries_11 : decode cX1_entries 11 = .ok (.iload_n 2, 1) := by decide +kernel
theorem dX1_entries_12 : decode cX1_entries 12 = .ok (.invokevirtual 56, 3) := by decide +kernel
theorem dX1_entries_15 : decode cX1_entries 15 = .ok (.iadd, 1) := by decide +kernel
theorem dX1_entries_16 : decode cX1_entries 16 = .ok (.istore_n 1, 1) := by decide +kernel
theorem dX1_entries_17 : decode cX1_entries 17 = .ok (.iinc 2 1, 3) := by decide +kernel
theorem dX1_entries_20 : decode cX1_entries 20 = .ok (.goto (-16), 3) := by decide +kernel
theorem dX1_entries_23 : decode cX1_entries 23 = .ok (.iload_n 1, 1) := by decide +kernel
theorem dX1_entries_24 : decode cX1_entries 24 = .ok (.ireturn, 1) := by decide +kernel
theorem dX1_freeSlots_0 : decode cX1_freeSlots 0 = .ok (.bipush 32, 2) := by decide +kernel
theorem dX1_freeSlots_2 : decode cX1_freeSlots 2 = .ok (.aload_n 0, 1) := by decide +kernel
theorem dX1_freeSlots_3 : decode cX1_freeSlots 3 = .ok (.invokevirtual 60, 3) := by decide +kernel
theorem dX1_freeSlots_6 : decode cX1_freeSlots 6 = .ok (.isub, 1) := by decide +kernel
theorem dX1_freeSlots_7 : decode cX1_freeSlots 7 = .ok (.ireturn, 1) := by decide +kernel
theorem dX1_rules_0 : decode cX1_rules 0 = .ok (.iconst 0, 1) := by decide +kernel
theorem dX1_rules_1 : decode cX1_rules 1 = .ok (.istore_n 1, 1) := by decide +kernel
theorem dX1_rules_2 : decode cX1_rules 2 = .ok (.iconst 0, 1) := by decide +kernel
theorem dX1_rules_3 : decode cX1_rules 3 = .ok (.istore_n 2, 1) := by decide +kernel
theorem dX1_rules_4 : decode cX1_rules 4 = .ok (.iload_n 2, 1) := by decide +kernel
theorem dX1_rules_5 : decode cX1_rules 5 = .ok (.bipush 32, 2) := by decide +kernel
theorem dX1_rules_7 : decode cX1_rules 7 = .ok (.if_icmp .ge 29, 3) := by decide +kernel
theorem dX1_rules_10 : decode cX1_rules 10 = .ok (.aload_n 0, 1) := by decide +kernel
theorem dX1_rules_11 : decode cX1_rules 11 = .ok (.iload_n 2, 1) := by decide +kernel
theorem dX1_rules_12 : decode cX1_rules 12 = .ok (.invokevirtual 53, 3) := by decide +kernel
theorem dX1_rules_15 : decode cX1_rules 15 = .ok (.ifCond .eq 15, 3) := by decide +kernel
theorem dX1_rules_18 : decode cX1_rules 18 = .ok (.aload_n 0, 1) := by decide +kernel
theorem dX1_rules_19 : decode cX1_rules 19 = .ok (.getfield 15, 3) := by decide +kernel
theorem dX1_rules_22 : decode cX1_rules 22 = .ok (.iload_n 2, 1) := by decide +kernel
theorem dX1_rules_23 : decode cX1_rules 23 = .ok (.iaload, 1) := by decide +kernel
theorem dX1_rules_24 : decode cX1_rules 24 = .ok (.ifCond .ne 6, 3) := by decide +kernel
theorem dX1_rules_27 : decode cX1_rules 27 = .ok (.iinc 1 1, 3) := by decide +kernel
theorem dX1_rules_30 : decode cX1_rules 30 = .ok (.iinc 2 1, 3) := by decide +kernel
theorem dX1_rules_33 : decode cX1_rules 33 = .ok (.goto (-29), 3) := by decide +kernel
theorem dX1_rules_36 : decode cX1_rules 36 = .ok (.iload_n 1, 1) := by decide +kernel
theorem dX1_rules_37 : decode cX1_rules 37 = .ok (.ireturn, 1) := by decide +kernel
theorem dX1_entriesOf_0 : decode cX1_entriesOf 0 = .ok (.iconst 0, 1) := by decide +kernel
theorem dX1_entriesOf_1 : decode cX1_entriesOf 1 = .ok (.istore_n 2, 1) := by decide +kernel
theorem dX1_entriesOf_2 : decode cX1_entriesOf 2 = .ok (.iconst 0, 1) := by decide +kernel
theorem dX1_entriesOf_3 : decode cX1_entriesOf 3 = .ok (.istore_n 3, 1) := by decide +kernel
theorem dX1_entriesOf_4 : decode cX1_entriesOf 4 = .ok (.iload_n 3, 1) := by decide +kernel
theorem dX1_entriesOf_5 : decode cX1_entriesOf 5 = .ok (.bipush 32, 2) := by decide +kernel
theorem dX1_entriesOf_7 : decode cX1_entriesOf 7 = .ok (.if_icmp .ge 30, 3) := by decide +kernel
theorem dX1_entriesOf_10 : decode cX1_entriesOf 10 = .ok (.aload_n 0, 1) := by decide +kernel
theorem dX1_entriesOf_11 : decode cX1_entriesOf 11 = .ok (.iload_n 3, 1) := by decide +kernel
theorem dX1_entriesOf_12 : decode cX1_entriesOf 12 = .ok (.invokevirtual 53, 3) := by decide +kernel
theorem dX1_entriesOf_15 : decode cX1_entriesOf 15 = .ok (.ifCond .eq 16, 3) := by decide +kernel
theorem dX1_entriesOf_18 : decode cX1_entriesOf 18 = .ok (.aload_n 0, 1) := by decide +kernel
theorem dX1_entriesOf_19 : decode cX1_entriesOf 19 = .ok (.getfield 9, 3) := by decide +kernel
theorem dX1_entriesOf_22 : decode cX1_entriesOf 22 = .ok (.iload_n 3, 1) := by decide +kernel
theorem dX1_entriesOf_23 : decode cX1_entriesOf 23 = .ok (.iaload, 1) := by decide +kernel
theorem dX1_entriesOf_24 : decode cX1_entriesOf 24 = .ok (.iload_n 1, 1) := by decide +kernel
theorem dX1_entriesOf_25 : decode cX1_entriesOf 25 = .ok (.if_icmp .ne 6, 3) := by decide +kernel
theorem dX1_entriesOf_28 : decode cX1_entriesOf 28 = .ok (.iinc 2 1, 3) := by decide +kernel
theorem dX1_entriesOf_31 : decode cX1_entriesOf 31 = .ok (.iinc 3 1, 3) := by decide +kernel
theorem dX1_entriesOf_34 : decode cX1_entriesOf 34 = .ok (.goto (-30), 3) := by decide +kernel
theorem dX1_entriesOf_37 : decode cX1_entriesOf 37 = .ok (.iload_n 2, 1) := by decide +kernel
theorem dX1_entriesOf_38 : decode cX1_entriesOf 38 = .ok (.ireturn, 1) := by decide +kernel
theorem dX1_slotHolding_0 : decode cX1_slotHolding 0 = .ok (.iconst 0, 1) := by decide +kernel
theorem dX1_slotHolding_1 : decode cX1_slotHolding 1 = .ok (.istore_n 3, 1) := by decide +kernel
theorem dX1_slotHolding_2 : decode cX1_slotHolding 2 = .ok (.iload_n 3, 1) := by decide +kernel
theorem dX1_slotHolding_3 : decode cX1_slotHolding 3 = .ok (.bipush 32, 2) := by decide +kernel
theorem dX1_slotHolding_5 : decode cX1_slotHolding 5 = .ok (.if_icmp .ge 39, 3) := by decide +kernel
theorem dX1_slotHolding_8 : decode cX1_slotHolding 8 = .ok (.aload_n 0, 1) := by decide +kernel
theorem dX1_slotHolding_9 : decode cX1_slotHolding 9 = .ok (.iload_n 3, 1) := by decide +kernel
theorem dX1_slotHolding_10 : decode cX1_slotHolding 10 = .ok (.invokevirtual 53, 3) := by decide +kernel
theorem dX1_slotHolding_13 : decode cX1_slotHolding 13 = .ok (.ifCond .eq 25, 3) := by decide +kernel
theorem dX1_slotHolding_16 : decode cX1_slotHolding 16 = .ok (.aload_n 0, 1) := by decide +kernel
theorem dX1_slotHolding_17 : decode cX1_slotHolding 17 = .ok (.getfield 9, 3) := by decide +kernel
theorem dX1_slotHolding_20 : decode cX1_slotHolding 20 = .ok (.iload_n 3, 1) := by decide +kernel
theorem dX1_slotHolding_21 : decode cX1_slotHolding 21 = .ok (.iaload, 1) := by decide +kernel
theorem dX1_slotHolding_22 : decode cX1_slotHolding 22 = .ok (.iload_n 1, 1) := by decide +kernel
theorem dX1_slotHolding_23 : decode cX1_slotHolding 23 = .ok (.if_icmp .ne 15, 3) := by decide +kernel
theorem dX1_slotHolding_26 : decode cX1_slotHolding 26 = .ok (.aload_n 0, 1) := by decide +kernel
theorem dX1_slotHolding_27 : decode cX1_slotHolding 27 = .ok (.getfield 15, 3) := by decide +kernel
theorem dX1_slotHolding_30 : decode cX1_slotHolding 30 = .ok (.iload_n 3, 1) := by decide +kernel
theorem dX1_slotHolding_31 : decode cX1_slotHolding 31 = .ok (.iaload, 1) := by decide +kernel
theorem dX1_slotHolding_32 : decode cX1_slotHolding 32 = .ok (.iload_n 2, 1) := by decide +kernel
theorem dX1_slotHolding_33 : decode cX1_slotHolding 33 = .ok (.if_icmp .ne 5, 3) := by decide +kernel
theorem dX1_slotHolding_36 : decode cX1_slotHolding 36 = .ok (.iload_n 3, 1) := by decide +kernel
theorem dX1_slotHolding_37 : decode cX1_slotHolding 37 = .ok (.ireturn, 1) := by decide +kernel
theorem dX1_slotHolding_38 : decode cX1_slotHolding 38 = .ok (.iinc 3 1, 3) := by decide +kernel
theorem dX1_slotHolding_41 : decode cX1_slotHolding 41 = .ok (.goto (-39), 3) := by decide +kernel
theorem dX1_slotHolding_44 : decode cX1_slotHolding 44 = .ok (.iconst (-1), 1) := by decide +kernel
theorem dX1_slotHolding_45 : decode cX1_slotHolding 45 = .ok (.ireturn, 1) := by decide +kernel
theorem dX1_dropEntriesOf_0 : decode cX1_dropEntriesOf 0 = .ok (.iconst 0, 1) := by decide +kernel
theorem dX1_dropEntriesOf_1 : decode cX1_dropEntriesOf 1 = .ok (.istore_n 2, 1) := by decide +kernel
theorem dX1_dropEntriesOf_2 : decode cX1_dropEntriesOf 2 = .ok (.iload_n 2, 1) := by decide +kernel
theorem dX1_dropEntriesOf_3 : decode cX1_dropEntriesOf 3 = .ok (.bipush 32, 2) := by decide +kernel
theorem dX1_dropEntriesOf_5 : decode cX1_dropEntriesOf 5 = .ok (.if_icmp .ge 26, 3) := by decide +kernel
theorem dX1_dropEntriesOf_8 : decode cX1_dropEntriesOf 8 = .ok (.aload_n 0, 1) := by decide +kernel
theorem dX1_dropEntriesOf_9 : decode cX1_dropEntriesOf 9 = .ok (.getfield 9, 3) := by decide +kernel
theorem dX1_dropEntriesOf_12 : decode cX1_dropEntriesOf 12 = .ok (.iload_n 2, 1) := by decide +kernel
theorem dX1_dropEntriesOf_13 : decode cX1_dropEntriesOf 13 = .ok (.iaload, 1) := by decide +kernel
theorem dX1_dropEntriesOf_14 : decode cX1_dropEntriesOf 14 = .ok (.iload_n 1, 1) := by decide +kernel
theorem dX1_dropEntriesOf_15 : decode cX1_dropEntriesOf 15 = .ok (.if_icmp .ne 10, 3) := by decide +kernel
theorem dX1_dropEntriesOf_18 : decode cX1_dropEntriesOf 18 = .ok (.aload_n 0, 1) := by decide +kernel
theorem dX1_dropEntriesOf_19 : decode cX1_dropEntriesOf 19 = .ok (.getfield 9, 3) := by decide +kernel
theorem dX1_dropEntriesOf_22 : decode cX1_dropEntriesOf 22 = .ok (.iload_n 2, 1) := by decide +kernel
theorem dX1_dropEntriesOf_23 : decode cX1_dropEntriesOf 23 = .ok (.iconst (-1), 1) := by decide +kernel
theorem dX1_dropEntriesOf_24 : decode cX1_dropEntriesOf 24 = .ok (.iastore, 1) := by decide +kernel
theorem dX1_dropEntriesOf_25 : decode cX1_dropEntriesOf 25 = .ok (.iinc 2 1, 3) := by decide +kernel
theorem dX1_dropEntriesOf_28 : decode cX1_dropEntriesOf 28 = .ok (.goto (-26), 3) := by decide +kernel
theorem dX1_dropEntriesOf_31 : decode cX1_dropEntriesOf 31 = .ok (.return_, 1) := by decide +kernel
theorem dX1_addSingle_0 : decode cX1_addSingle 0 = .ok (.aload_n 0, 1) := by decide +kernel
theorem dX1_addSingle_1 : decode cX1_addSingle 1 = .ok (.getfield 37, 3) := by decide +kernel
theorem dX1_addSingle_4 : decode cX1_addSingle 4 = .ok (.istore 5, 2) := by decide +kernel
theorem dX1_addSingle_6 : decode cX1_addSingle 6 = .ok (.aload_n 0, 1) := by decide +kernel
theorem dX1_addSingle_7 : decode cX1_addSingle 7 = .ok (.dup, 1) := by decide +kernel
theorem dX1_addSingle_8 : decode cX1_addSingle 8 = .ok (.getfield 37, 3) := by decide +kernel
theorem dX1_addSingle_11 : decode cX1_addSingle 11 = .ok (.iconst 1, 1) := by decide +kernel
theorem dX1_addSingle_12 : decode cX1_addSingle 12 = .ok (.iadd, 1) := by decide +kernel
theorem dX1_addSingle_13 : decode cX1_addSingle 13 = .ok (.putfield 37, 3) := by decide +kernel
theorem dX1_addSingle_16 : decode cX1_addSingle 16 = .ok (.aload_n 0, 1) := by decide +kernel
theorem dX1_addSingle_17 : decode cX1_addSingle 17 = .ok (.aload_n 0, 1) := by decide +kernel
theorem dX1_addSingle_18 : decode cX1_addSingle 18 = .ok (.iload_n 3, 1) := by decide +kernel
theorem dX1_addSingle_19 : decode cX1_addSingle 19 = .ok (.invokevirtual 64, 3) := by decide +kernel
theorem dX1_addSingle_22 : decode cX1_addSingle 22 = .ok (.iload 5, 2) := by decide +kernel
theorem dX1_addSingle_24 : decode cX1_addSingle 24 = .ok (.iconst 0, 1) := by decide +kernel
theorem dX1_addSingle_25 : decode cX1_addSingle 25 = .ok (.iload_n 2, 1) := by decide +kernel
theorem dX1_addSingle_26 : decode cX1_addSingle 26 = .ok (.iload_n 1, 1) := by decide +kernel
theorem dX1_addSingle_27 : decode cX1_addSingle 27 = .ok (.iload_n 3, 1) := by decide +kernel
theorem dX1_addSingle_28 : decode cX1_addSingle 28 = .ok (.iload 4, 2) := by decide +kernel
theorem dX1_addSingle_30 : decode cX1_addSingle 30 = .ok (.invokevirtual 67, 3) := by decide +kernel
theorem dX1_addSingle_33 : decode cX1_addSingle 33 = .ok (.iload 5, 2) := by decide +kernel
theorem dX1_addSingle_35 : decode cX1_addSingle 35 = .ok (.ireturn, 1) := by decide +kernel
theorem dX1_addBlocks_0 : decode cX1_addBlocks 0 = .ok (.aload_n 0, 1) := by decide +kernel
theorem dX1_addBlocks_1 : decode cX1_addBlocks 1 = .ok (.getfield 37, 3) := by decide +kernel
theorem dX1_addBlocks_4 : decode cX1_addBlocks 4 = .ok (.istore 5, 2) := by decide +kernel
theorem dX1_addBlocks_6 : decode cX1_addBlocks 6 = .ok (.aload_n 0, 1) := by decide +kernel
theorem dX1_addBlocks_7 : decode cX1_addBlocks 7 = .ok (.dup, 1) := by decide +kernel
theorem dX1_addBlocks_8 : decode cX1_addBlocks 8 = .ok (.getfield 37, 3) := by decide +kernel
theorem dX1_addBlocks_11 : decode cX1_addBlocks 11 = .ok (.iconst 1, 1) := by decide +kernel
theorem dX1_addBlocks_12 : decode cX1_addBlocks 12 = .ok (.iadd, 1) := by decide +kernel
theorem dX1_addBlocks_13 : decode cX1_addBlocks 13 = .ok (.putfield 37, 3) := by decide +kernel
theorem dX1_addBlocks_16 : decode cX1_addBlocks 16 = .ok (.iload_n 1, 1) := by decide +kernel
theorem dX1_addBlocks_17 : decode cX1_addBlocks 17 = .ok (.istore 6, 2) := by decide +kernel
theorem dX1_addBlocks_19 : decode cX1_addBlocks 19 = .ok (.iconst 0, 1) := by decide +kernel
theorem dX1_addBlocks_20 : decode cX1_addBlocks 20 = .ok (.istore 7, 2) := by decide +kernel
theorem dX1_addBlocks_22 : decode cX1_addBlocks 22 = .ok (.iload 7, 2) := by decide +kernel
theorem dX1_addBlocks_24 : decode cX1_addBlocks 24 = .ok (.bipush 14, 2) := by decide +kernel
theorem dX1_addBlocks_26 : decode cX1_addBlocks 26 = .ok (.if_icmp .ge 54, 3) := by decide +kernel
theorem dX1_addBlocks_29 : decode cX1_addBlocks 29 = .ok (.iload 6, 2) := by decide +kernel
theorem dX1_addBlocks_31 : decode cX1_addBlocks 31 = .ok (.iload_n 2, 1) := by decide +kernel
theorem dX1_addBlocks_32 : decode cX1_addBlocks 32 = .ok (.if_icmp .gt 48, 3) := by decide +kernel
theorem dX1_addBlocks_35 : decode cX1_addBlocks 35 = .ok (.iload 6, 2) := by decide +kernel
theorem dX1_addBlocks_37 : decode cX1_addBlocks 37 = .ok (.iload_n 2, 1) := by decide +kernel
theorem dX1_addBlocks_38 : decode cX1_addBlocks 38 = .ok (.invokestatic 71, 3) := by decide +kernel
theorem dX1_addBlocks_41 : decode cX1_addBlocks 41 = .ok (.istore 8, 2) := by decide +kernel
theorem dX1_addBlocks_43 : decode cX1_addBlocks 43 = .ok (.aload_n 0, 1) := by decide +kernel
theorem dX1_addBlocks_44 : decode cX1_addBlocks 44 = .ok (.aload_n 0, 1) := by decide +kernel
theorem dX1_addBlocks_45 : decode cX1_addBlocks 45 = .ok (.iload_n 3, 1) := by decide +kernel
theorem dX1_addBlocks_46 : decode cX1_addBlocks 46 = .ok (.invokevirtual 64, 3) := by decide +kernel
theorem dX1_addBlocks_49 : decode cX1_addBlocks 49 = .ok (.iload 5, 2) := by decide +kernel
theorem dX1_addBlocks_51 : decode cX1_addBlocks 51 = .ok (.iload 7, 2) := by decide +kernel
theorem dX1_addBlocks_53 : decode cX1_addBlocks 53 = .ok (.sipush 256, 3) := by decide +kernel
theorem dX1_addBlocks_56 : decode cX1_addBlocks 56 = .ok (.iload 8, 2) := by decide +kernel
theorem dX1_addBlocks_58 : decode cX1_addBlocks 58 = .ok (.isub, 1) := by decide +kernel
theorem dX1_addBlocks_59 : decode cX1_addBlocks 59 = .ok (.iload 6, 2) := by decide +kernel
theorem dX1_addBlocks_61 : decode cX1_addBlocks 61 = .ok (.iload_n 3, 1) := by decide +kernel
theorem dX1_addBlocks_62 : decode cX1_addBlocks 62 = .ok (.iload 4, 2) := by decide +kernel
theorem dX1_addBlocks_64 : decode cX1_addBlocks 64 = .ok (.invokevirtual 67, 3) := by decide +kernel
theorem dX1_addBlocks_67 : decode cX1_addBlocks 67 = .ok (.iload 6, 2) := by decide +kernel
theorem dX1_addBlocks_69 : decode cX1_addBlocks 69 = .ok (.iload 8, 2) := by decide +kernel
theorem dX1_addBlocks_71 : decode cX1_addBlocks 71 = .ok (.iadd, 1) := by decide +kernel
theorem dX1_addBlocks_72 : decode cX1_addBlocks 72 = .ok (.istore 6, 2) := by decide +kernel
theorem dX1_addBlocks_74 : decode cX1_addBlocks 74 = .ok (.iinc 7 1, 3) := by decide +kernel
theorem dX1_addBlocks_77 : decode cX1_addBlocks 77 = .ok (.goto (-55), 3) := by decide +kernel
theorem dX1_addBlocks_80 : decode cX1_addBlocks 80 = .ok (.iload 5, 2) := by decide +kernel
theorem dX1_addBlocks_82 : decode cX1_addBlocks 82 = .ok (.ireturn, 1) := by decide +kernel
theorem dX1_fill_0 : decode cX1_fill 0 = .ok (.iload_n 1, 1) := by decide +kernel
theorem dX1_fill_1 : decode cX1_fill 1 = .ok (.invokestatic 49, 3) := by decide +kernel
theorem dX1_fill_4 : decode cX1_fill 4 = .ok (.ifCond .ne 4, 3) := by decide +kernel
theorem dX1_fill_7 : decode cX1_fill 7 = .ok (.return_, 1) := by decide +kernel
theorem dX1_fill_8 : decode cX1_fill 8 = .ok (.aload_n 0, 1) := by decide +kernel
theorem dX1_fill_9 : decode cX1_fill 9 = .ok (.getfield 9, 3) := by decide +kernel
theorem dX1_fill_12 : decode cX1_fill 12 = .ok (.iload_n 1, 1) := by decide +kernel
theorem dX1_fill_13 : decode cX1_fill 13 = .ok (.iload_n 2, 1) := by decide +kernel
theorem dX1_fill_14 : decode cX1_fill 14 = .ok (.iastore, 1) := by decide +kernel
theorem dX1_fill_15 : decode cX1_fill 15 = .ok (.aload_n 0, 1) := by decide +kernel
theorem dX1_fill_16 : decode cX1_fill 16 = .ok (.getfield 15, 3) := by decide +kernel
theorem dX1_fill_19 : decode cX1_fill 19 = .ok (.iload_n 1, 1) := by decide +kernel
theorem dX1_fill_20 : decode cX1_fill 20 = .ok (.iload_n 3, 1) := by decide +kernel
theorem dX1_fill_21 : decode cX1_fill 21 = .ok (.iastore, 1) := by decide +kernel
theorem dX1_fill_22 : decode cX1_fill 22 = .ok (.aload_n 0, 1) := by decide +kernel
theorem dX1_fill_23 : decode cX1_fill 23 = .ok (.getfield 18, 3) := by decide +kernel
theorem dX1_fill_26 : decode cX1_fill 26 = .ok (.iload_n 1, 1) := by decide +kernel
theorem dX1_fill_27 : decode cX1_fill 27 = .ok (.iload 4, 2) := by decide +kernel
theorem dX1_fill_29 : decode cX1_fill 29 = .ok (.iastore, 1) := by decide +kernel
theorem dX1_fill_30 : decode cX1_fill 30 = .ok (.aload_n 0, 1) := by decide +kernel
theorem dX1_fill_31 : decode cX1_fill 31 = .ok (.getfield 21, 3) := by decide +kernel
theorem dX1_fill_34 : decode cX1_fill 34 = .ok (.iload_n 1, 1) := by decide +kernel
theorem dX1_fill_35 : decode cX1_fill 35 = .ok (.iload 5, 2) := by decide +kernel
theorem dX1_fill_37 : decode cX1_fill 37 = .ok (.iload 4, 2) := by decide +kernel
theorem dX1_fill_39 : decode cX1_fill 39 = .ok (.iand, 1) := by decide +kernel
theorem dX1_fill_40 : decode cX1_fill 40 = .ok (.iastore, 1) := by decide +kernel
theorem dX1_fill_41 : decode cX1_fill 41 = .ok (.aload_n 0, 1) := by decide +kernel
theorem dX1_fill_42 : decode cX1_fill 42 = .ok (.getfield 24, 3) := by decide +kernel
theorem dX1_fill_45 : decode cX1_fill 45 = .ok (.iload_n 1, 1) := by decide +kernel
theorem dX1_fill_46 : decode cX1_fill 46 = .ok (.iload 6, 2) := by decide +kernel
theorem dX1_fill_48 : decode cX1_fill 48 = .ok (.iastore, 1) := by decide +kernel
theorem dX1_fill_49 : decode cX1_fill 49 = .ok (.aload_n 0, 1) := by decide +kernel
theorem dX1_fill_50 : decode cX1_fill 50 = .ok (.getfield 27, 3) := by decide +kernel
theorem dX1_fill_53 : decode cX1_fill 53 = .ok (.iload_n 1, 1) := by decide +kernel
theorem dX1_fill_54 : decode cX1_fill 54 = .ok (.iload 7, 2) := by decide +kernel
theorem dX1_fill_56 : decode cX1_fill 56 = .ok (.iastore, 1) := by decide +kernel
theorem dX1_fill_57 : decode cX1_fill 57 = .ok (.aload_n 0, 1) := by decide +kernel
theorem dX1_fill_58 : decode cX1_fill 58 = .ok (.getfield 30, 3) := by decide +kernel
theorem dX1_fill_61 : decode cX1_fill 61 = .ok (.iload_n 1, 1) := by decide +kernel
theorem dX1_fill_62 : decode cX1_fill 62 = .ok (.iconst 0, 1) := by decide +kernel
theorem dX1_fill_63 : decode cX1_fill 63 = .ok (.iastore, 1) := by decide +kernel
theorem dX1_fill_64 : decode cX1_fill 64 = .ok (.return_, 1) := by decide +kernel
theorem dX1_openSlot_0 : decode cX1_openSlot 0 = .ok (.aload_n 0, 1) := by decide +kernel
theorem dX1_openSlot_1 : decode cX1_openSlot 1 = .ok (.iload_n 1, 1) := by decide +kernel
theorem dX1_openSlot_2 : decode cX1_openSlot 2 = .ok (.invokevirtual 75, 3) := by decide +kernel
theorem dX1_openSlot_5 : decode cX1_openSlot 5 = .ok (.istore_n 2, 1) := by decide +kernel
theorem dX1_openSlot_6 : decode cX1_openSlot 6 = .ok (.aload_n 0, 1) := by decide +kernel
theorem dX1_openSlot_7 : decode cX1_openSlot 7 = .ok (.iload_n 1, 1) := by decide +kernel
theorem dX1_openSlot_8 : decode cX1_openSlot 8 = .ok (.invokevirtual 78, 3) := by decide +kernel
theorem dX1_openSlot_11 : decode cX1_openSlot 11 = .ok (.istore_n 3, 1) := by decide +kernel
theorem dX1_openSlot_12 : decode cX1_openSlot 12 = .ok (.iload_n 3, 1) := by decide +kernel
theorem dX1_openSlot_13 : decode cX1_openSlot 13 = .ok (.iload_n 2, 1) := by decide +kernel
theorem dX1_openSlot_14 : decode cX1_openSlot 14 = .ok (.isub, 1) := by decide +kernel
theorem dX1_openSlot_15 : decode cX1_openSlot 15 = .ok (.iconst 1, 1) := by decide +kernel
theorem dX1_openSlot_16 : decode cX1_openSlot 16 = .ok (.if_icmp .le 10, 3) := by decide +kernel
theorem dX1_openSlot_19 : decode cX1_openSlot 19 = .ok (.aload_n 0, 1) := by decide +kernel
theorem dX1_openSlot_20 : decode cX1_openSlot 20 = .ok (.iload_n 2, 1) := by decide +kernel
theorem dX1_openSlot_21 : decode cX1_openSlot 21 = .ok (.iload_n 3, 1) := by decide +kernel
theorem dX1_openSlot_22 : decode cX1_openSlot 22 = .ok (.invokevirtual 81, 3) := by decide +kernel
theorem dX1_openSlot_25 : decode cX1_openSlot 25 = .ok (.ireturn, 1) := by decide +kernel
theorem dX1_openSlot_26 : decode cX1_openSlot 26 = .ok (.aload_n 0, 1) := by decide +kernel
theorem dX1_openSlot_27 : decode cX1_openSlot 27 = .ok (.iload_n 3, 1) := by decide +kernel
theorem dX1_openSlot_28 : decode cX1_openSlot 28 = .ok (.invokevirtual 84, 3) := by decide +kernel
theorem dX1_openSlot_31 : decode cX1_openSlot 31 = .ok (.istore 4, 2) := by decide +kernel
theorem dX1_openSlot_33 : decode cX1_openSlot 33 = .ok (.aload_n 0, 1) := by decide +kernel
theorem dX1_openSlot_34 : decode cX1_openSlot 34 = .ok (.iload_n 2, 1) := by decide +kernel
theorem dX1_openSlot_35 : decode cX1_openSlot 35 = .ok (.invokevirtual 87, 3) := by decide +kernel
theorem dX1_openSlot_38 : decode cX1_openSlot 38 = .ok (.istore 5, 2) := by decide +kernel
theorem dX1_openSlot_40 : decode cX1_openSlot 40 = .ok (.iload 4, 2) := by decide +kernel
theorem dX1_openSlot_42 : decode cX1_openSlot 42 = .ok (.bipush 33, 2) := by decide +kernel
theorem dX1_openSlot_44 : decode cX1_openSlot 44 = .ok (.if_icmp .ne 12, 3) := by decide +kernel
theorem dX1_openSlot_47 : decode cX1_openSlot 47 = .ok (.iload 5, 2) := by decide +kernel
theorem dX1_openSlot_49 : decode cX1_openSlot 49 = .ok (.bipush 33, 2) := by decide +kernel
theorem dX1_openSlot_51 : decode cX1_openSlot 51 = .ok (.if_icmp .ne 5, 3) := by decide +kernel
theorem dX1_openSlot_54 : decode cX1_openSlot 54 = .ok (.iconst (-1), 1) := by decide +kernel
theorem dX1_openSlot_55 : decode cX1_openSlot 55 = .ok (.ireturn, 1) := by decide +kernel
theorem dX1_openSlot_56 : decode cX1_openSlot 56 = .ok (.iload 4, 2) := by decide +kernel
theorem dX1_openSlot_58 : decode cX1_openSlot 58 = .ok (.iload 5, 2) := by decide +kernel
theorem dX1_openSlot_60 : decode cX1_openSlot 60 = .ok (.if_icmp .gt 12, 3) := by decide +kernel
theorem dX1_openSlot_63 : decode cX1_openSlot 63 = .ok (.aload_n 0, 1) := by decide +kernel
theorem dX1_openSlot_64 : decode cX1_openSlot 64 = .ok (.iload_n 3, 1) := by decide +kernel
theorem dX1_openSlot_65 : decode cX1_openSlot 65 = .ok (.iload 4, 2) := by decide +kernel
theorem dX1_openSlot_67 : decode cX1_openSlot 67 = .ok (.invokevirtual 90, 3) := by decide +kernel
theorem dX1_openSlot_70 : decode cX1_openSlot 70 = .ok (.iload_n 3, 1) := by decide +kernel
theorem dX1_openSlot_71 : decode cX1_openSlot 71 = .ok (.ireturn, 1) := by decide +kernel
theorem dX1_openSlot_72 : decode cX1_openSlot 72 = .ok (.aload_n 0, 1) := by decide +kernel
theorem dX1_openSlot_73 : decode cX1_openSlot 73 = .ok (.iload_n 2, 1) := by decide +kernel
theorem dX1_openSlot_74 : decode cX1_openSlot 74 = .ok (.iload 5, 2) := by decide +kernel
theorem dX1_openSlot_76 : decode cX1_openSlot 76 = .ok (.invokevirtual 94, 3) := by decide +kernel
theorem dX1_openSlot_79 : decode cX1_openSlot 79 = .ok (.iload_n 2, 1) := by decide +kernel
theorem dX1_openSlot_80 : decode cX1_openSlot 80 = .ok (.ireturn, 1) := by decide +kernel
theorem dX1_movesFor_0 : decode cX1_movesFor 0 = .ok (.aload_n 0, 1) := by decide +kernel
theorem dX1_movesFor_1 : decode cX1_movesFor 1 = .ok (.iload_n 1, 1) := by decide +kernel
theorem dX1_movesFor_2 : decode cX1_movesFor 2 = .ok (.invokevirtual 75, 3) := by decide +kernel
theorem dX1_movesFor_5 : decode cX1_movesFor 5 = .ok (.istore_n 2, 1) := by decide +kernel
theorem dX1_movesFor_6 : decode cX1_movesFor 6 = .ok (.aload_n 0, 1) := by decide +kernel
theorem dX1_movesFor_7 : decode cX1_movesFor 7 = .ok (.iload_n 1, 1) := by decide +kernel
theorem dX1_movesFor_8 : decode cX1_movesFor 8 = .ok (.invokevirtual 78, 3) := by decide +kernel
theorem dX1_movesFor_11 : decode cX1_movesFor 11 = .ok (.istore_n 3, 1) := by decide +kernel
theorem dX1_movesFor_12 : decode cX1_movesFor 12 = .ok (.iload_n 3, 1) := by decide +kernel
theorem dX1_movesFor_13 : decode cX1_movesFor 13 = .ok (.iload_n 2, 1) := by decide +kernel
theorem dX1_movesFor_14 : decode cX1_movesFor 14 = .ok (.isub, 1) := by decide +kernel
theorem dX1_movesFor_15 : decode cX1_movesFor 15 = .ok (.iconst 1, 1) := by decide +kernel
theorem dX1_movesFor_16 : decode cX1_movesFor 16 = .ok (.if_icmp .le 5, 3) := by decide +kernel
theorem dX1_movesFor_19 : decode cX1_movesFor 19 = .ok (.iconst 0, 1) := by decide +kernel
theorem dX1_movesFor_20 : decode cX1_movesFor 20 = .ok (.ireturn, 1) := by decide +kernel
theorem dX1_movesFor_21 : decode cX1_movesFor 21 = .ok (.aload_n 0, 1) := by decide +kernel
theorem dX1_movesFor_22 : decode cX1_movesFor 22 = .ok (.iload_n 3, 1) := by decide +kernel
theorem dX1_movesFor_23 : decode cX1_movesFor 23 = .ok (.invokevirtual 84, 3) := by decide +kernel
theorem dX1_movesFor_26 : decode cX1_movesFor 26 = .ok (.aload_n 0, 1) := by decide +kernel
theorem dX1_movesFor_27 : decode cX1_movesFor 27 = .ok (.iload_n 2, 1) := by decide +kernel
theorem dX1_movesFor_28 : decode cX1_movesFor 28 = .ok (.invokevirtual 87, 3) := by decide +kernel
theorem dX1_movesFor_31 : decode cX1_movesFor 31 = .ok (.invokestatic 97, 3) := by decide +kernel
theorem dX1_movesFor_34 : decode cX1_movesFor 34 = .ok (.ireturn, 1) := by decide +kernel
theorem dX1_lastSlotUpTo_0 : decode cX1_lastSlotUpTo 0 = .ok (.bipush 31, 2) := by decide +kernel
theorem dX1_lastSlotUpTo_2 : decode cX1_lastSlotUpTo 2 = .ok (.istore_n 2, 1) := by decide +kernel
theorem dX1_lastSlotUpTo_3 : decode cX1_lastSlotUpTo 3 = .ok (.iload_n 2, 1) := by decide +kernel
theorem dX1_lastSlotUpTo_4 : decode cX1_lastSlotUpTo 4 = .ok (.ifCond .lt 29, 3) := by decide +kernel
theorem dX1_lastSlotUpTo_7 : decode cX1_lastSlotUpTo 7 = .ok (.aload_n 0, 1) := by decide +kernel
theorem dX1_lastSlotUpTo_8 : decode cX1_lastSlotUpTo 8 = .ok (.iload_n 2, 1) := by decide +kernel
theorem dX1_lastSlotUpTo_9 : decode cX1_lastSlotUpTo 9 = .ok (.invokevirtual 53, 3) := by decide +kernel
theorem dX1_lastSlotUpTo_12 : decode cX1_lastSlotUpTo 12 = .ok (.ifCond .eq 15, 3) := by decide +kernel
theorem dX1_lastSlotUpTo_15 : decode cX1_lastSlotUpTo 15 = .ok (.aload_n 0, 1) := by decide +kernel
theorem dX1_lastSlotUpTo_16 : decode cX1_lastSlotUpTo 16 = .ok (.getfield 24, 3) := by decide +kernel
theorem dX1_lastSlotUpTo_19 : decode cX1_lastSlotUpTo 19 = .ok (.iload_n 2, 1) := by decide +kernel
theorem dX1_lastSlotUpTo_20 : decode cX1_lastSlotUpTo 20 = .ok (.iaload, 1) := by decide +kernel
theorem dX1_lastSlotUpTo_21 : decode cX1_lastSlotUpTo 21 = .ok (.iload_n 1, 1) := by decide +kernel
theorem dX1_lastSlotUpTo_22 : decode cX1_lastSlotUpTo 22 = .ok (.if_icmp .gt 5, 3) := by decide +kernel
theorem dX1_lastSlotUpTo_25 : decode cX1_lastSlotUpTo 25 = .ok (.iload_n 2, 1) := by decide +kernel
theorem dX1_lastSlotUpTo_26 : decode cX1_lastSlotUpTo 26 = .ok (.ireturn, 1) := by decide +kernel
theorem dX1_lastSlotUpTo_27 : decode cX1_lastSlotUpTo 27 = .ok (.iinc 2 (-1), 3) := by decide +kernel
theorem dX1_lastSlotUpTo_30 : decode cX1_lastSlotUpTo 30 = .ok (.goto (-27), 3) := by decide +kernel
theorem dX1_lastSlotUpTo_33 : decode cX1_lastSlotUpTo 33 = .ok (.iconst (-1), 1) := by decide +kernel
theorem dX1_lastSlotUpTo_34 : decode cX1_lastSlotUpTo 34 = .ok (.ireturn, 1) := by decide +kernel
theorem dX1_firstSlotBeyond_0 : decode cX1_firstSlotBeyond 0 = .ok (.iconst 0, 1) := by decide +kernel
theorem dX1_firstSlotBeyond_1 : decode cX1_firstSlotBeyond 1 = .ok (.istore_n 2, 1) := by decide +kernel
theorem dX1_firstSlotBeyond_2 : decode cX1_firstSlotBeyond 2 = .ok (.iload_n 2, 1) := by decide +kernel
theorem dX1_firstSlotBeyond_3 : decode cX1_firstSlotBeyond 3 = .ok (.bipush 32, 2) := by decide +kernel
theorem dX1_firstSlotBeyond_5 : decode cX1_firstSlotBeyond 5 = .ok (.if_icmp .ge 29, 3) := by decide +kernel
theorem dX1_firstSlotBeyond_8 : decode cX1_firstSlotBeyond 8 = .ok (.aload_n 0, 1) := by decide +kernel
theorem dX1_firstSlotBeyond_9 : decode cX1_firstSlotBeyond 9 = .ok (.iload_n 2, 1) := by decide +kernel
theorem dX1_firstSlotBeyond_10 : decode cX1_firstSlotBeyond 10 = .ok (.invokevirtual 53, 3) := by decide +kernel
theorem dX1_firstSlotBeyond_13 : decode cX1_firstSlotBeyond 13 = .ok (.ifCond .eq 15, 3) := by decide +kernel
theorem dX1_firstSlotBeyond_16 : decode cX1_firstSlotBeyond 16 = .ok (.aload_n 0, 1) := by decide +kernel
theorem dX1_firstSlotBeyond_17 : decode cX1_firstSlotBeyond 17 = .ok (.getfield 24, 3) := by decide +kernel
theorem dX1_firstSlotBeyond_20 : decode cX1_firstSlotBeyond 20 = .ok (.iload_n 2, 1) := by decide +kernel
theorem dX1_firstSlotBeyond_21 : decode cX1_firstSlotBeyond 21 = .ok (.iaload, 1) := by decide +kernel
theorem dX1_firstSlotBeyond_22 : decode cX1_firstSlotBeyond 22 = .ok (.iload_n 1, 1) := by decide +kernel
theorem dX1_firstSlotBeyond_23 : decode cX1_firstSlotBeyond 23 = .ok (.if_icmp .le 5, 3) := by decide +kernel
theorem dX1_firstSlotBeyond_26 : decode cX1_firstSlotBeyond 26 = .ok (.iload_n 2, 1) := by decide +kernel
theorem dX1_firstSlotBeyond_27 : decode cX1_firstSlotBeyond 27 = .ok (.ireturn, 1) := by decide +kernel
theorem dX1_firstSlotBeyond_28 : decode cX1_firstSlotBeyond 28 = .ok (.iinc 2 1, 3) := by decide +kernel
theorem dX1_firstSlotBeyond_31 : decode cX1_firstSlotBeyond 31 = .ok (.goto (-29), 3) := by decide +kernel
theorem dX1_firstSlotBeyond_34 : decode cX1_firstSlotBeyond 34 = .ok (.bipush 32, 2) := by decide +kernel
theorem dX1_firstSlotBeyond_36 : decode cX1_firstSlotBeyond 36 = .ok (.ireturn, 1) := by decide +kernel
theorem dX1_placeBetween_0 : decode cX1_placeBetween 0 = .ok (.aload_n 0, 1) := by decide +kernel
theorem dX1_placeBetween_1 : decode cX1_placeBetween 1 = .ok (.getfield 33, 3) := by decide +kernel
theorem dX1_placeBetween_4 : decode cX1_placeBetween 4 = .ok (.ifCond .ne 7, 3) := by decide +kernel
theorem dX1_placeBetween_7 : decode cX1_placeBetween 7 = .ok (.iload_n 1, 1) := by decide +kernel
theorem dX1_placeBetween_8 : decode cX1_placeBetween 8 = .ok (.iconst 1, 1) := by decide +kernel
theorem dX1_placeBetween_9 : decode cX1_placeBetween 9 = .ok (.iadd, 1) := by decide +kernel
theorem dX1_placeBetween_10 : decode cX1_placeBetween 10 = .ok (.ireturn, 1) := by decide +kernel
theorem dX1_placeBetween_11 : decode cX1_placeBetween 11 = .ok (.aload_n 0, 1) := by decide +kernel
theorem dX1_placeBetween_12 : decode cX1_placeBetween 12 = .ok (.getfield 33, 3) := by decide +kernel
theorem dX1_placeBetween_15 : decode cX1_placeBetween 15 = .ok (.iconst 1, 1) := by decide +kernel
theorem dX1_placeBetween_16 : decode cX1_placeBetween 16 = .ok (.if_icmp .ne 11, 3) := by decide +kernel
theorem dX1_placeBetween_19 : decode cX1_placeBetween 19 = .ok (.iload_n 1, 1) := by decide +kernel
theorem dX1_placeBetween_20 : decode cX1_placeBetween 20 = .ok (.iload_n 2, 1) := by decide +kernel
theorem dX1_placeBetween_21 : decode cX1_placeBetween 21 = .ok (.iadd, 1) := by decide +kernel
theorem dX1_placeBetween_22 : decode cX1_placeBetween 22 = .ok (.iconst 2, 1) := by decide +kernel
theorem dX1_placeBetween_23 : decode cX1_placeBetween 23 = .ok (.idiv, 1) := by decide +kernel
theorem dX1_placeBetween_24 : decode cX1_placeBetween 24 = .ok (.goto 6, 3) := by decide +kernel
theorem dX1_placeBetween_27 : decode cX1_placeBetween 27 = .ok (.iload_n 2, 1) := by decide +kernel
theorem dX1_placeBetween_28 : decode cX1_placeBetween 28 = .ok (.iconst 1, 1) := by decide +kernel
theorem dX1_placeBetween_29 : decode cX1_placeBetween 29 = .ok (.isub, 1) := by decide +kernel
theorem dX1_placeBetween_30 : decode cX1_placeBetween 30 = .ok (.ireturn, 1) := by decide +kernel
theorem dX1_movesUpFrom_0 : decode cX1_movesUpFrom 0 = .ok (.iload_n 1, 1) := by decide +kernel
theorem dX1_movesUpFrom_1 : decode cX1_movesUpFrom 1 = .ok (.istore_n 2, 1) := by decide +kernel
theorem dX1_movesUpFrom_2 : decode cX1_movesUpFrom 2 = .ok (.iload_n 2, 1) := by decide +kernel
theorem dX1_movesUpFrom_3 : decode cX1_movesUpFrom 3 = .ok (.bipush 32, 2) := by decide +kernel
theorem dX1_movesUpFrom_5 : decode cX1_movesUpFrom 5 = .ok (.if_icmp .ge 21, 3) := by decide +kernel
theorem dX1_movesUpFrom_8 : decode cX1_movesUpFrom 8 = .ok (.aload_n 0, 1) := by decide +kernel
theorem dX1_movesUpFrom_9 : decode cX1_movesUpFrom 9 = .ok (.iload_n 2, 1) := by decide +kernel
theorem dX1_movesUpFrom_10 : decode cX1_movesUpFrom 10 = .ok (.invokevirtual 53, 3) := by decide +kernel
theorem dX1_movesUpFrom_13 : decode cX1_movesUpFrom 13 = .ok (.ifCond .ne 7, 3) := by decide +kernel
theorem dX1_movesUpFrom_16 : decode cX1_movesUpFrom 16 = .ok (.iload_n 2, 1) := by decide +kernel
theorem dX1_movesUpFrom_17 : decode cX1_movesUpFrom 17 = .ok (.iload_n 1, 1) := by decide +kernel
theorem dX1_movesUpFrom_18 : decode cX1_movesUpFrom 18 = .ok (.isub, 1) := by decide +kernel
theorem dX1_movesUpFrom_19 : decode cX1_movesUpFrom 19 = .ok (.ireturn, 1) := by decide +kernel
theorem dX1_movesUpFrom_20 : decode cX1_movesUpFrom 20 = .ok (.iinc 2 1, 3) := by decide +kernel
theorem dX1_movesUpFrom_23 : decode cX1_movesUpFrom 23 = .ok (.goto (-21), 3) := by decide +kernel
theorem dX1_movesUpFrom_26 : decode cX1_movesUpFrom 26 = .ok (.bipush 33, 2) := by decide +kernel
theorem dX1_movesUpFrom_28 : decode cX1_movesUpFrom 28 = .ok (.ireturn, 1) := by decide +kernel
theorem dX1_movesDownFrom_0 : decode cX1_movesDownFrom 0 = .ok (.iload_n 1, 1) := by decide +kernel
theorem dX1_movesDownFrom_1 : decode cX1_movesDownFrom 1 = .ok (.istore_n 2, 1) := by decide +kernel
theorem dX1_movesDownFrom_2 : decode cX1_movesDownFrom 2 = .ok (.iload_n 2, 1) := by decide +kernel
theorem dX1_movesDownFrom_3 : decode cX1_movesDownFrom 3 = .ok (.ifCond .lt 21, 3) := by decide +kernel
theorem dX1_movesDownFrom_6 : decode cX1_movesDownFrom 6 = .ok (.aload_n 0, 1) := by decide +kernel
theorem dX1_movesDownFrom_7 : decode cX1_movesDownFrom 7 = .ok (.iload_n 2, 1) := by decide +kernel
theorem dX1_movesDownFrom_8 : decode cX1_movesDownFrom 8 = .ok (.invokevirtual 53, 3) := by decide +kernel
theorem dX1_movesDownFrom_11 : decode cX1_movesDownFrom 11 = .ok (.ifCond .ne 7, 3) := by decide +kernel
theorem dX1_movesDownFrom_14 : decode cX1_movesDownFrom 14 = .ok (.iload_n 1, 1) := by decide +kernel
theorem dX1_movesDownFrom_15 : decode cX1_movesDownFrom 15 = .ok (.iload_n 2, 1) := by decide +kernel
theorem dX1_movesDownFrom_16 : decode cX1_movesDownFrom 16 = .ok (.isub, 1) := by decide +kernel
theorem dX1_movesDownFrom_17 : decode cX1_movesDownFrom 17 = .ok (.ireturn, 1) := by decide +kernel
theorem dX1_movesDownFrom_18 : decode cX1_movesDownFrom 18 = .ok (.iinc 2 (-1), 3) := by decide +kernel
theorem dX1_movesDownFrom_21 : decode cX1_movesDownFrom 21 = .ok (.goto (-19), 3) := by decide +kernel
theorem dX1_movesDownFrom_24 : decode cX1_movesDownFrom 24 = .ok (.bipush 33, 2) := by decide +kernel
theorem dX1_movesDownFrom_26 : decode cX1_movesDownFrom 26 = .ok (.ireturn, 1) := by decide +kernel
theorem dX1_moveUp_0 : decode cX1_moveUp 0 = .ok (.iload_n 1, 1) := by decide +kernel
theorem dX1_moveUp_1 : decode cX1_moveUp 1 = .ok (.iload_n 2, 1) := by decide +kernel
theorem dX1_moveUp_2 : decode cX1_moveUp 2 = .ok (.iadd, 1) := by decide +kernel
theorem dX1_moveUp_3 : decode cX1_moveUp 3 = .ok (.istore_n 3, 1) := by decide +kernel
theorem dX1_moveUp_4 : decode cX1_moveUp 4 = .ok (.iload_n 3, 1) := by decide +kernel
theorem dX1_moveUp_5 : decode cX1_moveUp 5 = .ok (.iload_n 1, 1) := by decide +kernel
theorem dX1_moveUp_6 : decode cX1_moveUp 6 = .ok (.if_icmp .le 17, 3) := by decide +kernel
theorem dX1_moveUp_9 : decode cX1_moveUp 9 = .ok (.aload_n 0, 1) := by decide +kernel
theorem dX1_moveUp_10 : decode cX1_moveUp 10 = .ok (.iload_n 3, 1) := by decide +kernel
theorem dX1_moveUp_11 : decode cX1_moveUp 11 = .ok (.iconst 1, 1) := by decide +kernel
theorem dX1_moveUp_12 : decode cX1_moveUp 12 = .ok (.isub, 1) := by decide +kernel
theorem dX1_moveUp_13 : decode cX1_moveUp 13 = .ok (.iload_n 3, 1) := by decide +kernel
theorem dX1_moveUp_14 : decode cX1_moveUp 14 = .ok (.invokevirtual 102, 3) := by decide +kernel
theorem dX1_moveUp_17 : decode cX1_moveUp 17 = .ok (.iinc 3 (-1), 3) := by decide +kernel
theorem dX1_moveUp_20 : decode cX1_moveUp 20 = .ok (.goto (-16), 3) := by decide +kernel
theorem dX1_moveUp_23 : decode cX1_moveUp 23 = .ok (.aload_n 0, 1) := by decide +kernel
theorem dX1_moveUp_24 : decode cX1_moveUp 24 = .ok (.dup, 1) := by decide +kernel
theorem dX1_moveUp_25 : decode cX1_moveUp 25 = .ok (.getfield 40, 3) := by decide +kernel
theorem dX1_moveUp_28 : decode cX1_moveUp 28 = .ok (.iload_n 2, 1) := by decide +kernel
theorem dX1_moveUp_29 : decode cX1_moveUp 29 = .ok (.iadd, 1) := by decide +kernel
theorem dX1_moveUp_30 : decode cX1_moveUp 30 = .ok (.putfield 40, 3) := by decide +kernel
theorem dX1_moveUp_33 : decode cX1_moveUp 33 = .ok (.return_, 1) := by decide +kernel
theorem dX1_moveDown_0 : decode cX1_moveDown 0 = .ok (.iload_n 1, 1) := by decide +kernel
theorem dX1_moveDown_1 : decode cX1_moveDown 1 = .ok (.iload_n 2, 1) := by decide +kernel
theorem dX1_moveDown_2 : decode cX1_moveDown 2 = .ok (.isub, 1) := by decide +kernel
theorem dX1_moveDown_3 : decode cX1_moveDown 3 = .ok (.istore_n 3, 1) := by decide +kernel
theorem dX1_moveDown_4 : decode cX1_moveDown 4 = .ok (.iload_n 3, 1) := by decide +kernel
theorem dX1_moveDown_5 : decode cX1_moveDown 5 = .ok (.iload_n 1, 1) := by decide +kernel
theorem dX1_moveDown_6 : decode cX1_moveDown 6 = .ok (.if_icmp .ge 17, 3) := by decide +kernel
theorem dX1_moveDown_9 : decode cX1_moveDown 9 = .ok (.aload_n 0, 1) := by decide +kernel
theorem dX1_moveDown_10 : decode cX1_moveDown 10 = .ok (.iload_n 3, 1) := by decide +kernel
theorem dX1_moveDown_11 : decode cX1_moveDown 11 = .ok (.iconst 1, 1) := by decide +kernel
theorem dX1_moveDown_12 : decode cX1_moveDown 12 = .ok (.iadd, 1) := by decide +kernel
theorem dX1_moveDown_13 : decode cX1_moveDown 13 = .ok (.iload_n 3, 1) := by decide +kernel
theorem dX1_moveDown_14 : decode cX1_moveDown 14 = .ok (.invokevirtual 102, 3) := by decide +kernel
theorem dX1_moveDown_17 : decode cX1_moveDown 17 = .ok (.iinc 3 1, 3) := by decide +kernel
theorem dX1_moveDown_20 : decode cX1_moveDown 20 = .ok (.goto (-16), 3) := by decide +kernel
theorem dX1_moveDown_23 : decode cX1_moveDown 23 = .ok (.aload_n 0, 1) := by decide +kernel
theorem dX1_moveDown_24 : decode cX1_moveDown 24 = .ok (.dup, 1) := by decide +kernel
theorem dX1_moveDown_25 : decode cX1_moveDown 25 = .ok (.getfield 40, 3) := by decide +kernel
theorem dX1_moveDown_28 : decode cX1_moveDown 28 = .ok (.iload_n 2, 1) := by decide +kernel
theorem dX1_moveDown_29 : decode cX1_moveDown 29 = .ok (.iadd, 1) := by decide +kernel
theorem dX1_moveDown_30 : decode cX1_moveDown 30 = .ok (.putfield 40, 3) := by decide +kernel
theorem dX1_moveDown_33 : decode cX1_moveDown 33 = .ok (.return_, 1) := by decide +kernel
theorem dX1_moveEntry_0 : decode cX1_moveEntry 0 = .ok (.iload_n 1, 1) := by decide +kernel
theorem dX1_moveEntry_1 : decode cX1_moveEntry 1 = .ok (.iload_n 2, 1) := by decide +kernel
theorem dX1_moveEntry_2 : decode cX1_moveEntry 2 = .ok (.if_icmp .eq 17, 3) := by decide +kernel
theorem dX1_moveEntry_5 : decode cX1_moveEntry 5 = .ok (.iload_n 1, 1) := by decide +kernel
theorem dX1_moveEntry_6 : decode cX1_moveEntry 6 = .ok (.invokestatic 49, 3) := by decide +kernel
theorem dX1_moveEntry_9 : decode cX1_moveEntry 9 = .ok (.ifCond .eq 10, 3) := by decide +kernel
theorem dX1_moveEntry_12 : decode cX1_moveEntry 12 = .ok (.iload_n 2, 1) := by decide +kernel
theorem dX1_moveEntry_13 : decode cX1_moveEntry 13 = .ok (.invokestatic 49, 3) := by decide +kernel
theorem dX1_moveEntry_16 : decode cX1_moveEntry 16 = .ok (.ifCond .ne 4, 3) := by decide +kernel
theorem dX1_moveEntry_19 : decode cX1_moveEntry 19 = .ok (.return_, 1) := by decide +kernel
theorem dX1_moveEntry_20 : decode cX1_moveEntry 20 = .ok (.aload_n 0, 1) := by decide +kernel
theorem dX1_moveEntry_21 : decode cX1_moveEntry 21 = .ok (.getfield 9, 3) := by decide +kernel
theorem dX1_moveEntry_24 : decode cX1_moveEntry 24 = .ok (.iload_n 2, 1) := by decide +kernel
theorem dX1_moveEntry_25 : decode cX1_moveEntry 25 = .ok (.aload_n 0, 1) := by decide +kernel
theorem dX1_moveEntry_26 : decode cX1_moveEntry 26 = .ok (.getfield 9, 3) := by decide +kernel
theorem dX1_moveEntry_29 : decode cX1_moveEntry 29 = .ok (.iload_n 1, 1) := by decide +kernel
theorem dX1_moveEntry_30 : decode cX1_moveEntry 30 = .ok (.iaload, 1) := by decide +kernel
theorem dX1_moveEntry_31 : decode cX1_moveEntry 31 = .ok (.iastore, 1) := by decide +kernel
theorem dX1_moveEntry_32 : decode cX1_moveEntry 32 = .ok (.aload_n 0, 1) := by decide +kernel
theorem dX1_moveEntry_33 : decode cX1_moveEntry 33 = .ok (.getfield 15, 3) := by decide +kernel
theorem dX1_moveEntry_36 : decode cX1_moveEntry 36 = .ok (.iload_n 2, 1) := by decide +kernel
theorem dX1_moveEntry_37 : decode cX1_moveEntry 37 = .ok (.aload_n 0, 1) := by decide +kernel
theorem dX1_moveEntry_38 : decode cX1_moveEntry 38 = .ok (.getfield 15, 3) := by decide +kernel
theorem dX1_moveEntry_41 : decode cX1_moveEntry 41 = .ok (.iload_n 1, 1) := by decide +kernel
theorem dX1_moveEntry_42 : decode cX1_moveEntry 42 = .ok (.iaload, 1) := by decide +kernel
theorem dX1_moveEntry_43 : decode cX1_moveEntry 43 = .ok (.iastore, 1) := by decide +kernel
theorem dX1_moveEntry_44 : decode cX1_moveEntry 44 = .ok (.aload_n 0, 1) := by decide +kernel
theorem dX1_moveEntry_45 : decode cX1_moveEntry 45 = .ok (.getfield 18, 3) := by decide +kernel
theorem dX1_moveEntry_48 : decode cX1_moveEntry 48 = .ok (.iload_n 2, 1) := by decide +kernel
theorem dX1_moveEntry_49 : decode cX1_moveEntry 49 = .ok (.aload_n 0, 1) := by decide +kernel
theorem dX1_moveEntry_50 : decode cX1_moveEntry 50 = .ok (.getfield 18, 3) := by decide +kernel
theorem dX1_moveEntry_53 : decode cX1_moveEntry 53 = .ok (.iload_n 1, 1) := by decide +kernel
theorem dX1_moveEntry_54 : decode cX1_moveEntry 54 = .ok (.iaload, 1) := by decide +kernel
theorem dX1_moveEntry_55 : decode cX1_moveEntry 55 = .ok (.iastore, 1) := by decide +kernel
theorem dX1_moveEntry_56 : decode cX1_moveEntry 56 = .ok (.aload_n 0, 1) := by decide +kernel
theorem dX1_moveEntry_57 : decode cX1_moveEntry 57 = .ok (.getfield 21, 3) := by decide +kernel
theorem dX1_moveEntry_60 : decode cX1_moveEntry 60 = .ok (.iload_n 2, 1) := by decide +kernel
theorem dX1_moveEntry_61 : decode cX1_moveEntry 61 = .ok (.aload_n 0, 1) := by decide +kernel
theorem dX1_moveEntry_62 : decode cX1_moveEntry 62 = .ok (.getfield 21, 3) := by decide +kernel
theorem dX1_moveEntry_65 : decode cX1_moveEntry 65 = .ok (.iload_n 1, 1) := by decide +kernel
theorem dX1_moveEntry_66 : decode cX1_moveEntry 66 = .ok (.iaload, 1) := by decide +kernel
theorem dX1_moveEntry_67 : decode cX1_moveEntry 67 = .ok (.iastore, 1) := by decide +kernel
theorem dX1_moveEntry_68 : decode cX1_moveEntry 68 = .ok (.aload_n 0, 1) := by decide +kernel
theorem dX1_moveEntry_69 : decode cX1_moveEntry 69 = .ok (.getfield 24, 3) := by decide +kernel
theorem dX1_moveEntry_72 : decode cX1_moveEntry 72 = .ok (.iload_n 2, 1) := by decide +kernel
theorem dX1_moveEntry_73 : decode cX1_moveEntry 73 = .ok (.aload_n 0, 1) := by decide +kernel
theorem dX1_moveEntry_74 : decode cX1_moveEntry 74 = .ok (.getfield 24, 3) := by decide +kernel
theorem dX1_moveEntry_77 : decode cX1_moveEntry 77 = .ok (.iload_n 1, 1) := by decide +kernel
theorem dX1_moveEntry_78 : decode cX1_moveEntry 78 = .ok (.iaload, 1) := by decide +kernel
theorem dX1_moveEntry_79 : decode cX1_moveEntry 79 = .ok (.iastore, 1) := by decide +kernel
theorem dX1_moveEntry_80 : decode cX1_moveEntry 80 = .ok (.aload_n 0, 1) := by decide +kernel
theorem dX1_moveEntry_81 : decode cX1_moveEntry 81 = .ok (.getfield 27, 3) := by decide +kernel
theorem dX1_moveEntry_84 : decode cX1_moveEntry 84 = .ok (.iload_n 2, 1) := by decide +kernel
theorem dX1_moveEntry_85 : decode cX1_moveEntry 85 = .ok (.aload_n 0, 1) := by decide +kernel
theorem dX1_moveEntry_86 : decode cX1_moveEntry 86 = .ok (.getfield 27, 3) := by decide +kernel
theorem dX1_moveEntry_89 : decode cX1_moveEntry 89 = .ok (.iload_n 1, 1) := by decide +kernel
theorem dX1_moveEntry_90 : decode cX1_moveEntry 90 = .ok (.iaload, 1) := by decide +kernel
theorem dX1_moveEntry_91 : decode cX1_moveEntry 91 = .ok (.iastore, 1) := by decide +kernel
theorem dX1_moveEntry_92 : decode cX1_moveEntry 92 = .ok (.aload_n 0, 1) := by decide +kernel
theorem dX1_moveEntry_93 : decode cX1_moveEntry 93 = .ok (.getfield 30, 3) := by decide +kernel
theorem dX1_moveEntry_96 : decode cX1_moveEntry 96 = .ok (.iload_n 2, 1) := by decide +kernel
theorem dX1_moveEntry_97 : decode cX1_moveEntry 97 = .ok (.aload_n 0, 1) := by decide +kernel
theorem dX1_moveEntry_98 : decode cX1_moveEntry 98 = .ok (.getfield 30, 3) := by decide +kernel
theorem dX1_moveEntry_101 : decode cX1_moveEntry 101 = .ok (.iload_n 1, 1) := by decide +kernel
theorem dX1_moveEntry_102 : decode cX1_moveEntry 102 = .ok (.iaload, 1) := by decide +kernel
theorem dX1_moveEntry_103 : decode cX1_moveEntry 103 = .ok (.iastore, 1) := by decide +kernel
theorem dX1_moveEntry_104 : decode cX1_moveEntry 104 = .ok (.aload_n 0, 1) := by decide +kernel
theorem dX1_moveEntry_105 : decode cX1_moveEntry 105 = .ok (.getfield 9, 3) := by decide +kernel
theorem dX1_moveEntry_108 : decode cX1_moveEntry 108 = .ok (.iload_n 1, 1) := by decide +kernel
theorem dX1_moveEntry_109 : decode cX1_moveEntry 109 = .ok (.iconst (-1), 1) := by decide +kernel
theorem dX1_moveEntry_110 : decode cX1_moveEntry 110 = .ok (.iastore, 1) := by decide +kernel
theorem dX1_moveEntry_111 : decode cX1_moveEntry 111 = .ok (.return_, 1) := by decide +kernel
theorem dX1_firstSlotOfShare_0 : decode cX1_firstSlotOfShare 0 = .ok (.iload_n 1, 1) := by decide +kernel
theorem dX1_firstSlotOfShare_1 : decode cX1_firstSlotOfShare 1 = .ok (.ifCond .le 12, 3) := by decide +kernel
theorem dX1_firstSlotOfShare_4 : decode cX1_firstSlotOfShare 4 = .ok (.bipush 32, 2) := by decide +kernel
theorem dX1_firstSlotOfShare_6 : decode cX1_firstSlotOfShare 6 = .ok (.iload_n 0, 1) := by decide +kernel
theorem dX1_firstSlotOfShare_7 : decode cX1_firstSlotOfShare 7 = .ok (.imul, 1) := by decide +kernel
theorem dX1_firstSlotOfShare_8 : decode cX1_firstSlotOfShare 8 = .ok (.iload_n 1, 1) := by decide +kernel
theorem dX1_firstSlotOfShare_9 : decode cX1_firstSlotOfShare 9 = .ok (.idiv, 1) := by decide +kernel
theorem dX1_firstSlotOfShare_10 : decode cX1_firstSlotOfShare 10 = .ok (.goto 4, 3) := by decide +kernel
theorem dX1_firstSlotOfShare_13 : decode cX1_firstSlotOfShare 13 = .ok (.iload_n 0, 1) := by decide +kernel
theorem dX1_firstSlotOfShare_14 : decode cX1_firstSlotOfShare 14 = .ok (.ireturn, 1) := by decide +kernel
theorem dX1_entriesOutOfShare_0 : decode cX1_entriesOutOfShare 0 = .ok (.iconst 0, 1) := by decide +kernel
theorem dX1_entriesOutOfShare_1 : decode cX1_entriesOutOfShare 1 = .ok (.istore_n 2, 1) := by decide +kernel
theorem dX1_entriesOutOfShare_2 : decode cX1_entriesOutOfShare 2 = .ok (.iconst 0, 1) := by decide +kernel
theorem dX1_entriesOutOfShare_3 : decode cX1_entriesOutOfShare 3 = .ok (.istore_n 3, 1) := by decide +kernel
theorem dX1_entriesOutOfShare_4 : decode cX1_entriesOutOfShare 4 = .ok (.iconst 0, 1) := by decide +kernel
theorem dX1_entriesOutOfShare_5 : decode cX1_entriesOutOfShare 5 = .ok (.istore 4, 2) := by decide +kernel
theorem dX1_entriesOutOfShare_7 : decode cX1_entriesOutOfShare 7 = .ok (.iload 4, 2) := by decide +kernel
theorem dX1_entriesOutOfShare_9 : decode cX1_entriesOutOfShare 9 = .ok (.bipush 32, 2) := by decide +kernel
theorem dX1_entriesOutOfShare_11 : decode cX1_entriesOutOfShare 11 = .ok (.if_icmp .ge 34, 3) := by decide +kernel
theorem dX1_entriesOutOfShare_14 : decode cX1_entriesOutOfShare 14 = .ok (.aload_n 0, 1) := by decide +kernel
theorem dX1_entriesOutOfShare_15 : decode cX1_entriesOutOfShare 15 = .ok (.iload 4, 2) := by decide +kernel
theorem dX1_entriesOutOfShare_17 : decode cX1_entriesOutOfShare 17 = .ok (.invokevirtual 53, 3) := by decide +kernel
theorem dX1_entriesOutOfShare_20 : decode cX1_entriesOutOfShare 20 = .ok (.ifCond .eq 19, 3) := by decide +kernel
theorem dX1_entriesOutOfShare_23 : decode cX1_entriesOutOfShare 23 = .ok (.iload 4, 2) := by decide +kernel
theorem dX1_entriesOutOfShare_25 : decode cX1_entriesOutOfShare 25 = .ok (.iload_n 2, 1) := by decide +kernel
theorem dX1_entriesOutOfShare_26 : decode cX1_entriesOutOfShare 26 = .ok (.iload_n 1, 1) := by decide +kernel
theorem dX1_entriesOutOfShare_27 : decode cX1_entriesOutOfShare 27 = .ok (.invokestatic 105, 3) := by decide +kernel
theorem dX1_entriesOutOfShare_30 : decode cX1_entriesOutOfShare 30 = .ok (.if_icmp .eq 6, 3) := by decide +kernel
theorem dX1_entriesOutOfShare_33 : decode cX1_entriesOutOfShare 33 = .ok (.iinc 3 1, 3) := by decide +kernel
theorem dX1_entriesOutOfShare_36 : decode cX1_entriesOutOfShare 36 = .ok (.iinc 2 1, 3) := by decide +kernel
theorem dX1_entriesOutOfShare_39 : decode cX1_entriesOutOfShare 39 = .ok (.iinc 4 1, 3) := by decide +kernel
theorem dX1_entriesOutOfShare_42 : decode cX1_entriesOutOfShare 42 = .ok (.goto (-35), 3) := by decide +kernel
theorem dX1_entriesOutOfShare_45 : decode cX1_entriesOutOfShare 45 = .ok (.iload_n 3, 1) := by decide +kernel
theorem dX1_entriesOutOfShare_46 : decode cX1_entriesOutOfShare 46 = .ok (.ireturn, 1) := by decide +kernel
theorem dX1_moveIntoShares_0 : decode cX1_moveIntoShares 0 = .ok (.aload_n 0, 1) := by decide +kernel
theorem dX1_moveIntoShares_1 : decode cX1_moveIntoShares 1 = .ok (.invokevirtual 108, 3) := by decide +kernel
theorem dX1_moveIntoShares_4 : decode cX1_moveIntoShares 4 = .ok (.istore_n 2, 1) := by decide +kernel
theorem dX1_moveIntoShares_5 : decode cX1_moveIntoShares 5 = .ok (.iload_n 2, 1) := by decide +kernel
theorem dX1_moveIntoShares_6 : decode cX1_moveIntoShares 6 = .ok (.iconst 1, 1) := by decide +kernel
theorem dX1_moveIntoShares_7 : decode cX1_moveIntoShares 7 = .ok (.isub, 1) := by decide +kernel
theorem dX1_moveIntoShares_8 : decode cX1_moveIntoShares 8 = .ok (.istore_n 3, 1) := by decide +kernel
theorem dX1_moveIntoShares_9 : decode cX1_moveIntoShares 9 = .ok (.iload_n 3, 1) := by decide +kernel
theorem dX1_moveIntoShares_10 : decode cX1_moveIntoShares 10 = .ok (.ifCond .lt 19, 3) := by decide +kernel
theorem dX1_moveIntoShares_13 : decode cX1_moveIntoShares 13 = .ok (.aload_n 0, 1) := by decide +kernel
theorem dX1_moveIntoShares_14 : decode cX1_moveIntoShares 14 = .ok (.iload_n 3, 1) := by decide +kernel
theorem dX1_moveIntoShares_15 : decode cX1_moveIntoShares 15 = .ok (.iload_n 3, 1) := by decide +kernel
theorem dX1_moveIntoShares_16 : decode cX1_moveIntoShares 16 = .ok (.iload_n 1, 1) := by decide +kernel
theorem dX1_moveIntoShares_17 : decode cX1_moveIntoShares 17 = .ok (.invokestatic 105, 3) := by decide +kernel
theorem dX1_moveIntoShares_20 : decode cX1_moveIntoShares 20 = .ok (.invokevirtual 102, 3) := by decide +kernel
theorem dX1_moveIntoShares_23 : decode cX1_moveIntoShares 23 = .ok (.iinc 3 (-1), 3) := by decide +kernel
theorem dX1_moveIntoShares_26 : decode cX1_moveIntoShares 26 = .ok (.goto (-17), 3) := by decide +kernel
theorem dX1_moveIntoShares_29 : decode cX1_moveIntoShares 29 = .ok (.return_, 1) := by decide +kernel
theorem dX1_moveToFront_0 : decode cX1_moveToFront 0 = .ok (.iconst 0, 1) := by decide +kernel
theorem dX1_moveToFront_1 : decode cX1_moveToFront 1 = .ok (.istore_n 1, 1) := by decide +kernel
theorem dX1_moveToFront_2 : decode cX1_moveToFront 2 = .ok (.iconst 0, 1) := by decide +kernel
theorem dX1_moveToFront_3 : decode cX1_moveToFront 3 = .ok (.istore_n 2, 1) := by decide +kernel
theorem dX1_moveToFront_4 : decode cX1_moveToFront 4 = .ok (.iload_n 2, 1) := by decide +kernel
theorem dX1_moveToFront_5 : decode cX1_moveToFront 5 = .ok (.bipush 32, 2) := by decide +kernel
theorem dX1_moveToFront_7 : decode cX1_moveToFront 7 = .ok (.if_icmp .ge 26, 3) := by decide +kernel
theorem dX1_moveToFront_10 : decode cX1_moveToFront 10 = .ok (.aload_n 0, 1) := by decide +kernel
theorem dX1_moveToFront_11 : decode cX1_moveToFront 11 = .ok (.iload_n 2, 1) := by decide +kernel
theorem dX1_moveToFront_12 : decode cX1_moveToFront 12 = .ok (.invokevirtual 53, 3) := by decide +kernel
theorem dX1_moveToFront_15 : decode cX1_moveToFront 15 = .ok (.ifCond .eq 12, 3) := by decide +kernel
theorem dX1_moveToFront_18 : decode cX1_moveToFront 18 = .ok (.aload_n 0, 1) := by decide +kernel
theorem dX1_moveToFront_19 : decode cX1_moveToFront 19 = .ok (.iload_n 2, 1) := by decide +kernel
theorem dX1_moveToFront_20 : decode cX1_moveToFront 20 = .ok (.iload_n 1, 1) := by decide +kernel
theorem dX1_moveToFront_21 : decode cX1_moveToFront 21 = .ok (.invokevirtual 102, 3) := by decide +kernel
theorem dX1_moveToFront_24 : decode cX1_moveToFront 24 = .ok (.iinc 1 1, 3) := by decide +kernel
theorem dX1_moveToFront_27 : decode cX1_moveToFront 27 = .ok (.iinc 2 1, 3) := by decide +kernel
theorem dX1_moveToFront_30 : decode cX1_moveToFront 30 = .ok (.goto (-26), 3) := by decide +kernel
theorem dX1_moveToFront_33 : decode cX1_moveToFront 33 = .ok (.iload_n 1, 1) := by decide +kernel
theorem dX1_moveToFront_34 : decode cX1_moveToFront 34 = .ok (.ireturn, 1) := by decide +kernel
theorem dX1_slotFoundBy_0 : decode cX1_slotFoundBy 0 = .ok (.iconst 0, 1) := by decide +kernel
theorem dX1_slotFoundBy_1 : decode cX1_slotFoundBy 1 = .ok (.istore_n 2, 1) := by decide +kernel
theorem dX1_slotFoundBy_2 : decode cX1_slotFoundBy 2 = .ok (.iload_n 2, 1) := by decide +kernel
theorem dX1_slotFoundBy_3 : decode cX1_slotFoundBy 3 = .ok (.bipush 32, 2) := by decide +kernel
theorem dX1_slotFoundBy_5 : decode cX1_slotFoundBy 5 = .ok (.if_icmp .ge 36, 3) := by decide +kernel
theorem dX1_slotFoundBy_8 : decode cX1_slotFoundBy 8 = .ok (.aload_n 0, 1) := by decide +kernel
theorem dX1_slotFoundBy_9 : decode cX1_slotFoundBy 9 = .ok (.iload_n 2, 1) := by decide +kernel
theorem dX1_slotFoundBy_10 : decode cX1_slotFoundBy 10 = .ok (.invokevirtual 53, 3) := by decide +kernel
theorem dX1_slotFoundBy_13 : decode cX1_slotFoundBy 13 = .ok (.ifCond .eq 22, 3) := by decide +kernel
theorem dX1_slotFoundBy_16 : decode cX1_slotFoundBy 16 = .ok (.iload_n 1, 1) := by decide +kernel
theorem dX1_slotFoundBy_17 : decode cX1_slotFoundBy 17 = .ok (.aload_n 0, 1) := by decide +kernel
theorem dX1_slotFoundBy_18 : decode cX1_slotFoundBy 18 = .ok (.getfield 18, 3) := by decide +kernel
theorem dX1_slotFoundBy_21 : decode cX1_slotFoundBy 21 = .ok (.iload_n 2, 1) := by decide +kernel
theorem dX1_slotFoundBy_22 : decode cX1_slotFoundBy 22 = .ok (.iaload, 1) := by decide +kernel
theorem dX1_slotFoundBy_23 : decode cX1_slotFoundBy 23 = .ok (.iand, 1) := by decide +kernel
theorem dX1_slotFoundBy_24 : decode cX1_slotFoundBy 24 = .ok (.aload_n 0, 1) := by decide +kernel
theorem dX1_slotFoundBy_25 : decode cX1_slotFoundBy 25 = .ok (.getfield 21, 3) := by decide +kernel
theorem dX1_slotFoundBy_28 : decode cX1_slotFoundBy 28 = .ok (.iload_n 2, 1) := by decide +kernel
theorem dX1_slotFoundBy_29 : decode cX1_slotFoundBy 29 = .ok (.iaload, 1) := by decide +kernel
theorem dX1_slotFoundBy_30 : decode cX1_slotFoundBy 30 = .ok (.if_icmp .ne 5, 3) := by decide +kernel
theorem dX1_slotFoundBy_33 : decode cX1_slotFoundBy 33 = .ok (.iload_n 2, 1) := by decide +kernel
theorem dX1_slotFoundBy_34 : decode cX1_slotFoundBy 34 = .ok (.ireturn, 1) := by decide +kernel
theorem dX1_slotFoundBy_35 : decode cX1_slotFoundBy 35 = .ok (.iinc 2 1, 3) := by decide +kernel
theorem dX1_slotFoundBy_38 : decode cX1_slotFoundBy 38 = .ok (.goto (-36), 3) := by decide +kernel
theorem dX1_slotFoundBy_41 : decode cX1_slotFoundBy 41 = .ok (.iconst (-1), 1) := by decide +kernel
theorem dX1_slotFoundBy_42 : decode cX1_slotFoundBy 42 = .ok (.ireturn, 1) := by decide +kernel
theorem dX1_keysFinding_0 : decode cX1_keysFinding 0 = .ok (.iconst 0, 1) := by decide +kernel
theorem dX1_keysFinding_1 : decode cX1_keysFinding 1 = .ok (.istore_n 2, 1) := by decide +kernel
theorem dX1_keysFinding_2 : decode cX1_keysFinding 2 = .ok (.iconst 0, 1) := by decide +kernel
theorem dX1_keysFinding_3 : decode cX1_keysFinding 3 = .ok (.istore_n 3, 1) := by decide +kernel
theorem dX1_keysFinding_4 : decode cX1_keysFinding 4 = .ok (.iload_n 3, 1) := by decide +kernel
theorem dX1_keysFinding_5 : decode cX1_keysFinding 5 = .ok (.sipush 256, 3) := by decide +kernel
theorem dX1_keysFinding_8 : decode cX1_keysFinding 8 = .ok (.if_icmp .ge 21, 3) := by decide +kernel
theorem dX1_keysFinding_11 : decode cX1_keysFinding 11 = .ok (.aload_n 0, 1) := by decide +kernel
theorem dX1_keysFinding_12 : decode cX1_keysFinding 12 = .ok (.iload_n 3, 1) := by decide +kernel
theorem dX1_keysFinding_13 : decode cX1_keysFinding 13 = .ok (.invokevirtual 111, 3) := by decide +kernel
theorem dX1_keysFinding_16 : decode cX1_keysFinding 16 = .ok (.iload_n 1, 1) := by decide +kernel
theorem dX1_keysFinding_17 : decode cX1_keysFinding 17 = .ok (.if_icmp .ne 6, 3) := by decide +kernel
theorem dX1_keysFinding_20 : decode cX1_keysFinding 20 = .ok (.iinc 2 1, 3) := by decide +kernel
theorem dX1_keysFinding_23 : decode cX1_keysFinding 23 = .ok (.iinc 3 1, 3) := by decide +kernel
theorem dX1_keysFinding_26 : decode cX1_keysFinding 26 = .ok (.goto (-22), 3) := by decide +kernel
theorem dX1_keysFinding_29 : decode cX1_keysFinding 29 = .ok (.iload_n 2, 1) := by decide +kernel
theorem dX1_keysFinding_30 : decode cX1_keysFinding 30 = .ok (.ireturn, 1) := by decide +kernel
theorem dX1_entriesNeverFound_0 : decode cX1_entriesNeverFound 0 = .ok (.iconst 0, 1) := by decide +kernel
theorem dX1_entriesNeverFound_1 : decode cX1_entriesNeverFound 1 = .ok (.istore_n 1, 1) := by decide +kernel
theorem dX1_entriesNeverFound_2 : decode cX1_entriesNeverFound 2 = .ok (.iconst 0, 1) := by decide +kernel
theorem dX1_entriesNeverFound_3 : decode cX1_entriesNeverFound 3 = .ok (.istore_n 2, 1) := by decide +kernel
theorem dX1_entriesNeverFound_4 : decode cX1_entriesNeverFound 4 = .ok (.iload_n 2, 1) := by decide +kernel
theorem dX1_entriesNeverFound_5 : decode cX1_entriesNeverFound 5 = .ok (.sipush 256, 3) := by decide +kernel
theorem dX1_entriesNeverFound_8 : decode cX1_entriesNeverFound 8 = .ok (.if_icmp .ge 26, 3) := by decide +kernel
theorem dX1_entriesNeverFound_11 : decode cX1_entriesNeverFound 11 = .ok (.aload_n 0, 1) := by decide +kernel
theorem dX1_entriesNeverFound_12 : decode cX1_entriesNeverFound 12 = .ok (.iload_n 2, 1) := by decide +kernel
theorem dX1_entriesNeverFound_13 : decode cX1_entriesNeverFound 13 = .ok (.invokevirtual 111, 3) := by decide +kernel
theorem dX1_entriesNeverFound_16 : decode cX1_entriesNeverFound 16 = .ok (.istore_n 3, 1) := by decide +kernel
theorem dX1_entriesNeverFound_17 : decode cX1_entriesNeverFound 17 = .ok (.iload_n 3, 1) := by decide +kernel
theorem dX1_entriesNeverFound_18 : decode cX1_entriesNeverFound 18 = .ok (.iconst (-1), 1) := by decide +kernel
theorem dX1_entriesNeverFound_19 : decode cX1_entriesNeverFound 19 = .ok (.if_icmp .eq 9, 3) := by decide +kernel
theorem dX1_entriesNeverFound_22 : decode cX1_entriesNeverFound 22 = .ok (.iload_n 1, 1) := by decide +kernel
theorem dX1_entriesNeverFound_23 : decode cX1_entriesNeverFound 23 = .ok (.iconst 1, 1) := by decide +kernel
theorem dX1_entriesNeverFound_24 : decode cX1_entriesNeverFound 24 = .ok (.iload_n 3, 1) := by decide +kernel
theorem dX1_entriesNeverFound_25 : decode cX1_entriesNeverFound 25 = .ok (.ishl, 1) := by decide +kernel
theorem dX1_entriesNeverFound_26 : decode cX1_entriesNeverFound 26 = .ok (.ior, 1) := by decide +kernel
theorem dX1_entriesNeverFound_27 : decode cX1_entriesNeverFound 27 = .ok (.istore_n 1, 1) := by decide +kernel
theorem dX1_entriesNeverFound_28 : decode cX1_entriesNeverFound 28 = .ok (.iinc 2 1, 3) := by decide +kernel
theorem dX1_entriesNeverFound_31 : decode cX1_entriesNeverFound 31 = .ok (.goto (-27), 3) := by decide +kernel
theorem dX1_entriesNeverFound_34 : decode cX1_entriesNeverFound 34 = .ok (.aload_n 0, 1) := by decide +kernel
theorem dX1_entriesNeverFound_35 : decode cX1_entriesNeverFound 35 = .ok (.invokevirtual 60, 3) := by decide +kernel
theorem dX1_entriesNeverFound_38 : decode cX1_entriesNeverFound 38 = .ok (.iload_n 1, 1) := by decide +kernel
theorem dX1_entriesNeverFound_39 : decode cX1_entriesNeverFound 39 = .ok (.invokestatic 114, 3) := by decide +kernel
theorem dX1_entriesNeverFound_42 : decode cX1_entriesNeverFound 42 = .ok (.isub, 1) := by decide +kernel
theorem dX1_entriesNeverFound_43 : decode cX1_entriesNeverFound 43 = .ok (.ireturn, 1) := by decide +kernel
theorem dX1_countSearch_0 : decode cX1_countSearch 0 = .ok (.aload_n 0, 1) := by decide +kernel
theorem dX1_countSearch_1 : decode cX1_countSearch 1 = .ok (.iload_n 2, 1) := by decide +kernel
theorem dX1_countSearch_2 : decode cX1_countSearch 2 = .ok (.invokevirtual 53, 3) := by decide +kernel
theorem dX1_countSearch_5 : decode cX1_countSearch 5 = .ok (.ifCond .ne 4, 3) := by decide +kernel
theorem dX1_countSearch_8 : decode cX1_countSearch 8 = .ok (.return_, 1) := by decide +kernel
theorem dX1_countSearch_9 : decode cX1_countSearch 9 = .ok (.aload_n 0, 1) := by decide +kernel
theorem dX1_countSearch_10 : decode cX1_countSearch 10 = .ok (.dup, 1) := by decide +kernel
theorem dX1_countSearch_11 : decode cX1_countSearch 11 = .ok (.getfield 43, 3) := by decide +kernel
theorem dX1_countSearch_14 : decode cX1_countSearch 14 = .ok (.iconst 1, 1) := by decide +kernel
theorem dX1_countSearch_15 : decode cX1_countSearch 15 = .ok (.iadd, 1) := by decide +kernel
theorem dX1_countSearch_16 : decode cX1_countSearch 16 = .ok (.putfield 43, 3) := by decide +kernel
theorem dX1_countSearch_19 : decode cX1_countSearch 19 = .ok (.aload_n 0, 1) := by decide +kernel
theorem dX1_countSearch_20 : decode cX1_countSearch 20 = .ok (.dup, 1) := by decide +kernel
theorem dX1_countSearch_21 : decode cX1_countSearch 21 = .ok (.getfield 46, 3) := by decide +kernel
theorem dX1_countSearch_24 : decode cX1_countSearch 24 = .ok (.aload_n 0, 1) := by decide +kernel
theorem dX1_countSearch_25 : decode cX1_countSearch 25 = .ok (.iload_n 1, 1) := by decide +kernel
theorem dX1_countSearch_26 : decode cX1_countSearch 26 = .ok (.invokevirtual 119, 3) := by decide +kernel
theorem dX1_countSearch_29 : decode cX1_countSearch 29 = .ok (.iadd, 1) := by decide +kernel
theorem dX1_countSearch_30 : decode cX1_countSearch 30 = .ok (.putfield 46, 3) := by decide +kernel
theorem dX1_countSearch_33 : decode cX1_countSearch 33 = .ok (.aload_n 0, 1) := by decide +kernel
theorem dX1_countSearch_34 : decode cX1_countSearch 34 = .ok (.getfield 9, 3) := by decide +kernel
theorem dX1_countSearch_37 : decode cX1_countSearch 37 = .ok (.iload_n 2, 1) := by decide +kernel
theorem dX1_countSearch_38 : decode cX1_countSearch 38 = .ok (.iaload, 1) := by decide +kernel
theorem dX1_countSearch_39 : decode cX1_countSearch 39 = .ok (.istore_n 3, 1) := by decide +kernel
theorem dX1_countSearch_40 : decode cX1_countSearch 40 = .ok (.iconst 0, 1) := by decide +kernel
theorem dX1_countSearch_41 : decode cX1_countSearch 41 = .ok (.istore 4, 2) := by decide +kernel
theorem dX1_countSearch_43 : decode cX1_countSearch 43 = .ok (.iload 4, 2) := by decide +kernel
theorem dX1_countSearch_45 : decode cX1_countSearch 45 = .ok (.bipush 32, 2) := by decide +kernel
theorem dX1_countSearch_47 : decode cX1_countSearch 47 = .ok (.if_icmp .ge 31, 3) := by decide +kernel
theorem dX1_countSearch_50 : decode cX1_countSearch 50 = .ok (.aload_n 0, 1) := by decide +kernel
theorem dX1_countSearch_51 : decode cX1_countSearch 51 = .ok (.getfield 9, 3) := by decide +kernel
theorem dX1_countSearch_54 : decode cX1_countSearch 54 = .ok (.iload 4, 2) := by decide +kernel
theorem dX1_countSearch_56 : decode cX1_countSearch 56 = .ok (.iaload, 1) := by decide +kernel
theorem dX1_countSearch_57 : decode cX1_countSearch 57 = .ok (.iload_n 3, 1) := by decide +kernel
theorem dX1_countSearch_58 : decode cX1_countSearch 58 = .ok (.if_icmp .ne 14, 3) := by decide +kernel
theorem dX1_countSearch_61 : decode cX1_countSearch 61 = .ok (.aload_n 0, 1) := by decide +kernel
theorem dX1_countSearch_62 : decode cX1_countSearch 62 = .ok (.getfield 30, 3) := by decide +kernel
theorem dX1_countSearch_65 : decode cX1_countSearch 65 = .ok (.iload 4, 2) := by decide +kernel
theorem dX1_countSearch_67 : decode cX1_countSearch 67 = .ok (.dup2, 1) := by decide +kernel
theorem dX1_countSearch_68 : decode cX1_countSearch 68 = .ok (.iaload, 1) := by decide +kernel
theorem dX1_countSearch_69 : decode cX1_countSearch 69 = .ok (.iconst 1, 1) := by decide +kernel
theorem dX1_countSearch_70 : decode cX1_countSearch 70 = .ok (.iadd, 1) := by decide +kernel
theorem dX1_countSearch_71 : decode cX1_countSearch 71 = .ok (.iastore, 1) := by decide +kernel
theorem dX1_countSearch_72 : decode cX1_countSearch 72 = .ok (.iinc 4 1, 3) := by decide +kernel
theorem dX1_countSearch_75 : decode cX1_countSearch 75 = .ok (.goto (-32), 3) := by decide +kernel
theorem dX1_countSearch_78 : decode cX1_countSearch 78 = .ok (.return_, 1) := by decide +kernel
theorem dX1_slotHiding_0 : decode cX1_slotHiding 0 = .ok (.aload_n 0, 1) := by decide +kernel
theorem dX1_slotHiding_1 : decode cX1_slotHiding 1 = .ok (.iload_n 1, 1) := by decide +kernel
theorem dX1_slotHiding_2 : decode cX1_slotHiding 2 = .ok (.invokevirtual 53, 3) := by decide +kernel
theorem dX1_slotHiding_5 : decode cX1_slotHiding 5 = .ok (.ifCond .ne 5, 3) := by decide +kernel
theorem dX1_slotHiding_8 : decode cX1_slotHiding 8 = .ok (.iconst (-1), 1) := by decide +kernel
theorem dX1_slotHiding_9 : decode cX1_slotHiding 9 = .ok (.ireturn, 1) := by decide +kernel
theorem dX1_slotHiding_10 : decode cX1_slotHiding 10 = .ok (.aload_n 0, 1) := by decide +kernel
theorem dX1_slotHiding_11 : decode cX1_slotHiding 11 = .ok (.getfield 18, 3) := by decide +kernel
theorem dX1_slotHiding_14 : decode cX1_slotHiding 14 = .ok (.iload_n 1, 1) := by decide +kernel
theorem dX1_slotHiding_15 : decode cX1_slotHiding 15 = .ok (.iaload, 1) := by decide +kernel
theorem dX1_slotHiding_16 : decode cX1_slotHiding 16 = .ok (.istore_n 2, 1) := by decide +kernel
theorem dX1_slotHiding_17 : decode cX1_slotHiding 17 = .ok (.aload_n 0, 1) := by decide +kernel
theorem dX1_slotHiding_18 : decode cX1_slotHiding 18 = .ok (.getfield 21, 3) := by decide +kernel
theorem dX1_slotHiding_21 : decode cX1_slotHiding 21 = .ok (.iload_n 1, 1) := by decide +kernel
theorem dX1_slotHiding_22 : decode cX1_slotHiding 22 = .ok (.iaload, 1) := by decide +kernel
theorem dX1_slotHiding_23 : decode cX1_slotHiding 23 = .ok (.istore_n 3, 1) := by decide +kernel
theorem dX1_slotHiding_24 : decode cX1_slotHiding 24 = .ok (.iconst 0, 1) := by decide +kernel
theorem dX1_slotHiding_25 : decode cX1_slotHiding 25 = .ok (.istore 4, 2) := by decide +kernel
theorem dX1_slotHiding_27 : decode cX1_slotHiding 27 = .ok (.iload 4, 2) := by decide +kernel
theorem dX1_slotHiding_29 : decode cX1_slotHiding 29 = .ok (.iload_n 1, 1) := by decide +kernel
theorem dX1_slotHiding_30 : decode cX1_slotHiding 30 = .ok (.if_icmp .ge 59, 3) := by decide +kernel
theorem dX1_slotHiding_33 : decode cX1_slotHiding 33 = .ok (.aload_n 0, 1) := by decide +kernel
theorem dX1_slotHiding_34 : decode cX1_slotHiding 34 = .ok (.iload 4, 2) := by decide +kernel
theorem dX1_slotHiding_36 : decode cX1_slotHiding 36 = .ok (.invokevirtual 53, 3) := by decide +kernel
theorem dX1_slotHiding_39 : decode cX1_slotHiding 39 = .ok (.ifCond .eq 44, 3) := by decide +kernel
theorem dX1_slotHiding_42 : decode cX1_slotHiding 42 = .ok (.aload_n 0, 1) := by decide +kernel
theorem dX1_slotHiding_43 : decode cX1_slotHiding 43 = .ok (.getfield 18, 3) := by decide +kernel
theorem dX1_slotHiding_46 : decode cX1_slotHiding 46 = .ok (.iload 4, 2) := by decide +kernel
theorem dX1_slotHiding_48 : decode cX1_slotHiding 48 = .ok (.iaload, 1) := by decide +kernel
theorem dX1_slotHiding_49 : decode cX1_slotHiding 49 = .ok (.iload_n 2, 1) := by decide +kernel
theorem dX1_slotHiding_50 : decode cX1_slotHiding 50 = .ok (.iand, 1) := by decide +kernel
theorem dX1_slotHiding_51 : decode cX1_slotHiding 51 = .ok (.aload_n 0, 1) := by decide +kernel
theorem dX1_slotHiding_52 : decode cX1_slotHiding 52 = .ok (.getfield 18, 3) := by decide +kernel
theorem dX1_slotHiding_55 : decode cX1_slotHiding 55 = .ok (.iload 4, 2) := by decide +kernel
theorem dX1_slotHiding_57 : decode cX1_slotHiding 57 = .ok (.iaload, 1) := by decide +kernel
theorem dX1_slotHiding_58 : decode cX1_slotHiding 58 = .ok (.if_icmp .ne 25, 3) := by decide +kernel
theorem dX1_slotHiding_61 : decode cX1_slotHiding 61 = .ok (.iload_n 3, 1) := by decide +kernel
theorem dX1_slotHiding_62 : decode cX1_slotHiding 62 = .ok (.aload_n 0, 1) := by decide +kernel
theorem dX1_slotHiding_63 : decode cX1_slotHiding 63 = .ok (.getfield 18, 3) := by decide +kernel
theorem dX1_slotHiding_66 : decode cX1_slotHiding 66 = .ok (.iload 4, 2) := by decide +kernel
theorem dX1_slotHiding_68 : decode cX1_slotHiding 68 = .ok (.iaload, 1) := by decide +kernel
theorem dX1_slotHiding_69 : decode cX1_slotHiding 69 = .ok (.iand, 1) := by decide +kernel
theorem dX1_slotHiding_70 : decode cX1_slotHiding 70 = .ok (.aload_n 0, 1) := by decide +kernel
theorem dX1_slotHiding_71 : decode cX1_slotHiding 71 = .ok (.getfield 21, 3) := by decide +kernel
theorem dX1_slotHiding_74 : decode cX1_slotHiding 74 = .ok (.iload 4, 2) := by decide +kernel
theorem dX1_slotHiding_76 : decode cX1_slotHiding 76 = .ok (.iaload, 1) := by decide +kernel
theorem dX1_slotHiding_77 : decode cX1_slotHiding 77 = .ok (.if_icmp .ne 6, 3) := by decide +kernel
theorem dX1_slotHiding_80 : decode cX1_slotHiding 80 = .ok (.iload 4, 2) := by decide +kernel
theorem dX1_slotHiding_82 : decode cX1_slotHiding 82 = .ok (.ireturn, 1) := by decide +kernel
theorem dX1_slotHiding_83 : decode cX1_slotHiding 83 = .ok (.iinc 4 1, 3) := by decide +kernel
theorem dX1_slotHiding_86 : decode cX1_slotHiding 86 = .ok (.goto (-59), 3) := by decide +kernel
theorem dX1_slotHiding_89 : decode cX1_slotHiding 89 = .ok (.iconst (-1), 1) := by decide +kernel
theorem dX1_slotHiding_90 : decode cX1_slotHiding 90 = .ok (.ireturn, 1) := by decide +kernel
theorem dX1_entriesInBank_0 : decode cX1_entriesInBank 0 = .ok (.iconst 0, 1) := by decide +kernel
theorem dX1_entriesInBank_1 : decode cX1_entriesInBank 1 = .ok (.istore_n 2, 1) := by decide +kernel
theorem dX1_entriesInBank_2 : decode cX1_entriesInBank 2 = .ok (.iconst 0, 1) := by decide +kernel
theorem dX1_entriesInBank_3 : decode cX1_entriesInBank 3 = .ok (.istore_n 3, 1) := by decide +kernel
theorem dX1_entriesInBank_4 : decode cX1_entriesInBank 4 = .ok (.iload_n 3, 1) := by decide +kernel
theorem dX1_entriesInBank_5 : decode cX1_entriesInBank 5 = .ok (.bipush 8, 2) := by decide +kernel
theorem dX1_entriesInBank_7 : decode cX1_entriesInBank 7 = .ok (.if_icmp .ge 25, 3) := by decide +kernel
theorem dX1_entriesInBank_10 : decode cX1_entriesInBank 10 = .ok (.aload_n 0, 1) := by decide +kernel
theorem dX1_entriesInBank_11 : decode cX1_entriesInBank 11 = .ok (.iload_n 1, 1) := by decide +kernel
theorem dX1_entriesInBank_12 : decode cX1_entriesInBank 12 = .ok (.bipush 8, 2) := by decide +kernel
theorem dX1_entriesInBank_14 : decode cX1_entriesInBank 14 = .ok (.imul, 1) := by decide +kernel
theorem dX1_entriesInBank_15 : decode cX1_entriesInBank 15 = .ok (.iload_n 3, 1) := by decide +kernel
theorem dX1_entriesInBank_16 : decode cX1_entriesInBank 16 = .ok (.iadd, 1) := by decide +kernel
theorem dX1_entriesInBank_17 : decode cX1_entriesInBank 17 = .ok (.invokevirtual 53, 3) := by decide +kernel
theorem dX1_entriesInBank_20 : decode cX1_entriesInBank 20 = .ok (.ifCond .eq 6, 3) := by decide +kernel
theorem dX1_entriesInBank_23 : decode cX1_entriesInBank 23 = .ok (.iinc 2 1, 3) := by decide +kernel
theorem dX1_entriesInBank_26 : decode cX1_entriesInBank 26 = .ok (.iinc 3 1, 3) := by decide +kernel
theorem dX1_entriesInBank_29 : decode cX1_entriesInBank 29 = .ok (.goto (-25), 3) := by decide +kernel
theorem dX1_entriesInBank_32 : decode cX1_entriesInBank 32 = .ok (.iload_n 2, 1) := by decide +kernel
theorem dX1_entriesInBank_33 : decode cX1_entriesInBank 33 = .ok (.ireturn, 1) := by decide +kernel
theorem dX1_powerFor_0 : decode cX1_powerFor 0 = .ok (.iconst 0, 1) := by decide +kernel
theorem dX1_powerFor_1 : decode cX1_powerFor 1 = .ok (.istore_n 2, 1) := by decide +kernel
theorem dX1_powerFor_2 : decode cX1_powerFor 2 = .ok (.iconst 0, 1) := by decide +kernel
theorem dX1_powerFor_3 : decode cX1_powerFor 3 = .ok (.istore_n 3, 1) := by decide +kernel
theorem dX1_powerFor_4 : decode cX1_powerFor 4 = .ok (.iload_n 3, 1) := by decide +kernel
theorem dX1_powerFor_5 : decode cX1_powerFor 5 = .ok (.iconst 4, 1) := by decide +kernel
theorem dX1_powerFor_6 : decode cX1_powerFor 6 = .ok (.if_icmp .ge 32, 3) := by decide +kernel
theorem dX1_powerFor_9 : decode cX1_powerFor 9 = .ok (.iload_n 1, 1) := by decide +kernel
theorem dX1_powerFor_10 : decode cX1_powerFor 10 = .ok (.aload_n 0, 1) := by decide +kernel
theorem dX1_powerFor_11 : decode cX1_powerFor 11 = .ok (.iload_n 3, 1) := by decide +kernel
theorem dX1_powerFor_12 : decode cX1_powerFor 12 = .ok (.invokevirtual 122, 3) := by decide +kernel
theorem dX1_powerFor_15 : decode cX1_powerFor 15 = .ok (.iand, 1) := by decide +kernel
theorem dX1_powerFor_16 : decode cX1_powerFor 16 = .ok (.aload_n 0, 1) := by decide +kernel
theorem dX1_powerFor_17 : decode cX1_powerFor 17 = .ok (.iload_n 3, 1) := by decide +kernel
theorem dX1_powerFor_18 : decode cX1_powerFor 18 = .ok (.invokevirtual 125, 3) := by decide +kernel
theorem dX1_powerFor_21 : decode cX1_powerFor 21 = .ok (.if_icmp .ne 11, 3) := by decide +kernel
theorem dX1_powerFor_24 : decode cX1_powerFor 24 = .ok (.iload_n 2, 1) := by decide +kernel
theorem dX1_powerFor_25 : decode cX1_powerFor 25 = .ok (.aload_n 0, 1) := by decide +kernel
theorem dX1_powerFor_26 : decode cX1_powerFor 26 = .ok (.iload_n 3, 1) := by decide +kernel
theorem dX1_powerFor_27 : decode cX1_powerFor 27 = .ok (.invokevirtual 56, 3) := by decide +kernel
theorem dX1_powerFor_30 : decode cX1_powerFor 30 = .ok (.iadd, 1) := by decide +kernel
theorem dX1_powerFor_31 : decode cX1_powerFor 31 = .ok (.istore_n 2, 1) := by decide +kernel
theorem dX1_powerFor_32 : decode cX1_powerFor 32 = .ok (.iinc 3 1, 3) := by decide +kernel
theorem dX1_powerFor_35 : decode cX1_powerFor 35 = .ok (.goto (-31), 3) := by decide +kernel
theorem dX1_powerFor_38 : decode cX1_powerFor 38 = .ok (.iload_n 2, 1) := by decide +kernel
theorem dX1_powerFor_39 : decode cX1_powerFor 39 = .ok (.ireturn, 1) := by decide +kernel
theorem dX1_commonMask_0 : decode cX1_commonMask 0 = .ok (.aload_n 0, 1) := by decide +kernel
theorem dX1_commonMask_1 : decode cX1_commonMask 1 = .ok (.iload_n 1, 1) := by decide +kernel
theorem dX1_commonMask_2 : decode cX1_commonMask 2 = .ok (.invokevirtual 128, 3) := by decide +kernel
theorem dX1_commonMask_5 : decode cX1_commonMask 5 = .ok (.istore_n 2, 1) := by decide +kernel
theorem dX1_commonMask_6 : decode cX1_commonMask 6 = .ok (.iload_n 2, 1) := by decide +kernel
theorem dX1_commonMask_7 : decode cX1_commonMask 7 = .ok (.invokestatic 49, 3) := by decide +kernel
theorem dX1_commonMask_10 : decode cX1_commonMask 10 = .ok (.ifCond .ne 5, 3) := by decide +kernel
theorem dX1_commonMask_13 : decode cX1_commonMask 13 = .ok (.iconst 0, 1) := by decide +kernel
theorem dX1_commonMask_14 : decode cX1_commonMask 14 = .ok (.ireturn, 1) := by decide +kernel
theorem dX1_commonMask_15 : decode cX1_commonMask 15 = .ok (.aload_n 0, 1) := by decide +kernel
theorem dX1_commonMask_16 : decode cX1_commonMask 16 = .ok (.getfield 18, 3) := by decide +kernel
theorem dX1_commonMask_19 : decode cX1_commonMask 19 = .ok (.iload_n 2, 1) := by decide +kernel
theorem dX1_commonMask_20 : decode cX1_commonMask 20 = .ok (.iaload, 1) := by decide +kernel
theorem dX1_commonMask_21 : decode cX1_commonMask 21 = .ok (.istore_n 3, 1) := by decide +kernel
theorem dX1_commonMask_22 : decode cX1_commonMask 22 = .ok (.iconst 0, 1) := by decide +kernel
theorem dX1_commonMask_23 : decode cX1_commonMask 23 = .ok (.istore 4, 2) := by decide +kernel
theorem dX1_commonMask_25 : decode cX1_commonMask 25 = .ok (.iload 4, 2) := by decide +kernel
theorem dX1_commonMask_27 : decode cX1_commonMask 27 = .ok (.bipush 8, 2) := by decide +kernel
theorem dX1_commonMask_29 : decode cX1_commonMask 29 = .ok (.if_icmp .ge 54, 3) := by decide +kernel
theorem dX1_commonMask_32 : decode cX1_commonMask 32 = .ok (.iload_n 1, 1) := by decide +kernel
theorem dX1_commonMask_33 : decode cX1_commonMask 33 = .ok (.bipush 8, 2) := by decide +kernel
theorem dX1_commonMask_35 : decode cX1_commonMask 35 = .ok (.imul, 1) := by decide +kernel
theorem dX1_commonMask_36 : decode cX1_commonMask 36 = .ok (.iload 4, 2) := by decide +kernel
theorem dX1_commonMask_38 : decode cX1_commonMask 38 = .ok (.iadd, 1) := by decide +kernel
theorem dX1_commonMask_39 : decode cX1_commonMask 39 = .ok (.istore 5, 2) := by decide +kernel
theorem dX1_commonMask_41 : decode cX1_commonMask 41 = .ok (.aload_n 0, 1) := by decide +kernel
theorem dX1_commonMask_42 : decode cX1_commonMask 42 = .ok (.iload 5, 2) := by decide +kernel
theorem dX1_commonMask_44 : decode cX1_commonMask 44 = .ok (.invokevirtual 53, 3) := by decide +kernel
theorem dX1_commonMask_47 : decode cX1_commonMask 47 = .ok (.ifCond .eq 30, 3) := by decide +kernel
theorem dX1_commonMask_50 : decode cX1_commonMask 50 = .ok (.iload_n 3, 1) := by decide +kernel
theorem dX1_commonMask_51 : decode cX1_commonMask 51 = .ok (.aload_n 0, 1) := by decide +kernel
theorem dX1_commonMask_52 : decode cX1_commonMask 52 = .ok (.getfield 18, 3) := by decide +kernel
theorem dX1_commonMask_55 : decode cX1_commonMask 55 = .ok (.iload 5, 2) := by decide +kernel
theorem dX1_commonMask_57 : decode cX1_commonMask 57 = .ok (.iaload, 1) := by decide +kernel
theorem dX1_commonMask_58 : decode cX1_commonMask 58 = .ok (.aload_n 0, 1) := by decide +kernel
theorem dX1_commonMask_59 : decode cX1_commonMask 59 = .ok (.getfield 21, 3) := by decide +kernel
theorem dX1_commonMask_62 : decode cX1_commonMask 62 = .ok (.iload 5, 2) := by decide +kernel
theorem dX1_commonMask_64 : decode cX1_commonMask 64 = .ok (.iaload, 1) := by decide +kernel
theorem dX1_commonMask_65 : decode cX1_commonMask 65 = .ok (.aload_n 0, 1) := by decide +kernel
theorem dX1_commonMask_66 : decode cX1_commonMask 66 = .ok (.getfield 21, 3) := by decide +kernel
theorem dX1_commonMask_69 : decode cX1_commonMask 69 = .ok (.iload_n 2, 1) := by decide +kernel
theorem dX1_commonMask_70 : decode cX1_commonMask 70 = .ok (.iaload, 1) := by decide +kernel
theorem dX1_commonMask_71 : decode cX1_commonMask 71 = .ok (.ixor, 1) := by decide +kernel
theorem dX1_commonMask_72 : decode cX1_commonMask 72 = .ok (.iconst (-1), 1) := by decide +kernel
theorem dX1_commonMask_73 : decode cX1_commonMask 73 = .ok (.ixor, 1) := by decide +kernel
theorem dX1_commonMask_74 : decode cX1_commonMask 74 = .ok (.iand, 1) := by decide +kernel
theorem dX1_commonMask_75 : decode cX1_commonMask 75 = .ok (.iand, 1) := by decide +kernel
theorem dX1_commonMask_76 : decode cX1_commonMask 76 = .ok (.istore_n 3, 1) := by decide +kernel
theorem dX1_commonMask_77 : decode cX1_commonMask 77 = .ok (.iinc 4 1, 3) := by decide +kernel
theorem dX1_commonMask_80 : decode cX1_commonMask 80 = .ok (.goto (-55), 3) := by decide +kernel
theorem dX1_commonMask_83 : decode cX1_commonMask 83 = .ok (.iload_n 3, 1) := by decide +kernel
theorem dX1_commonMask_84 : decode cX1_commonMask 84 = .ok (.ireturn, 1) := by decide +kernel
theorem dX1_commonValue_0 : decode cX1_commonValue 0 = .ok (.aload_n 0, 1) := by decide +kernel
theorem dX1_commonValue_1 : decode cX1_commonValue 1 = .ok (.iload_n 1, 1) := by decide +kernel
theorem dX1_commonValue_2 : decode cX1_commonValue 2 = .ok (.invokevirtual 128, 3) := by decide +kernel
theorem dX1_commonValue_5 : decode cX1_commonValue 5 = .ok (.istore_n 2, 1) := by decide +kernel
theorem dX1_commonValue_6 : decode cX1_commonValue 6 = .ok (.iload_n 2, 1) := by decide +kernel
theorem dX1_commonValue_7 : decode cX1_commonValue 7 = .ok (.invokestatic 49, 3) := by decide +kernel
theorem dX1_commonValue_10 : decode cX1_commonValue 10 = .ok (.ifCond .eq 18, 3) := by decide +kernel
theorem dX1_commonValue_13 : decode cX1_commonValue 13 = .ok (.aload_n 0, 1) := by decide +kernel
theorem dX1_commonValue_14 : decode cX1_commonValue 14 = .ok (.getfield 21, 3) := by decide +kernel
theorem dX1_commonValue_17 : decode cX1_commonValue 17 = .ok (.iload_n 2, 1) := by decide +kernel
theorem dX1_commonValue_18 : decode cX1_commonValue 18 = .ok (.iaload, 1) := by decide +kernel
theorem dX1_commonValue_19 : decode cX1_commonValue 19 = .ok (.aload_n 0, 1) := by decide +kernel
theorem dX1_commonValue_20 : decode cX1_commonValue 20 = .ok (.iload_n 1, 1) := by decide +kernel
theorem dX1_commonValue_21 : decode cX1_commonValue 21 = .ok (.invokevirtual 122, 3) := by decide +kernel
theorem dX1_commonValue_24 : decode cX1_commonValue 24 = .ok (.iand, 1) := by decide +kernel
theorem dX1_commonValue_25 : decode cX1_commonValue 25 = .ok (.goto 4, 3) := by decide +kernel
theorem dX1_commonValue_28 : decode cX1_commonValue 28 = .ok (.iconst 0, 1) := by decide +kernel
theorem dX1_commonValue_29 : decode cX1_commonValue 29 = .ok (.ireturn, 1) := by decide +kernel
theorem dX1_firstEntryOfBank_0 : decode cX1_firstEntryOfBank 0 = .ok (.iconst 0, 1) := by decide +kernel
theorem dX1_firstEntryOfBank_1 : decode cX1_firstEntryOfBank 1 = .ok (.istore_n 2, 1) := by decide +kernel
theorem dX1_firstEntryOfBank_2 : decode cX1_firstEntryOfBank 2 = .ok (.iload_n 2, 1) := by decide +kernel
theorem dX1_firstEntryOfBank_3 : decode cX1_firstEntryOfBank 3 = .ok (.bipush 8, 2) := by decide +kernel
theorem dX1_firstEntryOfBank_5 : decode cX1_firstEntryOfBank 5 = .ok (.if_icmp .ge 29, 3) := by decide +kernel
theorem dX1_firstEntryOfBank_8 : decode cX1_firstEntryOfBank 8 = .ok (.aload_n 0, 1) := by decide +kernel
theorem dX1_firstEntryOfBank_9 : decode cX1_firstEntryOfBank 9 = .ok (.iload_n 1, 1) := by decide +kernel
theorem dX1_firstEntryOfBank_10 : decode cX1_firstEntryOfBank 10 = .ok (.bipush 8, 2) := by decide +kernel
theorem dX1_firstEntryOfBank_12 : decode cX1_firstEntryOfBank 12 = .ok (.imul, 1) := by decide +kernel
theorem dX1_firstEntryOfBank_13 : decode cX1_firstEntryOfBank 13 = .ok (.iload_n 2, 1) := by decide +kernel
theorem dX1_firstEntryOfBank_14 : decode cX1_firstEntryOfBank 14 = .ok (.iadd, 1) := by decide +kernel
theorem dX1_firstEntryOfBank_15 : decode cX1_firstEntryOfBank 15 = .ok (.invokevirtual 53, 3) := by decide +kernel
theorem dX1_firstEntryOfBank_18 : decode cX1_firstEntryOfBank 18 = .ok (.ifCond .eq 10, 3) := by decide +kernel
theorem dX1_firstEntryOfBank_21 : decode cX1_firstEntryOfBank 21 = .ok (.iload_n 1, 1) := by decide +kernel
theorem dX1_firstEntryOfBank_22 : decode cX1_firstEntryOfBank 22 = .ok (.bipush 8, 2) := by decide +kernel
theorem dX1_firstEntryOfBank_24 : decode cX1_firstEntryOfBank 24 = .ok (.imul, 1) := by decide +kernel
theorem dX1_firstEntryOfBank_25 : decode cX1_firstEntryOfBank 25 = .ok (.iload_n 2, 1) := by decide +kernel
theorem dX1_firstEntryOfBank_26 : decode cX1_firstEntryOfBank 26 = .ok (.iadd, 1) := by decide +kernel
theorem dX1_firstEntryOfBank_27 : decode cX1_firstEntryOfBank 27 = .ok (.ireturn, 1) := by decide +kernel
theorem dX1_firstEntryOfBank_28 : decode cX1_firstEntryOfBank 28 = .ok (.iinc 2 1, 3) := by decide +kernel
theorem dX1_firstEntryOfBank_31 : decode cX1_firstEntryOfBank 31 = .ok (.goto (-29), 3) := by decide +kernel
theorem dX1_firstEntryOfBank_34 : decode cX1_firstEntryOfBank 34 = .ok (.iconst (-1), 1) := by decide +kernel
theorem dX1_firstEntryOfBank_35 : decode cX1_firstEntryOfBank 35 = .ok (.ireturn, 1) := by decide +kernel
theorem dX2_init_0 : decode cX2_init 0 = .ok (.aload_n 0, 1) := by decide +kernel
theorem dX2_init_1 : decode cX2_init 1 = .ok (.invokespecial 5, 3) := by decide +kernel
theorem dX2_init_4 : decode cX2_init 4 = .ok (.aload_n 0, 1) := by decide +kernel
theorem dX2_init_5 : decode cX2_init 5 = .ok (.bipush 60, 2) := by decide +kernel
theorem dX2_init_7 : decode cX2_init 7 = .ok (.newarray .int, 2) := by decide +kernel
theorem dX2_init_9 : decode cX2_init 9 = .ok (.putfield 11, 3) := by decide +kernel
theorem dX2_init_12 : decode cX2_init 12 = .ok (.aload_n 0, 1) := by decide +kernel
theorem dX2_init_13 : decode cX2_init 13 = .ok (.iconst 0, 1) := by decide +kernel
theorem dX2_init_14 : decode cX2_init 14 = .ok (.putfield 15, 3) := by decide +kernel
theorem dX2_init_17 : decode cX2_init 17 = .ok (.aload_n 0, 1) := by decide +kernel
theorem dX2_init_18 : decode cX2_init 18 = .ok (.iconst 0, 1) := by decide +kernel
theorem dX2_init_19 : decode cX2_init 19 = .ok (.putfield 19, 3) := by decide +kernel
theorem dX2_init_22 : decode cX2_init 22 = .ok (.aload_n 0, 1) := by decide +kernel
theorem dX2_init_23 : decode cX2_init 23 = .ok (.iconst 0, 1) := by decide +kernel
theorem dX2_init_24 : decode cX2_init 24 = .ok (.putfield 22, 3) := by decide +kernel
theorem dX2_init_27 : decode cX2_init 27 = .ok (.aload_n 0, 1) := by decide +kernel
theorem dX2_init_28 : decode cX2_init 28 = .ok (.iconst 5, 1) := by decide +kernel
theorem dX2_init_29 : decode cX2_init 29 = .ok (.newarray .int, 2) := by decide +kernel
theorem dX2_init_31 : decode cX2_init 31 = .ok (.putfield 25, 3) := by decide +kernel
theorem dX2_init_34 : decode cX2_init 34 = .ok (.aload_n 0, 1) := by decide +kernel
theorem dX2_init_35 : decode cX2_init 35 = .ok (.iconst 5, 1) := by decide +kernel
theorem dX2_init_36 : decode cX2_init 36 = .ok (.newarray .int, 2) := by decide +kernel
theorem dX2_init_38 : decode cX2_init 38 = .ok (.putfield 28, 3) := by decide +kernel
theorem dX2_init_41 : decode cX2_init 41 = .ok (.aload_n 0, 1) := by decide +kernel
theorem dX2_init_42 : decode cX2_init 42 = .ok (.iconst 5, 1) := by decide +kernel
theorem dX2_init_43 : decode cX2_init 43 = .ok (.newarray .int, 2) := by decide +kernel
theorem dX2_init_45 : decode cX2_init 45 = .ok (.putfield 31, 3) := by decide +kernel
theorem dX2_init_48 : decode cX2_init 48 = .ok (.aload_n 0, 1) := by decide +kernel
theorem dX2_init_49 : decode cX2_init 49 = .ok (.iconst 5, 1) := by decide +kernel
theorem dX2_init_50 : decode cX2_init 50 = .ok (.newarray .int, 2) := by decide +kernel
theorem dX2_init_52 : decode cX2_init 52 = .ok (.putfield 34, 3) := by decide +kernel
theorem dX2_init_55 : decode cX2_init 55 = .ok (.return_, 1) := by decide +kernel
theorem dX2_readRules_0 : decode cX2_readRules 0 = .ok (.aload_n 0, 1) := by decide +kernel
theorem dX2_readRules_1 : decode cX2_readRules 1 = .ok (.iconst 0, 1) := by decide +kernel
theorem dX2_readRules_2 : decode cX2_readRules 2 = .ok (.putfield 19, 3) := by decide +kernel
theorem dX2_readRules_5 : decode cX2_readRules 5 = .ok (.aload_n 0, 1) := by decide +kernel
theorem dX2_readRules_6 : decode cX2_readRules 6 = .ok (.iconst 0, 1) := by decide +kernel
theorem dX2_readRules_7 : decode cX2_readRules 7 = .ok (.putfield 22, 3) := by decide +kernel
theorem dX2_readRules_10 : decode cX2_readRules 10 = .ok (.iconst 0, 1) := by decide +kernel
theorem dX2_readRules_11 : decode cX2_readRules 11 = .ok (.istore_n 1, 1) := by decide +kernel
theorem dX2_readRules_12 : decode cX2_readRules 12 = .ok (.iload_n 1, 1) := by decide +kernel
theorem dX2_readRules_13 : decode cX2_readRules 13 = .ok (.iconst 5, 1) := by decide +kernel
theorem dX2_readRules_14 : decode cX2_readRules 14 = .ok (.if_icmp .ge 93, 3) := by decide +kernel
theorem dX2_readRules_17 : decode cX2_readRules 17 = .ok (.aload_n 0, 1) := by decide +kernel
theorem dX2_readRules_18 : decode cX2_readRules 18 = .ok (.iload_n 1, 1) := by decide +kernel
theorem dX2_readRules_19 : decode cX2_readRules 19 = .ok (.invokevirtual 37, 3) := by decide +kernel
theorem dX2_readRules_22 : decode cX2_readRules 22 = .ok (.ifCond .eq 37, 3) := by decide +kernel
theorem dX2_readRules_25 : decode cX2_readRules 25 = .ok (.aload_n 0, 1) := by decide +kernel
theorem dX2_readRules_26 : decode cX2_readRules 26 = .ok (.bipush 44, 2) := by decide +kernel
theorem dX2_readRules_28 : decode cX2_readRules 28 = .ok (.invokevirtual 41, 3) := by decide +kernel
theorem dX2_readRules_31 : decode cX2_readRules 31 = .ok (.ifCond .eq 28, 3) := by decide +kernel
theorem dX2_readRules_34 : decode cX2_readRules 34 = .ok (.aload_n 0, 1) := by decide +kernel
theorem dX2_readRules_35 : decode cX2_readRules 35 = .ok (.iload_n 1, 1) := by decide +kernel
theorem dX2_readRules_36 : decode cX2_readRules 36 = .ok (.invokevirtual 45, 3) := by decide +kernel
theorem dX2_readRules_39 : decode cX2_readRules 39 = .ok (.ifCond .eq 20, 3) := by decide +kernel
theorem dX2_readRules_42 : decode cX2_readRules 42 = .ok (.aload_n 0, 1) := by decide +kernel
theorem dX2_readRules_43 : decode cX2_readRules 43 = .ok (.bipush 44, 2) := by decide +kernel
theorem dX2_readRules_45 : decode cX2_readRules 45 = .ok (.invokevirtual 41, 3) := by decide +kernel
theorem dX2_readRules_48 : decode cX2_readRules 48 = .ok (.ifCond .eq 11, 3) := by decide +kernel
theorem dX2_readRules_51 : decode cX2_readRules 51 = .ok (.aload_n 0, 1) := by decide +kernel
theorem dX2_readRules_52 : decode cX2_readRules 52 = .ok (.iload_n 1, 1) := by decide +kernel
theorem dX2_readRules_53 : decode cX2_readRules 53 = .ok (.invokevirtual 48, 3) := by decide +kernel
theorem dX2_readRules_56 : decode cX2_readRules 56 = .ok (.ifCond .ne 8, 3) := by decide +kernel
theorem dX2_readRules_59 : decode cX2_readRules 59 = .ok (.aload_n 0, 1) := by decide +kernel
theorem dX2_readRules_60 : decode cX2_readRules 60 = .ok (.getfield 19, 3) := by decide +kernel
theorem dX2_readRules_63 : decode cX2_readRules 63 = .ok (.ireturn, 1) := by decide +kernel
theorem dX2_readRules_64 : decode cX2_readRules 64 = .ok (.aload_n 0, 1) := by decide +kernel
theorem dX2_readRules_65 : decode cX2_readRules 65 = .ok (.dup, 1) := by decide +kernel
theorem dX2_readRules_66 : decode cX2_readRules 66 = .ok (.getfield 22, 3) := by decide +kernel
theorem dX2_readRules_69 : decode cX2_readRules 69 = .ok (.iconst 1, 1) := by decide +kernel
theorem dX2_readRules_70 : decode cX2_readRules 70 = .ok (.iadd, 1) := by decide +kernel
theorem dX2_readRules_71 : decode cX2_readRules 71 = .ok (.putfield 22, 3) := by decide +kernel
theorem dX2_readRules_74 : decode cX2_readRules 74 = .ok (.aload_n 0, 1) := by decide +kernel
theorem dX2_readRules_75 : decode cX2_readRules 75 = .ok (.getfield 19, 3) := by decide +kernel
theorem dX2_readRules_78 : decode cX2_readRules 78 = .ok (.aload_n 0, 1) := by decide +kernel
theorem dX2_readRules_79 : decode cX2_readRules 79 = .ok (.getfield 15, 3) := by decide +kernel
theorem dX2_readRules_82 : decode cX2_readRules 82 = .ok (.if_icmp .ne 5, 3) := by decide +kernel
theorem dX2_readRules_85 : decode cX2_readRules 85 = .ok (.iconst (-1), 1) := by decide +kernel
theorem dX2_readRules_86 : decode cX2_readRules 86 = .ok (.ireturn, 1) := by decide +kernel
theorem dX2_readRules_87 : decode cX2_readRules 87 = .ok (.aload_n 0, 1) := by decide +kernel
theorem dX2_readRules_88 : decode cX2_readRules 88 = .ok (.bipush 59, 2) := by decide +kernel
theorem dX2_readRules_90 : decode cX2_readRules 90 = .ok (.invokevirtual 41, 3) := by decide +kernel
theorem dX2_readRules_93 : decode cX2_readRules 93 = .ok (.ifCond .ne 8, 3) := by decide +kernel
theorem dX2_readRules_96 : decode cX2_readRules 96 = .ok (.aload_n 0, 1) := by decide +kernel
theorem dX2_readRules_97 : decode cX2_readRules 97 = .ok (.getfield 19, 3) := by decide +kernel
theorem dX2_readRules_100 : decode cX2_readRules 100 = .ok (.ireturn, 1) := by decide +kernel
theorem dX2_readRules_101 : decode cX2_readRules 101 = .ok (.iinc 1 1, 3) := by decide +kernel
theorem dX2_readRules_104 : decode cX2_readRules 104 = .ok (.goto (-92), 3) := by decide +kernel
theorem dX2_readRules_107 : decode cX2_readRules 107 = .ok (.aload_n 0, 1) := by decide +kernel
theorem dX2_readRules_108 : decode cX2_readRules 108 = .ok (.getfield 19, 3) := by decide +kernel
theorem dX2_readRules_111 : decode cX2_readRules 111 = .ok (.ireturn, 1) := by decide +kernel
theorem dX2_sign_0 : decode cX2_sign 0 = .ok (.aload_n 0, 1) := by decide +kernel
theorem dX2_sign_1 : decode cX2_sign 1 = .ok (.getfield 19, 3) := by decide +kernel
theorem dX2_sign_4 : decode cX2_sign 4 = .ok (.ifCond .lt 35, 3) := by decide +kernel
theorem dX2_sign_7 : decode cX2_sign 7 = .ok (.aload_n 0, 1) := by decide +kernel
theorem dX2_sign_8 : decode cX2_sign 8 = .ok (.getfield 19, 3) := by decide +kernel
theorem dX2_sign_11 : decode cX2_sign 11 = .ok (.aload_n 0, 1) := by decide +kernel
theorem dX2_sign_12 : decode cX2_sign 12 = .ok (.getfield 15, 3) := by decide +kernel
theorem dX2_sign_15 : decode cX2_sign 15 = .ok (.if_icmp .ge 24, 3) := by decide +kernel
theorem dX2_sign_18 : decode cX2_sign 18 = .ok (.aload_n 0, 1) := by decide +kernel
theorem dX2_sign_19 : decode cX2_sign 19 = .ok (.getfield 19, 3) := by decide +kernel
theorem dX2_sign_22 : decode cX2_sign 22 = .ok (.bipush 60, 2) := by decide +kernel
theorem dX2_sign_24 : decode cX2_sign 24 = .ok (.if_icmp .ge 15, 3) := by decide +kernel
theorem dX2_sign_27 : decode cX2_sign 27 = .ok (.aload_n 0, 1) := by decide +kernel
theorem dX2_sign_28 : decode cX2_sign 28 = .ok (.getfield 11, 3) := by decide +kernel
theorem dX2_sign_31 : decode cX2_sign 31 = .ok (.aload_n 0, 1) := by decide +kernel
theorem dX2_sign_32 : decode cX2_sign 32 = .ok (.getfield 19, 3) := by decide +kernel
theorem dX2_sign_35 : decode cX2_sign 35 = .ok (.iaload, 1) := by decide +kernel
theorem dX2_sign_36 : decode cX2_sign 36 = .ok (.goto 4, 3) := by decide +kernel
theorem dX2_sign_39 : decode cX2_sign 39 = .ok (.iconst (-1), 1) := by decide +kernel
theorem dX2_sign_40 : decode cX2_sign 40 = .ok (.ireturn, 1) := by decide +kernel
theorem dX2_digit_0 : decode cX2_digit 0 = .ok (.aload_n 0, 1) := by decide +kernel
theorem dX2_digit_1 : decode cX2_digit 1 = .ok (.invokevirtual 51, 3) := by decide +kernel
theorem dX2_digit_4 : decode cX2_digit 4 = .ok (.istore_n 1, 1) := by decide +kernel
theorem dX2_digit_5 : decode cX2_digit 5 = .ok (.iload_n 1, 1) := by decide +kernel
theorem dX2_digit_6 : decode cX2_digit 6 = .ok (.bipush 48, 2) := by decide +kernel
theorem dX2_digit_8 : decode cX2_digit 8 = .ok (.if_icmp .lt 16, 3) := by decide +kernel
theorem dX2_digit_11 : decode cX2_digit 11 = .ok (.iload_n 1, 1) := by decide +kernel
theorem dX2_digit_12 : decode cX2_digit 12 = .ok (.bipush 57, 2) := by decide +kernel
theorem dX2_digit_14 : decode cX2_digit 14 = .ok (.if_icmp .gt 10, 3) := by decide +kernel
theorem dX2_digit_17 : decode cX2_digit 17 = .ok (.iload_n 1, 1) := by decide +kernel
theorem dX2_digit_18 : decode cX2_digit 18 = .ok (.bipush 48, 2) := by decide +kernel
theorem dX2_digit_20 : decode cX2_digit 20 = .ok (.isub, 1) := by decide +kernel
theorem dX2_digit_21 : decode cX2_digit 21 = .ok (.goto 4, 3) := by decide +kernel
theorem dX2_digit_24 : decode cX2_digit 24 = .ok (.iconst (-1), 1) := by decide +kernel
theorem dX2_digit_25 : decode cX2_digit 25 = .ok (.ireturn, 1) := by decide +kernel
theorem dX2_skip_0 : decode cX2_skip 0 = .ok (.aload_n 0, 1) := by decide +kernel
theorem dX2_skip_1 : decode cX2_skip 1 = .ok (.invokevirtual 51, 3) := by decide +kernel
theorem dX2_skip_4 : decode cX2_skip 4 = .ok (.iload_n 1, 1) := by decide +kernel
theorem dX2_skip_5 : decode cX2_skip 5 = .ok (.if_icmp .eq 5, 3) := by decide +kernel
theorem dX2_skip_8 : decode cX2_skip 8 = .ok (.iconst 0, 1) := by decide +kernel
theorem dX2_skip_9 : decode cX2_skip 9 = .ok (.ireturn, 1) := by decide +kernel
theorem dX2_skip_10 : decode cX2_skip 10 = .ok (.aload_n 0, 1) := by decide +kernel
theorem dX2_skip_11 : decode cX2_skip 11 = .ok (.dup, 1) := by decide +kernel
theorem dX2_skip_12 : decode cX2_skip 12 = .ok (.getfield 19, 3) := by decide +kernel
theorem dX2_skip_15 : decode cX2_skip 15 = .ok (.iconst 1, 1) := by decide +kernel
theorem dX2_skip_16 : decode cX2_skip 16 = .ok (.iadd, 1) := by decide +kernel
theorem dX2_skip_17 : decode cX2_skip 17 = .ok (.putfield 19, 3) := by decide +kernel
theorem dX2_skip_20 : decode cX2_skip 20 = .ok (.iconst 1, 1) := by decide +kernel
theorem dX2_skip_21 : decode cX2_skip 21 = .ok (.ireturn, 1) := by decide +kernel
theorem dX2_readEntry_0 : decode cX2_readEntry 0 = .ok (.iconst 0, 1) := by decide +kernel
theorem dX2_readEntry_1 : decode cX2_readEntry 1 = .ok (.istore_n 2, 1) := by decide +kernel
theorem dX2_readEntry_2 : decode cX2_readEntry 2 = .ok (.iconst 0, 1) := by decide +kernel
theorem dX2_readEntry_3 : decode cX2_readEntry 3 = .ok (.istore_n 3, 1) := by decide +kernel
theorem dX2_readEntry_4 : decode cX2_readEntry 4 = .ok (.sipush 128, 3) := by decide +kernel
theorem dX2_readEntry_7 : decode cX2_readEntry 7 = .ok (.istore 4, 2) := by decide +kernel
theorem dX2_readEntry_9 : decode cX2_readEntry 9 = .ok (.iload 4, 2) := by decide +kernel
theorem dX2_readEntry_11 : decode cX2_readEntry 11 = .ok (.ifCond .le 83, 3) := by decide +kernel
theorem dX2_readEntry_14 : decode cX2_readEntry 14 = .ok (.aload_n 0, 1) := by decide +kernel
theorem dX2_readEntry_15 : decode cX2_readEntry 15 = .ok (.invokevirtual 51, 3) := by decide +kernel
theorem dX2_readEntry_18 : decode cX2_readEntry 18 = .ok (.istore 5, 2) := by decide +kernel
theorem dX2_readEntry_20 : decode cX2_readEntry 20 = .ok (.iload 5, 2) := by decide +kernel
theorem dX2_readEntry_22 : decode cX2_readEntry 22 = .ok (.bipush 48, 2) := by decide +kernel
theorem dX2_readEntry_24 : decode cX2_readEntry 24 = .ok (.if_icmp .eq 19, 3) := by decide +kernel
theorem dX2_readEntry_27 : decode cX2_readEntry 27 = .ok (.iload 5, 2) := by decide +kernel
theorem dX2_readEntry_29 : decode cX2_readEntry 29 = .ok (.bipush 49, 2) := by decide +kernel
theorem dX2_readEntry_31 : decode cX2_readEntry 31 = .ok (.if_icmp .eq 12, 3) := by decide +kernel
theorem dX2_readEntry_34 : decode cX2_readEntry 34 = .ok (.iload 5, 2) := by decide +kernel
theorem dX2_readEntry_36 : decode cX2_readEntry 36 = .ok (.bipush 42, 2) := by decide +kernel
theorem dX2_readEntry_38 : decode cX2_readEntry 38 = .ok (.if_icmp .eq 5, 3) := by decide +kernel
theorem dX2_readEntry_41 : decode cX2_readEntry 41 = .ok (.iconst 0, 1) := by decide +kernel
theorem dX2_readEntry_42 : decode cX2_readEntry 42 = .ok (.ireturn, 1) := by decide +kernel
theorem dX2_readEntry_43 : decode cX2_readEntry 43 = .ok (.iload_n 2, 1) := by decide +kernel
theorem dX2_readEntry_44 : decode cX2_readEntry 44 = .ok (.iload 5, 2) := by decide +kernel
theorem dX2_readEntry_46 : decode cX2_readEntry 46 = .ok (.bipush 42, 2) := by decide +kernel
theorem dX2_readEntry_48 : decode cX2_readEntry 48 = .ok (.if_icmp .ne 7, 3) := by decide +kernel
theorem dX2_readEntry_51 : decode cX2_readEntry 51 = .ok (.iconst 0, 1) := by decide +kernel
theorem dX2_readEntry_52 : decode cX2_readEntry 52 = .ok (.goto 5, 3) := by decide +kernel
theorem dX2_readEntry_55 : decode cX2_readEntry 55 = .ok (.iload 4, 2) := by decide +kernel
theorem dX2_readEntry_57 : decode cX2_readEntry 57 = .ok (.iadd, 1) := by decide +kernel
theorem dX2_readEntry_58 : decode cX2_readEntry 58 = .ok (.istore_n 2, 1) := by decide +kernel
theorem dX2_readEntry_59 : decode cX2_readEntry 59 = .ok (.iload_n 3, 1) := by decide +kernel
theorem dX2_readEntry_60 : decode cX2_readEntry 60 = .ok (.iload 5, 2) := by decide +kernel
theorem dX2_readEntry_62 : decode cX2_readEntry 62 = .ok (.bipush 49, 2) := by decide +kernel
theorem dX2_readEntry_64 : decode cX2_readEntry 64 = .ok (.if_icmp .ne 8, 3) := by decide +kernel
theorem dX2_readEntry_67 : decode cX2_readEntry 67 = .ok (.iload 4, 2) := by decide +kernel
theorem dX2_readEntry_69 : decode cX2_readEntry 69 = .ok (.goto 4, 3) := by decide +kernel
theorem dX2_readEntry_72 : decode cX2_readEntry 72 = .ok (.iconst 0, 1) := by decide +kernel
theorem dX2_readEntry_73 : decode cX2_readEntry 73 = .ok (.iadd, 1) := by decide +kernel
theorem dX2_readEntry_74 : decode cX2_readEntry 74 = .ok (.istore_n 3, 1) := by decide +kernel
theorem dX2_readEntry_75 : decode cX2_readEntry 75 = .ok (.aload_n 0, 1) := by decide +kernel
theorem dX2_readEntry_76 : decode cX2_readEntry 76 = .ok (.dup, 1) := by decide +kernel
theorem dX2_readEntry_77 : decode cX2_readEntry 77 = .ok (.getfield 19, 3) := by decide +kernel
theorem dX2_readEntry_80 : decode cX2_readEntry 80 = .ok (.iconst 1, 1) := by decide +kernel
theorem dX2_readEntry_81 : decode cX2_readEntry 81 = .ok (.iadd, 1) := by decide +kernel
theorem dX2_readEntry_82 : decode cX2_readEntry 82 = .ok (.putfield 19, 3) := by decide +kernel
theorem dX2_readEntry_85 : decode cX2_readEntry 85 = .ok (.iload 4, 2) := by decide +kernel
theorem dX2_readEntry_87 : decode cX2_readEntry 87 = .ok (.iconst 2, 1) := by decide +kernel
theorem dX2_readEntry_88 : decode cX2_readEntry 88 = .ok (.idiv, 1) := by decide +kernel
theorem dX2_readEntry_89 : decode cX2_readEntry 89 = .ok (.istore 4, 2) := by decide +kernel
theorem dX2_readEntry_91 : decode cX2_readEntry 91 = .ok (.goto (-82), 3) := by decide +kernel
theorem dX2_readEntry_94 : decode cX2_readEntry 94 = .ok (.iload_n 1, 1) := by decide +kernel
theorem dX2_readEntry_95 : decode cX2_readEntry 95 = .ok (.ifCond .lt 22, 3) := by decide +kernel
theorem dX2_readEntry_98 : decode cX2_readEntry 98 = .ok (.iload_n 1, 1) := by decide +kernel
theorem dX2_readEntry_99 : decode cX2_readEntry 99 = .ok (.iconst 5, 1) := by decide +kernel
theorem dX2_readEntry_100 : decode cX2_readEntry 100 = .ok (.if_icmp .ge 17, 3) := by decide +kernel
theorem dX2_readEntry_103 : decode cX2_readEntry 103 = .ok (.aload_n 0, 1) := by decide +kernel
theorem dX2_readEntry_104 : decode cX2_readEntry 104 = .ok (.getfield 25, 3) := by decide +kernel
theorem dX2_readEntry_107 : decode cX2_readEntry 107 = .ok (.iload_n 1, 1) := by decide +kernel
theorem dX2_readEntry_108 : decode cX2_readEntry 108 = .ok (.iload_n 2, 1) := by decide +kernel
theorem dX2_readEntry_109 : decode cX2_readEntry 109 = .ok (.iastore, 1) := by decide +kernel
theorem dX2_readEntry_110 : decode cX2_readEntry 110 = .ok (.aload_n 0, 1) := by decide +kernel
theorem dX2_readEntry_111 : decode cX2_readEntry 111 = .ok (.getfield 28, 3) := by decide +kernel
theorem dX2_readEntry_114 : decode cX2_readEntry 114 = .ok (.iload_n 1, 1) := by decide +kernel
theorem dX2_readEntry_115 : decode cX2_readEntry 115 = .ok (.iload_n 3, 1) := by decide +kernel
theorem dX2_readEntry_116 : decode cX2_readEntry 116 = .ok (.iastore, 1) := by decide +kernel
theorem dX2_readEntry_117 : decode cX2_readEntry 117 = .ok (.iconst 1, 1) := by decide +kernel
theorem dX2_readEntry_118 : decode cX2_readEntry 118 = .ok (.ireturn, 1) := by decide +kernel
theorem dX2_readRank_0 : decode cX2_readRank 0 = .ok (.aload_n 0, 1) := by decide +kernel
theorem dX2_readRank_1 : decode cX2_readRank 1 = .ok (.invokevirtual 55, 3) := by decide +kernel
theorem dX2_readRank_4 : decode cX2_readRank 4 = .ok (.istore_n 2, 1) := by decide +kernel
theorem dX2_readRank_5 : decode cX2_readRank 5 = .ok (.iload_n 2, 1) := by decide +kernel
theorem dX2_readRank_6 : decode cX2_readRank 6 = .ok (.ifCond .ge 5, 3) := by decide +kernel
theorem dX2_readRank_9 : decode cX2_readRank 9 = .ok (.iconst 0, 1) := by decide +kernel
theorem dX2_readRank_10 : decode cX2_readRank 10 = .ok (.ireturn, 1) := by decide +kernel
theorem dX2_readRank_11 : decode cX2_readRank 11 = .ok (.aload_n 0, 1) := by decide +kernel
theorem dX2_readRank_12 : decode cX2_readRank 12 = .ok (.dup, 1) := by decide +kernel
theorem dX2_readRank_13 : decode cX2_readRank 13 = .ok (.getfield 19, 3) := by decide +kernel
theorem dX2_readRank_16 : decode cX2_readRank 16 = .ok (.iconst 1, 1) := by decide +kernel
theorem dX2_readRank_17 : decode cX2_readRank 17 = .ok (.iadd, 1) := by decide +kernel
theorem dX2_readRank_18 : decode cX2_readRank 18 = .ok (.putfield 19, 3) := by decide +kernel
theorem dX2_readRank_21 : decode cX2_readRank 21 = .ok (.aload_n 0, 1) := by decide +kernel
theorem dX2_readRank_22 : decode cX2_readRank 22 = .ok (.invokevirtual 55, 3) := by decide +kernel
theorem dX2_readRank_25 : decode cX2_readRank 25 = .ok (.istore_n 3, 1) := by decide +kernel
theorem dX2_readRank_26 : decode cX2_readRank 26 = .ok (.iload_n 3, 1) := by decide +kernel
theorem dX2_readRank_27 : decode cX2_readRank 27 = .ok (.ifCond .lt 20, 3) := by decide +kernel
theorem dX2_readRank_30 : decode cX2_readRank 30 = .ok (.bipush 10, 2) := by decide +kernel
theorem dX2_readRank_32 : decode cX2_readRank 32 = .ok (.iload_n 2, 1) := by decide +kernel
theorem dX2_readRank_33 : decode cX2_readRank 33 = .ok (.imul, 1) := by decide +kernel
theorem dX2_readRank_34 : decode cX2_readRank 34 = .ok (.iload_n 3, 1) := by decide +kernel
theorem dX2_readRank_35 : decode cX2_readRank 35 = .ok (.iadd, 1) := by decide +kernel
theorem dX2_readRank_36 : decode cX2_readRank 36 = .ok (.istore_n 2, 1) := by decide +kernel
theorem dX2_readRank_37 : decode cX2_readRank 37 = .ok (.aload_n 0, 1) := by decide +kernel
theorem dX2_readRank_38 : decode cX2_readRank 38 = .ok (.dup, 1) := by decide +kernel
theorem dX2_readRank_39 : decode cX2_readRank 39 = .ok (.getfield 19, 3) := by decide +kernel
theorem dX2_readRank_42 : decode cX2_readRank 42 = .ok (.iconst 1, 1) := by decide +kernel
theorem dX2_readRank_43 : decode cX2_readRank 43 = .ok (.iadd, 1) := by decide +kernel
theorem dX2_readRank_44 : decode cX2_readRank 44 = .ok (.putfield 19, 3) := by decide +kernel
theorem dX2_readRank_47 : decode cX2_readRank 47 = .ok (.iload_n 1, 1) := by decide +kernel
theorem dX2_readRank_48 : decode cX2_readRank 48 = .ok (.ifCond .lt 15, 3) := by decide +kernel
theorem dX2_readRank_51 : decode cX2_readRank 51 = .ok (.iload_n 1, 1) := by decide +kernel
theorem dX2_readRank_52 : decode cX2_readRank 52 = .ok (.iconst 5, 1) := by decide +kernel
theorem dX2_readRank_53 : decode cX2_readRank 53 = .ok (.if_icmp .ge 10, 3) := by decide +kernel
theorem dX2_readRank_56 : decode cX2_readRank 56 = .ok (.aload_n 0, 1) := by decide +kernel
theorem dX2_readRank_57 : decode cX2_readRank 57 = .ok (.getfield 31, 3) := by decide +kernel
theorem dX2_readRank_60 : decode cX2_readRank 60 = .ok (.iload_n 1, 1) := by decide +kernel
theorem dX2_readRank_61 : decode cX2_readRank 61 = .ok (.iload_n 2, 1) := by decide +kernel
theorem dX2_readRank_62 : decode cX2_readRank 62 = .ok (.iastore, 1) := by decide +kernel
theorem dX2_readRank_63 : decode cX2_readRank 63 = .ok (.iconst 1, 1) := by decide +kernel
theorem dX2_readRank_64 : decode cX2_readRank 64 = .ok (.ireturn, 1) := by decide +kernel
theorem dX2_readAction_0 : decode cX2_readAction 0 = .ok (.aload_n 0, 1) := by decide +kernel
theorem dX2_readAction_1 : decode cX2_readAction 1 = .ok (.invokevirtual 55, 3) := by decide +kernel
theorem dX2_readAction_4 : decode cX2_readAction 4 = .ok (.istore_n 2, 1) := by decide +kernel
theorem dX2_readAction_5 : decode cX2_readAction 5 = .ok (.iload_n 2, 1) := by decide +kernel
theorem dX2_readAction_6 : decode cX2_readAction 6 = .ok (.ifCond .ge 5, 3) := by decide +kernel
theorem dX2_readAction_9 : decode cX2_readAction 9 = .ok (.iconst 0, 1) := by decide +kernel
theorem dX2_readAction_10 : decode cX2_readAction 10 = .ok (.ireturn, 1) := by decide +kernel
theorem dX2_readAction_11 : decode cX2_readAction 11 = .ok (.aload_n 0, 1) := by decide +kernel
theorem dX2_readAction_12 : decode cX2_readAction 12 = .ok (.dup, 1) := by decide +kernel
theorem dX2_readAction_13 : decode cX2_readAction 13 = .ok (.getfield 19, 3) := by decide +kernel
theorem dX2_readAction_16 : decode cX2_readAction 16 = .ok (.iconst 1, 1) := by decide +kernel
theorem dX2_readAction_17 : decode cX2_readAction 17 = .ok (.iadd, 1) := by decide +kernel
theorem dX2_readAction_18 : decode cX2_readAction 18 = .ok (.putfield 19, 3) := by decide +kernel
theorem dX2_readAction_21 : decode cX2_readAction 21 = .ok (.iload_n 1, 1) := by decide +kernel
theorem dX2_readAction_22 : decode cX2_readAction 22 = .ok (.ifCond .lt 15, 3) := by decide +kernel
theorem dX2_readAction_25 : decode cX2_readAction 25 = .ok (.iload_n 1, 1) := by decide +kernel
theorem dX2_readAction_26 : decode cX2_readAction 26 = .ok (.iconst 5, 1) := by decide +kernel
theorem dX2_readAction_27 : decode cX2_readAction 27 = .ok (.if_icmp .ge 10, 3) := by decide +kernel
theorem dX2_readAction_30 : decode cX2_readAction 30 = .ok (.aload_n 0, 1) := by decide +kernel
theorem dX2_readAction_31 : decode cX2_readAction 31 = .ok (.getfield 34, 3) := by decide +kernel
theorem dX2_readAction_34 : decode cX2_readAction 34 = .ok (.iload_n 1, 1) := by decide +kernel
theorem dX2_readAction_35 : decode cX2_readAction 35 = .ok (.iload_n 2, 1) := by decide +kernel
theorem dX2_readAction_36 : decode cX2_readAction 36 = .ok (.iastore, 1) := by decide +kernel
theorem dX2_readAction_37 : decode cX2_readAction 37 = .ok (.iconst 1, 1) := by decide +kernel
theorem dX2_readAction_38 : decode cX2_readAction 38 = .ok (.ireturn, 1) := by decide +kernel
theorem dX3_init_0 : decode cX3_init 0 = .ok (.aload_n 0, 1) := by decide +kernel
theorem dX3_init_1 : decode cX3_init 1 = .ok (.invokespecial 1, 3) := by decide +kernel
theorem dX3_init_4 : decode cX3_init 4 = .ok (.aload_n 0, 1) := by decide +kernel
theorem dX3_init_5 : decode cX3_init 5 = .ok (.new 7, 3) := by decide +kernel
theorem dX3_init_8 : decode cX3_init 8 = .ok (.dup, 1) := by decide +kernel
theorem dX3_init_9 : decode cX3_init 9 = .ok (.invokespecial 9, 3) := by decide +kernel
theorem dX3_init_12 : decode cX3_init 12 = .ok (.putfield 10, 3) := by decide +kernel
theorem dX3_init_15 : decode cX3_init 15 = .ok (.aload_n 0, 1) := by decide +kernel
theorem dX3_init_16 : decode cX3_init 16 = .ok (.new 7, 3) := by decide +kernel
theorem dX3_init_19 : decode cX3_init 19 = .ok (.dup, 1) := by decide +kernel
theorem dX3_init_20 : decode cX3_init 20 = .ok (.invokespecial 9, 3) := by decide +kernel
theorem dX3_init_23 : decode cX3_init 23 = .ok (.putfield 16, 3) := by decide +kernel
theorem dX3_init_26 : decode cX3_init 26 = .ok (.aload_n 0, 1) := by decide +kernel
theorem dX3_init_27 : decode cX3_init 27 = .ok (.new 19, 3) := by decide +kernel
theorem dX3_init_30 : decode cX3_init 30 = .ok (.dup, 1) := by decide +kernel
theorem dX3_init_31 : decode cX3_init 31 = .ok (.invokespecial 21, 3) := by decide +kernel
theorem dX3_init_34 : decode cX3_init 34 = .ok (.putfield 22, 3) := by decide +kernel
theorem dX3_init_37 : decode cX3_init 37 = .ok (.aload_n 0, 1) := by decide +kernel
theorem dX3_init_38 : decode cX3_init 38 = .ok (.new 26, 3) := by decide +kernel
theorem dX3_init_41 : decode cX3_init 41 = .ok (.dup, 1) := by decide +kernel
theorem dX3_init_42 : decode cX3_init 42 = .ok (.invokespecial 28, 3) := by decide +kernel
theorem dX3_init_45 : decode cX3_init 45 = .ok (.putfield 29, 3) := by decide +kernel
theorem dX3_init_48 : decode cX3_init 48 = .ok (.aload_n 0, 1) := by decide +kernel
theorem dX3_init_49 : decode cX3_init 49 = .ok (.iconst 0, 1) := by decide +kernel
theorem dX3_init_50 : decode cX3_init 50 = .ok (.putfield 33, 3) := by decide +kernel
theorem dX3_init_53 : decode cX3_init 53 = .ok (.return_, 1) := by decide +kernel
theorem dX3_addRule_0 : decode cX3_addRule 0 = .ok (.iload_n 1, 1) := by decide +kernel
theorem dX3_addRule_1 : decode cX3_addRule 1 = .ok (.invokestatic 37, 3) := by decide +kernel
theorem dX3_addRule_4 : decode cX3_addRule 4 = .ok (.ifCond .eq 25, 3) := by decide +kernel
theorem dX3_addRule_7 : decode cX3_addRule 7 = .ok (.iload_n 2, 1) := by decide +kernel
theorem dX3_addRule_8 : decode cX3_addRule 8 = .ok (.invokestatic 37, 3) := by decide +kernel
theorem dX3_addRule_11 : decode cX3_addRule 11 = .ok (.ifCond .eq 18, 3) := by decide +kernel
theorem dX3_addRule_14 : decode cX3_addRule 14 = .ok (.iload_n 3, 1) := by decide +kernel
theorem dX3_addRule_15 : decode cX3_addRule 15 = .ok (.invokestatic 41, 3) := by decide +kernel
theorem dX3_addRule_18 : decode cX3_addRule 18 = .ok (.ifCond .eq 11, 3) := by decide +kernel
theorem dX3_addRule_21 : decode cX3_addRule 21 = .ok (.iload 4, 2) := by decide +kernel
theorem dX3_addRule_23 : decode cX3_addRule 23 = .ok (.invokestatic 44, 3) := by decide +kernel
theorem dX3_addRule_26 : decode cX3_addRule 26 = .ok (.ifCond .ne 6, 3) := by decide +kernel
theorem dX3_addRule_29 : decode cX3_addRule 29 = .ok (.bipush (-2), 2) := by decide +kernel
theorem dX3_addRule_31 : decode cX3_addRule 31 = .ok (.ireturn, 1) := by decide +kernel
theorem dX3_addRule_32 : decode cX3_addRule 32 = .ok (.aload_n 0, 1) := by decide +kernel
theorem dX3_addRule_33 : decode cX3_addRule 33 = .ok (.getfield 10, 3) := by decide +kernel
theorem dX3_addRule_36 : decode cX3_addRule 36 = .ok (.invokevirtual 47, 3) := by decide +kernel
theorem dX3_addRule_39 : decode cX3_addRule 39 = .ok (.ifCond .ne 6, 3) := by decide +kernel
theorem dX3_addRule_42 : decode cX3_addRule 42 = .ok (.bipush (-3), 2) := by decide +kernel
theorem dX3_addRule_44 : decode cX3_addRule 44 = .ok (.ireturn, 1) := by decide +kernel
theorem dX3_addRule_45 : decode cX3_addRule 45 = .ok (.aload_n 0, 1) := by decide +kernel
theorem dX3_addRule_46 : decode cX3_addRule 46 = .ok (.getfield 22, 3) := by decide +kernel
theorem dX3_addRule_49 : decode cX3_addRule 49 = .ok (.aload_n 0, 1) := by decide +kernel
theorem dX3_addRule_50 : decode cX3_addRule 50 = .ok (.getfield 10, 3) := by decide +kernel
theorem dX3_addRule_53 : decode cX3_addRule 53 = .ok (.invokevirtual 51, 3) := by decide +kernel
theorem dX3_addRule_56 : decode cX3_addRule 56 = .ok (.aload_n 0, 1) := by decide +kernel
theorem dX3_addRule_57 : decode cX3_addRule 57 = .ok (.getfield 10, 3) := by decide +kernel
theorem dX3_addRule_60 : decode cX3_addRule 60 = .ok (.iload_n 1, 1) := by decide +kernel
theorem dX3_addRule_61 : decode cX3_addRule 61 = .ok (.iload_n 2, 1) := by decide +kernel
theorem dX3_addRule_62 : decode cX3_addRule 62 = .ok (.iload_n 3, 1) := by decide +kernel
theorem dX3_addRule_63 : decode cX3_addRule 63 = .ok (.iload 4, 2) := by decide +kernel
theorem dX3_addRule_65 : decode cX3_addRule 65 = .ok (.invokevirtual 55, 3) := by decide +kernel
theorem dX3_addRule_68 : decode cX3_addRule 68 = .ok (.ireturn, 1) := by decide +kernel
theorem dX3_addRange_0 : decode cX3_addRange 0 = .ok (.iload_n 1, 1) := by decide +kernel
theorem dX3_addRange_1 : decode cX3_addRange 1 = .ok (.iload_n 2, 1) := by decide +kernel
theorem dX3_addRange_2 : decode cX3_addRange 2 = .ok (.invokestatic 59, 3) := by decide +kernel
theorem dX3_addRange_5 : decode cX3_addRange 5 = .ok (.ifCond .eq 18, 3) := by decide +kernel
theorem dX3_addRange_8 : decode cX3_addRange 8 = .ok (.iload_n 3, 1) := by decide +kernel
theorem dX3_addRange_9 : decode cX3_addRange 9 = .ok (.invokestatic 41, 3) := by decide +kernel
theorem dX3_addRange_12 : decode cX3_addRange 12 = .ok (.ifCond .eq 11, 3) := by decide +kernel
theorem dX3_addRange_15 : decode cX3_addRange 15 = .ok (.iload 4, 2) := by decide +kernel
theorem dX3_addRange_17 : decode cX3_addRange 17 = .ok (.invokestatic 44, 3) := by decide +kernel
theorem dX3_addRange_20 : decode cX3_addRange 20 = .ok (.ifCond .ne 6, 3) := by decide +kernel
theorem dX3_addRange_23 : decode cX3_addRange 23 = .ok (.bipush (-2), 2) := by decide +kernel
theorem dX3_addRange_25 : decode cX3_addRange 25 = .ok (.ireturn, 1) := by decide +kernel
theorem dX3_addRange_26 : decode cX3_addRange 26 = .ok (.aload_n 0, 1) := by decide +kernel
theorem dX3_addRange_27 : decode cX3_addRange 27 = .ok (.getfield 10, 3) := by decide +kernel
theorem dX3_addRange_30 : decode cX3_addRange 30 = .ok (.invokevirtual 47, 3) := by decide +kernel
theorem dX3_addRange_33 : decode cX3_addRange 33 = .ok (.iload_n 1, 1) := by decide +kernel
theorem dX3_addRange_34 : decode cX3_addRange 34 = .ok (.iload_n 2, 1) := by decide +kernel
theorem dX3_addRange_35 : decode cX3_addRange 35 = .ok (.invokestatic 63, 3) := by decide +kernel
theorem dX3_addRange_38 : decode cX3_addRange 38 = .ok (.if_icmp .ge 6, 3) := by decide +kernel
theorem dX3_addRange_41 : decode cX3_addRange 41 = .ok (.bipush (-3), 2) := by decide +kernel
theorem dX3_addRange_43 : decode cX3_addRange 43 = .ok (.ireturn, 1) := by decide +kernel
theorem dX3_addRange_44 : decode cX3_addRange 44 = .ok (.aload_n 0, 1) := by decide +kernel
theorem dX3_addRange_45 : decode cX3_addRange 45 = .ok (.getfield 22, 3) := by decide +kernel
theorem dX3_addRange_48 : decode cX3_addRange 48 = .ok (.aload_n 0, 1) := by decide +kernel
theorem dX3_addRange_49 : decode cX3_addRange 49 = .ok (.getfield 10, 3) := by decide +kernel
theorem dX3_addRange_52 : decode cX3_addRange 52 = .ok (.invokevirtual 51, 3) := by decide +kernel
theorem dX3_addRange_55 : decode cX3_addRange 55 = .ok (.aload_n 0, 1) := by decide +kernel
theorem dX3_addRange_56 : decode cX3_addRange 56 = .ok (.getfield 10, 3) := by decide +kernel
theorem dX3_addRange_59 : decode cX3_addRange 59 = .ok (.iload_n 1, 1) := by decide +kernel
theorem dX3_addRange_60 : decode cX3_addRange 60 = .ok (.iload_n 2, 1) := by decide +kernel
theorem dX3_addRange_61 : decode cX3_addRange 61 = .ok (.iload_n 3, 1) := by decide +kernel
theorem dX3_addRange_62 : decode cX3_addRange 62 = .ok (.iload 4, 2) := by decide +kernel
theorem dX3_addRange_64 : decode cX3_addRange 64 = .ok (.invokevirtual 67, 3) := by decide +kernel
theorem dX3_addRange_67 : decode cX3_addRange 67 = .ok (.ireturn, 1) := by decide +kernel
theorem dX3_remove_0 : decode cX3_remove 0 = .ok (.aload_n 0, 1) := by decide +kernel
theorem dX3_remove_1 : decode cX3_remove 1 = .ok (.getfield 10, 3) := by decide +kernel
theorem dX3_remove_4 : decode cX3_remove 4 = .ok (.iload_n 1, 1) := by decide +kernel
theorem dX3_remove_5 : decode cX3_remove 5 = .ok (.invokevirtual 70, 3) := by decide +kernel
theorem dX3_remove_8 : decode cX3_remove 8 = .ok (.istore_n 2, 1) := by decide +kernel
theorem dX3_remove_9 : decode cX3_remove 9 = .ok (.iload_n 2, 1) := by decide +kernel
theorem dX3_remove_10 : decode cX3_remove 10 = .ok (.ifCond .ne 5, 3) := by decide +kernel
theorem dX3_remove_13 : decode cX3_remove 13 = .ok (.iconst (-1), 1) := by decide +kernel
theorem dX3_remove_14 : decode cX3_remove 14 = .ok (.ireturn, 1) := by decide +kernel
theorem dX3_remove_15 : decode cX3_remove 15 = .ok (.aload_n 0, 1) := by decide +kernel
theorem dX3_remove_16 : decode cX3_remove 16 = .ok (.getfield 22, 3) := by decide +kernel
theorem dX3_remove_19 : decode cX3_remove 19 = .ok (.aload_n 0, 1) := by decide +kernel
theorem dX3_remove_20 : decode cX3_remove 20 = .ok (.getfield 10, 3) := by decide +kernel
theorem dX3_remove_23 : decode cX3_remove 23 = .ok (.invokevirtual 51, 3) := by decide +kernel
theorem dX3_remove_26 : decode cX3_remove 26 = .ok (.aload_n 0, 1) := by decide +kernel
theorem dX3_remove_27 : decode cX3_remove 27 = .ok (.getfield 10, 3) := by decide +kernel
theorem dX3_remove_30 : decode cX3_remove 30 = .ok (.iload_n 1, 1) := by decide +kernel
theorem dX3_remove_31 : decode cX3_remove 31 = .ok (.invokevirtual 74, 3) := by decide +kernel
theorem dX3_remove_34 : decode cX3_remove 34 = .ok (.iload_n 2, 1) := by decide +kernel
theorem dX3_remove_35 : decode cX3_remove 35 = .ok (.ireturn, 1) := by decide +kernel
theorem dX3_setPlacing_0 : decode cX3_setPlacing 0 = .ok (.iload_n 1, 1) := by decide +kernel
theorem dX3_setPlacing_1 : decode cX3_setPlacing 1 = .ok (.ifCond .lt 8, 3) := by decide +kernel
theorem dX3_setPlacing_4 : decode cX3_setPlacing 4 = .ok (.iload_n 1, 1) := by decide +kernel
theorem dX3_setPlacing_5 : decode cX3_setPlacing 5 = .ok (.iconst 3, 1) := by decide +kernel
theorem dX3_setPlacing_6 : decode cX3_setPlacing 6 = .ok (.if_icmp .lt 6, 3) := by decide +kernel
theorem dX3_setPlacing_9 : decode cX3_setPlacing 9 = .ok (.bipush (-2), 2) := by decide +kernel
theorem dX3_setPlacing_11 : decode cX3_setPlacing 11 = .ok (.ireturn, 1) := by decide +kernel
theorem dX3_setPlacing_12 : decode cX3_setPlacing 12 = .ok (.aload_n 0, 1) := by decide +kernel
theorem dX3_setPlacing_13 : decode cX3_setPlacing 13 = .ok (.getfield 10, 3) := by decide +kernel
theorem dX3_setPlacing_16 : decode cX3_setPlacing 16 = .ok (.getfield 78, 3) := by decide +kernel
theorem dX3_setPlacing_19 : decode cX3_setPlacing 19 = .ok (.istore_n 2, 1) := by decide +kernel
theorem dX3_setPlacing_20 : decode cX3_setPlacing 20 = .ok (.iload_n 1, 1) := by decide +kernel
theorem dX3_setPlacing_21 : decode cX3_setPlacing 21 = .ok (.iload_n 2, 1) := by decide +kernel
theorem dX3_setPlacing_22 : decode cX3_setPlacing 22 = .ok (.if_icmp .ne 6, 3) := by decide +kernel
theorem dX3_setPlacing_25 : decode cX3_setPlacing 25 = .ok (.bipush (-4), 2) := by decide +kernel
theorem dX3_setPlacing_27 : decode cX3_setPlacing 27 = .ok (.ireturn, 1) := by decide +kernel
theorem dX3_setPlacing_28 : decode cX3_setPlacing 28 = .ok (.aload_n 0, 1) := by decide +kernel
theorem dX3_setPlacing_29 : decode cX3_setPlacing 29 = .ok (.getfield 22, 3) := by decide +kernel
theorem dX3_setPlacing_32 : decode cX3_setPlacing 32 = .ok (.aload_n 0, 1) := by decide +kernel
theorem dX3_setPlacing_33 : decode cX3_setPlacing 33 = .ok (.getfield 10, 3) := by decide +kernel
theorem dX3_setPlacing_36 : decode cX3_setPlacing 36 = .ok (.invokevirtual 51, 3) := by decide +kernel
theorem dX3_setPlacing_39 : decode cX3_setPlacing 39 = .ok (.aload_n 0, 1) := by decide +kernel
theorem dX3_setPlacing_40 : decode cX3_setPlacing 40 = .ok (.getfield 10, 3) := by decide +kernel
theorem dX3_setPlacing_43 : decode cX3_setPlacing 43 = .ok (.iload_n 1, 1) := by decide +kernel
theorem dX3_setPlacing_44 : decode cX3_setPlacing 44 = .ok (.putfield 78, 3) := by decide +kernel
theorem dX3_setPlacing_47 : decode cX3_setPlacing 47 = .ok (.iload_n 2, 1) := by decide +kernel
theorem dX3_setPlacing_48 : decode cX3_setPlacing 48 = .ok (.ireturn, 1) := by decide +kernel
theorem dX3_compact_0 : decode cX3_compact 0 = .ok (.aload_n 0, 1) := by decide +kernel
theorem dX3_compact_1 : decode cX3_compact 1 = .ok (.bipush 32, 2) := by decide +kernel
theorem dX3_compact_3 : decode cX3_compact 3 = .ok (.invokevirtual 82, 3) := by decide +kernel
theorem dX3_compact_6 : decode cX3_compact 6 = .ok (.ireturn, 1) := by decide +kernel
theorem dX3_spread_0 : decode cX3_spread 0 = .ok (.aload_n 0, 1) := by decide +kernel
theorem dX3_spread_1 : decode cX3_spread 1 = .ok (.aload_n 0, 1) := by decide +kernel
theorem dX3_spread_2 : decode cX3_spread 2 = .ok (.getfield 10, 3) := by decide +kernel
theorem dX3_spread_5 : decode cX3_spread 5 = .ok (.invokevirtual 85, 3) := by decide +kernel
theorem dX3_spread_8 : decode cX3_spread 8 = .ok (.invokevirtual 82, 3) := by decide +kernel
theorem dX3_spread_11 : decode cX3_spread 11 = .ok (.ireturn, 1) := by decide +kernel
theorem dX3_search_0 : decode cX3_search 0 = .ok (.iload_n 1, 1) := by decide +kernel
theorem dX3_search_1 : decode cX3_search 1 = .ok (.invokestatic 37, 3) := by decide +kernel
theorem dX3_search_4 : decode cX3_search 4 = .ok (.ifCond .ne 6, 3) := by decide +kernel
theorem dX3_search_7 : decode cX3_search 7 = .ok (.bipush (-2), 2) := by decide +kernel
theorem dX3_search_9 : decode cX3_search 9 = .ok (.ireturn, 1) := by decide +kernel
theorem dX3_search_10 : decode cX3_search 10 = .ok (.aload_n 0, 1) := by decide +kernel
theorem dX3_search_11 : decode cX3_search 11 = .ok (.getfield 10, 3) := by decide +kernel
theorem dX3_search_14 : decode cX3_search 14 = .ok (.iload_n 1, 1) := by decide +kernel
theorem dX3_search_15 : decode cX3_search 15 = .ok (.invokevirtual 88, 3) := by decide +kernel
theorem dX3_search_18 : decode cX3_search 18 = .ok (.istore_n 2, 1) := by decide +kernel
theorem dX3_search_19 : decode cX3_search 19 = .ok (.iload_n 2, 1) := by decide +kernel
theorem dX3_search_20 : decode cX3_search 20 = .ok (.iconst (-1), 1) := by decide +kernel
theorem dX3_search_21 : decode cX3_search 21 = .ok (.if_icmp .ne 6, 3) := by decide +kernel
theorem dX3_search_24 : decode cX3_search 24 = .ok (.bipush (-4), 2) := by decide +kernel
theorem dX3_search_26 : decode cX3_search 26 = .ok (.ireturn, 1) := by decide +kernel
theorem dX3_search_27 : decode cX3_search 27 = .ok (.aload_n 0, 1) := by decide +kernel
theorem dX3_search_28 : decode cX3_search 28 = .ok (.getfield 22, 3) := by decide +kernel
theorem dX3_search_31 : decode cX3_search 31 = .ok (.aload_n 0, 1) := by decide +kernel
theorem dX3_search_32 : decode cX3_search 32 = .ok (.getfield 10, 3) := by decide +kernel
theorem dX3_search_35 : decode cX3_search 35 = .ok (.invokevirtual 51, 3) := by decide +kernel
theorem dX3_search_38 : decode cX3_search 38 = .ok (.aload_n 0, 1) := by decide +kernel
theorem dX3_search_39 : decode cX3_search 39 = .ok (.getfield 10, 3) := by decide +kernel
theorem dX3_search_42 : decode cX3_search 42 = .ok (.iload_n 1, 1) := by decide +kernel
theorem dX3_search_43 : decode cX3_search 43 = .ok (.iload_n 2, 1) := by decide +kernel
theorem dX3_search_44 : decode cX3_search 44 = .ok (.invokevirtual 91, 3) := by decide +kernel
theorem dX3_search_47 : decode cX3_search 47 = .ok (.aload_n 0, 1) := by decide +kernel
theorem dX3_search_48 : decode cX3_search 48 = .ok (.getfield 10, 3) := by decide +kernel
theorem dX3_search_51 : decode cX3_search 51 = .ok (.aload_n 0, 1) := by decide +kernel
theorem dX3_search_52 : decode cX3_search 52 = .ok (.getfield 10, 3) := by decide +kernel
theorem dX3_search_55 : decode cX3_search 55 = .ok (.getfield 95, 3) := by decide +kernel
theorem dX3_search_58 : decode cX3_search 58 = .ok (.iload_n 2, 1) := by decide +kernel
theorem dX3_search_59 : decode cX3_search 59 = .ok (.invokevirtual 99, 3) := by decide +kernel
theorem dX3_search_62 : decode cX3_search 62 = .ok (.ireturn, 1) := by decide +kernel
theorem dX3_addText_0 : decode cX3_addText 0 = .ok (.aload_n 0, 1) := by decide +kernel
theorem dX3_addText_1 : decode cX3_addText 1 = .ok (.getfield 29, 3) := by decide +kernel
theorem dX3_addText_4 : decode cX3_addText 4 = .ok (.invokevirtual 110, 3) := by decide +kernel
theorem dX3_addText_7 : decode cX3_addText 7 = .ok (.istore_n 1, 1) := by decide +kernel
theorem dX3_addText_8 : decode cX3_addText 8 = .ok (.iload_n 1, 1) := by decide +kernel
theorem dX3_addText_9 : decode cX3_addText 9 = .ok (.iconst (-1), 1) := by decide +kernel
theorem dX3_addText_10 : decode cX3_addText 10 = .ok (.if_icmp .eq 8, 3) := by decide +kernel
theorem dX3_addText_13 : decode cX3_addText 13 = .ok (.bipush (-100), 2) := by decide +kernel
theorem dX3_addText_15 : decode cX3_addText 15 = .ok (.iload_n 1, 1) := by decide +kernel
theorem dX3_addText_16 : decode cX3_addText 16 = .ok (.isub, 1) := by decide +kernel
theorem dX3_addText_17 : decode cX3_addText 17 = .ok (.ireturn, 1) := by decide +kernel
theorem dX3_addText_18 : decode cX3_addText 18 = .ok (.aload_n 0, 1) := by decide +kernel
theorem dX3_addText_19 : decode cX3_addText 19 = .ok (.getfield 29, 3) := by decide +kernel
theorem dX3_addText_22 : decode cX3_addText 22 = .ok (.getfield 113, 3) := by decide +kernel
theorem dX3_addText_25 : decode cX3_addText 25 = .ok (.istore_n 2, 1) := by decide +kernel
theorem dX3_addText_26 : decode cX3_addText 26 = .ok (.aload_n 0, 1) := by decide +kernel
theorem dX3_addText_27 : decode cX3_addText 27 = .ok (.getfield 10, 3) := by decide +kernel
theorem dX3_addText_30 : decode cX3_addText 30 = .ok (.invokevirtual 47, 3) := by decide +kernel
theorem dX3_addText_33 : decode cX3_addText 33 = .ok (.iload_n 2, 1) := by decide +kernel
theorem dX3_addText_34 : decode cX3_addText 34 = .ok (.if_icmp .ge 6, 3) := by decide +kernel
theorem dX3_addText_37 : decode cX3_addText 37 = .ok (.bipush (-3), 2) := by decide +kernel
theorem dX3_addText_39 : decode cX3_addText 39 = .ok (.ireturn, 1) := by decide +kernel
theorem dX3_addText_40 : decode cX3_addText 40 = .ok (.aload_n 0, 1) := by decide +kernel
theorem dX3_addText_41 : decode cX3_addText 41 = .ok (.getfield 22, 3) := by decide +kernel
theorem dX3_addText_44 : decode cX3_addText 44 = .ok (.aload_n 0, 1) := by decide +kernel
theorem dX3_addText_45 : decode cX3_addText 45 = .ok (.getfield 10, 3) := by decide +kernel
theorem dX3_addText_48 : decode cX3_addText 48 = .ok (.invokevirtual 51, 3) := by decide +kernel
theorem dX3_addText_51 : decode cX3_addText 51 = .ok (.iconst 0, 1) := by decide +kernel
theorem dX3_addText_52 : decode cX3_addText 52 = .ok (.istore_n 3, 1) := by decide +kernel
theorem dX3_addText_53 : decode cX3_addText 53 = .ok (.iload_n 3, 1) := by decide +kernel
theorem dX3_addText_54 : decode cX3_addText 54 = .ok (.iload_n 2, 1) := by decide +kernel
theorem dX3_addText_55 : decode cX3_addText 55 = .ok (.if_icmp .ge 58, 3) := by decide +kernel
theorem dX3_addText_58 : decode cX3_addText 58 = .ok (.iload_n 3, 1) := by decide +kernel
theorem dX3_addText_59 : decode cX3_addText 59 = .ok (.iconst 5, 1) := by decide +kernel
theorem dX3_addText_60 : decode cX3_addText 60 = .ok (.if_icmp .ge 53, 3) := by decide +kernel
theorem dX3_addText_63 : decode cX3_addText 63 = .ok (.aload_n 0, 1) := by decide +kernel
theorem dX3_addText_64 : decode cX3_addText 64 = .ok (.getfield 10, 3) := by decide +kernel
theorem dX3_addText_67 : decode cX3_addText 67 = .ok (.aload_n 0, 1) := by decide +kernel
theorem dX3_addText_68 : decode cX3_addText 68 = .ok (.getfield 29, 3) := by decide +kernel
theorem dX3_addText_71 : decode cX3_addText 71 = .ok (.getfield 116, 3) := by decide +kernel
theorem dX3_addText_74 : decode cX3_addText 74 = .ok (.iload_n 3, 1) := by decide +kernel
theorem dX3_addText_75 : decode cX3_addText 75 = .ok (.iaload, 1) := by decide +kernel
theorem dX3_addText_76 : decode cX3_addText 76 = .ok (.aload_n 0, 1) := by decide +kernel
theorem dX3_addText_77 : decode cX3_addText 77 = .ok (.getfield 29, 3) := by decide +kernel
theorem dX3_addText_80 : decode cX3_addText 80 = .ok (.getfield 119, 3) := by decide +kernel
theorem dX3_addText_83 : decode cX3_addText 83 = .ok (.iload_n 3, 1) := by decide +kernel
theorem dX3_addText_84 : decode cX3_addText 84 = .ok (.iaload, 1) := by decide +kernel
theorem dX3_addText_85 : decode cX3_addText 85 = .ok (.aload_n 0, 1) := by decide +kernel
theorem dX3_addText_86 : decode cX3_addText 86 = .ok (.getfield 29, 3) := by decide +kernel
theorem dX3_addText_89 : decode cX3_addText 89 = .ok (.getfield 122, 3) := by decide +kernel
theorem dX3_addText_92 : decode cX3_addText 92 = .ok (.iload_n 3, 1) := by decide +kernel
theorem dX3_addText_93 : decode cX3_addText 93 = .ok (.iaload, 1) := by decide +kernel
theorem dX3_addText_94 : decode cX3_addText 94 = .ok (.aload_n 0, 1) := by decide +kernel
theorem dX3_addText_95 : decode cX3_addText 95 = .ok (.getfield 29, 3) := by decide +kernel
theorem dX3_addText_98 : decode cX3_addText 98 = .ok (.getfield 125, 3) := by decide +kernel
theorem dX3_addText_101 : decode cX3_addText 101 = .ok (.iload_n 3, 1) := by decide +kernel
theorem dX3_addText_102 : decode cX3_addText 102 = .ok (.iaload, 1) := by decide +kernel
theorem dX3_addText_103 : decode cX3_addText 103 = .ok (.invokevirtual 55, 3) := by decide +kernel
theorem dX3_addText_106 : decode cX3_addText 106 = .ok (.pop, 1) := by decide +kernel
theorem dX3_addText_107 : decode cX3_addText 107 = .ok (.iinc 3 1, 3) := by decide +kernel
theorem dX3_addText_110 : decode cX3_addText 110 = .ok (.goto (-57), 3) := by decide +kernel
theorem dX3_addText_113 : decode cX3_addText 113 = .ok (.iload_n 2, 1) := by decide +kernel
theorem dX3_addText_114 : decode cX3_addText 114 = .ok (.ireturn, 1) := by decide +kernel
theorem dX3_undo_0 : decode cX3_undo 0 = .ok (.aload_n 0, 1) := by decide +kernel
theorem dX3_undo_1 : decode cX3_undo 1 = .ok (.getfield 22, 3) := by decide +kernel
theorem dX3_undo_4 : decode cX3_undo 4 = .ok (.getfield 128, 3) := by decide +kernel
theorem dX3_undo_7 : decode cX3_undo 7 = .ok (.ifCond .ne 6, 3) := by decide +kernel
theorem dX3_undo_10 : decode cX3_undo 10 = .ok (.bipush (-4), 2) := by decide +kernel
theorem dX3_undo_12 : decode cX3_undo 12 = .ok (.ireturn, 1) := by decide +kernel
theorem dX3_undo_13 : decode cX3_undo 13 = .ok (.aload_n 0, 1) := by decide +kernel
theorem dX3_undo_14 : decode cX3_undo 14 = .ok (.getfield 22, 3) := by decide +kernel
theorem dX3_undo_17 : decode cX3_undo 17 = .ok (.aload_n 0, 1) := by decide +kernel
theorem dX3_undo_18 : decode cX3_undo 18 = .ok (.getfield 10, 3) := by decide +kernel
theorem dX3_undo_21 : decode cX3_undo 21 = .ok (.invokevirtual 131, 3) := by decide +kernel
theorem dX3_undo_24 : decode cX3_undo 24 = .ok (.aload_n 0, 1) := by decide +kernel
theorem dX3_undo_25 : decode cX3_undo 25 = .ok (.getfield 22, 3) := by decide +kernel
theorem dX3_undo_28 : decode cX3_undo 28 = .ok (.getfield 128, 3) := by decide +kernel
theorem dX3_undo_31 : decode cX3_undo 31 = .ok (.ireturn, 1) := by decide +kernel
theorem dX3_keep_0 : decode cX3_keep 0 = .ok (.aload_n 0, 1) := by decide +kernel
theorem dX3_keep_1 : decode cX3_keep 1 = .ok (.getfield 10, 3) := by decide +kernel
theorem dX3_keep_4 : decode cX3_keep 4 = .ok (.aload_n 0, 1) := by decide +kernel
theorem dX3_keep_5 : decode cX3_keep 5 = .ok (.getfield 16, 3) := by decide +kernel
theorem dX3_keep_8 : decode cX3_keep 8 = .ok (.invokestatic 134, 3) := by decide +kernel
theorem dX3_keep_11 : decode cX3_keep 11 = .ok (.aload_n 0, 1) := by decide +kernel
theorem dX3_keep_12 : decode cX3_keep 12 = .ok (.iconst 1, 1) := by decide +kernel
theorem dX3_keep_13 : decode cX3_keep 13 = .ok (.putfield 33, 3) := by decide +kernel
theorem dX3_keep_16 : decode cX3_keep 16 = .ok (.aload_n 0, 1) := by decide +kernel
theorem dX3_keep_17 : decode cX3_keep 17 = .ok (.getfield 10, 3) := by decide +kernel
theorem dX3_keep_20 : decode cX3_keep 20 = .ok (.invokevirtual 85, 3) := by decide +kernel
theorem dX3_keep_23 : decode cX3_keep 23 = .ok (.ireturn, 1) := by decide +kernel
theorem dX3_restore_0 : decode cX3_restore 0 = .ok (.aload_n 0, 1) := by decide +kernel
theorem dX3_restore_1 : decode cX3_restore 1 = .ok (.getfield 33, 3) := by decide +kernel
theorem dX3_restore_4 : decode cX3_restore 4 = .ok (.ifCond .ne 6, 3) := by decide +kernel
theorem dX3_restore_7 : decode cX3_restore 7 = .ok (.bipush (-4), 2) := by decide +kernel
theorem dX3_restore_9 : decode cX3_restore 9 = .ok (.ireturn, 1) := by decide +kernel
theorem dX3_restore_10 : decode cX3_restore 10 = .ok (.aload_n 0, 1) := by decide +kernel
theorem dX3_restore_11 : decode cX3_restore 11 = .ok (.getfield 22, 3) := by decide +kernel
theorem dX3_restore_14 : decode cX3_restore 14 = .ok (.aload_n 0, 1) := by decide +kernel
theorem dX3_restore_15 : decode cX3_restore 15 = .ok (.getfield 10, 3) := by decide +kernel
theorem dX3_restore_18 : decode cX3_restore 18 = .ok (.invokevirtual 51, 3) := by decide +kernel
theorem dX3_restore_21 : decode cX3_restore 21 = .ok (.aload_n 0, 1) := by decide +kernel
theorem dX3_restore_22 : decode cX3_restore 22 = .ok (.getfield 16, 3) := by decide +kernel
theorem dX3_restore_25 : decode cX3_restore 25 = .ok (.aload_n 0, 1) := by decide +kernel
theorem dX3_restore_26 : decode cX3_restore 26 = .ok (.getfield 10, 3) := by decide +kernel
theorem dX3_restore_29 : decode cX3_restore 29 = .ok (.invokestatic 134, 3) := by decide +kernel
theorem dX3_restore_32 : decode cX3_restore 32 = .ok (.aload_n 0, 1) := by decide +kernel
theorem dX3_restore_33 : decode cX3_restore 33 = .ok (.getfield 10, 3) := by decide +kernel
theorem dX3_restore_36 : decode cX3_restore 36 = .ok (.invokevirtual 85, 3) := by decide +kernel
theorem dX3_restore_39 : decode cX3_restore 39 = .ok (.ireturn, 1) := by decide +kernel
theorem dX3_ruleIn_0 : decode cX3_ruleIn 0 = .ok (.aload_n 0, 1) := by decide +kernel
theorem dX3_ruleIn_1 : decode cX3_ruleIn 1 = .ok (.getfield 10, 3) := by decide +kernel
theorem dX3_ruleIn_4 : decode cX3_ruleIn 4 = .ok (.aload_n 0, 1) := by decide +kernel
theorem dX3_ruleIn_5 : decode cX3_ruleIn 5 = .ok (.getfield 10, 3) := by decide +kernel
theorem dX3_ruleIn_8 : decode cX3_ruleIn 8 = .ok (.getfield 138, 3) := by decide +kernel
theorem dX3_ruleIn_11 : decode cX3_ruleIn 11 = .ok (.iload_n 1, 1) := by decide +kernel
theorem dX3_ruleIn_12 : decode cX3_ruleIn 12 = .ok (.invokevirtual 99, 3) := by decide +kernel
theorem dX3_ruleIn_15 : decode cX3_ruleIn 15 = .ok (.ireturn, 1) := by decide +kernel
theorem dX3_maskIn_0 : decode cX3_maskIn 0 = .ok (.aload_n 0, 1) := by decide +kernel
theorem dX3_maskIn_1 : decode cX3_maskIn 1 = .ok (.getfield 10, 3) := by decide +kernel
theorem dX3_maskIn_4 : decode cX3_maskIn 4 = .ok (.aload_n 0, 1) := by decide +kernel
theorem dX3_maskIn_5 : decode cX3_maskIn 5 = .ok (.getfield 10, 3) := by decide +kernel
theorem dX3_maskIn_8 : decode cX3_maskIn 8 = .ok (.getfield 141, 3) := by decide +kernel
theorem dX3_maskIn_11 : decode cX3_maskIn 11 = .ok (.iload_n 1, 1) := by decide +kernel
theorem dX3_maskIn_12 : decode cX3_maskIn 12 = .ok (.invokevirtual 99, 3) := by decide +kernel
theorem dX3_maskIn_15 : decode cX3_maskIn 15 = .ok (.ireturn, 1) := by decide +kernel
theorem dX3_valueIn_0 : decode cX3_valueIn 0 = .ok (.aload_n 0, 1) := by decide +kernel
theorem dX3_valueIn_1 : decode cX3_valueIn 1 = .ok (.getfield 10, 3) := by decide +kernel
theorem dX3_valueIn_4 : decode cX3_valueIn 4 = .ok (.aload_n 0, 1) := by decide +kernel
theorem dX3_valueIn_5 : decode cX3_valueIn 5 = .ok (.getfield 10, 3) := by decide +kernel
theorem dX3_valueIn_8 : decode cX3_valueIn 8 = .ok (.getfield 144, 3) := by decide +kernel
theorem dX3_valueIn_11 : decode cX3_valueIn 11 = .ok (.iload_n 1, 1) := by decide +kernel
theorem dX3_valueIn_12 : decode cX3_valueIn 12 = .ok (.invokevirtual 99, 3) := by decide +kernel
theorem dX3_valueIn_15 : decode cX3_valueIn 15 = .ok (.ireturn, 1) := by decide +kernel
theorem dX3_sortIn_0 : decode cX3_sortIn 0 = .ok (.aload_n 0, 1) := by decide +kernel
theorem dX3_sortIn_1 : decode cX3_sortIn 1 = .ok (.getfield 10, 3) := by decide +kernel
theorem dX3_sortIn_4 : decode cX3_sortIn 4 = .ok (.aload_n 0, 1) := by decide +kernel
theorem dX3_sortIn_5 : decode cX3_sortIn 5 = .ok (.getfield 10, 3) := by decide +kernel
theorem dX3_sortIn_8 : decode cX3_sortIn 8 = .ok (.getfield 141, 3) := by decide +kernel
theorem dX3_sortIn_11 : decode cX3_sortIn 11 = .ok (.iload_n 1, 1) := by decide +kernel
theorem dX3_sortIn_12 : decode cX3_sortIn 12 = .ok (.invokevirtual 99, 3) := by decide +kernel
theorem dX3_sortIn_15 : decode cX3_sortIn 15 = .ok (.istore_n 2, 1) := by decide +kernel
theorem dX3_sortIn_16 : decode cX3_sortIn 16 = .ok (.iload_n 2, 1) := by decide +kernel
theorem dX3_sortIn_17 : decode cX3_sortIn 17 = .ok (.ifCond .ge 7, 3) := by decide +kernel
theorem dX3_sortIn_20 : decode cX3_sortIn 20 = .ok (.iload_n 2, 1) := by decide +kernel
theorem dX3_sortIn_21 : decode cX3_sortIn 21 = .ok (.goto 7, 3) := by decide +kernel
theorem dX3_sortIn_24 : decode cX3_sortIn 24 = .ok (.iload_n 2, 1) := by decide +kernel
theorem dX3_sortIn_25 : decode cX3_sortIn 25 = .ok (.invokestatic 147, 3) := by decide +kernel
theorem dX3_sortIn_28 : decode cX3_sortIn 28 = .ok (.ireturn, 1) := by decide +kernel
theorem dX3_slotOf_0 : decode cX3_slotOf 0 = .ok (.aload_n 0, 1) := by decide +kernel
theorem dX3_slotOf_1 : decode cX3_slotOf 1 = .ok (.getfield 10, 3) := by decide +kernel
theorem dX3_slotOf_4 : decode cX3_slotOf 4 = .ok (.iload_n 1, 1) := by decide +kernel
theorem dX3_slotOf_5 : decode cX3_slotOf 5 = .ok (.iload_n 2, 1) := by decide +kernel
theorem dX3_slotOf_6 : decode cX3_slotOf 6 = .ok (.invokevirtual 150, 3) := by decide +kernel
theorem dX3_slotOf_9 : decode cX3_slotOf 9 = .ok (.istore_n 3, 1) := by decide +kernel
theorem dX3_slotOf_10 : decode cX3_slotOf 10 = .ok (.iload_n 3, 1) := by decide +kernel
theorem dX3_slotOf_11 : decode cX3_slotOf 11 = .ok (.iconst (-1), 1) := by decide +kernel
theorem dX3_slotOf_12 : decode cX3_slotOf 12 = .ok (.if_icmp .ne 7, 3) := by decide +kernel
theorem dX3_slotOf_15 : decode cX3_slotOf 15 = .ok (.iconst (-1), 1) := by decide +kernel
theorem dX3_slotOf_16 : decode cX3_slotOf 16 = .ok (.goto 4, 3) := by decide +kernel
theorem dX3_slotOf_19 : decode cX3_slotOf 19 = .ok (.iload_n 3, 1) := by decide +kernel
theorem dX3_slotOf_20 : decode cX3_slotOf 20 = .ok (.ireturn, 1) := by decide +kernel
theorem dX3_parts_0 : decode cX3_parts 0 = .ok (.aload_n 0, 1) := by decide +kernel
theorem dX3_parts_1 : decode cX3_parts 1 = .ok (.getfield 10, 3) := by decide +kernel
theorem dX3_parts_4 : decode cX3_parts 4 = .ok (.iload_n 1, 1) := by decide +kernel
theorem dX3_parts_5 : decode cX3_parts 5 = .ok (.invokevirtual 70, 3) := by decide +kernel
theorem dX3_parts_8 : decode cX3_parts 8 = .ok (.istore_n 2, 1) := by decide +kernel
theorem dX3_parts_9 : decode cX3_parts 9 = .ok (.iload_n 2, 1) := by decide +kernel
theorem dX3_parts_10 : decode cX3_parts 10 = .ok (.ifCond .ne 7, 3) := by decide +kernel
theorem dX3_parts_13 : decode cX3_parts 13 = .ok (.iconst (-1), 1) := by decide +kernel
theorem dX3_parts_14 : decode cX3_parts 14 = .ok (.goto 4, 3) := by decide +kernel
theorem dX3_parts_17 : decode cX3_parts 17 = .ok (.iload_n 2, 1) := by decide +kernel
theorem dX3_parts_18 : decode cX3_parts 18 = .ok (.ireturn, 1) := by decide +kernel
theorem dX3_rank_0 : decode cX3_rank 0 = .ok (.aload_n 0, 1) := by decide +kernel
theorem dX3_rank_1 : decode cX3_rank 1 = .ok (.getfield 10, 3) := by decide +kernel
theorem dX3_rank_4 : decode cX3_rank 4 = .ok (.aload_n 0, 1) := by decide +kernel
theorem dX3_rank_5 : decode cX3_rank 5 = .ok (.getfield 10, 3) := by decide +kernel
theorem dX3_rank_8 : decode cX3_rank 8 = .ok (.getfield 153, 3) := by decide +kernel
theorem dX3_rank_11 : decode cX3_rank 11 = .ok (.aload_n 0, 1) := by decide +kernel
theorem dX3_rank_12 : decode cX3_rank 12 = .ok (.getfield 10, 3) := by decide +kernel
theorem dX3_rank_15 : decode cX3_rank 15 = .ok (.iload_n 1, 1) := by decide +kernel
theorem dX3_rank_16 : decode cX3_rank 16 = .ok (.iconst 0, 1) := by decide +kernel
theorem dX3_rank_17 : decode cX3_rank 17 = .ok (.invokevirtual 150, 3) := by decide +kernel
theorem dX3_rank_20 : decode cX3_rank 20 = .ok (.invokevirtual 99, 3) := by decide +kernel
theorem dX3_rank_23 : decode cX3_rank 23 = .ok (.ireturn, 1) := by decide +kernel
theorem dX3_action_0 : decode cX3_action 0 = .ok (.aload_n 0, 1) := by decide +kernel
theorem dX3_action_1 : decode cX3_action 1 = .ok (.getfield 10, 3) := by decide +kernel
theorem dX3_action_4 : decode cX3_action 4 = .ok (.aload_n 0, 1) := by decide +kernel
theorem dX3_action_5 : decode cX3_action 5 = .ok (.getfield 10, 3) := by decide +kernel
theorem dX3_action_8 : decode cX3_action 8 = .ok (.getfield 95, 3) := by decide +kernel
theorem dX3_action_11 : decode cX3_action 11 = .ok (.aload_n 0, 1) := by decide +kernel
theorem dX3_action_12 : decode cX3_action 12 = .ok (.getfield 10, 3) := by decide +kernel
theorem dX3_action_15 : decode cX3_action 15 = .ok (.iload_n 1, 1) := by decide +kernel
theorem dX3_action_16 : decode cX3_action 16 = .ok (.iconst 0, 1) := by decide +kernel
theorem dX3_action_17 : decode cX3_action 17 = .ok (.invokevirtual 150, 3) := by decide +kernel
theorem dX3_action_20 : decode cX3_action 20 = .ok (.invokevirtual 99, 3) := by decide +kernel
theorem dX3_action_23 : decode cX3_action 23 = .ok (.ireturn, 1) := by decide +kernel
theorem dX3_hits_0 : decode cX3_hits 0 = .ok (.aload_n 0, 1) := by decide +kernel
theorem dX3_hits_1 : decode cX3_hits 1 = .ok (.getfield 10, 3) := by decide +kernel
theorem dX3_hits_4 : decode cX3_hits 4 = .ok (.aload_n 0, 1) := by decide +kernel
theorem dX3_hits_5 : decode cX3_hits 5 = .ok (.getfield 10, 3) := by decide +kernel
theorem dX3_hits_8 : decode cX3_hits 8 = .ok (.getfield 156, 3) := by decide +kernel
theorem dX3_hits_11 : decode cX3_hits 11 = .ok (.aload_n 0, 1) := by decide +kernel
theorem dX3_hits_12 : decode cX3_hits 12 = .ok (.getfield 10, 3) := by decide +kernel
theorem dX3_hits_15 : decode cX3_hits 15 = .ok (.iload_n 1, 1) := by decide +kernel
theorem dX3_hits_16 : decode cX3_hits 16 = .ok (.iconst 0, 1) := by decide +kernel
theorem dX3_hits_17 : decode cX3_hits 17 = .ok (.invokevirtual 150, 3) := by decide +kernel
theorem dX3_hits_20 : decode cX3_hits 20 = .ok (.invokevirtual 99, 3) := by decide +kernel
theorem dX3_hits_23 : decode cX3_hits 23 = .ok (.ireturn, 1) := by decide +kernel
theorem dX3_find_0 : decode cX3_find 0 = .ok (.iload_n 1, 1) := by decide +kernel
theorem dX3_find_1 : decode cX3_find 1 = .ok (.invokestatic 37, 3) := by decide +kernel
theorem dX3_find_4 : decode cX3_find 4 = .ok (.ifCond .ne 6, 3) := by decide +kernel
theorem dX3_find_7 : decode cX3_find 7 = .ok (.bipush (-2), 2) := by decide +kernel
theorem dX3_find_9 : decode cX3_find 9 = .ok (.ireturn, 1) := by decide +kernel
theorem dX3_find_10 : decode cX3_find 10 = .ok (.aload_n 0, 1) := by decide +kernel
theorem dX3_find_11 : decode cX3_find 11 = .ok (.getfield 10, 3) := by decide +kernel
theorem dX3_find_14 : decode cX3_find 14 = .ok (.iload_n 1, 1) := by decide +kernel
theorem dX3_find_15 : decode cX3_find 15 = .ok (.invokevirtual 88, 3) := by decide +kernel
theorem dX3_find_18 : decode cX3_find 18 = .ok (.istore_n 2, 1) := by decide +kernel
theorem dX3_find_19 : decode cX3_find 19 = .ok (.iload_n 2, 1) := by decide +kernel
theorem dX3_find_20 : decode cX3_find 20 = .ok (.iconst (-1), 1) := by decide +kernel
theorem dX3_find_21 : decode cX3_find 21 = .ok (.if_icmp .ne 8, 3) := by decide +kernel
theorem dX3_find_24 : decode cX3_find 24 = .ok (.bipush (-4), 2) := by decide +kernel
theorem dX3_find_26 : decode cX3_find 26 = .ok (.goto 18, 3) := by decide +kernel
theorem dX3_find_29 : decode cX3_find 29 = .ok (.aload_n 0, 1) := by decide +kernel
theorem dX3_find_30 : decode cX3_find 30 = .ok (.getfield 10, 3) := by decide +kernel
theorem dX3_find_33 : decode cX3_find 33 = .ok (.aload_n 0, 1) := by decide +kernel
theorem dX3_find_34 : decode cX3_find 34 = .ok (.getfield 10, 3) := by decide +kernel
theorem dX3_find_37 : decode cX3_find 37 = .ok (.getfield 138, 3) := by decide +kernel
theorem dX3_find_40 : decode cX3_find 40 = .ok (.iload_n 2, 1) := by decide +kernel
theorem dX3_find_41 : decode cX3_find 41 = .ok (.invokevirtual 99, 3) := by decide +kernel
theorem dX3_find_44 : decode cX3_find 44 = .ok (.ireturn, 1) := by decide +kernel
theorem dX3_power_0 : decode cX3_power 0 = .ok (.iload_n 1, 1) := by decide +kernel
theorem dX3_power_1 : decode cX3_power 1 = .ok (.invokestatic 37, 3) := by decide +kernel
theorem dX3_power_4 : decode cX3_power 4 = .ok (.ifCond .eq 14, 3) := by decide +kernel
theorem dX3_power_7 : decode cX3_power 7 = .ok (.aload_n 0, 1) := by decide +kernel
theorem dX3_power_8 : decode cX3_power 8 = .ok (.getfield 10, 3) := by decide +kernel
theorem dX3_power_11 : decode cX3_power 11 = .ok (.iload_n 1, 1) := by decide +kernel
theorem dX3_power_12 : decode cX3_power 12 = .ok (.invokevirtual 159, 3) := by decide +kernel
theorem dX3_power_15 : decode cX3_power 15 = .ok (.goto 5, 3) := by decide +kernel
theorem dX3_power_18 : decode cX3_power 18 = .ok (.bipush (-2), 2) := by decide +kernel
theorem dX3_power_20 : decode cX3_power 20 = .ok (.ireturn, 1) := by decide +kernel
theorem dX3_filterMask_0 : decode cX3_filterMask 0 = .ok (.iload_n 1, 1) := by decide +kernel
theorem dX3_filterMask_1 : decode cX3_filterMask 1 = .ok (.invokestatic 162, 3) := by decide +kernel
theorem dX3_filterMask_4 : decode cX3_filterMask 4 = .ok (.ifCond .eq 14, 3) := by decide +kernel
theorem dX3_filterMask_7 : decode cX3_filterMask 7 = .ok (.aload_n 0, 1) := by decide +kernel
theorem dX3_filterMask_8 : decode cX3_filterMask 8 = .ok (.getfield 10, 3) := by decide +kernel
theorem dX3_filterMask_11 : decode cX3_filterMask 11 = .ok (.iload_n 1, 1) := by decide +kernel
theorem dX3_filterMask_12 : decode cX3_filterMask 12 = .ok (.invokevirtual 165, 3) := by decide +kernel
theorem dX3_filterMask_15 : decode cX3_filterMask 15 = .ok (.goto 4, 3) := by decide +kernel
theorem dX3_filterMask_18 : decode cX3_filterMask 18 = .ok (.iconst (-1), 1) := by decide +kernel
theorem dX3_filterMask_19 : decode cX3_filterMask 19 = .ok (.ireturn, 1) := by decide +kernel
theorem dX3_filterValue_0 : decode cX3_filterValue 0 = .ok (.iload_n 1, 1) := by decide +kernel
theorem dX3_filterValue_1 : decode cX3_filterValue 1 = .ok (.invokestatic 162, 3) := by decide +kernel
theorem dX3_filterValue_4 : decode cX3_filterValue 4 = .ok (.ifCond .eq 14, 3) := by decide +kernel
theorem dX3_filterValue_7 : decode cX3_filterValue 7 = .ok (.aload_n 0, 1) := by decide +kernel
theorem dX3_filterValue_8 : decode cX3_filterValue 8 = .ok (.getfield 10, 3) := by decide +kernel
theorem dX3_filterValue_11 : decode cX3_filterValue 11 = .ok (.iload_n 1, 1) := by decide +kernel
theorem dX3_filterValue_12 : decode cX3_filterValue 12 = .ok (.invokevirtual 168, 3) := by decide +kernel
theorem dX3_filterValue_15 : decode cX3_filterValue 15 = .ok (.goto 4, 3) := by decide +kernel
theorem dX3_filterValue_18 : decode cX3_filterValue 18 = .ok (.iconst (-1), 1) := by decide +kernel
theorem dX3_filterValue_19 : decode cX3_filterValue 19 = .ok (.ireturn, 1) := by decide +kernel
theorem dX3_hiddenBy_0 : decode cX3_hiddenBy 0 = .ok (.iload_n 1, 1) := by decide +kernel
theorem dX3_hiddenBy_1 : decode cX3_hiddenBy 1 = .ok (.invokestatic 171, 3) := by decide +kernel
theorem dX3_hiddenBy_4 : decode cX3_hiddenBy 4 = .ok (.ifCond .ne 5, 3) := by decide +kernel
theorem dX3_hiddenBy_7 : decode cX3_hiddenBy 7 = .ok (.iconst (-1), 1) := by decide +kernel
theorem dX3_hiddenBy_8 : decode cX3_hiddenBy 8 = .ok (.ireturn, 1) := by decide +kernel
theorem dX3_hiddenBy_9 : decode cX3_hiddenBy 9 = .ok (.aload_n 0, 1) := by decide +kernel
theorem dX3_hiddenBy_10 : decode cX3_hiddenBy 10 = .ok (.getfield 10, 3) := by decide +kernel
theorem dX3_hiddenBy_13 : decode cX3_hiddenBy 13 = .ok (.iload_n 1, 1) := by decide +kernel
theorem dX3_hiddenBy_14 : decode cX3_hiddenBy 14 = .ok (.invokevirtual 174, 3) := by decide +kernel
theorem dX3_hiddenBy_17 : decode cX3_hiddenBy 17 = .ok (.istore_n 2, 1) := by decide +kernel
theorem dX3_hiddenBy_18 : decode cX3_hiddenBy 18 = .ok (.iload_n 2, 1) := by decide +kernel
theorem dX3_hiddenBy_19 : decode cX3_hiddenBy 19 = .ok (.iconst (-1), 1) := by decide +kernel
theorem dX3_hiddenBy_20 : decode cX3_hiddenBy 20 = .ok (.if_icmp .ne 8, 3) := by decide +kernel
theorem dX3_hiddenBy_23 : decode cX3_hiddenBy 23 = .ok (.bipush (-4), 2) := by decide +kernel
theorem dX3_hiddenBy_25 : decode cX3_hiddenBy 25 = .ok (.goto 4, 3) := by decide +kernel
theorem dX3_hiddenBy_28 : decode cX3_hiddenBy 28 = .ok (.iload_n 2, 1) := by decide +kernel
theorem dX3_hiddenBy_29 : decode cX3_hiddenBy 29 = .ok (.ireturn, 1) := by decide +kernel
theorem dX3_keysFor_0 : decode cX3_keysFor 0 = .ok (.iload_n 1, 1) := by decide +kernel
theorem dX3_keysFor_1 : decode cX3_keysFor 1 = .ok (.invokestatic 171, 3) := by decide +kernel
theorem dX3_keysFor_4 : decode cX3_keysFor 4 = .ok (.ifCond .eq 14, 3) := by decide +kernel
theorem dX3_keysFor_7 : decode cX3_keysFor 7 = .ok (.aload_n 0, 1) := by decide +kernel
theorem dX3_keysFor_8 : decode cX3_keysFor 8 = .ok (.getfield 10, 3) := by decide +kernel
theorem dX3_keysFor_11 : decode cX3_keysFor 11 = .ok (.iload_n 1, 1) := by decide +kernel
theorem dX3_keysFor_12 : decode cX3_keysFor 12 = .ok (.invokevirtual 177, 3) := by decide +kernel
theorem dX3_keysFor_15 : decode cX3_keysFor 15 = .ok (.goto 4, 3) := by decide +kernel
theorem dX3_keysFor_18 : decode cX3_keysFor 18 = .ok (.iconst (-1), 1) := by decide +kernel
theorem dX3_keysFor_19 : decode cX3_keysFor 19 = .ok (.ireturn, 1) := by decide +kernel
theorem dX3_wouldMove_0 : decode cX3_wouldMove 0 = .ok (.iload_n 1, 1) := by decide +kernel
theorem dX3_wouldMove_1 : decode cX3_wouldMove 1 = .ok (.invokestatic 41, 3) := by decide +kernel
theorem dX3_wouldMove_4 : decode cX3_wouldMove 4 = .ok (.ifCond .ne 6, 3) := by decide +kernel
theorem dX3_wouldMove_7 : decode cX3_wouldMove 7 = .ok (.bipush (-2), 2) := by decide +kernel
theorem dX3_wouldMove_9 : decode cX3_wouldMove 9 = .ok (.ireturn, 1) := by decide +kernel
theorem dX3_wouldMove_10 : decode cX3_wouldMove 10 = .ok (.aload_n 0, 1) := by decide +kernel
theorem dX3_wouldMove_11 : decode cX3_wouldMove 11 = .ok (.getfield 10, 3) := by decide +kernel
theorem dX3_wouldMove_14 : decode cX3_wouldMove 14 = .ok (.invokevirtual 47, 3) := by decide +kernel
theorem dX3_wouldMove_17 : decode cX3_wouldMove 17 = .ok (.ifCond .ne 8, 3) := by decide +kernel
theorem dX3_wouldMove_20 : decode cX3_wouldMove 20 = .ok (.bipush (-3), 2) := by decide +kernel
theorem dX3_wouldMove_22 : decode cX3_wouldMove 22 = .ok (.goto 11, 3) := by decide +kernel
theorem dX3_wouldMove_25 : decode cX3_wouldMove 25 = .ok (.aload_n 0, 1) := by decide +kernel
theorem dX3_wouldMove_26 : decode cX3_wouldMove 26 = .ok (.getfield 10, 3) := by decide +kernel
theorem dX3_wouldMove_29 : decode cX3_wouldMove 29 = .ok (.iload_n 1, 1) := by decide +kernel
theorem dX3_wouldMove_30 : decode cX3_wouldMove 30 = .ok (.invokevirtual 180, 3) := by decide +kernel
theorem dX3_wouldMove_33 : decode cX3_wouldMove 33 = .ok (.ireturn, 1) := by decide +kernel
theorem dX3_entriesFor_0 : decode cX3_entriesFor 0 = .ok (.iload_n 1, 1) := by decide +kernel
theorem dX3_entriesFor_1 : decode cX3_entriesFor 1 = .ok (.iload_n 2, 1) := by decide +kernel
theorem dX3_entriesFor_2 : decode cX3_entriesFor 2 = .ok (.invokestatic 59, 3) := by decide +kernel
theorem dX3_entriesFor_5 : decode cX3_entriesFor 5 = .ok (.ifCond .eq 11, 3) := by decide +kernel
theorem dX3_entriesFor_8 : decode cX3_entriesFor 8 = .ok (.iload_n 1, 1) := by decide +kernel
theorem dX3_entriesFor_9 : decode cX3_entriesFor 9 = .ok (.iload_n 2, 1) := by decide +kernel
theorem dX3_entriesFor_10 : decode cX3_entriesFor 10 = .ok (.invokestatic 63, 3) := by decide +kernel
theorem dX3_entriesFor_13 : decode cX3_entriesFor 13 = .ok (.goto 5, 3) := by decide +kernel
theorem dX3_entriesFor_16 : decode cX3_entriesFor 16 = .ok (.bipush (-2), 2) := by decide +kernel
theorem dX3_entriesFor_18 : decode cX3_entriesFor 18 = .ok (.ireturn, 1) := by decide +kernel
theorem dX3_total_0 : decode cX3_total 0 = .ok (.iload_n 1, 1) := by decide +kernel
theorem dX3_total_1 : decode cX3_total 1 = .ok (.tableswitch 148 0 10 #[59, 67, 75, 83, 91, 99, 107, 115, 123, 132, 140], 59) := by decide +kernel
theorem dX3_total_60 : decode cX3_total 60 = .ok (.aload_n 0, 1) := by decide +kernel
theorem dX3_total_61 : decode cX3_total 61 = .ok (.getfield 10, 3) := by decide +kernel
theorem dX3_total_64 : decode cX3_total 64 = .ok (.invokevirtual 85, 3) := by decide +kernel
theorem dX3_total_67 : decode cX3_total 67 = .ok (.ireturn, 1) := by decide +kernel
theorem dX3_total_68 : decode cX3_total 68 = .ok (.aload_n 0, 1) := by decide +kernel
theorem dX3_total_69 : decode cX3_total 69 = .ok (.getfield 10, 3) := by decide +kernel
theorem dX3_total_72 : decode cX3_total 72 = .ok (.invokevirtual 183, 3) := by decide +kernel
theorem dX3_total_75 : decode cX3_total 75 = .ok (.ireturn, 1) := by decide +kernel
theorem dX3_total_76 : decode cX3_total 76 = .ok (.aload_n 0, 1) := by decide +kernel
theorem dX3_total_77 : decode cX3_total 77 = .ok (.getfield 10, 3) := by decide +kernel
theorem dX3_total_80 : decode cX3_total 80 = .ok (.getfield 186, 3) := by decide +kernel
theorem dX3_total_83 : decode cX3_total 83 = .ok (.ireturn, 1) := by decide +kernel
theorem dX3_total_84 : decode cX3_total 84 = .ok (.aload_n 0, 1) := by decide +kernel
theorem dX3_total_85 : decode cX3_total 85 = .ok (.getfield 10, 3) := by decide +kernel
theorem dX3_total_88 : decode cX3_total 88 = .ok (.getfield 78, 3) := by decide +kernel
theorem dX3_total_91 : decode cX3_total 91 = .ok (.ireturn, 1) := by decide +kernel
theorem dX3_total_92 : decode cX3_total 92 = .ok (.aload_n 0, 1) := by decide +kernel
theorem dX3_total_93 : decode cX3_total 93 = .ok (.getfield 10, 3) := by decide +kernel
theorem dX3_total_96 : decode cX3_total 96 = .ok (.getfield 189, 3) := by decide +kernel
theorem dX3_total_99 : decode cX3_total 99 = .ok (.ireturn, 1) := by decide +kernel
theorem dX3_total_100 : decode cX3_total 100 = .ok (.aload_n 0, 1) := by decide +kernel
theorem dX3_total_101 : decode cX3_total 101 = .ok (.getfield 10, 3) := by decide +kernel
theorem dX3_total_104 : decode cX3_total 104 = .ok (.getfield 192, 3) := by decide +kernel
theorem dX3_total_107 : decode cX3_total 107 = .ok (.ireturn, 1) := by decide +kernel
theorem dX3_total_108 : decode cX3_total 108 = .ok (.aload_n 0, 1) := by decide +kernel
theorem dX3_total_109 : decode cX3_total 109 = .ok (.getfield 10, 3) := by decide +kernel
theorem dX3_total_112 : decode cX3_total 112 = .ok (.getfield 195, 3) := by decide +kernel
theorem dX3_total_115 : decode cX3_total 115 = .ok (.ireturn, 1) := by decide +kernel
theorem dX3_total_116 : decode cX3_total 116 = .ok (.aload_n 0, 1) := by decide +kernel
theorem dX3_total_117 : decode cX3_total 117 = .ok (.getfield 10, 3) := by decide +kernel
theorem dX3_total_120 : decode cX3_total 120 = .ok (.invokevirtual 198, 3) := by decide +kernel
theorem dX3_total_123 : decode cX3_total 123 = .ok (.ireturn, 1) := by decide +kernel
theorem dX3_total_124 : decode cX3_total 124 = .ok (.aload_n 0, 1) := by decide +kernel
theorem dX3_total_125 : decode cX3_total 125 = .ok (.getfield 10, 3) := by decide +kernel
theorem dX3_total_128 : decode cX3_total 128 = .ok (.iconst (-1), 1) := by decide +kernel
theorem dX3_total_129 : decode cX3_total 129 = .ok (.invokevirtual 177, 3) := by decide +kernel
theorem dX3_total_132 : decode cX3_total 132 = .ok (.ireturn, 1) := by decide +kernel
theorem dX3_total_133 : decode cX3_total 133 = .ok (.aload_n 0, 1) := by decide +kernel
theorem dX3_total_134 : decode cX3_total 134 = .ok (.getfield 22, 3) := by decide +kernel
theorem dX3_total_137 : decode cX3_total 137 = .ok (.getfield 128, 3) := by decide +kernel
theorem dX3_total_140 : decode cX3_total 140 = .ok (.ireturn, 1) := by decide +kernel
theorem dX3_total_141 : decode cX3_total 141 = .ok (.aload_n 0, 1) := by decide +kernel
theorem dX3_total_142 : decode cX3_total 142 = .ok (.getfield 29, 3) := by decide +kernel
theorem dX3_total_145 : decode cX3_total 145 = .ok (.getfield 107, 3) := by decide +kernel
theorem dX3_total_148 : decode cX3_total 148 = .ok (.ireturn, 1) := by decide +kernel
theorem dX3_total_149 : decode cX3_total 149 = .ok (.bipush (-2), 2) := by decide +kernel
theorem dX3_total_151 : decode cX3_total 151 = .ok (.ireturn, 1) := by decide +kernel
theorem dX3_rearrange_0 : decode cX3_rearrange 0 = .ok (.aload_n 0, 1) := by decide +kernel
theorem dX3_rearrange_1 : decode cX3_rearrange 1 = .ok (.getfield 10, 3) := by decide +kernel
theorem dX3_rearrange_4 : decode cX3_rearrange 4 = .ok (.iload_n 1, 1) := by decide +kernel
theorem dX3_rearrange_5 : decode cX3_rearrange 5 = .ok (.invokevirtual 201, 3) := by decide +kernel
theorem dX3_rearrange_8 : decode cX3_rearrange 8 = .ok (.istore_n 2, 1) := by decide +kernel
theorem dX3_rearrange_9 : decode cX3_rearrange 9 = .ok (.iload_n 2, 1) := by decide +kernel
theorem dX3_rearrange_10 : decode cX3_rearrange 10 = .ok (.ifCond .ne 6, 3) := by decide +kernel
theorem dX3_rearrange_13 : decode cX3_rearrange 13 = .ok (.bipush (-4), 2) := by decide +kernel
theorem dX3_rearrange_15 : decode cX3_rearrange 15 = .ok (.ireturn, 1) := by decide +kernel
theorem dX3_rearrange_16 : decode cX3_rearrange 16 = .ok (.aload_n 0, 1) := by decide +kernel
theorem dX3_rearrange_17 : decode cX3_rearrange 17 = .ok (.getfield 22, 3) := by decide +kernel
theorem dX3_rearrange_20 : decode cX3_rearrange 20 = .ok (.aload_n 0, 1) := by decide +kernel
theorem dX3_rearrange_21 : decode cX3_rearrange 21 = .ok (.getfield 10, 3) := by decide +kernel
theorem dX3_rearrange_24 : decode cX3_rearrange 24 = .ok (.invokevirtual 51, 3) := by decide +kernel
theorem dX3_rearrange_27 : decode cX3_rearrange 27 = .ok (.aload_n 0, 1) := by decide +kernel
theorem dX3_rearrange_28 : decode cX3_rearrange 28 = .ok (.getfield 10, 3) := by decide +kernel
theorem dX3_rearrange_31 : decode cX3_rearrange 31 = .ok (.iload_n 1, 1) := by decide +kernel
theorem dX3_rearrange_32 : decode cX3_rearrange 32 = .ok (.invokevirtual 204, 3) := by decide +kernel
theorem dX3_rearrange_35 : decode cX3_rearrange 35 = .ok (.aload_n 0, 1) := by decide +kernel
theorem dX3_rearrange_36 : decode cX3_rearrange 36 = .ok (.getfield 10, 3) := by decide +kernel
theorem dX3_rearrange_39 : decode cX3_rearrange 39 = .ok (.dup, 1) := by decide +kernel
theorem dX3_rearrange_40 : decode cX3_rearrange 40 = .ok (.getfield 189, 3) := by decide +kernel
theorem dX3_rearrange_43 : decode cX3_rearrange 43 = .ok (.iload_n 2, 1) := by decide +kernel
theorem dX3_rearrange_44 : decode cX3_rearrange 44 = .ok (.iadd, 1) := by decide +kernel
theorem dX3_rearrange_45 : decode cX3_rearrange 45 = .ok (.putfield 189, 3) := by decide +kernel
theorem dX3_rearrange_48 : decode cX3_rearrange 48 = .ok (.iload_n 2, 1) := by decide +kernel
theorem dX3_rearrange_49 : decode cX3_rearrange 49 = .ok (.ireturn, 1) := by decide +kernel
theorem dX3_isSlot_0 : decode cX3_isSlot 0 = .ok (.iload_n 0, 1) := by decide +kernel
theorem dX3_isSlot_1 : decode cX3_isSlot 1 = .ok (.ifCond .lt 13, 3) := by decide +kernel
theorem dX3_isSlot_4 : decode cX3_isSlot 4 = .ok (.iload_n 0, 1) := by decide +kernel
theorem dX3_isSlot_5 : decode cX3_isSlot 5 = .ok (.bipush 32, 2) := by decide +kernel
theorem dX3_isSlot_7 : decode cX3_isSlot 7 = .ok (.if_icmp .ge 7, 3) := by decide +kernel
theorem dX3_isSlot_10 : decode cX3_isSlot 10 = .ok (.iconst 1, 1) := by decide +kernel
theorem dX3_isSlot_11 : decode cX3_isSlot 11 = .ok (.goto 4, 3) := by decide +kernel
theorem dX3_isSlot_14 : decode cX3_isSlot 14 = .ok (.iconst 0, 1) := by decide +kernel
theorem dX3_isSlot_15 : decode cX3_isSlot 15 = .ok (.ireturn, 1) := by decide +kernel
theorem dX3_isBank_0 : decode cX3_isBank 0 = .ok (.iload_n 0, 1) := by decide +kernel
theorem dX3_isBank_1 : decode cX3_isBank 1 = .ok (.ifCond .lt 12, 3) := by decide +kernel
theorem dX3_isBank_4 : decode cX3_isBank 4 = .ok (.iload_n 0, 1) := by decide +kernel
theorem dX3_isBank_5 : decode cX3_isBank 5 = .ok (.iconst 4, 1) := by decide +kernel
theorem dX3_isBank_6 : decode cX3_isBank 6 = .ok (.if_icmp .ge 7, 3) := by decide +kernel
theorem dX3_isBank_9 : decode cX3_isBank 9 = .ok (.iconst 1, 1) := by decide +kernel
theorem dX3_isBank_10 : decode cX3_isBank 10 = .ok (.goto 4, 3) := by decide +kernel
theorem dX3_isBank_13 : decode cX3_isBank 13 = .ok (.iconst 0, 1) := by decide +kernel
theorem dX3_isBank_14 : decode cX3_isBank 14 = .ok (.ireturn, 1) := by decide +kernel
theorem dX3_isKey_0 : decode cX3_isKey 0 = .ok (.iload_n 0, 1) := by decide +kernel
theorem dX3_isKey_1 : decode cX3_isKey 1 = .ok (.ifCond .lt 14, 3) := by decide +kernel
theorem dX3_isKey_4 : decode cX3_isKey 4 = .ok (.iload_n 0, 1) := by decide +kernel
theorem dX3_isKey_5 : decode cX3_isKey 5 = .ok (.sipush 256, 3) := by decide +kernel
theorem dX3_isKey_8 : decode cX3_isKey 8 = .ok (.if_icmp .ge 7, 3) := by decide +kernel
theorem dX3_isKey_11 : decode cX3_isKey 11 = .ok (.iconst 1, 1) := by decide +kernel
theorem dX3_isKey_12 : decode cX3_isKey 12 = .ok (.goto 4, 3) := by decide +kernel
theorem dX3_isKey_15 : decode cX3_isKey 15 = .ok (.iconst 0, 1) := by decide +kernel
theorem dX3_isKey_16 : decode cX3_isKey 16 = .ok (.ireturn, 1) := by decide +kernel
theorem dX3_isRange_0 : decode cX3_isRange 0 = .ok (.iload_n 0, 1) := by decide +kernel
theorem dX3_isRange_1 : decode cX3_isRange 1 = .ok (.invokestatic 37, 3) := by decide +kernel
theorem dX3_isRange_4 : decode cX3_isRange 4 = .ok (.ifCond .eq 19, 3) := by decide +kernel
theorem dX3_isRange_7 : decode cX3_isRange 7 = .ok (.iload_n 1, 1) := by decide +kernel
theorem dX3_isRange_8 : decode cX3_isRange 8 = .ok (.invokestatic 37, 3) := by decide +kernel
theorem dX3_isRange_11 : decode cX3_isRange 11 = .ok (.ifCond .eq 12, 3) := by decide +kernel
theorem dX3_isRange_14 : decode cX3_isRange 14 = .ok (.iload_n 0, 1) := by decide +kernel
theorem dX3_isRange_15 : decode cX3_isRange 15 = .ok (.iload_n 1, 1) := by decide +kernel
theorem dX3_isRange_16 : decode cX3_isRange 16 = .ok (.if_icmp .gt 7, 3) := by decide +kernel
theorem dX3_isRange_19 : decode cX3_isRange 19 = .ok (.iconst 1, 1) := by decide +kernel
theorem dX3_isRange_20 : decode cX3_isRange 20 = .ok (.goto 4, 3) := by decide +kernel
theorem dX3_isRange_23 : decode cX3_isRange 23 = .ok (.iconst 0, 1) := by decide +kernel
theorem dX3_isRange_24 : decode cX3_isRange 24 = .ok (.ireturn, 1) := by decide +kernel
theorem dX3_isRank_0 : decode cX3_isRank 0 = .ok (.iload_n 0, 1) := by decide +kernel
theorem dX3_isRank_1 : decode cX3_isRank 1 = .ok (.ifCond .lt 13, 3) := by decide +kernel
theorem dX3_isRank_4 : decode cX3_isRank 4 = .ok (.iload_n 0, 1) := by decide +kernel
theorem dX3_isRank_5 : decode cX3_isRank 5 = .ok (.bipush 100, 2) := by decide +kernel
theorem dX3_isRank_7 : decode cX3_isRank 7 = .ok (.if_icmp .ge 7, 3) := by decide +kernel
theorem dX3_isRank_10 : decode cX3_isRank 10 = .ok (.iconst 1, 1) := by decide +kernel
theorem dX3_isRank_11 : decode cX3_isRank 11 = .ok (.goto 4, 3) := by decide +kernel
theorem dX3_isRank_14 : decode cX3_isRank 14 = .ok (.iconst 0, 1) := by decide +kernel
theorem dX3_isRank_15 : decode cX3_isRank 15 = .ok (.ireturn, 1) := by decide +kernel
theorem dX3_isAction_0 : decode cX3_isAction 0 = .ok (.iload_n 0, 1) := by decide +kernel
theorem dX3_isAction_1 : decode cX3_isAction 1 = .ok (.ifCond .lt 13, 3) := by decide +kernel
theorem dX3_isAction_4 : decode cX3_isAction 4 = .ok (.iload_n 0, 1) := by decide +kernel
theorem dX3_isAction_5 : decode cX3_isAction 5 = .ok (.bipush 10, 2) := by decide +kernel
theorem dX3_isAction_7 : decode cX3_isAction 7 = .ok (.if_icmp .ge 7, 3) := by decide +kernel
theorem dX3_isAction_10 : decode cX3_isAction 10 = .ok (.iconst 1, 1) := by decide +kernel
theorem dX3_isAction_11 : decode cX3_isAction 11 = .ok (.goto 4, 3) := by decide +kernel
theorem dX3_isAction_14 : decode cX3_isAction 14 = .ok (.iconst 0, 1) := by decide +kernel
theorem dX3_isAction_15 : decode cX3_isAction 15 = .ok (.ireturn, 1) := by decide +kernel
theorem dX3_sortOfMask_0 : decode cX3_sortOfMask 0 = .ok (.iload_n 0, 1) := by decide +kernel
theorem dX3_sortOfMask_1 : decode cX3_sortOfMask 1 = .ok (.sipush 255, 3) := by decide +kernel
theorem dX3_sortOfMask_4 : decode cX3_sortOfMask 4 = .ok (.if_icmp .ne 5, 3) := by decide +kernel
theorem dX3_sortOfMask_7 : decode cX3_sortOfMask 7 = .ok (.iconst 0, 1) := by decide +kernel
theorem dX3_sortOfMask_8 : decode cX3_sortOfMask 8 = .ok (.ireturn, 1) := by decide +kernel
theorem dX3_sortOfMask_9 : decode cX3_sortOfMask 9 = .ok (.sipush 255, 3) := by decide +kernel
theorem dX3_sortOfMask_12 : decode cX3_sortOfMask 12 = .ok (.iload_n 0, 1) := by decide +kernel
theorem dX3_sortOfMask_13 : decode cX3_sortOfMask 13 = .ok (.isub, 1) := by decide +kernel
theorem dX3_sortOfMask_14 : decode cX3_sortOfMask 14 = .ok (.istore_n 1, 1) := by decide +kernel
theorem dX3_sortOfMask_15 : decode cX3_sortOfMask 15 = .ok (.iload_n 1, 1) := by decide +kernel
theorem dX3_sortOfMask_16 : decode cX3_sortOfMask 16 = .ok (.iload_n 1, 1) := by decide +kernel
theorem dX3_sortOfMask_17 : decode cX3_sortOfMask 17 = .ok (.iconst 1, 1) := by decide +kernel
theorem dX3_sortOfMask_18 : decode cX3_sortOfMask 18 = .ok (.iadd, 1) := by decide +kernel
theorem dX3_sortOfMask_19 : decode cX3_sortOfMask 19 = .ok (.iand, 1) := by decide +kernel
theorem dX3_sortOfMask_20 : decode cX3_sortOfMask 20 = .ok (.ifCond .ne 7, 3) := by decide +kernel
theorem dX3_sortOfMask_23 : decode cX3_sortOfMask 23 = .ok (.iconst 1, 1) := by decide +kernel
theorem dX3_sortOfMask_24 : decode cX3_sortOfMask 24 = .ok (.goto 4, 3) := by decide +kernel
theorem dX3_sortOfMask_27 : decode cX3_sortOfMask 27 = .ok (.iconst 2, 1) := by decide +kernel
theorem dX3_sortOfMask_28 : decode cX3_sortOfMask 28 = .ok (.ireturn, 1) := by decide +kernel
theorem dX3_blocksOf_0 : decode cX3_blocksOf 0 = .ok (.iload_n 0, 1) := by decide +kernel
theorem dX3_blocksOf_1 : decode cX3_blocksOf 1 = .ok (.istore_n 2, 1) := by decide +kernel
theorem dX3_blocksOf_2 : decode cX3_blocksOf 2 = .ok (.iconst 0, 1) := by decide +kernel
theorem dX3_blocksOf_3 : decode cX3_blocksOf 3 = .ok (.istore_n 3, 1) := by decide +kernel
theorem dX3_blocksOf_4 : decode cX3_blocksOf 4 = .ok (.iload_n 3, 1) := by decide +kernel
theorem dX3_blocksOf_5 : decode cX3_blocksOf 5 = .ok (.bipush 14, 2) := by decide +kernel
theorem dX3_blocksOf_7 : decode cX3_blocksOf 7 = .ok (.if_icmp .ge 24, 3) := by decide +kernel
theorem dX3_blocksOf_10 : decode cX3_blocksOf 10 = .ok (.iload_n 2, 1) := by decide +kernel
theorem dX3_blocksOf_11 : decode cX3_blocksOf 11 = .ok (.iload_n 1, 1) := by decide +kernel
theorem dX3_blocksOf_12 : decode cX3_blocksOf 12 = .ok (.if_icmp .le 5, 3) := by decide +kernel
theorem dX3_blocksOf_15 : decode cX3_blocksOf 15 = .ok (.iload_n 3, 1) := by decide +kernel
theorem dX3_blocksOf_16 : decode cX3_blocksOf 16 = .ok (.ireturn, 1) := by decide +kernel
theorem dX3_blocksOf_17 : decode cX3_blocksOf 17 = .ok (.iload_n 2, 1) := by decide +kernel
theorem dX3_blocksOf_18 : decode cX3_blocksOf 18 = .ok (.iload_n 2, 1) := by decide +kernel
theorem dX3_blocksOf_19 : decode cX3_blocksOf 19 = .ok (.iload_n 1, 1) := by decide +kernel
theorem dX3_blocksOf_20 : decode cX3_blocksOf 20 = .ok (.invokestatic 207, 3) := by decide +kernel
theorem dX3_blocksOf_23 : decode cX3_blocksOf 23 = .ok (.iadd, 1) := by decide +kernel
theorem dX3_blocksOf_24 : decode cX3_blocksOf 24 = .ok (.istore_n 2, 1) := by decide +kernel
theorem dX3_blocksOf_25 : decode cX3_blocksOf 25 = .ok (.iinc 3 1, 3) := by decide +kernel
theorem dX3_blocksOf_28 : decode cX3_blocksOf 28 = .ok (.goto (-24), 3) := by decide +kernel
theorem dX3_blocksOf_31 : decode cX3_blocksOf 31 = .ok (.bipush 14, 2) := by decide +kernel
theorem dX3_blocksOf_33 : decode cX3_blocksOf 33 = .ok (.ireturn, 1) := by decide +kernel
theorem dX3_blockSize_0 : decode cX3_blockSize 0 = .ok (.iconst 1, 1) := by decide +kernel
theorem dX3_blockSize_1 : decode cX3_blockSize 1 = .ok (.istore_n 2, 1) := by decide +kernel
theorem dX3_blockSize_2 : decode cX3_blockSize 2 = .ok (.iconst 2, 1) := by decide +kernel
theorem dX3_blockSize_3 : decode cX3_blockSize 3 = .ok (.istore_n 3, 1) := by decide +kernel
theorem dX3_blockSize_4 : decode cX3_blockSize 4 = .ok (.iload_n 3, 1) := by decide +kernel
theorem dX3_blockSize_5 : decode cX3_blockSize 5 = .ok (.sipush 256, 3) := by decide +kernel
theorem dX3_blockSize_8 : decode cX3_blockSize 8 = .ok (.if_icmp .gt 31, 3) := by decide +kernel
theorem dX3_blockSize_11 : decode cX3_blockSize 11 = .ok (.iload_n 0, 1) := by decide +kernel
theorem dX3_blockSize_12 : decode cX3_blockSize 12 = .ok (.iload_n 3, 1) := by decide +kernel
theorem dX3_blockSize_13 : decode cX3_blockSize 13 = .ok (.iconst 1, 1) := by decide +kernel
theorem dX3_blockSize_14 : decode cX3_blockSize 14 = .ok (.isub, 1) := by decide +kernel
theorem dX3_blockSize_15 : decode cX3_blockSize 15 = .ok (.iand, 1) := by decide +kernel
theorem dX3_blockSize_16 : decode cX3_blockSize 16 = .ok (.ifCond .ne 12, 3) := by decide +kernel
theorem dX3_blockSize_19 : decode cX3_blockSize 19 = .ok (.iload_n 0, 1) := by decide +kernel
theorem dX3_blockSize_20 : decode cX3_blockSize 20 = .ok (.iload_n 3, 1) := by decide +kernel
theorem dX3_blockSize_21 : decode cX3_blockSize 21 = .ok (.iadd, 1) := by decide +kernel
theorem dX3_blockSize_22 : decode cX3_blockSize 22 = .ok (.iconst 1, 1) := by decide +kernel
theorem dX3_blockSize_23 : decode cX3_blockSize 23 = .ok (.isub, 1) := by decide +kernel
theorem dX3_blockSize_24 : decode cX3_blockSize 24 = .ok (.iload_n 1, 1) := by decide +kernel
theorem dX3_blockSize_25 : decode cX3_blockSize 25 = .ok (.if_icmp .le 5, 3) := by decide +kernel
theorem dX3_blockSize_28 : decode cX3_blockSize 28 = .ok (.iload_n 2, 1) := by decide +kernel
theorem dX3_blockSize_29 : decode cX3_blockSize 29 = .ok (.ireturn, 1) := by decide +kernel
theorem dX3_blockSize_30 : decode cX3_blockSize 30 = .ok (.iload_n 3, 1) := by decide +kernel
theorem dX3_blockSize_31 : decode cX3_blockSize 31 = .ok (.istore_n 2, 1) := by decide +kernel
theorem dX3_blockSize_32 : decode cX3_blockSize 32 = .ok (.iload_n 3, 1) := by decide +kernel
theorem dX3_blockSize_33 : decode cX3_blockSize 33 = .ok (.iconst 2, 1) := by decide +kernel
theorem dX3_blockSize_34 : decode cX3_blockSize 34 = .ok (.imul, 1) := by decide +kernel
theorem dX3_blockSize_35 : decode cX3_blockSize 35 = .ok (.istore_n 3, 1) := by decide +kernel
theorem dX3_blockSize_36 : decode cX3_blockSize 36 = .ok (.goto (-32), 3) := by decide +kernel
theorem dX3_blockSize_39 : decode cX3_blockSize 39 = .ok (.iload_n 2, 1) := by decide +kernel
theorem dX3_blockSize_40 : decode cX3_blockSize 40 = .ok (.ireturn, 1) := by decide +kernel
theorem dX3_copyState_0 : decode cX3_copyState 0 = .ok (.aload_n 0, 1) := by decide +kernel
theorem dX3_copyState_1 : decode cX3_copyState 1 = .ok (.ifnull 12, 3) := by decide +kernel
theorem dX3_copyState_4 : decode cX3_copyState 4 = .ok (.aload_n 1, 1) := by decide +kernel
theorem dX3_copyState_5 : decode cX3_copyState 5 = .ok (.ifnull 8, 3) := by decide +kernel
theorem dX3_copyState_8 : decode cX3_copyState 8 = .ok (.aload_n 1, 1) := by decide +kernel
theorem dX3_copyState_9 : decode cX3_copyState 9 = .ok (.aload_n 0, 1) := by decide +kernel
theorem dX3_copyState_10 : decode cX3_copyState 10 = .ok (.invokevirtual 210, 3) := by decide +kernel
theorem dX3_copyState_13 : decode cX3_copyState 13 = .ok (.return_, 1) := by decide +kernel
theorem dJ6_bitCount_0f7a4_0 : decode cJ6_bitCount_0f7a4 0 = .ok (.iload_n 0, 1) := by decide +kernel
theorem dJ6_bitCount_0f7a4_1 : decode cJ6_bitCount_0f7a4 1 = .ok (.iload_n 0, 1) := by decide +kernel
theorem dJ6_bitCount_0f7a4_2 : decode cJ6_bitCount_0f7a4 2 = .ok (.iconst 1, 1) := by decide +kernel
theorem dJ6_bitCount_0f7a4_3 : decode cJ6_bitCount_0f7a4 3 = .ok (.iushr, 1) := by decide +kernel
theorem dJ6_bitCount_0f7a4_4 : decode cJ6_bitCount_0f7a4 4 = .ok (.ldc_w 265, 3) := by decide +kernel
theorem dJ6_bitCount_0f7a4_7 : decode cJ6_bitCount_0f7a4 7 = .ok (.iand, 1) := by decide +kernel
theorem dJ6_bitCount_0f7a4_8 : decode cJ6_bitCount_0f7a4 8 = .ok (.isub, 1) := by decide +kernel
theorem dJ6_bitCount_0f7a4_9 : decode cJ6_bitCount_0f7a4 9 = .ok (.istore_n 0, 1) := by decide +kernel
theorem dJ6_bitCount_0f7a4_10 : decode cJ6_bitCount_0f7a4 10 = .ok (.iload_n 0, 1) := by decide +kernel
theorem dJ6_bitCount_0f7a4_11 : decode cJ6_bitCount_0f7a4 11 = .ok (.ldc_w 266, 3) := by decide +kernel
theorem dJ6_bitCount_0f7a4_14 : decode cJ6_bitCount_0f7a4 14 = .ok (.iand, 1) := by decide +kernel
theorem dJ6_bitCount_0f7a4_15 : decode cJ6_bitCount_0f7a4 15 = .ok (.iload_n 0, 1) := by decide +kernel
theorem dJ6_bitCount_0f7a4_16 : decode cJ6_bitCount_0f7a4 16 = .ok (.iconst 2, 1) := by decide +kernel
theorem dJ6_bitCount_0f7a4_17 : decode cJ6_bitCount_0f7a4 17 = .ok (.iushr, 1) := by decide +kernel
theorem dJ6_bitCount_0f7a4_18 : decode cJ6_bitCount_0f7a4 18 = .ok (.ldc_w 266, 3) := by decide +kernel
theorem dJ6_bitCount_0f7a4_21 : decode cJ6_bitCount_0f7a4 21 = .ok (.iand, 1) := by decide +kernel
theorem dJ6_bitCount_0f7a4_22 : decode cJ6_bitCount_0f7a4 22 = .ok (.iadd, 1) := by decide +kernel
theorem dJ6_bitCount_0f7a4_23 : decode cJ6_bitCount_0f7a4 23 = .ok (.istore_n 0, 1) := by decide +kernel
theorem dJ6_bitCount_0f7a4_24 : decode cJ6_bitCount_0f7a4 24 = .ok (.iload_n 0, 1) := by decide +kernel
theorem dJ6_bitCount_0f7a4_25 : decode cJ6_bitCount_0f7a4 25 = .ok (.iload_n 0, 1) := by decide +kernel
theorem dJ6_bitCount_0f7a4_26 : decode cJ6_bitCount_0f7a4 26 = .ok (.iconst 4, 1) := by decide +kernel
theorem dJ6_bitCount_0f7a4_27 : decode cJ6_bitCount_0f7a4 27 = .ok (.iushr, 1) := by decide +kernel
theorem dJ6_bitCount_0f7a4_28 : decode cJ6_bitCount_0f7a4 28 = .ok (.iadd, 1) := by decide +kernel
theorem dJ6_bitCount_0f7a4_29 : decode cJ6_bitCount_0f7a4 29 = .ok (.ldc_w 267, 3) := by decide +kernel
theorem dJ6_bitCount_0f7a4_32 : decode cJ6_bitCount_0f7a4 32 = .ok (.iand, 1) := by decide +kernel
theorem dJ6_bitCount_0f7a4_33 : decode cJ6_bitCount_0f7a4 33 = .ok (.istore_n 0, 1) := by decide +kernel
theorem dJ6_bitCount_0f7a4_34 : decode cJ6_bitCount_0f7a4 34 = .ok (.iload_n 0, 1) := by decide +kernel
theorem dJ6_bitCount_0f7a4_35 : decode cJ6_bitCount_0f7a4 35 = .ok (.iload_n 0, 1) := by decide +kernel
theorem dJ6_bitCount_0f7a4_36 : decode cJ6_bitCount_0f7a4 36 = .ok (.bipush 8, 2) := by decide +kernel
theorem dJ6_bitCount_0f7a4_38 : decode cJ6_bitCount_0f7a4 38 = .ok (.iushr, 1) := by decide +kernel
theorem dJ6_bitCount_0f7a4_39 : decode cJ6_bitCount_0f7a4 39 = .ok (.iadd, 1) := by decide +kernel
theorem dJ6_bitCount_0f7a4_40 : decode cJ6_bitCount_0f7a4 40 = .ok (.istore_n 0, 1) := by decide +kernel
theorem dJ6_bitCount_0f7a4_41 : decode cJ6_bitCount_0f7a4 41 = .ok (.iload_n 0, 1) := by decide +kernel
theorem dJ6_bitCount_0f7a4_42 : decode cJ6_bitCount_0f7a4 42 = .ok (.iload_n 0, 1) := by decide +kernel
theorem dJ6_bitCount_0f7a4_43 : decode cJ6_bitCount_0f7a4 43 = .ok (.bipush 16, 2) := by decide +kernel
theorem dJ6_bitCount_0f7a4_45 : decode cJ6_bitCount_0f7a4 45 = .ok (.iushr, 1) := by decide +kernel
theorem dJ6_bitCount_0f7a4_46 : decode cJ6_bitCount_0f7a4 46 = .ok (.iadd, 1) := by decide +kernel
theorem dJ6_bitCount_0f7a4_47 : decode cJ6_bitCount_0f7a4 47 = .ok (.istore_n 0, 1) := by decide +kernel
theorem dJ6_bitCount_0f7a4_48 : decode cJ6_bitCount_0f7a4 48 = .ok (.iload_n 0, 1) := by decide +kernel
theorem dJ6_bitCount_0f7a4_49 : decode cJ6_bitCount_0f7a4 49 = .ok (.bipush 63, 2) := by decide +kernel
theorem dJ6_bitCount_0f7a4_51 : decode cJ6_bitCount_0f7a4 51 = .ok (.iand, 1) := by decide +kernel
theorem dJ6_bitCount_0f7a4_52 : decode cJ6_bitCount_0f7a4 52 = .ok (.ireturn, 1) := by decide +kernel
theorem dJ9_floorMod_7cf53_0 : decode cJ9_floorMod_7cf53 0 = .ok (.iload_n 0, 1) := by decide +kernel
theorem dJ9_floorMod_7cf53_1 : decode cJ9_floorMod_7cf53 1 = .ok (.iload_n 1, 1) := by decide +kernel
theorem dJ9_floorMod_7cf53_2 : decode cJ9_floorMod_7cf53 2 = .ok (.irem, 1) := by decide +kernel
theorem dJ9_floorMod_7cf53_3 : decode cJ9_floorMod_7cf53 3 = .ok (.istore_n 2, 1) := by decide +kernel
theorem dJ9_floorMod_7cf53_4 : decode cJ9_floorMod_7cf53 4 = .ok (.iload_n 0, 1) := by decide +kernel
theorem dJ9_floorMod_7cf53_5 : decode cJ9_floorMod_7cf53 5 = .ok (.iload_n 1, 1) := by decide +kernel
theorem dJ9_floorMod_7cf53_6 : decode cJ9_floorMod_7cf53 6 = .ok (.ixor, 1) := by decide +kernel
theorem dJ9_floorMod_7cf53_7 : decode cJ9_floorMod_7cf53 7 = .ok (.ifCond .ge 11, 3) := by decide +kernel
theorem dJ9_floorMod_7cf53_10 : decode cJ9_floorMod_7cf53 10 = .ok (.iload_n 2, 1) := by decide +kernel
theorem dJ9_floorMod_7cf53_11 : decode cJ9_floorMod_7cf53 11 = .ok (.ifCond .eq 7, 3) := by decide +kernel
theorem dJ9_floorMod_7cf53_14 : decode cJ9_floorMod_7cf53 14 = .ok (.iload_n 2, 1) := by decide +kernel
theorem dJ9_floorMod_7cf53_15 : decode cJ9_floorMod_7cf53 15 = .ok (.iload_n 1, 1) := by decide +kernel
theorem dJ9_floorMod_7cf53_16 : decode cJ9_floorMod_7cf53 16 = .ok (.iadd, 1) := by decide +kernel
theorem dJ9_floorMod_7cf53_17 : decode cJ9_floorMod_7cf53 17 = .ok (.ireturn, 1) := by decide +kernel
theorem dJ9_floorMod_7cf53_18 : decode cJ9_floorMod_7cf53 18 = .ok (.iload_n 2, 1) := by decide +kernel
theorem dJ9_floorMod_7cf53_19 : decode cJ9_floorMod_7cf53 19 = .ok (.ireturn, 1) := by decide +kernel
theorem dJ9_min_7cf53_0 : decode cJ9_min_7cf53 0 = .ok (.iload_n 0, 1) := by decide +kernel
theorem dJ9_min_7cf53_1 : decode cJ9_min_7cf53 1 = .ok (.iload_n 1, 1) := by decide +kernel
theorem dJ9_min_7cf53_2 : decode cJ9_min_7cf53 2 = .ok (.if_icmp .gt 7, 3) := by decide +kernel
theorem dJ9_min_7cf53_5 : decode cJ9_min_7cf53 5 = .ok (.iload_n 0, 1) := by decide +kernel
theorem dJ9_min_7cf53_6 : decode cJ9_min_7cf53 6 = .ok (.goto 4, 3) := by decide +kernel
theorem dJ9_min_7cf53_9 : decode cJ9_min_7cf53 9 = .ok (.iload_n 1, 1) := by decide +kernel
theorem dJ9_min_7cf53_10 : decode cJ9_min_7cf53 10 = .ok (.ireturn, 1) := by decide +kernel
