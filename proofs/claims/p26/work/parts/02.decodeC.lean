theorem dX0_init_0 : decode cX0_init 0 = .ok (.aload_n 0, 1) := by decide +kernel
theorem dX0_init_1 : decode cX0_init 1 = .ok (.invokespecial 3, 3) := by decide +kernel
theorem dX0_init_4 : decode cX0_init 4 = .ok (.aload_n 0, 1) := by decide +kernel
theorem dX0_init_5 : decode cX0_init 5 = .ok (.iload_n 1, 1) := by decide +kernel
theorem dX0_init_6 : decode cX0_init 6 = .ok (.putfield 9, 3) := by decide +kernel
theorem dX0_init_9 : decode cX0_init 9 = .ok (.return_, 1) := by decide +kernel
theorem dX0_copyFrom_0 : decode cX0_copyFrom 0 = .ok (.aload_n 0, 1) := by decide +kernel
theorem dX0_copyFrom_1 : decode cX0_copyFrom 1 = .ok (.aload_n 1, 1) := by decide +kernel
theorem dX0_copyFrom_2 : decode cX0_copyFrom 2 = .ok (.invokevirtual 15, 3) := by decide +kernel
theorem dX0_copyFrom_5 : decode cX0_copyFrom 5 = .ok (.aload_n 0, 1) := by decide +kernel
theorem dX0_copyFrom_6 : decode cX0_copyFrom 6 = .ok (.aload_n 1, 1) := by decide +kernel
theorem dX0_copyFrom_7 : decode cX0_copyFrom 7 = .ok (.getfield 19, 3) := by decide +kernel
theorem dX0_copyFrom_10 : decode cX0_copyFrom 10 = .ok (.putfield 19, 3) := by decide +kernel
theorem dX0_copyFrom_13 : decode cX0_copyFrom 13 = .ok (.aload_n 0, 1) := by decide +kernel
theorem dX0_copyFrom_14 : decode cX0_copyFrom 14 = .ok (.aload_n 1, 1) := by decide +kernel
theorem dX0_copyFrom_15 : decode cX0_copyFrom 15 = .ok (.getfield 22, 3) := by decide +kernel
theorem dX0_copyFrom_18 : decode cX0_copyFrom 18 = .ok (.putfield 22, 3) := by decide +kernel
theorem dX0_copyFrom_21 : decode cX0_copyFrom 21 = .ok (.aload_n 0, 1) := by decide +kernel
theorem dX0_copyFrom_22 : decode cX0_copyFrom 22 = .ok (.aload_n 1, 1) := by decide +kernel
theorem dX0_copyFrom_23 : decode cX0_copyFrom 23 = .ok (.getfield 25, 3) := by decide +kernel
theorem dX0_copyFrom_26 : decode cX0_copyFrom 26 = .ok (.putfield 25, 3) := by decide +kernel
theorem dX0_copyFrom_29 : decode cX0_copyFrom 29 = .ok (.aload_n 0, 1) := by decide +kernel
theorem dX0_copyFrom_30 : decode cX0_copyFrom 30 = .ok (.aload_n 1, 1) := by decide +kernel
theorem dX0_copyFrom_31 : decode cX0_copyFrom 31 = .ok (.getfield 28, 3) := by decide +kernel
theorem dX0_copyFrom_34 : decode cX0_copyFrom 34 = .ok (.putfield 28, 3) := by decide +kernel
theorem dX0_copyFrom_37 : decode cX0_copyFrom 37 = .ok (.return_, 1) := by decide +kernel
theorem dX0_copyFreight_0 : decode cX0_copyFreight 0 = .ok (.aload_n 0, 1) := by decide +kernel
theorem dX0_copyFreight_1 : decode cX0_copyFreight 1 = .ok (.aload_n 1, 1) := by decide +kernel
theorem dX0_copyFreight_2 : decode cX0_copyFreight 2 = .ok (.getfield 31, 3) := by decide +kernel
theorem dX0_copyFreight_5 : decode cX0_copyFreight 5 = .ok (.putfield 31, 3) := by decide +kernel
theorem dX0_copyFreight_8 : decode cX0_copyFreight 8 = .ok (.aload_n 0, 1) := by decide +kernel
theorem dX0_copyFreight_9 : decode cX0_copyFreight 9 = .ok (.aload_n 1, 1) := by decide +kernel
theorem dX0_copyFreight_10 : decode cX0_copyFreight 10 = .ok (.getfield 34, 3) := by decide +kernel
theorem dX0_copyFreight_13 : decode cX0_copyFreight 13 = .ok (.putfield 34, 3) := by decide +kernel
theorem dX0_copyFreight_16 : decode cX0_copyFreight 16 = .ok (.aload_n 0, 1) := by decide +kernel
theorem dX0_copyFreight_17 : decode cX0_copyFreight 17 = .ok (.aload_n 1, 1) := by decide +kernel
theorem dX0_copyFreight_18 : decode cX0_copyFreight 18 = .ok (.getfield 37, 3) := by decide +kernel
theorem dX0_copyFreight_21 : decode cX0_copyFreight 21 = .ok (.putfield 37, 3) := by decide +kernel
theorem dX0_copyFreight_24 : decode cX0_copyFreight 24 = .ok (.aload_n 0, 1) := by decide +kernel
theorem dX0_copyFreight_25 : decode cX0_copyFreight 25 = .ok (.aload_n 1, 1) := by decide +kernel
theorem dX0_copyFreight_26 : decode cX0_copyFreight 26 = .ok (.getfield 40, 3) := by decide +kernel
theorem dX0_copyFreight_29 : decode cX0_copyFreight 29 = .ok (.putfield 40, 3) := by decide +kernel
theorem dX0_copyFreight_32 : decode cX0_copyFreight 32 = .ok (.aload_n 0, 1) := by decide +kernel
theorem dX0_copyFreight_33 : decode cX0_copyFreight 33 = .ok (.aload_n 1, 1) := by decide +kernel
theorem dX0_copyFreight_34 : decode cX0_copyFreight 34 = .ok (.getfield 43, 3) := by decide +kernel
theorem dX0_copyFreight_37 : decode cX0_copyFreight 37 = .ok (.putfield 43, 3) := by decide +kernel
theorem dX0_copyFreight_40 : decode cX0_copyFreight 40 = .ok (.aload_n 0, 1) := by decide +kernel
theorem dX0_copyFreight_41 : decode cX0_copyFreight 41 = .ok (.aload_n 1, 1) := by decide +kernel
theorem dX0_copyFreight_42 : decode cX0_copyFreight 42 = .ok (.getfield 46, 3) := by decide +kernel
theorem dX0_copyFreight_45 : decode cX0_copyFreight 45 = .ok (.putfield 46, 3) := by decide +kernel
theorem dX0_copyFreight_48 : decode cX0_copyFreight 48 = .ok (.aload_n 0, 1) := by decide +kernel
theorem dX0_copyFreight_49 : decode cX0_copyFreight 49 = .ok (.aload_n 1, 1) := by decide +kernel
theorem dX0_copyFreight_50 : decode cX0_copyFreight 50 = .ok (.getfield 49, 3) := by decide +kernel
theorem dX0_copyFreight_53 : decode cX0_copyFreight 53 = .ok (.putfield 49, 3) := by decide +kernel
theorem dX0_copyFreight_56 : decode cX0_copyFreight 56 = .ok (.aload_n 0, 1) := by decide +kernel
theorem dX0_copyFreight_57 : decode cX0_copyFreight 57 = .ok (.aload_n 1, 1) := by decide +kernel
theorem dX0_copyFreight_58 : decode cX0_copyFreight 58 = .ok (.getfield 52, 3) := by decide +kernel
theorem dX0_copyFreight_61 : decode cX0_copyFreight 61 = .ok (.putfield 52, 3) := by decide +kernel
theorem dX0_copyFreight_64 : decode cX0_copyFreight 64 = .ok (.return_, 1) := by decide +kernel
theorem dX0_startInHall_0 : decode cX0_startInHall 0 = .ok (.aload_n 0, 1) := by decide +kernel
theorem dX0_startInHall_1 : decode cX0_startInHall 1 = .ok (.iconst 0, 1) := by decide +kernel
theorem dX0_startInHall_2 : decode cX0_startInHall 2 = .ok (.putfield 19, 3) := by decide +kernel
theorem dX0_startInHall_5 : decode cX0_startInHall 5 = .ok (.aload_n 0, 1) := by decide +kernel
theorem dX0_startInHall_6 : decode cX0_startInHall 6 = .ok (.iconst (-1), 1) := by decide +kernel
theorem dX0_startInHall_7 : decode cX0_startInHall 7 = .ok (.putfield 22, 3) := by decide +kernel
theorem dX0_startInHall_10 : decode cX0_startInHall 10 = .ok (.aload_n 0, 1) := by decide +kernel
theorem dX0_startInHall_11 : decode cX0_startInHall 11 = .ok (.iconst (-1), 1) := by decide +kernel
theorem dX0_startInHall_12 : decode cX0_startInHall 12 = .ok (.putfield 25, 3) := by decide +kernel
theorem dX0_startInHall_15 : decode cX0_startInHall 15 = .ok (.aload_n 0, 1) := by decide +kernel
theorem dX0_startInHall_16 : decode cX0_startInHall 16 = .ok (.iconst (-1), 1) := by decide +kernel
theorem dX0_startInHall_17 : decode cX0_startInHall 17 = .ok (.putfield 28, 3) := by decide +kernel
theorem dX0_startInHall_20 : decode cX0_startInHall 20 = .ok (.return_, 1) := by decide +kernel
theorem dX0_isInHall_0 : decode cX0_isInHall 0 = .ok (.aload_n 0, 1) := by decide +kernel
theorem dX0_isInHall_1 : decode cX0_isInHall 1 = .ok (.getfield 19, 3) := by decide +kernel
theorem dX0_isInHall_4 : decode cX0_isInHall 4 = .ok (.ifCond .eq 11, 3) := by decide +kernel
theorem dX0_isInHall_7 : decode cX0_isInHall 7 = .ok (.aload_n 0, 1) := by decide +kernel
theorem dX0_isInHall_8 : decode cX0_isInHall 8 = .ok (.getfield 19, 3) := by decide +kernel
theorem dX0_isInHall_11 : decode cX0_isInHall 11 = .ok (.iconst 1, 1) := by decide +kernel
theorem dX0_isInHall_12 : decode cX0_isInHall 12 = .ok (.if_icmp .ne 7, 3) := by decide +kernel
theorem dX0_isInHall_15 : decode cX0_isInHall 15 = .ok (.iconst 1, 1) := by decide +kernel
theorem dX0_isInHall_16 : decode cX0_isInHall 16 = .ok (.goto 4, 3) := by decide +kernel
theorem dX0_isInHall_19 : decode cX0_isInHall 19 = .ok (.iconst 0, 1) := by decide +kernel
theorem dX0_isInHall_20 : decode cX0_isInHall 20 = .ok (.ireturn, 1) := by decide +kernel
theorem dX0_isIn_0 : decode cX0_isIn 0 = .ok (.aload_n 0, 1) := by decide +kernel
theorem dX0_isIn_1 : decode cX0_isIn 1 = .ok (.getfield 22, 3) := by decide +kernel
theorem dX0_isIn_4 : decode cX0_isIn 4 = .ok (.aload_n 1, 1) := by decide +kernel
theorem dX0_isIn_5 : decode cX0_isIn 5 = .ok (.getfield 55, 3) := by decide +kernel
theorem dX0_isIn_8 : decode cX0_isIn 8 = .ok (.if_icmp .ne 23, 3) := by decide +kernel
theorem dX0_isIn_11 : decode cX0_isIn 11 = .ok (.aload_n 0, 1) := by decide +kernel
theorem dX0_isIn_12 : decode cX0_isIn 12 = .ok (.getfield 19, 3) := by decide +kernel
theorem dX0_isIn_15 : decode cX0_isIn 15 = .ok (.iconst 1, 1) := by decide +kernel
theorem dX0_isIn_16 : decode cX0_isIn 16 = .ok (.if_icmp .eq 11, 3) := by decide +kernel
theorem dX0_isIn_19 : decode cX0_isIn 19 = .ok (.aload_n 0, 1) := by decide +kernel
theorem dX0_isIn_20 : decode cX0_isIn 20 = .ok (.getfield 19, 3) := by decide +kernel
theorem dX0_isIn_23 : decode cX0_isIn 23 = .ok (.iconst 2, 1) := by decide +kernel
theorem dX0_isIn_24 : decode cX0_isIn 24 = .ok (.if_icmp .ne 7, 3) := by decide +kernel
theorem dX0_isIn_27 : decode cX0_isIn 27 = .ok (.iconst 1, 1) := by decide +kernel
theorem dX0_isIn_28 : decode cX0_isIn 28 = .ok (.goto 4, 3) := by decide +kernel
theorem dX0_isIn_31 : decode cX0_isIn 31 = .ok (.iconst 0, 1) := by decide +kernel
theorem dX0_isIn_32 : decode cX0_isIn 32 = .ok (.ireturn, 1) := by decide +kernel
theorem dX0_comesAheadOf_0 : decode cX0_comesAheadOf 0 = .ok (.iload_n 2, 1) := by decide +kernel
theorem dX0_comesAheadOf_1 : decode cX0_comesAheadOf 1 = .ok (.lookupswitch 61 #[(0, 27), (1, 44)], 27) := by decide +kernel
theorem dX0_comesAheadOf_28 : decode cX0_comesAheadOf 28 = .ok (.aload_n 0, 1) := by decide +kernel
theorem dX0_comesAheadOf_29 : decode cX0_comesAheadOf 29 = .ok (.getfield 43, 3) := by decide +kernel
theorem dX0_comesAheadOf_32 : decode cX0_comesAheadOf 32 = .ok (.aload_n 1, 1) := by decide +kernel
theorem dX0_comesAheadOf_33 : decode cX0_comesAheadOf 33 = .ok (.getfield 43, 3) := by decide +kernel
theorem dX0_comesAheadOf_36 : decode cX0_comesAheadOf 36 = .ok (.if_icmp .ge 7, 3) := by decide +kernel
theorem dX0_comesAheadOf_39 : decode cX0_comesAheadOf 39 = .ok (.iconst 1, 1) := by decide +kernel
theorem dX0_comesAheadOf_40 : decode cX0_comesAheadOf 40 = .ok (.goto 4, 3) := by decide +kernel
theorem dX0_comesAheadOf_43 : decode cX0_comesAheadOf 43 = .ok (.iconst 0, 1) := by decide +kernel
theorem dX0_comesAheadOf_44 : decode cX0_comesAheadOf 44 = .ok (.ireturn, 1) := by decide +kernel
theorem dX0_comesAheadOf_45 : decode cX0_comesAheadOf 45 = .ok (.aload_n 0, 1) := by decide +kernel
theorem dX0_comesAheadOf_46 : decode cX0_comesAheadOf 46 = .ok (.getfield 46, 3) := by decide +kernel
theorem dX0_comesAheadOf_49 : decode cX0_comesAheadOf 49 = .ok (.aload_n 1, 1) := by decide +kernel
theorem dX0_comesAheadOf_50 : decode cX0_comesAheadOf 50 = .ok (.getfield 46, 3) := by decide +kernel
theorem dX0_comesAheadOf_53 : decode cX0_comesAheadOf 53 = .ok (.if_icmp .le 7, 3) := by decide +kernel
theorem dX0_comesAheadOf_56 : decode cX0_comesAheadOf 56 = .ok (.iconst 1, 1) := by decide +kernel
theorem dX0_comesAheadOf_57 : decode cX0_comesAheadOf 57 = .ok (.goto 4, 3) := by decide +kernel
theorem dX0_comesAheadOf_60 : decode cX0_comesAheadOf 60 = .ok (.iconst 0, 1) := by decide +kernel
theorem dX0_comesAheadOf_61 : decode cX0_comesAheadOf 61 = .ok (.ireturn, 1) := by decide +kernel
theorem dX0_comesAheadOf_62 : decode cX0_comesAheadOf 62 = .ok (.aload_n 0, 1) := by decide +kernel
theorem dX0_comesAheadOf_63 : decode cX0_comesAheadOf 63 = .ok (.getfield 46, 3) := by decide +kernel
theorem dX0_comesAheadOf_66 : decode cX0_comesAheadOf 66 = .ok (.aload_n 1, 1) := by decide +kernel
theorem dX0_comesAheadOf_67 : decode cX0_comesAheadOf 67 = .ok (.getfield 34, 3) := by decide +kernel
theorem dX0_comesAheadOf_70 : decode cX0_comesAheadOf 70 = .ok (.imul, 1) := by decide +kernel
theorem dX0_comesAheadOf_71 : decode cX0_comesAheadOf 71 = .ok (.aload_n 1, 1) := by decide +kernel
theorem dX0_comesAheadOf_72 : decode cX0_comesAheadOf 72 = .ok (.getfield 46, 3) := by decide +kernel
theorem dX0_comesAheadOf_75 : decode cX0_comesAheadOf 75 = .ok (.aload_n 0, 1) := by decide +kernel
theorem dX0_comesAheadOf_76 : decode cX0_comesAheadOf 76 = .ok (.getfield 34, 3) := by decide +kernel
theorem dX0_comesAheadOf_79 : decode cX0_comesAheadOf 79 = .ok (.imul, 1) := by decide +kernel
theorem dX0_comesAheadOf_80 : decode cX0_comesAheadOf 80 = .ok (.if_icmp .le 7, 3) := by decide +kernel
theorem dX0_comesAheadOf_83 : decode cX0_comesAheadOf 83 = .ok (.iconst 1, 1) := by decide +kernel
theorem dX0_comesAheadOf_84 : decode cX0_comesAheadOf 84 = .ok (.goto 4, 3) := by decide +kernel
theorem dX0_comesAheadOf_87 : decode cX0_comesAheadOf 87 = .ok (.iconst 0, 1) := by decide +kernel
theorem dX0_comesAheadOf_88 : decode cX0_comesAheadOf 88 = .ok (.ireturn, 1) := by decide +kernel
theorem dX1_init_0 : decode cX1_init 0 = .ok (.aload_n 0, 1) := by decide +kernel
theorem dX1_init_1 : decode cX1_init 1 = .ok (.invokespecial 3, 3) := by decide +kernel
theorem dX1_init_4 : decode cX1_init 4 = .ok (.aload_n 0, 1) := by decide +kernel
theorem dX1_init_5 : decode cX1_init 5 = .ok (.bipush 16, 2) := by decide +kernel
theorem dX1_init_7 : decode cX1_init 7 = .ok (.anewarray 9, 3) := by decide +kernel
theorem dX1_init_10 : decode cX1_init 10 = .ok (.putfield 11, 3) := by decide +kernel
theorem dX1_init_13 : decode cX1_init 13 = .ok (.aload_n 0, 1) := by decide +kernel
theorem dX1_init_14 : decode cX1_init 14 = .ok (.iconst 4, 1) := by decide +kernel
theorem dX1_init_15 : decode cX1_init 15 = .ok (.anewarray 17, 3) := by decide +kernel
theorem dX1_init_18 : decode cX1_init 18 = .ok (.putfield 19, 3) := by decide +kernel
theorem dX1_init_21 : decode cX1_init 21 = .ok (.aload_n 0, 1) := by decide +kernel
theorem dX1_init_22 : decode cX1_init 22 = .ok (.bipush 10, 2) := by decide +kernel
theorem dX1_init_24 : decode cX1_init 24 = .ok (.anewarray 23, 3) := by decide +kernel
theorem dX1_init_27 : decode cX1_init 27 = .ok (.putfield 25, 3) := by decide +kernel
theorem dX1_init_30 : decode cX1_init 30 = .ok (.aload_n 0, 1) := by decide +kernel
theorem dX1_init_31 : decode cX1_init 31 = .ok (.iconst 3, 1) := by decide +kernel
theorem dX1_init_32 : decode cX1_init 32 = .ok (.newarray .int, 2) := by decide +kernel
theorem dX1_init_34 : decode cX1_init 34 = .ok (.dup, 1) := by decide +kernel
theorem dX1_init_35 : decode cX1_init 35 = .ok (.iconst 0, 1) := by decide +kernel
theorem dX1_init_36 : decode cX1_init 36 = .ok (.iconst 3, 1) := by decide +kernel
theorem dX1_init_37 : decode cX1_init 37 = .ok (.iastore, 1) := by decide +kernel
theorem dX1_init_38 : decode cX1_init 38 = .ok (.dup, 1) := by decide +kernel
theorem dX1_init_39 : decode cX1_init 39 = .ok (.iconst 1, 1) := by decide +kernel
theorem dX1_init_40 : decode cX1_init 40 = .ok (.bipush 8, 2) := by decide +kernel
theorem dX1_init_42 : decode cX1_init 42 = .ok (.iastore, 1) := by decide +kernel
theorem dX1_init_43 : decode cX1_init 43 = .ok (.dup, 1) := by decide +kernel
theorem dX1_init_44 : decode cX1_init 44 = .ok (.iconst 2, 1) := by decide +kernel
theorem dX1_init_45 : decode cX1_init 45 = .ok (.iconst 1, 1) := by decide +kernel
theorem dX1_init_46 : decode cX1_init 46 = .ok (.iastore, 1) := by decide +kernel
theorem dX1_init_47 : decode cX1_init 47 = .ok (.putfield 29, 3) := by decide +kernel
theorem dX1_init_50 : decode cX1_init 50 = .ok (.iconst 0, 1) := by decide +kernel
theorem dX1_init_51 : decode cX1_init 51 = .ok (.istore_n 1, 1) := by decide +kernel
theorem dX1_init_52 : decode cX1_init 52 = .ok (.iload_n 1, 1) := by decide +kernel
theorem dX1_init_53 : decode cX1_init 53 = .ok (.bipush 16, 2) := by decide +kernel
theorem dX1_init_55 : decode cX1_init 55 = .ok (.if_icmp .ge 23, 3) := by decide +kernel
theorem dX1_init_58 : decode cX1_init 58 = .ok (.aload_n 0, 1) := by decide +kernel
theorem dX1_init_59 : decode cX1_init 59 = .ok (.getfield 11, 3) := by decide +kernel
theorem dX1_init_62 : decode cX1_init 62 = .ok (.iload_n 1, 1) := by decide +kernel
theorem dX1_init_63 : decode cX1_init 63 = .ok (.new 9, 3) := by decide +kernel
theorem dX1_init_66 : decode cX1_init 66 = .ok (.dup, 1) := by decide +kernel
theorem dX1_init_67 : decode cX1_init 67 = .ok (.iload_n 1, 1) := by decide +kernel
theorem dX1_init_68 : decode cX1_init 68 = .ok (.invokespecial 33, 3) := by decide +kernel
theorem dX1_init_71 : decode cX1_init 71 = .ok (.aastore, 1) := by decide +kernel
theorem dX1_init_72 : decode cX1_init 72 = .ok (.iinc 1 1, 3) := by decide +kernel
theorem dX1_init_75 : decode cX1_init 75 = .ok (.goto (-23), 3) := by decide +kernel
theorem dX1_init_78 : decode cX1_init 78 = .ok (.iconst 0, 1) := by decide +kernel
theorem dX1_init_79 : decode cX1_init 79 = .ok (.istore_n 1, 1) := by decide +kernel
theorem dX1_init_80 : decode cX1_init 80 = .ok (.iload_n 1, 1) := by decide +kernel
theorem dX1_init_81 : decode cX1_init 81 = .ok (.iconst 4, 1) := by decide +kernel
theorem dX1_init_82 : decode cX1_init 82 = .ok (.if_icmp .ge 23, 3) := by decide +kernel
theorem dX1_init_85 : decode cX1_init 85 = .ok (.aload_n 0, 1) := by decide +kernel
theorem dX1_init_86 : decode cX1_init 86 = .ok (.getfield 19, 3) := by decide +kernel
theorem dX1_init_89 : decode cX1_init 89 = .ok (.iload_n 1, 1) := by decide +kernel
theorem dX1_init_90 : decode cX1_init 90 = .ok (.new 17, 3) := by decide +kernel
theorem dX1_init_93 : decode cX1_init 93 = .ok (.dup, 1) := by decide +kernel
theorem dX1_init_94 : decode cX1_init 94 = .ok (.iload_n 1, 1) := by decide +kernel
theorem dX1_init_95 : decode cX1_init 95 = .ok (.invokespecial 36, 3) := by decide +kernel
theorem dX1_init_98 : decode cX1_init 98 = .ok (.aastore, 1) := by decide +kernel
theorem dX1_init_99 : decode cX1_init 99 = .ok (.iinc 1 1, 3) := by decide +kernel
theorem dX1_init_102 : decode cX1_init 102 = .ok (.goto (-22), 3) := by decide +kernel
theorem dX1_init_105 : decode cX1_init 105 = .ok (.iconst 0, 1) := by decide +kernel
theorem dX1_init_106 : decode cX1_init 106 = .ok (.istore_n 1, 1) := by decide +kernel
theorem dX1_init_107 : decode cX1_init 107 = .ok (.iload_n 1, 1) := by decide +kernel
theorem dX1_init_108 : decode cX1_init 108 = .ok (.bipush 10, 2) := by decide +kernel
theorem dX1_init_110 : decode cX1_init 110 = .ok (.if_icmp .ge 22, 3) := by decide +kernel
theorem dX1_init_113 : decode cX1_init 113 = .ok (.aload_n 0, 1) := by decide +kernel
theorem dX1_init_114 : decode cX1_init 114 = .ok (.getfield 25, 3) := by decide +kernel
theorem dX1_init_117 : decode cX1_init 117 = .ok (.iload_n 1, 1) := by decide +kernel
theorem dX1_init_118 : decode cX1_init 118 = .ok (.new 23, 3) := by decide +kernel
theorem dX1_init_121 : decode cX1_init 121 = .ok (.dup, 1) := by decide +kernel
theorem dX1_init_122 : decode cX1_init 122 = .ok (.invokespecial 37, 3) := by decide +kernel
theorem dX1_init_125 : decode cX1_init 125 = .ok (.aastore, 1) := by decide +kernel
theorem dX1_init_126 : decode cX1_init 126 = .ok (.iinc 1 1, 3) := by decide +kernel
theorem dX1_init_129 : decode cX1_init 129 = .ok (.goto (-22), 3) := by decide +kernel
theorem dX1_init_132 : decode cX1_init 132 = .ok (.return_, 1) := by decide +kernel
theorem dX1_copyFrom_0 : decode cX1_copyFrom 0 = .ok (.aload_n 0, 1) := by decide +kernel
theorem dX1_copyFrom_1 : decode cX1_copyFrom 1 = .ok (.aload_n 1, 1) := by decide +kernel
theorem dX1_copyFrom_2 : decode cX1_copyFrom 2 = .ok (.getfield 38, 3) := by decide +kernel
theorem dX1_copyFrom_5 : decode cX1_copyFrom 5 = .ok (.putfield 38, 3) := by decide +kernel
theorem dX1_copyFrom_8 : decode cX1_copyFrom 8 = .ok (.aload_n 0, 1) := by decide +kernel
theorem dX1_copyFrom_9 : decode cX1_copyFrom 9 = .ok (.aload_n 1, 1) := by decide +kernel
theorem dX1_copyFrom_10 : decode cX1_copyFrom 10 = .ok (.getfield 42, 3) := by decide +kernel
theorem dX1_copyFrom_13 : decode cX1_copyFrom 13 = .ok (.putfield 42, 3) := by decide +kernel
theorem dX1_copyFrom_16 : decode cX1_copyFrom 16 = .ok (.aload_n 0, 1) := by decide +kernel
theorem dX1_copyFrom_17 : decode cX1_copyFrom 17 = .ok (.aload_n 1, 1) := by decide +kernel
theorem dX1_copyFrom_18 : decode cX1_copyFrom 18 = .ok (.getfield 45, 3) := by decide +kernel
theorem dX1_copyFrom_21 : decode cX1_copyFrom 21 = .ok (.putfield 45, 3) := by decide +kernel
theorem dX1_copyFrom_24 : decode cX1_copyFrom 24 = .ok (.aload_n 0, 1) := by decide +kernel
theorem dX1_copyFrom_25 : decode cX1_copyFrom 25 = .ok (.aload_n 1, 1) := by decide +kernel
theorem dX1_copyFrom_26 : decode cX1_copyFrom 26 = .ok (.getfield 48, 3) := by decide +kernel
theorem dX1_copyFrom_29 : decode cX1_copyFrom 29 = .ok (.putfield 48, 3) := by decide +kernel
theorem dX1_copyFrom_32 : decode cX1_copyFrom 32 = .ok (.aload_n 0, 1) := by decide +kernel
theorem dX1_copyFrom_33 : decode cX1_copyFrom 33 = .ok (.aload_n 1, 1) := by decide +kernel
theorem dX1_copyFrom_34 : decode cX1_copyFrom 34 = .ok (.getfield 51, 3) := by decide +kernel
theorem dX1_copyFrom_37 : decode cX1_copyFrom 37 = .ok (.putfield 51, 3) := by decide +kernel
theorem dX1_copyFrom_40 : decode cX1_copyFrom 40 = .ok (.aload_n 0, 1) := by decide +kernel
theorem dX1_copyFrom_41 : decode cX1_copyFrom 41 = .ok (.aload_n 1, 1) := by decide +kernel
theorem dX1_copyFrom_42 : decode cX1_copyFrom 42 = .ok (.getfield 54, 3) := by decide +kernel
theorem dX1_copyFrom_45 : decode cX1_copyFrom 45 = .ok (.putfield 54, 3) := by decide +kernel
theorem dX1_copyFrom_48 : decode cX1_copyFrom 48 = .ok (.aload_n 0, 1) := by decide +kernel
theorem dX1_copyFrom_49 : decode cX1_copyFrom 49 = .ok (.aload_n 1, 1) := by decide +kernel
theorem dX1_copyFrom_50 : decode cX1_copyFrom 50 = .ok (.getfield 57, 3) := by decide +kernel
theorem dX1_copyFrom_53 : decode cX1_copyFrom 53 = .ok (.putfield 57, 3) := by decide +kernel
theorem dX1_copyFrom_56 : decode cX1_copyFrom 56 = .ok (.aload_n 0, 1) := by decide +kernel
theorem dX1_copyFrom_57 : decode cX1_copyFrom 57 = .ok (.aload_n 1, 1) := by decide +kernel
theorem dX1_copyFrom_58 : decode cX1_copyFrom 58 = .ok (.getfield 60, 3) := by decide +kernel
theorem dX1_copyFrom_61 : decode cX1_copyFrom 61 = .ok (.putfield 60, 3) := by decide +kernel
theorem dX1_copyFrom_64 : decode cX1_copyFrom 64 = .ok (.aload_n 1, 1) := by decide +kernel
theorem dX1_copyFrom_65 : decode cX1_copyFrom 65 = .ok (.getfield 29, 3) := by decide +kernel
theorem dX1_copyFrom_68 : decode cX1_copyFrom 68 = .ok (.iconst 0, 1) := by decide +kernel
theorem dX1_copyFrom_69 : decode cX1_copyFrom 69 = .ok (.aload_n 0, 1) := by decide +kernel
theorem dX1_copyFrom_70 : decode cX1_copyFrom 70 = .ok (.getfield 29, 3) := by decide +kernel
theorem dX1_copyFrom_73 : decode cX1_copyFrom 73 = .ok (.iconst 0, 1) := by decide +kernel
theorem dX1_copyFrom_74 : decode cX1_copyFrom 74 = .ok (.iconst 3, 1) := by decide +kernel
theorem dX1_copyFrom_75 : decode cX1_copyFrom 75 = .ok (.invokestatic 63, 3) := by decide +kernel
theorem dX1_copyFrom_78 : decode cX1_copyFrom 78 = .ok (.iconst 0, 1) := by decide +kernel
theorem dX1_copyFrom_79 : decode cX1_copyFrom 79 = .ok (.istore_n 2, 1) := by decide +kernel
theorem dX1_copyFrom_80 : decode cX1_copyFrom 80 = .ok (.iload_n 2, 1) := by decide +kernel
theorem dX1_copyFrom_81 : decode cX1_copyFrom 81 = .ok (.aload_n 0, 1) := by decide +kernel
theorem dX1_copyFrom_82 : decode cX1_copyFrom 82 = .ok (.getfield 38, 3) := by decide +kernel
theorem dX1_copyFrom_85 : decode cX1_copyFrom 85 = .ok (.if_icmp .ge 24, 3) := by decide +kernel
theorem dX1_copyFrom_88 : decode cX1_copyFrom 88 = .ok (.aload_n 0, 1) := by decide +kernel
theorem dX1_copyFrom_89 : decode cX1_copyFrom 89 = .ok (.getfield 11, 3) := by decide +kernel
theorem dX1_copyFrom_92 : decode cX1_copyFrom 92 = .ok (.iload_n 2, 1) := by decide +kernel
theorem dX1_copyFrom_93 : decode cX1_copyFrom 93 = .ok (.aaload, 1) := by decide +kernel
theorem dX1_copyFrom_94 : decode cX1_copyFrom 94 = .ok (.aload_n 1, 1) := by decide +kernel
theorem dX1_copyFrom_95 : decode cX1_copyFrom 95 = .ok (.getfield 11, 3) := by decide +kernel
theorem dX1_copyFrom_98 : decode cX1_copyFrom 98 = .ok (.iload_n 2, 1) := by decide +kernel
theorem dX1_copyFrom_99 : decode cX1_copyFrom 99 = .ok (.aaload, 1) := by decide +kernel
theorem dX1_copyFrom_100 : decode cX1_copyFrom 100 = .ok (.invokevirtual 69, 3) := by decide +kernel
theorem dX1_copyFrom_103 : decode cX1_copyFrom 103 = .ok (.iinc 2 1, 3) := by decide +kernel
theorem dX1_copyFrom_106 : decode cX1_copyFrom 106 = .ok (.goto (-26), 3) := by decide +kernel
theorem dX1_copyFrom_109 : decode cX1_copyFrom 109 = .ok (.iconst 0, 1) := by decide +kernel
theorem dX1_copyFrom_110 : decode cX1_copyFrom 110 = .ok (.istore_n 2, 1) := by decide +kernel
theorem dX1_copyFrom_111 : decode cX1_copyFrom 111 = .ok (.iload_n 2, 1) := by decide +kernel
theorem dX1_copyFrom_112 : decode cX1_copyFrom 112 = .ok (.aload_n 0, 1) := by decide +kernel
theorem dX1_copyFrom_113 : decode cX1_copyFrom 113 = .ok (.getfield 42, 3) := by decide +kernel
theorem dX1_copyFrom_116 : decode cX1_copyFrom 116 = .ok (.if_icmp .ge 24, 3) := by decide +kernel
theorem dX1_copyFrom_119 : decode cX1_copyFrom 119 = .ok (.aload_n 0, 1) := by decide +kernel
theorem dX1_copyFrom_120 : decode cX1_copyFrom 120 = .ok (.getfield 19, 3) := by decide +kernel
theorem dX1_copyFrom_123 : decode cX1_copyFrom 123 = .ok (.iload_n 2, 1) := by decide +kernel
theorem dX1_copyFrom_124 : decode cX1_copyFrom 124 = .ok (.aaload, 1) := by decide +kernel
theorem dX1_copyFrom_125 : decode cX1_copyFrom 125 = .ok (.aload_n 1, 1) := by decide +kernel
theorem dX1_copyFrom_126 : decode cX1_copyFrom 126 = .ok (.getfield 19, 3) := by decide +kernel
theorem dX1_copyFrom_129 : decode cX1_copyFrom 129 = .ok (.iload_n 2, 1) := by decide +kernel
theorem dX1_copyFrom_130 : decode cX1_copyFrom 130 = .ok (.aaload, 1) := by decide +kernel
theorem dX1_copyFrom_131 : decode cX1_copyFrom 131 = .ok (.invokevirtual 73, 3) := by decide +kernel
theorem dX1_copyFrom_134 : decode cX1_copyFrom 134 = .ok (.iinc 2 1, 3) := by decide +kernel
theorem dX1_copyFrom_137 : decode cX1_copyFrom 137 = .ok (.goto (-26), 3) := by decide +kernel
theorem dX1_copyFrom_140 : decode cX1_copyFrom 140 = .ok (.iconst 0, 1) := by decide +kernel
theorem dX1_copyFrom_141 : decode cX1_copyFrom 141 = .ok (.istore_n 2, 1) := by decide +kernel
theorem dX1_copyFrom_142 : decode cX1_copyFrom 142 = .ok (.iload_n 2, 1) := by decide +kernel
theorem dX1_copyFrom_143 : decode cX1_copyFrom 143 = .ok (.aload_n 0, 1) := by decide +kernel
theorem dX1_copyFrom_144 : decode cX1_copyFrom 144 = .ok (.getfield 45, 3) := by decide +kernel
theorem dX1_copyFrom_147 : decode cX1_copyFrom 147 = .ok (.if_icmp .ge 24, 3) := by decide +kernel
theorem dX1_copyFrom_150 : decode cX1_copyFrom 150 = .ok (.aload_n 0, 1) := by decide +kernel
theorem dX1_copyFrom_151 : decode cX1_copyFrom 151 = .ok (.getfield 25, 3) := by decide +kernel
theorem dX1_copyFrom_154 : decode cX1_copyFrom 154 = .ok (.iload_n 2, 1) := by decide +kernel
theorem dX1_copyFrom_155 : decode cX1_copyFrom 155 = .ok (.aaload, 1) := by decide +kernel
theorem dX1_copyFrom_156 : decode cX1_copyFrom 156 = .ok (.aload_n 1, 1) := by decide +kernel
theorem dX1_copyFrom_157 : decode cX1_copyFrom 157 = .ok (.getfield 25, 3) := by decide +kernel
theorem dX1_copyFrom_160 : decode cX1_copyFrom 160 = .ok (.iload_n 2, 1) := by decide +kernel
theorem dX1_copyFrom_161 : decode cX1_copyFrom 161 = .ok (.aaload, 1) := by decide +kernel
theorem dX1_copyFrom_162 : decode cX1_copyFrom 162 = .ok (.invokevirtual 76, 3) := by decide +kernel
theorem dX1_copyFrom_165 : decode cX1_copyFrom 165 = .ok (.iinc 2 1, 3) := by decide +kernel
theorem dX1_copyFrom_168 : decode cX1_copyFrom 168 = .ok (.goto (-26), 3) := by decide +kernel
theorem dX1_copyFrom_171 : decode cX1_copyFrom 171 = .ok (.return_, 1) := by decide +kernel
theorem dX1_consignmentAt_0 : decode cX1_consignmentAt 0 = .ok (.iload_n 1, 1) := by decide +kernel
theorem dX1_consignmentAt_1 : decode cX1_consignmentAt 1 = .ok (.ifCond .lt 17, 3) := by decide +kernel
theorem dX1_consignmentAt_4 : decode cX1_consignmentAt 4 = .ok (.iload_n 1, 1) := by decide +kernel
theorem dX1_consignmentAt_5 : decode cX1_consignmentAt 5 = .ok (.aload_n 0, 1) := by decide +kernel
theorem dX1_consignmentAt_6 : decode cX1_consignmentAt 6 = .ok (.getfield 38, 3) := by decide +kernel
theorem dX1_consignmentAt_9 : decode cX1_consignmentAt 9 = .ok (.if_icmp .ge 9, 3) := by decide +kernel
theorem dX1_consignmentAt_12 : decode cX1_consignmentAt 12 = .ok (.iload_n 1, 1) := by decide +kernel
theorem dX1_consignmentAt_13 : decode cX1_consignmentAt 13 = .ok (.bipush 16, 2) := by decide +kernel
theorem dX1_consignmentAt_15 : decode cX1_consignmentAt 15 = .ok (.if_icmp .lt 5, 3) := by decide +kernel
theorem dX1_consignmentAt_18 : decode cX1_consignmentAt 18 = .ok (.aconst_null, 1) := by decide +kernel
theorem dX1_consignmentAt_19 : decode cX1_consignmentAt 19 = .ok (.areturn, 1) := by decide +kernel
theorem dX1_consignmentAt_20 : decode cX1_consignmentAt 20 = .ok (.aload_n 0, 1) := by decide +kernel
theorem dX1_consignmentAt_21 : decode cX1_consignmentAt 21 = .ok (.getfield 11, 3) := by decide +kernel
theorem dX1_consignmentAt_24 : decode cX1_consignmentAt 24 = .ok (.iload_n 1, 1) := by decide +kernel
theorem dX1_consignmentAt_25 : decode cX1_consignmentAt 25 = .ok (.aaload, 1) := by decide +kernel
theorem dX1_consignmentAt_26 : decode cX1_consignmentAt 26 = .ok (.getfield 79, 3) := by decide +kernel
theorem dX1_consignmentAt_29 : decode cX1_consignmentAt 29 = .ok (.iconst 5, 1) := by decide +kernel
theorem dX1_consignmentAt_30 : decode cX1_consignmentAt 30 = .ok (.if_icmp .ne 7, 3) := by decide +kernel
theorem dX1_consignmentAt_33 : decode cX1_consignmentAt 33 = .ok (.aconst_null, 1) := by decide +kernel
theorem dX1_consignmentAt_34 : decode cX1_consignmentAt 34 = .ok (.goto 9, 3) := by decide +kernel
theorem dX1_consignmentAt_37 : decode cX1_consignmentAt 37 = .ok (.aload_n 0, 1) := by decide +kernel
theorem dX1_consignmentAt_38 : decode cX1_consignmentAt 38 = .ok (.getfield 11, 3) := by decide +kernel
theorem dX1_consignmentAt_41 : decode cX1_consignmentAt 41 = .ok (.iload_n 1, 1) := by decide +kernel
theorem dX1_consignmentAt_42 : decode cX1_consignmentAt 42 = .ok (.aaload, 1) := by decide +kernel
theorem dX1_consignmentAt_43 : decode cX1_consignmentAt 43 = .ok (.areturn, 1) := by decide +kernel
theorem dX1_vehicleAt_0 : decode cX1_vehicleAt 0 = .ok (.iload_n 1, 1) := by decide +kernel
theorem dX1_vehicleAt_1 : decode cX1_vehicleAt 1 = .ok (.ifCond .lt 16, 3) := by decide +kernel
theorem dX1_vehicleAt_4 : decode cX1_vehicleAt 4 = .ok (.iload_n 1, 1) := by decide +kernel
theorem dX1_vehicleAt_5 : decode cX1_vehicleAt 5 = .ok (.aload_n 0, 1) := by decide +kernel
theorem dX1_vehicleAt_6 : decode cX1_vehicleAt 6 = .ok (.getfield 42, 3) := by decide +kernel
theorem dX1_vehicleAt_9 : decode cX1_vehicleAt 9 = .ok (.if_icmp .ge 8, 3) := by decide +kernel
theorem dX1_vehicleAt_12 : decode cX1_vehicleAt 12 = .ok (.iload_n 1, 1) := by decide +kernel
theorem dX1_vehicleAt_13 : decode cX1_vehicleAt 13 = .ok (.iconst 4, 1) := by decide +kernel
theorem dX1_vehicleAt_14 : decode cX1_vehicleAt 14 = .ok (.if_icmp .lt 5, 3) := by decide +kernel
theorem dX1_vehicleAt_17 : decode cX1_vehicleAt 17 = .ok (.aconst_null, 1) := by decide +kernel
theorem dX1_vehicleAt_18 : decode cX1_vehicleAt 18 = .ok (.areturn, 1) := by decide +kernel
theorem dX1_vehicleAt_19 : decode cX1_vehicleAt 19 = .ok (.aload_n 0, 1) := by decide +kernel
theorem dX1_vehicleAt_20 : decode cX1_vehicleAt 20 = .ok (.getfield 19, 3) := by decide +kernel
theorem dX1_vehicleAt_23 : decode cX1_vehicleAt 23 = .ok (.iload_n 1, 1) := by decide +kernel
theorem dX1_vehicleAt_24 : decode cX1_vehicleAt 24 = .ok (.aaload, 1) := by decide +kernel
theorem dX1_vehicleAt_25 : decode cX1_vehicleAt 25 = .ok (.areturn, 1) := by decide +kernel
theorem dX1_makeConsignment_0 : decode cX1_makeConsignment 0 = .ok (.aload_n 0, 1) := by decide +kernel
theorem dX1_makeConsignment_1 : decode cX1_makeConsignment 1 = .ok (.getfield 38, 3) := by decide +kernel
theorem dX1_makeConsignment_4 : decode cX1_makeConsignment 4 = .ok (.bipush 16, 2) := by decide +kernel
theorem dX1_makeConsignment_6 : decode cX1_makeConsignment 6 = .ok (.if_icmp .lt 6, 3) := by decide +kernel
theorem dX1_makeConsignment_9 : decode cX1_makeConsignment 9 = .ok (.ldc 82, 2) := by decide +kernel
theorem dX1_makeConsignment_11 : decode cX1_makeConsignment 11 = .ok (.ireturn, 1) := by decide +kernel
theorem dX1_makeConsignment_12 : decode cX1_makeConsignment 12 = .ok (.aload_n 0, 1) := by decide +kernel
theorem dX1_makeConsignment_13 : decode cX1_makeConsignment 13 = .ok (.getfield 11, 3) := by decide +kernel
theorem dX1_makeConsignment_16 : decode cX1_makeConsignment 16 = .ok (.aload_n 0, 1) := by decide +kernel
theorem dX1_makeConsignment_17 : decode cX1_makeConsignment 17 = .ok (.getfield 38, 3) := by decide +kernel
theorem dX1_makeConsignment_20 : decode cX1_makeConsignment 20 = .ok (.aaload, 1) := by decide +kernel
theorem dX1_makeConsignment_21 : decode cX1_makeConsignment 21 = .ok (.astore 7, 2) := by decide +kernel
theorem dX1_makeConsignment_23 : decode cX1_makeConsignment 23 = .ok (.aload 7, 2) := by decide +kernel
theorem dX1_makeConsignment_25 : decode cX1_makeConsignment 25 = .ok (.iload_n 1, 1) := by decide +kernel
theorem dX1_makeConsignment_26 : decode cX1_makeConsignment 26 = .ok (.putfield 83, 3) := by decide +kernel
theorem dX1_makeConsignment_29 : decode cX1_makeConsignment 29 = .ok (.aload 7, 2) := by decide +kernel
theorem dX1_makeConsignment_31 : decode cX1_makeConsignment 31 = .ok (.iload_n 2, 1) := by decide +kernel
theorem dX1_makeConsignment_32 : decode cX1_makeConsignment 32 = .ok (.putfield 86, 3) := by decide +kernel
theorem dX1_makeConsignment_35 : decode cX1_makeConsignment 35 = .ok (.aload 7, 2) := by decide +kernel
theorem dX1_makeConsignment_37 : decode cX1_makeConsignment 37 = .ok (.iload_n 3, 1) := by decide +kernel
theorem dX1_makeConsignment_38 : decode cX1_makeConsignment 38 = .ok (.putfield 89, 3) := by decide +kernel
theorem dX1_makeConsignment_41 : decode cX1_makeConsignment 41 = .ok (.aload 7, 2) := by decide +kernel
theorem dX1_makeConsignment_43 : decode cX1_makeConsignment 43 = .ok (.iload 4, 2) := by decide +kernel
theorem dX1_makeConsignment_45 : decode cX1_makeConsignment 45 = .ok (.putfield 92, 3) := by decide +kernel
theorem dX1_makeConsignment_48 : decode cX1_makeConsignment 48 = .ok (.aload 7, 2) := by decide +kernel
theorem dX1_makeConsignment_50 : decode cX1_makeConsignment 50 = .ok (.iload 5, 2) := by decide +kernel
theorem dX1_makeConsignment_52 : decode cX1_makeConsignment 52 = .ok (.putfield 95, 3) := by decide +kernel
theorem dX1_makeConsignment_55 : decode cX1_makeConsignment 55 = .ok (.aload 7, 2) := by decide +kernel
theorem dX1_makeConsignment_57 : decode cX1_makeConsignment 57 = .ok (.iload 6, 2) := by decide +kernel
theorem dX1_makeConsignment_59 : decode cX1_makeConsignment 59 = .ok (.putfield 98, 3) := by decide +kernel
theorem dX1_makeConsignment_62 : decode cX1_makeConsignment 62 = .ok (.aload 7, 2) := by decide +kernel
theorem dX1_makeConsignment_64 : decode cX1_makeConsignment 64 = .ok (.aload_n 0, 1) := by decide +kernel
theorem dX1_makeConsignment_65 : decode cX1_makeConsignment 65 = .ok (.getfield 48, 3) := by decide +kernel
theorem dX1_makeConsignment_68 : decode cX1_makeConsignment 68 = .ok (.putfield 101, 3) := by decide +kernel
theorem dX1_makeConsignment_71 : decode cX1_makeConsignment 71 = .ok (.aload 7, 2) := by decide +kernel
theorem dX1_makeConsignment_73 : decode cX1_makeConsignment 73 = .ok (.aload 7, 2) := by decide +kernel
theorem dX1_makeConsignment_75 : decode cX1_makeConsignment 75 = .ok (.getfield 104, 3) := by decide +kernel
theorem dX1_makeConsignment_78 : decode cX1_makeConsignment 78 = .ok (.putfield 107, 3) := by decide +kernel
theorem dX1_makeConsignment_81 : decode cX1_makeConsignment 81 = .ok (.aload 7, 2) := by decide +kernel
theorem dX1_makeConsignment_83 : decode cX1_makeConsignment 83 = .ok (.invokevirtual 110, 3) := by decide +kernel
theorem dX1_makeConsignment_86 : decode cX1_makeConsignment 86 = .ok (.aload_n 0, 1) := by decide +kernel
theorem dX1_makeConsignment_87 : decode cX1_makeConsignment 87 = .ok (.dup, 1) := by decide +kernel
theorem dX1_makeConsignment_88 : decode cX1_makeConsignment 88 = .ok (.getfield 38, 3) := by decide +kernel
theorem dX1_makeConsignment_91 : decode cX1_makeConsignment 91 = .ok (.iconst 1, 1) := by decide +kernel
theorem dX1_makeConsignment_92 : decode cX1_makeConsignment 92 = .ok (.iadd, 1) := by decide +kernel
theorem dX1_makeConsignment_93 : decode cX1_makeConsignment 93 = .ok (.putfield 38, 3) := by decide +kernel
theorem dX1_makeConsignment_96 : decode cX1_makeConsignment 96 = .ok (.aload 7, 2) := by decide +kernel
theorem dX1_makeConsignment_98 : decode cX1_makeConsignment 98 = .ok (.getfield 104, 3) := by decide +kernel
theorem dX1_makeConsignment_101 : decode cX1_makeConsignment 101 = .ok (.ireturn, 1) := by decide +kernel
theorem dX1_splitOff_0 : decode cX1_splitOff 0 = .ok (.aload_n 0, 1) := by decide +kernel
theorem dX1_splitOff_1 : decode cX1_splitOff 1 = .ok (.iload_n 1, 1) := by decide +kernel
theorem dX1_splitOff_2 : decode cX1_splitOff 2 = .ok (.invokevirtual 113, 3) := by decide +kernel
theorem dX1_splitOff_5 : decode cX1_splitOff 5 = .ok (.astore 4, 2) := by decide +kernel
theorem dX1_splitOff_7 : decode cX1_splitOff 7 = .ok (.aload 4, 2) := by decide +kernel
theorem dX1_splitOff_9 : decode cX1_splitOff 9 = .ok (.ifnull 33, 3) := by decide +kernel
theorem dX1_splitOff_12 : decode cX1_splitOff 12 = .ok (.iload_n 2, 1) := by decide +kernel
theorem dX1_splitOff_13 : decode cX1_splitOff 13 = .ok (.iconst 1, 1) := by decide +kernel
theorem dX1_splitOff_14 : decode cX1_splitOff 14 = .ok (.aload 4, 2) := by decide +kernel
theorem dX1_splitOff_16 : decode cX1_splitOff 16 = .ok (.getfield 86, 3) := by decide +kernel
theorem dX1_splitOff_19 : decode cX1_splitOff 19 = .ok (.iconst 1, 1) := by decide +kernel
theorem dX1_splitOff_20 : decode cX1_splitOff 20 = .ok (.isub, 1) := by decide +kernel
theorem dX1_splitOff_21 : decode cX1_splitOff 21 = .ok (.invokestatic 117, 3) := by decide +kernel
theorem dX1_splitOff_24 : decode cX1_splitOff 24 = .ok (.ifCond .eq 18, 3) := by decide +kernel
theorem dX1_splitOff_27 : decode cX1_splitOff 27 = .ok (.iload_n 3, 1) := by decide +kernel
theorem dX1_splitOff_28 : decode cX1_splitOff 28 = .ok (.iconst 1, 1) := by decide +kernel
theorem dX1_splitOff_29 : decode cX1_splitOff 29 = .ok (.aload 4, 2) := by decide +kernel
theorem dX1_splitOff_31 : decode cX1_splitOff 31 = .ok (.getfield 89, 3) := by decide +kernel
theorem dX1_splitOff_34 : decode cX1_splitOff 34 = .ok (.iconst 1, 1) := by decide +kernel
theorem dX1_splitOff_35 : decode cX1_splitOff 35 = .ok (.isub, 1) := by decide +kernel
theorem dX1_splitOff_36 : decode cX1_splitOff 36 = .ok (.invokestatic 117, 3) := by decide +kernel
theorem dX1_splitOff_39 : decode cX1_splitOff 39 = .ok (.ifCond .ne 6, 3) := by decide +kernel
theorem dX1_splitOff_42 : decode cX1_splitOff 42 = .ok (.ldc 121, 2) := by decide +kernel
theorem dX1_splitOff_44 : decode cX1_splitOff 44 = .ok (.ireturn, 1) := by decide +kernel
theorem dX1_splitOff_45 : decode cX1_splitOff 45 = .ok (.aload 4, 2) := by decide +kernel
theorem dX1_splitOff_47 : decode cX1_splitOff 47 = .ok (.getfield 79, 3) := by decide +kernel
theorem dX1_splitOff_50 : decode cX1_splitOff 50 = .ok (.ifCond .eq 6, 3) := by decide +kernel
theorem dX1_splitOff_53 : decode cX1_splitOff 53 = .ok (.ldc 122, 2) := by decide +kernel
theorem dX1_splitOff_55 : decode cX1_splitOff 55 = .ok (.ireturn, 1) := by decide +kernel
theorem dX1_splitOff_56 : decode cX1_splitOff 56 = .ok (.aload_n 0, 1) := by decide +kernel
theorem dX1_splitOff_57 : decode cX1_splitOff 57 = .ok (.getfield 38, 3) := by decide +kernel
theorem dX1_splitOff_60 : decode cX1_splitOff 60 = .ok (.bipush 16, 2) := by decide +kernel
theorem dX1_splitOff_62 : decode cX1_splitOff 62 = .ok (.if_icmp .lt 6, 3) := by decide +kernel
theorem dX1_splitOff_65 : decode cX1_splitOff 65 = .ok (.ldc 82, 2) := by decide +kernel
theorem dX1_splitOff_67 : decode cX1_splitOff 67 = .ok (.ireturn, 1) := by decide +kernel
theorem dX1_splitOff_68 : decode cX1_splitOff 68 = .ok (.aload_n 0, 1) := by decide +kernel
theorem dX1_splitOff_69 : decode cX1_splitOff 69 = .ok (.getfield 11, 3) := by decide +kernel
theorem dX1_splitOff_72 : decode cX1_splitOff 72 = .ok (.aload_n 0, 1) := by decide +kernel
theorem dX1_splitOff_73 : decode cX1_splitOff 73 = .ok (.getfield 38, 3) := by decide +kernel
theorem dX1_splitOff_76 : decode cX1_splitOff 76 = .ok (.aaload, 1) := by decide +kernel
theorem dX1_splitOff_77 : decode cX1_splitOff 77 = .ok (.astore 5, 2) := by decide +kernel
theorem dX1_splitOff_79 : decode cX1_splitOff 79 = .ok (.aload 5, 2) := by decide +kernel
theorem dX1_splitOff_81 : decode cX1_splitOff 81 = .ok (.aload 4, 2) := by decide +kernel
theorem dX1_splitOff_83 : decode cX1_splitOff 83 = .ok (.invokevirtual 123, 3) := by decide +kernel
theorem dX1_splitOff_86 : decode cX1_splitOff 86 = .ok (.aload 5, 2) := by decide +kernel
theorem dX1_splitOff_88 : decode cX1_splitOff 88 = .ok (.invokevirtual 110, 3) := by decide +kernel
theorem dX1_splitOff_91 : decode cX1_splitOff 91 = .ok (.aload 5, 2) := by decide +kernel
theorem dX1_splitOff_93 : decode cX1_splitOff 93 = .ok (.iload_n 2, 1) := by decide +kernel
theorem dX1_splitOff_94 : decode cX1_splitOff 94 = .ok (.putfield 86, 3) := by decide +kernel
theorem dX1_splitOff_97 : decode cX1_splitOff 97 = .ok (.aload 5, 2) := by decide +kernel
theorem dX1_splitOff_99 : decode cX1_splitOff 99 = .ok (.iload_n 3, 1) := by decide +kernel
theorem dX1_splitOff_100 : decode cX1_splitOff 100 = .ok (.putfield 89, 3) := by decide +kernel
theorem dX1_splitOff_103 : decode cX1_splitOff 103 = .ok (.aload 5, 2) := by decide +kernel
theorem dX1_splitOff_105 : decode cX1_splitOff 105 = .ok (.aload 4, 2) := by decide +kernel
theorem dX1_splitOff_107 : decode cX1_splitOff 107 = .ok (.getfield 98, 3) := by decide +kernel
theorem dX1_splitOff_110 : decode cX1_splitOff 110 = .ok (.iload_n 2, 1) := by decide +kernel
theorem dX1_splitOff_111 : decode cX1_splitOff 111 = .ok (.imul, 1) := by decide +kernel
theorem dX1_splitOff_112 : decode cX1_splitOff 112 = .ok (.aload 4, 2) := by decide +kernel
theorem dX1_splitOff_114 : decode cX1_splitOff 114 = .ok (.getfield 86, 3) := by decide +kernel
theorem dX1_splitOff_117 : decode cX1_splitOff 117 = .ok (.idiv, 1) := by decide +kernel
theorem dX1_splitOff_118 : decode cX1_splitOff 118 = .ok (.putfield 98, 3) := by decide +kernel
theorem dX1_splitOff_121 : decode cX1_splitOff 121 = .ok (.aload 4, 2) := by decide +kernel
theorem dX1_splitOff_123 : decode cX1_splitOff 123 = .ok (.dup, 1) := by decide +kernel
theorem dX1_splitOff_124 : decode cX1_splitOff 124 = .ok (.getfield 86, 3) := by decide +kernel
theorem dX1_splitOff_127 : decode cX1_splitOff 127 = .ok (.iload_n 2, 1) := by decide +kernel
theorem dX1_splitOff_128 : decode cX1_splitOff 128 = .ok (.isub, 1) := by decide +kernel
theorem dX1_splitOff_129 : decode cX1_splitOff 129 = .ok (.putfield 86, 3) := by decide +kernel
theorem dX1_splitOff_132 : decode cX1_splitOff 132 = .ok (.aload 4, 2) := by decide +kernel
theorem dX1_splitOff_134 : decode cX1_splitOff 134 = .ok (.dup, 1) := by decide +kernel
theorem dX1_splitOff_135 : decode cX1_splitOff 135 = .ok (.getfield 89, 3) := by decide +kernel
theorem dX1_splitOff_138 : decode cX1_splitOff 138 = .ok (.iload_n 3, 1) := by decide +kernel
theorem dX1_splitOff_139 : decode cX1_splitOff 139 = .ok (.isub, 1) := by decide +kernel
theorem dX1_splitOff_140 : decode cX1_splitOff 140 = .ok (.putfield 89, 3) := by decide +kernel
theorem dX1_splitOff_143 : decode cX1_splitOff 143 = .ok (.aload 4, 2) := by decide +kernel
theorem dX1_splitOff_145 : decode cX1_splitOff 145 = .ok (.dup, 1) := by decide +kernel
theorem dX1_splitOff_146 : decode cX1_splitOff 146 = .ok (.getfield 98, 3) := by decide +kernel
theorem dX1_splitOff_149 : decode cX1_splitOff 149 = .ok (.aload 5, 2) := by decide +kernel
theorem dX1_splitOff_151 : decode cX1_splitOff 151 = .ok (.getfield 98, 3) := by decide +kernel
theorem dX1_splitOff_154 : decode cX1_splitOff 154 = .ok (.isub, 1) := by decide +kernel
theorem dX1_splitOff_155 : decode cX1_splitOff 155 = .ok (.putfield 98, 3) := by decide +kernel
theorem dX1_splitOff_158 : decode cX1_splitOff 158 = .ok (.aload_n 0, 1) := by decide +kernel
theorem dX1_splitOff_159 : decode cX1_splitOff 159 = .ok (.dup, 1) := by decide +kernel
theorem dX1_splitOff_160 : decode cX1_splitOff 160 = .ok (.getfield 38, 3) := by decide +kernel
theorem dX1_splitOff_163 : decode cX1_splitOff 163 = .ok (.iconst 1, 1) := by decide +kernel
theorem dX1_splitOff_164 : decode cX1_splitOff 164 = .ok (.iadd, 1) := by decide +kernel
theorem dX1_splitOff_165 : decode cX1_splitOff 165 = .ok (.putfield 38, 3) := by decide +kernel
theorem dX1_splitOff_168 : decode cX1_splitOff 168 = .ok (.aload 5, 2) := by decide +kernel
theorem dX1_splitOff_170 : decode cX1_splitOff 170 = .ok (.getfield 104, 3) := by decide +kernel
theorem dX1_splitOff_173 : decode cX1_splitOff 173 = .ok (.ireturn, 1) := by decide +kernel
theorem dX1_joinParts_0 : decode cX1_joinParts 0 = .ok (.aload_n 0, 1) := by decide +kernel
theorem dX1_joinParts_1 : decode cX1_joinParts 1 = .ok (.iload_n 1, 1) := by decide +kernel
theorem dX1_joinParts_2 : decode cX1_joinParts 2 = .ok (.iload_n 2, 1) := by decide +kernel
theorem dX1_joinParts_3 : decode cX1_joinParts 3 = .ok (.invokestatic 126, 3) := by decide +kernel
theorem dX1_joinParts_6 : decode cX1_joinParts 6 = .ok (.invokevirtual 113, 3) := by decide +kernel
theorem dX1_joinParts_9 : decode cX1_joinParts 9 = .ok (.astore_n 3, 1) := by decide +kernel
theorem dX1_joinParts_10 : decode cX1_joinParts 10 = .ok (.aload_n 0, 1) := by decide +kernel
theorem dX1_joinParts_11 : decode cX1_joinParts 11 = .ok (.iload_n 1, 1) := by decide +kernel
theorem dX1_joinParts_12 : decode cX1_joinParts 12 = .ok (.iload_n 2, 1) := by decide +kernel
theorem dX1_joinParts_13 : decode cX1_joinParts 13 = .ok (.invokestatic 132, 3) := by decide +kernel
theorem dX1_joinParts_16 : decode cX1_joinParts 16 = .ok (.invokevirtual 113, 3) := by decide +kernel
theorem dX1_joinParts_19 : decode cX1_joinParts 19 = .ok (.astore 4, 2) := by decide +kernel
theorem dX1_joinParts_21 : decode cX1_joinParts 21 = .ok (.aload_n 3, 1) := by decide +kernel
theorem dX1_joinParts_22 : decode cX1_joinParts 22 = .ok (.ifnull 13, 3) := by decide +kernel
theorem dX1_joinParts_25 : decode cX1_joinParts 25 = .ok (.aload 4, 2) := by decide +kernel
theorem dX1_joinParts_27 : decode cX1_joinParts 27 = .ok (.ifnull 8, 3) := by decide +kernel
theorem dX1_joinParts_30 : decode cX1_joinParts 30 = .ok (.iload_n 1, 1) := by decide +kernel
theorem dX1_joinParts_31 : decode cX1_joinParts 31 = .ok (.iload_n 2, 1) := by decide +kernel
theorem dX1_joinParts_32 : decode cX1_joinParts 32 = .ok (.if_icmp .ne 6, 3) := by decide +kernel
theorem dX1_joinParts_35 : decode cX1_joinParts 35 = .ok (.ldc 121, 2) := by decide +kernel
theorem dX1_joinParts_37 : decode cX1_joinParts 37 = .ok (.ireturn, 1) := by decide +kernel
theorem dX1_joinParts_38 : decode cX1_joinParts 38 = .ok (.aload_n 3, 1) := by decide +kernel
theorem dX1_joinParts_39 : decode cX1_joinParts 39 = .ok (.getfield 107, 3) := by decide +kernel
theorem dX1_joinParts_42 : decode cX1_joinParts 42 = .ok (.aload 4, 2) := by decide +kernel
theorem dX1_joinParts_44 : decode cX1_joinParts 44 = .ok (.getfield 107, 3) := by decide +kernel
theorem dX1_joinParts_47 : decode cX1_joinParts 47 = .ok (.if_icmp .ne 18, 3) := by decide +kernel
theorem dX1_joinParts_50 : decode cX1_joinParts 50 = .ok (.aload_n 3, 1) := by decide +kernel
theorem dX1_joinParts_51 : decode cX1_joinParts 51 = .ok (.getfield 79, 3) := by decide +kernel
theorem dX1_joinParts_54 : decode cX1_joinParts 54 = .ok (.ifCond .ne 11, 3) := by decide +kernel
theorem dX1_joinParts_57 : decode cX1_joinParts 57 = .ok (.aload 4, 2) := by decide +kernel
theorem dX1_joinParts_59 : decode cX1_joinParts 59 = .ok (.getfield 79, 3) := by decide +kernel
theorem dX1_joinParts_62 : decode cX1_joinParts 62 = .ok (.ifCond .eq 6, 3) := by decide +kernel
theorem dX1_joinParts_65 : decode cX1_joinParts 65 = .ok (.ldc 122, 2) := by decide +kernel
theorem dX1_joinParts_67 : decode cX1_joinParts 67 = .ok (.ireturn, 1) := by decide +kernel
theorem dX1_joinParts_68 : decode cX1_joinParts 68 = .ok (.aload_n 3, 1) := by decide +kernel
theorem dX1_joinParts_69 : decode cX1_joinParts 69 = .ok (.dup, 1) := by decide +kernel
theorem dX1_joinParts_70 : decode cX1_joinParts 70 = .ok (.getfield 86, 3) := by decide +kernel
theorem dX1_joinParts_73 : decode cX1_joinParts 73 = .ok (.aload 4, 2) := by decide +kernel
theorem dX1_joinParts_75 : decode cX1_joinParts 75 = .ok (.getfield 86, 3) := by decide +kernel
theorem dX1_joinParts_78 : decode cX1_joinParts 78 = .ok (.iadd, 1) := by decide +kernel
theorem dX1_joinParts_79 : decode cX1_joinParts 79 = .ok (.putfield 86, 3) := by decide +kernel
theorem dX1_joinParts_82 : decode cX1_joinParts 82 = .ok (.aload_n 3, 1) := by decide +kernel
theorem dX1_joinParts_83 : decode cX1_joinParts 83 = .ok (.dup, 1) := by decide +kernel
theorem dX1_joinParts_84 : decode cX1_joinParts 84 = .ok (.getfield 89, 3) := by decide +kernel
theorem dX1_joinParts_87 : decode cX1_joinParts 87 = .ok (.aload 4, 2) := by decide +kernel
theorem dX1_joinParts_89 : decode cX1_joinParts 89 = .ok (.getfield 89, 3) := by decide +kernel
theorem dX1_joinParts_92 : decode cX1_joinParts 92 = .ok (.iadd, 1) := by decide +kernel
theorem dX1_joinParts_93 : decode cX1_joinParts 93 = .ok (.putfield 89, 3) := by decide +kernel
theorem dX1_joinParts_96 : decode cX1_joinParts 96 = .ok (.aload_n 3, 1) := by decide +kernel
theorem dX1_joinParts_97 : decode cX1_joinParts 97 = .ok (.dup, 1) := by decide +kernel
theorem dX1_joinParts_98 : decode cX1_joinParts 98 = .ok (.getfield 98, 3) := by decide +kernel
theorem dX1_joinParts_101 : decode cX1_joinParts 101 = .ok (.aload 4, 2) := by decide +kernel
theorem dX1_joinParts_103 : decode cX1_joinParts 103 = .ok (.getfield 98, 3) := by decide +kernel
theorem dX1_joinParts_106 : decode cX1_joinParts 106 = .ok (.iadd, 1) := by decide +kernel
theorem dX1_joinParts_107 : decode cX1_joinParts 107 = .ok (.putfield 98, 3) := by decide +kernel
theorem dX1_joinParts_110 : decode cX1_joinParts 110 = .ok (.aload_n 3, 1) := by decide +kernel
theorem dX1_joinParts_111 : decode cX1_joinParts 111 = .ok (.aload_n 3, 1) := by decide +kernel
theorem dX1_joinParts_112 : decode cX1_joinParts 112 = .ok (.getfield 101, 3) := by decide +kernel
theorem dX1_joinParts_115 : decode cX1_joinParts 115 = .ok (.aload 4, 2) := by decide +kernel
theorem dX1_joinParts_117 : decode cX1_joinParts 117 = .ok (.getfield 101, 3) := by decide +kernel
theorem dX1_joinParts_120 : decode cX1_joinParts 120 = .ok (.invokestatic 126, 3) := by decide +kernel
theorem dX1_joinParts_123 : decode cX1_joinParts 123 = .ok (.putfield 101, 3) := by decide +kernel
theorem dX1_joinParts_126 : decode cX1_joinParts 126 = .ok (.aload 4, 2) := by decide +kernel
theorem dX1_joinParts_128 : decode cX1_joinParts 128 = .ok (.iconst 5, 1) := by decide +kernel
theorem dX1_joinParts_129 : decode cX1_joinParts 129 = .ok (.putfield 79, 3) := by decide +kernel
theorem dX1_joinParts_132 : decode cX1_joinParts 132 = .ok (.aload_n 3, 1) := by decide +kernel
theorem dX1_joinParts_133 : decode cX1_joinParts 133 = .ok (.getfield 104, 3) := by decide +kernel
theorem dX1_joinParts_136 : decode cX1_joinParts 136 = .ok (.ireturn, 1) := by decide +kernel
theorem dX1_addVehicle_0 : decode cX1_addVehicle 0 = .ok (.iload_n 1, 1) := by decide +kernel
theorem dX1_addVehicle_1 : decode cX1_addVehicle 1 = .ok (.iconst 1, 1) := by decide +kernel
theorem dX1_addVehicle_2 : decode cX1_addVehicle 2 = .ok (.sipush 200, 3) := by decide +kernel
theorem dX1_addVehicle_5 : decode cX1_addVehicle 5 = .ok (.invokestatic 117, 3) := by decide +kernel
theorem dX1_addVehicle_8 : decode cX1_addVehicle 8 = .ok (.ifCond .eq 14, 3) := by decide +kernel
theorem dX1_addVehicle_11 : decode cX1_addVehicle 11 = .ok (.iload_n 2, 1) := by decide +kernel
theorem dX1_addVehicle_12 : decode cX1_addVehicle 12 = .ok (.iconst 1, 1) := by decide +kernel
theorem dX1_addVehicle_13 : decode cX1_addVehicle 13 = .ok (.sipush 200, 3) := by decide +kernel
theorem dX1_addVehicle_16 : decode cX1_addVehicle 16 = .ok (.invokestatic 117, 3) := by decide +kernel
theorem dX1_addVehicle_19 : decode cX1_addVehicle 19 = .ok (.ifCond .ne 6, 3) := by decide +kernel
theorem dX1_addVehicle_22 : decode cX1_addVehicle 22 = .ok (.ldc 121, 2) := by decide +kernel
theorem dX1_addVehicle_24 : decode cX1_addVehicle 24 = .ok (.ireturn, 1) := by decide +kernel
theorem dX1_addVehicle_25 : decode cX1_addVehicle 25 = .ok (.aload_n 0, 1) := by decide +kernel
theorem dX1_addVehicle_26 : decode cX1_addVehicle 26 = .ok (.getfield 42, 3) := by decide +kernel
theorem dX1_addVehicle_29 : decode cX1_addVehicle 29 = .ok (.iconst 4, 1) := by decide +kernel
theorem dX1_addVehicle_30 : decode cX1_addVehicle 30 = .ok (.if_icmp .lt 6, 3) := by decide +kernel
theorem dX1_addVehicle_33 : decode cX1_addVehicle 33 = .ok (.ldc 82, 2) := by decide +kernel
theorem dX1_addVehicle_35 : decode cX1_addVehicle 35 = .ok (.ireturn, 1) := by decide +kernel
theorem dX1_addVehicle_36 : decode cX1_addVehicle 36 = .ok (.aload_n 0, 1) := by decide +kernel
theorem dX1_addVehicle_37 : decode cX1_addVehicle 37 = .ok (.getfield 19, 3) := by decide +kernel
theorem dX1_addVehicle_40 : decode cX1_addVehicle 40 = .ok (.aload_n 0, 1) := by decide +kernel
theorem dX1_addVehicle_41 : decode cX1_addVehicle 41 = .ok (.getfield 42, 3) := by decide +kernel
theorem dX1_addVehicle_44 : decode cX1_addVehicle 44 = .ok (.aaload, 1) := by decide +kernel
theorem dX1_addVehicle_45 : decode cX1_addVehicle 45 = .ok (.astore_n 3, 1) := by decide +kernel
theorem dX1_addVehicle_46 : decode cX1_addVehicle 46 = .ok (.aload_n 3, 1) := by decide +kernel
theorem dX1_addVehicle_47 : decode cX1_addVehicle 47 = .ok (.iload_n 1, 1) := by decide +kernel
theorem dX1_addVehicle_48 : decode cX1_addVehicle 48 = .ok (.putfield 135, 3) := by decide +kernel
theorem dX1_addVehicle_51 : decode cX1_addVehicle 51 = .ok (.aload_n 3, 1) := by decide +kernel
theorem dX1_addVehicle_52 : decode cX1_addVehicle 52 = .ok (.iload_n 2, 1) := by decide +kernel
theorem dX1_addVehicle_53 : decode cX1_addVehicle 53 = .ok (.putfield 138, 3) := by decide +kernel
theorem dX1_addVehicle_56 : decode cX1_addVehicle 56 = .ok (.aload_n 3, 1) := by decide +kernel
theorem dX1_addVehicle_57 : decode cX1_addVehicle 57 = .ok (.iconst 0, 1) := by decide +kernel
theorem dX1_addVehicle_58 : decode cX1_addVehicle 58 = .ok (.putfield 141, 3) := by decide +kernel
theorem dX1_addVehicle_61 : decode cX1_addVehicle 61 = .ok (.aload_n 3, 1) := by decide +kernel
theorem dX1_addVehicle_62 : decode cX1_addVehicle 62 = .ok (.iconst 0, 1) := by decide +kernel
theorem dX1_addVehicle_63 : decode cX1_addVehicle 63 = .ok (.putfield 142, 3) := by decide +kernel
theorem dX1_addVehicle_66 : decode cX1_addVehicle 66 = .ok (.aload_n 3, 1) := by decide +kernel
theorem dX1_addVehicle_67 : decode cX1_addVehicle 67 = .ok (.iconst 0, 1) := by decide +kernel
theorem dX1_addVehicle_68 : decode cX1_addVehicle 68 = .ok (.putfield 145, 3) := by decide +kernel
theorem dX1_addVehicle_71 : decode cX1_addVehicle 71 = .ok (.aload_n 0, 1) := by decide +kernel
theorem dX1_addVehicle_72 : decode cX1_addVehicle 72 = .ok (.dup, 1) := by decide +kernel
theorem dX1_addVehicle_73 : decode cX1_addVehicle 73 = .ok (.getfield 42, 3) := by decide +kernel
theorem dX1_addVehicle_76 : decode cX1_addVehicle 76 = .ok (.iconst 1, 1) := by decide +kernel
theorem dX1_addVehicle_77 : decode cX1_addVehicle 77 = .ok (.iadd, 1) := by decide +kernel
theorem dX1_addVehicle_78 : decode cX1_addVehicle 78 = .ok (.putfield 42, 3) := by decide +kernel
theorem dX1_addVehicle_81 : decode cX1_addVehicle 81 = .ok (.aload_n 3, 1) := by decide +kernel
theorem dX1_addVehicle_82 : decode cX1_addVehicle 82 = .ok (.getfield 148, 3) := by decide +kernel
theorem dX1_addVehicle_85 : decode cX1_addVehicle 85 = .ok (.ireturn, 1) := by decide +kernel
theorem dX1_putInto_0 : decode cX1_putInto 0 = .ok (.aload_n 0, 1) := by decide +kernel
theorem dX1_putInto_1 : decode cX1_putInto 1 = .ok (.iload_n 1, 1) := by decide +kernel
theorem dX1_putInto_2 : decode cX1_putInto 2 = .ok (.invokevirtual 113, 3) := by decide +kernel
theorem dX1_putInto_5 : decode cX1_putInto 5 = .ok (.astore_n 3, 1) := by decide +kernel
theorem dX1_putInto_6 : decode cX1_putInto 6 = .ok (.aload_n 0, 1) := by decide +kernel
theorem dX1_putInto_7 : decode cX1_putInto 7 = .ok (.iload_n 2, 1) := by decide +kernel
theorem dX1_putInto_8 : decode cX1_putInto 8 = .ok (.invokevirtual 149, 3) := by decide +kernel
theorem dX1_putInto_11 : decode cX1_putInto 11 = .ok (.astore 4, 2) := by decide +kernel
theorem dX1_putInto_13 : decode cX1_putInto 13 = .ok (.aload_n 3, 1) := by decide +kernel
theorem dX1_putInto_14 : decode cX1_putInto 14 = .ok (.ifnull 8, 3) := by decide +kernel
theorem dX1_putInto_17 : decode cX1_putInto 17 = .ok (.aload 4, 2) := by decide +kernel
theorem dX1_putInto_19 : decode cX1_putInto 19 = .ok (.ifnonnull 6, 3) := by decide +kernel
theorem dX1_putInto_22 : decode cX1_putInto 22 = .ok (.ldc 121, 2) := by decide +kernel
theorem dX1_putInto_24 : decode cX1_putInto 24 = .ok (.ireturn, 1) := by decide +kernel
theorem dX1_putInto_25 : decode cX1_putInto 25 = .ok (.aload_n 0, 1) := by decide +kernel
theorem dX1_putInto_26 : decode cX1_putInto 26 = .ok (.aload 4, 2) := by decide +kernel
theorem dX1_putInto_28 : decode cX1_putInto 28 = .ok (.aload_n 3, 1) := by decide +kernel
theorem dX1_putInto_29 : decode cX1_putInto 29 = .ok (.invokevirtual 153, 3) := by decide +kernel
theorem dX1_putInto_32 : decode cX1_putInto 32 = .ok (.ifCond .ne 6, 3) := by decide +kernel
theorem dX1_putInto_35 : decode cX1_putInto 35 = .ok (.ldc 122, 2) := by decide +kernel
theorem dX1_putInto_37 : decode cX1_putInto 37 = .ok (.ireturn, 1) := by decide +kernel
theorem dX1_putInto_38 : decode cX1_putInto 38 = .ok (.aload_n 3, 1) := by decide +kernel
theorem dX1_putInto_39 : decode cX1_putInto 39 = .ok (.iconst 1, 1) := by decide +kernel
theorem dX1_putInto_40 : decode cX1_putInto 40 = .ok (.putfield 79, 3) := by decide +kernel
theorem dX1_putInto_43 : decode cX1_putInto 43 = .ok (.aload_n 3, 1) := by decide +kernel
theorem dX1_putInto_44 : decode cX1_putInto 44 = .ok (.aload 4, 2) := by decide +kernel
theorem dX1_putInto_46 : decode cX1_putInto 46 = .ok (.getfield 148, 3) := by decide +kernel
theorem dX1_putInto_49 : decode cX1_putInto 49 = .ok (.putfield 157, 3) := by decide +kernel
theorem dX1_putInto_52 : decode cX1_putInto 52 = .ok (.aload 4, 2) := by decide +kernel
theorem dX1_putInto_54 : decode cX1_putInto 54 = .ok (.getfield 135, 3) := by decide +kernel
theorem dX1_putInto_57 : decode cX1_putInto 57 = .ok (.aload_n 0, 1) := by decide +kernel
theorem dX1_putInto_58 : decode cX1_putInto 58 = .ok (.aload 4, 2) := by decide +kernel
theorem dX1_putInto_60 : decode cX1_putInto 60 = .ok (.invokevirtual 160, 3) := by decide +kernel
theorem dX1_putInto_63 : decode cX1_putInto 63 = .ok (.isub, 1) := by decide +kernel
theorem dX1_putInto_64 : decode cX1_putInto 64 = .ok (.ireturn, 1) := by decide +kernel
theorem dX1_takeOut_0 : decode cX1_takeOut 0 = .ok (.aload_n 0, 1) := by decide +kernel
theorem dX1_takeOut_1 : decode cX1_takeOut 1 = .ok (.iload_n 1, 1) := by decide +kernel
theorem dX1_takeOut_2 : decode cX1_takeOut 2 = .ok (.invokevirtual 113, 3) := by decide +kernel
theorem dX1_takeOut_5 : decode cX1_takeOut 5 = .ok (.astore_n 2, 1) := by decide +kernel
theorem dX1_takeOut_6 : decode cX1_takeOut 6 = .ok (.aload_n 2, 1) := by decide +kernel
theorem dX1_takeOut_7 : decode cX1_takeOut 7 = .ok (.ifnonnull 6, 3) := by decide +kernel
theorem dX1_takeOut_10 : decode cX1_takeOut 10 = .ok (.ldc 121, 2) := by decide +kernel
theorem dX1_takeOut_12 : decode cX1_takeOut 12 = .ok (.ireturn, 1) := by decide +kernel
theorem dX1_takeOut_13 : decode cX1_takeOut 13 = .ok (.aload_n 2, 1) := by decide +kernel
theorem dX1_takeOut_14 : decode cX1_takeOut 14 = .ok (.getfield 79, 3) := by decide +kernel
theorem dX1_takeOut_17 : decode cX1_takeOut 17 = .ok (.iconst 1, 1) := by decide +kernel
theorem dX1_takeOut_18 : decode cX1_takeOut 18 = .ok (.if_icmp .eq 6, 3) := by decide +kernel
theorem dX1_takeOut_21 : decode cX1_takeOut 21 = .ok (.ldc 122, 2) := by decide +kernel
theorem dX1_takeOut_23 : decode cX1_takeOut 23 = .ok (.ireturn, 1) := by decide +kernel
theorem dX1_takeOut_24 : decode cX1_takeOut 24 = .ok (.aload_n 2, 1) := by decide +kernel
theorem dX1_takeOut_25 : decode cX1_takeOut 25 = .ok (.iconst 0, 1) := by decide +kernel
theorem dX1_takeOut_26 : decode cX1_takeOut 26 = .ok (.putfield 79, 3) := by decide +kernel
theorem dX1_takeOut_29 : decode cX1_takeOut 29 = .ok (.aload_n 2, 1) := by decide +kernel
theorem dX1_takeOut_30 : decode cX1_takeOut 30 = .ok (.getfield 157, 3) := by decide +kernel
theorem dX1_takeOut_33 : decode cX1_takeOut 33 = .ok (.ireturn, 1) := by decide +kernel
theorem dX1_loadByRule_0 : decode cX1_loadByRule 0 = .ok (.aload_n 0, 1) := by decide +kernel
theorem dX1_loadByRule_1 : decode cX1_loadByRule 1 = .ok (.iload_n 1, 1) := by decide +kernel
theorem dX1_loadByRule_2 : decode cX1_loadByRule 2 = .ok (.invokevirtual 149, 3) := by decide +kernel
theorem dX1_loadByRule_5 : decode cX1_loadByRule 5 = .ok (.astore 4, 2) := by decide +kernel
theorem dX1_loadByRule_7 : decode cX1_loadByRule 7 = .ok (.aload 4, 2) := by decide +kernel
theorem dX1_loadByRule_9 : decode cX1_loadByRule 9 = .ok (.ifnull 21, 3) := by decide +kernel
theorem dX1_loadByRule_12 : decode cX1_loadByRule 12 = .ok (.iload_n 2, 1) := by decide +kernel
theorem dX1_loadByRule_13 : decode cX1_loadByRule 13 = .ok (.iconst 1, 1) := by decide +kernel
theorem dX1_loadByRule_14 : decode cX1_loadByRule 14 = .ok (.iconst 4, 1) := by decide +kernel
theorem dX1_loadByRule_15 : decode cX1_loadByRule 15 = .ok (.invokestatic 117, 3) := by decide +kernel
theorem dX1_loadByRule_18 : decode cX1_loadByRule 18 = .ok (.ifCond .eq 12, 3) := by decide +kernel
theorem dX1_loadByRule_21 : decode cX1_loadByRule 21 = .ok (.iload_n 3, 1) := by decide +kernel
theorem dX1_loadByRule_22 : decode cX1_loadByRule 22 = .ok (.iconst 0, 1) := by decide +kernel
theorem dX1_loadByRule_23 : decode cX1_loadByRule 23 = .ok (.iconst 2, 1) := by decide +kernel
theorem dX1_loadByRule_24 : decode cX1_loadByRule 24 = .ok (.invokestatic 117, 3) := by decide +kernel
theorem dX1_loadByRule_27 : decode cX1_loadByRule 27 = .ok (.ifCond .ne 6, 3) := by decide +kernel
theorem dX1_loadByRule_30 : decode cX1_loadByRule 30 = .ok (.ldc 121, 2) := by decide +kernel
theorem dX1_loadByRule_32 : decode cX1_loadByRule 32 = .ok (.ireturn, 1) := by decide +kernel
theorem dX1_loadByRule_33 : decode cX1_loadByRule 33 = .ok (.aload 4, 2) := by decide +kernel
theorem dX1_loadByRule_35 : decode cX1_loadByRule 35 = .ok (.getfield 141, 3) := by decide +kernel
theorem dX1_loadByRule_38 : decode cX1_loadByRule 38 = .ok (.ifCond .eq 6, 3) := by decide +kernel
theorem dX1_loadByRule_41 : decode cX1_loadByRule 41 = .ok (.ldc 122, 2) := by decide +kernel
theorem dX1_loadByRule_43 : decode cX1_loadByRule 43 = .ok (.ireturn, 1) := by decide +kernel
theorem dX1_loadByRule_44 : decode cX1_loadByRule 44 = .ok (.iconst 0, 1) := by decide +kernel
theorem dX1_loadByRule_45 : decode cX1_loadByRule 45 = .ok (.istore 5, 2) := by decide +kernel
theorem dX1_loadByRule_47 : decode cX1_loadByRule 47 = .ok (.iconst 0, 1) := by decide +kernel
theorem dX1_loadByRule_48 : decode cX1_loadByRule 48 = .ok (.istore 6, 2) := by decide +kernel
theorem dX1_loadByRule_50 : decode cX1_loadByRule 50 = .ok (.iconst 0, 1) := by decide +kernel
theorem dX1_loadByRule_51 : decode cX1_loadByRule 51 = .ok (.istore 7, 2) := by decide +kernel
theorem dX1_loadByRule_53 : decode cX1_loadByRule 53 = .ok (.iload 7, 2) := by decide +kernel
theorem dX1_loadByRule_55 : decode cX1_loadByRule 55 = .ok (.aload_n 0, 1) := by decide +kernel
theorem dX1_loadByRule_56 : decode cX1_loadByRule 56 = .ok (.getfield 38, 3) := by decide +kernel
theorem dX1_loadByRule_59 : decode cX1_loadByRule 59 = .ok (.if_icmp .ge 78, 3) := by decide +kernel
theorem dX1_loadByRule_62 : decode cX1_loadByRule 62 = .ok (.aload_n 0, 1) := by decide +kernel
theorem dX1_loadByRule_63 : decode cX1_loadByRule 63 = .ok (.iload_n 2, 1) := by decide +kernel
theorem dX1_loadByRule_64 : decode cX1_loadByRule 64 = .ok (.iload_n 3, 1) := by decide +kernel
theorem dX1_loadByRule_65 : decode cX1_loadByRule 65 = .ok (.iload 6, 2) := by decide +kernel
theorem dX1_loadByRule_67 : decode cX1_loadByRule 67 = .ok (.invokevirtual 164, 3) := by decide +kernel
theorem dX1_loadByRule_70 : decode cX1_loadByRule 70 = .ok (.astore 8, 2) := by decide +kernel
theorem dX1_loadByRule_72 : decode cX1_loadByRule 72 = .ok (.aload 8, 2) := by decide +kernel
theorem dX1_loadByRule_74 : decode cX1_loadByRule 74 = .ok (.ifnonnull 6, 3) := by decide +kernel
theorem dX1_loadByRule_77 : decode cX1_loadByRule 77 = .ok (.goto 60, 3) := by decide +kernel
theorem dX1_loadByRule_80 : decode cX1_loadByRule 80 = .ok (.iload 6, 2) := by decide +kernel
theorem dX1_loadByRule_82 : decode cX1_loadByRule 82 = .ok (.iconst 1, 1) := by decide +kernel
theorem dX1_loadByRule_83 : decode cX1_loadByRule 83 = .ok (.aload 8, 2) := by decide +kernel
theorem dX1_loadByRule_85 : decode cX1_loadByRule 85 = .ok (.getfield 104, 3) := by decide +kernel
theorem dX1_loadByRule_88 : decode cX1_loadByRule 88 = .ok (.ishl, 1) := by decide +kernel
theorem dX1_loadByRule_89 : decode cX1_loadByRule 89 = .ok (.ior, 1) := by decide +kernel
theorem dX1_loadByRule_90 : decode cX1_loadByRule 90 = .ok (.istore 6, 2) := by decide +kernel
theorem dX1_loadByRule_92 : decode cX1_loadByRule 92 = .ok (.aload_n 0, 1) := by decide +kernel
theorem dX1_loadByRule_93 : decode cX1_loadByRule 93 = .ok (.aload 4, 2) := by decide +kernel
theorem dX1_loadByRule_95 : decode cX1_loadByRule 95 = .ok (.aload 8, 2) := by decide +kernel
theorem dX1_loadByRule_97 : decode cX1_loadByRule 97 = .ok (.invokevirtual 153, 3) := by decide +kernel
theorem dX1_loadByRule_100 : decode cX1_loadByRule 100 = .ok (.ifCond .eq 31, 3) := by decide +kernel
theorem dX1_loadByRule_103 : decode cX1_loadByRule 103 = .ok (.aload 8, 2) := by decide +kernel
theorem dX1_loadByRule_105 : decode cX1_loadByRule 105 = .ok (.iconst 1, 1) := by decide +kernel
theorem dX1_loadByRule_106 : decode cX1_loadByRule 106 = .ok (.putfield 79, 3) := by decide +kernel
theorem dX1_loadByRule_109 : decode cX1_loadByRule 109 = .ok (.aload 8, 2) := by decide +kernel
theorem dX1_loadByRule_111 : decode cX1_loadByRule 111 = .ok (.aload 4, 2) := by decide +kernel
theorem dX1_loadByRule_113 : decode cX1_loadByRule 113 = .ok (.getfield 148, 3) := by decide +kernel
theorem dX1_loadByRule_116 : decode cX1_loadByRule 116 = .ok (.putfield 157, 3) := by decide +kernel
theorem dX1_loadByRule_119 : decode cX1_loadByRule 119 = .ok (.iload 5, 2) := by decide +kernel
theorem dX1_loadByRule_121 : decode cX1_loadByRule 121 = .ok (.iconst 1, 1) := by decide +kernel
theorem dX1_loadByRule_122 : decode cX1_loadByRule 122 = .ok (.aload 8, 2) := by decide +kernel
theorem dX1_loadByRule_124 : decode cX1_loadByRule 124 = .ok (.getfield 104, 3) := by decide +kernel
theorem dX1_loadByRule_127 : decode cX1_loadByRule 127 = .ok (.ishl, 1) := by decide +kernel
theorem dX1_loadByRule_128 : decode cX1_loadByRule 128 = .ok (.ior, 1) := by decide +kernel
theorem dX1_loadByRule_129 : decode cX1_loadByRule 129 = .ok (.istore 5, 2) := by decide +kernel
theorem dX1_loadByRule_131 : decode cX1_loadByRule 131 = .ok (.iinc 7 1, 3) := by decide +kernel
theorem dX1_loadByRule_134 : decode cX1_loadByRule 134 = .ok (.goto (-81), 3) := by decide +kernel
theorem dX1_loadByRule_137 : decode cX1_loadByRule 137 = .ok (.iload 5, 2) := by decide +kernel
theorem dX1_loadByRule_139 : decode cX1_loadByRule 139 = .ok (.ireturn, 1) := by decide +kernel
theorem dX1_nextByRule_0 : decode cX1_nextByRule 0 = .ok (.aconst_null, 1) := by decide +kernel
theorem dX1_nextByRule_1 : decode cX1_nextByRule 1 = .ok (.astore 4, 2) := by decide +kernel
theorem dX1_nextByRule_3 : decode cX1_nextByRule 3 = .ok (.iconst 0, 1) := by decide +kernel
theorem dX1_nextByRule_4 : decode cX1_nextByRule 4 = .ok (.istore 5, 2) := by decide +kernel
theorem dX1_nextByRule_6 : decode cX1_nextByRule 6 = .ok (.iload 5, 2) := by decide +kernel
theorem dX1_nextByRule_8 : decode cX1_nextByRule 8 = .ok (.aload_n 0, 1) := by decide +kernel
theorem dX1_nextByRule_9 : decode cX1_nextByRule 9 = .ok (.getfield 38, 3) := by decide +kernel
theorem dX1_nextByRule_12 : decode cX1_nextByRule 12 = .ok (.if_icmp .ge 76, 3) := by decide +kernel
theorem dX1_nextByRule_15 : decode cX1_nextByRule 15 = .ok (.aload_n 0, 1) := by decide +kernel
theorem dX1_nextByRule_16 : decode cX1_nextByRule 16 = .ok (.getfield 11, 3) := by decide +kernel
theorem dX1_nextByRule_19 : decode cX1_nextByRule 19 = .ok (.iload 5, 2) := by decide +kernel
theorem dX1_nextByRule_21 : decode cX1_nextByRule 21 = .ok (.aaload, 1) := by decide +kernel
theorem dX1_nextByRule_22 : decode cX1_nextByRule 22 = .ok (.astore 6, 2) := by decide +kernel
theorem dX1_nextByRule_24 : decode cX1_nextByRule 24 = .ok (.aload 6, 2) := by decide +kernel
theorem dX1_nextByRule_26 : decode cX1_nextByRule 26 = .ok (.getfield 79, 3) := by decide +kernel
theorem dX1_nextByRule_29 : decode cX1_nextByRule 29 = .ok (.ifCond .ne 25, 3) := by decide +kernel
theorem dX1_nextByRule_32 : decode cX1_nextByRule 32 = .ok (.aload 6, 2) := by decide +kernel
theorem dX1_nextByRule_34 : decode cX1_nextByRule 34 = .ok (.getfield 83, 3) := by decide +kernel
theorem dX1_nextByRule_37 : decode cX1_nextByRule 37 = .ok (.iload_n 1, 1) := by decide +kernel
theorem dX1_nextByRule_38 : decode cX1_nextByRule 38 = .ok (.if_icmp .ne 16, 3) := by decide +kernel
theorem dX1_nextByRule_41 : decode cX1_nextByRule 41 = .ok (.iload_n 3, 1) := by decide +kernel
theorem dX1_nextByRule_42 : decode cX1_nextByRule 42 = .ok (.iload 5, 2) := by decide +kernel
theorem dX1_nextByRule_44 : decode cX1_nextByRule 44 = .ok (.ishr, 1) := by decide +kernel
theorem dX1_nextByRule_45 : decode cX1_nextByRule 45 = .ok (.iconst 1, 1) := by decide +kernel
theorem dX1_nextByRule_46 : decode cX1_nextByRule 46 = .ok (.iand, 1) := by decide +kernel
theorem dX1_nextByRule_47 : decode cX1_nextByRule 47 = .ok (.ifCond .ne 7, 3) := by decide +kernel
theorem dX1_nextByRule_50 : decode cX1_nextByRule 50 = .ok (.iconst 1, 1) := by decide +kernel
theorem dX1_nextByRule_51 : decode cX1_nextByRule 51 = .ok (.goto 4, 3) := by decide +kernel
theorem dX1_nextByRule_54 : decode cX1_nextByRule 54 = .ok (.iconst 0, 1) := by decide +kernel
theorem dX1_nextByRule_55 : decode cX1_nextByRule 55 = .ok (.istore 7, 2) := by decide +kernel
theorem dX1_nextByRule_57 : decode cX1_nextByRule 57 = .ok (.iload 7, 2) := by decide +kernel
theorem dX1_nextByRule_59 : decode cX1_nextByRule 59 = .ok (.ifCond .eq 23, 3) := by decide +kernel
theorem dX1_nextByRule_62 : decode cX1_nextByRule 62 = .ok (.aload 4, 2) := by decide +kernel
theorem dX1_nextByRule_64 : decode cX1_nextByRule 64 = .ok (.ifnull 14, 3) := by decide +kernel
theorem dX1_nextByRule_67 : decode cX1_nextByRule 67 = .ok (.aload 6, 2) := by decide +kernel
theorem dX1_nextByRule_69 : decode cX1_nextByRule 69 = .ok (.aload 4, 2) := by decide +kernel
theorem dX1_nextByRule_71 : decode cX1_nextByRule 71 = .ok (.iload_n 2, 1) := by decide +kernel
theorem dX1_nextByRule_72 : decode cX1_nextByRule 72 = .ok (.invokevirtual 168, 3) := by decide +kernel
theorem dX1_nextByRule_75 : decode cX1_nextByRule 75 = .ok (.ifCond .eq 7, 3) := by decide +kernel
theorem dX1_nextByRule_78 : decode cX1_nextByRule 78 = .ok (.aload 6, 2) := by decide +kernel
theorem dX1_nextByRule_80 : decode cX1_nextByRule 80 = .ok (.astore 4, 2) := by decide +kernel
theorem dX1_nextByRule_82 : decode cX1_nextByRule 82 = .ok (.iinc 5 1, 3) := by decide +kernel
theorem dX1_nextByRule_85 : decode cX1_nextByRule 85 = .ok (.goto (-79), 3) := by decide +kernel
theorem dX1_nextByRule_88 : decode cX1_nextByRule 88 = .ok (.aload 4, 2) := by decide +kernel
theorem dX1_nextByRule_90 : decode cX1_nextByRule 90 = .ok (.areturn, 1) := by decide +kernel
theorem dX1_sendOff_0 : decode cX1_sendOff 0 = .ok (.aload_n 0, 1) := by decide +kernel
theorem dX1_sendOff_1 : decode cX1_sendOff 1 = .ok (.iload_n 1, 1) := by decide +kernel
theorem dX1_sendOff_2 : decode cX1_sendOff 2 = .ok (.invokevirtual 149, 3) := by decide +kernel
theorem dX1_sendOff_5 : decode cX1_sendOff 5 = .ok (.astore_n 2, 1) := by decide +kernel
theorem dX1_sendOff_6 : decode cX1_sendOff 6 = .ok (.aload_n 2, 1) := by decide +kernel
theorem dX1_sendOff_7 : decode cX1_sendOff 7 = .ok (.ifnonnull 6, 3) := by decide +kernel
theorem dX1_sendOff_10 : decode cX1_sendOff 10 = .ok (.ldc 121, 2) := by decide +kernel
theorem dX1_sendOff_12 : decode cX1_sendOff 12 = .ok (.ireturn, 1) := by decide +kernel
theorem dX1_sendOff_13 : decode cX1_sendOff 13 = .ok (.aload_n 0, 1) := by decide +kernel
theorem dX1_sendOff_14 : decode cX1_sendOff 14 = .ok (.aload_n 2, 1) := by decide +kernel
theorem dX1_sendOff_15 : decode cX1_sendOff 15 = .ok (.invokevirtual 172, 3) := by decide +kernel
theorem dX1_sendOff_18 : decode cX1_sendOff 18 = .ok (.istore_n 3, 1) := by decide +kernel
theorem dX1_sendOff_19 : decode cX1_sendOff 19 = .ok (.aload_n 2, 1) := by decide +kernel
theorem dX1_sendOff_20 : decode cX1_sendOff 20 = .ok (.getfield 141, 3) := by decide +kernel
theorem dX1_sendOff_23 : decode cX1_sendOff 23 = .ok (.ifCond .ne 7, 3) := by decide +kernel
theorem dX1_sendOff_26 : decode cX1_sendOff 26 = .ok (.iload_n 3, 1) := by decide +kernel
theorem dX1_sendOff_27 : decode cX1_sendOff 27 = .ok (.ifCond .ne 6, 3) := by decide +kernel
theorem dX1_sendOff_30 : decode cX1_sendOff 30 = .ok (.ldc 122, 2) := by decide +kernel
theorem dX1_sendOff_32 : decode cX1_sendOff 32 = .ok (.ireturn, 1) := by decide +kernel
theorem dX1_sendOff_33 : decode cX1_sendOff 33 = .ok (.iconst 0, 1) := by decide +kernel
theorem dX1_sendOff_34 : decode cX1_sendOff 34 = .ok (.istore 4, 2) := by decide +kernel
theorem dX1_sendOff_36 : decode cX1_sendOff 36 = .ok (.iload 4, 2) := by decide +kernel
theorem dX1_sendOff_38 : decode cX1_sendOff 38 = .ok (.aload_n 0, 1) := by decide +kernel
theorem dX1_sendOff_39 : decode cX1_sendOff 39 = .ok (.getfield 38, 3) := by decide +kernel
theorem dX1_sendOff_42 : decode cX1_sendOff 42 = .ok (.if_icmp .ge 48, 3) := by decide +kernel
theorem dX1_sendOff_45 : decode cX1_sendOff 45 = .ok (.aload_n 0, 1) := by decide +kernel
theorem dX1_sendOff_46 : decode cX1_sendOff 46 = .ok (.getfield 11, 3) := by decide +kernel
theorem dX1_sendOff_49 : decode cX1_sendOff 49 = .ok (.iload 4, 2) := by decide +kernel
theorem dX1_sendOff_51 : decode cX1_sendOff 51 = .ok (.aaload, 1) := by decide +kernel
theorem dX1_sendOff_52 : decode cX1_sendOff 52 = .ok (.aload_n 2, 1) := by decide +kernel
theorem dX1_sendOff_53 : decode cX1_sendOff 53 = .ok (.invokevirtual 175, 3) := by decide +kernel
theorem dX1_sendOff_56 : decode cX1_sendOff 56 = .ok (.ifCond .eq 28, 3) := by decide +kernel
theorem dX1_sendOff_59 : decode cX1_sendOff 59 = .ok (.aload_n 0, 1) := by decide +kernel
theorem dX1_sendOff_60 : decode cX1_sendOff 60 = .ok (.getfield 11, 3) := by decide +kernel
theorem dX1_sendOff_63 : decode cX1_sendOff 63 = .ok (.iload 4, 2) := by decide +kernel
theorem dX1_sendOff_65 : decode cX1_sendOff 65 = .ok (.aaload, 1) := by decide +kernel
theorem dX1_sendOff_66 : decode cX1_sendOff 66 = .ok (.iconst 2, 1) := by decide +kernel
theorem dX1_sendOff_67 : decode cX1_sendOff 67 = .ok (.putfield 79, 3) := by decide +kernel
theorem dX1_sendOff_70 : decode cX1_sendOff 70 = .ok (.aload_n 0, 1) := by decide +kernel
theorem dX1_sendOff_71 : decode cX1_sendOff 71 = .ok (.getfield 11, 3) := by decide +kernel
theorem dX1_sendOff_74 : decode cX1_sendOff 74 = .ok (.iload 4, 2) := by decide +kernel
theorem dX1_sendOff_76 : decode cX1_sendOff 76 = .ok (.aaload, 1) := by decide +kernel
theorem dX1_sendOff_77 : decode cX1_sendOff 77 = .ok (.aload_n 0, 1) := by decide +kernel
theorem dX1_sendOff_78 : decode cX1_sendOff 78 = .ok (.getfield 48, 3) := by decide +kernel
theorem dX1_sendOff_81 : decode cX1_sendOff 81 = .ok (.putfield 179, 3) := by decide +kernel
theorem dX1_sendOff_84 : decode cX1_sendOff 84 = .ok (.iinc 4 1, 3) := by decide +kernel
theorem dX1_sendOff_87 : decode cX1_sendOff 87 = .ok (.goto (-51), 3) := by decide +kernel
theorem dX1_sendOff_90 : decode cX1_sendOff 90 = .ok (.aload_n 2, 1) := by decide +kernel
theorem dX1_sendOff_91 : decode cX1_sendOff 91 = .ok (.iconst 1, 1) := by decide +kernel
theorem dX1_sendOff_92 : decode cX1_sendOff 92 = .ok (.putfield 141, 3) := by decide +kernel
theorem dX1_sendOff_95 : decode cX1_sendOff 95 = .ok (.aload_n 2, 1) := by decide +kernel
theorem dX1_sendOff_96 : decode cX1_sendOff 96 = .ok (.iload_n 3, 1) := by decide +kernel
theorem dX1_sendOff_97 : decode cX1_sendOff 97 = .ok (.putfield 182, 3) := by decide +kernel
theorem dX1_sendOff_100 : decode cX1_sendOff 100 = .ok (.aload_n 2, 1) := by decide +kernel
theorem dX1_sendOff_101 : decode cX1_sendOff 101 = .ok (.iload_n 3, 1) := by decide +kernel
theorem dX1_sendOff_102 : decode cX1_sendOff 102 = .ok (.aload_n 0, 1) := by decide +kernel
theorem dX1_sendOff_103 : decode cX1_sendOff 103 = .ok (.getfield 29, 3) := by decide +kernel
theorem dX1_sendOff_106 : decode cX1_sendOff 106 = .ok (.iconst 0, 1) := by decide +kernel
theorem dX1_sendOff_107 : decode cX1_sendOff 107 = .ok (.iaload, 1) := by decide +kernel
theorem dX1_sendOff_108 : decode cX1_sendOff 108 = .ok (.imul, 1) := by decide +kernel
theorem dX1_sendOff_109 : decode cX1_sendOff 109 = .ok (.putfield 183, 3) := by decide +kernel
theorem dX1_sendOff_112 : decode cX1_sendOff 112 = .ok (.aload_n 2, 1) := by decide +kernel
theorem dX1_sendOff_113 : decode cX1_sendOff 113 = .ok (.aload_n 0, 1) := by decide +kernel
theorem dX1_sendOff_114 : decode cX1_sendOff 114 = .ok (.getfield 48, 3) := by decide +kernel
theorem dX1_sendOff_117 : decode cX1_sendOff 117 = .ok (.aload_n 2, 1) := by decide +kernel
theorem dX1_sendOff_118 : decode cX1_sendOff 118 = .ok (.getfield 183, 3) := by decide +kernel
theorem dX1_sendOff_121 : decode cX1_sendOff 121 = .ok (.iadd, 1) := by decide +kernel
theorem dX1_sendOff_122 : decode cX1_sendOff 122 = .ok (.putfield 186, 3) := by decide +kernel
theorem dX1_sendOff_125 : decode cX1_sendOff 125 = .ok (.aload_n 2, 1) := by decide +kernel
theorem dX1_sendOff_126 : decode cX1_sendOff 126 = .ok (.getfield 186, 3) := by decide +kernel
theorem dX1_sendOff_129 : decode cX1_sendOff 129 = .ok (.ireturn, 1) := by decide +kernel
theorem dX1_makeOffer_0 : decode cX1_makeOffer 0 = .ok (.iload_n 1, 1) := by decide +kernel
theorem dX1_makeOffer_1 : decode cX1_makeOffer 1 = .ok (.iconst 1, 1) := by decide +kernel
theorem dX1_makeOffer_2 : decode cX1_makeOffer 2 = .ok (.iconst 4, 1) := by decide +kernel
theorem dX1_makeOffer_3 : decode cX1_makeOffer 3 = .ok (.invokestatic 117, 3) := by decide +kernel
theorem dX1_makeOffer_6 : decode cX1_makeOffer 6 = .ok (.ifCond .eq 46, 3) := by decide +kernel
theorem dX1_makeOffer_9 : decode cX1_makeOffer 9 = .ok (.iload_n 2, 1) := by decide +kernel
theorem dX1_makeOffer_10 : decode cX1_makeOffer 10 = .ok (.iconst 1, 1) := by decide +kernel
theorem dX1_makeOffer_11 : decode cX1_makeOffer 11 = .ok (.bipush 99, 2) := by decide +kernel
theorem dX1_makeOffer_13 : decode cX1_makeOffer 13 = .ok (.invokestatic 117, 3) := by decide +kernel
theorem dX1_makeOffer_16 : decode cX1_makeOffer 16 = .ok (.ifCond .eq 36, 3) := by decide +kernel
theorem dX1_makeOffer_19 : decode cX1_makeOffer 19 = .ok (.iload_n 3, 1) := by decide +kernel
theorem dX1_makeOffer_20 : decode cX1_makeOffer 20 = .ok (.iconst 1, 1) := by decide +kernel
theorem dX1_makeOffer_21 : decode cX1_makeOffer 21 = .ok (.bipush 99, 2) := by decide +kernel
theorem dX1_makeOffer_23 : decode cX1_makeOffer 23 = .ok (.invokestatic 117, 3) := by decide +kernel
theorem dX1_makeOffer_26 : decode cX1_makeOffer 26 = .ok (.ifCond .eq 26, 3) := by decide +kernel
theorem dX1_makeOffer_29 : decode cX1_makeOffer 29 = .ok (.iload 4, 2) := by decide +kernel
theorem dX1_makeOffer_31 : decode cX1_makeOffer 31 = .ok (.iconst 0, 1) := by decide +kernel
theorem dX1_makeOffer_32 : decode cX1_makeOffer 32 = .ok (.sipush 999, 3) := by decide +kernel
theorem dX1_makeOffer_35 : decode cX1_makeOffer 35 = .ok (.invokestatic 117, 3) := by decide +kernel
theorem dX1_makeOffer_38 : decode cX1_makeOffer 38 = .ok (.ifCond .eq 14, 3) := by decide +kernel
theorem dX1_makeOffer_41 : decode cX1_makeOffer 41 = .ok (.iload 5, 2) := by decide +kernel
theorem dX1_makeOffer_43 : decode cX1_makeOffer 43 = .ok (.iconst 0, 1) := by decide +kernel
theorem dX1_makeOffer_44 : decode cX1_makeOffer 44 = .ok (.bipush 99, 2) := by decide +kernel
theorem dX1_makeOffer_46 : decode cX1_makeOffer 46 = .ok (.invokestatic 117, 3) := by decide +kernel
theorem dX1_makeOffer_49 : decode cX1_makeOffer 49 = .ok (.ifCond .ne 6, 3) := by decide +kernel
theorem dX1_makeOffer_52 : decode cX1_makeOffer 52 = .ok (.ldc 121, 2) := by decide +kernel
theorem dX1_makeOffer_54 : decode cX1_makeOffer 54 = .ok (.ireturn, 1) := by decide +kernel
theorem dX1_makeOffer_55 : decode cX1_makeOffer 55 = .ok (.aload_n 0, 1) := by decide +kernel
theorem dX1_makeOffer_56 : decode cX1_makeOffer 56 = .ok (.getfield 45, 3) := by decide +kernel
theorem dX1_makeOffer_59 : decode cX1_makeOffer 59 = .ok (.bipush 10, 2) := by decide +kernel
theorem dX1_makeOffer_61 : decode cX1_makeOffer 61 = .ok (.if_icmp .lt 6, 3) := by decide +kernel
theorem dX1_makeOffer_64 : decode cX1_makeOffer 64 = .ok (.ldc 82, 2) := by decide +kernel
theorem dX1_makeOffer_66 : decode cX1_makeOffer 66 = .ok (.ireturn, 1) := by decide +kernel
theorem dX1_makeOffer_67 : decode cX1_makeOffer 67 = .ok (.aload_n 0, 1) := by decide +kernel
theorem dX1_makeOffer_68 : decode cX1_makeOffer 68 = .ok (.getfield 25, 3) := by decide +kernel
theorem dX1_makeOffer_71 : decode cX1_makeOffer 71 = .ok (.aload_n 0, 1) := by decide +kernel
theorem dX1_makeOffer_72 : decode cX1_makeOffer 72 = .ok (.getfield 45, 3) := by decide +kernel
theorem dX1_makeOffer_75 : decode cX1_makeOffer 75 = .ok (.aaload, 1) := by decide +kernel
theorem dX1_makeOffer_76 : decode cX1_makeOffer 76 = .ok (.astore 6, 2) := by decide +kernel
theorem dX1_makeOffer_78 : decode cX1_makeOffer 78 = .ok (.aload 6, 2) := by decide +kernel
theorem dX1_makeOffer_80 : decode cX1_makeOffer 80 = .ok (.iload_n 1, 1) := by decide +kernel
theorem dX1_makeOffer_81 : decode cX1_makeOffer 81 = .ok (.putfield 189, 3) := by decide +kernel
theorem dX1_makeOffer_84 : decode cX1_makeOffer 84 = .ok (.aload 6, 2) := by decide +kernel
theorem dX1_makeOffer_86 : decode cX1_makeOffer 86 = .ok (.iload_n 2, 1) := by decide +kernel
theorem dX1_makeOffer_87 : decode cX1_makeOffer 87 = .ok (.putfield 190, 3) := by decide +kernel
theorem dX1_makeOffer_90 : decode cX1_makeOffer 90 = .ok (.aload 6, 2) := by decide +kernel
theorem dX1_makeOffer_92 : decode cX1_makeOffer 92 = .ok (.iload_n 3, 1) := by decide +kernel
theorem dX1_makeOffer_93 : decode cX1_makeOffer 93 = .ok (.putfield 191, 3) := by decide +kernel
theorem dX1_makeOffer_96 : decode cX1_makeOffer 96 = .ok (.aload 6, 2) := by decide +kernel
theorem dX1_makeOffer_98 : decode cX1_makeOffer 98 = .ok (.iload 4, 2) := by decide +kernel
theorem dX1_makeOffer_100 : decode cX1_makeOffer 100 = .ok (.putfield 192, 3) := by decide +kernel
theorem dX1_makeOffer_103 : decode cX1_makeOffer 103 = .ok (.aload 6, 2) := by decide +kernel
theorem dX1_makeOffer_105 : decode cX1_makeOffer 105 = .ok (.aload_n 0, 1) := by decide +kernel
theorem dX1_makeOffer_106 : decode cX1_makeOffer 106 = .ok (.getfield 48, 3) := by decide +kernel
theorem dX1_makeOffer_109 : decode cX1_makeOffer 109 = .ok (.iload 5, 2) := by decide +kernel
theorem dX1_makeOffer_111 : decode cX1_makeOffer 111 = .ok (.iadd, 1) := by decide +kernel
theorem dX1_makeOffer_112 : decode cX1_makeOffer 112 = .ok (.putfield 195, 3) := by decide +kernel
theorem dX1_makeOffer_115 : decode cX1_makeOffer 115 = .ok (.aload_n 0, 1) := by decide +kernel
theorem dX1_makeOffer_116 : decode cX1_makeOffer 116 = .ok (.dup, 1) := by decide +kernel
theorem dX1_makeOffer_117 : decode cX1_makeOffer 117 = .ok (.getfield 45, 3) := by decide +kernel
theorem dX1_makeOffer_120 : decode cX1_makeOffer 120 = .ok (.iconst 1, 1) := by decide +kernel
theorem dX1_makeOffer_121 : decode cX1_makeOffer 121 = .ok (.iadd, 1) := by decide +kernel
theorem dX1_makeOffer_122 : decode cX1_makeOffer 122 = .ok (.putfield 45, 3) := by decide +kernel
theorem dX1_makeOffer_125 : decode cX1_makeOffer 125 = .ok (.aload_n 0, 1) := by decide +kernel
theorem dX1_makeOffer_126 : decode cX1_makeOffer 126 = .ok (.getfield 45, 3) := by decide +kernel
theorem dX1_makeOffer_129 : decode cX1_makeOffer 129 = .ok (.ireturn, 1) := by decide +kernel
theorem dX1_letPass_0 : decode cX1_letPass 0 = .ok (.iload_n 1, 1) := by decide +kernel
theorem dX1_letPass_1 : decode cX1_letPass 1 = .ok (.iconst 1, 1) := by decide +kernel
theorem dX1_letPass_2 : decode cX1_letPass 2 = .ok (.bipush 99, 2) := by decide +kernel
theorem dX1_letPass_4 : decode cX1_letPass 4 = .ok (.invokestatic 117, 3) := by decide +kernel
theorem dX1_letPass_7 : decode cX1_letPass 7 = .ok (.ifCond .ne 6, 3) := by decide +kernel
theorem dX1_letPass_10 : decode cX1_letPass 10 = .ok (.ldc 121, 2) := by decide +kernel
theorem dX1_letPass_12 : decode cX1_letPass 12 = .ok (.ireturn, 1) := by decide +kernel
theorem dX1_letPass_13 : decode cX1_letPass 13 = .ok (.aload_n 0, 1) := by decide +kernel
theorem dX1_letPass_14 : decode cX1_letPass 14 = .ok (.getfield 48, 3) := by decide +kernel
theorem dX1_letPass_17 : decode cX1_letPass 17 = .ok (.iload_n 1, 1) := by decide +kernel
theorem dX1_letPass_18 : decode cX1_letPass 18 = .ok (.iadd, 1) := by decide +kernel
theorem dX1_letPass_19 : decode cX1_letPass 19 = .ok (.sipush 9000, 3) := by decide +kernel
theorem dX1_letPass_22 : decode cX1_letPass 22 = .ok (.if_icmp .le 6, 3) := by decide +kernel
theorem dX1_letPass_25 : decode cX1_letPass 25 = .ok (.ldc 82, 2) := by decide +kernel
theorem dX1_letPass_27 : decode cX1_letPass 27 = .ok (.ireturn, 1) := by decide +kernel
theorem dX1_letPass_28 : decode cX1_letPass 28 = .ok (.iconst 0, 1) := by decide +kernel
theorem dX1_letPass_29 : decode cX1_letPass 29 = .ok (.istore_n 2, 1) := by decide +kernel
theorem dX1_letPass_30 : decode cX1_letPass 30 = .ok (.iconst 0, 1) := by decide +kernel
theorem dX1_letPass_31 : decode cX1_letPass 31 = .ok (.istore_n 3, 1) := by decide +kernel
theorem dX1_letPass_32 : decode cX1_letPass 32 = .ok (.iload_n 3, 1) := by decide +kernel
theorem dX1_letPass_33 : decode cX1_letPass 33 = .ok (.iload_n 1, 1) := by decide +kernel
theorem dX1_letPass_34 : decode cX1_letPass 34 = .ok (.if_icmp .ge 34, 3) := by decide +kernel
theorem dX1_letPass_37 : decode cX1_letPass 37 = .ok (.aload_n 0, 1) := by decide +kernel
theorem dX1_letPass_38 : decode cX1_letPass 38 = .ok (.dup, 1) := by decide +kernel
theorem dX1_letPass_39 : decode cX1_letPass 39 = .ok (.getfield 48, 3) := by decide +kernel
theorem dX1_letPass_42 : decode cX1_letPass 42 = .ok (.iconst 1, 1) := by decide +kernel
theorem dX1_letPass_43 : decode cX1_letPass 43 = .ok (.iadd, 1) := by decide +kernel
theorem dX1_letPass_44 : decode cX1_letPass 44 = .ok (.putfield 48, 3) := by decide +kernel
theorem dX1_letPass_47 : decode cX1_letPass 47 = .ok (.iload_n 2, 1) := by decide +kernel
theorem dX1_letPass_48 : decode cX1_letPass 48 = .ok (.aload_n 0, 1) := by decide +kernel
theorem dX1_letPass_49 : decode cX1_letPass 49 = .ok (.invokevirtual 198, 3) := by decide +kernel
theorem dX1_letPass_52 : decode cX1_letPass 52 = .ok (.iadd, 1) := by decide +kernel
theorem dX1_letPass_53 : decode cX1_letPass 53 = .ok (.istore_n 2, 1) := by decide +kernel
theorem dX1_letPass_54 : decode cX1_letPass 54 = .ok (.aload_n 0, 1) := by decide +kernel
theorem dX1_letPass_55 : decode cX1_letPass 55 = .ok (.invokevirtual 202, 3) := by decide +kernel
theorem dX1_letPass_58 : decode cX1_letPass 58 = .ok (.aload_n 0, 1) := by decide +kernel
theorem dX1_letPass_59 : decode cX1_letPass 59 = .ok (.invokevirtual 205, 3) := by decide +kernel
theorem dX1_letPass_62 : decode cX1_letPass 62 = .ok (.iinc 3 1, 3) := by decide +kernel
theorem dX1_letPass_65 : decode cX1_letPass 65 = .ok (.goto (-33), 3) := by decide +kernel
theorem dX1_letPass_68 : decode cX1_letPass 68 = .ok (.iload_n 2, 1) := by decide +kernel
theorem dX1_letPass_69 : decode cX1_letPass 69 = .ok (.ireturn, 1) := by decide +kernel
theorem dX1_changeSetting_0 : decode cX1_changeSetting 0 = .ok (.iload_n 1, 1) := by decide +kernel
theorem dX1_changeSetting_1 : decode cX1_changeSetting 1 = .ok (.iconst 0, 1) := by decide +kernel
theorem dX1_changeSetting_2 : decode cX1_changeSetting 2 = .ok (.iconst 2, 1) := by decide +kernel
theorem dX1_changeSetting_3 : decode cX1_changeSetting 3 = .ok (.invokestatic 117, 3) := by decide +kernel
theorem dX1_changeSetting_6 : decode cX1_changeSetting 6 = .ok (.ifCond .eq 18, 3) := by decide +kernel
theorem dX1_changeSetting_9 : decode cX1_changeSetting 9 = .ok (.iload_n 2, 1) := by decide +kernel
theorem dX1_changeSetting_10 : decode cX1_changeSetting 10 = .ok (.iload_n 1, 1) := by decide +kernel
theorem dX1_changeSetting_11 : decode cX1_changeSetting 11 = .ok (.invokestatic 208, 3) := by decide +kernel
theorem dX1_changeSetting_14 : decode cX1_changeSetting 14 = .ok (.iload_n 1, 1) := by decide +kernel
theorem dX1_changeSetting_15 : decode cX1_changeSetting 15 = .ok (.invokestatic 212, 3) := by decide +kernel
theorem dX1_changeSetting_18 : decode cX1_changeSetting 18 = .ok (.invokestatic 117, 3) := by decide +kernel
theorem dX1_changeSetting_21 : decode cX1_changeSetting 21 = .ok (.ifCond .ne 6, 3) := by decide +kernel
theorem dX1_changeSetting_24 : decode cX1_changeSetting 24 = .ok (.ldc 121, 2) := by decide +kernel
theorem dX1_changeSetting_26 : decode cX1_changeSetting 26 = .ok (.ireturn, 1) := by decide +kernel
theorem dX1_changeSetting_27 : decode cX1_changeSetting 27 = .ok (.aload_n 0, 1) := by decide +kernel
theorem dX1_changeSetting_28 : decode cX1_changeSetting 28 = .ok (.getfield 29, 3) := by decide +kernel
theorem dX1_changeSetting_31 : decode cX1_changeSetting 31 = .ok (.iload_n 1, 1) := by decide +kernel
theorem dX1_changeSetting_32 : decode cX1_changeSetting 32 = .ok (.iaload, 1) := by decide +kernel
theorem dX1_changeSetting_33 : decode cX1_changeSetting 33 = .ok (.istore_n 3, 1) := by decide +kernel
theorem dX1_changeSetting_34 : decode cX1_changeSetting 34 = .ok (.aload_n 0, 1) := by decide +kernel
theorem dX1_changeSetting_35 : decode cX1_changeSetting 35 = .ok (.getfield 29, 3) := by decide +kernel
theorem dX1_changeSetting_38 : decode cX1_changeSetting 38 = .ok (.iload_n 1, 1) := by decide +kernel
theorem dX1_changeSetting_39 : decode cX1_changeSetting 39 = .ok (.iload_n 2, 1) := by decide +kernel
theorem dX1_changeSetting_40 : decode cX1_changeSetting 40 = .ok (.iastore, 1) := by decide +kernel
theorem dX1_changeSetting_41 : decode cX1_changeSetting 41 = .ok (.iload_n 3, 1) := by decide +kernel
theorem dX1_changeSetting_42 : decode cX1_changeSetting 42 = .ok (.ireturn, 1) := by decide +kernel
theorem dX1_leastOfSetting_0 : decode cX1_leastOfSetting 0 = .ok (.iload_n 0, 1) := by decide +kernel
theorem dX1_leastOfSetting_1 : decode cX1_leastOfSetting 1 = .ok (.ifCond .ne 7, 3) := by decide +kernel
theorem dX1_leastOfSetting_4 : decode cX1_leastOfSetting 4 = .ok (.iconst 1, 1) := by decide +kernel
theorem dX1_leastOfSetting_5 : decode cX1_leastOfSetting 5 = .ok (.goto 4, 3) := by decide +kernel
theorem dX1_leastOfSetting_8 : decode cX1_leastOfSetting 8 = .ok (.iconst 0, 1) := by decide +kernel
theorem dX1_leastOfSetting_9 : decode cX1_leastOfSetting 9 = .ok (.ireturn, 1) := by decide +kernel
theorem dX1_mostOfSetting_0 : decode cX1_mostOfSetting 0 = .ok (.iload_n 0, 1) := by decide +kernel
theorem dX1_mostOfSetting_1 : decode cX1_mostOfSetting 1 = .ok (.lookupswitch 33 #[(0, 27), (1, 30)], 27) := by decide +kernel
theorem dX1_mostOfSetting_28 : decode cX1_mostOfSetting 28 = .ok (.bipush 24, 2) := by decide +kernel
theorem dX1_mostOfSetting_30 : decode cX1_mostOfSetting 30 = .ok (.ireturn, 1) := by decide +kernel
theorem dX1_mostOfSetting_31 : decode cX1_mostOfSetting 31 = .ok (.bipush 99, 2) := by decide +kernel
theorem dX1_mostOfSetting_33 : decode cX1_mostOfSetting 33 = .ok (.ireturn, 1) := by decide +kernel
theorem dX1_mostOfSetting_34 : decode cX1_mostOfSetting 34 = .ok (.bipush 20, 2) := by decide +kernel
theorem dX1_mostOfSetting_36 : decode cX1_mostOfSetting 36 = .ok (.ireturn, 1) := by decide +kernel
theorem dX1_moveVehicles_0 : decode cX1_moveVehicles 0 = .ok (.iconst 0, 1) := by decide +kernel
theorem dX1_moveVehicles_1 : decode cX1_moveVehicles 1 = .ok (.istore_n 1, 1) := by decide +kernel
theorem dX1_moveVehicles_2 : decode cX1_moveVehicles 2 = .ok (.iconst 0, 1) := by decide +kernel
theorem dX1_moveVehicles_3 : decode cX1_moveVehicles 3 = .ok (.istore_n 2, 1) := by decide +kernel
theorem dX1_moveVehicles_4 : decode cX1_moveVehicles 4 = .ok (.iload_n 2, 1) := by decide +kernel
theorem dX1_moveVehicles_5 : decode cX1_moveVehicles 5 = .ok (.aload_n 0, 1) := by decide +kernel
theorem dX1_moveVehicles_6 : decode cX1_moveVehicles 6 = .ok (.getfield 42, 3) := by decide +kernel
theorem dX1_moveVehicles_9 : decode cX1_moveVehicles 9 = .ok (.if_icmp .ge 84, 3) := by decide +kernel
theorem dX1_moveVehicles_12 : decode cX1_moveVehicles 12 = .ok (.aload_n 0, 1) := by decide +kernel
theorem dX1_moveVehicles_13 : decode cX1_moveVehicles 13 = .ok (.getfield 19, 3) := by decide +kernel
theorem dX1_moveVehicles_16 : decode cX1_moveVehicles 16 = .ok (.iload_n 2, 1) := by decide +kernel
theorem dX1_moveVehicles_17 : decode cX1_moveVehicles 17 = .ok (.aaload, 1) := by decide +kernel
theorem dX1_moveVehicles_18 : decode cX1_moveVehicles 18 = .ok (.astore_n 3, 1) := by decide +kernel
theorem dX1_moveVehicles_19 : decode cX1_moveVehicles 19 = .ok (.aload_n 3, 1) := by decide +kernel
theorem dX1_moveVehicles_20 : decode cX1_moveVehicles 20 = .ok (.getfield 141, 3) := by decide +kernel
theorem dX1_moveVehicles_23 : decode cX1_moveVehicles 23 = .ok (.ifCond .eq 64, 3) := by decide +kernel
theorem dX1_moveVehicles_26 : decode cX1_moveVehicles 26 = .ok (.aload_n 3, 1) := by decide +kernel
theorem dX1_moveVehicles_27 : decode cX1_moveVehicles 27 = .ok (.getfield 186, 3) := by decide +kernel
theorem dX1_moveVehicles_30 : decode cX1_moveVehicles 30 = .ok (.aload_n 0, 1) := by decide +kernel
theorem dX1_moveVehicles_31 : decode cX1_moveVehicles 31 = .ok (.getfield 48, 3) := by decide +kernel
theorem dX1_moveVehicles_34 : decode cX1_moveVehicles 34 = .ok (.if_icmp .eq 6, 3) := by decide +kernel
theorem dX1_moveVehicles_37 : decode cX1_moveVehicles 37 = .ok (.goto 50, 3) := by decide +kernel
theorem dX1_moveVehicles_40 : decode cX1_moveVehicles 40 = .ok (.aload_n 3, 1) := by decide +kernel
theorem dX1_moveVehicles_41 : decode cX1_moveVehicles 41 = .ok (.getfield 141, 3) := by decide +kernel
theorem dX1_moveVehicles_44 : decode cX1_moveVehicles 44 = .ok (.iconst 1, 1) := by decide +kernel
theorem dX1_moveVehicles_45 : decode cX1_moveVehicles 45 = .ok (.if_icmp .ne 37, 3) := by decide +kernel
theorem dX1_moveVehicles_48 : decode cX1_moveVehicles 48 = .ok (.iload_n 1, 1) := by decide +kernel
theorem dX1_moveVehicles_49 : decode cX1_moveVehicles 49 = .ok (.aload_n 0, 1) := by decide +kernel
theorem dX1_moveVehicles_50 : decode cX1_moveVehicles 50 = .ok (.aload_n 3, 1) := by decide +kernel
theorem dX1_moveVehicles_51 : decode cX1_moveVehicles 51 = .ok (.invokevirtual 215, 3) := by decide +kernel
theorem dX1_moveVehicles_54 : decode cX1_moveVehicles 54 = .ok (.iadd, 1) := by decide +kernel
theorem dX1_moveVehicles_55 : decode cX1_moveVehicles 55 = .ok (.istore_n 1, 1) := by decide +kernel
theorem dX1_moveVehicles_56 : decode cX1_moveVehicles 56 = .ok (.aload_n 0, 1) := by decide +kernel
theorem dX1_moveVehicles_57 : decode cX1_moveVehicles 57 = .ok (.aload_n 3, 1) := by decide +kernel
theorem dX1_moveVehicles_58 : decode cX1_moveVehicles 58 = .ok (.invokevirtual 218, 3) := by decide +kernel
theorem dX1_moveVehicles_61 : decode cX1_moveVehicles 61 = .ok (.aload_n 3, 1) := by decide +kernel
theorem dX1_moveVehicles_62 : decode cX1_moveVehicles 62 = .ok (.iconst 2, 1) := by decide +kernel
theorem dX1_moveVehicles_63 : decode cX1_moveVehicles 63 = .ok (.putfield 141, 3) := by decide +kernel
theorem dX1_moveVehicles_66 : decode cX1_moveVehicles 66 = .ok (.aload_n 3, 1) := by decide +kernel
theorem dX1_moveVehicles_67 : decode cX1_moveVehicles 67 = .ok (.aload_n 0, 1) := by decide +kernel
theorem dX1_moveVehicles_68 : decode cX1_moveVehicles 68 = .ok (.getfield 48, 3) := by decide +kernel
theorem dX1_moveVehicles_71 : decode cX1_moveVehicles 71 = .ok (.aload_n 3, 1) := by decide +kernel
theorem dX1_moveVehicles_72 : decode cX1_moveVehicles 72 = .ok (.getfield 183, 3) := by decide +kernel
theorem dX1_moveVehicles_75 : decode cX1_moveVehicles 75 = .ok (.iadd, 1) := by decide +kernel
theorem dX1_moveVehicles_76 : decode cX1_moveVehicles 76 = .ok (.putfield 186, 3) := by decide +kernel
theorem dX1_moveVehicles_79 : decode cX1_moveVehicles 79 = .ok (.goto 8, 3) := by decide +kernel
theorem dX1_moveVehicles_82 : decode cX1_moveVehicles 82 = .ok (.aload_n 0, 1) := by decide +kernel
theorem dX1_moveVehicles_83 : decode cX1_moveVehicles 83 = .ok (.aload_n 3, 1) := by decide +kernel
theorem dX1_moveVehicles_84 : decode cX1_moveVehicles 84 = .ok (.invokevirtual 221, 3) := by decide +kernel
theorem dX1_moveVehicles_87 : decode cX1_moveVehicles 87 = .ok (.iinc 2 1, 3) := by decide +kernel
theorem dX1_moveVehicles_90 : decode cX1_moveVehicles 90 = .ok (.goto (-86), 3) := by decide +kernel
theorem dX1_moveVehicles_93 : decode cX1_moveVehicles 93 = .ok (.iload_n 1, 1) := by decide +kernel
theorem dX1_moveVehicles_94 : decode cX1_moveVehicles 94 = .ok (.ireturn, 1) := by decide +kernel
theorem dX1_deliverLoad_0 : decode cX1_deliverLoad 0 = .ok (.iconst 0, 1) := by decide +kernel
theorem dX1_deliverLoad_1 : decode cX1_deliverLoad 1 = .ok (.istore_n 2, 1) := by decide +kernel
theorem dX1_deliverLoad_2 : decode cX1_deliverLoad 2 = .ok (.iconst 0, 1) := by decide +kernel
theorem dX1_deliverLoad_3 : decode cX1_deliverLoad 3 = .ok (.istore_n 3, 1) := by decide +kernel
theorem dX1_deliverLoad_4 : decode cX1_deliverLoad 4 = .ok (.iload_n 3, 1) := by decide +kernel
theorem dX1_deliverLoad_5 : decode cX1_deliverLoad 5 = .ok (.aload_n 0, 1) := by decide +kernel
theorem dX1_deliverLoad_6 : decode cX1_deliverLoad 6 = .ok (.getfield 38, 3) := by decide +kernel
theorem dX1_deliverLoad_9 : decode cX1_deliverLoad 9 = .ok (.if_icmp .ge 113, 3) := by decide +kernel
theorem dX1_deliverLoad_12 : decode cX1_deliverLoad 12 = .ok (.aload_n 0, 1) := by decide +kernel
theorem dX1_deliverLoad_13 : decode cX1_deliverLoad 13 = .ok (.getfield 11, 3) := by decide +kernel
theorem dX1_deliverLoad_16 : decode cX1_deliverLoad 16 = .ok (.iload_n 3, 1) := by decide +kernel
theorem dX1_deliverLoad_17 : decode cX1_deliverLoad 17 = .ok (.aaload, 1) := by decide +kernel
theorem dX1_deliverLoad_18 : decode cX1_deliverLoad 18 = .ok (.astore 4, 2) := by decide +kernel
theorem dX1_deliverLoad_20 : decode cX1_deliverLoad 20 = .ok (.aload 4, 2) := by decide +kernel
theorem dX1_deliverLoad_22 : decode cX1_deliverLoad 22 = .ok (.aload_n 1, 1) := by decide +kernel
theorem dX1_deliverLoad_23 : decode cX1_deliverLoad 23 = .ok (.invokevirtual 175, 3) := by decide +kernel
theorem dX1_deliverLoad_26 : decode cX1_deliverLoad 26 = .ok (.ifCond .eq 90, 3) := by decide +kernel
theorem dX1_deliverLoad_29 : decode cX1_deliverLoad 29 = .ok (.aload 4, 2) := by decide +kernel
theorem dX1_deliverLoad_31 : decode cX1_deliverLoad 31 = .ok (.aload_n 0, 1) := by decide +kernel
theorem dX1_deliverLoad_32 : decode cX1_deliverLoad 32 = .ok (.getfield 48, 3) := by decide +kernel
theorem dX1_deliverLoad_35 : decode cX1_deliverLoad 35 = .ok (.putfield 224, 3) := by decide +kernel
theorem dX1_deliverLoad_38 : decode cX1_deliverLoad 38 = .ok (.aload 4, 2) := by decide +kernel
theorem dX1_deliverLoad_40 : decode cX1_deliverLoad 40 = .ok (.aload_n 0, 1) := by decide +kernel
theorem dX1_deliverLoad_41 : decode cX1_deliverLoad 41 = .ok (.getfield 48, 3) := by decide +kernel
theorem dX1_deliverLoad_44 : decode cX1_deliverLoad 44 = .ok (.aload 4, 2) := by decide +kernel
theorem dX1_deliverLoad_46 : decode cX1_deliverLoad 46 = .ok (.getfield 95, 3) := by decide +kernel
theorem dX1_deliverLoad_49 : decode cX1_deliverLoad 49 = .ok (.if_icmp .le 7, 3) := by decide +kernel
theorem dX1_deliverLoad_52 : decode cX1_deliverLoad 52 = .ok (.iconst 4, 1) := by decide +kernel
theorem dX1_deliverLoad_53 : decode cX1_deliverLoad 53 = .ok (.goto 4, 3) := by decide +kernel
theorem dX1_deliverLoad_56 : decode cX1_deliverLoad 56 = .ok (.iconst 3, 1) := by decide +kernel
theorem dX1_deliverLoad_57 : decode cX1_deliverLoad 57 = .ok (.putfield 79, 3) := by decide +kernel
theorem dX1_deliverLoad_60 : decode cX1_deliverLoad 60 = .ok (.aload 4, 2) := by decide +kernel
theorem dX1_deliverLoad_62 : decode cX1_deliverLoad 62 = .ok (.getfield 79, 3) := by decide +kernel
theorem dX1_deliverLoad_65 : decode cX1_deliverLoad 65 = .ok (.iconst 3, 1) := by decide +kernel
theorem dX1_deliverLoad_66 : decode cX1_deliverLoad 66 = .ok (.if_icmp .ne 47, 3) := by decide +kernel
theorem dX1_deliverLoad_69 : decode cX1_deliverLoad 69 = .ok (.aload_n 0, 1) := by decide +kernel
theorem dX1_deliverLoad_70 : decode cX1_deliverLoad 70 = .ok (.dup, 1) := by decide +kernel
theorem dX1_deliverLoad_71 : decode cX1_deliverLoad 71 = .ok (.getfield 51, 3) := by decide +kernel
theorem dX1_deliverLoad_74 : decode cX1_deliverLoad 74 = .ok (.aload 4, 2) := by decide +kernel
theorem dX1_deliverLoad_76 : decode cX1_deliverLoad 76 = .ok (.getfield 98, 3) := by decide +kernel
theorem dX1_deliverLoad_79 : decode cX1_deliverLoad 79 = .ok (.iadd, 1) := by decide +kernel
theorem dX1_deliverLoad_80 : decode cX1_deliverLoad 80 = .ok (.putfield 51, 3) := by decide +kernel
theorem dX1_deliverLoad_83 : decode cX1_deliverLoad 83 = .ok (.aload_n 0, 1) := by decide +kernel
theorem dX1_deliverLoad_84 : decode cX1_deliverLoad 84 = .ok (.dup, 1) := by decide +kernel
theorem dX1_deliverLoad_85 : decode cX1_deliverLoad 85 = .ok (.getfield 60, 3) := by decide +kernel
theorem dX1_deliverLoad_88 : decode cX1_deliverLoad 88 = .ok (.aload_n 0, 1) := by decide +kernel
theorem dX1_deliverLoad_89 : decode cX1_deliverLoad 89 = .ok (.getfield 29, 3) := by decide +kernel
theorem dX1_deliverLoad_92 : decode cX1_deliverLoad 92 = .ok (.iconst 2, 1) := by decide +kernel
theorem dX1_deliverLoad_93 : decode cX1_deliverLoad 93 = .ok (.iaload, 1) := by decide +kernel
theorem dX1_deliverLoad_94 : decode cX1_deliverLoad 94 = .ok (.iconst 0, 1) := by decide +kernel
theorem dX1_deliverLoad_95 : decode cX1_deliverLoad 95 = .ok (.aload 4, 2) := by decide +kernel
theorem dX1_deliverLoad_97 : decode cX1_deliverLoad 97 = .ok (.getfield 92, 3) := by decide +kernel
theorem dX1_deliverLoad_100 : decode cX1_deliverLoad 100 = .ok (.aload_n 0, 1) := by decide +kernel
theorem dX1_deliverLoad_101 : decode cX1_deliverLoad 101 = .ok (.getfield 48, 3) := by decide +kernel
theorem dX1_deliverLoad_104 : decode cX1_deliverLoad 104 = .ok (.isub, 1) := by decide +kernel
theorem dX1_deliverLoad_105 : decode cX1_deliverLoad 105 = .ok (.invokestatic 132, 3) := by decide +kernel
theorem dX1_deliverLoad_108 : decode cX1_deliverLoad 108 = .ok (.imul, 1) := by decide +kernel
theorem dX1_deliverLoad_109 : decode cX1_deliverLoad 109 = .ok (.iadd, 1) := by decide +kernel
theorem dX1_deliverLoad_110 : decode cX1_deliverLoad 110 = .ok (.putfield 60, 3) := by decide +kernel
theorem dX1_deliverLoad_113 : decode cX1_deliverLoad 113 = .ok (.iinc 2 1, 3) := by decide +kernel
theorem dX1_deliverLoad_116 : decode cX1_deliverLoad 116 = .ok (.iinc 3 1, 3) := by decide +kernel
theorem dX1_deliverLoad_119 : decode cX1_deliverLoad 119 = .ok (.goto (-115), 3) := by decide +kernel
theorem dX1_deliverLoad_122 : decode cX1_deliverLoad 122 = .ok (.iload_n 2, 1) := by decide +kernel
theorem dX1_deliverLoad_123 : decode cX1_deliverLoad 123 = .ok (.ireturn, 1) := by decide +kernel
theorem dX1_takeOffers_0 : decode cX1_takeOffers 0 = .ok (.aload_n 1, 1) := by decide +kernel
theorem dX1_takeOffers_1 : decode cX1_takeOffers 1 = .ok (.getfield 135, 3) := by decide +kernel
theorem dX1_takeOffers_4 : decode cX1_takeOffers 4 = .ok (.istore_n 2, 1) := by decide +kernel
theorem dX1_takeOffers_5 : decode cX1_takeOffers 5 = .ok (.aload_n 1, 1) := by decide +kernel
theorem dX1_takeOffers_6 : decode cX1_takeOffers 6 = .ok (.getfield 138, 3) := by decide +kernel
theorem dX1_takeOffers_9 : decode cX1_takeOffers 9 = .ok (.istore_n 3, 1) := by decide +kernel
theorem dX1_takeOffers_10 : decode cX1_takeOffers 10 = .ok (.iconst 0, 1) := by decide +kernel
theorem dX1_takeOffers_11 : decode cX1_takeOffers 11 = .ok (.istore 4, 2) := by decide +kernel
theorem dX1_takeOffers_13 : decode cX1_takeOffers 13 = .ok (.iload 4, 2) := by decide +kernel
theorem dX1_takeOffers_15 : decode cX1_takeOffers 15 = .ok (.bipush 10, 2) := by decide +kernel
theorem dX1_takeOffers_17 : decode cX1_takeOffers 17 = .ok (.if_icmp .ge 81, 3) := by decide +kernel
theorem dX1_takeOffers_20 : decode cX1_takeOffers 20 = .ok (.aload_n 0, 1) := by decide +kernel
theorem dX1_takeOffers_21 : decode cX1_takeOffers 21 = .ok (.aload_n 1, 1) := by decide +kernel
theorem dX1_takeOffers_22 : decode cX1_takeOffers 22 = .ok (.getfield 182, 3) := by decide +kernel
theorem dX1_takeOffers_25 : decode cX1_takeOffers 25 = .ok (.iload_n 2, 1) := by decide +kernel
theorem dX1_takeOffers_26 : decode cX1_takeOffers 26 = .ok (.iload_n 3, 1) := by decide +kernel
theorem dX1_takeOffers_27 : decode cX1_takeOffers 27 = .ok (.invokevirtual 227, 3) := by decide +kernel
theorem dX1_takeOffers_30 : decode cX1_takeOffers 30 = .ok (.istore 5, 2) := by decide +kernel
theorem dX1_takeOffers_32 : decode cX1_takeOffers 32 = .ok (.iload 5, 2) := by decide +kernel
theorem dX1_takeOffers_34 : decode cX1_takeOffers 34 = .ok (.iconst (-1), 1) := by decide +kernel
theorem dX1_takeOffers_35 : decode cX1_takeOffers 35 = .ok (.if_icmp .ne 6, 3) := by decide +kernel
theorem dX1_takeOffers_38 : decode cX1_takeOffers 38 = .ok (.goto 60, 3) := by decide +kernel
theorem dX1_takeOffers_41 : decode cX1_takeOffers 41 = .ok (.iload_n 2, 1) := by decide +kernel
theorem dX1_takeOffers_42 : decode cX1_takeOffers 42 = .ok (.aload_n 0, 1) := by decide +kernel
theorem dX1_takeOffers_43 : decode cX1_takeOffers 43 = .ok (.getfield 25, 3) := by decide +kernel
theorem dX1_takeOffers_46 : decode cX1_takeOffers 46 = .ok (.iload 5, 2) := by decide +kernel
theorem dX1_takeOffers_48 : decode cX1_takeOffers 48 = .ok (.aaload, 1) := by decide +kernel
theorem dX1_takeOffers_49 : decode cX1_takeOffers 49 = .ok (.getfield 190, 3) := by decide +kernel
theorem dX1_takeOffers_52 : decode cX1_takeOffers 52 = .ok (.isub, 1) := by decide +kernel
theorem dX1_takeOffers_53 : decode cX1_takeOffers 53 = .ok (.istore_n 2, 1) := by decide +kernel
theorem dX1_takeOffers_54 : decode cX1_takeOffers 54 = .ok (.iload_n 3, 1) := by decide +kernel
theorem dX1_takeOffers_55 : decode cX1_takeOffers 55 = .ok (.aload_n 0, 1) := by decide +kernel
theorem dX1_takeOffers_56 : decode cX1_takeOffers 56 = .ok (.getfield 25, 3) := by decide +kernel
theorem dX1_takeOffers_59 : decode cX1_takeOffers 59 = .ok (.iload 5, 2) := by decide +kernel
theorem dX1_takeOffers_61 : decode cX1_takeOffers 61 = .ok (.aaload, 1) := by decide +kernel
theorem dX1_takeOffers_62 : decode cX1_takeOffers 62 = .ok (.getfield 191, 3) := by decide +kernel
theorem dX1_takeOffers_65 : decode cX1_takeOffers 65 = .ok (.isub, 1) := by decide +kernel
theorem dX1_takeOffers_66 : decode cX1_takeOffers 66 = .ok (.istore_n 3, 1) := by decide +kernel
theorem dX1_takeOffers_67 : decode cX1_takeOffers 67 = .ok (.aload_n 1, 1) := by decide +kernel
theorem dX1_takeOffers_68 : decode cX1_takeOffers 68 = .ok (.dup, 1) := by decide +kernel
theorem dX1_takeOffers_69 : decode cX1_takeOffers 69 = .ok (.getfield 142, 3) := by decide +kernel
theorem dX1_takeOffers_72 : decode cX1_takeOffers 72 = .ok (.aload_n 0, 1) := by decide +kernel
theorem dX1_takeOffers_73 : decode cX1_takeOffers 73 = .ok (.getfield 25, 3) := by decide +kernel
theorem dX1_takeOffers_76 : decode cX1_takeOffers 76 = .ok (.iload 5, 2) := by decide +kernel
theorem dX1_takeOffers_78 : decode cX1_takeOffers 78 = .ok (.aaload, 1) := by decide +kernel
theorem dX1_takeOffers_79 : decode cX1_takeOffers 79 = .ok (.getfield 192, 3) := by decide +kernel
theorem dX1_takeOffers_82 : decode cX1_takeOffers 82 = .ok (.iadd, 1) := by decide +kernel
theorem dX1_takeOffers_83 : decode cX1_takeOffers 83 = .ok (.putfield 142, 3) := by decide +kernel
theorem dX1_takeOffers_86 : decode cX1_takeOffers 86 = .ok (.aload_n 0, 1) := by decide +kernel
theorem dX1_takeOffers_87 : decode cX1_takeOffers 87 = .ok (.iload 5, 2) := by decide +kernel
theorem dX1_takeOffers_89 : decode cX1_takeOffers 89 = .ok (.invokevirtual 231, 3) := by decide +kernel
theorem dX1_takeOffers_92 : decode cX1_takeOffers 92 = .ok (.iinc 4 1, 3) := by decide +kernel
theorem dX1_takeOffers_95 : decode cX1_takeOffers 95 = .ok (.goto (-82), 3) := by decide +kernel
theorem dX1_takeOffers_98 : decode cX1_takeOffers 98 = .ok (.return_, 1) := by decide +kernel
theorem dX1_bestOffer_0 : decode cX1_bestOffer 0 = .ok (.iconst (-1), 1) := by decide +kernel
theorem dX1_bestOffer_1 : decode cX1_bestOffer 1 = .ok (.istore 4, 2) := by decide +kernel
theorem dX1_bestOffer_3 : decode cX1_bestOffer 3 = .ok (.iconst (-1), 1) := by decide +kernel
theorem dX1_bestOffer_4 : decode cX1_bestOffer 4 = .ok (.istore 5, 2) := by decide +kernel
theorem dX1_bestOffer_6 : decode cX1_bestOffer 6 = .ok (.iconst 0, 1) := by decide +kernel
theorem dX1_bestOffer_7 : decode cX1_bestOffer 7 = .ok (.istore 6, 2) := by decide +kernel
theorem dX1_bestOffer_9 : decode cX1_bestOffer 9 = .ok (.iload 6, 2) := by decide +kernel
theorem dX1_bestOffer_11 : decode cX1_bestOffer 11 = .ok (.aload_n 0, 1) := by decide +kernel
theorem dX1_bestOffer_12 : decode cX1_bestOffer 12 = .ok (.getfield 45, 3) := by decide +kernel
theorem dX1_bestOffer_15 : decode cX1_bestOffer 15 = .ok (.if_icmp .ge 90, 3) := by decide +kernel
theorem dX1_bestOffer_18 : decode cX1_bestOffer 18 = .ok (.aload_n 0, 1) := by decide +kernel
theorem dX1_bestOffer_19 : decode cX1_bestOffer 19 = .ok (.getfield 25, 3) := by decide +kernel
theorem dX1_bestOffer_22 : decode cX1_bestOffer 22 = .ok (.iload 6, 2) := by decide +kernel
theorem dX1_bestOffer_24 : decode cX1_bestOffer 24 = .ok (.aaload, 1) := by decide +kernel
theorem dX1_bestOffer_25 : decode cX1_bestOffer 25 = .ok (.astore 7, 2) := by decide +kernel
theorem dX1_bestOffer_27 : decode cX1_bestOffer 27 = .ok (.aload 7, 2) := by decide +kernel
theorem dX1_bestOffer_29 : decode cX1_bestOffer 29 = .ok (.getfield 189, 3) := by decide +kernel
theorem dX1_bestOffer_32 : decode cX1_bestOffer 32 = .ok (.iload_n 1, 1) := by decide +kernel
theorem dX1_bestOffer_33 : decode cX1_bestOffer 33 = .ok (.if_icmp .ne 37, 3) := by decide +kernel
theorem dX1_bestOffer_36 : decode cX1_bestOffer 36 = .ok (.aload 7, 2) := by decide +kernel
theorem dX1_bestOffer_38 : decode cX1_bestOffer 38 = .ok (.getfield 195, 3) := by decide +kernel
theorem dX1_bestOffer_41 : decode cX1_bestOffer 41 = .ok (.aload_n 0, 1) := by decide +kernel
theorem dX1_bestOffer_42 : decode cX1_bestOffer 42 = .ok (.getfield 48, 3) := by decide +kernel
theorem dX1_bestOffer_45 : decode cX1_bestOffer 45 = .ok (.if_icmp .lt 25, 3) := by decide +kernel
theorem dX1_bestOffer_48 : decode cX1_bestOffer 48 = .ok (.aload 7, 2) := by decide +kernel
theorem dX1_bestOffer_50 : decode cX1_bestOffer 50 = .ok (.getfield 190, 3) := by decide +kernel
theorem dX1_bestOffer_53 : decode cX1_bestOffer 53 = .ok (.iload_n 2, 1) := by decide +kernel
theorem dX1_bestOffer_54 : decode cX1_bestOffer 54 = .ok (.if_icmp .gt 16, 3) := by decide +kernel
theorem dX1_bestOffer_57 : decode cX1_bestOffer 57 = .ok (.aload 7, 2) := by decide +kernel
theorem dX1_bestOffer_59 : decode cX1_bestOffer 59 = .ok (.getfield 191, 3) := by decide +kernel
theorem dX1_bestOffer_62 : decode cX1_bestOffer 62 = .ok (.iload_n 3, 1) := by decide +kernel
theorem dX1_bestOffer_63 : decode cX1_bestOffer 63 = .ok (.if_icmp .gt 7, 3) := by decide +kernel
theorem dX1_bestOffer_66 : decode cX1_bestOffer 66 = .ok (.iconst 1, 1) := by decide +kernel
theorem dX1_bestOffer_67 : decode cX1_bestOffer 67 = .ok (.goto 4, 3) := by decide +kernel
theorem dX1_bestOffer_70 : decode cX1_bestOffer 70 = .ok (.iconst 0, 1) := by decide +kernel
theorem dX1_bestOffer_71 : decode cX1_bestOffer 71 = .ok (.istore 8, 2) := by decide +kernel
theorem dX1_bestOffer_73 : decode cX1_bestOffer 73 = .ok (.iload 8, 2) := by decide +kernel
theorem dX1_bestOffer_75 : decode cX1_bestOffer 75 = .ok (.ifCond .eq 24, 3) := by decide +kernel
theorem dX1_bestOffer_78 : decode cX1_bestOffer 78 = .ok (.aload 7, 2) := by decide +kernel
theorem dX1_bestOffer_80 : decode cX1_bestOffer 80 = .ok (.getfield 192, 3) := by decide +kernel
theorem dX1_bestOffer_83 : decode cX1_bestOffer 83 = .ok (.iload 5, 2) := by decide +kernel
theorem dX1_bestOffer_85 : decode cX1_bestOffer 85 = .ok (.if_icmp .le 14, 3) := by decide +kernel
theorem dX1_bestOffer_88 : decode cX1_bestOffer 88 = .ok (.iload 6, 2) := by decide +kernel
theorem dX1_bestOffer_90 : decode cX1_bestOffer 90 = .ok (.istore 4, 2) := by decide +kernel
theorem dX1_bestOffer_92 : decode cX1_bestOffer 92 = .ok (.aload 7, 2) := by decide +kernel
theorem dX1_bestOffer_94 : decode cX1_bestOffer 94 = .ok (.getfield 192, 3) := by decide +kernel
theorem dX1_bestOffer_97 : decode cX1_bestOffer 97 = .ok (.istore 5, 2) := by decide +kernel
theorem dX1_bestOffer_99 : decode cX1_bestOffer 99 = .ok (.iinc 6 1, 3) := by decide +kernel
theorem dX1_bestOffer_102 : decode cX1_bestOffer 102 = .ok (.goto (-93), 3) := by decide +kernel
theorem dX1_bestOffer_105 : decode cX1_bestOffer 105 = .ok (.iload 4, 2) := by decide +kernel
theorem dX1_bestOffer_107 : decode cX1_bestOffer 107 = .ok (.ireturn, 1) := by decide +kernel
theorem dX1_comeBack_0 : decode cX1_comeBack 0 = .ok (.aload_n 1, 1) := by decide +kernel
theorem dX1_comeBack_1 : decode cX1_comeBack 1 = .ok (.iconst 0, 1) := by decide +kernel
theorem dX1_comeBack_2 : decode cX1_comeBack 2 = .ok (.putfield 141, 3) := by decide +kernel
theorem dX1_comeBack_5 : decode cX1_comeBack 5 = .ok (.aload_n 1, 1) := by decide +kernel
theorem dX1_comeBack_6 : decode cX1_comeBack 6 = .ok (.dup, 1) := by decide +kernel
theorem dX1_comeBack_7 : decode cX1_comeBack 7 = .ok (.getfield 145, 3) := by decide +kernel
theorem dX1_comeBack_10 : decode cX1_comeBack 10 = .ok (.iconst 1, 1) := by decide +kernel
theorem dX1_comeBack_11 : decode cX1_comeBack 11 = .ok (.iadd, 1) := by decide +kernel
theorem dX1_comeBack_12 : decode cX1_comeBack 12 = .ok (.putfield 145, 3) := by decide +kernel
theorem dX1_comeBack_15 : decode cX1_comeBack 15 = .ok (.aload_n 0, 1) := by decide +kernel
theorem dX1_comeBack_16 : decode cX1_comeBack 16 = .ok (.dup, 1) := by decide +kernel
theorem dX1_comeBack_17 : decode cX1_comeBack 17 = .ok (.getfield 54, 3) := by decide +kernel
theorem dX1_comeBack_20 : decode cX1_comeBack 20 = .ok (.aload_n 1, 1) := by decide +kernel
theorem dX1_comeBack_21 : decode cX1_comeBack 21 = .ok (.getfield 142, 3) := by decide +kernel
theorem dX1_comeBack_24 : decode cX1_comeBack 24 = .ok (.iadd, 1) := by decide +kernel
theorem dX1_comeBack_25 : decode cX1_comeBack 25 = .ok (.putfield 54, 3) := by decide +kernel
theorem dX1_comeBack_28 : decode cX1_comeBack 28 = .ok (.aload_n 1, 1) := by decide +kernel
theorem dX1_comeBack_29 : decode cX1_comeBack 29 = .ok (.iconst 0, 1) := by decide +kernel
theorem dX1_comeBack_30 : decode cX1_comeBack 30 = .ok (.putfield 142, 3) := by decide +kernel
theorem dX1_comeBack_33 : decode cX1_comeBack 33 = .ok (.return_, 1) := by decide +kernel
theorem dX1_dropOldOffers_0 : decode cX1_dropOldOffers 0 = .ok (.aload_n 0, 1) := by decide +kernel
theorem dX1_dropOldOffers_1 : decode cX1_dropOldOffers 1 = .ok (.getfield 45, 3) := by decide +kernel
theorem dX1_dropOldOffers_4 : decode cX1_dropOldOffers 4 = .ok (.iconst 1, 1) := by decide +kernel
theorem dX1_dropOldOffers_5 : decode cX1_dropOldOffers 5 = .ok (.isub, 1) := by decide +kernel
theorem dX1_dropOldOffers_6 : decode cX1_dropOldOffers 6 = .ok (.istore_n 1, 1) := by decide +kernel
theorem dX1_dropOldOffers_7 : decode cX1_dropOldOffers 7 = .ok (.iload_n 1, 1) := by decide +kernel
theorem dX1_dropOldOffers_8 : decode cX1_dropOldOffers 8 = .ok (.ifCond .lt 30, 3) := by decide +kernel
theorem dX1_dropOldOffers_11 : decode cX1_dropOldOffers 11 = .ok (.aload_n 0, 1) := by decide +kernel
theorem dX1_dropOldOffers_12 : decode cX1_dropOldOffers 12 = .ok (.getfield 25, 3) := by decide +kernel
theorem dX1_dropOldOffers_15 : decode cX1_dropOldOffers 15 = .ok (.iload_n 1, 1) := by decide +kernel
theorem dX1_dropOldOffers_16 : decode cX1_dropOldOffers 16 = .ok (.aaload, 1) := by decide +kernel
theorem dX1_dropOldOffers_17 : decode cX1_dropOldOffers 17 = .ok (.getfield 195, 3) := by decide +kernel
theorem dX1_dropOldOffers_20 : decode cX1_dropOldOffers 20 = .ok (.aload_n 0, 1) := by decide +kernel
theorem dX1_dropOldOffers_21 : decode cX1_dropOldOffers 21 = .ok (.getfield 48, 3) := by decide +kernel
theorem dX1_dropOldOffers_24 : decode cX1_dropOldOffers 24 = .ok (.if_icmp .ge 8, 3) := by decide +kernel
theorem dX1_dropOldOffers_27 : decode cX1_dropOldOffers 27 = .ok (.aload_n 0, 1) := by decide +kernel
theorem dX1_dropOldOffers_28 : decode cX1_dropOldOffers 28 = .ok (.iload_n 1, 1) := by decide +kernel
theorem dX1_dropOldOffers_29 : decode cX1_dropOldOffers 29 = .ok (.invokevirtual 231, 3) := by decide +kernel
theorem dX1_dropOldOffers_32 : decode cX1_dropOldOffers 32 = .ok (.iinc 1 (-1), 3) := by decide +kernel
theorem dX1_dropOldOffers_35 : decode cX1_dropOldOffers 35 = .ok (.goto (-28), 3) := by decide +kernel
theorem dX1_dropOldOffers_38 : decode cX1_dropOldOffers 38 = .ok (.return_, 1) := by decide +kernel
theorem dX1_removeOffer_0 : decode cX1_removeOffer 0 = .ok (.iload_n 1, 1) := by decide +kernel
theorem dX1_removeOffer_1 : decode cX1_removeOffer 1 = .ok (.ifCond .lt 20, 3) := by decide +kernel
theorem dX1_removeOffer_4 : decode cX1_removeOffer 4 = .ok (.iload_n 1, 1) := by decide +kernel
theorem dX1_removeOffer_5 : decode cX1_removeOffer 5 = .ok (.aload_n 0, 1) := by decide +kernel
theorem dX1_removeOffer_6 : decode cX1_removeOffer 6 = .ok (.getfield 45, 3) := by decide +kernel
theorem dX1_removeOffer_9 : decode cX1_removeOffer 9 = .ok (.if_icmp .ge 12, 3) := by decide +kernel
theorem dX1_removeOffer_12 : decode cX1_removeOffer 12 = .ok (.aload_n 0, 1) := by decide +kernel
theorem dX1_removeOffer_13 : decode cX1_removeOffer 13 = .ok (.getfield 45, 3) := by decide +kernel
theorem dX1_removeOffer_16 : decode cX1_removeOffer 16 = .ok (.bipush 10, 2) := by decide +kernel
theorem dX1_removeOffer_18 : decode cX1_removeOffer 18 = .ok (.if_icmp .le 4, 3) := by decide +kernel
theorem dX1_removeOffer_21 : decode cX1_removeOffer 21 = .ok (.return_, 1) := by decide +kernel
theorem dX1_removeOffer_22 : decode cX1_removeOffer 22 = .ok (.aload_n 0, 1) := by decide +kernel
theorem dX1_removeOffer_23 : decode cX1_removeOffer 23 = .ok (.getfield 25, 3) := by decide +kernel
theorem dX1_removeOffer_26 : decode cX1_removeOffer 26 = .ok (.iload_n 1, 1) := by decide +kernel
theorem dX1_removeOffer_27 : decode cX1_removeOffer 27 = .ok (.aaload, 1) := by decide +kernel
theorem dX1_removeOffer_28 : decode cX1_removeOffer 28 = .ok (.astore_n 2, 1) := by decide +kernel
theorem dX1_removeOffer_29 : decode cX1_removeOffer 29 = .ok (.iload_n 1, 1) := by decide +kernel
theorem dX1_removeOffer_30 : decode cX1_removeOffer 30 = .ok (.istore_n 3, 1) := by decide +kernel
theorem dX1_removeOffer_31 : decode cX1_removeOffer 31 = .ok (.iload_n 3, 1) := by decide +kernel
theorem dX1_removeOffer_32 : decode cX1_removeOffer 32 = .ok (.aload_n 0, 1) := by decide +kernel
theorem dX1_removeOffer_33 : decode cX1_removeOffer 33 = .ok (.getfield 45, 3) := by decide +kernel
theorem dX1_removeOffer_36 : decode cX1_removeOffer 36 = .ok (.iconst 1, 1) := by decide +kernel
theorem dX1_removeOffer_37 : decode cX1_removeOffer 37 = .ok (.isub, 1) := by decide +kernel
theorem dX1_removeOffer_38 : decode cX1_removeOffer 38 = .ok (.if_icmp .ge 23, 3) := by decide +kernel
theorem dX1_removeOffer_41 : decode cX1_removeOffer 41 = .ok (.aload_n 0, 1) := by decide +kernel
theorem dX1_removeOffer_42 : decode cX1_removeOffer 42 = .ok (.getfield 25, 3) := by decide +kernel
theorem dX1_removeOffer_45 : decode cX1_removeOffer 45 = .ok (.iload_n 3, 1) := by decide +kernel
theorem dX1_removeOffer_46 : decode cX1_removeOffer 46 = .ok (.aload_n 0, 1) := by decide +kernel
theorem dX1_removeOffer_47 : decode cX1_removeOffer 47 = .ok (.getfield 25, 3) := by decide +kernel
theorem dX1_removeOffer_50 : decode cX1_removeOffer 50 = .ok (.iload_n 3, 1) := by decide +kernel
theorem dX1_removeOffer_51 : decode cX1_removeOffer 51 = .ok (.iconst 1, 1) := by decide +kernel
theorem dX1_removeOffer_52 : decode cX1_removeOffer 52 = .ok (.iadd, 1) := by decide +kernel
theorem dX1_removeOffer_53 : decode cX1_removeOffer 53 = .ok (.aaload, 1) := by decide +kernel
theorem dX1_removeOffer_54 : decode cX1_removeOffer 54 = .ok (.aastore, 1) := by decide +kernel
theorem dX1_removeOffer_55 : decode cX1_removeOffer 55 = .ok (.iinc 3 1, 3) := by decide +kernel
theorem dX1_removeOffer_58 : decode cX1_removeOffer 58 = .ok (.goto (-27), 3) := by decide +kernel
theorem dX1_removeOffer_61 : decode cX1_removeOffer 61 = .ok (.aload_n 0, 1) := by decide +kernel
theorem dX1_removeOffer_62 : decode cX1_removeOffer 62 = .ok (.dup, 1) := by decide +kernel
theorem dX1_removeOffer_63 : decode cX1_removeOffer 63 = .ok (.getfield 45, 3) := by decide +kernel
theorem dX1_removeOffer_66 : decode cX1_removeOffer 66 = .ok (.iconst 1, 1) := by decide +kernel
theorem dX1_removeOffer_67 : decode cX1_removeOffer 67 = .ok (.isub, 1) := by decide +kernel
theorem dX1_removeOffer_68 : decode cX1_removeOffer 68 = .ok (.putfield 45, 3) := by decide +kernel
theorem dX1_removeOffer_71 : decode cX1_removeOffer 71 = .ok (.aload_n 0, 1) := by decide +kernel
theorem dX1_removeOffer_72 : decode cX1_removeOffer 72 = .ok (.getfield 25, 3) := by decide +kernel
theorem dX1_removeOffer_75 : decode cX1_removeOffer 75 = .ok (.aload_n 0, 1) := by decide +kernel
theorem dX1_removeOffer_76 : decode cX1_removeOffer 76 = .ok (.getfield 45, 3) := by decide +kernel
theorem dX1_removeOffer_79 : decode cX1_removeOffer 79 = .ok (.aload_n 2, 1) := by decide +kernel
theorem dX1_removeOffer_80 : decode cX1_removeOffer 80 = .ok (.aastore, 1) := by decide +kernel
theorem dX1_removeOffer_81 : decode cX1_removeOffer 81 = .ok (.return_, 1) := by decide +kernel
theorem dX1_payFees_0 : decode cX1_payFees 0 = .ok (.iconst 0, 1) := by decide +kernel
theorem dX1_payFees_1 : decode cX1_payFees 1 = .ok (.istore_n 1, 1) := by decide +kernel
theorem dX1_payFees_2 : decode cX1_payFees 2 = .ok (.iload_n 1, 1) := by decide +kernel
theorem dX1_payFees_3 : decode cX1_payFees 3 = .ok (.aload_n 0, 1) := by decide +kernel
theorem dX1_payFees_4 : decode cX1_payFees 4 = .ok (.getfield 38, 3) := by decide +kernel
theorem dX1_payFees_7 : decode cX1_payFees 7 = .ok (.if_icmp .ge 60, 3) := by decide +kernel
theorem dX1_payFees_10 : decode cX1_payFees 10 = .ok (.aload_n 0, 1) := by decide +kernel
theorem dX1_payFees_11 : decode cX1_payFees 11 = .ok (.getfield 11, 3) := by decide +kernel
theorem dX1_payFees_14 : decode cX1_payFees 14 = .ok (.iload_n 1, 1) := by decide +kernel
theorem dX1_payFees_15 : decode cX1_payFees 15 = .ok (.aaload, 1) := by decide +kernel
theorem dX1_payFees_16 : decode cX1_payFees 16 = .ok (.astore_n 2, 1) := by decide +kernel
theorem dX1_payFees_17 : decode cX1_payFees 17 = .ok (.aload_n 2, 1) := by decide +kernel
theorem dX1_payFees_18 : decode cX1_payFees 18 = .ok (.invokevirtual 234, 3) := by decide +kernel
theorem dX1_payFees_21 : decode cX1_payFees 21 = .ok (.ifCond .eq 40, 3) := by decide +kernel
theorem dX1_payFees_24 : decode cX1_payFees 24 = .ok (.aload_n 0, 1) := by decide +kernel
theorem dX1_payFees_25 : decode cX1_payFees 25 = .ok (.getfield 48, 3) := by decide +kernel
theorem dX1_payFees_28 : decode cX1_payFees 28 = .ok (.aload_n 2, 1) := by decide +kernel
theorem dX1_payFees_29 : decode cX1_payFees 29 = .ok (.getfield 101, 3) := by decide +kernel
theorem dX1_payFees_32 : decode cX1_payFees 32 = .ok (.isub, 1) := by decide +kernel
theorem dX1_payFees_33 : decode cX1_payFees 33 = .ok (.aload_n 0, 1) := by decide +kernel
theorem dX1_payFees_34 : decode cX1_payFees 34 = .ok (.getfield 29, 3) := by decide +kernel
theorem dX1_payFees_37 : decode cX1_payFees 37 = .ok (.iconst 1, 1) := by decide +kernel
theorem dX1_payFees_38 : decode cX1_payFees 38 = .ok (.iaload, 1) := by decide +kernel
theorem dX1_payFees_39 : decode cX1_payFees 39 = .ok (.if_icmp .le 22, 3) := by decide +kernel
theorem dX1_payFees_42 : decode cX1_payFees 42 = .ok (.aload_n 0, 1) := by decide +kernel
theorem dX1_payFees_43 : decode cX1_payFees 43 = .ok (.dup, 1) := by decide +kernel
theorem dX1_payFees_44 : decode cX1_payFees 44 = .ok (.getfield 57, 3) := by decide +kernel
theorem dX1_payFees_47 : decode cX1_payFees 47 = .ok (.aload_n 2, 1) := by decide +kernel
theorem dX1_payFees_48 : decode cX1_payFees 48 = .ok (.getfield 86, 3) := by decide +kernel
theorem dX1_payFees_51 : decode cX1_payFees 51 = .ok (.bipush 9, 2) := by decide +kernel
theorem dX1_payFees_53 : decode cX1_payFees 53 = .ok (.iadd, 1) := by decide +kernel
theorem dX1_payFees_54 : decode cX1_payFees 54 = .ok (.bipush 10, 2) := by decide +kernel
theorem dX1_payFees_56 : decode cX1_payFees 56 = .ok (.idiv, 1) := by decide +kernel
theorem dX1_payFees_57 : decode cX1_payFees 57 = .ok (.iadd, 1) := by decide +kernel
theorem dX1_payFees_58 : decode cX1_payFees 58 = .ok (.putfield 57, 3) := by decide +kernel
theorem dX1_payFees_61 : decode cX1_payFees 61 = .ok (.iinc 1 1, 3) := by decide +kernel
theorem dX1_payFees_64 : decode cX1_payFees 64 = .ok (.goto (-62), 3) := by decide +kernel
theorem dX1_payFees_67 : decode cX1_payFees 67 = .ok (.return_, 1) := by decide +kernel
theorem dX1_canTake_0 : decode cX1_canTake 0 = .ok (.aload_n 1, 1) := by decide +kernel
theorem dX1_canTake_1 : decode cX1_canTake 1 = .ok (.getfield 141, 3) := by decide +kernel
theorem dX1_canTake_4 : decode cX1_canTake 4 = .ok (.ifCond .ne 10, 3) := by decide +kernel
theorem dX1_canTake_7 : decode cX1_canTake 7 = .ok (.aload_n 2, 1) := by decide +kernel
theorem dX1_canTake_8 : decode cX1_canTake 8 = .ok (.getfield 79, 3) := by decide +kernel
theorem dX1_canTake_11 : decode cX1_canTake 11 = .ok (.ifCond .eq 5, 3) := by decide +kernel
theorem dX1_canTake_14 : decode cX1_canTake 14 = .ok (.iconst 0, 1) := by decide +kernel
theorem dX1_canTake_15 : decode cX1_canTake 15 = .ok (.ireturn, 1) := by decide +kernel
theorem dX1_canTake_16 : decode cX1_canTake 16 = .ok (.aload_n 0, 1) := by decide +kernel
theorem dX1_canTake_17 : decode cX1_canTake 17 = .ok (.aload_n 1, 1) := by decide +kernel
theorem dX1_canTake_18 : decode cX1_canTake 18 = .ok (.invokevirtual 172, 3) := by decide +kernel
theorem dX1_canTake_21 : decode cX1_canTake 21 = .ok (.istore_n 3, 1) := by decide +kernel
theorem dX1_canTake_22 : decode cX1_canTake 22 = .ok (.iload_n 3, 1) := by decide +kernel
theorem dX1_canTake_23 : decode cX1_canTake 23 = .ok (.ifCond .eq 11, 3) := by decide +kernel
theorem dX1_canTake_26 : decode cX1_canTake 26 = .ok (.iload_n 3, 1) := by decide +kernel
theorem dX1_canTake_27 : decode cX1_canTake 27 = .ok (.aload_n 2, 1) := by decide +kernel
theorem dX1_canTake_28 : decode cX1_canTake 28 = .ok (.getfield 83, 3) := by decide +kernel
theorem dX1_canTake_31 : decode cX1_canTake 31 = .ok (.if_icmp .ne 41, 3) := by decide +kernel
theorem dX1_canTake_34 : decode cX1_canTake 34 = .ok (.aload_n 0, 1) := by decide +kernel
theorem dX1_canTake_35 : decode cX1_canTake 35 = .ok (.aload_n 1, 1) := by decide +kernel
theorem dX1_canTake_36 : decode cX1_canTake 36 = .ok (.invokevirtual 160, 3) := by decide +kernel
theorem dX1_canTake_39 : decode cX1_canTake 39 = .ok (.aload_n 2, 1) := by decide +kernel
theorem dX1_canTake_40 : decode cX1_canTake 40 = .ok (.getfield 86, 3) := by decide +kernel
theorem dX1_canTake_43 : decode cX1_canTake 43 = .ok (.iadd, 1) := by decide +kernel
theorem dX1_canTake_44 : decode cX1_canTake 44 = .ok (.aload_n 1, 1) := by decide +kernel
theorem dX1_canTake_45 : decode cX1_canTake 45 = .ok (.getfield 135, 3) := by decide +kernel
theorem dX1_canTake_48 : decode cX1_canTake 48 = .ok (.if_icmp .gt 24, 3) := by decide +kernel
theorem dX1_canTake_51 : decode cX1_canTake 51 = .ok (.aload_n 0, 1) := by decide +kernel
theorem dX1_canTake_52 : decode cX1_canTake 52 = .ok (.aload_n 1, 1) := by decide +kernel
theorem dX1_canTake_53 : decode cX1_canTake 53 = .ok (.invokevirtual 238, 3) := by decide +kernel
theorem dX1_canTake_56 : decode cX1_canTake 56 = .ok (.aload_n 2, 1) := by decide +kernel
theorem dX1_canTake_57 : decode cX1_canTake 57 = .ok (.getfield 89, 3) := by decide +kernel
theorem dX1_canTake_60 : decode cX1_canTake 60 = .ok (.iadd, 1) := by decide +kernel
theorem dX1_canTake_61 : decode cX1_canTake 61 = .ok (.aload_n 1, 1) := by decide +kernel
theorem dX1_canTake_62 : decode cX1_canTake 62 = .ok (.getfield 138, 3) := by decide +kernel
theorem dX1_canTake_65 : decode cX1_canTake 65 = .ok (.if_icmp .gt 7, 3) := by decide +kernel
theorem dX1_canTake_68 : decode cX1_canTake 68 = .ok (.iconst 1, 1) := by decide +kernel
theorem dX1_canTake_69 : decode cX1_canTake 69 = .ok (.goto 4, 3) := by decide +kernel
theorem dX1_canTake_72 : decode cX1_canTake 72 = .ok (.iconst 0, 1) := by decide +kernel
theorem dX1_canTake_73 : decode cX1_canTake 73 = .ok (.ireturn, 1) := by decide +kernel
theorem dX1_loadSize_0 : decode cX1_loadSize 0 = .ok (.iconst 0, 1) := by decide +kernel
theorem dX1_loadSize_1 : decode cX1_loadSize 1 = .ok (.istore_n 2, 1) := by decide +kernel
theorem dX1_loadSize_2 : decode cX1_loadSize 2 = .ok (.iconst 0, 1) := by decide +kernel
theorem dX1_loadSize_3 : decode cX1_loadSize 3 = .ok (.istore_n 3, 1) := by decide +kernel
theorem dX1_loadSize_4 : decode cX1_loadSize 4 = .ok (.iload_n 3, 1) := by decide +kernel
theorem dX1_loadSize_5 : decode cX1_loadSize 5 = .ok (.aload_n 0, 1) := by decide +kernel
theorem dX1_loadSize_6 : decode cX1_loadSize 6 = .ok (.getfield 38, 3) := by decide +kernel
theorem dX1_loadSize_9 : decode cX1_loadSize 9 = .ok (.if_icmp .ge 38, 3) := by decide +kernel
theorem dX1_loadSize_12 : decode cX1_loadSize 12 = .ok (.iload_n 2, 1) := by decide +kernel
theorem dX1_loadSize_13 : decode cX1_loadSize 13 = .ok (.aload_n 0, 1) := by decide +kernel
theorem dX1_loadSize_14 : decode cX1_loadSize 14 = .ok (.getfield 11, 3) := by decide +kernel
theorem dX1_loadSize_17 : decode cX1_loadSize 17 = .ok (.iload_n 3, 1) := by decide +kernel
theorem dX1_loadSize_18 : decode cX1_loadSize 18 = .ok (.aaload, 1) := by decide +kernel
theorem dX1_loadSize_19 : decode cX1_loadSize 19 = .ok (.aload_n 1, 1) := by decide +kernel
theorem dX1_loadSize_20 : decode cX1_loadSize 20 = .ok (.invokevirtual 175, 3) := by decide +kernel
theorem dX1_loadSize_23 : decode cX1_loadSize 23 = .ok (.ifCond .eq 15, 3) := by decide +kernel
theorem dX1_loadSize_26 : decode cX1_loadSize 26 = .ok (.aload_n 0, 1) := by decide +kernel
theorem dX1_loadSize_27 : decode cX1_loadSize 27 = .ok (.getfield 11, 3) := by decide +kernel
theorem dX1_loadSize_30 : decode cX1_loadSize 30 = .ok (.iload_n 3, 1) := by decide +kernel
theorem dX1_loadSize_31 : decode cX1_loadSize 31 = .ok (.aaload, 1) := by decide +kernel
theorem dX1_loadSize_32 : decode cX1_loadSize 32 = .ok (.getfield 86, 3) := by decide +kernel
theorem dX1_loadSize_35 : decode cX1_loadSize 35 = .ok (.goto 4, 3) := by decide +kernel
theorem dX1_loadSize_38 : decode cX1_loadSize 38 = .ok (.iconst 0, 1) := by decide +kernel
theorem dX1_loadSize_39 : decode cX1_loadSize 39 = .ok (.iadd, 1) := by decide +kernel
theorem dX1_loadSize_40 : decode cX1_loadSize 40 = .ok (.istore_n 2, 1) := by decide +kernel
theorem dX1_loadSize_41 : decode cX1_loadSize 41 = .ok (.iinc 3 1, 3) := by decide +kernel
theorem dX1_loadSize_44 : decode cX1_loadSize 44 = .ok (.goto (-40), 3) := by decide +kernel
theorem dX1_loadSize_47 : decode cX1_loadSize 47 = .ok (.iload_n 2, 1) := by decide +kernel
theorem dX1_loadSize_48 : decode cX1_loadSize 48 = .ok (.ireturn, 1) := by decide +kernel
theorem dX1_loadWeight_0 : decode cX1_loadWeight 0 = .ok (.iconst 0, 1) := by decide +kernel
theorem dX1_loadWeight_1 : decode cX1_loadWeight 1 = .ok (.istore_n 2, 1) := by decide +kernel
theorem dX1_loadWeight_2 : decode cX1_loadWeight 2 = .ok (.iconst 0, 1) := by decide +kernel
theorem dX1_loadWeight_3 : decode cX1_loadWeight 3 = .ok (.istore_n 3, 1) := by decide +kernel
theorem dX1_loadWeight_4 : decode cX1_loadWeight 4 = .ok (.iload_n 3, 1) := by decide +kernel
theorem dX1_loadWeight_5 : decode cX1_loadWeight 5 = .ok (.aload_n 0, 1) := by decide +kernel
theorem dX1_loadWeight_6 : decode cX1_loadWeight 6 = .ok (.getfield 38, 3) := by decide +kernel
theorem dX1_loadWeight_9 : decode cX1_loadWeight 9 = .ok (.if_icmp .ge 38, 3) := by decide +kernel
theorem dX1_loadWeight_12 : decode cX1_loadWeight 12 = .ok (.iload_n 2, 1) := by decide +kernel
theorem dX1_loadWeight_13 : decode cX1_loadWeight 13 = .ok (.aload_n 0, 1) := by decide +kernel
theorem dX1_loadWeight_14 : decode cX1_loadWeight 14 = .ok (.getfield 11, 3) := by decide +kernel
theorem dX1_loadWeight_17 : decode cX1_loadWeight 17 = .ok (.iload_n 3, 1) := by decide +kernel
theorem dX1_loadWeight_18 : decode cX1_loadWeight 18 = .ok (.aaload, 1) := by decide +kernel
theorem dX1_loadWeight_19 : decode cX1_loadWeight 19 = .ok (.aload_n 1, 1) := by decide +kernel
theorem dX1_loadWeight_20 : decode cX1_loadWeight 20 = .ok (.invokevirtual 175, 3) := by decide +kernel
theorem dX1_loadWeight_23 : decode cX1_loadWeight 23 = .ok (.ifCond .eq 15, 3) := by decide +kernel
theorem dX1_loadWeight_26 : decode cX1_loadWeight 26 = .ok (.aload_n 0, 1) := by decide +kernel
theorem dX1_loadWeight_27 : decode cX1_loadWeight 27 = .ok (.getfield 11, 3) := by decide +kernel
theorem dX1_loadWeight_30 : decode cX1_loadWeight 30 = .ok (.iload_n 3, 1) := by decide +kernel
theorem dX1_loadWeight_31 : decode cX1_loadWeight 31 = .ok (.aaload, 1) := by decide +kernel
theorem dX1_loadWeight_32 : decode cX1_loadWeight 32 = .ok (.getfield 89, 3) := by decide +kernel
theorem dX1_loadWeight_35 : decode cX1_loadWeight 35 = .ok (.goto 4, 3) := by decide +kernel
theorem dX1_loadWeight_38 : decode cX1_loadWeight 38 = .ok (.iconst 0, 1) := by decide +kernel
theorem dX1_loadWeight_39 : decode cX1_loadWeight 39 = .ok (.iadd, 1) := by decide +kernel
theorem dX1_loadWeight_40 : decode cX1_loadWeight 40 = .ok (.istore_n 2, 1) := by decide +kernel
theorem dX1_loadWeight_41 : decode cX1_loadWeight 41 = .ok (.iinc 3 1, 3) := by decide +kernel
theorem dX1_loadWeight_44 : decode cX1_loadWeight 44 = .ok (.goto (-40), 3) := by decide +kernel
theorem dX1_loadWeight_47 : decode cX1_loadWeight 47 = .ok (.iload_n 2, 1) := by decide +kernel
theorem dX1_loadWeight_48 : decode cX1_loadWeight 48 = .ok (.ireturn, 1) := by decide +kernel
theorem dX1_loadSet_0 : decode cX1_loadSet 0 = .ok (.iconst 0, 1) := by decide +kernel
theorem dX1_loadSet_1 : decode cX1_loadSet 1 = .ok (.istore_n 2, 1) := by decide +kernel
theorem dX1_loadSet_2 : decode cX1_loadSet 2 = .ok (.iconst 0, 1) := by decide +kernel
theorem dX1_loadSet_3 : decode cX1_loadSet 3 = .ok (.istore_n 3, 1) := by decide +kernel
theorem dX1_loadSet_4 : decode cX1_loadSet 4 = .ok (.iload_n 3, 1) := by decide +kernel
theorem dX1_loadSet_5 : decode cX1_loadSet 5 = .ok (.aload_n 0, 1) := by decide +kernel
theorem dX1_loadSet_6 : decode cX1_loadSet 6 = .ok (.getfield 38, 3) := by decide +kernel
theorem dX1_loadSet_9 : decode cX1_loadSet 9 = .ok (.if_icmp .ge 32, 3) := by decide +kernel
theorem dX1_loadSet_12 : decode cX1_loadSet 12 = .ok (.iload_n 2, 1) := by decide +kernel
theorem dX1_loadSet_13 : decode cX1_loadSet 13 = .ok (.aload_n 0, 1) := by decide +kernel
theorem dX1_loadSet_14 : decode cX1_loadSet 14 = .ok (.getfield 11, 3) := by decide +kernel
theorem dX1_loadSet_17 : decode cX1_loadSet 17 = .ok (.iload_n 3, 1) := by decide +kernel
theorem dX1_loadSet_18 : decode cX1_loadSet 18 = .ok (.aaload, 1) := by decide +kernel
theorem dX1_loadSet_19 : decode cX1_loadSet 19 = .ok (.aload_n 1, 1) := by decide +kernel
theorem dX1_loadSet_20 : decode cX1_loadSet 20 = .ok (.invokevirtual 175, 3) := by decide +kernel
theorem dX1_loadSet_23 : decode cX1_loadSet 23 = .ok (.ifCond .eq 9, 3) := by decide +kernel
theorem dX1_loadSet_26 : decode cX1_loadSet 26 = .ok (.iconst 1, 1) := by decide +kernel
theorem dX1_loadSet_27 : decode cX1_loadSet 27 = .ok (.iload_n 3, 1) := by decide +kernel
theorem dX1_loadSet_28 : decode cX1_loadSet 28 = .ok (.ishl, 1) := by decide +kernel
theorem dX1_loadSet_29 : decode cX1_loadSet 29 = .ok (.goto 4, 3) := by decide +kernel
theorem dX1_loadSet_32 : decode cX1_loadSet 32 = .ok (.iconst 0, 1) := by decide +kernel
theorem dX1_loadSet_33 : decode cX1_loadSet 33 = .ok (.ior, 1) := by decide +kernel
theorem dX1_loadSet_34 : decode cX1_loadSet 34 = .ok (.istore_n 2, 1) := by decide +kernel
theorem dX1_loadSet_35 : decode cX1_loadSet 35 = .ok (.iinc 3 1, 3) := by decide +kernel
theorem dX1_loadSet_38 : decode cX1_loadSet 38 = .ok (.goto (-34), 3) := by decide +kernel
theorem dX1_loadSet_41 : decode cX1_loadSet 41 = .ok (.iload_n 2, 1) := by decide +kernel
theorem dX1_loadSet_42 : decode cX1_loadSet 42 = .ok (.ireturn, 1) := by decide +kernel
theorem dX1_loadPlace_0 : decode cX1_loadPlace 0 = .ok (.iconst 0, 1) := by decide +kernel
theorem dX1_loadPlace_1 : decode cX1_loadPlace 1 = .ok (.istore_n 2, 1) := by decide +kernel
theorem dX1_loadPlace_2 : decode cX1_loadPlace 2 = .ok (.iload_n 2, 1) := by decide +kernel
theorem dX1_loadPlace_3 : decode cX1_loadPlace 3 = .ok (.aload_n 0, 1) := by decide +kernel
theorem dX1_loadPlace_4 : decode cX1_loadPlace 4 = .ok (.getfield 38, 3) := by decide +kernel
theorem dX1_loadPlace_7 : decode cX1_loadPlace 7 = .ok (.if_icmp .ge 32, 3) := by decide +kernel
theorem dX1_loadPlace_10 : decode cX1_loadPlace 10 = .ok (.aload_n 0, 1) := by decide +kernel
theorem dX1_loadPlace_11 : decode cX1_loadPlace 11 = .ok (.getfield 11, 3) := by decide +kernel
theorem dX1_loadPlace_14 : decode cX1_loadPlace 14 = .ok (.iload_n 2, 1) := by decide +kernel
theorem dX1_loadPlace_15 : decode cX1_loadPlace 15 = .ok (.aaload, 1) := by decide +kernel
theorem dX1_loadPlace_16 : decode cX1_loadPlace 16 = .ok (.aload_n 1, 1) := by decide +kernel
theorem dX1_loadPlace_17 : decode cX1_loadPlace 17 = .ok (.invokevirtual 175, 3) := by decide +kernel
theorem dX1_loadPlace_20 : decode cX1_loadPlace 20 = .ok (.ifCond .eq 13, 3) := by decide +kernel
theorem dX1_loadPlace_23 : decode cX1_loadPlace 23 = .ok (.aload_n 0, 1) := by decide +kernel
theorem dX1_loadPlace_24 : decode cX1_loadPlace 24 = .ok (.getfield 11, 3) := by decide +kernel
theorem dX1_loadPlace_27 : decode cX1_loadPlace 27 = .ok (.iload_n 2, 1) := by decide +kernel
theorem dX1_loadPlace_28 : decode cX1_loadPlace 28 = .ok (.aaload, 1) := by decide +kernel
theorem dX1_loadPlace_29 : decode cX1_loadPlace 29 = .ok (.getfield 83, 3) := by decide +kernel
theorem dX1_loadPlace_32 : decode cX1_loadPlace 32 = .ok (.ireturn, 1) := by decide +kernel
theorem dX1_loadPlace_33 : decode cX1_loadPlace 33 = .ok (.iinc 2 1, 3) := by decide +kernel
theorem dX1_loadPlace_36 : decode cX1_loadPlace 36 = .ok (.goto (-34), 3) := by decide +kernel
theorem dX1_loadPlace_39 : decode cX1_loadPlace 39 = .ok (.iconst 0, 1) := by decide +kernel
theorem dX1_loadPlace_40 : decode cX1_loadPlace 40 = .ok (.ireturn, 1) := by decide +kernel
theorem dX1_partsOf_0 : decode cX1_partsOf 0 = .ok (.iconst 0, 1) := by decide +kernel
theorem dX1_partsOf_1 : decode cX1_partsOf 1 = .ok (.istore_n 2, 1) := by decide +kernel
theorem dX1_partsOf_2 : decode cX1_partsOf 2 = .ok (.iconst 0, 1) := by decide +kernel
theorem dX1_partsOf_3 : decode cX1_partsOf 3 = .ok (.istore_n 3, 1) := by decide +kernel
theorem dX1_partsOf_4 : decode cX1_partsOf 4 = .ok (.iload_n 3, 1) := by decide +kernel
theorem dX1_partsOf_5 : decode cX1_partsOf 5 = .ok (.aload_n 0, 1) := by decide +kernel
theorem dX1_partsOf_6 : decode cX1_partsOf 6 = .ok (.getfield 38, 3) := by decide +kernel
theorem dX1_partsOf_9 : decode cX1_partsOf 9 = .ok (.if_icmp .ge 57, 3) := by decide +kernel
theorem dX1_partsOf_12 : decode cX1_partsOf 12 = .ok (.aload_n 0, 1) := by decide +kernel
theorem dX1_partsOf_13 : decode cX1_partsOf 13 = .ok (.getfield 11, 3) := by decide +kernel
theorem dX1_partsOf_16 : decode cX1_partsOf 16 = .ok (.iload_n 3, 1) := by decide +kernel
theorem dX1_partsOf_17 : decode cX1_partsOf 17 = .ok (.aaload, 1) := by decide +kernel
theorem dX1_partsOf_18 : decode cX1_partsOf 18 = .ok (.getfield 107, 3) := by decide +kernel
theorem dX1_partsOf_21 : decode cX1_partsOf 21 = .ok (.iload_n 1, 1) := by decide +kernel
theorem dX1_partsOf_22 : decode cX1_partsOf 22 = .ok (.if_icmp .ne 20, 3) := by decide +kernel
theorem dX1_partsOf_25 : decode cX1_partsOf 25 = .ok (.aload_n 0, 1) := by decide +kernel
theorem dX1_partsOf_26 : decode cX1_partsOf 26 = .ok (.getfield 11, 3) := by decide +kernel
theorem dX1_partsOf_29 : decode cX1_partsOf 29 = .ok (.iload_n 3, 1) := by decide +kernel
theorem dX1_partsOf_30 : decode cX1_partsOf 30 = .ok (.aaload, 1) := by decide +kernel
theorem dX1_partsOf_31 : decode cX1_partsOf 31 = .ok (.getfield 79, 3) := by decide +kernel
theorem dX1_partsOf_34 : decode cX1_partsOf 34 = .ok (.iconst 5, 1) := by decide +kernel
theorem dX1_partsOf_35 : decode cX1_partsOf 35 = .ok (.if_icmp .eq 7, 3) := by decide +kernel
theorem dX1_partsOf_38 : decode cX1_partsOf 38 = .ok (.iconst 1, 1) := by decide +kernel
theorem dX1_partsOf_39 : decode cX1_partsOf 39 = .ok (.goto 4, 3) := by decide +kernel
theorem dX1_partsOf_42 : decode cX1_partsOf 42 = .ok (.iconst 0, 1) := by decide +kernel
theorem dX1_partsOf_43 : decode cX1_partsOf 43 = .ok (.istore 4, 2) := by decide +kernel
theorem dX1_partsOf_45 : decode cX1_partsOf 45 = .ok (.iload_n 2, 1) := by decide +kernel
theorem dX1_partsOf_46 : decode cX1_partsOf 46 = .ok (.iload 4, 2) := by decide +kernel
theorem dX1_partsOf_48 : decode cX1_partsOf 48 = .ok (.ifCond .eq 9, 3) := by decide +kernel
theorem dX1_partsOf_51 : decode cX1_partsOf 51 = .ok (.iconst 1, 1) := by decide +kernel
theorem dX1_partsOf_52 : decode cX1_partsOf 52 = .ok (.iload_n 3, 1) := by decide +kernel
theorem dX1_partsOf_53 : decode cX1_partsOf 53 = .ok (.ishl, 1) := by decide +kernel
theorem dX1_partsOf_54 : decode cX1_partsOf 54 = .ok (.goto 4, 3) := by decide +kernel
theorem dX1_partsOf_57 : decode cX1_partsOf 57 = .ok (.iconst 0, 1) := by decide +kernel
theorem dX1_partsOf_58 : decode cX1_partsOf 58 = .ok (.ior, 1) := by decide +kernel
theorem dX1_partsOf_59 : decode cX1_partsOf 59 = .ok (.istore_n 2, 1) := by decide +kernel
theorem dX1_partsOf_60 : decode cX1_partsOf 60 = .ok (.iinc 3 1, 3) := by decide +kernel
theorem dX1_partsOf_63 : decode cX1_partsOf 63 = .ok (.goto (-59), 3) := by decide +kernel
theorem dX1_partsOf_66 : decode cX1_partsOf 66 = .ok (.iload_n 2, 1) := by decide +kernel
theorem dX1_partsOf_67 : decode cX1_partsOf 67 = .ok (.ireturn, 1) := by decide +kernel
theorem dX1_hallSet_0 : decode cX1_hallSet 0 = .ok (.iconst 0, 1) := by decide +kernel
theorem dX1_hallSet_1 : decode cX1_hallSet 1 = .ok (.istore_n 1, 1) := by decide +kernel
theorem dX1_hallSet_2 : decode cX1_hallSet 2 = .ok (.iconst 0, 1) := by decide +kernel
theorem dX1_hallSet_3 : decode cX1_hallSet 3 = .ok (.istore_n 2, 1) := by decide +kernel
theorem dX1_hallSet_4 : decode cX1_hallSet 4 = .ok (.iload_n 2, 1) := by decide +kernel
theorem dX1_hallSet_5 : decode cX1_hallSet 5 = .ok (.aload_n 0, 1) := by decide +kernel
theorem dX1_hallSet_6 : decode cX1_hallSet 6 = .ok (.getfield 38, 3) := by decide +kernel
theorem dX1_hallSet_9 : decode cX1_hallSet 9 = .ok (.if_icmp .ge 31, 3) := by decide +kernel
theorem dX1_hallSet_12 : decode cX1_hallSet 12 = .ok (.iload_n 1, 1) := by decide +kernel
theorem dX1_hallSet_13 : decode cX1_hallSet 13 = .ok (.aload_n 0, 1) := by decide +kernel
theorem dX1_hallSet_14 : decode cX1_hallSet 14 = .ok (.getfield 11, 3) := by decide +kernel
theorem dX1_hallSet_17 : decode cX1_hallSet 17 = .ok (.iload_n 2, 1) := by decide +kernel
theorem dX1_hallSet_18 : decode cX1_hallSet 18 = .ok (.aaload, 1) := by decide +kernel
theorem dX1_hallSet_19 : decode cX1_hallSet 19 = .ok (.invokevirtual 234, 3) := by decide +kernel
theorem dX1_hallSet_22 : decode cX1_hallSet 22 = .ok (.ifCond .eq 9, 3) := by decide +kernel
theorem dX1_hallSet_25 : decode cX1_hallSet 25 = .ok (.iconst 1, 1) := by decide +kernel
theorem dX1_hallSet_26 : decode cX1_hallSet 26 = .ok (.iload_n 2, 1) := by decide +kernel
theorem dX1_hallSet_27 : decode cX1_hallSet 27 = .ok (.ishl, 1) := by decide +kernel
theorem dX1_hallSet_28 : decode cX1_hallSet 28 = .ok (.goto 4, 3) := by decide +kernel
theorem dX1_hallSet_31 : decode cX1_hallSet 31 = .ok (.iconst 0, 1) := by decide +kernel
theorem dX1_hallSet_32 : decode cX1_hallSet 32 = .ok (.ior, 1) := by decide +kernel
theorem dX1_hallSet_33 : decode cX1_hallSet 33 = .ok (.istore_n 1, 1) := by decide +kernel
theorem dX1_hallSet_34 : decode cX1_hallSet 34 = .ok (.iinc 2 1, 3) := by decide +kernel
theorem dX1_hallSet_37 : decode cX1_hallSet 37 = .ok (.goto (-33), 3) := by decide +kernel
theorem dX1_hallSet_40 : decode cX1_hallSet 40 = .ok (.iload_n 1, 1) := by decide +kernel
theorem dX1_hallSet_41 : decode cX1_hallSet 41 = .ok (.ireturn, 1) := by decide +kernel
theorem dX1_howManyAre_0 : decode cX1_howManyAre 0 = .ok (.iconst 0, 1) := by decide +kernel
theorem dX1_howManyAre_1 : decode cX1_howManyAre 1 = .ok (.istore_n 2, 1) := by decide +kernel
theorem dX1_howManyAre_2 : decode cX1_howManyAre 2 = .ok (.iconst 0, 1) := by decide +kernel
theorem dX1_howManyAre_3 : decode cX1_howManyAre 3 = .ok (.istore_n 3, 1) := by decide +kernel
theorem dX1_howManyAre_4 : decode cX1_howManyAre 4 = .ok (.iload_n 3, 1) := by decide +kernel
theorem dX1_howManyAre_5 : decode cX1_howManyAre 5 = .ok (.aload_n 0, 1) := by decide +kernel
theorem dX1_howManyAre_6 : decode cX1_howManyAre 6 = .ok (.getfield 38, 3) := by decide +kernel
theorem dX1_howManyAre_9 : decode cX1_howManyAre 9 = .ok (.if_icmp .ge 30, 3) := by decide +kernel
theorem dX1_howManyAre_12 : decode cX1_howManyAre 12 = .ok (.iload_n 2, 1) := by decide +kernel
theorem dX1_howManyAre_13 : decode cX1_howManyAre 13 = .ok (.aload_n 0, 1) := by decide +kernel
theorem dX1_howManyAre_14 : decode cX1_howManyAre 14 = .ok (.getfield 11, 3) := by decide +kernel
theorem dX1_howManyAre_17 : decode cX1_howManyAre 17 = .ok (.iload_n 3, 1) := by decide +kernel
theorem dX1_howManyAre_18 : decode cX1_howManyAre 18 = .ok (.aaload, 1) := by decide +kernel
theorem dX1_howManyAre_19 : decode cX1_howManyAre 19 = .ok (.getfield 79, 3) := by decide +kernel
theorem dX1_howManyAre_22 : decode cX1_howManyAre 22 = .ok (.iload_n 1, 1) := by decide +kernel
theorem dX1_howManyAre_23 : decode cX1_howManyAre 23 = .ok (.if_icmp .ne 7, 3) := by decide +kernel
theorem dX1_howManyAre_26 : decode cX1_howManyAre 26 = .ok (.iconst 1, 1) := by decide +kernel
theorem dX1_howManyAre_27 : decode cX1_howManyAre 27 = .ok (.goto 4, 3) := by decide +kernel
theorem dX1_howManyAre_30 : decode cX1_howManyAre 30 = .ok (.iconst 0, 1) := by decide +kernel
theorem dX1_howManyAre_31 : decode cX1_howManyAre 31 = .ok (.iadd, 1) := by decide +kernel
theorem dX1_howManyAre_32 : decode cX1_howManyAre 32 = .ok (.istore_n 2, 1) := by decide +kernel
theorem dX1_howManyAre_33 : decode cX1_howManyAre 33 = .ok (.iinc 3 1, 3) := by decide +kernel
theorem dX1_howManyAre_36 : decode cX1_howManyAre 36 = .ok (.goto (-32), 3) := by decide +kernel
theorem dX1_howManyAre_39 : decode cX1_howManyAre 39 = .ok (.iload_n 2, 1) := by decide +kernel
theorem dX1_howManyAre_40 : decode cX1_howManyAre 40 = .ok (.ireturn, 1) := by decide +kernel
theorem dX2_init_0 : decode cX2_init 0 = .ok (.aload_n 0, 1) := by decide +kernel
theorem dX2_init_1 : decode cX2_init 1 = .ok (.invokespecial 3, 3) := by decide +kernel
theorem dX2_init_4 : decode cX2_init 4 = .ok (.aload_n 0, 1) := by decide +kernel
theorem dX2_init_5 : decode cX2_init 5 = .ok (.iconst 5, 1) := by decide +kernel
theorem dX2_init_6 : decode cX2_init 6 = .ok (.anewarray 9, 3) := by decide +kernel
theorem dX2_init_9 : decode cX2_init 9 = .ok (.putfield 11, 3) := by decide +kernel
theorem dX2_init_12 : decode cX2_init 12 = .ok (.iconst 0, 1) := by decide +kernel
theorem dX2_init_13 : decode cX2_init 13 = .ok (.istore_n 1, 1) := by decide +kernel
theorem dX2_init_14 : decode cX2_init 14 = .ok (.iload_n 1, 1) := by decide +kernel
theorem dX2_init_15 : decode cX2_init 15 = .ok (.iconst 4, 1) := by decide +kernel
theorem dX2_init_16 : decode cX2_init 16 = .ok (.if_icmp .gt 22, 3) := by decide +kernel
theorem dX2_init_19 : decode cX2_init 19 = .ok (.aload_n 0, 1) := by decide +kernel
theorem dX2_init_20 : decode cX2_init 20 = .ok (.getfield 11, 3) := by decide +kernel
theorem dX2_init_23 : decode cX2_init 23 = .ok (.iload_n 1, 1) := by decide +kernel
theorem dX2_init_24 : decode cX2_init 24 = .ok (.new 9, 3) := by decide +kernel
theorem dX2_init_27 : decode cX2_init 27 = .ok (.dup, 1) := by decide +kernel
theorem dX2_init_28 : decode cX2_init 28 = .ok (.invokespecial 17, 3) := by decide +kernel
theorem dX2_init_31 : decode cX2_init 31 = .ok (.aastore, 1) := by decide +kernel
theorem dX2_init_32 : decode cX2_init 32 = .ok (.iinc 1 1, 3) := by decide +kernel
theorem dX2_init_35 : decode cX2_init 35 = .ok (.goto (-21), 3) := by decide +kernel
theorem dX2_init_38 : decode cX2_init 38 = .ok (.return_, 1) := by decide +kernel
theorem dX2_prepare_0 : decode cX2_prepare 0 = .ok (.aload_n 0, 1) := by decide +kernel
theorem dX2_prepare_1 : decode cX2_prepare 1 = .ok (.getfield 11, 3) := by decide +kernel
theorem dX2_prepare_4 : decode cX2_prepare 4 = .ok (.aload_n 0, 1) := by decide +kernel
theorem dX2_prepare_5 : decode cX2_prepare 5 = .ok (.getfield 18, 3) := by decide +kernel
theorem dX2_prepare_8 : decode cX2_prepare 8 = .ok (.aload_n 0, 1) := by decide +kernel
theorem dX2_prepare_9 : decode cX2_prepare 9 = .ok (.getfield 22, 3) := by decide +kernel
theorem dX2_prepare_12 : decode cX2_prepare 12 = .ok (.iadd, 1) := by decide +kernel
theorem dX2_prepare_13 : decode cX2_prepare 13 = .ok (.iconst 5, 1) := by decide +kernel
theorem dX2_prepare_14 : decode cX2_prepare 14 = .ok (.irem, 1) := by decide +kernel
theorem dX2_prepare_15 : decode cX2_prepare 15 = .ok (.aaload, 1) := by decide +kernel
theorem dX2_prepare_16 : decode cX2_prepare 16 = .ok (.aload_n 1, 1) := by decide +kernel
theorem dX2_prepare_17 : decode cX2_prepare 17 = .ok (.invokevirtual 25, 3) := by decide +kernel
theorem dX2_prepare_20 : decode cX2_prepare 20 = .ok (.return_, 1) := by decide +kernel
theorem dX2_keep_0 : decode cX2_keep 0 = .ok (.aload_n 0, 1) := by decide +kernel
theorem dX2_keep_1 : decode cX2_keep 1 = .ok (.getfield 22, 3) := by decide +kernel
theorem dX2_keep_4 : decode cX2_keep 4 = .ok (.iconst 4, 1) := by decide +kernel
theorem dX2_keep_5 : decode cX2_keep 5 = .ok (.if_icmp .ge 16, 3) := by decide +kernel
theorem dX2_keep_8 : decode cX2_keep 8 = .ok (.aload_n 0, 1) := by decide +kernel
theorem dX2_keep_9 : decode cX2_keep 9 = .ok (.dup, 1) := by decide +kernel
theorem dX2_keep_10 : decode cX2_keep 10 = .ok (.getfield 22, 3) := by decide +kernel
theorem dX2_keep_13 : decode cX2_keep 13 = .ok (.iconst 1, 1) := by decide +kernel
theorem dX2_keep_14 : decode cX2_keep 14 = .ok (.iadd, 1) := by decide +kernel
theorem dX2_keep_15 : decode cX2_keep 15 = .ok (.putfield 22, 3) := by decide +kernel
theorem dX2_keep_18 : decode cX2_keep 18 = .ok (.goto 15, 3) := by decide +kernel
theorem dX2_keep_21 : decode cX2_keep 21 = .ok (.aload_n 0, 1) := by decide +kernel
theorem dX2_keep_22 : decode cX2_keep 22 = .ok (.aload_n 0, 1) := by decide +kernel
theorem dX2_keep_23 : decode cX2_keep 23 = .ok (.getfield 18, 3) := by decide +kernel
theorem dX2_keep_26 : decode cX2_keep 26 = .ok (.iconst 1, 1) := by decide +kernel
theorem dX2_keep_27 : decode cX2_keep 27 = .ok (.iadd, 1) := by decide +kernel
theorem dX2_keep_28 : decode cX2_keep 28 = .ok (.iconst 5, 1) := by decide +kernel
theorem dX2_keep_29 : decode cX2_keep 29 = .ok (.irem, 1) := by decide +kernel
theorem dX2_keep_30 : decode cX2_keep 30 = .ok (.putfield 18, 3) := by decide +kernel
theorem dX2_keep_33 : decode cX2_keep 33 = .ok (.return_, 1) := by decide +kernel
theorem dX3_init_0 : decode cX3_init 0 = .ok (.aload_n 0, 1) := by decide +kernel
theorem dX3_init_1 : decode cX3_init 1 = .ok (.invokespecial 1, 3) := by decide +kernel
theorem dX3_init_4 : decode cX3_init 4 = .ok (.return_, 1) := by decide +kernel
theorem dX3_copyFrom_0 : decode cX3_copyFrom 0 = .ok (.aload_n 0, 1) := by decide +kernel
theorem dX3_copyFrom_1 : decode cX3_copyFrom 1 = .ok (.aload_n 1, 1) := by decide +kernel
theorem dX3_copyFrom_2 : decode cX3_copyFrom 2 = .ok (.getfield 7, 3) := by decide +kernel
theorem dX3_copyFrom_5 : decode cX3_copyFrom 5 = .ok (.putfield 7, 3) := by decide +kernel
theorem dX3_copyFrom_8 : decode cX3_copyFrom 8 = .ok (.aload_n 0, 1) := by decide +kernel
theorem dX3_copyFrom_9 : decode cX3_copyFrom 9 = .ok (.aload_n 1, 1) := by decide +kernel
theorem dX3_copyFrom_10 : decode cX3_copyFrom 10 = .ok (.getfield 13, 3) := by decide +kernel
theorem dX3_copyFrom_13 : decode cX3_copyFrom 13 = .ok (.putfield 13, 3) := by decide +kernel
theorem dX3_copyFrom_16 : decode cX3_copyFrom 16 = .ok (.aload_n 0, 1) := by decide +kernel
theorem dX3_copyFrom_17 : decode cX3_copyFrom 17 = .ok (.aload_n 1, 1) := by decide +kernel
theorem dX3_copyFrom_18 : decode cX3_copyFrom 18 = .ok (.getfield 16, 3) := by decide +kernel
theorem dX3_copyFrom_21 : decode cX3_copyFrom 21 = .ok (.putfield 16, 3) := by decide +kernel
theorem dX3_copyFrom_24 : decode cX3_copyFrom 24 = .ok (.aload_n 0, 1) := by decide +kernel
theorem dX3_copyFrom_25 : decode cX3_copyFrom 25 = .ok (.aload_n 1, 1) := by decide +kernel
theorem dX3_copyFrom_26 : decode cX3_copyFrom 26 = .ok (.getfield 19, 3) := by decide +kernel
theorem dX3_copyFrom_29 : decode cX3_copyFrom 29 = .ok (.putfield 19, 3) := by decide +kernel
theorem dX3_copyFrom_32 : decode cX3_copyFrom 32 = .ok (.aload_n 0, 1) := by decide +kernel
theorem dX3_copyFrom_33 : decode cX3_copyFrom 33 = .ok (.aload_n 1, 1) := by decide +kernel
theorem dX3_copyFrom_34 : decode cX3_copyFrom 34 = .ok (.getfield 22, 3) := by decide +kernel
theorem dX3_copyFrom_37 : decode cX3_copyFrom 37 = .ok (.putfield 22, 3) := by decide +kernel
theorem dX3_copyFrom_40 : decode cX3_copyFrom 40 = .ok (.return_, 1) := by decide +kernel
theorem dX4_init_0 : decode cX4_init 0 = .ok (.aload_n 0, 1) := by decide +kernel
theorem dX4_init_1 : decode cX4_init 1 = .ok (.invokespecial 3, 3) := by decide +kernel
theorem dX4_init_4 : decode cX4_init 4 = .ok (.aload_n 0, 1) := by decide +kernel
theorem dX4_init_5 : decode cX4_init 5 = .ok (.bipush 80, 2) := by decide +kernel
theorem dX4_init_7 : decode cX4_init 7 = .ok (.newarray .char, 2) := by decide +kernel
theorem dX4_init_9 : decode cX4_init 9 = .ok (.putfield 9, 3) := by decide +kernel
theorem dX4_init_12 : decode cX4_init 12 = .ok (.aload_n 0, 1) := by decide +kernel
theorem dX4_init_13 : decode cX4_init 13 = .ok (.iconst 5, 1) := by decide +kernel
theorem dX4_init_14 : decode cX4_init 14 = .ok (.newarray .int, 2) := by decide +kernel
theorem dX4_init_16 : decode cX4_init 16 = .ok (.putfield 15, 3) := by decide +kernel
theorem dX4_init_19 : decode cX4_init 19 = .ok (.return_, 1) := by decide +kernel
theorem dX5_init_0 : decode cX5_init 0 = .ok (.aload_n 0, 1) := by decide +kernel
theorem dX5_init_1 : decode cX5_init 1 = .ok (.invokespecial 1, 3) := by decide +kernel
theorem dX5_init_4 : decode cX5_init 4 = .ok (.aload_n 0, 1) := by decide +kernel
theorem dX5_init_5 : decode cX5_init 5 = .ok (.iload_n 1, 1) := by decide +kernel
theorem dX5_init_6 : decode cX5_init 6 = .ok (.putfield 7, 3) := by decide +kernel
theorem dX5_init_9 : decode cX5_init 9 = .ok (.return_, 1) := by decide +kernel
theorem dX5_copyFrom_0 : decode cX5_copyFrom 0 = .ok (.aload_n 0, 1) := by decide +kernel
theorem dX5_copyFrom_1 : decode cX5_copyFrom 1 = .ok (.aload_n 1, 1) := by decide +kernel
theorem dX5_copyFrom_2 : decode cX5_copyFrom 2 = .ok (.getfield 13, 3) := by decide +kernel
theorem dX5_copyFrom_5 : decode cX5_copyFrom 5 = .ok (.putfield 13, 3) := by decide +kernel
theorem dX5_copyFrom_8 : decode cX5_copyFrom 8 = .ok (.aload_n 0, 1) := by decide +kernel
theorem dX5_copyFrom_9 : decode cX5_copyFrom 9 = .ok (.aload_n 1, 1) := by decide +kernel
theorem dX5_copyFrom_10 : decode cX5_copyFrom 10 = .ok (.getfield 16, 3) := by decide +kernel
theorem dX5_copyFrom_13 : decode cX5_copyFrom 13 = .ok (.putfield 16, 3) := by decide +kernel
theorem dX5_copyFrom_16 : decode cX5_copyFrom 16 = .ok (.aload_n 0, 1) := by decide +kernel
theorem dX5_copyFrom_17 : decode cX5_copyFrom 17 = .ok (.aload_n 1, 1) := by decide +kernel
theorem dX5_copyFrom_18 : decode cX5_copyFrom 18 = .ok (.getfield 19, 3) := by decide +kernel
theorem dX5_copyFrom_21 : decode cX5_copyFrom 21 = .ok (.putfield 19, 3) := by decide +kernel
theorem dX5_copyFrom_24 : decode cX5_copyFrom 24 = .ok (.aload_n 0, 1) := by decide +kernel
theorem dX5_copyFrom_25 : decode cX5_copyFrom 25 = .ok (.aload_n 1, 1) := by decide +kernel
theorem dX5_copyFrom_26 : decode cX5_copyFrom 26 = .ok (.getfield 22, 3) := by decide +kernel
theorem dX5_copyFrom_29 : decode cX5_copyFrom 29 = .ok (.putfield 22, 3) := by decide +kernel
theorem dX5_copyFrom_32 : decode cX5_copyFrom 32 = .ok (.aload_n 0, 1) := by decide +kernel
theorem dX5_copyFrom_33 : decode cX5_copyFrom 33 = .ok (.aload_n 1, 1) := by decide +kernel
theorem dX5_copyFrom_34 : decode cX5_copyFrom 34 = .ok (.getfield 25, 3) := by decide +kernel
theorem dX5_copyFrom_37 : decode cX5_copyFrom 37 = .ok (.putfield 25, 3) := by decide +kernel
theorem dX5_copyFrom_40 : decode cX5_copyFrom 40 = .ok (.aload_n 0, 1) := by decide +kernel
theorem dX5_copyFrom_41 : decode cX5_copyFrom 41 = .ok (.aload_n 1, 1) := by decide +kernel
theorem dX5_copyFrom_42 : decode cX5_copyFrom 42 = .ok (.getfield 28, 3) := by decide +kernel
theorem dX5_copyFrom_45 : decode cX5_copyFrom 45 = .ok (.putfield 28, 3) := by decide +kernel
theorem dX5_copyFrom_48 : decode cX5_copyFrom 48 = .ok (.aload_n 0, 1) := by decide +kernel
theorem dX5_copyFrom_49 : decode cX5_copyFrom 49 = .ok (.aload_n 1, 1) := by decide +kernel
theorem dX5_copyFrom_50 : decode cX5_copyFrom 50 = .ok (.getfield 31, 3) := by decide +kernel
theorem dX5_copyFrom_53 : decode cX5_copyFrom 53 = .ok (.putfield 31, 3) := by decide +kernel
theorem dX5_copyFrom_56 : decode cX5_copyFrom 56 = .ok (.aload_n 0, 1) := by decide +kernel
theorem dX5_copyFrom_57 : decode cX5_copyFrom 57 = .ok (.aload_n 1, 1) := by decide +kernel
theorem dX5_copyFrom_58 : decode cX5_copyFrom 58 = .ok (.getfield 34, 3) := by decide +kernel
theorem dX5_copyFrom_61 : decode cX5_copyFrom 61 = .ok (.putfield 34, 3) := by decide +kernel
theorem dX5_copyFrom_64 : decode cX5_copyFrom 64 = .ok (.return_, 1) := by decide +kernel
theorem dX6_init_0 : decode cX6_init 0 = .ok (.aload_n 0, 1) := by decide +kernel
theorem dX6_init_1 : decode cX6_init 1 = .ok (.invokespecial 1, 3) := by decide +kernel
theorem dX6_init_4 : decode cX6_init 4 = .ok (.aload_n 0, 1) := by decide +kernel
theorem dX6_init_5 : decode cX6_init 5 = .ok (.new 7, 3) := by decide +kernel
theorem dX6_init_8 : decode cX6_init 8 = .ok (.dup, 1) := by decide +kernel
theorem dX6_init_9 : decode cX6_init 9 = .ok (.invokespecial 9, 3) := by decide +kernel
theorem dX6_init_12 : decode cX6_init 12 = .ok (.putfield 10, 3) := by decide +kernel
theorem dX6_init_15 : decode cX6_init 15 = .ok (.aload_n 0, 1) := by decide +kernel
theorem dX6_init_16 : decode cX6_init 16 = .ok (.new 7, 3) := by decide +kernel
theorem dX6_init_19 : decode cX6_init 19 = .ok (.dup, 1) := by decide +kernel
theorem dX6_init_20 : decode cX6_init 20 = .ok (.invokespecial 9, 3) := by decide +kernel
theorem dX6_init_23 : decode cX6_init 23 = .ok (.putfield 16, 3) := by decide +kernel
theorem dX6_init_26 : decode cX6_init 26 = .ok (.aload_n 0, 1) := by decide +kernel
theorem dX6_init_27 : decode cX6_init 27 = .ok (.new 19, 3) := by decide +kernel
theorem dX6_init_30 : decode cX6_init 30 = .ok (.dup, 1) := by decide +kernel
theorem dX6_init_31 : decode cX6_init 31 = .ok (.invokespecial 21, 3) := by decide +kernel
theorem dX6_init_34 : decode cX6_init 34 = .ok (.putfield 22, 3) := by decide +kernel
theorem dX6_init_37 : decode cX6_init 37 = .ok (.aload_n 0, 1) := by decide +kernel
theorem dX6_init_38 : decode cX6_init 38 = .ok (.new 26, 3) := by decide +kernel
theorem dX6_init_41 : decode cX6_init 41 = .ok (.dup, 1) := by decide +kernel
theorem dX6_init_42 : decode cX6_init 42 = .ok (.invokespecial 28, 3) := by decide +kernel
theorem dX6_init_45 : decode cX6_init 45 = .ok (.putfield 29, 3) := by decide +kernel
theorem dX6_init_48 : decode cX6_init 48 = .ok (.return_, 1) := by decide +kernel
theorem dX6_consign_0 : decode cX6_consign 0 = .ok (.iload_n 1, 1) := by decide +kernel
theorem dX6_consign_1 : decode cX6_consign 1 = .ok (.iconst 1, 1) := by decide +kernel
theorem dX6_consign_2 : decode cX6_consign 2 = .ok (.iconst 4, 1) := by decide +kernel
theorem dX6_consign_3 : decode cX6_consign 3 = .ok (.invokestatic 33, 3) := by decide +kernel
theorem dX6_consign_6 : decode cX6_consign 6 = .ok (.ifCond .eq 60, 3) := by decide +kernel
theorem dX6_consign_9 : decode cX6_consign 9 = .ok (.iload_n 2, 1) := by decide +kernel
theorem dX6_consign_10 : decode cX6_consign 10 = .ok (.iconst 1, 1) := by decide +kernel
theorem dX6_consign_11 : decode cX6_consign 11 = .ok (.bipush 99, 2) := by decide +kernel
theorem dX6_consign_13 : decode cX6_consign 13 = .ok (.invokestatic 33, 3) := by decide +kernel
theorem dX6_consign_16 : decode cX6_consign 16 = .ok (.ifCond .eq 50, 3) := by decide +kernel
theorem dX6_consign_19 : decode cX6_consign 19 = .ok (.iload_n 3, 1) := by decide +kernel
theorem dX6_consign_20 : decode cX6_consign 20 = .ok (.iconst 1, 1) := by decide +kernel
theorem dX6_consign_21 : decode cX6_consign 21 = .ok (.bipush 99, 2) := by decide +kernel
theorem dX6_consign_23 : decode cX6_consign 23 = .ok (.invokestatic 33, 3) := by decide +kernel
theorem dX6_consign_26 : decode cX6_consign 26 = .ok (.ifCond .eq 40, 3) := by decide +kernel
theorem dX6_consign_29 : decode cX6_consign 29 = .ok (.iload 4, 2) := by decide +kernel
theorem dX6_consign_31 : decode cX6_consign 31 = .ok (.iconst 0, 1) := by decide +kernel
theorem dX6_consign_32 : decode cX6_consign 32 = .ok (.sipush 9999, 3) := by decide +kernel
theorem dX6_consign_35 : decode cX6_consign 35 = .ok (.invokestatic 33, 3) := by decide +kernel
theorem dX6_consign_38 : decode cX6_consign 38 = .ok (.ifCond .eq 28, 3) := by decide +kernel
theorem dX6_consign_41 : decode cX6_consign 41 = .ok (.iload 5, 2) := by decide +kernel
theorem dX6_consign_43 : decode cX6_consign 43 = .ok (.iload 4, 2) := by decide +kernel
theorem dX6_consign_45 : decode cX6_consign 45 = .ok (.sipush 9999, 3) := by decide +kernel
theorem dX6_consign_48 : decode cX6_consign 48 = .ok (.invokestatic 33, 3) := by decide +kernel
theorem dX6_consign_51 : decode cX6_consign 51 = .ok (.ifCond .eq 15, 3) := by decide +kernel
theorem dX6_consign_54 : decode cX6_consign 54 = .ok (.iload 6, 2) := by decide +kernel
theorem dX6_consign_56 : decode cX6_consign 56 = .ok (.iconst 0, 1) := by decide +kernel
theorem dX6_consign_57 : decode cX6_consign 57 = .ok (.sipush 999, 3) := by decide +kernel
theorem dX6_consign_60 : decode cX6_consign 60 = .ok (.invokestatic 33, 3) := by decide +kernel
theorem dX6_consign_63 : decode cX6_consign 63 = .ok (.ifCond .ne 6, 3) := by decide +kernel
theorem dX6_consign_66 : decode cX6_consign 66 = .ok (.ldc 37, 2) := by decide +kernel
theorem dX6_consign_68 : decode cX6_consign 68 = .ok (.ireturn, 1) := by decide +kernel
theorem dX6_consign_69 : decode cX6_consign 69 = .ok (.aload_n 0, 1) := by decide +kernel
theorem dX6_consign_70 : decode cX6_consign 70 = .ok (.getfield 22, 3) := by decide +kernel
theorem dX6_consign_73 : decode cX6_consign 73 = .ok (.aload_n 0, 1) := by decide +kernel
theorem dX6_consign_74 : decode cX6_consign 74 = .ok (.getfield 10, 3) := by decide +kernel
theorem dX6_consign_77 : decode cX6_consign 77 = .ok (.invokevirtual 38, 3) := by decide +kernel
theorem dX6_consign_80 : decode cX6_consign 80 = .ok (.aload_n 0, 1) := by decide +kernel
theorem dX6_consign_81 : decode cX6_consign 81 = .ok (.aload_n 0, 1) := by decide +kernel
theorem dX6_consign_82 : decode cX6_consign 82 = .ok (.getfield 10, 3) := by decide +kernel
theorem dX6_consign_85 : decode cX6_consign 85 = .ok (.iload_n 1, 1) := by decide +kernel
theorem dX6_consign_86 : decode cX6_consign 86 = .ok (.iload_n 2, 1) := by decide +kernel
theorem dX6_consign_87 : decode cX6_consign 87 = .ok (.iload_n 3, 1) := by decide +kernel
theorem dX6_consign_88 : decode cX6_consign 88 = .ok (.iload 4, 2) := by decide +kernel
theorem dX6_consign_90 : decode cX6_consign 90 = .ok (.iload 5, 2) := by decide +kernel
theorem dX6_consign_92 : decode cX6_consign 92 = .ok (.iload 6, 2) := by decide +kernel
theorem dX6_consign_94 : decode cX6_consign 94 = .ok (.invokevirtual 42, 3) := by decide +kernel
theorem dX6_consign_97 : decode cX6_consign 97 = .ok (.invokevirtual 46, 3) := by decide +kernel
theorem dX6_consign_100 : decode cX6_consign 100 = .ok (.ireturn, 1) := by decide +kernel
theorem dX6_split_0 : decode cX6_split 0 = .ok (.aload_n 0, 1) := by decide +kernel
theorem dX6_split_1 : decode cX6_split 1 = .ok (.getfield 22, 3) := by decide +kernel
theorem dX6_split_4 : decode cX6_split 4 = .ok (.aload_n 0, 1) := by decide +kernel
theorem dX6_split_5 : decode cX6_split 5 = .ok (.getfield 10, 3) := by decide +kernel
theorem dX6_split_8 : decode cX6_split 8 = .ok (.invokevirtual 38, 3) := by decide +kernel
theorem dX6_split_11 : decode cX6_split 11 = .ok (.aload_n 0, 1) := by decide +kernel
theorem dX6_split_12 : decode cX6_split 12 = .ok (.aload_n 0, 1) := by decide +kernel
theorem dX6_split_13 : decode cX6_split 13 = .ok (.getfield 10, 3) := by decide +kernel
theorem dX6_split_16 : decode cX6_split 16 = .ok (.iload_n 1, 1) := by decide +kernel
theorem dX6_split_17 : decode cX6_split 17 = .ok (.iload_n 2, 1) := by decide +kernel
theorem dX6_split_18 : decode cX6_split 18 = .ok (.iload_n 3, 1) := by decide +kernel
theorem dX6_split_19 : decode cX6_split 19 = .ok (.invokevirtual 50, 3) := by decide +kernel
theorem dX6_split_22 : decode cX6_split 22 = .ok (.invokevirtual 46, 3) := by decide +kernel
theorem dX6_split_25 : decode cX6_split 25 = .ok (.ireturn, 1) := by decide +kernel
theorem dX6_join_0 : decode cX6_join 0 = .ok (.aload_n 0, 1) := by decide +kernel
theorem dX6_join_1 : decode cX6_join 1 = .ok (.getfield 22, 3) := by decide +kernel
theorem dX6_join_4 : decode cX6_join 4 = .ok (.aload_n 0, 1) := by decide +kernel
theorem dX6_join_5 : decode cX6_join 5 = .ok (.getfield 10, 3) := by decide +kernel
theorem dX6_join_8 : decode cX6_join 8 = .ok (.invokevirtual 38, 3) := by decide +kernel
theorem dX6_join_11 : decode cX6_join 11 = .ok (.aload_n 0, 1) := by decide +kernel
theorem dX6_join_12 : decode cX6_join 12 = .ok (.aload_n 0, 1) := by decide +kernel
theorem dX6_join_13 : decode cX6_join 13 = .ok (.getfield 10, 3) := by decide +kernel
theorem dX6_join_16 : decode cX6_join 16 = .ok (.iload_n 1, 1) := by decide +kernel
theorem dX6_join_17 : decode cX6_join 17 = .ok (.iload_n 2, 1) := by decide +kernel
theorem dX6_join_18 : decode cX6_join 18 = .ok (.invokevirtual 54, 3) := by decide +kernel
theorem dX6_join_21 : decode cX6_join 21 = .ok (.invokevirtual 46, 3) := by decide +kernel
theorem dX6_join_24 : decode cX6_join 24 = .ok (.ireturn, 1) := by decide +kernel
theorem dX6_vehicle_0 : decode cX6_vehicle 0 = .ok (.aload_n 0, 1) := by decide +kernel
theorem dX6_vehicle_1 : decode cX6_vehicle 1 = .ok (.getfield 22, 3) := by decide +kernel
theorem dX6_vehicle_4 : decode cX6_vehicle 4 = .ok (.aload_n 0, 1) := by decide +kernel
theorem dX6_vehicle_5 : decode cX6_vehicle 5 = .ok (.getfield 10, 3) := by decide +kernel
theorem dX6_vehicle_8 : decode cX6_vehicle 8 = .ok (.invokevirtual 38, 3) := by decide +kernel
theorem dX6_vehicle_11 : decode cX6_vehicle 11 = .ok (.aload_n 0, 1) := by decide +kernel
theorem dX6_vehicle_12 : decode cX6_vehicle 12 = .ok (.aload_n 0, 1) := by decide +kernel
theorem dX6_vehicle_13 : decode cX6_vehicle 13 = .ok (.getfield 10, 3) := by decide +kernel
theorem dX6_vehicle_16 : decode cX6_vehicle 16 = .ok (.iload_n 1, 1) := by decide +kernel
theorem dX6_vehicle_17 : decode cX6_vehicle 17 = .ok (.iload_n 2, 1) := by decide +kernel
theorem dX6_vehicle_18 : decode cX6_vehicle 18 = .ok (.invokevirtual 58, 3) := by decide +kernel
theorem dX6_vehicle_21 : decode cX6_vehicle 21 = .ok (.invokevirtual 46, 3) := by decide +kernel
theorem dX6_vehicle_24 : decode cX6_vehicle 24 = .ok (.ireturn, 1) := by decide +kernel
theorem dX6_load_0 : decode cX6_load 0 = .ok (.aload_n 0, 1) := by decide +kernel
theorem dX6_load_1 : decode cX6_load 1 = .ok (.getfield 22, 3) := by decide +kernel
theorem dX6_load_4 : decode cX6_load 4 = .ok (.aload_n 0, 1) := by decide +kernel
theorem dX6_load_5 : decode cX6_load 5 = .ok (.getfield 10, 3) := by decide +kernel
theorem dX6_load_8 : decode cX6_load 8 = .ok (.invokevirtual 38, 3) := by decide +kernel
theorem dX6_load_11 : decode cX6_load 11 = .ok (.aload_n 0, 1) := by decide +kernel
theorem dX6_load_12 : decode cX6_load 12 = .ok (.aload_n 0, 1) := by decide +kernel
theorem dX6_load_13 : decode cX6_load 13 = .ok (.getfield 10, 3) := by decide +kernel
theorem dX6_load_16 : decode cX6_load 16 = .ok (.iload_n 1, 1) := by decide +kernel
theorem dX6_load_17 : decode cX6_load 17 = .ok (.iload_n 2, 1) := by decide +kernel
theorem dX6_load_18 : decode cX6_load 18 = .ok (.invokevirtual 61, 3) := by decide +kernel
theorem dX6_load_21 : decode cX6_load 21 = .ok (.invokevirtual 46, 3) := by decide +kernel
theorem dX6_load_24 : decode cX6_load 24 = .ok (.ireturn, 1) := by decide +kernel
theorem dX6_unload_0 : decode cX6_unload 0 = .ok (.aload_n 0, 1) := by decide +kernel
theorem dX6_unload_1 : decode cX6_unload 1 = .ok (.getfield 22, 3) := by decide +kernel
theorem dX6_unload_4 : decode cX6_unload 4 = .ok (.aload_n 0, 1) := by decide +kernel
theorem dX6_unload_5 : decode cX6_unload 5 = .ok (.getfield 10, 3) := by decide +kernel
theorem dX6_unload_8 : decode cX6_unload 8 = .ok (.invokevirtual 38, 3) := by decide +kernel
theorem dX6_unload_11 : decode cX6_unload 11 = .ok (.aload_n 0, 1) := by decide +kernel
theorem dX6_unload_12 : decode cX6_unload 12 = .ok (.aload_n 0, 1) := by decide +kernel
theorem dX6_unload_13 : decode cX6_unload 13 = .ok (.getfield 10, 3) := by decide +kernel
theorem dX6_unload_16 : decode cX6_unload 16 = .ok (.iload_n 1, 1) := by decide +kernel
theorem dX6_unload_17 : decode cX6_unload 17 = .ok (.invokevirtual 64, 3) := by decide +kernel
theorem dX6_unload_20 : decode cX6_unload 20 = .ok (.invokevirtual 46, 3) := by decide +kernel
theorem dX6_unload_23 : decode cX6_unload 23 = .ok (.ireturn, 1) := by decide +kernel
theorem dX6_fill_0 : decode cX6_fill 0 = .ok (.aload_n 0, 1) := by decide +kernel
theorem dX6_fill_1 : decode cX6_fill 1 = .ok (.getfield 22, 3) := by decide +kernel
theorem dX6_fill_4 : decode cX6_fill 4 = .ok (.aload_n 0, 1) := by decide +kernel
theorem dX6_fill_5 : decode cX6_fill 5 = .ok (.getfield 10, 3) := by decide +kernel
theorem dX6_fill_8 : decode cX6_fill 8 = .ok (.invokevirtual 38, 3) := by decide +kernel
theorem dX6_fill_11 : decode cX6_fill 11 = .ok (.aload_n 0, 1) := by decide +kernel
theorem dX6_fill_12 : decode cX6_fill 12 = .ok (.aload_n 0, 1) := by decide +kernel
theorem dX6_fill_13 : decode cX6_fill 13 = .ok (.getfield 10, 3) := by decide +kernel
theorem dX6_fill_16 : decode cX6_fill 16 = .ok (.iload_n 1, 1) := by decide +kernel
theorem dX6_fill_17 : decode cX6_fill 17 = .ok (.iload_n 2, 1) := by decide +kernel
theorem dX6_fill_18 : decode cX6_fill 18 = .ok (.iload_n 3, 1) := by decide +kernel
theorem dX6_fill_19 : decode cX6_fill 19 = .ok (.invokevirtual 67, 3) := by decide +kernel
theorem dX6_fill_22 : decode cX6_fill 22 = .ok (.invokevirtual 46, 3) := by decide +kernel
theorem dX6_fill_25 : decode cX6_fill 25 = .ok (.istore 4, 2) := by decide +kernel
theorem dX6_fill_27 : decode cX6_fill 27 = .ok (.iload 4, 2) := by decide +kernel
theorem dX6_fill_29 : decode cX6_fill 29 = .ok (.ifCond .ge 8, 3) := by decide +kernel
theorem dX6_fill_32 : decode cX6_fill 32 = .ok (.iload 4, 2) := by decide +kernel
theorem dX6_fill_34 : decode cX6_fill 34 = .ok (.goto 8, 3) := by decide +kernel
theorem dX6_fill_37 : decode cX6_fill 37 = .ok (.iload 4, 2) := by decide +kernel
theorem dX6_fill_39 : decode cX6_fill 39 = .ok (.invokestatic 70, 3) := by decide +kernel
theorem dX6_fill_42 : decode cX6_fill 42 = .ok (.ireturn, 1) := by decide +kernel
theorem dX6_depart_0 : decode cX6_depart 0 = .ok (.aload_n 0, 1) := by decide +kernel
theorem dX6_depart_1 : decode cX6_depart 1 = .ok (.getfield 22, 3) := by decide +kernel
theorem dX6_depart_4 : decode cX6_depart 4 = .ok (.aload_n 0, 1) := by decide +kernel
theorem dX6_depart_5 : decode cX6_depart 5 = .ok (.getfield 10, 3) := by decide +kernel
theorem dX6_depart_8 : decode cX6_depart 8 = .ok (.invokevirtual 38, 3) := by decide +kernel
theorem dX6_depart_11 : decode cX6_depart 11 = .ok (.aload_n 0, 1) := by decide +kernel
theorem dX6_depart_12 : decode cX6_depart 12 = .ok (.aload_n 0, 1) := by decide +kernel
theorem dX6_depart_13 : decode cX6_depart 13 = .ok (.getfield 10, 3) := by decide +kernel
theorem dX6_depart_16 : decode cX6_depart 16 = .ok (.iload_n 1, 1) := by decide +kernel
theorem dX6_depart_17 : decode cX6_depart 17 = .ok (.invokevirtual 75, 3) := by decide +kernel
theorem dX6_depart_20 : decode cX6_depart 20 = .ok (.invokevirtual 46, 3) := by decide +kernel
theorem dX6_depart_23 : decode cX6_depart 23 = .ok (.ireturn, 1) := by decide +kernel
theorem dX6_offer_0 : decode cX6_offer 0 = .ok (.aload_n 0, 1) := by decide +kernel
theorem dX6_offer_1 : decode cX6_offer 1 = .ok (.getfield 22, 3) := by decide +kernel
theorem dX6_offer_4 : decode cX6_offer 4 = .ok (.aload_n 0, 1) := by decide +kernel
theorem dX6_offer_5 : decode cX6_offer 5 = .ok (.getfield 10, 3) := by decide +kernel
theorem dX6_offer_8 : decode cX6_offer 8 = .ok (.invokevirtual 38, 3) := by decide +kernel
theorem dX6_offer_11 : decode cX6_offer 11 = .ok (.aload_n 0, 1) := by decide +kernel
theorem dX6_offer_12 : decode cX6_offer 12 = .ok (.aload_n 0, 1) := by decide +kernel
theorem dX6_offer_13 : decode cX6_offer 13 = .ok (.getfield 10, 3) := by decide +kernel
theorem dX6_offer_16 : decode cX6_offer 16 = .ok (.iload_n 1, 1) := by decide +kernel
theorem dX6_offer_17 : decode cX6_offer 17 = .ok (.iload_n 2, 1) := by decide +kernel
theorem dX6_offer_18 : decode cX6_offer 18 = .ok (.iload_n 3, 1) := by decide +kernel
theorem dX6_offer_19 : decode cX6_offer 19 = .ok (.iload 4, 2) := by decide +kernel
theorem dX6_offer_21 : decode cX6_offer 21 = .ok (.iload 5, 2) := by decide +kernel
theorem dX6_offer_23 : decode cX6_offer 23 = .ok (.invokevirtual 78, 3) := by decide +kernel
theorem dX6_offer_26 : decode cX6_offer 26 = .ok (.invokevirtual 46, 3) := by decide +kernel
theorem dX6_offer_29 : decode cX6_offer 29 = .ok (.ireturn, 1) := by decide +kernel
theorem dX6_pass_0 : decode cX6_pass 0 = .ok (.aload_n 0, 1) := by decide +kernel
theorem dX6_pass_1 : decode cX6_pass 1 = .ok (.getfield 22, 3) := by decide +kernel
theorem dX6_pass_4 : decode cX6_pass 4 = .ok (.aload_n 0, 1) := by decide +kernel
theorem dX6_pass_5 : decode cX6_pass 5 = .ok (.getfield 10, 3) := by decide +kernel
theorem dX6_pass_8 : decode cX6_pass 8 = .ok (.invokevirtual 38, 3) := by decide +kernel
theorem dX6_pass_11 : decode cX6_pass 11 = .ok (.aload_n 0, 1) := by decide +kernel
theorem dX6_pass_12 : decode cX6_pass 12 = .ok (.aload_n 0, 1) := by decide +kernel
theorem dX6_pass_13 : decode cX6_pass 13 = .ok (.getfield 10, 3) := by decide +kernel
theorem dX6_pass_16 : decode cX6_pass 16 = .ok (.iload_n 1, 1) := by decide +kernel
theorem dX6_pass_17 : decode cX6_pass 17 = .ok (.invokevirtual 82, 3) := by decide +kernel
theorem dX6_pass_20 : decode cX6_pass 20 = .ok (.invokevirtual 46, 3) := by decide +kernel
theorem dX6_pass_23 : decode cX6_pass 23 = .ok (.ireturn, 1) := by decide +kernel
theorem dX6_set_0 : decode cX6_set 0 = .ok (.aload_n 0, 1) := by decide +kernel
theorem dX6_set_1 : decode cX6_set 1 = .ok (.getfield 22, 3) := by decide +kernel
theorem dX6_set_4 : decode cX6_set 4 = .ok (.aload_n 0, 1) := by decide +kernel
theorem dX6_set_5 : decode cX6_set 5 = .ok (.getfield 10, 3) := by decide +kernel
theorem dX6_set_8 : decode cX6_set 8 = .ok (.invokevirtual 38, 3) := by decide +kernel
theorem dX6_set_11 : decode cX6_set 11 = .ok (.aload_n 0, 1) := by decide +kernel
theorem dX6_set_12 : decode cX6_set 12 = .ok (.aload_n 0, 1) := by decide +kernel
theorem dX6_set_13 : decode cX6_set 13 = .ok (.getfield 10, 3) := by decide +kernel
theorem dX6_set_16 : decode cX6_set 16 = .ok (.iload_n 1, 1) := by decide +kernel
theorem dX6_set_17 : decode cX6_set 17 = .ok (.iload_n 2, 1) := by decide +kernel
theorem dX6_set_18 : decode cX6_set 18 = .ok (.invokevirtual 85, 3) := by decide +kernel
theorem dX6_set_21 : decode cX6_set 21 = .ok (.invokevirtual 46, 3) := by decide +kernel
theorem dX6_set_24 : decode cX6_set 24 = .ok (.ireturn, 1) := by decide +kernel
theorem dX6_consignmentOf_0 : decode cX6_consignmentOf 0 = .ok (.aload_n 0, 1) := by decide +kernel
theorem dX6_consignmentOf_1 : decode cX6_consignmentOf 1 = .ok (.getfield 10, 3) := by decide +kernel
theorem dX6_consignmentOf_4 : decode cX6_consignmentOf 4 = .ok (.iload_n 1, 1) := by decide +kernel
theorem dX6_consignmentOf_5 : decode cX6_consignmentOf 5 = .ok (.invokevirtual 88, 3) := by decide +kernel
theorem dX6_consignmentOf_8 : decode cX6_consignmentOf 8 = .ok (.astore_n 3, 1) := by decide +kernel
theorem dX6_consignmentOf_9 : decode cX6_consignmentOf 9 = .ok (.aload_n 3, 1) := by decide +kernel
theorem dX6_consignmentOf_10 : decode cX6_consignmentOf 10 = .ok (.ifnonnull 6, 3) := by decide +kernel
theorem dX6_consignmentOf_13 : decode cX6_consignmentOf 13 = .ok (.ldc 37, 2) := by decide +kernel
theorem dX6_consignmentOf_15 : decode cX6_consignmentOf 15 = .ok (.ireturn, 1) := by decide +kernel
theorem dX6_consignmentOf_16 : decode cX6_consignmentOf 16 = .ok (.iload_n 2, 1) := by decide +kernel
theorem dX6_consignmentOf_17 : decode cX6_consignmentOf 17 = .ok (.tableswitch 169 0 10 #[59, 64, 69, 74, 79, 84, 89, 94, 112, 130, 142], 59) := by decide +kernel
theorem dX6_consignmentOf_76 : decode cX6_consignmentOf 76 = .ok (.aload_n 3, 1) := by decide +kernel
theorem dX6_consignmentOf_77 : decode cX6_consignmentOf 77 = .ok (.getfield 92, 3) := by decide +kernel
theorem dX6_consignmentOf_80 : decode cX6_consignmentOf 80 = .ok (.ireturn, 1) := by decide +kernel
theorem dX6_consignmentOf_81 : decode cX6_consignmentOf 81 = .ok (.aload_n 3, 1) := by decide +kernel
theorem dX6_consignmentOf_82 : decode cX6_consignmentOf 82 = .ok (.getfield 98, 3) := by decide +kernel
theorem dX6_consignmentOf_85 : decode cX6_consignmentOf 85 = .ok (.ireturn, 1) := by decide +kernel
theorem dX6_consignmentOf_86 : decode cX6_consignmentOf 86 = .ok (.aload_n 3, 1) := by decide +kernel
theorem dX6_consignmentOf_87 : decode cX6_consignmentOf 87 = .ok (.getfield 101, 3) := by decide +kernel
theorem dX6_consignmentOf_90 : decode cX6_consignmentOf 90 = .ok (.ireturn, 1) := by decide +kernel
theorem dX6_consignmentOf_91 : decode cX6_consignmentOf 91 = .ok (.aload_n 3, 1) := by decide +kernel
theorem dX6_consignmentOf_92 : decode cX6_consignmentOf 92 = .ok (.getfield 104, 3) := by decide +kernel
theorem dX6_consignmentOf_95 : decode cX6_consignmentOf 95 = .ok (.ireturn, 1) := by decide +kernel
theorem dX6_consignmentOf_96 : decode cX6_consignmentOf 96 = .ok (.aload_n 3, 1) := by decide +kernel
theorem dX6_consignmentOf_97 : decode cX6_consignmentOf 97 = .ok (.getfield 107, 3) := by decide +kernel
theorem dX6_consignmentOf_100 : decode cX6_consignmentOf 100 = .ok (.ireturn, 1) := by decide +kernel
theorem dX6_consignmentOf_101 : decode cX6_consignmentOf 101 = .ok (.aload_n 3, 1) := by decide +kernel
theorem dX6_consignmentOf_102 : decode cX6_consignmentOf 102 = .ok (.getfield 110, 3) := by decide +kernel
theorem dX6_consignmentOf_105 : decode cX6_consignmentOf 105 = .ok (.ireturn, 1) := by decide +kernel
theorem dX6_consignmentOf_106 : decode cX6_consignmentOf 106 = .ok (.aload_n 3, 1) := by decide +kernel
theorem dX6_consignmentOf_107 : decode cX6_consignmentOf 107 = .ok (.getfield 113, 3) := by decide +kernel
theorem dX6_consignmentOf_110 : decode cX6_consignmentOf 110 = .ok (.ireturn, 1) := by decide +kernel
theorem dX6_consignmentOf_111 : decode cX6_consignmentOf 111 = .ok (.aload_n 3, 1) := by decide +kernel
theorem dX6_consignmentOf_112 : decode cX6_consignmentOf 112 = .ok (.getfield 116, 3) := by decide +kernel
theorem dX6_consignmentOf_115 : decode cX6_consignmentOf 115 = .ok (.iconst (-1), 1) := by decide +kernel
theorem dX6_consignmentOf_116 : decode cX6_consignmentOf 116 = .ok (.if_icmp .ne 8, 3) := by decide +kernel
theorem dX6_consignmentOf_119 : decode cX6_consignmentOf 119 = .ok (.ldc 119, 2) := by decide +kernel
theorem dX6_consignmentOf_121 : decode cX6_consignmentOf 121 = .ok (.goto 7, 3) := by decide +kernel
theorem dX6_consignmentOf_124 : decode cX6_consignmentOf 124 = .ok (.aload_n 3, 1) := by decide +kernel
theorem dX6_consignmentOf_125 : decode cX6_consignmentOf 125 = .ok (.getfield 116, 3) := by decide +kernel
theorem dX6_consignmentOf_128 : decode cX6_consignmentOf 128 = .ok (.ireturn, 1) := by decide +kernel
theorem dX6_consignmentOf_129 : decode cX6_consignmentOf 129 = .ok (.aload_n 3, 1) := by decide +kernel
theorem dX6_consignmentOf_130 : decode cX6_consignmentOf 130 = .ok (.getfield 120, 3) := by decide +kernel
theorem dX6_consignmentOf_133 : decode cX6_consignmentOf 133 = .ok (.iconst (-1), 1) := by decide +kernel
theorem dX6_consignmentOf_134 : decode cX6_consignmentOf 134 = .ok (.if_icmp .ne 8, 3) := by decide +kernel
theorem dX6_consignmentOf_137 : decode cX6_consignmentOf 137 = .ok (.ldc 119, 2) := by decide +kernel
theorem dX6_consignmentOf_139 : decode cX6_consignmentOf 139 = .ok (.goto 7, 3) := by decide +kernel
theorem dX6_consignmentOf_142 : decode cX6_consignmentOf 142 = .ok (.aload_n 3, 1) := by decide +kernel
theorem dX6_consignmentOf_143 : decode cX6_consignmentOf 143 = .ok (.getfield 120, 3) := by decide +kernel
theorem dX6_consignmentOf_146 : decode cX6_consignmentOf 146 = .ok (.ireturn, 1) := by decide +kernel
theorem dX6_consignmentOf_147 : decode cX6_consignmentOf 147 = .ok (.aload_n 0, 1) := by decide +kernel
theorem dX6_consignmentOf_148 : decode cX6_consignmentOf 148 = .ok (.getfield 10, 3) := by decide +kernel
theorem dX6_consignmentOf_151 : decode cX6_consignmentOf 151 = .ok (.aload_n 3, 1) := by decide +kernel
theorem dX6_consignmentOf_152 : decode cX6_consignmentOf 152 = .ok (.getfield 123, 3) := by decide +kernel
theorem dX6_consignmentOf_155 : decode cX6_consignmentOf 155 = .ok (.invokevirtual 126, 3) := by decide +kernel
theorem dX6_consignmentOf_158 : decode cX6_consignmentOf 158 = .ok (.ireturn, 1) := by decide +kernel
theorem dX6_consignmentOf_159 : decode cX6_consignmentOf 159 = .ok (.aload_n 3, 1) := by decide +kernel
theorem dX6_consignmentOf_160 : decode cX6_consignmentOf 160 = .ok (.invokevirtual 129, 3) := by decide +kernel
theorem dX6_consignmentOf_163 : decode cX6_consignmentOf 163 = .ok (.ifCond .eq 13, 3) := by decide +kernel
theorem dX6_consignmentOf_166 : decode cX6_consignmentOf 166 = .ok (.aload_n 0, 1) := by decide +kernel
theorem dX6_consignmentOf_167 : decode cX6_consignmentOf 167 = .ok (.getfield 10, 3) := by decide +kernel
theorem dX6_consignmentOf_170 : decode cX6_consignmentOf 170 = .ok (.getfield 133, 3) := by decide +kernel
theorem dX6_consignmentOf_173 : decode cX6_consignmentOf 173 = .ok (.goto 7, 3) := by decide +kernel
theorem dX6_consignmentOf_176 : decode cX6_consignmentOf 176 = .ok (.aload_n 3, 1) := by decide +kernel
theorem dX6_consignmentOf_177 : decode cX6_consignmentOf 177 = .ok (.getfield 136, 3) := by decide +kernel
theorem dX6_consignmentOf_180 : decode cX6_consignmentOf 180 = .ok (.aload_n 3, 1) := by decide +kernel
theorem dX6_consignmentOf_181 : decode cX6_consignmentOf 181 = .ok (.getfield 139, 3) := by decide +kernel
theorem dX6_consignmentOf_184 : decode cX6_consignmentOf 184 = .ok (.isub, 1) := by decide +kernel
theorem dX6_consignmentOf_185 : decode cX6_consignmentOf 185 = .ok (.ireturn, 1) := by decide +kernel
theorem dX6_consignmentOf_186 : decode cX6_consignmentOf 186 = .ok (.ldc 37, 2) := by decide +kernel
theorem dX6_consignmentOf_188 : decode cX6_consignmentOf 188 = .ok (.ireturn, 1) := by decide +kernel
theorem dX6_vehicleOf_0 : decode cX6_vehicleOf 0 = .ok (.aload_n 0, 1) := by decide +kernel
theorem dX6_vehicleOf_1 : decode cX6_vehicleOf 1 = .ok (.getfield 10, 3) := by decide +kernel
theorem dX6_vehicleOf_4 : decode cX6_vehicleOf 4 = .ok (.iload_n 1, 1) := by decide +kernel
theorem dX6_vehicleOf_5 : decode cX6_vehicleOf 5 = .ok (.invokevirtual 142, 3) := by decide +kernel
theorem dX6_vehicleOf_8 : decode cX6_vehicleOf 8 = .ok (.astore_n 3, 1) := by decide +kernel
theorem dX6_vehicleOf_9 : decode cX6_vehicleOf 9 = .ok (.aload_n 3, 1) := by decide +kernel
theorem dX6_vehicleOf_10 : decode cX6_vehicleOf 10 = .ok (.ifnonnull 6, 3) := by decide +kernel
theorem dX6_vehicleOf_13 : decode cX6_vehicleOf 13 = .ok (.ldc 37, 2) := by decide +kernel
theorem dX6_vehicleOf_15 : decode cX6_vehicleOf 15 = .ok (.ireturn, 1) := by decide +kernel
theorem dX6_vehicleOf_16 : decode cX6_vehicleOf 16 = .ok (.iload_n 2, 1) := by decide +kernel
theorem dX6_vehicleOf_17 : decode cX6_vehicleOf 17 = .ok (.tableswitch 130 0 9 #[55, 60, 65, 70, 79, 88, 97, 103, 120, 125], 55) := by decide +kernel
theorem dX6_vehicleOf_72 : decode cX6_vehicleOf 72 = .ok (.aload_n 3, 1) := by decide +kernel
theorem dX6_vehicleOf_73 : decode cX6_vehicleOf 73 = .ok (.getfield 146, 3) := by decide +kernel
theorem dX6_vehicleOf_76 : decode cX6_vehicleOf 76 = .ok (.ireturn, 1) := by decide +kernel
theorem dX6_vehicleOf_77 : decode cX6_vehicleOf 77 = .ok (.aload_n 3, 1) := by decide +kernel
theorem dX6_vehicleOf_78 : decode cX6_vehicleOf 78 = .ok (.getfield 151, 3) := by decide +kernel
theorem dX6_vehicleOf_81 : decode cX6_vehicleOf 81 = .ok (.ireturn, 1) := by decide +kernel
theorem dX6_vehicleOf_82 : decode cX6_vehicleOf 82 = .ok (.aload_n 3, 1) := by decide +kernel
theorem dX6_vehicleOf_83 : decode cX6_vehicleOf 83 = .ok (.getfield 154, 3) := by decide +kernel
theorem dX6_vehicleOf_86 : decode cX6_vehicleOf 86 = .ok (.ireturn, 1) := by decide +kernel
theorem dX6_vehicleOf_87 : decode cX6_vehicleOf 87 = .ok (.aload_n 0, 1) := by decide +kernel
theorem dX6_vehicleOf_88 : decode cX6_vehicleOf 88 = .ok (.getfield 10, 3) := by decide +kernel
theorem dX6_vehicleOf_91 : decode cX6_vehicleOf 91 = .ok (.aload_n 3, 1) := by decide +kernel
theorem dX6_vehicleOf_92 : decode cX6_vehicleOf 92 = .ok (.invokevirtual 155, 3) := by decide +kernel
theorem dX6_vehicleOf_95 : decode cX6_vehicleOf 95 = .ok (.ireturn, 1) := by decide +kernel
theorem dX6_vehicleOf_96 : decode cX6_vehicleOf 96 = .ok (.aload_n 0, 1) := by decide +kernel
theorem dX6_vehicleOf_97 : decode cX6_vehicleOf 97 = .ok (.getfield 10, 3) := by decide +kernel
theorem dX6_vehicleOf_100 : decode cX6_vehicleOf 100 = .ok (.aload_n 3, 1) := by decide +kernel
theorem dX6_vehicleOf_101 : decode cX6_vehicleOf 101 = .ok (.invokevirtual 159, 3) := by decide +kernel
theorem dX6_vehicleOf_104 : decode cX6_vehicleOf 104 = .ok (.ireturn, 1) := by decide +kernel
theorem dX6_vehicleOf_105 : decode cX6_vehicleOf 105 = .ok (.aload_n 0, 1) := by decide +kernel
theorem dX6_vehicleOf_106 : decode cX6_vehicleOf 106 = .ok (.getfield 10, 3) := by decide +kernel
theorem dX6_vehicleOf_109 : decode cX6_vehicleOf 109 = .ok (.aload_n 3, 1) := by decide +kernel
theorem dX6_vehicleOf_110 : decode cX6_vehicleOf 110 = .ok (.invokevirtual 162, 3) := by decide +kernel
theorem dX6_vehicleOf_113 : decode cX6_vehicleOf 113 = .ok (.ireturn, 1) := by decide +kernel
theorem dX6_vehicleOf_114 : decode cX6_vehicleOf 114 = .ok (.aload_n 0, 1) := by decide +kernel
theorem dX6_vehicleOf_115 : decode cX6_vehicleOf 115 = .ok (.aload_n 3, 1) := by decide +kernel
theorem dX6_vehicleOf_116 : decode cX6_vehicleOf 116 = .ok (.invokevirtual 165, 3) := by decide +kernel
theorem dX6_vehicleOf_119 : decode cX6_vehicleOf 119 = .ok (.ireturn, 1) := by decide +kernel
theorem dX6_vehicleOf_120 : decode cX6_vehicleOf 120 = .ok (.aload_n 3, 1) := by decide +kernel
theorem dX6_vehicleOf_121 : decode cX6_vehicleOf 121 = .ok (.getfield 154, 3) := by decide +kernel
theorem dX6_vehicleOf_124 : decode cX6_vehicleOf 124 = .ok (.ifCond .ne 8, 3) := by decide +kernel
theorem dX6_vehicleOf_127 : decode cX6_vehicleOf 127 = .ok (.ldc 119, 2) := by decide +kernel
theorem dX6_vehicleOf_129 : decode cX6_vehicleOf 129 = .ok (.goto 7, 3) := by decide +kernel
theorem dX6_vehicleOf_132 : decode cX6_vehicleOf 132 = .ok (.aload_n 3, 1) := by decide +kernel
theorem dX6_vehicleOf_133 : decode cX6_vehicleOf 133 = .ok (.getfield 168, 3) := by decide +kernel
theorem dX6_vehicleOf_136 : decode cX6_vehicleOf 136 = .ok (.ireturn, 1) := by decide +kernel
theorem dX6_vehicleOf_137 : decode cX6_vehicleOf 137 = .ok (.aload_n 3, 1) := by decide +kernel
theorem dX6_vehicleOf_138 : decode cX6_vehicleOf 138 = .ok (.getfield 171, 3) := by decide +kernel
theorem dX6_vehicleOf_141 : decode cX6_vehicleOf 141 = .ok (.ireturn, 1) := by decide +kernel
theorem dX6_vehicleOf_142 : decode cX6_vehicleOf 142 = .ok (.aload_n 3, 1) := by decide +kernel
theorem dX6_vehicleOf_143 : decode cX6_vehicleOf 143 = .ok (.getfield 174, 3) := by decide +kernel
theorem dX6_vehicleOf_146 : decode cX6_vehicleOf 146 = .ok (.ireturn, 1) := by decide +kernel
theorem dX6_vehicleOf_147 : decode cX6_vehicleOf 147 = .ok (.ldc 37, 2) := by decide +kernel
theorem dX6_vehicleOf_149 : decode cX6_vehicleOf 149 = .ok (.ireturn, 1) := by decide +kernel
theorem dX6_offerOf_0 : decode cX6_offerOf 0 = .ok (.iload_n 1, 1) := by decide +kernel
theorem dX6_offerOf_1 : decode cX6_offerOf 1 = .ok (.ifCond .lt 12, 3) := by decide +kernel
theorem dX6_offerOf_4 : decode cX6_offerOf 4 = .ok (.iload_n 2, 1) := by decide +kernel
theorem dX6_offerOf_5 : decode cX6_offerOf 5 = .ok (.iconst 0, 1) := by decide +kernel
theorem dX6_offerOf_6 : decode cX6_offerOf 6 = .ok (.iconst 4, 1) := by decide +kernel
theorem dX6_offerOf_7 : decode cX6_offerOf 7 = .ok (.invokestatic 33, 3) := by decide +kernel
theorem dX6_offerOf_10 : decode cX6_offerOf 10 = .ok (.ifCond .ne 6, 3) := by decide +kernel
theorem dX6_offerOf_13 : decode cX6_offerOf 13 = .ok (.ldc 37, 2) := by decide +kernel
theorem dX6_offerOf_15 : decode cX6_offerOf 15 = .ok (.ireturn, 1) := by decide +kernel
theorem dX6_offerOf_16 : decode cX6_offerOf 16 = .ok (.iload_n 1, 1) := by decide +kernel
theorem dX6_offerOf_17 : decode cX6_offerOf 17 = .ok (.aload_n 0, 1) := by decide +kernel
theorem dX6_offerOf_18 : decode cX6_offerOf 18 = .ok (.getfield 10, 3) := by decide +kernel
theorem dX6_offerOf_21 : decode cX6_offerOf 21 = .ok (.getfield 177, 3) := by decide +kernel
theorem dX6_offerOf_24 : decode cX6_offerOf 24 = .ok (.if_icmp .ge 9, 3) := by decide +kernel
theorem dX6_offerOf_27 : decode cX6_offerOf 27 = .ok (.iload_n 1, 1) := by decide +kernel
theorem dX6_offerOf_28 : decode cX6_offerOf 28 = .ok (.bipush 10, 2) := by decide +kernel
theorem dX6_offerOf_30 : decode cX6_offerOf 30 = .ok (.if_icmp .lt 6, 3) := by decide +kernel
theorem dX6_offerOf_33 : decode cX6_offerOf 33 = .ok (.ldc 119, 2) := by decide +kernel
theorem dX6_offerOf_35 : decode cX6_offerOf 35 = .ok (.ireturn, 1) := by decide +kernel
theorem dX6_offerOf_36 : decode cX6_offerOf 36 = .ok (.aload_n 0, 1) := by decide +kernel
theorem dX6_offerOf_37 : decode cX6_offerOf 37 = .ok (.getfield 10, 3) := by decide +kernel
theorem dX6_offerOf_40 : decode cX6_offerOf 40 = .ok (.getfield 180, 3) := by decide +kernel
theorem dX6_offerOf_43 : decode cX6_offerOf 43 = .ok (.iload_n 1, 1) := by decide +kernel
theorem dX6_offerOf_44 : decode cX6_offerOf 44 = .ok (.aaload, 1) := by decide +kernel
theorem dX6_offerOf_45 : decode cX6_offerOf 45 = .ok (.astore_n 3, 1) := by decide +kernel
theorem dX6_offerOf_46 : decode cX6_offerOf 46 = .ok (.iload_n 2, 1) := by decide +kernel
theorem dX6_offerOf_47 : decode cX6_offerOf 47 = .ok (.tableswitch 49 0 3 #[29, 34, 39, 44], 29) := by decide +kernel
theorem dX6_offerOf_76 : decode cX6_offerOf 76 = .ok (.aload_n 3, 1) := by decide +kernel
theorem dX6_offerOf_77 : decode cX6_offerOf 77 = .ok (.getfield 184, 3) := by decide +kernel
theorem dX6_offerOf_80 : decode cX6_offerOf 80 = .ok (.ireturn, 1) := by decide +kernel
theorem dX6_offerOf_81 : decode cX6_offerOf 81 = .ok (.aload_n 3, 1) := by decide +kernel
theorem dX6_offerOf_82 : decode cX6_offerOf 82 = .ok (.getfield 187, 3) := by decide +kernel
theorem dX6_offerOf_85 : decode cX6_offerOf 85 = .ok (.ireturn, 1) := by decide +kernel
theorem dX6_offerOf_86 : decode cX6_offerOf 86 = .ok (.aload_n 3, 1) := by decide +kernel
theorem dX6_offerOf_87 : decode cX6_offerOf 87 = .ok (.getfield 188, 3) := by decide +kernel
theorem dX6_offerOf_90 : decode cX6_offerOf 90 = .ok (.ireturn, 1) := by decide +kernel
theorem dX6_offerOf_91 : decode cX6_offerOf 91 = .ok (.aload_n 3, 1) := by decide +kernel
theorem dX6_offerOf_92 : decode cX6_offerOf 92 = .ok (.getfield 189, 3) := by decide +kernel
theorem dX6_offerOf_95 : decode cX6_offerOf 95 = .ok (.ireturn, 1) := by decide +kernel
theorem dX6_offerOf_96 : decode cX6_offerOf 96 = .ok (.aload_n 3, 1) := by decide +kernel
theorem dX6_offerOf_97 : decode cX6_offerOf 97 = .ok (.getfield 192, 3) := by decide +kernel
theorem dX6_offerOf_100 : decode cX6_offerOf 100 = .ok (.ireturn, 1) := by decide +kernel
theorem dX6_count_0 : decode cX6_count 0 = .ok (.iload_n 1, 1) := by decide +kernel
theorem dX6_count_1 : decode cX6_count 1 = .ok (.tableswitch 173 0 12 #[67, 75, 83, 91, 99, 108, 117, 125, 133, 141, 149, 157, 165], 67) := by decide +kernel
theorem dX6_count_68 : decode cX6_count 68 = .ok (.aload_n 0, 1) := by decide +kernel
theorem dX6_count_69 : decode cX6_count 69 = .ok (.getfield 10, 3) := by decide +kernel
theorem dX6_count_72 : decode cX6_count 72 = .ok (.getfield 195, 3) := by decide +kernel
theorem dX6_count_75 : decode cX6_count 75 = .ok (.ireturn, 1) := by decide +kernel
theorem dX6_count_76 : decode cX6_count 76 = .ok (.aload_n 0, 1) := by decide +kernel
theorem dX6_count_77 : decode cX6_count 77 = .ok (.getfield 10, 3) := by decide +kernel
theorem dX6_count_80 : decode cX6_count 80 = .ok (.getfield 198, 3) := by decide +kernel
theorem dX6_count_83 : decode cX6_count 83 = .ok (.ireturn, 1) := by decide +kernel
theorem dX6_count_84 : decode cX6_count 84 = .ok (.aload_n 0, 1) := by decide +kernel
theorem dX6_count_85 : decode cX6_count 85 = .ok (.getfield 10, 3) := by decide +kernel
theorem dX6_count_88 : decode cX6_count 88 = .ok (.getfield 133, 3) := by decide +kernel
theorem dX6_count_91 : decode cX6_count 91 = .ok (.ireturn, 1) := by decide +kernel
theorem dX6_count_92 : decode cX6_count 92 = .ok (.aload_n 0, 1) := by decide +kernel
theorem dX6_count_93 : decode cX6_count 93 = .ok (.getfield 10, 3) := by decide +kernel
theorem dX6_count_96 : decode cX6_count 96 = .ok (.invokevirtual 201, 3) := by decide +kernel
theorem dX6_count_99 : decode cX6_count 99 = .ok (.ireturn, 1) := by decide +kernel
theorem dX6_count_100 : decode cX6_count 100 = .ok (.aload_n 0, 1) := by decide +kernel
theorem dX6_count_101 : decode cX6_count 101 = .ok (.getfield 10, 3) := by decide +kernel
theorem dX6_count_104 : decode cX6_count 104 = .ok (.iconst 3, 1) := by decide +kernel
theorem dX6_count_105 : decode cX6_count 105 = .ok (.invokevirtual 205, 3) := by decide +kernel
theorem dX6_count_108 : decode cX6_count 108 = .ok (.ireturn, 1) := by decide +kernel
theorem dX6_count_109 : decode cX6_count 109 = .ok (.aload_n 0, 1) := by decide +kernel
theorem dX6_count_110 : decode cX6_count 110 = .ok (.getfield 10, 3) := by decide +kernel
theorem dX6_count_113 : decode cX6_count 113 = .ok (.iconst 4, 1) := by decide +kernel
theorem dX6_count_114 : decode cX6_count 114 = .ok (.invokevirtual 205, 3) := by decide +kernel
theorem dX6_count_117 : decode cX6_count 117 = .ok (.ireturn, 1) := by decide +kernel
theorem dX6_count_118 : decode cX6_count 118 = .ok (.aload_n 0, 1) := by decide +kernel
theorem dX6_count_119 : decode cX6_count 119 = .ok (.getfield 10, 3) := by decide +kernel
theorem dX6_count_122 : decode cX6_count 122 = .ok (.getfield 208, 3) := by decide +kernel
theorem dX6_count_125 : decode cX6_count 125 = .ok (.ireturn, 1) := by decide +kernel
theorem dX6_count_126 : decode cX6_count 126 = .ok (.aload_n 0, 1) := by decide +kernel
theorem dX6_count_127 : decode cX6_count 127 = .ok (.getfield 10, 3) := by decide +kernel
theorem dX6_count_130 : decode cX6_count 130 = .ok (.getfield 211, 3) := by decide +kernel
theorem dX6_count_133 : decode cX6_count 133 = .ok (.ireturn, 1) := by decide +kernel
theorem dX6_count_134 : decode cX6_count 134 = .ok (.aload_n 0, 1) := by decide +kernel
theorem dX6_count_135 : decode cX6_count 135 = .ok (.getfield 10, 3) := by decide +kernel
theorem dX6_count_138 : decode cX6_count 138 = .ok (.getfield 214, 3) := by decide +kernel
theorem dX6_count_141 : decode cX6_count 141 = .ok (.ireturn, 1) := by decide +kernel
theorem dX6_count_142 : decode cX6_count 142 = .ok (.aload_n 0, 1) := by decide +kernel
theorem dX6_count_143 : decode cX6_count 143 = .ok (.getfield 10, 3) := by decide +kernel
theorem dX6_count_146 : decode cX6_count 146 = .ok (.getfield 217, 3) := by decide +kernel
theorem dX6_count_149 : decode cX6_count 149 = .ok (.ireturn, 1) := by decide +kernel
theorem dX6_count_150 : decode cX6_count 150 = .ok (.aload_n 0, 1) := by decide +kernel
theorem dX6_count_151 : decode cX6_count 151 = .ok (.getfield 10, 3) := by decide +kernel
theorem dX6_count_154 : decode cX6_count 154 = .ok (.getfield 177, 3) := by decide +kernel
theorem dX6_count_157 : decode cX6_count 157 = .ok (.ireturn, 1) := by decide +kernel
theorem dX6_count_158 : decode cX6_count 158 = .ok (.aload_n 0, 1) := by decide +kernel
theorem dX6_count_159 : decode cX6_count 159 = .ok (.getfield 22, 3) := by decide +kernel
theorem dX6_count_162 : decode cX6_count 162 = .ok (.getfield 220, 3) := by decide +kernel
theorem dX6_count_165 : decode cX6_count 165 = .ok (.ireturn, 1) := by decide +kernel
theorem dX6_count_166 : decode cX6_count 166 = .ok (.aload_n 0, 1) := by decide +kernel
theorem dX6_count_167 : decode cX6_count 167 = .ok (.getfield 29, 3) := by decide +kernel
theorem dX6_count_170 : decode cX6_count 170 = .ok (.getfield 223, 3) := by decide +kernel
theorem dX6_count_173 : decode cX6_count 173 = .ok (.ireturn, 1) := by decide +kernel
theorem dX6_count_174 : decode cX6_count 174 = .ok (.aload_n 0, 1) := by decide +kernel
theorem dX6_count_175 : decode cX6_count 175 = .ok (.iload_n 1, 1) := by decide +kernel
theorem dX6_count_176 : decode cX6_count 176 = .ok (.invokevirtual 226, 3) := by decide +kernel
theorem dX6_count_179 : decode cX6_count 179 = .ok (.ireturn, 1) := by decide +kernel
theorem dX6_isWithin_0 : decode cX6_isWithin 0 = .ok (.iload_n 0, 1) := by decide +kernel
theorem dX6_isWithin_1 : decode cX6_isWithin 1 = .ok (.iload_n 1, 1) := by decide +kernel
theorem dX6_isWithin_2 : decode cX6_isWithin 2 = .ok (.if_icmp .lt 12, 3) := by decide +kernel
theorem dX6_isWithin_5 : decode cX6_isWithin 5 = .ok (.iload_n 0, 1) := by decide +kernel
theorem dX6_isWithin_6 : decode cX6_isWithin 6 = .ok (.iload_n 2, 1) := by decide +kernel
theorem dX6_isWithin_7 : decode cX6_isWithin 7 = .ok (.if_icmp .gt 7, 3) := by decide +kernel
theorem dX6_isWithin_10 : decode cX6_isWithin 10 = .ok (.iconst 1, 1) := by decide +kernel
theorem dX6_isWithin_11 : decode cX6_isWithin 11 = .ok (.goto 4, 3) := by decide +kernel
theorem dX6_isWithin_14 : decode cX6_isWithin 14 = .ok (.iconst 0, 1) := by decide +kernel
theorem dX6_isWithin_15 : decode cX6_isWithin 15 = .ok (.ireturn, 1) := by decide +kernel
theorem dX6_changed_0 : decode cX6_changed 0 = .ok (.iload_n 1, 1) := by decide +kernel
theorem dX6_changed_1 : decode cX6_changed 1 = .ok (.ifCond .lt 10, 3) := by decide +kernel
theorem dX6_changed_4 : decode cX6_changed 4 = .ok (.aload_n 0, 1) := by decide +kernel
theorem dX6_changed_5 : decode cX6_changed 5 = .ok (.getfield 22, 3) := by decide +kernel
theorem dX6_changed_8 : decode cX6_changed 8 = .ok (.invokevirtual 261, 3) := by decide +kernel
theorem dX6_changed_11 : decode cX6_changed 11 = .ok (.iload_n 1, 1) := by decide +kernel
theorem dX6_changed_12 : decode cX6_changed 12 = .ok (.ireturn, 1) := by decide +kernel
theorem dX6_placeOf_0 : decode cX6_placeOf 0 = .ok (.aload_n 1, 1) := by decide +kernel
theorem dX6_placeOf_1 : decode cX6_placeOf 1 = .ok (.getfield 154, 3) := by decide +kernel
theorem dX6_placeOf_4 : decode cX6_placeOf 4 = .ok (.ifCond .ne 14, 3) := by decide +kernel
theorem dX6_placeOf_7 : decode cX6_placeOf 7 = .ok (.aload_n 0, 1) := by decide +kernel
theorem dX6_placeOf_8 : decode cX6_placeOf 8 = .ok (.getfield 10, 3) := by decide +kernel
theorem dX6_placeOf_11 : decode cX6_placeOf 11 = .ok (.aload_n 1, 1) := by decide +kernel
theorem dX6_placeOf_12 : decode cX6_placeOf 12 = .ok (.invokevirtual 264, 3) := by decide +kernel
theorem dX6_placeOf_15 : decode cX6_placeOf 15 = .ok (.goto 7, 3) := by decide +kernel
theorem dX6_placeOf_18 : decode cX6_placeOf 18 = .ok (.aload_n 1, 1) := by decide +kernel
theorem dX6_placeOf_19 : decode cX6_placeOf 19 = .ok (.getfield 267, 3) := by decide +kernel
theorem dX6_placeOf_22 : decode cX6_placeOf 22 = .ok (.istore_n 2, 1) := by decide +kernel
theorem dX6_placeOf_23 : decode cX6_placeOf 23 = .ok (.iload_n 2, 1) := by decide +kernel
theorem dX6_placeOf_24 : decode cX6_placeOf 24 = .ok (.ifCond .ne 8, 3) := by decide +kernel
theorem dX6_placeOf_27 : decode cX6_placeOf 27 = .ok (.ldc 119, 2) := by decide +kernel
theorem dX6_placeOf_29 : decode cX6_placeOf 29 = .ok (.goto 4, 3) := by decide +kernel
theorem dX6_placeOf_32 : decode cX6_placeOf 32 = .ok (.iload_n 2, 1) := by decide +kernel
theorem dX6_placeOf_33 : decode cX6_placeOf 33 = .ok (.ireturn, 1) := by decide +kernel
theorem dX6_settingCount_0 : decode cX6_settingCount 0 = .ok (.iload_n 1, 1) := by decide +kernel
theorem dX6_settingCount_1 : decode cX6_settingCount 1 = .ok (.bipush 20, 2) := by decide +kernel
theorem dX6_settingCount_3 : decode cX6_settingCount 3 = .ok (.bipush 22, 2) := by decide +kernel
theorem dX6_settingCount_5 : decode cX6_settingCount 5 = .ok (.invokestatic 33, 3) := by decide +kernel
theorem dX6_settingCount_8 : decode cX6_settingCount 8 = .ok (.ifCond .ne 6, 3) := by decide +kernel
theorem dX6_settingCount_11 : decode cX6_settingCount 11 = .ok (.ldc 37, 2) := by decide +kernel
theorem dX6_settingCount_13 : decode cX6_settingCount 13 = .ok (.ireturn, 1) := by decide +kernel
theorem dX6_settingCount_14 : decode cX6_settingCount 14 = .ok (.aload_n 0, 1) := by decide +kernel
theorem dX6_settingCount_15 : decode cX6_settingCount 15 = .ok (.getfield 10, 3) := by decide +kernel
theorem dX6_settingCount_18 : decode cX6_settingCount 18 = .ok (.getfield 268, 3) := by decide +kernel
theorem dX6_settingCount_21 : decode cX6_settingCount 21 = .ok (.iload_n 1, 1) := by decide +kernel
theorem dX6_settingCount_22 : decode cX6_settingCount 22 = .ok (.bipush 20, 2) := by decide +kernel
theorem dX6_settingCount_24 : decode cX6_settingCount 24 = .ok (.isub, 1) := by decide +kernel
theorem dX6_settingCount_25 : decode cX6_settingCount 25 = .ok (.iaload, 1) := by decide +kernel
theorem dX6_settingCount_26 : decode cX6_settingCount 26 = .ok (.ireturn, 1) := by decide +kernel
