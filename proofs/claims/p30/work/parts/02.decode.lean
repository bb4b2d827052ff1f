theorem dX0_init_0 : decode cX0_init 0 = .ok (.aload_n 0, 1) := by decide +kernel
theorem dX0_init_1 : decode cX0_init 1 = .ok (.invokespecial 3, 3) := by decide +kernel
theorem dX0_init_4 : decode cX0_init 4 = .ok (.aload_n 0, 1) := by decide +kernel
theorem dX0_init_5 : decode cX0_init 5 = .ok (.iconst 0, 1) := by decide +kernel
theorem dX0_init_6 : decode cX0_init 6 = .ok (.putfield 9, 3) := by decide +kernel
theorem dX0_init_9 : decode cX0_init 9 = .ok (.aload_n 0, 1) := by decide +kernel
theorem dX0_init_10 : decode cX0_init 10 = .ok (.bipush 60, 2) := by decide +kernel
theorem dX0_init_12 : decode cX0_init 12 = .ok (.newarray .char, 2) := by decide +kernel
theorem dX0_init_14 : decode cX0_init 14 = .ok (.putfield 15, 3) := by decide +kernel
theorem dX0_init_17 : decode cX0_init 17 = .ok (.return_, 1) := by decide +kernel
theorem dX1_init_0 : decode cX1_init 0 = .ok (.aload_n 0, 1) := by decide +kernel
theorem dX1_init_1 : decode cX1_init 1 = .ok (.invokespecial 1, 3) := by decide +kernel
theorem dX1_init_4 : decode cX1_init 4 = .ok (.return_, 1) := by decide +kernel
theorem dX1_copyFrom_0 : decode cX1_copyFrom 0 = .ok (.aload_n 0, 1) := by decide +kernel
theorem dX1_copyFrom_1 : decode cX1_copyFrom 1 = .ok (.aload_n 1, 1) := by decide +kernel
theorem dX1_copyFrom_2 : decode cX1_copyFrom 2 = .ok (.getfield 7, 3) := by decide +kernel
theorem dX1_copyFrom_5 : decode cX1_copyFrom 5 = .ok (.putfield 7, 3) := by decide +kernel
theorem dX1_copyFrom_8 : decode cX1_copyFrom 8 = .ok (.aload_n 0, 1) := by decide +kernel
theorem dX1_copyFrom_9 : decode cX1_copyFrom 9 = .ok (.aload_n 1, 1) := by decide +kernel
theorem dX1_copyFrom_10 : decode cX1_copyFrom 10 = .ok (.getfield 13, 3) := by decide +kernel
theorem dX1_copyFrom_13 : decode cX1_copyFrom 13 = .ok (.putfield 13, 3) := by decide +kernel
theorem dX1_copyFrom_16 : decode cX1_copyFrom 16 = .ok (.aload_n 0, 1) := by decide +kernel
theorem dX1_copyFrom_17 : decode cX1_copyFrom 17 = .ok (.aload_n 1, 1) := by decide +kernel
theorem dX1_copyFrom_18 : decode cX1_copyFrom 18 = .ok (.getfield 16, 3) := by decide +kernel
theorem dX1_copyFrom_21 : decode cX1_copyFrom 21 = .ok (.putfield 16, 3) := by decide +kernel
theorem dX1_copyFrom_24 : decode cX1_copyFrom 24 = .ok (.aload_n 0, 1) := by decide +kernel
theorem dX1_copyFrom_25 : decode cX1_copyFrom 25 = .ok (.aload_n 1, 1) := by decide +kernel
theorem dX1_copyFrom_26 : decode cX1_copyFrom 26 = .ok (.getfield 19, 3) := by decide +kernel
theorem dX1_copyFrom_29 : decode cX1_copyFrom 29 = .ok (.putfield 19, 3) := by decide +kernel
theorem dX1_copyFrom_32 : decode cX1_copyFrom 32 = .ok (.aload_n 0, 1) := by decide +kernel
theorem dX1_copyFrom_33 : decode cX1_copyFrom 33 = .ok (.aload_n 1, 1) := by decide +kernel
theorem dX1_copyFrom_34 : decode cX1_copyFrom 34 = .ok (.getfield 22, 3) := by decide +kernel
theorem dX1_copyFrom_37 : decode cX1_copyFrom 37 = .ok (.putfield 22, 3) := by decide +kernel
theorem dX1_copyFrom_40 : decode cX1_copyFrom 40 = .ok (.aload_n 0, 1) := by decide +kernel
theorem dX1_copyFrom_41 : decode cX1_copyFrom 41 = .ok (.aload_n 1, 1) := by decide +kernel
theorem dX1_copyFrom_42 : decode cX1_copyFrom 42 = .ok (.getfield 25, 3) := by decide +kernel
theorem dX1_copyFrom_45 : decode cX1_copyFrom 45 = .ok (.putfield 25, 3) := by decide +kernel
theorem dX1_copyFrom_48 : decode cX1_copyFrom 48 = .ok (.return_, 1) := by decide +kernel
theorem dX2_init_0 : decode cX2_init 0 = .ok (.aload_n 0, 1) := by decide +kernel
theorem dX2_init_1 : decode cX2_init 1 = .ok (.invokespecial 3, 3) := by decide +kernel
theorem dX2_init_4 : decode cX2_init 4 = .ok (.aload_n 0, 1) := by decide +kernel
theorem dX2_init_5 : decode cX2_init 5 = .ok (.iconst 0, 1) := by decide +kernel
theorem dX2_init_6 : decode cX2_init 6 = .ok (.putfield 9, 3) := by decide +kernel
theorem dX2_init_9 : decode cX2_init 9 = .ok (.aload_n 0, 1) := by decide +kernel
theorem dX2_init_10 : decode cX2_init 10 = .ok (.iconst 4, 1) := by decide +kernel
theorem dX2_init_11 : decode cX2_init 11 = .ok (.newarray .float, 2) := by decide +kernel
theorem dX2_init_13 : decode cX2_init 13 = .ok (.dup, 1) := by decide +kernel
theorem dX2_init_14 : decode cX2_init 14 = .ok (.iconst 0, 1) := by decide +kernel
theorem dX2_init_15 : decode cX2_init 15 = .ok (.ldc 15, 2) := by decide +kernel
theorem dX2_init_17 : decode cX2_init 17 = .ok (.fastore, 1) := by decide +kernel
theorem dX2_init_18 : decode cX2_init 18 = .ok (.dup, 1) := by decide +kernel
theorem dX2_init_19 : decode cX2_init 19 = .ok (.iconst 1, 1) := by decide +kernel
theorem dX2_init_20 : decode cX2_init 20 = .ok (.ldc 16, 2) := by decide +kernel
theorem dX2_init_22 : decode cX2_init 22 = .ok (.fastore, 1) := by decide +kernel
theorem dX2_init_23 : decode cX2_init 23 = .ok (.dup, 1) := by decide +kernel
theorem dX2_init_24 : decode cX2_init 24 = .ok (.iconst 2, 1) := by decide +kernel
theorem dX2_init_25 : decode cX2_init 25 = .ok (.ldc 17, 2) := by decide +kernel
theorem dX2_init_27 : decode cX2_init 27 = .ok (.fastore, 1) := by decide +kernel
theorem dX2_init_28 : decode cX2_init 28 = .ok (.dup, 1) := by decide +kernel
theorem dX2_init_29 : decode cX2_init 29 = .ok (.iconst 3, 1) := by decide +kernel
theorem dX2_init_30 : decode cX2_init 30 = .ok (.ldc 18, 2) := by decide +kernel
theorem dX2_init_32 : decode cX2_init 32 = .ok (.fastore, 1) := by decide +kernel
theorem dX2_init_33 : decode cX2_init 33 = .ok (.putfield 19, 3) := by decide +kernel
theorem dX2_init_36 : decode cX2_init 36 = .ok (.aload_n 0, 1) := by decide +kernel
theorem dX2_init_37 : decode cX2_init 37 = .ok (.iconst 5, 1) := by decide +kernel
theorem dX2_init_38 : decode cX2_init 38 = .ok (.newarray .int, 2) := by decide +kernel
theorem dX2_init_40 : decode cX2_init 40 = .ok (.dup, 1) := by decide +kernel
theorem dX2_init_41 : decode cX2_init 41 = .ok (.iconst 0, 1) := by decide +kernel
theorem dX2_init_42 : decode cX2_init 42 = .ok (.bipush 8, 2) := by decide +kernel
theorem dX2_init_44 : decode cX2_init 44 = .ok (.iastore, 1) := by decide +kernel
theorem dX2_init_45 : decode cX2_init 45 = .ok (.dup, 1) := by decide +kernel
theorem dX2_init_46 : decode cX2_init 46 = .ok (.iconst 1, 1) := by decide +kernel
theorem dX2_init_47 : decode cX2_init 47 = .ok (.sipush 4500, 3) := by decide +kernel
theorem dX2_init_50 : decode cX2_init 50 = .ok (.iastore, 1) := by decide +kernel
theorem dX2_init_51 : decode cX2_init 51 = .ok (.dup, 1) := by decide +kernel
theorem dX2_init_52 : decode cX2_init 52 = .ok (.iconst 2, 1) := by decide +kernel
theorem dX2_init_53 : decode cX2_init 53 = .ok (.bipush 7, 2) := by decide +kernel
theorem dX2_init_55 : decode cX2_init 55 = .ok (.iastore, 1) := by decide +kernel
theorem dX2_init_56 : decode cX2_init 56 = .ok (.dup, 1) := by decide +kernel
theorem dX2_init_57 : decode cX2_init 57 = .ok (.iconst 3, 1) := by decide +kernel
theorem dX2_init_58 : decode cX2_init 58 = .ok (.bipush 90, 2) := by decide +kernel
theorem dX2_init_60 : decode cX2_init 60 = .ok (.iastore, 1) := by decide +kernel
theorem dX2_init_61 : decode cX2_init 61 = .ok (.dup, 1) := by decide +kernel
theorem dX2_init_62 : decode cX2_init 62 = .ok (.iconst 4, 1) := by decide +kernel
theorem dX2_init_63 : decode cX2_init 63 = .ok (.iconst 2, 1) := by decide +kernel
theorem dX2_init_64 : decode cX2_init 64 = .ok (.iastore, 1) := by decide +kernel
theorem dX2_init_65 : decode cX2_init 65 = .ok (.putfield 23, 3) := by decide +kernel
theorem dX2_init_68 : decode cX2_init 68 = .ok (.aload_n 0, 1) := by decide +kernel
theorem dX2_init_69 : decode cX2_init 69 = .ok (.new 27, 3) := by decide +kernel
theorem dX2_init_72 : decode cX2_init 72 = .ok (.dup, 1) := by decide +kernel
theorem dX2_init_73 : decode cX2_init 73 = .ok (.invokespecial 29, 3) := by decide +kernel
theorem dX2_init_76 : decode cX2_init 76 = .ok (.putfield 30, 3) := by decide +kernel
theorem dX2_init_79 : decode cX2_init 79 = .ok (.aload_n 0, 1) := by decide +kernel
theorem dX2_init_80 : decode cX2_init 80 = .ok (.new 34, 3) := by decide +kernel
theorem dX2_init_83 : decode cX2_init 83 = .ok (.dup, 1) := by decide +kernel
theorem dX2_init_84 : decode cX2_init 84 = .ok (.invokespecial 36, 3) := by decide +kernel
theorem dX2_init_87 : decode cX2_init 87 = .ok (.putfield 37, 3) := by decide +kernel
theorem dX2_init_90 : decode cX2_init 90 = .ok (.aload_n 0, 1) := by decide +kernel
theorem dX2_init_91 : decode cX2_init 91 = .ok (.new 41, 3) := by decide +kernel
theorem dX2_init_94 : decode cX2_init 94 = .ok (.dup, 1) := by decide +kernel
theorem dX2_init_95 : decode cX2_init 95 = .ok (.invokespecial 43, 3) := by decide +kernel
theorem dX2_init_98 : decode cX2_init 98 = .ok (.putfield 44, 3) := by decide +kernel
theorem dX2_init_101 : decode cX2_init 101 = .ok (.return_, 1) := by decide +kernel
theorem dX2_copyFrom_0 : decode cX2_copyFrom 0 = .ok (.aload_n 0, 1) := by decide +kernel
theorem dX2_copyFrom_1 : decode cX2_copyFrom 1 = .ok (.aload_n 1, 1) := by decide +kernel
theorem dX2_copyFrom_2 : decode cX2_copyFrom 2 = .ok (.getfield 9, 3) := by decide +kernel
theorem dX2_copyFrom_5 : decode cX2_copyFrom 5 = .ok (.putfield 9, 3) := by decide +kernel
theorem dX2_copyFrom_8 : decode cX2_copyFrom 8 = .ok (.aload_n 1, 1) := by decide +kernel
theorem dX2_copyFrom_9 : decode cX2_copyFrom 9 = .ok (.getfield 19, 3) := by decide +kernel
theorem dX2_copyFrom_12 : decode cX2_copyFrom 12 = .ok (.iconst 0, 1) := by decide +kernel
theorem dX2_copyFrom_13 : decode cX2_copyFrom 13 = .ok (.aload_n 0, 1) := by decide +kernel
theorem dX2_copyFrom_14 : decode cX2_copyFrom 14 = .ok (.getfield 19, 3) := by decide +kernel
theorem dX2_copyFrom_17 : decode cX2_copyFrom 17 = .ok (.iconst 0, 1) := by decide +kernel
theorem dX2_copyFrom_18 : decode cX2_copyFrom 18 = .ok (.iconst 4, 1) := by decide +kernel
theorem dX2_copyFrom_19 : decode cX2_copyFrom 19 = .ok (.invokestatic 48, 3) := by decide +kernel
theorem dX2_copyFrom_22 : decode cX2_copyFrom 22 = .ok (.aload_n 1, 1) := by decide +kernel
theorem dX2_copyFrom_23 : decode cX2_copyFrom 23 = .ok (.getfield 23, 3) := by decide +kernel
theorem dX2_copyFrom_26 : decode cX2_copyFrom 26 = .ok (.iconst 0, 1) := by decide +kernel
theorem dX2_copyFrom_27 : decode cX2_copyFrom 27 = .ok (.aload_n 0, 1) := by decide +kernel
theorem dX2_copyFrom_28 : decode cX2_copyFrom 28 = .ok (.getfield 23, 3) := by decide +kernel
theorem dX2_copyFrom_31 : decode cX2_copyFrom 31 = .ok (.iconst 0, 1) := by decide +kernel
theorem dX2_copyFrom_32 : decode cX2_copyFrom 32 = .ok (.iconst 5, 1) := by decide +kernel
theorem dX2_copyFrom_33 : decode cX2_copyFrom 33 = .ok (.invokestatic 48, 3) := by decide +kernel
theorem dX2_copyFrom_36 : decode cX2_copyFrom 36 = .ok (.aload_n 0, 1) := by decide +kernel
theorem dX2_copyFrom_37 : decode cX2_copyFrom 37 = .ok (.getfield 30, 3) := by decide +kernel
theorem dX2_copyFrom_40 : decode cX2_copyFrom 40 = .ok (.aload_n 1, 1) := by decide +kernel
theorem dX2_copyFrom_41 : decode cX2_copyFrom 41 = .ok (.getfield 30, 3) := by decide +kernel
theorem dX2_copyFrom_44 : decode cX2_copyFrom 44 = .ok (.invokevirtual 54, 3) := by decide +kernel
theorem dX2_copyFrom_47 : decode cX2_copyFrom 47 = .ok (.aload_n 0, 1) := by decide +kernel
theorem dX2_copyFrom_48 : decode cX2_copyFrom 48 = .ok (.getfield 37, 3) := by decide +kernel
theorem dX2_copyFrom_51 : decode cX2_copyFrom 51 = .ok (.aload_n 1, 1) := by decide +kernel
theorem dX2_copyFrom_52 : decode cX2_copyFrom 52 = .ok (.getfield 37, 3) := by decide +kernel
theorem dX2_copyFrom_55 : decode cX2_copyFrom 55 = .ok (.invokevirtual 58, 3) := by decide +kernel
theorem dX2_copyFrom_58 : decode cX2_copyFrom 58 = .ok (.aload_n 0, 1) := by decide +kernel
theorem dX2_copyFrom_59 : decode cX2_copyFrom 59 = .ok (.getfield 44, 3) := by decide +kernel
theorem dX2_copyFrom_62 : decode cX2_copyFrom 62 = .ok (.aload_n 1, 1) := by decide +kernel
theorem dX2_copyFrom_63 : decode cX2_copyFrom 63 = .ok (.getfield 44, 3) := by decide +kernel
theorem dX2_copyFrom_66 : decode cX2_copyFrom 66 = .ok (.invokevirtual 61, 3) := by decide +kernel
theorem dX2_copyFrom_69 : decode cX2_copyFrom 69 = .ok (.return_, 1) := by decide +kernel
theorem dX2_costNow_0 : decode cX2_costNow 0 = .ok (.aload_n 0, 1) := by decide +kernel
theorem dX2_costNow_1 : decode cX2_costNow 1 = .ok (.getfield 30, 3) := by decide +kernel
theorem dX2_costNow_4 : decode cX2_costNow 4 = .ok (.iload_n 1, 1) := by decide +kernel
theorem dX2_costNow_5 : decode cX2_costNow 5 = .ok (.invokevirtual 64, 3) := by decide +kernel
theorem dX2_costNow_8 : decode cX2_costNow 8 = .ok (.i2f, 1) := by decide +kernel
theorem dX2_costNow_9 : decode cX2_costNow 9 = .ok (.aload_n 0, 1) := by decide +kernel
theorem dX2_costNow_10 : decode cX2_costNow 10 = .ok (.getfield 19, 3) := by decide +kernel
theorem dX2_costNow_13 : decode cX2_costNow 13 = .ok (.iconst 0, 1) := by decide +kernel
theorem dX2_costNow_14 : decode cX2_costNow 14 = .ok (.faload, 1) := by decide +kernel
theorem dX2_costNow_15 : decode cX2_costNow 15 = .ok (.fmul, 1) := by decide +kernel
theorem dX2_costNow_16 : decode cX2_costNow 16 = .ok (.fstore_n 2, 1) := by decide +kernel
theorem dX2_costNow_17 : decode cX2_costNow 17 = .ok (.getstatic 68, 3) := by decide +kernel
theorem dX2_costNow_20 : decode cX2_costNow 20 = .ok (.iload_n 1, 1) := by decide +kernel
theorem dX2_costNow_21 : decode cX2_costNow 21 = .ok (.iaload, 1) := by decide +kernel
theorem dX2_costNow_22 : decode cX2_costNow 22 = .ok (.aload_n 0, 1) := by decide +kernel
theorem dX2_costNow_23 : decode cX2_costNow 23 = .ok (.getfield 23, 3) := by decide +kernel
theorem dX2_costNow_26 : decode cX2_costNow 26 = .ok (.iconst 1, 1) := by decide +kernel
theorem dX2_costNow_27 : decode cX2_costNow 27 = .ok (.iaload, 1) := by decide +kernel
theorem dX2_costNow_28 : decode cX2_costNow 28 = .ok (.imul, 1) := by decide +kernel
theorem dX2_costNow_29 : decode cX2_costNow 29 = .ok (.i2f, 1) := by decide +kernel
theorem dX2_costNow_30 : decode cX2_costNow 30 = .ok (.fstore_n 3, 1) := by decide +kernel
theorem dX2_costNow_31 : decode cX2_costNow 31 = .ok (.fload_n 2, 1) := by decide +kernel
theorem dX2_costNow_32 : decode cX2_costNow 32 = .ok (.fload_n 3, 1) := by decide +kernel
theorem dX2_costNow_33 : decode cX2_costNow 33 = .ok (.fadd, 1) := by decide +kernel
theorem dX2_costNow_34 : decode cX2_costNow 34 = .ok (.f2i, 1) := by decide +kernel
theorem dX2_costNow_35 : decode cX2_costNow 35 = .ok (.ireturn, 1) := by decide +kernel
theorem dX2_loanersThere_0 : decode cX2_loanersThere 0 = .ok (.aload_n 0, 1) := by decide +kernel
theorem dX2_loanersThere_1 : decode cX2_loanersThere 1 = .ok (.getfield 23, 3) := by decide +kernel
theorem dX2_loanersThere_4 : decode cX2_loanersThere 4 = .ok (.iconst 4, 1) := by decide +kernel
theorem dX2_loanersThere_5 : decode cX2_loanersThere 5 = .ok (.iaload, 1) := by decide +kernel
theorem dX2_loanersThere_6 : decode cX2_loanersThere 6 = .ok (.aload_n 0, 1) := by decide +kernel
theorem dX2_loanersThere_7 : decode cX2_loanersThere 7 = .ok (.getfield 37, 3) := by decide +kernel
theorem dX2_loanersThere_10 : decode cX2_loanersThere 10 = .ok (.invokevirtual 71, 3) := by decide +kernel
theorem dX2_loanersThere_13 : decode cX2_loanersThere 13 = .ok (.isub, 1) := by decide +kernel
theorem dX2_loanersThere_14 : decode cX2_loanersThere 14 = .ok (.ireturn, 1) := by decide +kernel
theorem dX2_storageFee_0 : decode cX2_storageFee 0 = .ok (.aload_n 0, 1) := by decide +kernel
theorem dX2_storageFee_1 : decode cX2_storageFee 1 = .ok (.getfield 9, 3) := by decide +kernel
theorem dX2_storageFee_4 : decode cX2_storageFee 4 = .ok (.aload_n 0, 1) := by decide +kernel
theorem dX2_storageFee_5 : decode cX2_storageFee 5 = .ok (.getfield 37, 3) := by decide +kernel
theorem dX2_storageFee_8 : decode cX2_storageFee 8 = .ok (.getfield 75, 3) := by decide +kernel
theorem dX2_storageFee_11 : decode cX2_storageFee 11 = .ok (.iload_n 1, 1) := by decide +kernel
theorem dX2_storageFee_12 : decode cX2_storageFee 12 = .ok (.iaload, 1) := by decide +kernel
theorem dX2_storageFee_13 : decode cX2_storageFee 13 = .ok (.isub, 1) := by decide +kernel
theorem dX2_storageFee_14 : decode cX2_storageFee 14 = .ok (.aload_n 0, 1) := by decide +kernel
theorem dX2_storageFee_15 : decode cX2_storageFee 15 = .ok (.getfield 23, 3) := by decide +kernel
theorem dX2_storageFee_18 : decode cX2_storageFee 18 = .ok (.iconst 2, 1) := by decide +kernel
theorem dX2_storageFee_19 : decode cX2_storageFee 19 = .ok (.iaload, 1) := by decide +kernel
theorem dX2_storageFee_20 : decode cX2_storageFee 20 = .ok (.isub, 1) := by decide +kernel
theorem dX2_storageFee_21 : decode cX2_storageFee 21 = .ok (.istore_n 2, 1) := by decide +kernel
theorem dX2_storageFee_22 : decode cX2_storageFee 22 = .ok (.iload_n 2, 1) := by decide +kernel
theorem dX2_storageFee_23 : decode cX2_storageFee 23 = .ok (.ifCond .gt 7, 3) := by decide +kernel
theorem dX2_storageFee_26 : decode cX2_storageFee 26 = .ok (.iconst 0, 1) := by decide +kernel
theorem dX2_storageFee_27 : decode cX2_storageFee 27 = .ok (.goto 13, 3) := by decide +kernel
theorem dX2_storageFee_30 : decode cX2_storageFee 30 = .ok (.iload_n 2, 1) := by decide +kernel
theorem dX2_storageFee_31 : decode cX2_storageFee 31 = .ok (.i2f, 1) := by decide +kernel
theorem dX2_storageFee_32 : decode cX2_storageFee 32 = .ok (.aload_n 0, 1) := by decide +kernel
theorem dX2_storageFee_33 : decode cX2_storageFee 33 = .ok (.getfield 19, 3) := by decide +kernel
theorem dX2_storageFee_36 : decode cX2_storageFee 36 = .ok (.iconst 2, 1) := by decide +kernel
theorem dX2_storageFee_37 : decode cX2_storageFee 37 = .ok (.faload, 1) := by decide +kernel
theorem dX2_storageFee_38 : decode cX2_storageFee 38 = .ok (.fmul, 1) := by decide +kernel
theorem dX2_storageFee_39 : decode cX2_storageFee 39 = .ok (.f2i, 1) := by decide +kernel
theorem dX2_storageFee_40 : decode cX2_storageFee 40 = .ok (.ireturn, 1) := by decide +kernel
theorem dX2_lackingOf_0 : decode cX2_lackingOf 0 = .ok (.iconst 0, 1) := by decide +kernel
theorem dX2_lackingOf_1 : decode cX2_lackingOf 1 = .ok (.istore_n 2, 1) := by decide +kernel
theorem dX2_lackingOf_2 : decode cX2_lackingOf 2 = .ok (.iconst 0, 1) := by decide +kernel
theorem dX2_lackingOf_3 : decode cX2_lackingOf 3 = .ok (.istore_n 3, 1) := by decide +kernel
theorem dX2_lackingOf_4 : decode cX2_lackingOf 4 = .ok (.iload_n 3, 1) := by decide +kernel
theorem dX2_lackingOf_5 : decode cX2_lackingOf 5 = .ok (.aload_n 0, 1) := by decide +kernel
theorem dX2_lackingOf_6 : decode cX2_lackingOf 6 = .ok (.getfield 37, 3) := by decide +kernel
theorem dX2_lackingOf_9 : decode cX2_lackingOf 9 = .ok (.getfield 78, 3) := by decide +kernel
theorem dX2_lackingOf_12 : decode cX2_lackingOf 12 = .ok (.if_icmp .ge 38, 3) := by decide +kernel
theorem dX2_lackingOf_15 : decode cX2_lackingOf 15 = .ok (.aload_n 0, 1) := by decide +kernel
theorem dX2_lackingOf_16 : decode cX2_lackingOf 16 = .ok (.getfield 37, 3) := by decide +kernel
theorem dX2_lackingOf_19 : decode cX2_lackingOf 19 = .ok (.getfield 81, 3) := by decide +kernel
theorem dX2_lackingOf_22 : decode cX2_lackingOf 22 = .ok (.iload_n 3, 1) := by decide +kernel
theorem dX2_lackingOf_23 : decode cX2_lackingOf 23 = .ok (.iaload, 1) := by decide +kernel
theorem dX2_lackingOf_24 : decode cX2_lackingOf 24 = .ok (.iconst 2, 1) := by decide +kernel
theorem dX2_lackingOf_25 : decode cX2_lackingOf 25 = .ok (.if_icmp .ne 19, 3) := by decide +kernel
theorem dX2_lackingOf_28 : decode cX2_lackingOf 28 = .ok (.iload_n 2, 1) := by decide +kernel
theorem dX2_lackingOf_29 : decode cX2_lackingOf 29 = .ok (.aload_n 0, 1) := by decide +kernel
theorem dX2_lackingOf_30 : decode cX2_lackingOf 30 = .ok (.getfield 37, 3) := by decide +kernel
theorem dX2_lackingOf_33 : decode cX2_lackingOf 33 = .ok (.getfield 84, 3) := by decide +kernel
theorem dX2_lackingOf_36 : decode cX2_lackingOf 36 = .ok (.iload_n 3, 1) := by decide +kernel
theorem dX2_lackingOf_37 : decode cX2_lackingOf 37 = .ok (.iaload, 1) := by decide +kernel
theorem dX2_lackingOf_38 : decode cX2_lackingOf 38 = .ok (.iload_n 1, 1) := by decide +kernel
theorem dX2_lackingOf_39 : decode cX2_lackingOf 39 = .ok (.invokestatic 87, 3) := by decide +kernel
theorem dX2_lackingOf_42 : decode cX2_lackingOf 42 = .ok (.iadd, 1) := by decide +kernel
theorem dX2_lackingOf_43 : decode cX2_lackingOf 43 = .ok (.istore_n 2, 1) := by decide +kernel
theorem dX2_lackingOf_44 : decode cX2_lackingOf 44 = .ok (.iinc 3 1, 3) := by decide +kernel
theorem dX2_lackingOf_47 : decode cX2_lackingOf 47 = .ok (.goto (-43), 3) := by decide +kernel
theorem dX2_lackingOf_50 : decode cX2_lackingOf 50 = .ok (.iconst 0, 1) := by decide +kernel
theorem dX2_lackingOf_51 : decode cX2_lackingOf 51 = .ok (.iload_n 2, 1) := by decide +kernel
theorem dX2_lackingOf_52 : decode cX2_lackingOf 52 = .ok (.aload_n 0, 1) := by decide +kernel
theorem dX2_lackingOf_53 : decode cX2_lackingOf 53 = .ok (.getfield 30, 3) := by decide +kernel
theorem dX2_lackingOf_56 : decode cX2_lackingOf 56 = .ok (.iload_n 1, 1) := by decide +kernel
theorem dX2_lackingOf_57 : decode cX2_lackingOf 57 = .ok (.invokevirtual 91, 3) := by decide +kernel
theorem dX2_lackingOf_60 : decode cX2_lackingOf 60 = .ok (.isub, 1) := by decide +kernel
theorem dX2_lackingOf_61 : decode cX2_lackingOf 61 = .ok (.aload_n 0, 1) := by decide +kernel
theorem dX2_lackingOf_62 : decode cX2_lackingOf 62 = .ok (.getfield 30, 3) := by decide +kernel
theorem dX2_lackingOf_65 : decode cX2_lackingOf 65 = .ok (.iload_n 1, 1) := by decide +kernel
theorem dX2_lackingOf_66 : decode cX2_lackingOf 66 = .ok (.invokevirtual 94, 3) := by decide +kernel
theorem dX2_lackingOf_69 : decode cX2_lackingOf 69 = .ok (.isub, 1) := by decide +kernel
theorem dX2_lackingOf_70 : decode cX2_lackingOf 70 = .ok (.invokestatic 97, 3) := by decide +kernel
theorem dX2_lackingOf_73 : decode cX2_lackingOf 73 = .ok (.ireturn, 1) := by decide +kernel
theorem dX2_decide_0 : decode cX2_decide 0 = .ok (.iload_n 2, 1) := by decide +kernel
theorem dX2_decide_1 : decode cX2_decide 1 = .ok (.ifCond .eq 20, 3) := by decide +kernel
theorem dX2_decide_4 : decode cX2_decide 4 = .ok (.aload_n 0, 1) := by decide +kernel
theorem dX2_decide_5 : decode cX2_decide 5 = .ok (.getfield 37, 3) := by decide +kernel
theorem dX2_decide_8 : decode cX2_decide 8 = .ok (.getfield 81, 3) := by decide +kernel
theorem dX2_decide_11 : decode cX2_decide 11 = .ok (.iload_n 1, 1) := by decide +kernel
theorem dX2_decide_12 : decode cX2_decide 12 = .ok (.iconst 2, 1) := by decide +kernel
theorem dX2_decide_13 : decode cX2_decide 13 = .ok (.iastore, 1) := by decide +kernel
theorem dX2_decide_14 : decode cX2_decide 14 = .ok (.aload_n 0, 1) := by decide +kernel
theorem dX2_decide_15 : decode cX2_decide 15 = .ok (.invokevirtual 102, 3) := by decide +kernel
theorem dX2_decide_18 : decode cX2_decide 18 = .ok (.goto 26, 3) := by decide +kernel
theorem dX2_decide_21 : decode cX2_decide 21 = .ok (.aload_n 0, 1) := by decide +kernel
theorem dX2_decide_22 : decode cX2_decide 22 = .ok (.getfield 37, 3) := by decide +kernel
theorem dX2_decide_25 : decode cX2_decide 25 = .ok (.getfield 81, 3) := by decide +kernel
theorem dX2_decide_28 : decode cX2_decide 28 = .ok (.iload_n 1, 1) := by decide +kernel
theorem dX2_decide_29 : decode cX2_decide 29 = .ok (.iconst 5, 1) := by decide +kernel
theorem dX2_decide_30 : decode cX2_decide 30 = .ok (.iastore, 1) := by decide +kernel
theorem dX2_decide_31 : decode cX2_decide 31 = .ok (.aload_n 0, 1) := by decide +kernel
theorem dX2_decide_32 : decode cX2_decide 32 = .ok (.getfield 37, 3) := by decide +kernel
theorem dX2_decide_35 : decode cX2_decide 35 = .ok (.getfield 75, 3) := by decide +kernel
theorem dX2_decide_38 : decode cX2_decide 38 = .ok (.iload_n 1, 1) := by decide +kernel
theorem dX2_decide_39 : decode cX2_decide 39 = .ok (.aload_n 0, 1) := by decide +kernel
theorem dX2_decide_40 : decode cX2_decide 40 = .ok (.getfield 9, 3) := by decide +kernel
theorem dX2_decide_43 : decode cX2_decide 43 = .ok (.iastore, 1) := by decide +kernel
theorem dX2_decide_44 : decode cX2_decide 44 = .ok (.return_, 1) := by decide +kernel
theorem dX2_reserveParts_0 : decode cX2_reserveParts 0 = .ok (.aload_n 0, 1) := by decide +kernel
theorem dX2_reserveParts_1 : decode cX2_reserveParts 1 = .ok (.iconst 1, 1) := by decide +kernel
theorem dX2_reserveParts_2 : decode cX2_reserveParts 2 = .ok (.invokevirtual 105, 3) := by decide +kernel
theorem dX2_reserveParts_5 : decode cX2_reserveParts 5 = .ok (.aload_n 0, 1) := by decide +kernel
theorem dX2_reserveParts_6 : decode cX2_reserveParts 6 = .ok (.iconst 0, 1) := by decide +kernel
theorem dX2_reserveParts_7 : decode cX2_reserveParts 7 = .ok (.invokevirtual 105, 3) := by decide +kernel
theorem dX2_reserveParts_10 : decode cX2_reserveParts 10 = .ok (.return_, 1) := by decide +kernel
theorem dX2_reservePartsWhere_0 : decode cX2_reservePartsWhere 0 = .ok (.iconst 0, 1) := by decide +kernel
theorem dX2_reservePartsWhere_1 : decode cX2_reservePartsWhere 1 = .ok (.istore_n 2, 1) := by decide +kernel
theorem dX2_reservePartsWhere_2 : decode cX2_reservePartsWhere 2 = .ok (.iload_n 2, 1) := by decide +kernel
theorem dX2_reservePartsWhere_3 : decode cX2_reservePartsWhere 3 = .ok (.aload_n 0, 1) := by decide +kernel
theorem dX2_reservePartsWhere_4 : decode cX2_reservePartsWhere 4 = .ok (.getfield 37, 3) := by decide +kernel
theorem dX2_reservePartsWhere_7 : decode cX2_reservePartsWhere 7 = .ok (.getfield 78, 3) := by decide +kernel
theorem dX2_reservePartsWhere_10 : decode cX2_reservePartsWhere 10 = .ok (.if_icmp .ge 66, 3) := by decide +kernel
theorem dX2_reservePartsWhere_13 : decode cX2_reservePartsWhere 13 = .ok (.aload_n 0, 1) := by decide +kernel
theorem dX2_reservePartsWhere_14 : decode cX2_reservePartsWhere 14 = .ok (.getfield 37, 3) := by decide +kernel
theorem dX2_reservePartsWhere_17 : decode cX2_reservePartsWhere 17 = .ok (.iload_n 2, 1) := by decide +kernel
theorem dX2_reservePartsWhere_18 : decode cX2_reservePartsWhere 18 = .ok (.iconst 2, 1) := by decide +kernel
theorem dX2_reservePartsWhere_19 : decode cX2_reservePartsWhere 19 = .ok (.iload_n 1, 1) := by decide +kernel
theorem dX2_reservePartsWhere_20 : decode cX2_reservePartsWhere 20 = .ok (.invokevirtual 109, 3) := by decide +kernel
theorem dX2_reservePartsWhere_23 : decode cX2_reservePartsWhere 23 = .ok (.ifCond .ne 6, 3) := by decide +kernel
theorem dX2_reservePartsWhere_26 : decode cX2_reservePartsWhere 26 = .ok (.goto 44, 3) := by decide +kernel
theorem dX2_reservePartsWhere_29 : decode cX2_reservePartsWhere 29 = .ok (.aload_n 0, 1) := by decide +kernel
theorem dX2_reservePartsWhere_30 : decode cX2_reservePartsWhere 30 = .ok (.getfield 37, 3) := by decide +kernel
theorem dX2_reservePartsWhere_33 : decode cX2_reservePartsWhere 33 = .ok (.getfield 84, 3) := by decide +kernel
theorem dX2_reservePartsWhere_36 : decode cX2_reservePartsWhere 36 = .ok (.iload_n 2, 1) := by decide +kernel
theorem dX2_reservePartsWhere_37 : decode cX2_reservePartsWhere 37 = .ok (.iaload, 1) := by decide +kernel
theorem dX2_reservePartsWhere_38 : decode cX2_reservePartsWhere 38 = .ok (.istore_n 3, 1) := by decide +kernel
theorem dX2_reservePartsWhere_39 : decode cX2_reservePartsWhere 39 = .ok (.aload_n 0, 1) := by decide +kernel
theorem dX2_reservePartsWhere_40 : decode cX2_reservePartsWhere 40 = .ok (.getfield 30, 3) := by decide +kernel
theorem dX2_reservePartsWhere_43 : decode cX2_reservePartsWhere 43 = .ok (.iload_n 3, 1) := by decide +kernel
theorem dX2_reservePartsWhere_44 : decode cX2_reservePartsWhere 44 = .ok (.invokevirtual 113, 3) := by decide +kernel
theorem dX2_reservePartsWhere_47 : decode cX2_reservePartsWhere 47 = .ok (.bipush (-5), 2) := by decide +kernel
theorem dX2_reservePartsWhere_49 : decode cX2_reservePartsWhere 49 = .ok (.if_icmp .ne 21, 3) := by decide +kernel
theorem dX2_reservePartsWhere_52 : decode cX2_reservePartsWhere 52 = .ok (.aload_n 0, 1) := by decide +kernel
theorem dX2_reservePartsWhere_53 : decode cX2_reservePartsWhere 53 = .ok (.getfield 30, 3) := by decide +kernel
theorem dX2_reservePartsWhere_56 : decode cX2_reservePartsWhere 56 = .ok (.iload_n 3, 1) := by decide +kernel
theorem dX2_reservePartsWhere_57 : decode cX2_reservePartsWhere 57 = .ok (.invokevirtual 116, 3) := by decide +kernel
theorem dX2_reservePartsWhere_60 : decode cX2_reservePartsWhere 60 = .ok (.aload_n 0, 1) := by decide +kernel
theorem dX2_reservePartsWhere_61 : decode cX2_reservePartsWhere 61 = .ok (.getfield 37, 3) := by decide +kernel
theorem dX2_reservePartsWhere_64 : decode cX2_reservePartsWhere 64 = .ok (.getfield 81, 3) := by decide +kernel
theorem dX2_reservePartsWhere_67 : decode cX2_reservePartsWhere 67 = .ok (.iload_n 2, 1) := by decide +kernel
theorem dX2_reservePartsWhere_68 : decode cX2_reservePartsWhere 68 = .ok (.iconst 3, 1) := by decide +kernel
theorem dX2_reservePartsWhere_69 : decode cX2_reservePartsWhere 69 = .ok (.iastore, 1) := by decide +kernel
theorem dX2_reservePartsWhere_70 : decode cX2_reservePartsWhere 70 = .ok (.iinc 2 1, 3) := by decide +kernel
theorem dX2_reservePartsWhere_73 : decode cX2_reservePartsWhere 73 = .ok (.goto (-71), 3) := by decide +kernel
theorem dX2_reservePartsWhere_76 : decode cX2_reservePartsWhere 76 = .ok (.return_, 1) := by decide +kernel
theorem dX2_handOver_0 : decode cX2_handOver 0 = .ok (.aload_n 0, 1) := by decide +kernel
theorem dX2_handOver_1 : decode cX2_handOver 1 = .ok (.iload_n 1, 1) := by decide +kernel
theorem dX2_handOver_2 : decode cX2_handOver 2 = .ok (.invokevirtual 119, 3) := by decide +kernel
theorem dX2_handOver_5 : decode cX2_handOver 5 = .ok (.istore_n 2, 1) := by decide +kernel
theorem dX2_handOver_6 : decode cX2_handOver 6 = .ok (.aload_n 0, 1) := by decide +kernel
theorem dX2_handOver_7 : decode cX2_handOver 7 = .ok (.getfield 44, 3) := by decide +kernel
theorem dX2_handOver_10 : decode cX2_handOver 10 = .ok (.dup, 1) := by decide +kernel
theorem dX2_handOver_11 : decode cX2_handOver 11 = .ok (.getfield 122, 3) := by decide +kernel
theorem dX2_handOver_14 : decode cX2_handOver 14 = .ok (.aload_n 0, 1) := by decide +kernel
theorem dX2_handOver_15 : decode cX2_handOver 15 = .ok (.getfield 37, 3) := by decide +kernel
theorem dX2_handOver_18 : decode cX2_handOver 18 = .ok (.getfield 125, 3) := by decide +kernel
theorem dX2_handOver_21 : decode cX2_handOver 21 = .ok (.iload_n 1, 1) := by decide +kernel
theorem dX2_handOver_22 : decode cX2_handOver 22 = .ok (.iaload, 1) := by decide +kernel
theorem dX2_handOver_23 : decode cX2_handOver 23 = .ok (.iadd, 1) := by decide +kernel
theorem dX2_handOver_24 : decode cX2_handOver 24 = .ok (.putfield 122, 3) := by decide +kernel
theorem dX2_handOver_27 : decode cX2_handOver 27 = .ok (.aload_n 0, 1) := by decide +kernel
theorem dX2_handOver_28 : decode cX2_handOver 28 = .ok (.getfield 44, 3) := by decide +kernel
theorem dX2_handOver_31 : decode cX2_handOver 31 = .ok (.dup, 1) := by decide +kernel
theorem dX2_handOver_32 : decode cX2_handOver 32 = .ok (.getfield 128, 3) := by decide +kernel
theorem dX2_handOver_35 : decode cX2_handOver 35 = .ok (.iload_n 2, 1) := by decide +kernel
theorem dX2_handOver_36 : decode cX2_handOver 36 = .ok (.iadd, 1) := by decide +kernel
theorem dX2_handOver_37 : decode cX2_handOver 37 = .ok (.putfield 128, 3) := by decide +kernel
theorem dX2_handOver_40 : decode cX2_handOver 40 = .ok (.aload_n 0, 1) := by decide +kernel
theorem dX2_handOver_41 : decode cX2_handOver 41 = .ok (.getfield 37, 3) := by decide +kernel
theorem dX2_handOver_44 : decode cX2_handOver 44 = .ok (.getfield 81, 3) := by decide +kernel
theorem dX2_handOver_47 : decode cX2_handOver 47 = .ok (.iload_n 1, 1) := by decide +kernel
theorem dX2_handOver_48 : decode cX2_handOver 48 = .ok (.bipush 6, 2) := by decide +kernel
theorem dX2_handOver_50 : decode cX2_handOver 50 = .ok (.iastore, 1) := by decide +kernel
theorem dX2_handOver_51 : decode cX2_handOver 51 = .ok (.aload_n 0, 1) := by decide +kernel
theorem dX2_handOver_52 : decode cX2_handOver 52 = .ok (.getfield 37, 3) := by decide +kernel
theorem dX2_handOver_55 : decode cX2_handOver 55 = .ok (.getfield 131, 3) := by decide +kernel
theorem dX2_handOver_58 : decode cX2_handOver 58 = .ok (.iload_n 1, 1) := by decide +kernel
theorem dX2_handOver_59 : decode cX2_handOver 59 = .ok (.iconst 0, 1) := by decide +kernel
theorem dX2_handOver_60 : decode cX2_handOver 60 = .ok (.iastore, 1) := by decide +kernel
theorem dX2_handOver_61 : decode cX2_handOver 61 = .ok (.aload_n 0, 1) := by decide +kernel
theorem dX2_handOver_62 : decode cX2_handOver 62 = .ok (.getfield 37, 3) := by decide +kernel
theorem dX2_handOver_65 : decode cX2_handOver 65 = .ok (.getfield 125, 3) := by decide +kernel
theorem dX2_handOver_68 : decode cX2_handOver 68 = .ok (.iload_n 1, 1) := by decide +kernel
theorem dX2_handOver_69 : decode cX2_handOver 69 = .ok (.iaload, 1) := by decide +kernel
theorem dX2_handOver_70 : decode cX2_handOver 70 = .ok (.iload_n 2, 1) := by decide +kernel
theorem dX2_handOver_71 : decode cX2_handOver 71 = .ok (.iadd, 1) := by decide +kernel
theorem dX2_handOver_72 : decode cX2_handOver 72 = .ok (.ireturn, 1) := by decide +kernel
theorem dX2_passDay_0 : decode cX2_passDay 0 = .ok (.aload_n 0, 1) := by decide +kernel
theorem dX2_passDay_1 : decode cX2_passDay 1 = .ok (.dup, 1) := by decide +kernel
theorem dX2_passDay_2 : decode cX2_passDay 2 = .ok (.getfield 9, 3) := by decide +kernel
theorem dX2_passDay_5 : decode cX2_passDay 5 = .ok (.iconst 1, 1) := by decide +kernel
theorem dX2_passDay_6 : decode cX2_passDay 6 = .ok (.iadd, 1) := by decide +kernel
theorem dX2_passDay_7 : decode cX2_passDay 7 = .ok (.putfield 9, 3) := by decide +kernel
theorem dX2_passDay_10 : decode cX2_passDay 10 = .ok (.aload_n 0, 1) := by decide +kernel
theorem dX2_passDay_11 : decode cX2_passDay 11 = .ok (.invokevirtual 134, 3) := by decide +kernel
theorem dX2_passDay_14 : decode cX2_passDay 14 = .ok (.aload_n 0, 1) := by decide +kernel
theorem dX2_passDay_15 : decode cX2_passDay 15 = .ok (.iconst 1, 1) := by decide +kernel
theorem dX2_passDay_16 : decode cX2_passDay 16 = .ok (.aload_n 0, 1) := by decide +kernel
theorem dX2_passDay_17 : decode cX2_passDay 17 = .ok (.getfield 23, 3) := by decide +kernel
theorem dX2_passDay_20 : decode cX2_passDay 20 = .ok (.iconst 0, 1) := by decide +kernel
theorem dX2_passDay_21 : decode cX2_passDay 21 = .ok (.iaload, 1) := by decide +kernel
theorem dX2_passDay_22 : decode cX2_passDay 22 = .ok (.invokevirtual 137, 3) := by decide +kernel
theorem dX2_passDay_25 : decode cX2_passDay 25 = .ok (.istore_n 1, 1) := by decide +kernel
theorem dX2_passDay_26 : decode cX2_passDay 26 = .ok (.aload_n 0, 1) := by decide +kernel
theorem dX2_passDay_27 : decode cX2_passDay 27 = .ok (.iconst 0, 1) := by decide +kernel
theorem dX2_passDay_28 : decode cX2_passDay 28 = .ok (.iload_n 1, 1) := by decide +kernel
theorem dX2_passDay_29 : decode cX2_passDay 29 = .ok (.invokevirtual 137, 3) := by decide +kernel
theorem dX2_passDay_32 : decode cX2_passDay 32 = .ok (.pop, 1) := by decide +kernel
theorem dX2_passDay_33 : decode cX2_passDay 33 = .ok (.aload_n 0, 1) := by decide +kernel
theorem dX2_passDay_34 : decode cX2_passDay 34 = .ok (.invokevirtual 140, 3) := by decide +kernel
theorem dX2_passDay_37 : decode cX2_passDay 37 = .ok (.return_, 1) := by decide +kernel
theorem dX2_takeOrders_0 : decode cX2_takeOrders 0 = .ok (.iconst 0, 1) := by decide +kernel
theorem dX2_takeOrders_1 : decode cX2_takeOrders 1 = .ok (.istore_n 1, 1) := by decide +kernel
theorem dX2_takeOrders_2 : decode cX2_takeOrders 2 = .ok (.iload_n 1, 1) := by decide +kernel
theorem dX2_takeOrders_3 : decode cX2_takeOrders 3 = .ok (.aload_n 0, 1) := by decide +kernel
theorem dX2_takeOrders_4 : decode cX2_takeOrders 4 = .ok (.getfield 30, 3) := by decide +kernel
theorem dX2_takeOrders_7 : decode cX2_takeOrders 7 = .ok (.getfield 143, 3) := by decide +kernel
theorem dX2_takeOrders_10 : decode cX2_takeOrders 10 = .ok (.if_icmp .ge 58, 3) := by decide +kernel
theorem dX2_takeOrders_13 : decode cX2_takeOrders 13 = .ok (.aload_n 0, 1) := by decide +kernel
theorem dX2_takeOrders_14 : decode cX2_takeOrders 14 = .ok (.getfield 30, 3) := by decide +kernel
theorem dX2_takeOrders_17 : decode cX2_takeOrders 17 = .ok (.getfield 146, 3) := by decide +kernel
theorem dX2_takeOrders_20 : decode cX2_takeOrders 20 = .ok (.iload_n 1, 1) := by decide +kernel
theorem dX2_takeOrders_21 : decode cX2_takeOrders 21 = .ok (.iaload, 1) := by decide +kernel
theorem dX2_takeOrders_22 : decode cX2_takeOrders 22 = .ok (.aload_n 0, 1) := by decide +kernel
theorem dX2_takeOrders_23 : decode cX2_takeOrders 23 = .ok (.getfield 9, 3) := by decide +kernel
theorem dX2_takeOrders_26 : decode cX2_takeOrders 26 = .ok (.if_icmp .ne 36, 3) := by decide +kernel
theorem dX2_takeOrders_29 : decode cX2_takeOrders 29 = .ok (.aload_n 0, 1) := by decide +kernel
theorem dX2_takeOrders_30 : decode cX2_takeOrders 30 = .ok (.getfield 30, 3) := by decide +kernel
theorem dX2_takeOrders_33 : decode cX2_takeOrders 33 = .ok (.getfield 149, 3) := by decide +kernel
theorem dX2_takeOrders_36 : decode cX2_takeOrders 36 = .ok (.aload_n 0, 1) := by decide +kernel
theorem dX2_takeOrders_37 : decode cX2_takeOrders 37 = .ok (.getfield 30, 3) := by decide +kernel
theorem dX2_takeOrders_40 : decode cX2_takeOrders 40 = .ok (.getfield 152, 3) := by decide +kernel
theorem dX2_takeOrders_43 : decode cX2_takeOrders 43 = .ok (.iload_n 1, 1) := by decide +kernel
theorem dX2_takeOrders_44 : decode cX2_takeOrders 44 = .ok (.iaload, 1) := by decide +kernel
theorem dX2_takeOrders_45 : decode cX2_takeOrders 45 = .ok (.dup2, 1) := by decide +kernel
theorem dX2_takeOrders_46 : decode cX2_takeOrders 46 = .ok (.iaload, 1) := by decide +kernel
theorem dX2_takeOrders_47 : decode cX2_takeOrders 47 = .ok (.aload_n 0, 1) := by decide +kernel
theorem dX2_takeOrders_48 : decode cX2_takeOrders 48 = .ok (.getfield 30, 3) := by decide +kernel
theorem dX2_takeOrders_51 : decode cX2_takeOrders 51 = .ok (.getfield 155, 3) := by decide +kernel
theorem dX2_takeOrders_54 : decode cX2_takeOrders 54 = .ok (.iload_n 1, 1) := by decide +kernel
theorem dX2_takeOrders_55 : decode cX2_takeOrders 55 = .ok (.iaload, 1) := by decide +kernel
theorem dX2_takeOrders_56 : decode cX2_takeOrders 56 = .ok (.iadd, 1) := by decide +kernel
theorem dX2_takeOrders_57 : decode cX2_takeOrders 57 = .ok (.iastore, 1) := by decide +kernel
theorem dX2_takeOrders_58 : decode cX2_takeOrders 58 = .ok (.aload_n 0, 1) := by decide +kernel
theorem dX2_takeOrders_59 : decode cX2_takeOrders 59 = .ok (.invokevirtual 102, 3) := by decide +kernel
theorem dX2_takeOrders_62 : decode cX2_takeOrders 62 = .ok (.iinc 1 1, 3) := by decide +kernel
theorem dX2_takeOrders_65 : decode cX2_takeOrders 65 = .ok (.goto (-63), 3) := by decide +kernel
theorem dX2_takeOrders_68 : decode cX2_takeOrders 68 = .ok (.aload_n 0, 1) := by decide +kernel
theorem dX2_takeOrders_69 : decode cX2_takeOrders 69 = .ok (.getfield 30, 3) := by decide +kernel
theorem dX2_takeOrders_72 : decode cX2_takeOrders 72 = .ok (.aload_n 0, 1) := by decide +kernel
theorem dX2_takeOrders_73 : decode cX2_takeOrders 73 = .ok (.getfield 9, 3) := by decide +kernel
theorem dX2_takeOrders_76 : decode cX2_takeOrders 76 = .ok (.invokevirtual 158, 3) := by decide +kernel
theorem dX2_takeOrders_79 : decode cX2_takeOrders 79 = .ok (.return_, 1) := by decide +kernel
theorem dX2_workWhere_0 : decode cX2_workWhere 0 = .ok (.iload_n 2, 1) := by decide +kernel
theorem dX2_workWhere_1 : decode cX2_workWhere 1 = .ok (.istore_n 3, 1) := by decide +kernel
theorem dX2_workWhere_2 : decode cX2_workWhere 2 = .ok (.iconst 0, 1) := by decide +kernel
theorem dX2_workWhere_3 : decode cX2_workWhere 3 = .ok (.istore 4, 2) := by decide +kernel
theorem dX2_workWhere_5 : decode cX2_workWhere 5 = .ok (.iload 4, 2) := by decide +kernel
theorem dX2_workWhere_7 : decode cX2_workWhere 7 = .ok (.aload_n 0, 1) := by decide +kernel
theorem dX2_workWhere_8 : decode cX2_workWhere 8 = .ok (.getfield 37, 3) := by decide +kernel
theorem dX2_workWhere_11 : decode cX2_workWhere 11 = .ok (.getfield 78, 3) := by decide +kernel
theorem dX2_workWhere_14 : decode cX2_workWhere 14 = .ok (.if_icmp .ge 106, 3) := by decide +kernel
theorem dX2_workWhere_17 : decode cX2_workWhere 17 = .ok (.iload_n 3, 1) := by decide +kernel
theorem dX2_workWhere_18 : decode cX2_workWhere 18 = .ok (.ifCond .le 102, 3) := by decide +kernel
theorem dX2_workWhere_21 : decode cX2_workWhere 21 = .ok (.aload_n 0, 1) := by decide +kernel
theorem dX2_workWhere_22 : decode cX2_workWhere 22 = .ok (.getfield 37, 3) := by decide +kernel
theorem dX2_workWhere_25 : decode cX2_workWhere 25 = .ok (.iload 4, 2) := by decide +kernel
theorem dX2_workWhere_27 : decode cX2_workWhere 27 = .ok (.iconst 3, 1) := by decide +kernel
theorem dX2_workWhere_28 : decode cX2_workWhere 28 = .ok (.iload_n 1, 1) := by decide +kernel
theorem dX2_workWhere_29 : decode cX2_workWhere 29 = .ok (.invokevirtual 109, 3) := by decide +kernel
theorem dX2_workWhere_32 : decode cX2_workWhere 32 = .ok (.ifCond .ne 6, 3) := by decide +kernel
theorem dX2_workWhere_35 : decode cX2_workWhere 35 = .ok (.goto 79, 3) := by decide +kernel
theorem dX2_workWhere_38 : decode cX2_workWhere 38 = .ok (.getstatic 68, 3) := by decide +kernel
theorem dX2_workWhere_41 : decode cX2_workWhere 41 = .ok (.aload_n 0, 1) := by decide +kernel
theorem dX2_workWhere_42 : decode cX2_workWhere 42 = .ok (.getfield 37, 3) := by decide +kernel
theorem dX2_workWhere_45 : decode cX2_workWhere 45 = .ok (.getfield 84, 3) := by decide +kernel
theorem dX2_workWhere_48 : decode cX2_workWhere 48 = .ok (.iload 4, 2) := by decide +kernel
theorem dX2_workWhere_50 : decode cX2_workWhere 50 = .ok (.iaload, 1) := by decide +kernel
theorem dX2_workWhere_51 : decode cX2_workWhere 51 = .ok (.iaload, 1) := by decide +kernel
theorem dX2_workWhere_52 : decode cX2_workWhere 52 = .ok (.istore 5, 2) := by decide +kernel
theorem dX2_workWhere_54 : decode cX2_workWhere 54 = .ok (.iload_n 3, 1) := by decide +kernel
theorem dX2_workWhere_55 : decode cX2_workWhere 55 = .ok (.iload 5, 2) := by decide +kernel
theorem dX2_workWhere_57 : decode cX2_workWhere 57 = .ok (.aload_n 0, 1) := by decide +kernel
theorem dX2_workWhere_58 : decode cX2_workWhere 58 = .ok (.getfield 37, 3) := by decide +kernel
theorem dX2_workWhere_61 : decode cX2_workWhere 61 = .ok (.getfield 161, 3) := by decide +kernel
theorem dX2_workWhere_64 : decode cX2_workWhere 64 = .ok (.iload 4, 2) := by decide +kernel
theorem dX2_workWhere_66 : decode cX2_workWhere 66 = .ok (.iaload, 1) := by decide +kernel
theorem dX2_workWhere_67 : decode cX2_workWhere 67 = .ok (.isub, 1) := by decide +kernel
theorem dX2_workWhere_68 : decode cX2_workWhere 68 = .ok (.invokestatic 164, 3) := by decide +kernel
theorem dX2_workWhere_71 : decode cX2_workWhere 71 = .ok (.istore 6, 2) := by decide +kernel
theorem dX2_workWhere_73 : decode cX2_workWhere 73 = .ok (.aload_n 0, 1) := by decide +kernel
theorem dX2_workWhere_74 : decode cX2_workWhere 74 = .ok (.getfield 37, 3) := by decide +kernel
theorem dX2_workWhere_77 : decode cX2_workWhere 77 = .ok (.getfield 161, 3) := by decide +kernel
theorem dX2_workWhere_80 : decode cX2_workWhere 80 = .ok (.iload 4, 2) := by decide +kernel
theorem dX2_workWhere_82 : decode cX2_workWhere 82 = .ok (.dup2, 1) := by decide +kernel
theorem dX2_workWhere_83 : decode cX2_workWhere 83 = .ok (.iaload, 1) := by decide +kernel
theorem dX2_workWhere_84 : decode cX2_workWhere 84 = .ok (.iload 6, 2) := by decide +kernel
theorem dX2_workWhere_86 : decode cX2_workWhere 86 = .ok (.iadd, 1) := by decide +kernel
theorem dX2_workWhere_87 : decode cX2_workWhere 87 = .ok (.iastore, 1) := by decide +kernel
theorem dX2_workWhere_88 : decode cX2_workWhere 88 = .ok (.iload_n 3, 1) := by decide +kernel
theorem dX2_workWhere_89 : decode cX2_workWhere 89 = .ok (.iload 6, 2) := by decide +kernel
theorem dX2_workWhere_91 : decode cX2_workWhere 91 = .ok (.isub, 1) := by decide +kernel
theorem dX2_workWhere_92 : decode cX2_workWhere 92 = .ok (.istore_n 3, 1) := by decide +kernel
theorem dX2_workWhere_93 : decode cX2_workWhere 93 = .ok (.aload_n 0, 1) := by decide +kernel
theorem dX2_workWhere_94 : decode cX2_workWhere 94 = .ok (.getfield 37, 3) := by decide +kernel
theorem dX2_workWhere_97 : decode cX2_workWhere 97 = .ok (.getfield 161, 3) := by decide +kernel
theorem dX2_workWhere_100 : decode cX2_workWhere 100 = .ok (.iload 4, 2) := by decide +kernel
theorem dX2_workWhere_102 : decode cX2_workWhere 102 = .ok (.iaload, 1) := by decide +kernel
theorem dX2_workWhere_103 : decode cX2_workWhere 103 = .ok (.iload 5, 2) := by decide +kernel
theorem dX2_workWhere_105 : decode cX2_workWhere 105 = .ok (.if_icmp .ne 9, 3) := by decide +kernel
theorem dX2_workWhere_108 : decode cX2_workWhere 108 = .ok (.aload_n 0, 1) := by decide +kernel
theorem dX2_workWhere_109 : decode cX2_workWhere 109 = .ok (.iload 4, 2) := by decide +kernel
theorem dX2_workWhere_111 : decode cX2_workWhere 111 = .ok (.invokevirtual 167, 3) := by decide +kernel
theorem dX2_workWhere_114 : decode cX2_workWhere 114 = .ok (.iinc 4 1, 3) := by decide +kernel
theorem dX2_workWhere_117 : decode cX2_workWhere 117 = .ok (.goto (-112), 3) := by decide +kernel
theorem dX2_workWhere_120 : decode cX2_workWhere 120 = .ok (.iload_n 3, 1) := by decide +kernel
theorem dX2_workWhere_121 : decode cX2_workWhere 121 = .ok (.ireturn, 1) := by decide +kernel
theorem dX2_finish_0 : decode cX2_finish 0 = .ok (.aload_n 0, 1) := by decide +kernel
theorem dX2_finish_1 : decode cX2_finish 1 = .ok (.getfield 37, 3) := by decide +kernel
theorem dX2_finish_4 : decode cX2_finish 4 = .ok (.getfield 84, 3) := by decide +kernel
theorem dX2_finish_7 : decode cX2_finish 7 = .ok (.iload_n 1, 1) := by decide +kernel
theorem dX2_finish_8 : decode cX2_finish 8 = .ok (.iaload, 1) := by decide +kernel
theorem dX2_finish_9 : decode cX2_finish 9 = .ok (.istore_n 2, 1) := by decide +kernel
theorem dX2_finish_10 : decode cX2_finish 10 = .ok (.aload_n 0, 1) := by decide +kernel
theorem dX2_finish_11 : decode cX2_finish 11 = .ok (.getfield 37, 3) := by decide +kernel
theorem dX2_finish_14 : decode cX2_finish 14 = .ok (.getfield 170, 3) := by decide +kernel
theorem dX2_finish_17 : decode cX2_finish 17 = .ok (.iload_n 1, 1) := by decide +kernel
theorem dX2_finish_18 : decode cX2_finish 18 = .ok (.iaload, 1) := by decide +kernel
theorem dX2_finish_19 : decode cX2_finish 19 = .ok (.i2f, 1) := by decide +kernel
theorem dX2_finish_20 : decode cX2_finish 20 = .ok (.aload_n 0, 1) := by decide +kernel
theorem dX2_finish_21 : decode cX2_finish 21 = .ok (.getfield 19, 3) := by decide +kernel
theorem dX2_finish_24 : decode cX2_finish 24 = .ok (.iconst 1, 1) := by decide +kernel
theorem dX2_finish_25 : decode cX2_finish 25 = .ok (.faload, 1) := by decide +kernel
theorem dX2_finish_26 : decode cX2_finish 26 = .ok (.fmul, 1) := by decide +kernel
theorem dX2_finish_27 : decode cX2_finish 27 = .ok (.f2i, 1) := by decide +kernel
theorem dX2_finish_28 : decode cX2_finish 28 = .ok (.istore_n 3, 1) := by decide +kernel
theorem dX2_finish_29 : decode cX2_finish 29 = .ok (.aload_n 0, 1) := by decide +kernel
theorem dX2_finish_30 : decode cX2_finish 30 = .ok (.getfield 30, 3) := by decide +kernel
theorem dX2_finish_33 : decode cX2_finish 33 = .ok (.iload_n 2, 1) := by decide +kernel
theorem dX2_finish_34 : decode cX2_finish 34 = .ok (.invokevirtual 173, 3) := by decide +kernel
theorem dX2_finish_37 : decode cX2_finish 37 = .ok (.aload_n 0, 1) := by decide +kernel
theorem dX2_finish_38 : decode cX2_finish 38 = .ok (.getfield 37, 3) := by decide +kernel
theorem dX2_finish_41 : decode cX2_finish 41 = .ok (.getfield 125, 3) := by decide +kernel
theorem dX2_finish_44 : decode cX2_finish 44 = .ok (.iload_n 1, 1) := by decide +kernel
theorem dX2_finish_45 : decode cX2_finish 45 = .ok (.aload_n 0, 1) := by decide +kernel
theorem dX2_finish_46 : decode cX2_finish 46 = .ok (.iload_n 2, 1) := by decide +kernel
theorem dX2_finish_47 : decode cX2_finish 47 = .ok (.invokevirtual 176, 3) := by decide +kernel
theorem dX2_finish_50 : decode cX2_finish 50 = .ok (.iload_n 3, 1) := by decide +kernel
theorem dX2_finish_51 : decode cX2_finish 51 = .ok (.invokestatic 164, 3) := by decide +kernel
theorem dX2_finish_54 : decode cX2_finish 54 = .ok (.iastore, 1) := by decide +kernel
theorem dX2_finish_55 : decode cX2_finish 55 = .ok (.aload_n 0, 1) := by decide +kernel
theorem dX2_finish_56 : decode cX2_finish 56 = .ok (.getfield 37, 3) := by decide +kernel
theorem dX2_finish_59 : decode cX2_finish 59 = .ok (.getfield 81, 3) := by decide +kernel
theorem dX2_finish_62 : decode cX2_finish 62 = .ok (.iload_n 1, 1) := by decide +kernel
theorem dX2_finish_63 : decode cX2_finish 63 = .ok (.iconst 4, 1) := by decide +kernel
theorem dX2_finish_64 : decode cX2_finish 64 = .ok (.iastore, 1) := by decide +kernel
theorem dX2_finish_65 : decode cX2_finish 65 = .ok (.aload_n 0, 1) := by decide +kernel
theorem dX2_finish_66 : decode cX2_finish 66 = .ok (.getfield 37, 3) := by decide +kernel
theorem dX2_finish_69 : decode cX2_finish 69 = .ok (.getfield 75, 3) := by decide +kernel
theorem dX2_finish_72 : decode cX2_finish 72 = .ok (.iload_n 1, 1) := by decide +kernel
theorem dX2_finish_73 : decode cX2_finish 73 = .ok (.aload_n 0, 1) := by decide +kernel
theorem dX2_finish_74 : decode cX2_finish 74 = .ok (.getfield 9, 3) := by decide +kernel
theorem dX2_finish_77 : decode cX2_finish 77 = .ok (.iastore, 1) := by decide +kernel
theorem dX2_finish_78 : decode cX2_finish 78 = .ok (.aload_n 0, 1) := by decide +kernel
theorem dX2_finish_79 : decode cX2_finish 79 = .ok (.getfield 44, 3) := by decide +kernel
theorem dX2_finish_82 : decode cX2_finish 82 = .ok (.dup, 1) := by decide +kernel
theorem dX2_finish_83 : decode cX2_finish 83 = .ok (.getfield 179, 3) := by decide +kernel
theorem dX2_finish_86 : decode cX2_finish 86 = .ok (.aload_n 0, 1) := by decide +kernel
theorem dX2_finish_87 : decode cX2_finish 87 = .ok (.getfield 30, 3) := by decide +kernel
theorem dX2_finish_90 : decode cX2_finish 90 = .ok (.iload_n 2, 1) := by decide +kernel
theorem dX2_finish_91 : decode cX2_finish 91 = .ok (.invokevirtual 64, 3) := by decide +kernel
theorem dX2_finish_94 : decode cX2_finish 94 = .ok (.iadd, 1) := by decide +kernel
theorem dX2_finish_95 : decode cX2_finish 95 = .ok (.putfield 179, 3) := by decide +kernel
theorem dX2_finish_98 : decode cX2_finish 98 = .ok (.aload_n 0, 1) := by decide +kernel
theorem dX2_finish_99 : decode cX2_finish 99 = .ok (.getfield 44, 3) := by decide +kernel
theorem dX2_finish_102 : decode cX2_finish 102 = .ok (.dup, 1) := by decide +kernel
theorem dX2_finish_103 : decode cX2_finish 103 = .ok (.getfield 182, 3) := by decide +kernel
theorem dX2_finish_106 : decode cX2_finish 106 = .ok (.aload_n 0, 1) := by decide +kernel
theorem dX2_finish_107 : decode cX2_finish 107 = .ok (.getfield 9, 3) := by decide +kernel
theorem dX2_finish_110 : decode cX2_finish 110 = .ok (.aload_n 0, 1) := by decide +kernel
theorem dX2_finish_111 : decode cX2_finish 111 = .ok (.getfield 37, 3) := by decide +kernel
theorem dX2_finish_114 : decode cX2_finish 114 = .ok (.getfield 185, 3) := by decide +kernel
theorem dX2_finish_117 : decode cX2_finish 117 = .ok (.iload_n 1, 1) := by decide +kernel
theorem dX2_finish_118 : decode cX2_finish 118 = .ok (.iaload, 1) := by decide +kernel
theorem dX2_finish_119 : decode cX2_finish 119 = .ok (.isub, 1) := by decide +kernel
theorem dX2_finish_120 : decode cX2_finish 120 = .ok (.iadd, 1) := by decide +kernel
theorem dX2_finish_121 : decode cX2_finish 121 = .ok (.putfield 182, 3) := by decide +kernel
theorem dX2_finish_124 : decode cX2_finish 124 = .ok (.aload_n 0, 1) := by decide +kernel
theorem dX2_finish_125 : decode cX2_finish 125 = .ok (.getfield 44, 3) := by decide +kernel
theorem dX2_finish_128 : decode cX2_finish 128 = .ok (.dup, 1) := by decide +kernel
theorem dX2_finish_129 : decode cX2_finish 129 = .ok (.getfield 188, 3) := by decide +kernel
theorem dX2_finish_132 : decode cX2_finish 132 = .ok (.iconst 1, 1) := by decide +kernel
theorem dX2_finish_133 : decode cX2_finish 133 = .ok (.iadd, 1) := by decide +kernel
theorem dX2_finish_134 : decode cX2_finish 134 = .ok (.putfield 188, 3) := by decide +kernel
theorem dX2_finish_137 : decode cX2_finish 137 = .ok (.return_, 1) := by decide +kernel
theorem dX2_sellUnclaimed_0 : decode cX2_sellUnclaimed 0 = .ok (.iconst 0, 1) := by decide +kernel
theorem dX2_sellUnclaimed_1 : decode cX2_sellUnclaimed 1 = .ok (.istore_n 1, 1) := by decide +kernel
theorem dX2_sellUnclaimed_2 : decode cX2_sellUnclaimed 2 = .ok (.iload_n 1, 1) := by decide +kernel
theorem dX2_sellUnclaimed_3 : decode cX2_sellUnclaimed 3 = .ok (.aload_n 0, 1) := by decide +kernel
theorem dX2_sellUnclaimed_4 : decode cX2_sellUnclaimed 4 = .ok (.getfield 37, 3) := by decide +kernel
theorem dX2_sellUnclaimed_7 : decode cX2_sellUnclaimed 7 = .ok (.getfield 78, 3) := by decide +kernel
theorem dX2_sellUnclaimed_10 : decode cX2_sellUnclaimed 10 = .ok (.if_icmp .ge 94, 3) := by decide +kernel
theorem dX2_sellUnclaimed_13 : decode cX2_sellUnclaimed 13 = .ok (.aload_n 0, 1) := by decide +kernel
theorem dX2_sellUnclaimed_14 : decode cX2_sellUnclaimed 14 = .ok (.getfield 37, 3) := by decide +kernel
theorem dX2_sellUnclaimed_17 : decode cX2_sellUnclaimed 17 = .ok (.iload_n 1, 1) := by decide +kernel
theorem dX2_sellUnclaimed_18 : decode cX2_sellUnclaimed 18 = .ok (.invokevirtual 191, 3) := by decide +kernel
theorem dX2_sellUnclaimed_21 : decode cX2_sellUnclaimed 21 = .ok (.ifCond .eq 77, 3) := by decide +kernel
theorem dX2_sellUnclaimed_24 : decode cX2_sellUnclaimed 24 = .ok (.aload_n 0, 1) := by decide +kernel
theorem dX2_sellUnclaimed_25 : decode cX2_sellUnclaimed 25 = .ok (.getfield 9, 3) := by decide +kernel
theorem dX2_sellUnclaimed_28 : decode cX2_sellUnclaimed 28 = .ok (.aload_n 0, 1) := by decide +kernel
theorem dX2_sellUnclaimed_29 : decode cX2_sellUnclaimed 29 = .ok (.getfield 37, 3) := by decide +kernel
theorem dX2_sellUnclaimed_32 : decode cX2_sellUnclaimed 32 = .ok (.getfield 75, 3) := by decide +kernel
theorem dX2_sellUnclaimed_35 : decode cX2_sellUnclaimed 35 = .ok (.iload_n 1, 1) := by decide +kernel
theorem dX2_sellUnclaimed_36 : decode cX2_sellUnclaimed 36 = .ok (.iaload, 1) := by decide +kernel
theorem dX2_sellUnclaimed_37 : decode cX2_sellUnclaimed 37 = .ok (.isub, 1) := by decide +kernel
theorem dX2_sellUnclaimed_38 : decode cX2_sellUnclaimed 38 = .ok (.aload_n 0, 1) := by decide +kernel
theorem dX2_sellUnclaimed_39 : decode cX2_sellUnclaimed 39 = .ok (.getfield 23, 3) := by decide +kernel
theorem dX2_sellUnclaimed_42 : decode cX2_sellUnclaimed 42 = .ok (.iconst 3, 1) := by decide +kernel
theorem dX2_sellUnclaimed_43 : decode cX2_sellUnclaimed 43 = .ok (.iaload, 1) := by decide +kernel
theorem dX2_sellUnclaimed_44 : decode cX2_sellUnclaimed 44 = .ok (.if_icmp .lt 54, 3) := by decide +kernel
theorem dX2_sellUnclaimed_47 : decode cX2_sellUnclaimed 47 = .ok (.aload_n 0, 1) := by decide +kernel
theorem dX2_sellUnclaimed_48 : decode cX2_sellUnclaimed 48 = .ok (.getfield 44, 3) := by decide +kernel
theorem dX2_sellUnclaimed_51 : decode cX2_sellUnclaimed 51 = .ok (.dup, 1) := by decide +kernel
theorem dX2_sellUnclaimed_52 : decode cX2_sellUnclaimed 52 = .ok (.getfield 195, 3) := by decide +kernel
theorem dX2_sellUnclaimed_55 : decode cX2_sellUnclaimed 55 = .ok (.aload_n 0, 1) := by decide +kernel
theorem dX2_sellUnclaimed_56 : decode cX2_sellUnclaimed 56 = .ok (.getfield 37, 3) := by decide +kernel
theorem dX2_sellUnclaimed_59 : decode cX2_sellUnclaimed 59 = .ok (.getfield 125, 3) := by decide +kernel
theorem dX2_sellUnclaimed_62 : decode cX2_sellUnclaimed 62 = .ok (.iload_n 1, 1) := by decide +kernel
theorem dX2_sellUnclaimed_63 : decode cX2_sellUnclaimed 63 = .ok (.iaload, 1) := by decide +kernel
theorem dX2_sellUnclaimed_64 : decode cX2_sellUnclaimed 64 = .ok (.i2f, 1) := by decide +kernel
theorem dX2_sellUnclaimed_65 : decode cX2_sellUnclaimed 65 = .ok (.aload_n 0, 1) := by decide +kernel
theorem dX2_sellUnclaimed_66 : decode cX2_sellUnclaimed 66 = .ok (.getfield 19, 3) := by decide +kernel
theorem dX2_sellUnclaimed_69 : decode cX2_sellUnclaimed 69 = .ok (.iconst 3, 1) := by decide +kernel
theorem dX2_sellUnclaimed_70 : decode cX2_sellUnclaimed 70 = .ok (.faload, 1) := by decide +kernel
theorem dX2_sellUnclaimed_71 : decode cX2_sellUnclaimed 71 = .ok (.fmul, 1) := by decide +kernel
theorem dX2_sellUnclaimed_72 : decode cX2_sellUnclaimed 72 = .ok (.f2i, 1) := by decide +kernel
theorem dX2_sellUnclaimed_73 : decode cX2_sellUnclaimed 73 = .ok (.iadd, 1) := by decide +kernel
theorem dX2_sellUnclaimed_74 : decode cX2_sellUnclaimed 74 = .ok (.putfield 195, 3) := by decide +kernel
theorem dX2_sellUnclaimed_77 : decode cX2_sellUnclaimed 77 = .ok (.aload_n 0, 1) := by decide +kernel
theorem dX2_sellUnclaimed_78 : decode cX2_sellUnclaimed 78 = .ok (.getfield 37, 3) := by decide +kernel
theorem dX2_sellUnclaimed_81 : decode cX2_sellUnclaimed 81 = .ok (.getfield 81, 3) := by decide +kernel
theorem dX2_sellUnclaimed_84 : decode cX2_sellUnclaimed 84 = .ok (.iload_n 1, 1) := by decide +kernel
theorem dX2_sellUnclaimed_85 : decode cX2_sellUnclaimed 85 = .ok (.bipush 7, 2) := by decide +kernel
theorem dX2_sellUnclaimed_87 : decode cX2_sellUnclaimed 87 = .ok (.iastore, 1) := by decide +kernel
theorem dX2_sellUnclaimed_88 : decode cX2_sellUnclaimed 88 = .ok (.aload_n 0, 1) := by decide +kernel
theorem dX2_sellUnclaimed_89 : decode cX2_sellUnclaimed 89 = .ok (.getfield 37, 3) := by decide +kernel
theorem dX2_sellUnclaimed_92 : decode cX2_sellUnclaimed 92 = .ok (.getfield 131, 3) := by decide +kernel
theorem dX2_sellUnclaimed_95 : decode cX2_sellUnclaimed 95 = .ok (.iload_n 1, 1) := by decide +kernel
theorem dX2_sellUnclaimed_96 : decode cX2_sellUnclaimed 96 = .ok (.iconst 0, 1) := by decide +kernel
theorem dX2_sellUnclaimed_97 : decode cX2_sellUnclaimed 97 = .ok (.iastore, 1) := by decide +kernel
theorem dX2_sellUnclaimed_98 : decode cX2_sellUnclaimed 98 = .ok (.iinc 1 1, 3) := by decide +kernel
theorem dX2_sellUnclaimed_101 : decode cX2_sellUnclaimed 101 = .ok (.goto (-99), 3) := by decide +kernel
theorem dX2_sellUnclaimed_104 : decode cX2_sellUnclaimed 104 = .ok (.return_, 1) := by decide +kernel
theorem dX3_init_0 : decode cX3_init 0 = .ok (.aload_n 0, 1) := by decide +kernel
theorem dX3_init_1 : decode cX3_init 1 = .ok (.invokespecial 3, 3) := by decide +kernel
theorem dX3_init_4 : decode cX3_init 4 = .ok (.aload_n 0, 1) := by decide +kernel
theorem dX3_init_5 : decode cX3_init 5 = .ok (.iconst 0, 1) := by decide +kernel
theorem dX3_init_6 : decode cX3_init 6 = .ok (.putfield 9, 3) := by decide +kernel
theorem dX3_init_9 : decode cX3_init 9 = .ok (.aload_n 0, 1) := by decide +kernel
theorem dX3_init_10 : decode cX3_init 10 = .ok (.iconst 4, 1) := by decide +kernel
theorem dX3_init_11 : decode cX3_init 11 = .ok (.anewarray 15, 3) := by decide +kernel
theorem dX3_init_14 : decode cX3_init 14 = .ok (.putfield 17, 3) := by decide +kernel
theorem dX3_init_17 : decode cX3_init 17 = .ok (.iconst 0, 1) := by decide +kernel
theorem dX3_init_18 : decode cX3_init 18 = .ok (.istore_n 1, 1) := by decide +kernel
theorem dX3_init_19 : decode cX3_init 19 = .ok (.iload_n 1, 1) := by decide +kernel
theorem dX3_init_20 : decode cX3_init 20 = .ok (.iconst 4, 1) := by decide +kernel
theorem dX3_init_21 : decode cX3_init 21 = .ok (.if_icmp .ge 22, 3) := by decide +kernel
theorem dX3_init_24 : decode cX3_init 24 = .ok (.aload_n 0, 1) := by decide +kernel
theorem dX3_init_25 : decode cX3_init 25 = .ok (.getfield 17, 3) := by decide +kernel
theorem dX3_init_28 : decode cX3_init 28 = .ok (.iload_n 1, 1) := by decide +kernel
theorem dX3_init_29 : decode cX3_init 29 = .ok (.new 15, 3) := by decide +kernel
theorem dX3_init_32 : decode cX3_init 32 = .ok (.dup, 1) := by decide +kernel
theorem dX3_init_33 : decode cX3_init 33 = .ok (.invokespecial 21, 3) := by decide +kernel
theorem dX3_init_36 : decode cX3_init 36 = .ok (.aastore, 1) := by decide +kernel
theorem dX3_init_37 : decode cX3_init 37 = .ok (.iinc 1 1, 3) := by decide +kernel
theorem dX3_init_40 : decode cX3_init 40 = .ok (.goto (-21), 3) := by decide +kernel
theorem dX3_init_43 : decode cX3_init 43 = .ok (.return_, 1) := by decide +kernel
theorem dX3_record_0 : decode cX3_record 0 = .ok (.aload_n 0, 1) := by decide +kernel
theorem dX3_record_1 : decode cX3_record 1 = .ok (.getfield 9, 3) := by decide +kernel
theorem dX3_record_4 : decode cX3_record 4 = .ok (.iconst 4, 1) := by decide +kernel
theorem dX3_record_5 : decode cX3_record 5 = .ok (.if_icmp .lt 7, 3) := by decide +kernel
theorem dX3_record_8 : decode cX3_record 8 = .ok (.aload_n 0, 1) := by decide +kernel
theorem dX3_record_9 : decode cX3_record 9 = .ok (.invokevirtual 22, 3) := by decide +kernel
theorem dX3_record_12 : decode cX3_record 12 = .ok (.aload_n 0, 1) := by decide +kernel
theorem dX3_record_13 : decode cX3_record 13 = .ok (.getfield 17, 3) := by decide +kernel
theorem dX3_record_16 : decode cX3_record 16 = .ok (.aload_n 0, 1) := by decide +kernel
theorem dX3_record_17 : decode cX3_record 17 = .ok (.getfield 9, 3) := by decide +kernel
theorem dX3_record_20 : decode cX3_record 20 = .ok (.aaload, 1) := by decide +kernel
theorem dX3_record_21 : decode cX3_record 21 = .ok (.aload_n 1, 1) := by decide +kernel
theorem dX3_record_22 : decode cX3_record 22 = .ok (.invokevirtual 25, 3) := by decide +kernel
theorem dX3_record_25 : decode cX3_record 25 = .ok (.aload_n 0, 1) := by decide +kernel
theorem dX3_record_26 : decode cX3_record 26 = .ok (.dup, 1) := by decide +kernel
theorem dX3_record_27 : decode cX3_record 27 = .ok (.getfield 9, 3) := by decide +kernel
theorem dX3_record_30 : decode cX3_record 30 = .ok (.iconst 1, 1) := by decide +kernel
theorem dX3_record_31 : decode cX3_record 31 = .ok (.iadd, 1) := by decide +kernel
theorem dX3_record_32 : decode cX3_record 32 = .ok (.putfield 9, 3) := by decide +kernel
theorem dX3_record_35 : decode cX3_record 35 = .ok (.return_, 1) := by decide +kernel
theorem dX3_dropOldest_0 : decode cX3_dropOldest 0 = .ok (.aload_n 0, 1) := by decide +kernel
theorem dX3_dropOldest_1 : decode cX3_dropOldest 1 = .ok (.getfield 17, 3) := by decide +kernel
theorem dX3_dropOldest_4 : decode cX3_dropOldest 4 = .ok (.iconst 0, 1) := by decide +kernel
theorem dX3_dropOldest_5 : decode cX3_dropOldest 5 = .ok (.aaload, 1) := by decide +kernel
theorem dX3_dropOldest_6 : decode cX3_dropOldest 6 = .ok (.astore_n 1, 1) := by decide +kernel
theorem dX3_dropOldest_7 : decode cX3_dropOldest 7 = .ok (.iconst 1, 1) := by decide +kernel
theorem dX3_dropOldest_8 : decode cX3_dropOldest 8 = .ok (.istore_n 2, 1) := by decide +kernel
theorem dX3_dropOldest_9 : decode cX3_dropOldest 9 = .ok (.iload_n 2, 1) := by decide +kernel
theorem dX3_dropOldest_10 : decode cX3_dropOldest 10 = .ok (.iconst 4, 1) := by decide +kernel
theorem dX3_dropOldest_11 : decode cX3_dropOldest 11 = .ok (.if_icmp .ge 23, 3) := by decide +kernel
theorem dX3_dropOldest_14 : decode cX3_dropOldest 14 = .ok (.aload_n 0, 1) := by decide +kernel
theorem dX3_dropOldest_15 : decode cX3_dropOldest 15 = .ok (.getfield 17, 3) := by decide +kernel
theorem dX3_dropOldest_18 : decode cX3_dropOldest 18 = .ok (.iload_n 2, 1) := by decide +kernel
theorem dX3_dropOldest_19 : decode cX3_dropOldest 19 = .ok (.iconst 1, 1) := by decide +kernel
theorem dX3_dropOldest_20 : decode cX3_dropOldest 20 = .ok (.isub, 1) := by decide +kernel
theorem dX3_dropOldest_21 : decode cX3_dropOldest 21 = .ok (.aload_n 0, 1) := by decide +kernel
theorem dX3_dropOldest_22 : decode cX3_dropOldest 22 = .ok (.getfield 17, 3) := by decide +kernel
theorem dX3_dropOldest_25 : decode cX3_dropOldest 25 = .ok (.iload_n 2, 1) := by decide +kernel
theorem dX3_dropOldest_26 : decode cX3_dropOldest 26 = .ok (.aaload, 1) := by decide +kernel
theorem dX3_dropOldest_27 : decode cX3_dropOldest 27 = .ok (.aastore, 1) := by decide +kernel
theorem dX3_dropOldest_28 : decode cX3_dropOldest 28 = .ok (.iinc 2 1, 3) := by decide +kernel
theorem dX3_dropOldest_31 : decode cX3_dropOldest 31 = .ok (.goto (-22), 3) := by decide +kernel
theorem dX3_dropOldest_34 : decode cX3_dropOldest 34 = .ok (.aload_n 0, 1) := by decide +kernel
theorem dX3_dropOldest_35 : decode cX3_dropOldest 35 = .ok (.getfield 17, 3) := by decide +kernel
theorem dX3_dropOldest_38 : decode cX3_dropOldest 38 = .ok (.iconst 3, 1) := by decide +kernel
theorem dX3_dropOldest_39 : decode cX3_dropOldest 39 = .ok (.aload_n 1, 1) := by decide +kernel
theorem dX3_dropOldest_40 : decode cX3_dropOldest 40 = .ok (.aastore, 1) := by decide +kernel
theorem dX3_dropOldest_41 : decode cX3_dropOldest 41 = .ok (.aload_n 0, 1) := by decide +kernel
theorem dX3_dropOldest_42 : decode cX3_dropOldest 42 = .ok (.iconst 3, 1) := by decide +kernel
theorem dX3_dropOldest_43 : decode cX3_dropOldest 43 = .ok (.putfield 9, 3) := by decide +kernel
theorem dX3_dropOldest_46 : decode cX3_dropOldest 46 = .ok (.return_, 1) := by decide +kernel
theorem dX3_giveBack_0 : decode cX3_giveBack 0 = .ok (.aload_n 0, 1) := by decide +kernel
theorem dX3_giveBack_1 : decode cX3_giveBack 1 = .ok (.getfield 9, 3) := by decide +kernel
theorem dX3_giveBack_4 : decode cX3_giveBack 4 = .ok (.ifCond .gt 4, 3) := by decide +kernel
theorem dX3_giveBack_7 : decode cX3_giveBack 7 = .ok (.return_, 1) := by decide +kernel
theorem dX3_giveBack_8 : decode cX3_giveBack 8 = .ok (.aload_n 0, 1) := by decide +kernel
theorem dX3_giveBack_9 : decode cX3_giveBack 9 = .ok (.dup, 1) := by decide +kernel
theorem dX3_giveBack_10 : decode cX3_giveBack 10 = .ok (.getfield 9, 3) := by decide +kernel
theorem dX3_giveBack_13 : decode cX3_giveBack 13 = .ok (.iconst 1, 1) := by decide +kernel
theorem dX3_giveBack_14 : decode cX3_giveBack 14 = .ok (.isub, 1) := by decide +kernel
theorem dX3_giveBack_15 : decode cX3_giveBack 15 = .ok (.putfield 9, 3) := by decide +kernel
theorem dX3_giveBack_18 : decode cX3_giveBack 18 = .ok (.aload_n 1, 1) := by decide +kernel
theorem dX3_giveBack_19 : decode cX3_giveBack 19 = .ok (.aload_n 0, 1) := by decide +kernel
theorem dX3_giveBack_20 : decode cX3_giveBack 20 = .ok (.getfield 17, 3) := by decide +kernel
theorem dX3_giveBack_23 : decode cX3_giveBack 23 = .ok (.aload_n 0, 1) := by decide +kernel
theorem dX3_giveBack_24 : decode cX3_giveBack 24 = .ok (.getfield 9, 3) := by decide +kernel
theorem dX3_giveBack_27 : decode cX3_giveBack 27 = .ok (.aaload, 1) := by decide +kernel
theorem dX3_giveBack_28 : decode cX3_giveBack 28 = .ok (.invokevirtual 25, 3) := by decide +kernel
theorem dX3_giveBack_31 : decode cX3_giveBack 31 = .ok (.return_, 1) := by decide +kernel
theorem dX4_init_0 : decode cX4_init 0 = .ok (.aload_n 0, 1) := by decide +kernel
theorem dX4_init_1 : decode cX4_init 1 = .ok (.invokespecial 3, 3) := by decide +kernel
theorem dX4_init_4 : decode cX4_init 4 = .ok (.aload_n 0, 1) := by decide +kernel
theorem dX4_init_5 : decode cX4_init 5 = .ok (.iconst 0, 1) := by decide +kernel
theorem dX4_init_6 : decode cX4_init 6 = .ok (.putfield 9, 3) := by decide +kernel
theorem dX4_init_9 : decode cX4_init 9 = .ok (.aload_n 0, 1) := by decide +kernel
theorem dX4_init_10 : decode cX4_init 10 = .ok (.bipush 20, 2) := by decide +kernel
theorem dX4_init_12 : decode cX4_init 12 = .ok (.newarray .int, 2) := by decide +kernel
theorem dX4_init_14 : decode cX4_init 14 = .ok (.putfield 15, 3) := by decide +kernel
theorem dX4_init_17 : decode cX4_init 17 = .ok (.aload_n 0, 1) := by decide +kernel
theorem dX4_init_18 : decode cX4_init 18 = .ok (.bipush 20, 2) := by decide +kernel
theorem dX4_init_20 : decode cX4_init 20 = .ok (.newarray .int, 2) := by decide +kernel
theorem dX4_init_22 : decode cX4_init 22 = .ok (.putfield 19, 3) := by decide +kernel
theorem dX4_init_25 : decode cX4_init 25 = .ok (.aload_n 0, 1) := by decide +kernel
theorem dX4_init_26 : decode cX4_init 26 = .ok (.bipush 20, 2) := by decide +kernel
theorem dX4_init_28 : decode cX4_init 28 = .ok (.newarray .int, 2) := by decide +kernel
theorem dX4_init_30 : decode cX4_init 30 = .ok (.putfield 22, 3) := by decide +kernel
theorem dX4_init_33 : decode cX4_init 33 = .ok (.aload_n 0, 1) := by decide +kernel
theorem dX4_init_34 : decode cX4_init 34 = .ok (.bipush 20, 2) := by decide +kernel
theorem dX4_init_36 : decode cX4_init 36 = .ok (.newarray .int, 2) := by decide +kernel
theorem dX4_init_38 : decode cX4_init 38 = .ok (.putfield 25, 3) := by decide +kernel
theorem dX4_init_41 : decode cX4_init 41 = .ok (.aload_n 0, 1) := by decide +kernel
theorem dX4_init_42 : decode cX4_init 42 = .ok (.bipush 20, 2) := by decide +kernel
theorem dX4_init_44 : decode cX4_init 44 = .ok (.newarray .int, 2) := by decide +kernel
theorem dX4_init_46 : decode cX4_init 46 = .ok (.putfield 28, 3) := by decide +kernel
theorem dX4_init_49 : decode cX4_init 49 = .ok (.aload_n 0, 1) := by decide +kernel
theorem dX4_init_50 : decode cX4_init 50 = .ok (.bipush 20, 2) := by decide +kernel
theorem dX4_init_52 : decode cX4_init 52 = .ok (.newarray .int, 2) := by decide +kernel
theorem dX4_init_54 : decode cX4_init 54 = .ok (.putfield 31, 3) := by decide +kernel
theorem dX4_init_57 : decode cX4_init 57 = .ok (.aload_n 0, 1) := by decide +kernel
theorem dX4_init_58 : decode cX4_init 58 = .ok (.bipush 20, 2) := by decide +kernel
theorem dX4_init_60 : decode cX4_init 60 = .ok (.newarray .int, 2) := by decide +kernel
theorem dX4_init_62 : decode cX4_init 62 = .ok (.putfield 34, 3) := by decide +kernel
theorem dX4_init_65 : decode cX4_init 65 = .ok (.aload_n 0, 1) := by decide +kernel
theorem dX4_init_66 : decode cX4_init 66 = .ok (.bipush 20, 2) := by decide +kernel
theorem dX4_init_68 : decode cX4_init 68 = .ok (.newarray .int, 2) := by decide +kernel
theorem dX4_init_70 : decode cX4_init 70 = .ok (.putfield 37, 3) := by decide +kernel
theorem dX4_init_73 : decode cX4_init 73 = .ok (.return_, 1) := by decide +kernel
theorem dX4_copyFrom_0 : decode cX4_copyFrom 0 = .ok (.aload_n 0, 1) := by decide +kernel
theorem dX4_copyFrom_1 : decode cX4_copyFrom 1 = .ok (.aload_n 1, 1) := by decide +kernel
theorem dX4_copyFrom_2 : decode cX4_copyFrom 2 = .ok (.getfield 9, 3) := by decide +kernel
theorem dX4_copyFrom_5 : decode cX4_copyFrom 5 = .ok (.putfield 9, 3) := by decide +kernel
theorem dX4_copyFrom_8 : decode cX4_copyFrom 8 = .ok (.aload_n 1, 1) := by decide +kernel
theorem dX4_copyFrom_9 : decode cX4_copyFrom 9 = .ok (.getfield 15, 3) := by decide +kernel
theorem dX4_copyFrom_12 : decode cX4_copyFrom 12 = .ok (.iconst 0, 1) := by decide +kernel
theorem dX4_copyFrom_13 : decode cX4_copyFrom 13 = .ok (.aload_n 0, 1) := by decide +kernel
theorem dX4_copyFrom_14 : decode cX4_copyFrom 14 = .ok (.getfield 15, 3) := by decide +kernel
theorem dX4_copyFrom_17 : decode cX4_copyFrom 17 = .ok (.iconst 0, 1) := by decide +kernel
theorem dX4_copyFrom_18 : decode cX4_copyFrom 18 = .ok (.bipush 20, 2) := by decide +kernel
theorem dX4_copyFrom_20 : decode cX4_copyFrom 20 = .ok (.invokestatic 40, 3) := by decide +kernel
theorem dX4_copyFrom_23 : decode cX4_copyFrom 23 = .ok (.aload_n 1, 1) := by decide +kernel
theorem dX4_copyFrom_24 : decode cX4_copyFrom 24 = .ok (.getfield 19, 3) := by decide +kernel
theorem dX4_copyFrom_27 : decode cX4_copyFrom 27 = .ok (.iconst 0, 1) := by decide +kernel
theorem dX4_copyFrom_28 : decode cX4_copyFrom 28 = .ok (.aload_n 0, 1) := by decide +kernel
theorem dX4_copyFrom_29 : decode cX4_copyFrom 29 = .ok (.getfield 19, 3) := by decide +kernel
theorem dX4_copyFrom_32 : decode cX4_copyFrom 32 = .ok (.iconst 0, 1) := by decide +kernel
theorem dX4_copyFrom_33 : decode cX4_copyFrom 33 = .ok (.bipush 20, 2) := by decide +kernel
theorem dX4_copyFrom_35 : decode cX4_copyFrom 35 = .ok (.invokestatic 40, 3) := by decide +kernel
theorem dX4_copyFrom_38 : decode cX4_copyFrom 38 = .ok (.aload_n 1, 1) := by decide +kernel
theorem dX4_copyFrom_39 : decode cX4_copyFrom 39 = .ok (.getfield 22, 3) := by decide +kernel
theorem dX4_copyFrom_42 : decode cX4_copyFrom 42 = .ok (.iconst 0, 1) := by decide +kernel
theorem dX4_copyFrom_43 : decode cX4_copyFrom 43 = .ok (.aload_n 0, 1) := by decide +kernel
theorem dX4_copyFrom_44 : decode cX4_copyFrom 44 = .ok (.getfield 22, 3) := by decide +kernel
theorem dX4_copyFrom_47 : decode cX4_copyFrom 47 = .ok (.iconst 0, 1) := by decide +kernel
theorem dX4_copyFrom_48 : decode cX4_copyFrom 48 = .ok (.bipush 20, 2) := by decide +kernel
theorem dX4_copyFrom_50 : decode cX4_copyFrom 50 = .ok (.invokestatic 40, 3) := by decide +kernel
theorem dX4_copyFrom_53 : decode cX4_copyFrom 53 = .ok (.aload_n 1, 1) := by decide +kernel
theorem dX4_copyFrom_54 : decode cX4_copyFrom 54 = .ok (.getfield 25, 3) := by decide +kernel
theorem dX4_copyFrom_57 : decode cX4_copyFrom 57 = .ok (.iconst 0, 1) := by decide +kernel
theorem dX4_copyFrom_58 : decode cX4_copyFrom 58 = .ok (.aload_n 0, 1) := by decide +kernel
theorem dX4_copyFrom_59 : decode cX4_copyFrom 59 = .ok (.getfield 25, 3) := by decide +kernel
theorem dX4_copyFrom_62 : decode cX4_copyFrom 62 = .ok (.iconst 0, 1) := by decide +kernel
theorem dX4_copyFrom_63 : decode cX4_copyFrom 63 = .ok (.bipush 20, 2) := by decide +kernel
theorem dX4_copyFrom_65 : decode cX4_copyFrom 65 = .ok (.invokestatic 40, 3) := by decide +kernel
theorem dX4_copyFrom_68 : decode cX4_copyFrom 68 = .ok (.aload_n 1, 1) := by decide +kernel
theorem dX4_copyFrom_69 : decode cX4_copyFrom 69 = .ok (.getfield 28, 3) := by decide +kernel
theorem dX4_copyFrom_72 : decode cX4_copyFrom 72 = .ok (.iconst 0, 1) := by decide +kernel
theorem dX4_copyFrom_73 : decode cX4_copyFrom 73 = .ok (.aload_n 0, 1) := by decide +kernel
theorem dX4_copyFrom_74 : decode cX4_copyFrom 74 = .ok (.getfield 28, 3) := by decide +kernel
theorem dX4_copyFrom_77 : decode cX4_copyFrom 77 = .ok (.iconst 0, 1) := by decide +kernel
theorem dX4_copyFrom_78 : decode cX4_copyFrom 78 = .ok (.bipush 20, 2) := by decide +kernel
theorem dX4_copyFrom_80 : decode cX4_copyFrom 80 = .ok (.invokestatic 40, 3) := by decide +kernel
theorem dX4_copyFrom_83 : decode cX4_copyFrom 83 = .ok (.aload_n 1, 1) := by decide +kernel
theorem dX4_copyFrom_84 : decode cX4_copyFrom 84 = .ok (.getfield 31, 3) := by decide +kernel
theorem dX4_copyFrom_87 : decode cX4_copyFrom 87 = .ok (.iconst 0, 1) := by decide +kernel
theorem dX4_copyFrom_88 : decode cX4_copyFrom 88 = .ok (.aload_n 0, 1) := by decide +kernel
theorem dX4_copyFrom_89 : decode cX4_copyFrom 89 = .ok (.getfield 31, 3) := by decide +kernel
theorem dX4_copyFrom_92 : decode cX4_copyFrom 92 = .ok (.iconst 0, 1) := by decide +kernel
theorem dX4_copyFrom_93 : decode cX4_copyFrom 93 = .ok (.bipush 20, 2) := by decide +kernel
theorem dX4_copyFrom_95 : decode cX4_copyFrom 95 = .ok (.invokestatic 40, 3) := by decide +kernel
theorem dX4_copyFrom_98 : decode cX4_copyFrom 98 = .ok (.aload_n 1, 1) := by decide +kernel
theorem dX4_copyFrom_99 : decode cX4_copyFrom 99 = .ok (.getfield 34, 3) := by decide +kernel
theorem dX4_copyFrom_102 : decode cX4_copyFrom 102 = .ok (.iconst 0, 1) := by decide +kernel
theorem dX4_copyFrom_103 : decode cX4_copyFrom 103 = .ok (.aload_n 0, 1) := by decide +kernel
theorem dX4_copyFrom_104 : decode cX4_copyFrom 104 = .ok (.getfield 34, 3) := by decide +kernel
theorem dX4_copyFrom_107 : decode cX4_copyFrom 107 = .ok (.iconst 0, 1) := by decide +kernel
theorem dX4_copyFrom_108 : decode cX4_copyFrom 108 = .ok (.bipush 20, 2) := by decide +kernel
theorem dX4_copyFrom_110 : decode cX4_copyFrom 110 = .ok (.invokestatic 40, 3) := by decide +kernel
theorem dX4_copyFrom_113 : decode cX4_copyFrom 113 = .ok (.aload_n 1, 1) := by decide +kernel
theorem dX4_copyFrom_114 : decode cX4_copyFrom 114 = .ok (.getfield 37, 3) := by decide +kernel
theorem dX4_copyFrom_117 : decode cX4_copyFrom 117 = .ok (.iconst 0, 1) := by decide +kernel
theorem dX4_copyFrom_118 : decode cX4_copyFrom 118 = .ok (.aload_n 0, 1) := by decide +kernel
theorem dX4_copyFrom_119 : decode cX4_copyFrom 119 = .ok (.getfield 37, 3) := by decide +kernel
theorem dX4_copyFrom_122 : decode cX4_copyFrom 122 = .ok (.iconst 0, 1) := by decide +kernel
theorem dX4_copyFrom_123 : decode cX4_copyFrom 123 = .ok (.bipush 20, 2) := by decide +kernel
theorem dX4_copyFrom_125 : decode cX4_copyFrom 125 = .ok (.invokestatic 40, 3) := by decide +kernel
theorem dX4_copyFrom_128 : decode cX4_copyFrom 128 = .ok (.return_, 1) := by decide +kernel
theorem dX4_add_0 : decode cX4_add 0 = .ok (.aload_n 0, 1) := by decide +kernel
theorem dX4_add_1 : decode cX4_add 1 = .ok (.getfield 9, 3) := by decide +kernel
theorem dX4_add_4 : decode cX4_add 4 = .ok (.bipush 20, 2) := by decide +kernel
theorem dX4_add_6 : decode cX4_add 6 = .ok (.if_icmp .lt 6, 3) := by decide +kernel
theorem dX4_add_9 : decode cX4_add 9 = .ok (.bipush (-3), 2) := by decide +kernel
theorem dX4_add_11 : decode cX4_add 11 = .ok (.ireturn, 1) := by decide +kernel
theorem dX4_add_12 : decode cX4_add 12 = .ok (.aload_n 0, 1) := by decide +kernel
theorem dX4_add_13 : decode cX4_add 13 = .ok (.getfield 9, 3) := by decide +kernel
theorem dX4_add_16 : decode cX4_add 16 = .ok (.istore_n 3, 1) := by decide +kernel
theorem dX4_add_17 : decode cX4_add 17 = .ok (.aload_n 0, 1) := by decide +kernel
theorem dX4_add_18 : decode cX4_add 18 = .ok (.getfield 15, 3) := by decide +kernel
theorem dX4_add_21 : decode cX4_add 21 = .ok (.iload_n 3, 1) := by decide +kernel
theorem dX4_add_22 : decode cX4_add 22 = .ok (.iload_n 1, 1) := by decide +kernel
theorem dX4_add_23 : decode cX4_add 23 = .ok (.iastore, 1) := by decide +kernel
theorem dX4_add_24 : decode cX4_add 24 = .ok (.aload_n 0, 1) := by decide +kernel
theorem dX4_add_25 : decode cX4_add 25 = .ok (.getfield 19, 3) := by decide +kernel
theorem dX4_add_28 : decode cX4_add 28 = .ok (.iload_n 3, 1) := by decide +kernel
theorem dX4_add_29 : decode cX4_add 29 = .ok (.iload_n 2, 1) := by decide +kernel
theorem dX4_add_30 : decode cX4_add 30 = .ok (.iastore, 1) := by decide +kernel
theorem dX4_add_31 : decode cX4_add 31 = .ok (.aload_n 0, 1) := by decide +kernel
theorem dX4_add_32 : decode cX4_add 32 = .ok (.getfield 22, 3) := by decide +kernel
theorem dX4_add_35 : decode cX4_add 35 = .ok (.iload_n 3, 1) := by decide +kernel
theorem dX4_add_36 : decode cX4_add 36 = .ok (.iconst 0, 1) := by decide +kernel
theorem dX4_add_37 : decode cX4_add 37 = .ok (.iastore, 1) := by decide +kernel
theorem dX4_add_38 : decode cX4_add 38 = .ok (.aload_n 0, 1) := by decide +kernel
theorem dX4_add_39 : decode cX4_add 39 = .ok (.getfield 25, 3) := by decide +kernel
theorem dX4_add_42 : decode cX4_add 42 = .ok (.iload_n 3, 1) := by decide +kernel
theorem dX4_add_43 : decode cX4_add 43 = .ok (.iconst 0, 1) := by decide +kernel
theorem dX4_add_44 : decode cX4_add 44 = .ok (.iastore, 1) := by decide +kernel
theorem dX4_add_45 : decode cX4_add 45 = .ok (.aload_n 0, 1) := by decide +kernel
theorem dX4_add_46 : decode cX4_add 46 = .ok (.getfield 28, 3) := by decide +kernel
theorem dX4_add_49 : decode cX4_add 49 = .ok (.iload_n 3, 1) := by decide +kernel
theorem dX4_add_50 : decode cX4_add 50 = .ok (.iconst 0, 1) := by decide +kernel
theorem dX4_add_51 : decode cX4_add 51 = .ok (.iastore, 1) := by decide +kernel
theorem dX4_add_52 : decode cX4_add 52 = .ok (.aload_n 0, 1) := by decide +kernel
theorem dX4_add_53 : decode cX4_add 53 = .ok (.getfield 31, 3) := by decide +kernel
theorem dX4_add_56 : decode cX4_add 56 = .ok (.iload_n 3, 1) := by decide +kernel
theorem dX4_add_57 : decode cX4_add 57 = .ok (.iconst 0, 1) := by decide +kernel
theorem dX4_add_58 : decode cX4_add 58 = .ok (.iastore, 1) := by decide +kernel
theorem dX4_add_59 : decode cX4_add 59 = .ok (.aload_n 0, 1) := by decide +kernel
theorem dX4_add_60 : decode cX4_add 60 = .ok (.getfield 34, 3) := by decide +kernel
theorem dX4_add_63 : decode cX4_add 63 = .ok (.iload_n 3, 1) := by decide +kernel
theorem dX4_add_64 : decode cX4_add 64 = .ok (.iconst 0, 1) := by decide +kernel
theorem dX4_add_65 : decode cX4_add 65 = .ok (.iastore, 1) := by decide +kernel
theorem dX4_add_66 : decode cX4_add 66 = .ok (.aload_n 0, 1) := by decide +kernel
theorem dX4_add_67 : decode cX4_add 67 = .ok (.getfield 37, 3) := by decide +kernel
theorem dX4_add_70 : decode cX4_add 70 = .ok (.iload_n 3, 1) := by decide +kernel
theorem dX4_add_71 : decode cX4_add 71 = .ok (.bipush (-5), 2) := by decide +kernel
theorem dX4_add_73 : decode cX4_add 73 = .ok (.iastore, 1) := by decide +kernel
theorem dX4_add_74 : decode cX4_add 74 = .ok (.aload_n 0, 1) := by decide +kernel
theorem dX4_add_75 : decode cX4_add 75 = .ok (.dup, 1) := by decide +kernel
theorem dX4_add_76 : decode cX4_add 76 = .ok (.getfield 9, 3) := by decide +kernel
theorem dX4_add_79 : decode cX4_add 79 = .ok (.iconst 1, 1) := by decide +kernel
theorem dX4_add_80 : decode cX4_add 80 = .ok (.iadd, 1) := by decide +kernel
theorem dX4_add_81 : decode cX4_add 81 = .ok (.putfield 9, 3) := by decide +kernel
theorem dX4_add_84 : decode cX4_add 84 = .ok (.iload_n 3, 1) := by decide +kernel
theorem dX4_add_85 : decode cX4_add 85 = .ok (.ireturn, 1) := by decide +kernel
theorem dX4_isReady_0 : decode cX4_isReady 0 = .ok (.aload_n 0, 1) := by decide +kernel
theorem dX4_isReady_1 : decode cX4_isReady 1 = .ok (.getfield 34, 3) := by decide +kernel
theorem dX4_isReady_4 : decode cX4_isReady 4 = .ok (.iload_n 1, 1) := by decide +kernel
theorem dX4_isReady_5 : decode cX4_isReady 5 = .ok (.iaload, 1) := by decide +kernel
theorem dX4_isReady_6 : decode cX4_isReady 6 = .ok (.iconst 4, 1) := by decide +kernel
theorem dX4_isReady_7 : decode cX4_isReady 7 = .ok (.if_icmp .eq 13, 3) := by decide +kernel
theorem dX4_isReady_10 : decode cX4_isReady 10 = .ok (.aload_n 0, 1) := by decide +kernel
theorem dX4_isReady_11 : decode cX4_isReady 11 = .ok (.getfield 34, 3) := by decide +kernel
theorem dX4_isReady_14 : decode cX4_isReady 14 = .ok (.iload_n 1, 1) := by decide +kernel
theorem dX4_isReady_15 : decode cX4_isReady 15 = .ok (.iaload, 1) := by decide +kernel
theorem dX4_isReady_16 : decode cX4_isReady 16 = .ok (.iconst 5, 1) := by decide +kernel
theorem dX4_isReady_17 : decode cX4_isReady 17 = .ok (.if_icmp .ne 7, 3) := by decide +kernel
theorem dX4_isReady_20 : decode cX4_isReady 20 = .ok (.iconst 1, 1) := by decide +kernel
theorem dX4_isReady_21 : decode cX4_isReady 21 = .ok (.goto 4, 3) := by decide +kernel
theorem dX4_isReady_24 : decode cX4_isReady 24 = .ok (.iconst 0, 1) := by decide +kernel
theorem dX4_isReady_25 : decode cX4_isReady 25 = .ok (.ireturn, 1) := by decide +kernel
theorem dX4_isTurnOf_0 : decode cX4_isTurnOf 0 = .ok (.aload_n 0, 1) := by decide +kernel
theorem dX4_isTurnOf_1 : decode cX4_isTurnOf 1 = .ok (.getfield 34, 3) := by decide +kernel
theorem dX4_isTurnOf_4 : decode cX4_isTurnOf 4 = .ok (.iload_n 1, 1) := by decide +kernel
theorem dX4_isTurnOf_5 : decode cX4_isTurnOf 5 = .ok (.iaload, 1) := by decide +kernel
theorem dX4_isTurnOf_6 : decode cX4_isTurnOf 6 = .ok (.iload_n 2, 1) := by decide +kernel
theorem dX4_isTurnOf_7 : decode cX4_isTurnOf 7 = .ok (.if_icmp .ne 17, 3) := by decide +kernel
theorem dX4_isTurnOf_10 : decode cX4_isTurnOf 10 = .ok (.aload_n 0, 1) := by decide +kernel
theorem dX4_isTurnOf_11 : decode cX4_isTurnOf 11 = .ok (.getfield 31, 3) := by decide +kernel
theorem dX4_isTurnOf_14 : decode cX4_isTurnOf 14 = .ok (.iload_n 1, 1) := by decide +kernel
theorem dX4_isTurnOf_15 : decode cX4_isTurnOf 15 = .ok (.iaload, 1) := by decide +kernel
theorem dX4_isTurnOf_16 : decode cX4_isTurnOf 16 = .ok (.iload_n 3, 1) := by decide +kernel
theorem dX4_isTurnOf_17 : decode cX4_isTurnOf 17 = .ok (.if_icmp .ne 7, 3) := by decide +kernel
theorem dX4_isTurnOf_20 : decode cX4_isTurnOf 20 = .ok (.iconst 1, 1) := by decide +kernel
theorem dX4_isTurnOf_21 : decode cX4_isTurnOf 21 = .ok (.goto 4, 3) := by decide +kernel
theorem dX4_isTurnOf_24 : decode cX4_isTurnOf 24 = .ok (.iconst 0, 1) := by decide +kernel
theorem dX4_isTurnOf_25 : decode cX4_isTurnOf 25 = .ok (.ireturn, 1) := by decide +kernel
theorem dX4_inState_0 : decode cX4_inState 0 = .ok (.iconst 0, 1) := by decide +kernel
theorem dX4_inState_1 : decode cX4_inState 1 = .ok (.istore_n 2, 1) := by decide +kernel
theorem dX4_inState_2 : decode cX4_inState 2 = .ok (.iconst 0, 1) := by decide +kernel
theorem dX4_inState_3 : decode cX4_inState 3 = .ok (.istore_n 3, 1) := by decide +kernel
theorem dX4_inState_4 : decode cX4_inState 4 = .ok (.iload_n 3, 1) := by decide +kernel
theorem dX4_inState_5 : decode cX4_inState 5 = .ok (.aload_n 0, 1) := by decide +kernel
theorem dX4_inState_6 : decode cX4_inState 6 = .ok (.getfield 9, 3) := by decide +kernel
theorem dX4_inState_9 : decode cX4_inState 9 = .ok (.if_icmp .ge 22, 3) := by decide +kernel
theorem dX4_inState_12 : decode cX4_inState 12 = .ok (.aload_n 0, 1) := by decide +kernel
theorem dX4_inState_13 : decode cX4_inState 13 = .ok (.getfield 34, 3) := by decide +kernel
theorem dX4_inState_16 : decode cX4_inState 16 = .ok (.iload_n 3, 1) := by decide +kernel
theorem dX4_inState_17 : decode cX4_inState 17 = .ok (.iaload, 1) := by decide +kernel
theorem dX4_inState_18 : decode cX4_inState 18 = .ok (.iload_n 1, 1) := by decide +kernel
theorem dX4_inState_19 : decode cX4_inState 19 = .ok (.if_icmp .ne 6, 3) := by decide +kernel
theorem dX4_inState_22 : decode cX4_inState 22 = .ok (.iinc 2 1, 3) := by decide +kernel
theorem dX4_inState_25 : decode cX4_inState 25 = .ok (.iinc 3 1, 3) := by decide +kernel
theorem dX4_inState_28 : decode cX4_inState 28 = .ok (.goto (-24), 3) := by decide +kernel
theorem dX4_inState_31 : decode cX4_inState 31 = .ok (.iload_n 2, 1) := by decide +kernel
theorem dX4_inState_32 : decode cX4_inState 32 = .ok (.ireturn, 1) := by decide +kernel
theorem dX4_withLoaner_0 : decode cX4_withLoaner 0 = .ok (.iconst 0, 1) := by decide +kernel
theorem dX4_withLoaner_1 : decode cX4_withLoaner 1 = .ok (.istore_n 1, 1) := by decide +kernel
theorem dX4_withLoaner_2 : decode cX4_withLoaner 2 = .ok (.iconst 0, 1) := by decide +kernel
theorem dX4_withLoaner_3 : decode cX4_withLoaner 3 = .ok (.istore_n 2, 1) := by decide +kernel
theorem dX4_withLoaner_4 : decode cX4_withLoaner 4 = .ok (.iload_n 2, 1) := by decide +kernel
theorem dX4_withLoaner_5 : decode cX4_withLoaner 5 = .ok (.aload_n 0, 1) := by decide +kernel
theorem dX4_withLoaner_6 : decode cX4_withLoaner 6 = .ok (.getfield 9, 3) := by decide +kernel
theorem dX4_withLoaner_9 : decode cX4_withLoaner 9 = .ok (.if_icmp .ge 18, 3) := by decide +kernel
theorem dX4_withLoaner_12 : decode cX4_withLoaner 12 = .ok (.iload_n 1, 1) := by decide +kernel
theorem dX4_withLoaner_13 : decode cX4_withLoaner 13 = .ok (.aload_n 0, 1) := by decide +kernel
theorem dX4_withLoaner_14 : decode cX4_withLoaner 14 = .ok (.getfield 31, 3) := by decide +kernel
theorem dX4_withLoaner_17 : decode cX4_withLoaner 17 = .ok (.iload_n 2, 1) := by decide +kernel
theorem dX4_withLoaner_18 : decode cX4_withLoaner 18 = .ok (.iaload, 1) := by decide +kernel
theorem dX4_withLoaner_19 : decode cX4_withLoaner 19 = .ok (.iadd, 1) := by decide +kernel
theorem dX4_withLoaner_20 : decode cX4_withLoaner 20 = .ok (.istore_n 1, 1) := by decide +kernel
theorem dX4_withLoaner_21 : decode cX4_withLoaner 21 = .ok (.iinc 2 1, 3) := by decide +kernel
theorem dX4_withLoaner_24 : decode cX4_withLoaner 24 = .ok (.goto (-20), 3) := by decide +kernel
theorem dX4_withLoaner_27 : decode cX4_withLoaner 27 = .ok (.iload_n 1, 1) := by decide +kernel
theorem dX4_withLoaner_28 : decode cX4_withLoaner 28 = .ok (.ireturn, 1) := by decide +kernel
theorem dX5_init_0 : decode cX5_init 0 = .ok (.aload_n 0, 1) := by decide +kernel
theorem dX5_init_1 : decode cX5_init 1 = .ok (.invokespecial 3, 3) := by decide +kernel
theorem dX5_init_4 : decode cX5_init 4 = .ok (.aload_n 0, 1) := by decide +kernel
theorem dX5_init_5 : decode cX5_init 5 = .ok (.bipush 6, 2) := by decide +kernel
theorem dX5_init_7 : decode cX5_init 7 = .ok (.newarray .int, 2) := by decide +kernel
theorem dX5_init_9 : decode cX5_init 9 = .ok (.dup, 1) := by decide +kernel
theorem dX5_init_10 : decode cX5_init 10 = .ok (.iconst 0, 1) := by decide +kernel
theorem dX5_init_11 : decode cX5_init 11 = .ok (.bipush 100, 2) := by decide +kernel
theorem dX5_init_13 : decode cX5_init 13 = .ok (.iastore, 1) := by decide +kernel
theorem dX5_init_14 : decode cX5_init 14 = .ok (.dup, 1) := by decide +kernel
theorem dX5_init_15 : decode cX5_init 15 = .ok (.iconst 1, 1) := by decide +kernel
theorem dX5_init_16 : decode cX5_init 16 = .ok (.bipush 100, 2) := by decide +kernel
theorem dX5_init_18 : decode cX5_init 18 = .ok (.iastore, 1) := by decide +kernel
theorem dX5_init_19 : decode cX5_init 19 = .ok (.dup, 1) := by decide +kernel
theorem dX5_init_20 : decode cX5_init 20 = .ok (.iconst 2, 1) := by decide +kernel
theorem dX5_init_21 : decode cX5_init 21 = .ok (.bipush 100, 2) := by decide +kernel
theorem dX5_init_23 : decode cX5_init 23 = .ok (.iastore, 1) := by decide +kernel
theorem dX5_init_24 : decode cX5_init 24 = .ok (.dup, 1) := by decide +kernel
theorem dX5_init_25 : decode cX5_init 25 = .ok (.iconst 3, 1) := by decide +kernel
theorem dX5_init_26 : decode cX5_init 26 = .ok (.bipush 100, 2) := by decide +kernel
theorem dX5_init_28 : decode cX5_init 28 = .ok (.iastore, 1) := by decide +kernel
theorem dX5_init_29 : decode cX5_init 29 = .ok (.dup, 1) := by decide +kernel
theorem dX5_init_30 : decode cX5_init 30 = .ok (.iconst 4, 1) := by decide +kernel
theorem dX5_init_31 : decode cX5_init 31 = .ok (.bipush 100, 2) := by decide +kernel
theorem dX5_init_33 : decode cX5_init 33 = .ok (.iastore, 1) := by decide +kernel
theorem dX5_init_34 : decode cX5_init 34 = .ok (.dup, 1) := by decide +kernel
theorem dX5_init_35 : decode cX5_init 35 = .ok (.iconst 5, 1) := by decide +kernel
theorem dX5_init_36 : decode cX5_init 36 = .ok (.bipush 100, 2) := by decide +kernel
theorem dX5_init_38 : decode cX5_init 38 = .ok (.iastore, 1) := by decide +kernel
theorem dX5_init_39 : decode cX5_init 39 = .ok (.putfield 9, 3) := by decide +kernel
theorem dX5_init_42 : decode cX5_init 42 = .ok (.aload_n 0, 1) := by decide +kernel
theorem dX5_init_43 : decode cX5_init 43 = .ok (.bipush 6, 2) := by decide +kernel
theorem dX5_init_45 : decode cX5_init 45 = .ok (.newarray .int, 2) := by decide +kernel
theorem dX5_init_47 : decode cX5_init 47 = .ok (.dup, 1) := by decide +kernel
theorem dX5_init_48 : decode cX5_init 48 = .ok (.iconst 0, 1) := by decide +kernel
theorem dX5_init_49 : decode cX5_init 49 = .ok (.iconst 2, 1) := by decide +kernel
theorem dX5_init_50 : decode cX5_init 50 = .ok (.iastore, 1) := by decide +kernel
theorem dX5_init_51 : decode cX5_init 51 = .ok (.dup, 1) := by decide +kernel
theorem dX5_init_52 : decode cX5_init 52 = .ok (.iconst 1, 1) := by decide +kernel
theorem dX5_init_53 : decode cX5_init 53 = .ok (.iconst 2, 1) := by decide +kernel
theorem dX5_init_54 : decode cX5_init 54 = .ok (.iastore, 1) := by decide +kernel
theorem dX5_init_55 : decode cX5_init 55 = .ok (.dup, 1) := by decide +kernel
theorem dX5_init_56 : decode cX5_init 56 = .ok (.iconst 2, 1) := by decide +kernel
theorem dX5_init_57 : decode cX5_init 57 = .ok (.iconst 2, 1) := by decide +kernel
theorem dX5_init_58 : decode cX5_init 58 = .ok (.iastore, 1) := by decide +kernel
theorem dX5_init_59 : decode cX5_init 59 = .ok (.dup, 1) := by decide +kernel
theorem dX5_init_60 : decode cX5_init 60 = .ok (.iconst 3, 1) := by decide +kernel
theorem dX5_init_61 : decode cX5_init 61 = .ok (.iconst 2, 1) := by decide +kernel
theorem dX5_init_62 : decode cX5_init 62 = .ok (.iastore, 1) := by decide +kernel
theorem dX5_init_63 : decode cX5_init 63 = .ok (.dup, 1) := by decide +kernel
theorem dX5_init_64 : decode cX5_init 64 = .ok (.iconst 4, 1) := by decide +kernel
theorem dX5_init_65 : decode cX5_init 65 = .ok (.iconst 2, 1) := by decide +kernel
theorem dX5_init_66 : decode cX5_init 66 = .ok (.iastore, 1) := by decide +kernel
theorem dX5_init_67 : decode cX5_init 67 = .ok (.dup, 1) := by decide +kernel
theorem dX5_init_68 : decode cX5_init 68 = .ok (.iconst 5, 1) := by decide +kernel
theorem dX5_init_69 : decode cX5_init 69 = .ok (.iconst 2, 1) := by decide +kernel
theorem dX5_init_70 : decode cX5_init 70 = .ok (.iastore, 1) := by decide +kernel
theorem dX5_init_71 : decode cX5_init 71 = .ok (.putfield 15, 3) := by decide +kernel
theorem dX5_init_74 : decode cX5_init 74 = .ok (.aload_n 0, 1) := by decide +kernel
theorem dX5_init_75 : decode cX5_init 75 = .ok (.bipush 6, 2) := by decide +kernel
theorem dX5_init_77 : decode cX5_init 77 = .ok (.newarray .int, 2) := by decide +kernel
theorem dX5_init_79 : decode cX5_init 79 = .ok (.putfield 18, 3) := by decide +kernel
theorem dX5_init_82 : decode cX5_init 82 = .ok (.aload_n 0, 1) := by decide +kernel
theorem dX5_init_83 : decode cX5_init 83 = .ok (.bipush 6, 2) := by decide +kernel
theorem dX5_init_85 : decode cX5_init 85 = .ok (.newarray .int, 2) := by decide +kernel
theorem dX5_init_87 : decode cX5_init 87 = .ok (.putfield 21, 3) := by decide +kernel
theorem dX5_init_90 : decode cX5_init 90 = .ok (.aload_n 0, 1) := by decide +kernel
theorem dX5_init_91 : decode cX5_init 91 = .ok (.iconst 0, 1) := by decide +kernel
theorem dX5_init_92 : decode cX5_init 92 = .ok (.putfield 24, 3) := by decide +kernel
theorem dX5_init_95 : decode cX5_init 95 = .ok (.aload_n 0, 1) := by decide +kernel
theorem dX5_init_96 : decode cX5_init 96 = .ok (.bipush 12, 2) := by decide +kernel
theorem dX5_init_98 : decode cX5_init 98 = .ok (.newarray .int, 2) := by decide +kernel
theorem dX5_init_100 : decode cX5_init 100 = .ok (.putfield 28, 3) := by decide +kernel
theorem dX5_init_103 : decode cX5_init 103 = .ok (.aload_n 0, 1) := by decide +kernel
theorem dX5_init_104 : decode cX5_init 104 = .ok (.bipush 12, 2) := by decide +kernel
theorem dX5_init_106 : decode cX5_init 106 = .ok (.newarray .int, 2) := by decide +kernel
theorem dX5_init_108 : decode cX5_init 108 = .ok (.putfield 31, 3) := by decide +kernel
theorem dX5_init_111 : decode cX5_init 111 = .ok (.aload_n 0, 1) := by decide +kernel
theorem dX5_init_112 : decode cX5_init 112 = .ok (.bipush 12, 2) := by decide +kernel
theorem dX5_init_114 : decode cX5_init 114 = .ok (.newarray .int, 2) := by decide +kernel
theorem dX5_init_116 : decode cX5_init 116 = .ok (.putfield 34, 3) := by decide +kernel
theorem dX5_init_119 : decode cX5_init 119 = .ok (.return_, 1) := by decide +kernel
theorem dX5_copyFrom_0 : decode cX5_copyFrom 0 = .ok (.aload_n 1, 1) := by decide +kernel
theorem dX5_copyFrom_1 : decode cX5_copyFrom 1 = .ok (.getfield 9, 3) := by decide +kernel
theorem dX5_copyFrom_4 : decode cX5_copyFrom 4 = .ok (.iconst 0, 1) := by decide +kernel
theorem dX5_copyFrom_5 : decode cX5_copyFrom 5 = .ok (.aload_n 0, 1) := by decide +kernel
theorem dX5_copyFrom_6 : decode cX5_copyFrom 6 = .ok (.getfield 9, 3) := by decide +kernel
theorem dX5_copyFrom_9 : decode cX5_copyFrom 9 = .ok (.iconst 0, 1) := by decide +kernel
theorem dX5_copyFrom_10 : decode cX5_copyFrom 10 = .ok (.bipush 6, 2) := by decide +kernel
theorem dX5_copyFrom_12 : decode cX5_copyFrom 12 = .ok (.invokestatic 37, 3) := by decide +kernel
theorem dX5_copyFrom_15 : decode cX5_copyFrom 15 = .ok (.aload_n 1, 1) := by decide +kernel
theorem dX5_copyFrom_16 : decode cX5_copyFrom 16 = .ok (.getfield 15, 3) := by decide +kernel
theorem dX5_copyFrom_19 : decode cX5_copyFrom 19 = .ok (.iconst 0, 1) := by decide +kernel
theorem dX5_copyFrom_20 : decode cX5_copyFrom 20 = .ok (.aload_n 0, 1) := by decide +kernel
theorem dX5_copyFrom_21 : decode cX5_copyFrom 21 = .ok (.getfield 15, 3) := by decide +kernel
theorem dX5_copyFrom_24 : decode cX5_copyFrom 24 = .ok (.iconst 0, 1) := by decide +kernel
theorem dX5_copyFrom_25 : decode cX5_copyFrom 25 = .ok (.bipush 6, 2) := by decide +kernel
theorem dX5_copyFrom_27 : decode cX5_copyFrom 27 = .ok (.invokestatic 37, 3) := by decide +kernel
theorem dX5_copyFrom_30 : decode cX5_copyFrom 30 = .ok (.aload_n 1, 1) := by decide +kernel
theorem dX5_copyFrom_31 : decode cX5_copyFrom 31 = .ok (.getfield 18, 3) := by decide +kernel
theorem dX5_copyFrom_34 : decode cX5_copyFrom 34 = .ok (.iconst 0, 1) := by decide +kernel
theorem dX5_copyFrom_35 : decode cX5_copyFrom 35 = .ok (.aload_n 0, 1) := by decide +kernel
theorem dX5_copyFrom_36 : decode cX5_copyFrom 36 = .ok (.getfield 18, 3) := by decide +kernel
theorem dX5_copyFrom_39 : decode cX5_copyFrom 39 = .ok (.iconst 0, 1) := by decide +kernel
theorem dX5_copyFrom_40 : decode cX5_copyFrom 40 = .ok (.bipush 6, 2) := by decide +kernel
theorem dX5_copyFrom_42 : decode cX5_copyFrom 42 = .ok (.invokestatic 37, 3) := by decide +kernel
theorem dX5_copyFrom_45 : decode cX5_copyFrom 45 = .ok (.aload_n 1, 1) := by decide +kernel
theorem dX5_copyFrom_46 : decode cX5_copyFrom 46 = .ok (.getfield 21, 3) := by decide +kernel
theorem dX5_copyFrom_49 : decode cX5_copyFrom 49 = .ok (.iconst 0, 1) := by decide +kernel
theorem dX5_copyFrom_50 : decode cX5_copyFrom 50 = .ok (.aload_n 0, 1) := by decide +kernel
theorem dX5_copyFrom_51 : decode cX5_copyFrom 51 = .ok (.getfield 21, 3) := by decide +kernel
theorem dX5_copyFrom_54 : decode cX5_copyFrom 54 = .ok (.iconst 0, 1) := by decide +kernel
theorem dX5_copyFrom_55 : decode cX5_copyFrom 55 = .ok (.bipush 6, 2) := by decide +kernel
theorem dX5_copyFrom_57 : decode cX5_copyFrom 57 = .ok (.invokestatic 37, 3) := by decide +kernel
theorem dX5_copyFrom_60 : decode cX5_copyFrom 60 = .ok (.aload_n 0, 1) := by decide +kernel
theorem dX5_copyFrom_61 : decode cX5_copyFrom 61 = .ok (.aload_n 1, 1) := by decide +kernel
theorem dX5_copyFrom_62 : decode cX5_copyFrom 62 = .ok (.getfield 24, 3) := by decide +kernel
theorem dX5_copyFrom_65 : decode cX5_copyFrom 65 = .ok (.putfield 24, 3) := by decide +kernel
theorem dX5_copyFrom_68 : decode cX5_copyFrom 68 = .ok (.aload_n 1, 1) := by decide +kernel
theorem dX5_copyFrom_69 : decode cX5_copyFrom 69 = .ok (.getfield 28, 3) := by decide +kernel
theorem dX5_copyFrom_72 : decode cX5_copyFrom 72 = .ok (.iconst 0, 1) := by decide +kernel
theorem dX5_copyFrom_73 : decode cX5_copyFrom 73 = .ok (.aload_n 0, 1) := by decide +kernel
theorem dX5_copyFrom_74 : decode cX5_copyFrom 74 = .ok (.getfield 28, 3) := by decide +kernel
theorem dX5_copyFrom_77 : decode cX5_copyFrom 77 = .ok (.iconst 0, 1) := by decide +kernel
theorem dX5_copyFrom_78 : decode cX5_copyFrom 78 = .ok (.bipush 12, 2) := by decide +kernel
theorem dX5_copyFrom_80 : decode cX5_copyFrom 80 = .ok (.invokestatic 37, 3) := by decide +kernel
theorem dX5_copyFrom_83 : decode cX5_copyFrom 83 = .ok (.aload_n 1, 1) := by decide +kernel
theorem dX5_copyFrom_84 : decode cX5_copyFrom 84 = .ok (.getfield 31, 3) := by decide +kernel
theorem dX5_copyFrom_87 : decode cX5_copyFrom 87 = .ok (.iconst 0, 1) := by decide +kernel
theorem dX5_copyFrom_88 : decode cX5_copyFrom 88 = .ok (.aload_n 0, 1) := by decide +kernel
theorem dX5_copyFrom_89 : decode cX5_copyFrom 89 = .ok (.getfield 31, 3) := by decide +kernel
theorem dX5_copyFrom_92 : decode cX5_copyFrom 92 = .ok (.iconst 0, 1) := by decide +kernel
theorem dX5_copyFrom_93 : decode cX5_copyFrom 93 = .ok (.bipush 12, 2) := by decide +kernel
theorem dX5_copyFrom_95 : decode cX5_copyFrom 95 = .ok (.invokestatic 37, 3) := by decide +kernel
theorem dX5_copyFrom_98 : decode cX5_copyFrom 98 = .ok (.aload_n 1, 1) := by decide +kernel
theorem dX5_copyFrom_99 : decode cX5_copyFrom 99 = .ok (.getfield 34, 3) := by decide +kernel
theorem dX5_copyFrom_102 : decode cX5_copyFrom 102 = .ok (.iconst 0, 1) := by decide +kernel
theorem dX5_copyFrom_103 : decode cX5_copyFrom 103 = .ok (.aload_n 0, 1) := by decide +kernel
theorem dX5_copyFrom_104 : decode cX5_copyFrom 104 = .ok (.getfield 34, 3) := by decide +kernel
theorem dX5_copyFrom_107 : decode cX5_copyFrom 107 = .ok (.iconst 0, 1) := by decide +kernel
theorem dX5_copyFrom_108 : decode cX5_copyFrom 108 = .ok (.bipush 12, 2) := by decide +kernel
theorem dX5_copyFrom_110 : decode cX5_copyFrom 110 = .ok (.invokestatic 37, 3) := by decide +kernel
theorem dX5_copyFrom_113 : decode cX5_copyFrom 113 = .ok (.return_, 1) := by decide +kernel
theorem dX5_needOf_0 : decode cX5_needOf 0 = .ok (.getstatic 43, 3) := by decide +kernel
theorem dX5_needOf_3 : decode cX5_needOf 3 = .ok (.iload_n 0, 1) := by decide +kernel
theorem dX5_needOf_4 : decode cX5_needOf 4 = .ok (.bipush 6, 2) := by decide +kernel
theorem dX5_needOf_6 : decode cX5_needOf 6 = .ok (.imul, 1) := by decide +kernel
theorem dX5_needOf_7 : decode cX5_needOf 7 = .ok (.iload_n 1, 1) := by decide +kernel
theorem dX5_needOf_8 : decode cX5_needOf 8 = .ok (.iadd, 1) := by decide +kernel
theorem dX5_needOf_9 : decode cX5_needOf 9 = .ok (.iaload, 1) := by decide +kernel
theorem dX5_needOf_10 : decode cX5_needOf 10 = .ok (.ireturn, 1) := by decide +kernel
theorem dX5_priceOfParts_0 : decode cX5_priceOfParts 0 = .ok (.iconst 0, 1) := by decide +kernel
theorem dX5_priceOfParts_1 : decode cX5_priceOfParts 1 = .ok (.istore_n 2, 1) := by decide +kernel
theorem dX5_priceOfParts_2 : decode cX5_priceOfParts 2 = .ok (.iconst 0, 1) := by decide +kernel
theorem dX5_priceOfParts_3 : decode cX5_priceOfParts 3 = .ok (.istore_n 3, 1) := by decide +kernel
theorem dX5_priceOfParts_4 : decode cX5_priceOfParts 4 = .ok (.iload_n 3, 1) := by decide +kernel
theorem dX5_priceOfParts_5 : decode cX5_priceOfParts 5 = .ok (.bipush 6, 2) := by decide +kernel
theorem dX5_priceOfParts_7 : decode cX5_priceOfParts 7 = .ok (.if_icmp .ge 24, 3) := by decide +kernel
theorem dX5_priceOfParts_10 : decode cX5_priceOfParts 10 = .ok (.iload_n 2, 1) := by decide +kernel
theorem dX5_priceOfParts_11 : decode cX5_priceOfParts 11 = .ok (.iload_n 1, 1) := by decide +kernel
theorem dX5_priceOfParts_12 : decode cX5_priceOfParts 12 = .ok (.iload_n 3, 1) := by decide +kernel
theorem dX5_priceOfParts_13 : decode cX5_priceOfParts 13 = .ok (.invokestatic 46, 3) := by decide +kernel
theorem dX5_priceOfParts_16 : decode cX5_priceOfParts 16 = .ok (.aload_n 0, 1) := by decide +kernel
theorem dX5_priceOfParts_17 : decode cX5_priceOfParts 17 = .ok (.getfield 9, 3) := by decide +kernel
theorem dX5_priceOfParts_20 : decode cX5_priceOfParts 20 = .ok (.iload_n 3, 1) := by decide +kernel
theorem dX5_priceOfParts_21 : decode cX5_priceOfParts 21 = .ok (.iaload, 1) := by decide +kernel
theorem dX5_priceOfParts_22 : decode cX5_priceOfParts 22 = .ok (.imul, 1) := by decide +kernel
theorem dX5_priceOfParts_23 : decode cX5_priceOfParts 23 = .ok (.iadd, 1) := by decide +kernel
theorem dX5_priceOfParts_24 : decode cX5_priceOfParts 24 = .ok (.istore_n 2, 1) := by decide +kernel
theorem dX5_priceOfParts_25 : decode cX5_priceOfParts 25 = .ok (.iinc 3 1, 3) := by decide +kernel
theorem dX5_priceOfParts_28 : decode cX5_priceOfParts 28 = .ok (.goto (-24), 3) := by decide +kernel
theorem dX5_priceOfParts_31 : decode cX5_priceOfParts 31 = .ok (.iload_n 2, 1) := by decide +kernel
theorem dX5_priceOfParts_32 : decode cX5_priceOfParts 32 = .ok (.ireturn, 1) := by decide +kernel
theorem dX5_free_0 : decode cX5_free 0 = .ok (.aload_n 0, 1) := by decide +kernel
theorem dX5_free_1 : decode cX5_free 1 = .ok (.getfield 18, 3) := by decide +kernel
theorem dX5_free_4 : decode cX5_free 4 = .ok (.iload_n 1, 1) := by decide +kernel
theorem dX5_free_5 : decode cX5_free 5 = .ok (.iaload, 1) := by decide +kernel
theorem dX5_free_6 : decode cX5_free 6 = .ok (.aload_n 0, 1) := by decide +kernel
theorem dX5_free_7 : decode cX5_free 7 = .ok (.getfield 21, 3) := by decide +kernel
theorem dX5_free_10 : decode cX5_free 10 = .ok (.iload_n 1, 1) := by decide +kernel
theorem dX5_free_11 : decode cX5_free 11 = .ok (.iaload, 1) := by decide +kernel
theorem dX5_free_12 : decode cX5_free 12 = .ok (.isub, 1) := by decide +kernel
theorem dX5_free_13 : decode cX5_free 13 = .ok (.ireturn, 1) := by decide +kernel
theorem dX5_onOrder_0 : decode cX5_onOrder 0 = .ok (.iconst 0, 1) := by decide +kernel
theorem dX5_onOrder_1 : decode cX5_onOrder 1 = .ok (.istore_n 2, 1) := by decide +kernel
theorem dX5_onOrder_2 : decode cX5_onOrder 2 = .ok (.iconst 0, 1) := by decide +kernel
theorem dX5_onOrder_3 : decode cX5_onOrder 3 = .ok (.istore_n 3, 1) := by decide +kernel
theorem dX5_onOrder_4 : decode cX5_onOrder 4 = .ok (.iload_n 3, 1) := by decide +kernel
theorem dX5_onOrder_5 : decode cX5_onOrder 5 = .ok (.aload_n 0, 1) := by decide +kernel
theorem dX5_onOrder_6 : decode cX5_onOrder 6 = .ok (.getfield 24, 3) := by decide +kernel
theorem dX5_onOrder_9 : decode cX5_onOrder 9 = .ok (.if_icmp .ge 28, 3) := by decide +kernel
theorem dX5_onOrder_12 : decode cX5_onOrder 12 = .ok (.aload_n 0, 1) := by decide +kernel
theorem dX5_onOrder_13 : decode cX5_onOrder 13 = .ok (.getfield 28, 3) := by decide +kernel
theorem dX5_onOrder_16 : decode cX5_onOrder 16 = .ok (.iload_n 3, 1) := by decide +kernel
theorem dX5_onOrder_17 : decode cX5_onOrder 17 = .ok (.iaload, 1) := by decide +kernel
theorem dX5_onOrder_18 : decode cX5_onOrder 18 = .ok (.iload_n 1, 1) := by decide +kernel
theorem dX5_onOrder_19 : decode cX5_onOrder 19 = .ok (.if_icmp .ne 12, 3) := by decide +kernel
theorem dX5_onOrder_22 : decode cX5_onOrder 22 = .ok (.iload_n 2, 1) := by decide +kernel
theorem dX5_onOrder_23 : decode cX5_onOrder 23 = .ok (.aload_n 0, 1) := by decide +kernel
theorem dX5_onOrder_24 : decode cX5_onOrder 24 = .ok (.getfield 31, 3) := by decide +kernel
theorem dX5_onOrder_27 : decode cX5_onOrder 27 = .ok (.iload_n 3, 1) := by decide +kernel
theorem dX5_onOrder_28 : decode cX5_onOrder 28 = .ok (.iaload, 1) := by decide +kernel
theorem dX5_onOrder_29 : decode cX5_onOrder 29 = .ok (.iadd, 1) := by decide +kernel
theorem dX5_onOrder_30 : decode cX5_onOrder 30 = .ok (.istore_n 2, 1) := by decide +kernel
theorem dX5_onOrder_31 : decode cX5_onOrder 31 = .ok (.iinc 3 1, 3) := by decide +kernel
theorem dX5_onOrder_34 : decode cX5_onOrder 34 = .ok (.goto (-30), 3) := by decide +kernel
theorem dX5_onOrder_37 : decode cX5_onOrder 37 = .ok (.iload_n 2, 1) := by decide +kernel
theorem dX5_onOrder_38 : decode cX5_onOrder 38 = .ok (.ireturn, 1) := by decide +kernel
theorem dX5_lowestShort_0 : decode cX5_lowestShort 0 = .ok (.iconst 0, 1) := by decide +kernel
theorem dX5_lowestShort_1 : decode cX5_lowestShort 1 = .ok (.istore_n 2, 1) := by decide +kernel
theorem dX5_lowestShort_2 : decode cX5_lowestShort 2 = .ok (.iload_n 2, 1) := by decide +kernel
theorem dX5_lowestShort_3 : decode cX5_lowestShort 3 = .ok (.bipush 6, 2) := by decide +kernel
theorem dX5_lowestShort_5 : decode cX5_lowestShort 5 = .ok (.if_icmp .ge 24, 3) := by decide +kernel
theorem dX5_lowestShort_8 : decode cX5_lowestShort 8 = .ok (.aload_n 0, 1) := by decide +kernel
theorem dX5_lowestShort_9 : decode cX5_lowestShort 9 = .ok (.iload_n 2, 1) := by decide +kernel
theorem dX5_lowestShort_10 : decode cX5_lowestShort 10 = .ok (.invokevirtual 50, 3) := by decide +kernel
theorem dX5_lowestShort_13 : decode cX5_lowestShort 13 = .ok (.iload_n 1, 1) := by decide +kernel
theorem dX5_lowestShort_14 : decode cX5_lowestShort 14 = .ok (.iload_n 2, 1) := by decide +kernel
theorem dX5_lowestShort_15 : decode cX5_lowestShort 15 = .ok (.invokestatic 46, 3) := by decide +kernel
theorem dX5_lowestShort_18 : decode cX5_lowestShort 18 = .ok (.if_icmp .ge 5, 3) := by decide +kernel
theorem dX5_lowestShort_21 : decode cX5_lowestShort 21 = .ok (.iload_n 2, 1) := by decide +kernel
theorem dX5_lowestShort_22 : decode cX5_lowestShort 22 = .ok (.ireturn, 1) := by decide +kernel
theorem dX5_lowestShort_23 : decode cX5_lowestShort 23 = .ok (.iinc 2 1, 3) := by decide +kernel
theorem dX5_lowestShort_26 : decode cX5_lowestShort 26 = .ok (.goto (-24), 3) := by decide +kernel
theorem dX5_lowestShort_29 : decode cX5_lowestShort 29 = .ok (.bipush (-5), 2) := by decide +kernel
theorem dX5_lowestShort_31 : decode cX5_lowestShort 31 = .ok (.ireturn, 1) := by decide +kernel
theorem dX5_isEnoughOrdered_0 : decode cX5_isEnoughOrdered 0 = .ok (.iconst 0, 1) := by decide +kernel
theorem dX5_isEnoughOrdered_1 : decode cX5_isEnoughOrdered 1 = .ok (.istore_n 2, 1) := by decide +kernel
theorem dX5_isEnoughOrdered_2 : decode cX5_isEnoughOrdered 2 = .ok (.iload_n 2, 1) := by decide +kernel
theorem dX5_isEnoughOrdered_3 : decode cX5_isEnoughOrdered 3 = .ok (.bipush 6, 2) := by decide +kernel
theorem dX5_isEnoughOrdered_5 : decode cX5_isEnoughOrdered 5 = .ok (.if_icmp .ge 30, 3) := by decide +kernel
theorem dX5_isEnoughOrdered_8 : decode cX5_isEnoughOrdered 8 = .ok (.aload_n 0, 1) := by decide +kernel
theorem dX5_isEnoughOrdered_9 : decode cX5_isEnoughOrdered 9 = .ok (.iload_n 2, 1) := by decide +kernel
theorem dX5_isEnoughOrdered_10 : decode cX5_isEnoughOrdered 10 = .ok (.invokevirtual 50, 3) := by decide +kernel
theorem dX5_isEnoughOrdered_13 : decode cX5_isEnoughOrdered 13 = .ok (.aload_n 0, 1) := by decide +kernel
theorem dX5_isEnoughOrdered_14 : decode cX5_isEnoughOrdered 14 = .ok (.iload_n 2, 1) := by decide +kernel
theorem dX5_isEnoughOrdered_15 : decode cX5_isEnoughOrdered 15 = .ok (.invokevirtual 54, 3) := by decide +kernel
theorem dX5_isEnoughOrdered_18 : decode cX5_isEnoughOrdered 18 = .ok (.iadd, 1) := by decide +kernel
theorem dX5_isEnoughOrdered_19 : decode cX5_isEnoughOrdered 19 = .ok (.iload_n 1, 1) := by decide +kernel
theorem dX5_isEnoughOrdered_20 : decode cX5_isEnoughOrdered 20 = .ok (.iload_n 2, 1) := by decide +kernel
theorem dX5_isEnoughOrdered_21 : decode cX5_isEnoughOrdered 21 = .ok (.invokestatic 46, 3) := by decide +kernel
theorem dX5_isEnoughOrdered_24 : decode cX5_isEnoughOrdered 24 = .ok (.if_icmp .ge 5, 3) := by decide +kernel
theorem dX5_isEnoughOrdered_27 : decode cX5_isEnoughOrdered 27 = .ok (.iconst 0, 1) := by decide +kernel
theorem dX5_isEnoughOrdered_28 : decode cX5_isEnoughOrdered 28 = .ok (.ireturn, 1) := by decide +kernel
theorem dX5_isEnoughOrdered_29 : decode cX5_isEnoughOrdered 29 = .ok (.iinc 2 1, 3) := by decide +kernel
theorem dX5_isEnoughOrdered_32 : decode cX5_isEnoughOrdered 32 = .ok (.goto (-30), 3) := by decide +kernel
theorem dX5_isEnoughOrdered_35 : decode cX5_isEnoughOrdered 35 = .ok (.iconst 1, 1) := by decide +kernel
theorem dX5_isEnoughOrdered_36 : decode cX5_isEnoughOrdered 36 = .ok (.ireturn, 1) := by decide +kernel
theorem dX5_reserveFor_0 : decode cX5_reserveFor 0 = .ok (.iconst 0, 1) := by decide +kernel
theorem dX5_reserveFor_1 : decode cX5_reserveFor 1 = .ok (.istore_n 2, 1) := by decide +kernel
theorem dX5_reserveFor_2 : decode cX5_reserveFor 2 = .ok (.iload_n 2, 1) := by decide +kernel
theorem dX5_reserveFor_3 : decode cX5_reserveFor 3 = .ok (.bipush 6, 2) := by decide +kernel
theorem dX5_reserveFor_5 : decode cX5_reserveFor 5 = .ok (.if_icmp .ge 23, 3) := by decide +kernel
theorem dX5_reserveFor_8 : decode cX5_reserveFor 8 = .ok (.aload_n 0, 1) := by decide +kernel
theorem dX5_reserveFor_9 : decode cX5_reserveFor 9 = .ok (.getfield 21, 3) := by decide +kernel
theorem dX5_reserveFor_12 : decode cX5_reserveFor 12 = .ok (.iload_n 2, 1) := by decide +kernel
theorem dX5_reserveFor_13 : decode cX5_reserveFor 13 = .ok (.dup2, 1) := by decide +kernel
theorem dX5_reserveFor_14 : decode cX5_reserveFor 14 = .ok (.iaload, 1) := by decide +kernel
theorem dX5_reserveFor_15 : decode cX5_reserveFor 15 = .ok (.iload_n 1, 1) := by decide +kernel
theorem dX5_reserveFor_16 : decode cX5_reserveFor 16 = .ok (.iload_n 2, 1) := by decide +kernel
theorem dX5_reserveFor_17 : decode cX5_reserveFor 17 = .ok (.invokestatic 46, 3) := by decide +kernel
theorem dX5_reserveFor_20 : decode cX5_reserveFor 20 = .ok (.iadd, 1) := by decide +kernel
theorem dX5_reserveFor_21 : decode cX5_reserveFor 21 = .ok (.iastore, 1) := by decide +kernel
theorem dX5_reserveFor_22 : decode cX5_reserveFor 22 = .ok (.iinc 2 1, 3) := by decide +kernel
theorem dX5_reserveFor_25 : decode cX5_reserveFor 25 = .ok (.goto (-23), 3) := by decide +kernel
theorem dX5_reserveFor_28 : decode cX5_reserveFor 28 = .ok (.return_, 1) := by decide +kernel
theorem dX5_takeReservedFor_0 : decode cX5_takeReservedFor 0 = .ok (.iconst 0, 1) := by decide +kernel
theorem dX5_takeReservedFor_1 : decode cX5_takeReservedFor 1 = .ok (.istore_n 2, 1) := by decide +kernel
theorem dX5_takeReservedFor_2 : decode cX5_takeReservedFor 2 = .ok (.iload_n 2, 1) := by decide +kernel
theorem dX5_takeReservedFor_3 : decode cX5_takeReservedFor 3 = .ok (.bipush 6, 2) := by decide +kernel
theorem dX5_takeReservedFor_5 : decode cX5_takeReservedFor 5 = .ok (.if_icmp .ge 37, 3) := by decide +kernel
theorem dX5_takeReservedFor_8 : decode cX5_takeReservedFor 8 = .ok (.aload_n 0, 1) := by decide +kernel
theorem dX5_takeReservedFor_9 : decode cX5_takeReservedFor 9 = .ok (.getfield 18, 3) := by decide +kernel
theorem dX5_takeReservedFor_12 : decode cX5_takeReservedFor 12 = .ok (.iload_n 2, 1) := by decide +kernel
theorem dX5_takeReservedFor_13 : decode cX5_takeReservedFor 13 = .ok (.dup2, 1) := by decide +kernel
theorem dX5_takeReservedFor_14 : decode cX5_takeReservedFor 14 = .ok (.iaload, 1) := by decide +kernel
theorem dX5_takeReservedFor_15 : decode cX5_takeReservedFor 15 = .ok (.iload_n 1, 1) := by decide +kernel
theorem dX5_takeReservedFor_16 : decode cX5_takeReservedFor 16 = .ok (.iload_n 2, 1) := by decide +kernel
theorem dX5_takeReservedFor_17 : decode cX5_takeReservedFor 17 = .ok (.invokestatic 46, 3) := by decide +kernel
theorem dX5_takeReservedFor_20 : decode cX5_takeReservedFor 20 = .ok (.isub, 1) := by decide +kernel
theorem dX5_takeReservedFor_21 : decode cX5_takeReservedFor 21 = .ok (.iastore, 1) := by decide +kernel
theorem dX5_takeReservedFor_22 : decode cX5_takeReservedFor 22 = .ok (.aload_n 0, 1) := by decide +kernel
theorem dX5_takeReservedFor_23 : decode cX5_takeReservedFor 23 = .ok (.getfield 21, 3) := by decide +kernel
theorem dX5_takeReservedFor_26 : decode cX5_takeReservedFor 26 = .ok (.iload_n 2, 1) := by decide +kernel
theorem dX5_takeReservedFor_27 : decode cX5_takeReservedFor 27 = .ok (.dup2, 1) := by decide +kernel
theorem dX5_takeReservedFor_28 : decode cX5_takeReservedFor 28 = .ok (.iaload, 1) := by decide +kernel
theorem dX5_takeReservedFor_29 : decode cX5_takeReservedFor 29 = .ok (.iload_n 1, 1) := by decide +kernel
theorem dX5_takeReservedFor_30 : decode cX5_takeReservedFor 30 = .ok (.iload_n 2, 1) := by decide +kernel
theorem dX5_takeReservedFor_31 : decode cX5_takeReservedFor 31 = .ok (.invokestatic 46, 3) := by decide +kernel
theorem dX5_takeReservedFor_34 : decode cX5_takeReservedFor 34 = .ok (.isub, 1) := by decide +kernel
theorem dX5_takeReservedFor_35 : decode cX5_takeReservedFor 35 = .ok (.iastore, 1) := by decide +kernel
theorem dX5_takeReservedFor_36 : decode cX5_takeReservedFor 36 = .ok (.iinc 2 1, 3) := by decide +kernel
theorem dX5_takeReservedFor_39 : decode cX5_takeReservedFor 39 = .ok (.goto (-37), 3) := by decide +kernel
theorem dX5_takeReservedFor_42 : decode cX5_takeReservedFor 42 = .ok (.return_, 1) := by decide +kernel
theorem dX5_addOrder_0 : decode cX5_addOrder 0 = .ok (.aload_n 0, 1) := by decide +kernel
theorem dX5_addOrder_1 : decode cX5_addOrder 1 = .ok (.getfield 24, 3) := by decide +kernel
theorem dX5_addOrder_4 : decode cX5_addOrder 4 = .ok (.bipush 12, 2) := by decide +kernel
theorem dX5_addOrder_6 : decode cX5_addOrder 6 = .ok (.if_icmp .lt 4, 3) := by decide +kernel
theorem dX5_addOrder_9 : decode cX5_addOrder 9 = .ok (.return_, 1) := by decide +kernel
theorem dX5_addOrder_10 : decode cX5_addOrder 10 = .ok (.aload_n 0, 1) := by decide +kernel
theorem dX5_addOrder_11 : decode cX5_addOrder 11 = .ok (.getfield 28, 3) := by decide +kernel
theorem dX5_addOrder_14 : decode cX5_addOrder 14 = .ok (.aload_n 0, 1) := by decide +kernel
theorem dX5_addOrder_15 : decode cX5_addOrder 15 = .ok (.getfield 24, 3) := by decide +kernel
theorem dX5_addOrder_18 : decode cX5_addOrder 18 = .ok (.iload_n 1, 1) := by decide +kernel
theorem dX5_addOrder_19 : decode cX5_addOrder 19 = .ok (.iastore, 1) := by decide +kernel
theorem dX5_addOrder_20 : decode cX5_addOrder 20 = .ok (.aload_n 0, 1) := by decide +kernel
theorem dX5_addOrder_21 : decode cX5_addOrder 21 = .ok (.getfield 31, 3) := by decide +kernel
theorem dX5_addOrder_24 : decode cX5_addOrder 24 = .ok (.aload_n 0, 1) := by decide +kernel
theorem dX5_addOrder_25 : decode cX5_addOrder 25 = .ok (.getfield 24, 3) := by decide +kernel
theorem dX5_addOrder_28 : decode cX5_addOrder 28 = .ok (.iload_n 2, 1) := by decide +kernel
theorem dX5_addOrder_29 : decode cX5_addOrder 29 = .ok (.iastore, 1) := by decide +kernel
theorem dX5_addOrder_30 : decode cX5_addOrder 30 = .ok (.aload_n 0, 1) := by decide +kernel
theorem dX5_addOrder_31 : decode cX5_addOrder 31 = .ok (.getfield 34, 3) := by decide +kernel
theorem dX5_addOrder_34 : decode cX5_addOrder 34 = .ok (.aload_n 0, 1) := by decide +kernel
theorem dX5_addOrder_35 : decode cX5_addOrder 35 = .ok (.getfield 24, 3) := by decide +kernel
theorem dX5_addOrder_38 : decode cX5_addOrder 38 = .ok (.iload_n 3, 1) := by decide +kernel
theorem dX5_addOrder_39 : decode cX5_addOrder 39 = .ok (.iastore, 1) := by decide +kernel
theorem dX5_addOrder_40 : decode cX5_addOrder 40 = .ok (.aload_n 0, 1) := by decide +kernel
theorem dX5_addOrder_41 : decode cX5_addOrder 41 = .ok (.dup, 1) := by decide +kernel
theorem dX5_addOrder_42 : decode cX5_addOrder 42 = .ok (.getfield 24, 3) := by decide +kernel
theorem dX5_addOrder_45 : decode cX5_addOrder 45 = .ok (.iconst 1, 1) := by decide +kernel
theorem dX5_addOrder_46 : decode cX5_addOrder 46 = .ok (.iadd, 1) := by decide +kernel
theorem dX5_addOrder_47 : decode cX5_addOrder 47 = .ok (.putfield 24, 3) := by decide +kernel
theorem dX5_addOrder_50 : decode cX5_addOrder 50 = .ok (.return_, 1) := by decide +kernel
theorem dX5_dropOrdersOf_0 : decode cX5_dropOrdersOf 0 = .ok (.iconst 0, 1) := by decide +kernel
theorem dX5_dropOrdersOf_1 : decode cX5_dropOrdersOf 1 = .ok (.istore_n 2, 1) := by decide +kernel
theorem dX5_dropOrdersOf_2 : decode cX5_dropOrdersOf 2 = .ok (.iconst 0, 1) := by decide +kernel
theorem dX5_dropOrdersOf_3 : decode cX5_dropOrdersOf 3 = .ok (.istore_n 3, 1) := by decide +kernel
theorem dX5_dropOrdersOf_4 : decode cX5_dropOrdersOf 4 = .ok (.iload_n 3, 1) := by decide +kernel
theorem dX5_dropOrdersOf_5 : decode cX5_dropOrdersOf 5 = .ok (.aload_n 0, 1) := by decide +kernel
theorem dX5_dropOrdersOf_6 : decode cX5_dropOrdersOf 6 = .ok (.getfield 24, 3) := by decide +kernel
theorem dX5_dropOrdersOf_9 : decode cX5_dropOrdersOf 9 = .ok (.if_icmp .ge 58, 3) := by decide +kernel
theorem dX5_dropOrdersOf_12 : decode cX5_dropOrdersOf 12 = .ok (.aload_n 0, 1) := by decide +kernel
theorem dX5_dropOrdersOf_13 : decode cX5_dropOrdersOf 13 = .ok (.getfield 34, 3) := by decide +kernel
theorem dX5_dropOrdersOf_16 : decode cX5_dropOrdersOf 16 = .ok (.iload_n 3, 1) := by decide +kernel
theorem dX5_dropOrdersOf_17 : decode cX5_dropOrdersOf 17 = .ok (.iaload, 1) := by decide +kernel
theorem dX5_dropOrdersOf_18 : decode cX5_dropOrdersOf 18 = .ok (.iload_n 1, 1) := by decide +kernel
theorem dX5_dropOrdersOf_19 : decode cX5_dropOrdersOf 19 = .ok (.if_icmp .eq 42, 3) := by decide +kernel
theorem dX5_dropOrdersOf_22 : decode cX5_dropOrdersOf 22 = .ok (.aload_n 0, 1) := by decide +kernel
theorem dX5_dropOrdersOf_23 : decode cX5_dropOrdersOf 23 = .ok (.getfield 28, 3) := by decide +kernel
theorem dX5_dropOrdersOf_26 : decode cX5_dropOrdersOf 26 = .ok (.iload_n 2, 1) := by decide +kernel
theorem dX5_dropOrdersOf_27 : decode cX5_dropOrdersOf 27 = .ok (.aload_n 0, 1) := by decide +kernel
theorem dX5_dropOrdersOf_28 : decode cX5_dropOrdersOf 28 = .ok (.getfield 28, 3) := by decide +kernel
theorem dX5_dropOrdersOf_31 : decode cX5_dropOrdersOf 31 = .ok (.iload_n 3, 1) := by decide +kernel
theorem dX5_dropOrdersOf_32 : decode cX5_dropOrdersOf 32 = .ok (.iaload, 1) := by decide +kernel
theorem dX5_dropOrdersOf_33 : decode cX5_dropOrdersOf 33 = .ok (.iastore, 1) := by decide +kernel
theorem dX5_dropOrdersOf_34 : decode cX5_dropOrdersOf 34 = .ok (.aload_n 0, 1) := by decide +kernel
theorem dX5_dropOrdersOf_35 : decode cX5_dropOrdersOf 35 = .ok (.getfield 31, 3) := by decide +kernel
theorem dX5_dropOrdersOf_38 : decode cX5_dropOrdersOf 38 = .ok (.iload_n 2, 1) := by decide +kernel
theorem dX5_dropOrdersOf_39 : decode cX5_dropOrdersOf 39 = .ok (.aload_n 0, 1) := by decide +kernel
theorem dX5_dropOrdersOf_40 : decode cX5_dropOrdersOf 40 = .ok (.getfield 31, 3) := by decide +kernel
theorem dX5_dropOrdersOf_43 : decode cX5_dropOrdersOf 43 = .ok (.iload_n 3, 1) := by decide +kernel
theorem dX5_dropOrdersOf_44 : decode cX5_dropOrdersOf 44 = .ok (.iaload, 1) := by decide +kernel
theorem dX5_dropOrdersOf_45 : decode cX5_dropOrdersOf 45 = .ok (.iastore, 1) := by decide +kernel
theorem dX5_dropOrdersOf_46 : decode cX5_dropOrdersOf 46 = .ok (.aload_n 0, 1) := by decide +kernel
theorem dX5_dropOrdersOf_47 : decode cX5_dropOrdersOf 47 = .ok (.getfield 34, 3) := by decide +kernel
theorem dX5_dropOrdersOf_50 : decode cX5_dropOrdersOf 50 = .ok (.iload_n 2, 1) := by decide +kernel
theorem dX5_dropOrdersOf_51 : decode cX5_dropOrdersOf 51 = .ok (.aload_n 0, 1) := by decide +kernel
theorem dX5_dropOrdersOf_52 : decode cX5_dropOrdersOf 52 = .ok (.getfield 34, 3) := by decide +kernel
theorem dX5_dropOrdersOf_55 : decode cX5_dropOrdersOf 55 = .ok (.iload_n 3, 1) := by decide +kernel
theorem dX5_dropOrdersOf_56 : decode cX5_dropOrdersOf 56 = .ok (.iaload, 1) := by decide +kernel
theorem dX5_dropOrdersOf_57 : decode cX5_dropOrdersOf 57 = .ok (.iastore, 1) := by decide +kernel
theorem dX5_dropOrdersOf_58 : decode cX5_dropOrdersOf 58 = .ok (.iinc 2 1, 3) := by decide +kernel
theorem dX5_dropOrdersOf_61 : decode cX5_dropOrdersOf 61 = .ok (.iinc 3 1, 3) := by decide +kernel
theorem dX5_dropOrdersOf_64 : decode cX5_dropOrdersOf 64 = .ok (.goto (-60), 3) := by decide +kernel
theorem dX5_dropOrdersOf_67 : decode cX5_dropOrdersOf 67 = .ok (.aload_n 0, 1) := by decide +kernel
theorem dX5_dropOrdersOf_68 : decode cX5_dropOrdersOf 68 = .ok (.iload_n 2, 1) := by decide +kernel
theorem dX5_dropOrdersOf_69 : decode cX5_dropOrdersOf 69 = .ok (.putfield 24, 3) := by decide +kernel
theorem dX5_dropOrdersOf_72 : decode cX5_dropOrdersOf 72 = .ok (.return_, 1) := by decide +kernel
theorem dX6_init_0 : decode cX6_init 0 = .ok (.aload_n 0, 1) := by decide +kernel
theorem dX6_init_1 : decode cX6_init 1 = .ok (.invokespecial 1, 3) := by decide +kernel
theorem dX6_init_4 : decode cX6_init 4 = .ok (.aload_n 0, 1) := by decide +kernel
theorem dX6_init_5 : decode cX6_init 5 = .ok (.new 7, 3) := by decide +kernel
theorem dX6_init_8 : decode cX6_init 8 = .ok (.dup, 1) := by decide +kernel
theorem dX6_init_9 : decode cX6_init 9 = .ok (.invokespecial 9, 3) := by decide +kernel
theorem dX6_init_12 : decode cX6_init 12 = .ok (.putfield 10, 3) := by decide +kernel
theorem dX6_init_15 : decode cX6_init 15 = .ok (.aload_n 0, 1) := by decide +kernel
theorem dX6_init_16 : decode cX6_init 16 = .ok (.new 7, 3) := by decide +kernel
theorem dX6_init_19 : decode cX6_init 19 = .ok (.dup, 1) := by decide +kernel
theorem dX6_init_20 : decode cX6_init 20 = .ok (.invokespecial 9, 3) := by decide +kernel
theorem dX6_init_23 : decode cX6_init 23 = .ok (.putfield 16, 3) := by decide +kernel
theorem dX6_init_26 : decode cX6_init 26 = .ok (.aload_n 0, 1) := by decide +kernel
theorem dX6_init_27 : decode cX6_init 27 = .ok (.new 7, 3) := by decide +kernel
theorem dX6_init_30 : decode cX6_init 30 = .ok (.dup, 1) := by decide +kernel
theorem dX6_init_31 : decode cX6_init 31 = .ok (.invokespecial 9, 3) := by decide +kernel
theorem dX6_init_34 : decode cX6_init 34 = .ok (.putfield 19, 3) := by decide +kernel
theorem dX6_init_37 : decode cX6_init 37 = .ok (.aload_n 0, 1) := by decide +kernel
theorem dX6_init_38 : decode cX6_init 38 = .ok (.iconst 0, 1) := by decide +kernel
theorem dX6_init_39 : decode cX6_init 39 = .ok (.putfield 22, 3) := by decide +kernel
theorem dX6_init_42 : decode cX6_init 42 = .ok (.aload_n 0, 1) := by decide +kernel
theorem dX6_init_43 : decode cX6_init 43 = .ok (.new 26, 3) := by decide +kernel
theorem dX6_init_46 : decode cX6_init 46 = .ok (.dup, 1) := by decide +kernel
theorem dX6_init_47 : decode cX6_init 47 = .ok (.invokespecial 28, 3) := by decide +kernel
theorem dX6_init_50 : decode cX6_init 50 = .ok (.putfield 29, 3) := by decide +kernel
theorem dX6_init_53 : decode cX6_init 53 = .ok (.aload_n 0, 1) := by decide +kernel
theorem dX6_init_54 : decode cX6_init 54 = .ok (.new 33, 3) := by decide +kernel
theorem dX6_init_57 : decode cX6_init 57 = .ok (.dup, 1) := by decide +kernel
theorem dX6_init_58 : decode cX6_init 58 = .ok (.invokespecial 35, 3) := by decide +kernel
theorem dX6_init_61 : decode cX6_init 61 = .ok (.putfield 36, 3) := by decide +kernel
theorem dX6_init_64 : decode cX6_init 64 = .ok (.return_, 1) := by decide +kernel
theorem dX6_setRate_0 : decode cX6_setRate 0 = .ok (.iload_n 1, 1) := by decide +kernel
theorem dX6_setRate_1 : decode cX6_setRate 1 = .ok (.iconst 4, 1) := by decide +kernel
theorem dX6_setRate_2 : decode cX6_setRate 2 = .ok (.invokestatic 40, 3) := by decide +kernel
theorem dX6_setRate_5 : decode cX6_setRate 5 = .ok (.ifCond .ne 5, 3) := by decide +kernel
theorem dX6_setRate_8 : decode cX6_setRate 8 = .ok (.iconst (-1), 1) := by decide +kernel
theorem dX6_setRate_9 : decode cX6_setRate 9 = .ok (.ireturn, 1) := by decide +kernel
theorem dX6_setRate_10 : decode cX6_setRate 10 = .ok (.iload_n 2, 1) := by decide +kernel
theorem dX6_setRate_11 : decode cX6_setRate 11 = .ok (.getstatic 44, 3) := by decide +kernel
theorem dX6_setRate_14 : decode cX6_setRate 14 = .ok (.iload_n 1, 1) := by decide +kernel
theorem dX6_setRate_15 : decode cX6_setRate 15 = .ok (.iaload, 1) := by decide +kernel
theorem dX6_setRate_16 : decode cX6_setRate 16 = .ok (.getstatic 48, 3) := by decide +kernel
theorem dX6_setRate_19 : decode cX6_setRate 19 = .ok (.iload_n 1, 1) := by decide +kernel
theorem dX6_setRate_20 : decode cX6_setRate 20 = .ok (.iaload, 1) := by decide +kernel
theorem dX6_setRate_21 : decode cX6_setRate 21 = .ok (.invokestatic 51, 3) := by decide +kernel
theorem dX6_setRate_24 : decode cX6_setRate 24 = .ok (.ifCond .ne 6, 3) := by decide +kernel
theorem dX6_setRate_27 : decode cX6_setRate 27 = .ok (.bipush (-2), 2) := by decide +kernel
theorem dX6_setRate_29 : decode cX6_setRate 29 = .ok (.ireturn, 1) := by decide +kernel
theorem dX6_setRate_30 : decode cX6_setRate 30 = .ok (.iload_n 2, 1) := by decide +kernel
theorem dX6_setRate_31 : decode cX6_setRate 31 = .ok (.invokestatic 55, 3) := by decide +kernel
theorem dX6_setRate_34 : decode cX6_setRate 34 = .ok (.fstore_n 3, 1) := by decide +kernel
theorem dX6_setRate_35 : decode cX6_setRate 35 = .ok (.aload_n 0, 1) := by decide +kernel
theorem dX6_setRate_36 : decode cX6_setRate 36 = .ok (.getfield 10, 3) := by decide +kernel
theorem dX6_setRate_39 : decode cX6_setRate 39 = .ok (.getfield 59, 3) := by decide +kernel
theorem dX6_setRate_42 : decode cX6_setRate 42 = .ok (.iload_n 1, 1) := by decide +kernel
theorem dX6_setRate_43 : decode cX6_setRate 43 = .ok (.faload, 1) := by decide +kernel
theorem dX6_setRate_44 : decode cX6_setRate 44 = .ok (.fload_n 3, 1) := by decide +kernel
theorem dX6_setRate_45 : decode cX6_setRate 45 = .ok (.fcmp .l, 1) := by decide +kernel
theorem dX6_setRate_46 : decode cX6_setRate 46 = .ok (.ifCond .ne 6, 3) := by decide +kernel
theorem dX6_setRate_49 : decode cX6_setRate 49 = .ok (.bipush (-5), 2) := by decide +kernel
theorem dX6_setRate_51 : decode cX6_setRate 51 = .ok (.ireturn, 1) := by decide +kernel
theorem dX6_setRate_52 : decode cX6_setRate 52 = .ok (.aload_n 0, 1) := by decide +kernel
theorem dX6_setRate_53 : decode cX6_setRate 53 = .ok (.getfield 29, 3) := by decide +kernel
theorem dX6_setRate_56 : decode cX6_setRate 56 = .ok (.aload_n 0, 1) := by decide +kernel
theorem dX6_setRate_57 : decode cX6_setRate 57 = .ok (.getfield 10, 3) := by decide +kernel
theorem dX6_setRate_60 : decode cX6_setRate 60 = .ok (.invokevirtual 63, 3) := by decide +kernel
theorem dX6_setRate_63 : decode cX6_setRate 63 = .ok (.aload_n 0, 1) := by decide +kernel
theorem dX6_setRate_64 : decode cX6_setRate 64 = .ok (.getfield 10, 3) := by decide +kernel
theorem dX6_setRate_67 : decode cX6_setRate 67 = .ok (.getfield 59, 3) := by decide +kernel
theorem dX6_setRate_70 : decode cX6_setRate 70 = .ok (.iload_n 1, 1) := by decide +kernel
theorem dX6_setRate_71 : decode cX6_setRate 71 = .ok (.fload_n 3, 1) := by decide +kernel
theorem dX6_setRate_72 : decode cX6_setRate 72 = .ok (.fastore, 1) := by decide +kernel
theorem dX6_setRate_73 : decode cX6_setRate 73 = .ok (.iconst 1, 1) := by decide +kernel
theorem dX6_setRate_74 : decode cX6_setRate 74 = .ok (.ireturn, 1) := by decide +kernel
theorem dX6_setNumber_0 : decode cX6_setNumber 0 = .ok (.iload_n 1, 1) := by decide +kernel
theorem dX6_setNumber_1 : decode cX6_setNumber 1 = .ok (.iconst 5, 1) := by decide +kernel
theorem dX6_setNumber_2 : decode cX6_setNumber 2 = .ok (.invokestatic 40, 3) := by decide +kernel
theorem dX6_setNumber_5 : decode cX6_setNumber 5 = .ok (.ifCond .ne 5, 3) := by decide +kernel
theorem dX6_setNumber_8 : decode cX6_setNumber 8 = .ok (.iconst (-1), 1) := by decide +kernel
theorem dX6_setNumber_9 : decode cX6_setNumber 9 = .ok (.ireturn, 1) := by decide +kernel
theorem dX6_setNumber_10 : decode cX6_setNumber 10 = .ok (.iload_n 2, 1) := by decide +kernel
theorem dX6_setNumber_11 : decode cX6_setNumber 11 = .ok (.getstatic 67, 3) := by decide +kernel
theorem dX6_setNumber_14 : decode cX6_setNumber 14 = .ok (.iload_n 1, 1) := by decide +kernel
theorem dX6_setNumber_15 : decode cX6_setNumber 15 = .ok (.iaload, 1) := by decide +kernel
theorem dX6_setNumber_16 : decode cX6_setNumber 16 = .ok (.getstatic 70, 3) := by decide +kernel
theorem dX6_setNumber_19 : decode cX6_setNumber 19 = .ok (.iload_n 1, 1) := by decide +kernel
theorem dX6_setNumber_20 : decode cX6_setNumber 20 = .ok (.iaload, 1) := by decide +kernel
theorem dX6_setNumber_21 : decode cX6_setNumber 21 = .ok (.invokestatic 51, 3) := by decide +kernel
theorem dX6_setNumber_24 : decode cX6_setNumber 24 = .ok (.ifCond .ne 6, 3) := by decide +kernel
theorem dX6_setNumber_27 : decode cX6_setNumber 27 = .ok (.bipush (-2), 2) := by decide +kernel
theorem dX6_setNumber_29 : decode cX6_setNumber 29 = .ok (.ireturn, 1) := by decide +kernel
theorem dX6_setNumber_30 : decode cX6_setNumber 30 = .ok (.iload_n 1, 1) := by decide +kernel
theorem dX6_setNumber_31 : decode cX6_setNumber 31 = .ok (.iconst 4, 1) := by decide +kernel
theorem dX6_setNumber_32 : decode cX6_setNumber 32 = .ok (.if_icmp .ne 20, 3) := by decide +kernel
theorem dX6_setNumber_35 : decode cX6_setNumber 35 = .ok (.aload_n 0, 1) := by decide +kernel
theorem dX6_setNumber_36 : decode cX6_setNumber 36 = .ok (.getfield 10, 3) := by decide +kernel
theorem dX6_setNumber_39 : decode cX6_setNumber 39 = .ok (.getfield 73, 3) := by decide +kernel
theorem dX6_setNumber_42 : decode cX6_setNumber 42 = .ok (.invokevirtual 77, 3) := by decide +kernel
theorem dX6_setNumber_45 : decode cX6_setNumber 45 = .ok (.iload_n 2, 1) := by decide +kernel
theorem dX6_setNumber_46 : decode cX6_setNumber 46 = .ok (.if_icmp .le 6, 3) := by decide +kernel
theorem dX6_setNumber_49 : decode cX6_setNumber 49 = .ok (.bipush (-4), 2) := by decide +kernel
theorem dX6_setNumber_51 : decode cX6_setNumber 51 = .ok (.ireturn, 1) := by decide +kernel
theorem dX6_setNumber_52 : decode cX6_setNumber 52 = .ok (.aload_n 0, 1) := by decide +kernel
theorem dX6_setNumber_53 : decode cX6_setNumber 53 = .ok (.getfield 10, 3) := by decide +kernel
theorem dX6_setNumber_56 : decode cX6_setNumber 56 = .ok (.getfield 83, 3) := by decide +kernel
theorem dX6_setNumber_59 : decode cX6_setNumber 59 = .ok (.iload_n 1, 1) := by decide +kernel
theorem dX6_setNumber_60 : decode cX6_setNumber 60 = .ok (.iaload, 1) := by decide +kernel
theorem dX6_setNumber_61 : decode cX6_setNumber 61 = .ok (.istore_n 3, 1) := by decide +kernel
theorem dX6_setNumber_62 : decode cX6_setNumber 62 = .ok (.iload_n 3, 1) := by decide +kernel
theorem dX6_setNumber_63 : decode cX6_setNumber 63 = .ok (.iload_n 2, 1) := by decide +kernel
theorem dX6_setNumber_64 : decode cX6_setNumber 64 = .ok (.if_icmp .ne 6, 3) := by decide +kernel
theorem dX6_setNumber_67 : decode cX6_setNumber 67 = .ok (.bipush (-5), 2) := by decide +kernel
theorem dX6_setNumber_69 : decode cX6_setNumber 69 = .ok (.ireturn, 1) := by decide +kernel
theorem dX6_setNumber_70 : decode cX6_setNumber 70 = .ok (.aload_n 0, 1) := by decide +kernel
theorem dX6_setNumber_71 : decode cX6_setNumber 71 = .ok (.getfield 29, 3) := by decide +kernel
theorem dX6_setNumber_74 : decode cX6_setNumber 74 = .ok (.aload_n 0, 1) := by decide +kernel
theorem dX6_setNumber_75 : decode cX6_setNumber 75 = .ok (.getfield 10, 3) := by decide +kernel
theorem dX6_setNumber_78 : decode cX6_setNumber 78 = .ok (.invokevirtual 63, 3) := by decide +kernel
theorem dX6_setNumber_81 : decode cX6_setNumber 81 = .ok (.aload_n 0, 1) := by decide +kernel
theorem dX6_setNumber_82 : decode cX6_setNumber 82 = .ok (.getfield 10, 3) := by decide +kernel
theorem dX6_setNumber_85 : decode cX6_setNumber 85 = .ok (.getfield 83, 3) := by decide +kernel
theorem dX6_setNumber_88 : decode cX6_setNumber 88 = .ok (.iload_n 1, 1) := by decide +kernel
theorem dX6_setNumber_89 : decode cX6_setNumber 89 = .ok (.iload_n 2, 1) := by decide +kernel
theorem dX6_setNumber_90 : decode cX6_setNumber 90 = .ok (.iastore, 1) := by decide +kernel
theorem dX6_setNumber_91 : decode cX6_setNumber 91 = .ok (.iload_n 3, 1) := by decide +kernel
theorem dX6_setNumber_92 : decode cX6_setNumber 92 = .ok (.ireturn, 1) := by decide +kernel
theorem dX6_setPart_0 : decode cX6_setPart 0 = .ok (.iload_n 1, 1) := by decide +kernel
theorem dX6_setPart_1 : decode cX6_setPart 1 = .ok (.bipush 6, 2) := by decide +kernel
theorem dX6_setPart_3 : decode cX6_setPart 3 = .ok (.invokestatic 40, 3) := by decide +kernel
theorem dX6_setPart_6 : decode cX6_setPart 6 = .ok (.ifCond .ne 5, 3) := by decide +kernel
theorem dX6_setPart_9 : decode cX6_setPart 9 = .ok (.iconst (-1), 1) := by decide +kernel
theorem dX6_setPart_10 : decode cX6_setPart 10 = .ok (.ireturn, 1) := by decide +kernel
theorem dX6_setPart_11 : decode cX6_setPart 11 = .ok (.iload_n 2, 1) := by decide +kernel
theorem dX6_setPart_12 : decode cX6_setPart 12 = .ok (.iconst 1, 1) := by decide +kernel
theorem dX6_setPart_13 : decode cX6_setPart 13 = .ok (.ldc 86, 2) := by decide +kernel
theorem dX6_setPart_15 : decode cX6_setPart 15 = .ok (.invokestatic 51, 3) := by decide +kernel
theorem dX6_setPart_18 : decode cX6_setPart 18 = .ok (.ifCond .eq 13, 3) := by decide +kernel
theorem dX6_setPart_21 : decode cX6_setPart 21 = .ok (.iload_n 3, 1) := by decide +kernel
theorem dX6_setPart_22 : decode cX6_setPart 22 = .ok (.iconst 1, 1) := by decide +kernel
theorem dX6_setPart_23 : decode cX6_setPart 23 = .ok (.bipush 30, 2) := by decide +kernel
theorem dX6_setPart_25 : decode cX6_setPart 25 = .ok (.invokestatic 51, 3) := by decide +kernel
theorem dX6_setPart_28 : decode cX6_setPart 28 = .ok (.ifCond .ne 6, 3) := by decide +kernel
theorem dX6_setPart_31 : decode cX6_setPart 31 = .ok (.bipush (-2), 2) := by decide +kernel
theorem dX6_setPart_33 : decode cX6_setPart 33 = .ok (.ireturn, 1) := by decide +kernel
theorem dX6_setPart_34 : decode cX6_setPart 34 = .ok (.aload_n 0, 1) := by decide +kernel
theorem dX6_setPart_35 : decode cX6_setPart 35 = .ok (.getfield 10, 3) := by decide +kernel
theorem dX6_setPart_38 : decode cX6_setPart 38 = .ok (.getfield 87, 3) := by decide +kernel
theorem dX6_setPart_41 : decode cX6_setPart 41 = .ok (.getfield 91, 3) := by decide +kernel
theorem dX6_setPart_44 : decode cX6_setPart 44 = .ok (.iload_n 1, 1) := by decide +kernel
theorem dX6_setPart_45 : decode cX6_setPart 45 = .ok (.iaload, 1) := by decide +kernel
theorem dX6_setPart_46 : decode cX6_setPart 46 = .ok (.istore 4, 2) := by decide +kernel
theorem dX6_setPart_48 : decode cX6_setPart 48 = .ok (.iload 4, 2) := by decide +kernel
theorem dX6_setPart_50 : decode cX6_setPart 50 = .ok (.iload_n 2, 1) := by decide +kernel
theorem dX6_setPart_51 : decode cX6_setPart 51 = .ok (.if_icmp .ne 22, 3) := by decide +kernel
theorem dX6_setPart_54 : decode cX6_setPart 54 = .ok (.aload_n 0, 1) := by decide +kernel
theorem dX6_setPart_55 : decode cX6_setPart 55 = .ok (.getfield 10, 3) := by decide +kernel
theorem dX6_setPart_58 : decode cX6_setPart 58 = .ok (.getfield 87, 3) := by decide +kernel
theorem dX6_setPart_61 : decode cX6_setPart 61 = .ok (.getfield 96, 3) := by decide +kernel
theorem dX6_setPart_64 : decode cX6_setPart 64 = .ok (.iload_n 1, 1) := by decide +kernel
theorem dX6_setPart_65 : decode cX6_setPart 65 = .ok (.iaload, 1) := by decide +kernel
theorem dX6_setPart_66 : decode cX6_setPart 66 = .ok (.iload_n 3, 1) := by decide +kernel
theorem dX6_setPart_67 : decode cX6_setPart 67 = .ok (.if_icmp .ne 6, 3) := by decide +kernel
theorem dX6_setPart_70 : decode cX6_setPart 70 = .ok (.bipush (-5), 2) := by decide +kernel
theorem dX6_setPart_72 : decode cX6_setPart 72 = .ok (.ireturn, 1) := by decide +kernel
theorem dX6_setPart_73 : decode cX6_setPart 73 = .ok (.aload_n 0, 1) := by decide +kernel
theorem dX6_setPart_74 : decode cX6_setPart 74 = .ok (.getfield 29, 3) := by decide +kernel
theorem dX6_setPart_77 : decode cX6_setPart 77 = .ok (.aload_n 0, 1) := by decide +kernel
theorem dX6_setPart_78 : decode cX6_setPart 78 = .ok (.getfield 10, 3) := by decide +kernel
theorem dX6_setPart_81 : decode cX6_setPart 81 = .ok (.invokevirtual 63, 3) := by decide +kernel
theorem dX6_setPart_84 : decode cX6_setPart 84 = .ok (.aload_n 0, 1) := by decide +kernel
theorem dX6_setPart_85 : decode cX6_setPart 85 = .ok (.getfield 10, 3) := by decide +kernel
theorem dX6_setPart_88 : decode cX6_setPart 88 = .ok (.getfield 87, 3) := by decide +kernel
theorem dX6_setPart_91 : decode cX6_setPart 91 = .ok (.getfield 91, 3) := by decide +kernel
theorem dX6_setPart_94 : decode cX6_setPart 94 = .ok (.iload_n 1, 1) := by decide +kernel
theorem dX6_setPart_95 : decode cX6_setPart 95 = .ok (.iload_n 2, 1) := by decide +kernel
theorem dX6_setPart_96 : decode cX6_setPart 96 = .ok (.iastore, 1) := by decide +kernel
theorem dX6_setPart_97 : decode cX6_setPart 97 = .ok (.aload_n 0, 1) := by decide +kernel
theorem dX6_setPart_98 : decode cX6_setPart 98 = .ok (.getfield 10, 3) := by decide +kernel
theorem dX6_setPart_101 : decode cX6_setPart 101 = .ok (.getfield 87, 3) := by decide +kernel
theorem dX6_setPart_104 : decode cX6_setPart 104 = .ok (.getfield 96, 3) := by decide +kernel
theorem dX6_setPart_107 : decode cX6_setPart 107 = .ok (.iload_n 1, 1) := by decide +kernel
theorem dX6_setPart_108 : decode cX6_setPart 108 = .ok (.iload_n 3, 1) := by decide +kernel
theorem dX6_setPart_109 : decode cX6_setPart 109 = .ok (.iastore, 1) := by decide +kernel
theorem dX6_setPart_110 : decode cX6_setPart 110 = .ok (.iload 4, 2) := by decide +kernel
theorem dX6_setPart_112 : decode cX6_setPart 112 = .ok (.ireturn, 1) := by decide +kernel
theorem dX6_order_0 : decode cX6_order 0 = .ok (.iload_n 1, 1) := by decide +kernel
theorem dX6_order_1 : decode cX6_order 1 = .ok (.bipush 6, 2) := by decide +kernel
theorem dX6_order_3 : decode cX6_order 3 = .ok (.invokestatic 40, 3) := by decide +kernel
theorem dX6_order_6 : decode cX6_order 6 = .ok (.ifCond .ne 5, 3) := by decide +kernel
theorem dX6_order_9 : decode cX6_order 9 = .ok (.iconst (-1), 1) := by decide +kernel
theorem dX6_order_10 : decode cX6_order 10 = .ok (.ireturn, 1) := by decide +kernel
theorem dX6_order_11 : decode cX6_order 11 = .ok (.iload_n 2, 1) := by decide +kernel
theorem dX6_order_12 : decode cX6_order 12 = .ok (.iconst 1, 1) := by decide +kernel
theorem dX6_order_13 : decode cX6_order 13 = .ok (.bipush 9, 2) := by decide +kernel
theorem dX6_order_15 : decode cX6_order 15 = .ok (.invokestatic 51, 3) := by decide +kernel
theorem dX6_order_18 : decode cX6_order 18 = .ok (.ifCond .ne 6, 3) := by decide +kernel
theorem dX6_order_21 : decode cX6_order 21 = .ok (.bipush (-2), 2) := by decide +kernel
theorem dX6_order_23 : decode cX6_order 23 = .ok (.ireturn, 1) := by decide +kernel
theorem dX6_order_24 : decode cX6_order 24 = .ok (.aload_n 0, 1) := by decide +kernel
theorem dX6_order_25 : decode cX6_order 25 = .ok (.getfield 10, 3) := by decide +kernel
theorem dX6_order_28 : decode cX6_order 28 = .ok (.getfield 87, 3) := by decide +kernel
theorem dX6_order_31 : decode cX6_order 31 = .ok (.getfield 99, 3) := by decide +kernel
theorem dX6_order_34 : decode cX6_order 34 = .ok (.bipush 12, 2) := by decide +kernel
theorem dX6_order_36 : decode cX6_order 36 = .ok (.if_icmp .lt 6, 3) := by decide +kernel
theorem dX6_order_39 : decode cX6_order 39 = .ok (.bipush (-3), 2) := by decide +kernel
theorem dX6_order_41 : decode cX6_order 41 = .ok (.ireturn, 1) := by decide +kernel
theorem dX6_order_42 : decode cX6_order 42 = .ok (.aload_n 0, 1) := by decide +kernel
theorem dX6_order_43 : decode cX6_order 43 = .ok (.getfield 29, 3) := by decide +kernel
theorem dX6_order_46 : decode cX6_order 46 = .ok (.aload_n 0, 1) := by decide +kernel
theorem dX6_order_47 : decode cX6_order 47 = .ok (.getfield 10, 3) := by decide +kernel
theorem dX6_order_50 : decode cX6_order 50 = .ok (.invokevirtual 63, 3) := by decide +kernel
theorem dX6_order_53 : decode cX6_order 53 = .ok (.aload_n 0, 1) := by decide +kernel
theorem dX6_order_54 : decode cX6_order 54 = .ok (.getfield 10, 3) := by decide +kernel
theorem dX6_order_57 : decode cX6_order 57 = .ok (.getfield 103, 3) := by decide +kernel
theorem dX6_order_60 : decode cX6_order 60 = .ok (.aload_n 0, 1) := by decide +kernel
theorem dX6_order_61 : decode cX6_order 61 = .ok (.getfield 10, 3) := by decide +kernel
theorem dX6_order_64 : decode cX6_order 64 = .ok (.getfield 87, 3) := by decide +kernel
theorem dX6_order_67 : decode cX6_order 67 = .ok (.getfield 96, 3) := by decide +kernel
theorem dX6_order_70 : decode cX6_order 70 = .ok (.iload_n 1, 1) := by decide +kernel
theorem dX6_order_71 : decode cX6_order 71 = .ok (.iaload, 1) := by decide +kernel
theorem dX6_order_72 : decode cX6_order 72 = .ok (.iadd, 1) := by decide +kernel
theorem dX6_order_73 : decode cX6_order 73 = .ok (.istore_n 3, 1) := by decide +kernel
theorem dX6_order_74 : decode cX6_order 74 = .ok (.aload_n 0, 1) := by decide +kernel
theorem dX6_order_75 : decode cX6_order 75 = .ok (.getfield 10, 3) := by decide +kernel
theorem dX6_order_78 : decode cX6_order 78 = .ok (.getfield 87, 3) := by decide +kernel
theorem dX6_order_81 : decode cX6_order 81 = .ok (.iload_n 1, 1) := by decide +kernel
theorem dX6_order_82 : decode cX6_order 82 = .ok (.iload_n 2, 1) := by decide +kernel
theorem dX6_order_83 : decode cX6_order 83 = .ok (.iload_n 3, 1) := by decide +kernel
theorem dX6_order_84 : decode cX6_order 84 = .ok (.invokevirtual 106, 3) := by decide +kernel
theorem dX6_order_87 : decode cX6_order 87 = .ok (.iload_n 3, 1) := by decide +kernel
theorem dX6_order_88 : decode cX6_order 88 = .ok (.ireturn, 1) := by decide +kernel
theorem dX6_put_0 : decode cX6_put 0 = .ok (.iload_n 1, 1) := by decide +kernel
theorem dX6_put_1 : decode cX6_put 1 = .ok (.bipush 6, 2) := by decide +kernel
theorem dX6_put_3 : decode cX6_put 3 = .ok (.invokestatic 40, 3) := by decide +kernel
theorem dX6_put_6 : decode cX6_put 6 = .ok (.ifCond .ne 5, 3) := by decide +kernel
theorem dX6_put_9 : decode cX6_put 9 = .ok (.iconst (-1), 1) := by decide +kernel
theorem dX6_put_10 : decode cX6_put 10 = .ok (.ireturn, 1) := by decide +kernel
theorem dX6_put_11 : decode cX6_put 11 = .ok (.iload_n 2, 1) := by decide +kernel
