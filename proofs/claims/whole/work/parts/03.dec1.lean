theorem dX0_init_0 : decode cX0_init 0 = .ok (.aload_n 0, 1) := by decide +kernel
theorem dX0_init_1 : decode cX0_init 1 = .ok (.invokespecial 3, 3) := by decide +kernel
theorem dX0_init_4 : decode cX0_init 4 = .ok (.aload_n 0, 1) := by decide +kernel
theorem dX0_init_5 : decode cX0_init 5 = .ok (.iconst 4, 1) := by decide +kernel
theorem dX0_init_6 : decode cX0_init 6 = .ok (.newarray .int, 2) := by decide +kernel
theorem dX0_init_8 : decode cX0_init 8 = .ok (.putfield 9, 3) := by decide +kernel
theorem dX0_init_11 : decode cX0_init 11 = .ok (.aload_n 0, 1) := by decide +kernel
theorem dX0_init_12 : decode cX0_init 12 = .ok (.bipush 124, 2) := by decide +kernel
theorem dX0_init_14 : decode cX0_init 14 = .ok (.newarray .int, 2) := by decide +kernel
theorem dX0_init_16 : decode cX0_init 16 = .ok (.putfield 15, 3) := by decide +kernel
theorem dX0_init_19 : decode cX0_init 19 = .ok (.aload_n 0, 1) := by decide +kernel
theorem dX0_init_20 : decode cX0_init 20 = .ok (.bipush 124, 2) := by decide +kernel
theorem dX0_init_22 : decode cX0_init 22 = .ok (.newarray .int, 2) := by decide +kernel
theorem dX0_init_24 : decode cX0_init 24 = .ok (.putfield 18, 3) := by decide +kernel
theorem dX0_init_27 : decode cX0_init 27 = .ok (.aload_n 0, 1) := by decide +kernel
theorem dX0_init_28 : decode cX0_init 28 = .ok (.bipush 124, 2) := by decide +kernel
theorem dX0_init_30 : decode cX0_init 30 = .ok (.newarray .int, 2) := by decide +kernel
theorem dX0_init_32 : decode cX0_init 32 = .ok (.putfield 21, 3) := by decide +kernel
theorem dX0_init_35 : decode cX0_init 35 = .ok (.aload_n 0, 1) := by decide +kernel
theorem dX0_init_36 : decode cX0_init 36 = .ok (.bipush 124, 2) := by decide +kernel
theorem dX0_init_38 : decode cX0_init 38 = .ok (.newarray .int, 2) := by decide +kernel
theorem dX0_init_40 : decode cX0_init 40 = .ok (.putfield 24, 3) := by decide +kernel
theorem dX0_init_43 : decode cX0_init 43 = .ok (.return_, 1) := by decide +kernel
theorem dX0_become_0 : decode cX0_become 0 = .ok (.aload_n 1, 1) := by decide +kernel
theorem dX0_become_1 : decode cX0_become 1 = .ok (.getfield 9, 3) := by decide +kernel
theorem dX0_become_4 : decode cX0_become 4 = .ok (.iconst 0, 1) := by decide +kernel
theorem dX0_become_5 : decode cX0_become 5 = .ok (.aload_n 0, 1) := by decide +kernel
theorem dX0_become_6 : decode cX0_become 6 = .ok (.getfield 9, 3) := by decide +kernel
theorem dX0_become_9 : decode cX0_become 9 = .ok (.iconst 0, 1) := by decide +kernel
theorem dX0_become_10 : decode cX0_become 10 = .ok (.aload_n 0, 1) := by decide +kernel
theorem dX0_become_11 : decode cX0_become 11 = .ok (.getfield 9, 3) := by decide +kernel
theorem dX0_become_14 : decode cX0_become 14 = .ok (.arraylength, 1) := by decide +kernel
theorem dX0_become_15 : decode cX0_become 15 = .ok (.invokestatic 27, 3) := by decide +kernel
theorem dX0_become_18 : decode cX0_become 18 = .ok (.aload_n 1, 1) := by decide +kernel
theorem dX0_become_19 : decode cX0_become 19 = .ok (.getfield 15, 3) := by decide +kernel
theorem dX0_become_22 : decode cX0_become 22 = .ok (.iconst 0, 1) := by decide +kernel
theorem dX0_become_23 : decode cX0_become 23 = .ok (.aload_n 0, 1) := by decide +kernel
theorem dX0_become_24 : decode cX0_become 24 = .ok (.getfield 15, 3) := by decide +kernel
theorem dX0_become_27 : decode cX0_become 27 = .ok (.iconst 0, 1) := by decide +kernel
theorem dX0_become_28 : decode cX0_become 28 = .ok (.aload_n 0, 1) := by decide +kernel
theorem dX0_become_29 : decode cX0_become 29 = .ok (.getfield 15, 3) := by decide +kernel
theorem dX0_become_32 : decode cX0_become 32 = .ok (.arraylength, 1) := by decide +kernel
theorem dX0_become_33 : decode cX0_become 33 = .ok (.invokestatic 27, 3) := by decide +kernel
theorem dX0_become_36 : decode cX0_become 36 = .ok (.aload_n 1, 1) := by decide +kernel
theorem dX0_become_37 : decode cX0_become 37 = .ok (.getfield 18, 3) := by decide +kernel
theorem dX0_become_40 : decode cX0_become 40 = .ok (.iconst 0, 1) := by decide +kernel
theorem dX0_become_41 : decode cX0_become 41 = .ok (.aload_n 0, 1) := by decide +kernel
theorem dX0_become_42 : decode cX0_become 42 = .ok (.getfield 18, 3) := by decide +kernel
theorem dX0_become_45 : decode cX0_become 45 = .ok (.iconst 0, 1) := by decide +kernel
theorem dX0_become_46 : decode cX0_become 46 = .ok (.aload_n 0, 1) := by decide +kernel
theorem dX0_become_47 : decode cX0_become 47 = .ok (.getfield 18, 3) := by decide +kernel
theorem dX0_become_50 : decode cX0_become 50 = .ok (.arraylength, 1) := by decide +kernel
theorem dX0_become_51 : decode cX0_become 51 = .ok (.invokestatic 27, 3) := by decide +kernel
theorem dX0_become_54 : decode cX0_become 54 = .ok (.aload_n 1, 1) := by decide +kernel
theorem dX0_become_55 : decode cX0_become 55 = .ok (.getfield 21, 3) := by decide +kernel
theorem dX0_become_58 : decode cX0_become 58 = .ok (.iconst 0, 1) := by decide +kernel
theorem dX0_become_59 : decode cX0_become 59 = .ok (.aload_n 0, 1) := by decide +kernel
theorem dX0_become_60 : decode cX0_become 60 = .ok (.getfield 21, 3) := by decide +kernel
theorem dX0_become_63 : decode cX0_become 63 = .ok (.iconst 0, 1) := by decide +kernel
theorem dX0_become_64 : decode cX0_become 64 = .ok (.aload_n 0, 1) := by decide +kernel
theorem dX0_become_65 : decode cX0_become 65 = .ok (.getfield 21, 3) := by decide +kernel
theorem dX0_become_68 : decode cX0_become 68 = .ok (.arraylength, 1) := by decide +kernel
theorem dX0_become_69 : decode cX0_become 69 = .ok (.invokestatic 27, 3) := by decide +kernel
theorem dX0_become_72 : decode cX0_become 72 = .ok (.return_, 1) := by decide +kernel
theorem dX0_madeInAll_0 : decode cX0_madeInAll 0 = .ok (.iconst 0, 1) := by decide +kernel
theorem dX0_madeInAll_1 : decode cX0_madeInAll 1 = .ok (.istore_n 1, 1) := by decide +kernel
theorem dX0_madeInAll_2 : decode cX0_madeInAll 2 = .ok (.iconst 0, 1) := by decide +kernel
theorem dX0_madeInAll_3 : decode cX0_madeInAll 3 = .ok (.istore_n 2, 1) := by decide +kernel
theorem dX0_madeInAll_4 : decode cX0_madeInAll 4 = .ok (.iload_n 2, 1) := by decide +kernel
theorem dX0_madeInAll_5 : decode cX0_madeInAll 5 = .ok (.iconst 4, 1) := by decide +kernel
theorem dX0_madeInAll_6 : decode cX0_madeInAll 6 = .ok (.if_icmp .ge 18, 3) := by decide +kernel
theorem dX0_madeInAll_9 : decode cX0_madeInAll 9 = .ok (.iload_n 1, 1) := by decide +kernel
theorem dX0_madeInAll_10 : decode cX0_madeInAll 10 = .ok (.aload_n 0, 1) := by decide +kernel
theorem dX0_madeInAll_11 : decode cX0_madeInAll 11 = .ok (.getfield 9, 3) := by decide +kernel
theorem dX0_madeInAll_14 : decode cX0_madeInAll 14 = .ok (.iload_n 2, 1) := by decide +kernel
theorem dX0_madeInAll_15 : decode cX0_madeInAll 15 = .ok (.iaload, 1) := by decide +kernel
theorem dX0_madeInAll_16 : decode cX0_madeInAll 16 = .ok (.iadd, 1) := by decide +kernel
theorem dX0_madeInAll_17 : decode cX0_madeInAll 17 = .ok (.istore_n 1, 1) := by decide +kernel
theorem dX0_madeInAll_18 : decode cX0_madeInAll 18 = .ok (.iinc 2 1, 3) := by decide +kernel
theorem dX0_madeInAll_21 : decode cX0_madeInAll 21 = .ok (.goto (-17), 3) := by decide +kernel
theorem dX0_madeInAll_24 : decode cX0_madeInAll 24 = .ok (.iload_n 1, 1) := by decide +kernel
theorem dX0_madeInAll_25 : decode cX0_madeInAll 25 = .ok (.ireturn, 1) := by decide +kernel
theorem dX0_make_0 : decode cX0_make 0 = .ok (.aload_n 0, 1) := by decide +kernel
theorem dX0_make_1 : decode cX0_make 1 = .ok (.getfield 9, 3) := by decide +kernel
theorem dX0_make_4 : decode cX0_make 4 = .ok (.iload_n 1, 1) := by decide +kernel
theorem dX0_make_5 : decode cX0_make 5 = .ok (.iaload, 1) := by decide +kernel
theorem dX0_make_6 : decode cX0_make 6 = .ok (.istore 5, 2) := by decide +kernel
theorem dX0_make_8 : decode cX0_make 8 = .ok (.iload_n 1, 1) := by decide +kernel
theorem dX0_make_9 : decode cX0_make 9 = .ok (.iload 5, 2) := by decide +kernel
theorem dX0_make_11 : decode cX0_make 11 = .ok (.invokestatic 33, 3) := by decide +kernel
theorem dX0_make_14 : decode cX0_make 14 = .ok (.istore 6, 2) := by decide +kernel
theorem dX0_make_16 : decode cX0_make 16 = .ok (.aload_n 0, 1) := by decide +kernel
theorem dX0_make_17 : decode cX0_make 17 = .ok (.getfield 18, 3) := by decide +kernel
theorem dX0_make_20 : decode cX0_make 20 = .ok (.iload 6, 2) := by decide +kernel
theorem dX0_make_22 : decode cX0_make 22 = .ok (.iconst 1, 1) := by decide +kernel
theorem dX0_make_23 : decode cX0_make 23 = .ok (.aload_n 0, 1) := by decide +kernel
theorem dX0_make_24 : decode cX0_make 24 = .ok (.aload_n 2, 1) := by decide +kernel
theorem dX0_make_25 : decode cX0_make 25 = .ok (.invokevirtual 37, 3) := by decide +kernel
theorem dX0_make_28 : decode cX0_make 28 = .ok (.iadd, 1) := by decide +kernel
theorem dX0_make_29 : decode cX0_make 29 = .ok (.iastore, 1) := by decide +kernel
theorem dX0_make_30 : decode cX0_make 30 = .ok (.aload_n 0, 1) := by decide +kernel
theorem dX0_make_31 : decode cX0_make 31 = .ok (.getfield 15, 3) := by decide +kernel
theorem dX0_make_34 : decode cX0_make 34 = .ok (.iload 6, 2) := by decide +kernel
theorem dX0_make_36 : decode cX0_make 36 = .ok (.iload 4, 2) := by decide +kernel
theorem dX0_make_38 : decode cX0_make 38 = .ok (.iastore, 1) := by decide +kernel
theorem dX0_make_39 : decode cX0_make 39 = .ok (.aload_n 0, 1) := by decide +kernel
theorem dX0_make_40 : decode cX0_make 40 = .ok (.getfield 21, 3) := by decide +kernel
theorem dX0_make_43 : decode cX0_make 43 = .ok (.iload 6, 2) := by decide +kernel
theorem dX0_make_45 : decode cX0_make 45 = .ok (.iload_n 3, 1) := by decide +kernel
theorem dX0_make_46 : decode cX0_make 46 = .ok (.iastore, 1) := by decide +kernel
theorem dX0_make_47 : decode cX0_make 47 = .ok (.aload_n 0, 1) := by decide +kernel
theorem dX0_make_48 : decode cX0_make 48 = .ok (.getfield 9, 3) := by decide +kernel
theorem dX0_make_51 : decode cX0_make 51 = .ok (.iload_n 1, 1) := by decide +kernel
theorem dX0_make_52 : decode cX0_make 52 = .ok (.dup2, 1) := by decide +kernel
theorem dX0_make_53 : decode cX0_make 53 = .ok (.iaload, 1) := by decide +kernel
theorem dX0_make_54 : decode cX0_make 54 = .ok (.iconst 1, 1) := by decide +kernel
theorem dX0_make_55 : decode cX0_make 55 = .ok (.iadd, 1) := by decide +kernel
theorem dX0_make_56 : decode cX0_make 56 = .ok (.iastore, 1) := by decide +kernel
theorem dX0_make_57 : decode cX0_make 57 = .ok (.iload 5, 2) := by decide +kernel
theorem dX0_make_59 : decode cX0_make 59 = .ok (.ireturn, 1) := by decide +kernel
theorem dX0_greatestStampHeard_0 : decode cX0_greatestStampHeard 0 = .ok (.iconst 0, 1) := by decide +kernel
theorem dX0_greatestStampHeard_1 : decode cX0_greatestStampHeard 1 = .ok (.istore_n 2, 1) := by decide +kernel
theorem dX0_greatestStampHeard_2 : decode cX0_greatestStampHeard 2 = .ok (.iconst 0, 1) := by decide +kernel
theorem dX0_greatestStampHeard_3 : decode cX0_greatestStampHeard 3 = .ok (.istore_n 3, 1) := by decide +kernel
theorem dX0_greatestStampHeard_4 : decode cX0_greatestStampHeard 4 = .ok (.iload_n 3, 1) := by decide +kernel
theorem dX0_greatestStampHeard_5 : decode cX0_greatestStampHeard 5 = .ok (.iconst 4, 1) := by decide +kernel
theorem dX0_greatestStampHeard_6 : decode cX0_greatestStampHeard 6 = .ok (.if_icmp .ge 60, 3) := by decide +kernel
theorem dX0_greatestStampHeard_9 : decode cX0_greatestStampHeard 9 = .ok (.iconst 0, 1) := by decide +kernel
theorem dX0_greatestStampHeard_10 : decode cX0_greatestStampHeard 10 = .ok (.istore 4, 2) := by decide +kernel
theorem dX0_greatestStampHeard_12 : decode cX0_greatestStampHeard 12 = .ok (.iload 4, 2) := by decide +kernel
theorem dX0_greatestStampHeard_14 : decode cX0_greatestStampHeard 14 = .ok (.aload_n 0, 1) := by decide +kernel
theorem dX0_greatestStampHeard_15 : decode cX0_greatestStampHeard 15 = .ok (.getfield 9, 3) := by decide +kernel
theorem dX0_greatestStampHeard_18 : decode cX0_greatestStampHeard 18 = .ok (.iload_n 3, 1) := by decide +kernel
theorem dX0_greatestStampHeard_19 : decode cX0_greatestStampHeard 19 = .ok (.iaload, 1) := by decide +kernel
theorem dX0_greatestStampHeard_20 : decode cX0_greatestStampHeard 20 = .ok (.if_icmp .ge 40, 3) := by decide +kernel
theorem dX0_greatestStampHeard_23 : decode cX0_greatestStampHeard 23 = .ok (.aload_n 1, 1) := by decide +kernel
theorem dX0_greatestStampHeard_24 : decode cX0_greatestStampHeard 24 = .ok (.getfield 41, 3) := by decide +kernel
theorem dX0_greatestStampHeard_27 : decode cX0_greatestStampHeard 27 = .ok (.iload_n 3, 1) := by decide +kernel
theorem dX0_greatestStampHeard_28 : decode cX0_greatestStampHeard 28 = .ok (.iaload, 1) := by decide +kernel
theorem dX0_greatestStampHeard_29 : decode cX0_greatestStampHeard 29 = .ok (.iload 4, 2) := by decide +kernel
theorem dX0_greatestStampHeard_31 : decode cX0_greatestStampHeard 31 = .ok (.iushr, 1) := by decide +kernel
theorem dX0_greatestStampHeard_32 : decode cX0_greatestStampHeard 32 = .ok (.iconst 1, 1) := by decide +kernel
theorem dX0_greatestStampHeard_33 : decode cX0_greatestStampHeard 33 = .ok (.iand, 1) := by decide +kernel
theorem dX0_greatestStampHeard_34 : decode cX0_greatestStampHeard 34 = .ok (.iconst 1, 1) := by decide +kernel
theorem dX0_greatestStampHeard_35 : decode cX0_greatestStampHeard 35 = .ok (.if_icmp .ne 19, 3) := by decide +kernel
theorem dX0_greatestStampHeard_38 : decode cX0_greatestStampHeard 38 = .ok (.iload_n 2, 1) := by decide +kernel
theorem dX0_greatestStampHeard_39 : decode cX0_greatestStampHeard 39 = .ok (.aload_n 0, 1) := by decide +kernel
theorem dX0_greatestStampHeard_40 : decode cX0_greatestStampHeard 40 = .ok (.getfield 18, 3) := by decide +kernel
theorem dX0_greatestStampHeard_43 : decode cX0_greatestStampHeard 43 = .ok (.iload_n 3, 1) := by decide +kernel
theorem dX0_greatestStampHeard_44 : decode cX0_greatestStampHeard 44 = .ok (.iload 4, 2) := by decide +kernel
theorem dX0_greatestStampHeard_46 : decode cX0_greatestStampHeard 46 = .ok (.invokestatic 33, 3) := by decide +kernel
theorem dX0_greatestStampHeard_49 : decode cX0_greatestStampHeard 49 = .ok (.iaload, 1) := by decide +kernel
theorem dX0_greatestStampHeard_50 : decode cX0_greatestStampHeard 50 = .ok (.invokestatic 46, 3) := by decide +kernel
theorem dX0_greatestStampHeard_53 : decode cX0_greatestStampHeard 53 = .ok (.istore_n 2, 1) := by decide +kernel
theorem dX0_greatestStampHeard_54 : decode cX0_greatestStampHeard 54 = .ok (.iinc 4 1, 3) := by decide +kernel
theorem dX0_greatestStampHeard_57 : decode cX0_greatestStampHeard 57 = .ok (.goto (-45), 3) := by decide +kernel
theorem dX0_greatestStampHeard_60 : decode cX0_greatestStampHeard 60 = .ok (.iinc 3 1, 3) := by decide +kernel
theorem dX0_greatestStampHeard_63 : decode cX0_greatestStampHeard 63 = .ok (.goto (-59), 3) := by decide +kernel
theorem dX0_greatestStampHeard_66 : decode cX0_greatestStampHeard 66 = .ok (.iload_n 2, 1) := by decide +kernel
theorem dX0_greatestStampHeard_67 : decode cX0_greatestStampHeard 67 = .ok (.ireturn, 1) := by decide +kernel
theorem dX0_gather_0 : decode cX0_gather 0 = .ok (.iconst 0, 1) := by decide +kernel
theorem dX0_gather_1 : decode cX0_gather 1 = .ok (.istore_n 3, 1) := by decide +kernel
theorem dX0_gather_2 : decode cX0_gather 2 = .ok (.iconst 0, 1) := by decide +kernel
theorem dX0_gather_3 : decode cX0_gather 3 = .ok (.istore 4, 2) := by decide +kernel
theorem dX0_gather_5 : decode cX0_gather 5 = .ok (.iload 4, 2) := by decide +kernel
theorem dX0_gather_7 : decode cX0_gather 7 = .ok (.iconst 4, 1) := by decide +kernel
theorem dX0_gather_8 : decode cX0_gather 8 = .ok (.if_icmp .ge 77, 3) := by decide +kernel
theorem dX0_gather_11 : decode cX0_gather 11 = .ok (.iconst 0, 1) := by decide +kernel
theorem dX0_gather_12 : decode cX0_gather 12 = .ok (.istore 5, 2) := by decide +kernel
theorem dX0_gather_14 : decode cX0_gather 14 = .ok (.iload 5, 2) := by decide +kernel
theorem dX0_gather_16 : decode cX0_gather 16 = .ok (.aload_n 0, 1) := by decide +kernel
theorem dX0_gather_17 : decode cX0_gather 17 = .ok (.getfield 9, 3) := by decide +kernel
theorem dX0_gather_20 : decode cX0_gather 20 = .ok (.iload 4, 2) := by decide +kernel
theorem dX0_gather_22 : decode cX0_gather 22 = .ok (.iaload, 1) := by decide +kernel
theorem dX0_gather_23 : decode cX0_gather 23 = .ok (.if_icmp .ge 56, 3) := by decide +kernel
theorem dX0_gather_26 : decode cX0_gather 26 = .ok (.iload 4, 2) := by decide +kernel
theorem dX0_gather_28 : decode cX0_gather 28 = .ok (.iload 5, 2) := by decide +kernel
theorem dX0_gather_30 : decode cX0_gather 30 = .ok (.invokestatic 33, 3) := by decide +kernel
theorem dX0_gather_33 : decode cX0_gather 33 = .ok (.istore 6, 2) := by decide +kernel
theorem dX0_gather_35 : decode cX0_gather 35 = .ok (.aload_n 1, 1) := by decide +kernel
theorem dX0_gather_36 : decode cX0_gather 36 = .ok (.getfield 51, 3) := by decide +kernel
theorem dX0_gather_39 : decode cX0_gather 39 = .ok (.iload 4, 2) := by decide +kernel
theorem dX0_gather_41 : decode cX0_gather 41 = .ok (.iaload, 1) := by decide +kernel
theorem dX0_gather_42 : decode cX0_gather 42 = .ok (.iload 5, 2) := by decide +kernel
theorem dX0_gather_44 : decode cX0_gather 44 = .ok (.iushr, 1) := by decide +kernel
theorem dX0_gather_45 : decode cX0_gather 45 = .ok (.iconst 1, 1) := by decide +kernel
theorem dX0_gather_46 : decode cX0_gather 46 = .ok (.iand, 1) := by decide +kernel
theorem dX0_gather_47 : decode cX0_gather 47 = .ok (.iconst 1, 1) := by decide +kernel
theorem dX0_gather_48 : decode cX0_gather 48 = .ok (.if_icmp .ne 25, 3) := by decide +kernel
theorem dX0_gather_51 : decode cX0_gather 51 = .ok (.aload_n 0, 1) := by decide +kernel
theorem dX0_gather_52 : decode cX0_gather 52 = .ok (.getfield 21, 3) := by decide +kernel
theorem dX0_gather_55 : decode cX0_gather 55 = .ok (.iload 6, 2) := by decide +kernel
theorem dX0_gather_57 : decode cX0_gather 57 = .ok (.iaload, 1) := by decide +kernel
theorem dX0_gather_58 : decode cX0_gather 58 = .ok (.iload_n 2, 1) := by decide +kernel
theorem dX0_gather_59 : decode cX0_gather 59 = .ok (.if_icmp .ne 14, 3) := by decide +kernel
theorem dX0_gather_62 : decode cX0_gather 62 = .ok (.aload_n 0, 1) := by decide +kernel
theorem dX0_gather_63 : decode cX0_gather 63 = .ok (.getfield 24, 3) := by decide +kernel
theorem dX0_gather_66 : decode cX0_gather 66 = .ok (.iload_n 3, 1) := by decide +kernel
theorem dX0_gather_67 : decode cX0_gather 67 = .ok (.iload 6, 2) := by decide +kernel
theorem dX0_gather_69 : decode cX0_gather 69 = .ok (.iastore, 1) := by decide +kernel
theorem dX0_gather_70 : decode cX0_gather 70 = .ok (.iinc 3 1, 3) := by decide +kernel
theorem dX0_gather_73 : decode cX0_gather 73 = .ok (.iinc 5 1, 3) := by decide +kernel
theorem dX0_gather_76 : decode cX0_gather 76 = .ok (.goto (-62), 3) := by decide +kernel
theorem dX0_gather_79 : decode cX0_gather 79 = .ok (.iinc 4 1, 3) := by decide +kernel
theorem dX0_gather_82 : decode cX0_gather 82 = .ok (.goto (-77), 3) := by decide +kernel
theorem dX0_gather_85 : decode cX0_gather 85 = .ok (.iload_n 3, 1) := by decide +kernel
theorem dX0_gather_86 : decode cX0_gather 86 = .ok (.ireturn, 1) := by decide +kernel
theorem dX0_markAll_0 : decode cX0_markAll 0 = .ok (.aload_n 0, 1) := by decide +kernel
theorem dX0_markAll_1 : decode cX0_markAll 1 = .ok (.aload_n 1, 1) := by decide +kernel
theorem dX0_markAll_2 : decode cX0_markAll 2 = .ok (.iload_n 2, 1) := by decide +kernel
theorem dX0_markAll_3 : decode cX0_markAll 3 = .ok (.ldc 54, 2) := by decide +kernel
theorem dX0_markAll_5 : decode cX0_markAll 5 = .ok (.ldc 55, 2) := by decide +kernel
theorem dX0_markAll_7 : decode cX0_markAll 7 = .ok (.aload_n 3, 1) := by decide +kernel
theorem dX0_markAll_8 : decode cX0_markAll 8 = .ok (.invokevirtual 56, 3) := by decide +kernel
theorem dX0_markAll_11 : decode cX0_markAll 11 = .ok (.return_, 1) := by decide +kernel
theorem dX0_markOfValue_0 : decode cX0_markOfValue 0 = .ok (.aload_n 0, 1) := by decide +kernel
theorem dX0_markOfValue_1 : decode cX0_markOfValue 1 = .ok (.aload_n 1, 1) := by decide +kernel
theorem dX0_markOfValue_2 : decode cX0_markOfValue 2 = .ok (.iload_n 2, 1) := by decide +kernel
theorem dX0_markOfValue_3 : decode cX0_markOfValue 3 = .ok (.iload_n 3, 1) := by decide +kernel
theorem dX0_markOfValue_4 : decode cX0_markOfValue 4 = .ok (.iload_n 3, 1) := by decide +kernel
theorem dX0_markOfValue_5 : decode cX0_markOfValue 5 = .ok (.aload 4, 2) := by decide +kernel
theorem dX0_markOfValue_7 : decode cX0_markOfValue 7 = .ok (.invokevirtual 56, 3) := by decide +kernel
theorem dX0_markOfValue_10 : decode cX0_markOfValue 10 = .ok (.return_, 1) := by decide +kernel
theorem dX0_markBetween_0 : decode cX0_markBetween 0 = .ok (.aload_n 0, 1) := by decide +kernel
theorem dX0_markBetween_1 : decode cX0_markBetween 1 = .ok (.aload_n 1, 1) := by decide +kernel
theorem dX0_markBetween_2 : decode cX0_markBetween 2 = .ok (.iload_n 2, 1) := by decide +kernel
theorem dX0_markBetween_3 : decode cX0_markBetween 3 = .ok (.invokevirtual 60, 3) := by decide +kernel
theorem dX0_markBetween_6 : decode cX0_markBetween 6 = .ok (.istore 6, 2) := by decide +kernel
theorem dX0_markBetween_8 : decode cX0_markBetween 8 = .ok (.iconst 0, 1) := by decide +kernel
theorem dX0_markBetween_9 : decode cX0_markBetween 9 = .ok (.istore 7, 2) := by decide +kernel
theorem dX0_markBetween_11 : decode cX0_markBetween 11 = .ok (.iload 7, 2) := by decide +kernel
theorem dX0_markBetween_13 : decode cX0_markBetween 13 = .ok (.iload 6, 2) := by decide +kernel
theorem dX0_markBetween_15 : decode cX0_markBetween 15 = .ok (.if_icmp .ge 61, 3) := by decide +kernel
theorem dX0_markBetween_18 : decode cX0_markBetween 18 = .ok (.aload_n 0, 1) := by decide +kernel
theorem dX0_markBetween_19 : decode cX0_markBetween 19 = .ok (.getfield 15, 3) := by decide +kernel
theorem dX0_markBetween_22 : decode cX0_markBetween 22 = .ok (.aload_n 0, 1) := by decide +kernel
theorem dX0_markBetween_23 : decode cX0_markBetween 23 = .ok (.getfield 24, 3) := by decide +kernel
theorem dX0_markBetween_26 : decode cX0_markBetween 26 = .ok (.iload 7, 2) := by decide +kernel
theorem dX0_markBetween_28 : decode cX0_markBetween 28 = .ok (.iaload, 1) := by decide +kernel
theorem dX0_markBetween_29 : decode cX0_markBetween 29 = .ok (.iaload, 1) := by decide +kernel
theorem dX0_markBetween_30 : decode cX0_markBetween 30 = .ok (.istore 8, 2) := by decide +kernel
theorem dX0_markBetween_32 : decode cX0_markBetween 32 = .ok (.iload 8, 2) := by decide +kernel
theorem dX0_markBetween_34 : decode cX0_markBetween 34 = .ok (.iload_n 3, 1) := by decide +kernel
theorem dX0_markBetween_35 : decode cX0_markBetween 35 = .ok (.if_icmp .lt 35, 3) := by decide +kernel
theorem dX0_markBetween_38 : decode cX0_markBetween 38 = .ok (.iload 8, 2) := by decide +kernel
theorem dX0_markBetween_40 : decode cX0_markBetween 40 = .ok (.iload 4, 2) := by decide +kernel
theorem dX0_markBetween_42 : decode cX0_markBetween 42 = .ok (.if_icmp .gt 28, 3) := by decide +kernel
theorem dX0_markBetween_45 : decode cX0_markBetween 45 = .ok (.aload 5, 2) := by decide +kernel
theorem dX0_markBetween_47 : decode cX0_markBetween 47 = .ok (.aload_n 0, 1) := by decide +kernel
theorem dX0_markBetween_48 : decode cX0_markBetween 48 = .ok (.getfield 24, 3) := by decide +kernel
theorem dX0_markBetween_51 : decode cX0_markBetween 51 = .ok (.iload 7, 2) := by decide +kernel
theorem dX0_markBetween_53 : decode cX0_markBetween 53 = .ok (.iaload, 1) := by decide +kernel
theorem dX0_markBetween_54 : decode cX0_markBetween 54 = .ok (.bipush 31, 2) := by decide +kernel
theorem dX0_markBetween_56 : decode cX0_markBetween 56 = .ok (.idiv, 1) := by decide +kernel
theorem dX0_markBetween_57 : decode cX0_markBetween 57 = .ok (.aload_n 0, 1) := by decide +kernel
theorem dX0_markBetween_58 : decode cX0_markBetween 58 = .ok (.getfield 24, 3) := by decide +kernel
theorem dX0_markBetween_61 : decode cX0_markBetween 61 = .ok (.iload 7, 2) := by decide +kernel
theorem dX0_markBetween_63 : decode cX0_markBetween 63 = .ok (.iaload, 1) := by decide +kernel
theorem dX0_markBetween_64 : decode cX0_markBetween 64 = .ok (.bipush 31, 2) := by decide +kernel
theorem dX0_markBetween_66 : decode cX0_markBetween 66 = .ok (.irem, 1) := by decide +kernel
theorem dX0_markBetween_67 : decode cX0_markBetween 67 = .ok (.invokevirtual 64, 3) := by decide +kernel
theorem dX0_markBetween_70 : decode cX0_markBetween 70 = .ok (.iinc 7 1, 3) := by decide +kernel
theorem dX0_markBetween_73 : decode cX0_markBetween 73 = .ok (.goto (-62), 3) := by decide +kernel
theorem dX0_markBetween_76 : decode cX0_markBetween 76 = .ok (.return_, 1) := by decide +kernel
theorem dX0_worthAs_0 : decode cX0_worthAs 0 = .ok (.aload_n 0, 1) := by decide +kernel
theorem dX0_worthAs_1 : decode cX0_worthAs 1 = .ok (.aload_n 1, 1) := by decide +kernel
theorem dX0_worthAs_2 : decode cX0_worthAs 2 = .ok (.iload_n 2, 1) := by decide +kernel
theorem dX0_worthAs_3 : decode cX0_worthAs 3 = .ok (.invokevirtual 60, 3) := by decide +kernel
theorem dX0_worthAs_6 : decode cX0_worthAs 6 = .ok (.istore 4, 2) := by decide +kernel
theorem dX0_worthAs_8 : decode cX0_worthAs 8 = .ok (.iload_n 3, 1) := by decide +kernel
theorem dX0_worthAs_9 : decode cX0_worthAs 9 = .ok (.tableswitch 62 2 5 #[31, 38, 46, 54], 31) := by decide +kernel
theorem dX0_worthAs_40 : decode cX0_worthAs 40 = .ok (.aload_n 0, 1) := by decide +kernel
theorem dX0_worthAs_41 : decode cX0_worthAs 41 = .ok (.iload 4, 2) := by decide +kernel
theorem dX0_worthAs_43 : decode cX0_worthAs 43 = .ok (.invokevirtual 68, 3) := by decide +kernel
theorem dX0_worthAs_46 : decode cX0_worthAs 46 = .ok (.lreturn, 1) := by decide +kernel
theorem dX0_worthAs_47 : decode cX0_worthAs 47 = .ok (.aload_n 0, 1) := by decide +kernel
theorem dX0_worthAs_48 : decode cX0_worthAs 48 = .ok (.iload 4, 2) := by decide +kernel
theorem dX0_worthAs_50 : decode cX0_worthAs 50 = .ok (.invokevirtual 72, 3) := by decide +kernel
theorem dX0_worthAs_53 : decode cX0_worthAs 53 = .ok (.i2l, 1) := by decide +kernel
theorem dX0_worthAs_54 : decode cX0_worthAs 54 = .ok (.lreturn, 1) := by decide +kernel
theorem dX0_worthAs_55 : decode cX0_worthAs 55 = .ok (.aload_n 0, 1) := by decide +kernel
theorem dX0_worthAs_56 : decode cX0_worthAs 56 = .ok (.iload 4, 2) := by decide +kernel
theorem dX0_worthAs_58 : decode cX0_worthAs 58 = .ok (.invokevirtual 76, 3) := by decide +kernel
theorem dX0_worthAs_61 : decode cX0_worthAs 61 = .ok (.i2l, 1) := by decide +kernel
theorem dX0_worthAs_62 : decode cX0_worthAs 62 = .ok (.lreturn, 1) := by decide +kernel
theorem dX0_worthAs_63 : decode cX0_worthAs 63 = .ok (.aload_n 0, 1) := by decide +kernel
theorem dX0_worthAs_64 : decode cX0_worthAs 64 = .ok (.iload 4, 2) := by decide +kernel
theorem dX0_worthAs_66 : decode cX0_worthAs 66 = .ok (.invokevirtual 79, 3) := by decide +kernel
theorem dX0_worthAs_69 : decode cX0_worthAs 69 = .ok (.i2l, 1) := by decide +kernel
theorem dX0_worthAs_70 : decode cX0_worthAs 70 = .ok (.lreturn, 1) := by decide +kernel
theorem dX0_worthAs_71 : decode cX0_worthAs 71 = .ok (.iload 4, 2) := by decide +kernel
theorem dX0_worthAs_73 : decode cX0_worthAs 73 = .ok (.i2l, 1) := by decide +kernel
theorem dX0_worthAs_74 : decode cX0_worthAs 74 = .ok (.lreturn, 1) := by decide +kernel
theorem dX0_sumOfGathered_0 : decode cX0_sumOfGathered 0 = .ok (.lconst 0, 1) := by decide +kernel
theorem dX0_sumOfGathered_1 : decode cX0_sumOfGathered 1 = .ok (.lstore_n 2, 1) := by decide +kernel
theorem dX0_sumOfGathered_2 : decode cX0_sumOfGathered 2 = .ok (.iconst 0, 1) := by decide +kernel
theorem dX0_sumOfGathered_3 : decode cX0_sumOfGathered 3 = .ok (.istore 4, 2) := by decide +kernel
theorem dX0_sumOfGathered_5 : decode cX0_sumOfGathered 5 = .ok (.iload 4, 2) := by decide +kernel
theorem dX0_sumOfGathered_7 : decode cX0_sumOfGathered 7 = .ok (.iload_n 1, 1) := by decide +kernel
theorem dX0_sumOfGathered_8 : decode cX0_sumOfGathered 8 = .ok (.if_icmp .ge 25, 3) := by decide +kernel
theorem dX0_sumOfGathered_11 : decode cX0_sumOfGathered 11 = .ok (.lload_n 2, 1) := by decide +kernel
theorem dX0_sumOfGathered_12 : decode cX0_sumOfGathered 12 = .ok (.aload_n 0, 1) := by decide +kernel
theorem dX0_sumOfGathered_13 : decode cX0_sumOfGathered 13 = .ok (.getfield 15, 3) := by decide +kernel
theorem dX0_sumOfGathered_16 : decode cX0_sumOfGathered 16 = .ok (.aload_n 0, 1) := by decide +kernel
theorem dX0_sumOfGathered_17 : decode cX0_sumOfGathered 17 = .ok (.getfield 24, 3) := by decide +kernel
theorem dX0_sumOfGathered_20 : decode cX0_sumOfGathered 20 = .ok (.iload 4, 2) := by decide +kernel
theorem dX0_sumOfGathered_22 : decode cX0_sumOfGathered 22 = .ok (.iaload, 1) := by decide +kernel
theorem dX0_sumOfGathered_23 : decode cX0_sumOfGathered 23 = .ok (.iaload, 1) := by decide +kernel
theorem dX0_sumOfGathered_24 : decode cX0_sumOfGathered 24 = .ok (.i2l, 1) := by decide +kernel
theorem dX0_sumOfGathered_25 : decode cX0_sumOfGathered 25 = .ok (.ladd, 1) := by decide +kernel
theorem dX0_sumOfGathered_26 : decode cX0_sumOfGathered 26 = .ok (.lstore_n 2, 1) := by decide +kernel
theorem dX0_sumOfGathered_27 : decode cX0_sumOfGathered 27 = .ok (.iinc 4 1, 3) := by decide +kernel
theorem dX0_sumOfGathered_30 : decode cX0_sumOfGathered 30 = .ok (.goto (-25), 3) := by decide +kernel
theorem dX0_sumOfGathered_33 : decode cX0_sumOfGathered 33 = .ok (.lload_n 2, 1) := by decide +kernel
theorem dX0_sumOfGathered_34 : decode cX0_sumOfGathered 34 = .ok (.lreturn, 1) := by decide +kernel
theorem dX0_latestOfGathered_0 : decode cX0_latestOfGathered 0 = .ok (.iconst 0, 1) := by decide +kernel
theorem dX0_latestOfGathered_1 : decode cX0_latestOfGathered 1 = .ok (.istore_n 2, 1) := by decide +kernel
theorem dX0_latestOfGathered_2 : decode cX0_latestOfGathered 2 = .ok (.iconst 0, 1) := by decide +kernel
theorem dX0_latestOfGathered_3 : decode cX0_latestOfGathered 3 = .ok (.istore_n 3, 1) := by decide +kernel
theorem dX0_latestOfGathered_4 : decode cX0_latestOfGathered 4 = .ok (.iconst 0, 1) := by decide +kernel
theorem dX0_latestOfGathered_5 : decode cX0_latestOfGathered 5 = .ok (.istore 4, 2) := by decide +kernel
theorem dX0_latestOfGathered_7 : decode cX0_latestOfGathered 7 = .ok (.iload 4, 2) := by decide +kernel
theorem dX0_latestOfGathered_9 : decode cX0_latestOfGathered 9 = .ok (.iload_n 1, 1) := by decide +kernel
theorem dX0_latestOfGathered_10 : decode cX0_latestOfGathered 10 = .ok (.if_icmp .ge 45, 3) := by decide +kernel
theorem dX0_latestOfGathered_13 : decode cX0_latestOfGathered 13 = .ok (.aload_n 0, 1) := by decide +kernel
theorem dX0_latestOfGathered_14 : decode cX0_latestOfGathered 14 = .ok (.getfield 24, 3) := by decide +kernel
theorem dX0_latestOfGathered_17 : decode cX0_latestOfGathered 17 = .ok (.iload 4, 2) := by decide +kernel
theorem dX0_latestOfGathered_19 : decode cX0_latestOfGathered 19 = .ok (.iaload, 1) := by decide +kernel
theorem dX0_latestOfGathered_20 : decode cX0_latestOfGathered 20 = .ok (.istore 5, 2) := by decide +kernel
theorem dX0_latestOfGathered_22 : decode cX0_latestOfGathered 22 = .ok (.aload_n 0, 1) := by decide +kernel
theorem dX0_latestOfGathered_23 : decode cX0_latestOfGathered 23 = .ok (.getfield 18, 3) := by decide +kernel
theorem dX0_latestOfGathered_26 : decode cX0_latestOfGathered 26 = .ok (.iload 5, 2) := by decide +kernel
theorem dX0_latestOfGathered_28 : decode cX0_latestOfGathered 28 = .ok (.iaload, 1) := by decide +kernel
theorem dX0_latestOfGathered_29 : decode cX0_latestOfGathered 29 = .ok (.iload_n 2, 1) := by decide +kernel
theorem dX0_latestOfGathered_30 : decode cX0_latestOfGathered 30 = .ok (.if_icmp .lt 19, 3) := by decide +kernel
theorem dX0_latestOfGathered_33 : decode cX0_latestOfGathered 33 = .ok (.aload_n 0, 1) := by decide +kernel
theorem dX0_latestOfGathered_34 : decode cX0_latestOfGathered 34 = .ok (.getfield 18, 3) := by decide +kernel
theorem dX0_latestOfGathered_37 : decode cX0_latestOfGathered 37 = .ok (.iload 5, 2) := by decide +kernel
theorem dX0_latestOfGathered_39 : decode cX0_latestOfGathered 39 = .ok (.iaload, 1) := by decide +kernel
theorem dX0_latestOfGathered_40 : decode cX0_latestOfGathered 40 = .ok (.istore_n 2, 1) := by decide +kernel
theorem dX0_latestOfGathered_41 : decode cX0_latestOfGathered 41 = .ok (.aload_n 0, 1) := by decide +kernel
theorem dX0_latestOfGathered_42 : decode cX0_latestOfGathered 42 = .ok (.getfield 15, 3) := by decide +kernel
theorem dX0_latestOfGathered_45 : decode cX0_latestOfGathered 45 = .ok (.iload 5, 2) := by decide +kernel
theorem dX0_latestOfGathered_47 : decode cX0_latestOfGathered 47 = .ok (.iaload, 1) := by decide +kernel
theorem dX0_latestOfGathered_48 : decode cX0_latestOfGathered 48 = .ok (.istore_n 3, 1) := by decide +kernel
theorem dX0_latestOfGathered_49 : decode cX0_latestOfGathered 49 = .ok (.iinc 4 1, 3) := by decide +kernel
theorem dX0_latestOfGathered_52 : decode cX0_latestOfGathered 52 = .ok (.goto (-45), 3) := by decide +kernel
theorem dX0_latestOfGathered_55 : decode cX0_latestOfGathered 55 = .ok (.iload_n 3, 1) := by decide +kernel
theorem dX0_latestOfGathered_56 : decode cX0_latestOfGathered 56 = .ok (.ireturn, 1) := by decide +kernel
theorem dX0_mostOfGathered_0 : decode cX0_mostOfGathered 0 = .ok (.iload_n 1, 1) := by decide +kernel
theorem dX0_mostOfGathered_1 : decode cX0_mostOfGathered 1 = .ok (.ifCond .ne 5, 3) := by decide +kernel
theorem dX0_mostOfGathered_4 : decode cX0_mostOfGathered 4 = .ok (.iconst 0, 1) := by decide +kernel
theorem dX0_mostOfGathered_5 : decode cX0_mostOfGathered 5 = .ok (.ireturn, 1) := by decide +kernel
theorem dX0_mostOfGathered_6 : decode cX0_mostOfGathered 6 = .ok (.ldc 54, 2) := by decide +kernel
theorem dX0_mostOfGathered_8 : decode cX0_mostOfGathered 8 = .ok (.istore_n 2, 1) := by decide +kernel
theorem dX0_mostOfGathered_9 : decode cX0_mostOfGathered 9 = .ok (.iconst 0, 1) := by decide +kernel
theorem dX0_mostOfGathered_10 : decode cX0_mostOfGathered 10 = .ok (.istore_n 3, 1) := by decide +kernel
theorem dX0_mostOfGathered_11 : decode cX0_mostOfGathered 11 = .ok (.iload_n 3, 1) := by decide +kernel
theorem dX0_mostOfGathered_12 : decode cX0_mostOfGathered 12 = .ok (.iload_n 1, 1) := by decide +kernel
theorem dX0_mostOfGathered_13 : decode cX0_mostOfGathered 13 = .ok (.if_icmp .ge 25, 3) := by decide +kernel
theorem dX0_mostOfGathered_16 : decode cX0_mostOfGathered 16 = .ok (.iload_n 2, 1) := by decide +kernel
theorem dX0_mostOfGathered_17 : decode cX0_mostOfGathered 17 = .ok (.aload_n 0, 1) := by decide +kernel
theorem dX0_mostOfGathered_18 : decode cX0_mostOfGathered 18 = .ok (.getfield 15, 3) := by decide +kernel
theorem dX0_mostOfGathered_21 : decode cX0_mostOfGathered 21 = .ok (.aload_n 0, 1) := by decide +kernel
theorem dX0_mostOfGathered_22 : decode cX0_mostOfGathered 22 = .ok (.getfield 24, 3) := by decide +kernel
theorem dX0_mostOfGathered_25 : decode cX0_mostOfGathered 25 = .ok (.iload_n 3, 1) := by decide +kernel
theorem dX0_mostOfGathered_26 : decode cX0_mostOfGathered 26 = .ok (.iaload, 1) := by decide +kernel
theorem dX0_mostOfGathered_27 : decode cX0_mostOfGathered 27 = .ok (.iaload, 1) := by decide +kernel
theorem dX0_mostOfGathered_28 : decode cX0_mostOfGathered 28 = .ok (.invokestatic 46, 3) := by decide +kernel
theorem dX0_mostOfGathered_31 : decode cX0_mostOfGathered 31 = .ok (.istore_n 2, 1) := by decide +kernel
theorem dX0_mostOfGathered_32 : decode cX0_mostOfGathered 32 = .ok (.iinc 3 1, 3) := by decide +kernel
theorem dX0_mostOfGathered_35 : decode cX0_mostOfGathered 35 = .ok (.goto (-24), 3) := by decide +kernel
theorem dX0_mostOfGathered_38 : decode cX0_mostOfGathered 38 = .ok (.iload_n 2, 1) := by decide +kernel
theorem dX0_mostOfGathered_39 : decode cX0_mostOfGathered 39 = .ok (.ireturn, 1) := by decide +kernel
theorem dX0_meanOfGathered_0 : decode cX0_meanOfGathered 0 = .ok (.iload_n 1, 1) := by decide +kernel
theorem dX0_meanOfGathered_1 : decode cX0_meanOfGathered 1 = .ok (.ifCond .ne 5, 3) := by decide +kernel
theorem dX0_meanOfGathered_4 : decode cX0_meanOfGathered 4 = .ok (.iconst 0, 1) := by decide +kernel
theorem dX0_meanOfGathered_5 : decode cX0_meanOfGathered 5 = .ok (.ireturn, 1) := by decide +kernel
theorem dX0_meanOfGathered_6 : decode cX0_meanOfGathered 6 = .ok (.fconst 0, 1) := by decide +kernel
theorem dX0_meanOfGathered_7 : decode cX0_meanOfGathered 7 = .ok (.fstore_n 2, 1) := by decide +kernel
theorem dX0_meanOfGathered_8 : decode cX0_meanOfGathered 8 = .ok (.iconst 0, 1) := by decide +kernel
theorem dX0_meanOfGathered_9 : decode cX0_meanOfGathered 9 = .ok (.istore_n 3, 1) := by decide +kernel
theorem dX0_meanOfGathered_10 : decode cX0_meanOfGathered 10 = .ok (.iload_n 3, 1) := by decide +kernel
theorem dX0_meanOfGathered_11 : decode cX0_meanOfGathered 11 = .ok (.iload_n 1, 1) := by decide +kernel
theorem dX0_meanOfGathered_12 : decode cX0_meanOfGathered 12 = .ok (.if_icmp .ge 24, 3) := by decide +kernel
theorem dX0_meanOfGathered_15 : decode cX0_meanOfGathered 15 = .ok (.fload_n 2, 1) := by decide +kernel
theorem dX0_meanOfGathered_16 : decode cX0_meanOfGathered 16 = .ok (.aload_n 0, 1) := by decide +kernel
theorem dX0_meanOfGathered_17 : decode cX0_meanOfGathered 17 = .ok (.getfield 15, 3) := by decide +kernel
theorem dX0_meanOfGathered_20 : decode cX0_meanOfGathered 20 = .ok (.aload_n 0, 1) := by decide +kernel
theorem dX0_meanOfGathered_21 : decode cX0_meanOfGathered 21 = .ok (.getfield 24, 3) := by decide +kernel
theorem dX0_meanOfGathered_24 : decode cX0_meanOfGathered 24 = .ok (.iload_n 3, 1) := by decide +kernel
theorem dX0_meanOfGathered_25 : decode cX0_meanOfGathered 25 = .ok (.iaload, 1) := by decide +kernel
theorem dX0_meanOfGathered_26 : decode cX0_meanOfGathered 26 = .ok (.iaload, 1) := by decide +kernel
theorem dX0_meanOfGathered_27 : decode cX0_meanOfGathered 27 = .ok (.i2f, 1) := by decide +kernel
theorem dX0_meanOfGathered_28 : decode cX0_meanOfGathered 28 = .ok (.fadd, 1) := by decide +kernel
theorem dX0_meanOfGathered_29 : decode cX0_meanOfGathered 29 = .ok (.fstore_n 2, 1) := by decide +kernel
theorem dX0_meanOfGathered_30 : decode cX0_meanOfGathered 30 = .ok (.iinc 3 1, 3) := by decide +kernel
theorem dX0_meanOfGathered_33 : decode cX0_meanOfGathered 33 = .ok (.goto (-23), 3) := by decide +kernel
theorem dX0_meanOfGathered_36 : decode cX0_meanOfGathered 36 = .ok (.fload_n 2, 1) := by decide +kernel
theorem dX0_meanOfGathered_37 : decode cX0_meanOfGathered 37 = .ok (.iload_n 1, 1) := by decide +kernel
theorem dX0_meanOfGathered_38 : decode cX0_meanOfGathered 38 = .ok (.i2f, 1) := by decide +kernel
theorem dX0_meanOfGathered_39 : decode cX0_meanOfGathered 39 = .ok (.fdiv, 1) := by decide +kernel
theorem dX0_meanOfGathered_40 : decode cX0_meanOfGathered 40 = .ok (.invokestatic 82, 3) := by decide +kernel
theorem dX0_meanOfGathered_43 : decode cX0_meanOfGathered 43 = .ok (.ireturn, 1) := by decide +kernel
theorem dX1_init_0 : decode cX1_init 0 = .ok (.aload_n 0, 1) := by decide +kernel
theorem dX1_init_1 : decode cX1_init 1 = .ok (.invokespecial 3, 3) := by decide +kernel
theorem dX1_init_4 : decode cX1_init 4 = .ok (.aload_n 0, 1) := by decide +kernel
theorem dX1_init_5 : decode cX1_init 5 = .ok (.new 9, 3) := by decide +kernel
theorem dX1_init_8 : decode cX1_init 8 = .ok (.dup, 1) := by decide +kernel
theorem dX1_init_9 : decode cX1_init 9 = .ok (.invokespecial 11, 3) := by decide +kernel
theorem dX1_init_12 : decode cX1_init 12 = .ok (.putfield 12, 3) := by decide +kernel
theorem dX1_init_15 : decode cX1_init 15 = .ok (.aload_n 0, 1) := by decide +kernel
theorem dX1_init_16 : decode cX1_init 16 = .ok (.iconst 4, 1) := by decide +kernel
theorem dX1_init_17 : decode cX1_init 17 = .ok (.newarray .int, 2) := by decide +kernel
theorem dX1_init_19 : decode cX1_init 19 = .ok (.putfield 18, 3) := by decide +kernel
theorem dX1_init_22 : decode cX1_init 22 = .ok (.return_, 1) := by decide +kernel
theorem dX1_become_0 : decode cX1_become 0 = .ok (.aload_n 0, 1) := by decide +kernel
theorem dX1_become_1 : decode cX1_become 1 = .ok (.iload_n 1, 1) := by decide +kernel
theorem dX1_become_2 : decode cX1_become 2 = .ok (.putfield 22, 3) := by decide +kernel
theorem dX1_become_5 : decode cX1_become 5 = .ok (.aload_n 0, 1) := by decide +kernel
theorem dX1_become_6 : decode cX1_become 6 = .ok (.iload_n 2, 1) := by decide +kernel
theorem dX1_become_7 : decode cX1_become 7 = .ok (.putfield 26, 3) := by decide +kernel
theorem dX1_become_10 : decode cX1_become 10 = .ok (.aload_n 0, 1) := by decide +kernel
theorem dX1_become_11 : decode cX1_become 11 = .ok (.getfield 12, 3) := by decide +kernel
theorem dX1_become_14 : decode cX1_become 14 = .ok (.aload_n 3, 1) := by decide +kernel
theorem dX1_become_15 : decode cX1_become 15 = .ok (.invokevirtual 29, 3) := by decide +kernel
theorem dX1_become_18 : decode cX1_become 18 = .ok (.aload 4, 2) := by decide +kernel
theorem dX1_become_20 : decode cX1_become 20 = .ok (.iconst 0, 1) := by decide +kernel
theorem dX1_become_21 : decode cX1_become 21 = .ok (.aload_n 0, 1) := by decide +kernel
theorem dX1_become_22 : decode cX1_become 22 = .ok (.getfield 18, 3) := by decide +kernel
theorem dX1_become_25 : decode cX1_become 25 = .ok (.iconst 0, 1) := by decide +kernel
theorem dX1_become_26 : decode cX1_become 26 = .ok (.iconst 4, 1) := by decide +kernel
theorem dX1_become_27 : decode cX1_become 27 = .ok (.invokestatic 33, 3) := by decide +kernel
theorem dX1_become_30 : decode cX1_become 30 = .ok (.return_, 1) := by decide +kernel
theorem dX1_become__0 : decode cX1_become_ 0 = .ok (.aload_n 0, 1) := by decide +kernel
theorem dX1_become__1 : decode cX1_become_ 1 = .ok (.aload_n 1, 1) := by decide +kernel
theorem dX1_become__2 : decode cX1_become_ 2 = .ok (.getfield 22, 3) := by decide +kernel
theorem dX1_become__5 : decode cX1_become_ 5 = .ok (.aload_n 1, 1) := by decide +kernel
theorem dX1_become__6 : decode cX1_become_ 6 = .ok (.getfield 26, 3) := by decide +kernel
theorem dX1_become__9 : decode cX1_become_ 9 = .ok (.aload_n 1, 1) := by decide +kernel
theorem dX1_become__10 : decode cX1_become_ 10 = .ok (.getfield 12, 3) := by decide +kernel
theorem dX1_become__13 : decode cX1_become_ 13 = .ok (.aload_n 1, 1) := by decide +kernel
theorem dX1_become__14 : decode cX1_become_ 14 = .ok (.getfield 18, 3) := by decide +kernel
theorem dX1_become__17 : decode cX1_become_ 17 = .ok (.invokevirtual 39, 3) := by decide +kernel
theorem dX1_become__20 : decode cX1_become_ 20 = .ok (.return_, 1) := by decide +kernel
theorem dX2_init_0 : decode cX2_init 0 = .ok (.aload_n 0, 1) := by decide +kernel
theorem dX2_init_1 : decode cX2_init 1 = .ok (.invokespecial 3, 3) := by decide +kernel
theorem dX2_init_4 : decode cX2_init 4 = .ok (.aload_n 0, 1) := by decide +kernel
theorem dX2_init_5 : decode cX2_init 5 = .ok (.new 9, 3) := by decide +kernel
theorem dX2_init_8 : decode cX2_init 8 = .ok (.dup, 1) := by decide +kernel
theorem dX2_init_9 : decode cX2_init 9 = .ok (.invokespecial 11, 3) := by decide +kernel
theorem dX2_init_12 : decode cX2_init 12 = .ok (.putfield 12, 3) := by decide +kernel
theorem dX2_init_15 : decode cX2_init 15 = .ok (.aload_n 0, 1) := by decide +kernel
theorem dX2_init_16 : decode cX2_init 16 = .ok (.bipush 12, 2) := by decide +kernel
theorem dX2_init_18 : decode cX2_init 18 = .ok (.newarray .int, 2) := by decide +kernel
theorem dX2_init_20 : decode cX2_init 20 = .ok (.putfield 18, 3) := by decide +kernel
theorem dX2_init_23 : decode cX2_init 23 = .ok (.aload_n 0, 1) := by decide +kernel
theorem dX2_init_24 : decode cX2_init 24 = .ok (.iconst 4, 1) := by decide +kernel
theorem dX2_init_25 : decode cX2_init 25 = .ok (.anewarray 22, 3) := by decide +kernel
theorem dX2_init_28 : decode cX2_init 28 = .ok (.putfield 24, 3) := by decide +kernel
theorem dX2_init_31 : decode cX2_init 31 = .ok (.aload_n 0, 1) := by decide +kernel
theorem dX2_init_32 : decode cX2_init 32 = .ok (.bipush 16, 2) := by decide +kernel
theorem dX2_init_34 : decode cX2_init 34 = .ok (.anewarray 22, 3) := by decide +kernel
theorem dX2_init_37 : decode cX2_init 37 = .ok (.putfield 28, 3) := by decide +kernel
theorem dX2_init_40 : decode cX2_init 40 = .ok (.aload_n 0, 1) := by decide +kernel
theorem dX2_init_41 : decode cX2_init 41 = .ok (.bipush 64, 2) := by decide +kernel
theorem dX2_init_43 : decode cX2_init 43 = .ok (.newarray .int, 2) := by decide +kernel
theorem dX2_init_45 : decode cX2_init 45 = .ok (.putfield 31, 3) := by decide +kernel
theorem dX2_init_48 : decode cX2_init 48 = .ok (.aload_n 0, 1) := by decide +kernel
theorem dX2_init_49 : decode cX2_init 49 = .ok (.bipush 6, 2) := by decide +kernel
theorem dX2_init_51 : decode cX2_init 51 = .ok (.anewarray 34, 3) := by decide +kernel
theorem dX2_init_54 : decode cX2_init 54 = .ok (.putfield 36, 3) := by decide +kernel
theorem dX2_init_57 : decode cX2_init 57 = .ok (.iconst 0, 1) := by decide +kernel
theorem dX2_init_58 : decode cX2_init 58 = .ok (.istore_n 1, 1) := by decide +kernel
theorem dX2_init_59 : decode cX2_init 59 = .ok (.iload_n 1, 1) := by decide +kernel
theorem dX2_init_60 : decode cX2_init 60 = .ok (.iconst 4, 1) := by decide +kernel
theorem dX2_init_61 : decode cX2_init 61 = .ok (.if_icmp .ge 22, 3) := by decide +kernel
theorem dX2_init_64 : decode cX2_init 64 = .ok (.aload_n 0, 1) := by decide +kernel
theorem dX2_init_65 : decode cX2_init 65 = .ok (.getfield 24, 3) := by decide +kernel
theorem dX2_init_68 : decode cX2_init 68 = .ok (.iload_n 1, 1) := by decide +kernel
theorem dX2_init_69 : decode cX2_init 69 = .ok (.new 22, 3) := by decide +kernel
theorem dX2_init_72 : decode cX2_init 72 = .ok (.dup, 1) := by decide +kernel
theorem dX2_init_73 : decode cX2_init 73 = .ok (.invokespecial 40, 3) := by decide +kernel
theorem dX2_init_76 : decode cX2_init 76 = .ok (.aastore, 1) := by decide +kernel
theorem dX2_init_77 : decode cX2_init 77 = .ok (.iinc 1 1, 3) := by decide +kernel
theorem dX2_init_80 : decode cX2_init 80 = .ok (.goto (-21), 3) := by decide +kernel
theorem dX2_init_83 : decode cX2_init 83 = .ok (.iconst 0, 1) := by decide +kernel
theorem dX2_init_84 : decode cX2_init 84 = .ok (.istore_n 1, 1) := by decide +kernel
theorem dX2_init_85 : decode cX2_init 85 = .ok (.iload_n 1, 1) := by decide +kernel
theorem dX2_init_86 : decode cX2_init 86 = .ok (.bipush 16, 2) := by decide +kernel
theorem dX2_init_88 : decode cX2_init 88 = .ok (.if_icmp .ge 22, 3) := by decide +kernel
theorem dX2_init_91 : decode cX2_init 91 = .ok (.aload_n 0, 1) := by decide +kernel
theorem dX2_init_92 : decode cX2_init 92 = .ok (.getfield 28, 3) := by decide +kernel
theorem dX2_init_95 : decode cX2_init 95 = .ok (.iload_n 1, 1) := by decide +kernel
theorem dX2_init_96 : decode cX2_init 96 = .ok (.new 22, 3) := by decide +kernel
theorem dX2_init_99 : decode cX2_init 99 = .ok (.dup, 1) := by decide +kernel
theorem dX2_init_100 : decode cX2_init 100 = .ok (.invokespecial 40, 3) := by decide +kernel
theorem dX2_init_103 : decode cX2_init 103 = .ok (.aastore, 1) := by decide +kernel
theorem dX2_init_104 : decode cX2_init 104 = .ok (.iinc 1 1, 3) := by decide +kernel
theorem dX2_init_107 : decode cX2_init 107 = .ok (.goto (-22), 3) := by decide +kernel
theorem dX2_init_110 : decode cX2_init 110 = .ok (.iconst 0, 1) := by decide +kernel
theorem dX2_init_111 : decode cX2_init 111 = .ok (.istore_n 1, 1) := by decide +kernel
theorem dX2_init_112 : decode cX2_init 112 = .ok (.iload_n 1, 1) := by decide +kernel
theorem dX2_init_113 : decode cX2_init 113 = .ok (.bipush 6, 2) := by decide +kernel
theorem dX2_init_115 : decode cX2_init 115 = .ok (.if_icmp .ge 22, 3) := by decide +kernel
theorem dX2_init_118 : decode cX2_init 118 = .ok (.aload_n 0, 1) := by decide +kernel
theorem dX2_init_119 : decode cX2_init 119 = .ok (.getfield 36, 3) := by decide +kernel
theorem dX2_init_122 : decode cX2_init 122 = .ok (.iload_n 1, 1) := by decide +kernel
theorem dX2_init_123 : decode cX2_init 123 = .ok (.new 34, 3) := by decide +kernel
theorem dX2_init_126 : decode cX2_init 126 = .ok (.dup, 1) := by decide +kernel
theorem dX2_init_127 : decode cX2_init 127 = .ok (.invokespecial 41, 3) := by decide +kernel
theorem dX2_init_130 : decode cX2_init 130 = .ok (.aastore, 1) := by decide +kernel
theorem dX2_init_131 : decode cX2_init 131 = .ok (.iinc 1 1, 3) := by decide +kernel
theorem dX2_init_134 : decode cX2_init 134 = .ok (.goto (-22), 3) := by decide +kernel
theorem dX2_init_137 : decode cX2_init 137 = .ok (.return_, 1) := by decide +kernel
theorem dX2_become_0 : decode cX2_become 0 = .ok (.aload_n 0, 1) := by decide +kernel
theorem dX2_become_1 : decode cX2_become 1 = .ok (.getfield 12, 3) := by decide +kernel
theorem dX2_become_4 : decode cX2_become 4 = .ok (.aload_n 1, 1) := by decide +kernel
theorem dX2_become_5 : decode cX2_become 5 = .ok (.getfield 12, 3) := by decide +kernel
theorem dX2_become_8 : decode cX2_become 8 = .ok (.invokevirtual 42, 3) := by decide +kernel
theorem dX2_become_11 : decode cX2_become 11 = .ok (.aload_n 1, 1) := by decide +kernel
theorem dX2_become_12 : decode cX2_become 12 = .ok (.getfield 18, 3) := by decide +kernel
theorem dX2_become_15 : decode cX2_become 15 = .ok (.iconst 0, 1) := by decide +kernel
theorem dX2_become_16 : decode cX2_become 16 = .ok (.aload_n 0, 1) := by decide +kernel
theorem dX2_become_17 : decode cX2_become 17 = .ok (.getfield 18, 3) := by decide +kernel
theorem dX2_become_20 : decode cX2_become 20 = .ok (.iconst 0, 1) := by decide +kernel
theorem dX2_become_21 : decode cX2_become 21 = .ok (.aload_n 0, 1) := by decide +kernel
theorem dX2_become_22 : decode cX2_become 22 = .ok (.getfield 18, 3) := by decide +kernel
theorem dX2_become_25 : decode cX2_become 25 = .ok (.arraylength, 1) := by decide +kernel
theorem dX2_become_26 : decode cX2_become 26 = .ok (.invokestatic 46, 3) := by decide +kernel
theorem dX2_become_29 : decode cX2_become 29 = .ok (.aload_n 1, 1) := by decide +kernel
theorem dX2_become_30 : decode cX2_become 30 = .ok (.getfield 31, 3) := by decide +kernel
theorem dX2_become_33 : decode cX2_become 33 = .ok (.iconst 0, 1) := by decide +kernel
theorem dX2_become_34 : decode cX2_become 34 = .ok (.aload_n 0, 1) := by decide +kernel
theorem dX2_become_35 : decode cX2_become 35 = .ok (.getfield 31, 3) := by decide +kernel
theorem dX2_become_38 : decode cX2_become 38 = .ok (.iconst 0, 1) := by decide +kernel
theorem dX2_become_39 : decode cX2_become 39 = .ok (.aload_n 0, 1) := by decide +kernel
theorem dX2_become_40 : decode cX2_become 40 = .ok (.getfield 31, 3) := by decide +kernel
theorem dX2_become_43 : decode cX2_become 43 = .ok (.arraylength, 1) := by decide +kernel
theorem dX2_become_44 : decode cX2_become 44 = .ok (.invokestatic 46, 3) := by decide +kernel
theorem dX2_become_47 : decode cX2_become 47 = .ok (.iconst 0, 1) := by decide +kernel
theorem dX2_become_48 : decode cX2_become 48 = .ok (.istore_n 2, 1) := by decide +kernel
theorem dX2_become_49 : decode cX2_become 49 = .ok (.iload_n 2, 1) := by decide +kernel
theorem dX2_become_50 : decode cX2_become 50 = .ok (.iconst 4, 1) := by decide +kernel
theorem dX2_become_51 : decode cX2_become 51 = .ok (.if_icmp .ge 24, 3) := by decide +kernel
theorem dX2_become_54 : decode cX2_become 54 = .ok (.aload_n 0, 1) := by decide +kernel
theorem dX2_become_55 : decode cX2_become 55 = .ok (.getfield 24, 3) := by decide +kernel
theorem dX2_become_58 : decode cX2_become 58 = .ok (.iload_n 2, 1) := by decide +kernel
theorem dX2_become_59 : decode cX2_become 59 = .ok (.aaload, 1) := by decide +kernel
theorem dX2_become_60 : decode cX2_become 60 = .ok (.aload_n 1, 1) := by decide +kernel
theorem dX2_become_61 : decode cX2_become 61 = .ok (.getfield 24, 3) := by decide +kernel
theorem dX2_become_64 : decode cX2_become 64 = .ok (.iload_n 2, 1) := by decide +kernel
theorem dX2_become_65 : decode cX2_become 65 = .ok (.aaload, 1) := by decide +kernel
theorem dX2_become_66 : decode cX2_become 66 = .ok (.invokevirtual 52, 3) := by decide +kernel
theorem dX2_become_69 : decode cX2_become 69 = .ok (.iinc 2 1, 3) := by decide +kernel
theorem dX2_become_72 : decode cX2_become 72 = .ok (.goto (-23), 3) := by decide +kernel
theorem dX2_become_75 : decode cX2_become 75 = .ok (.iconst 0, 1) := by decide +kernel
theorem dX2_become_76 : decode cX2_become 76 = .ok (.istore_n 2, 1) := by decide +kernel
theorem dX2_become_77 : decode cX2_become 77 = .ok (.iload_n 2, 1) := by decide +kernel
theorem dX2_become_78 : decode cX2_become 78 = .ok (.bipush 16, 2) := by decide +kernel
theorem dX2_become_80 : decode cX2_become 80 = .ok (.if_icmp .ge 24, 3) := by decide +kernel
theorem dX2_become_83 : decode cX2_become 83 = .ok (.aload_n 0, 1) := by decide +kernel
theorem dX2_become_84 : decode cX2_become 84 = .ok (.getfield 28, 3) := by decide +kernel
theorem dX2_become_87 : decode cX2_become 87 = .ok (.iload_n 2, 1) := by decide +kernel
theorem dX2_become_88 : decode cX2_become 88 = .ok (.aaload, 1) := by decide +kernel
theorem dX2_become_89 : decode cX2_become 89 = .ok (.aload_n 1, 1) := by decide +kernel
theorem dX2_become_90 : decode cX2_become 90 = .ok (.getfield 28, 3) := by decide +kernel
theorem dX2_become_93 : decode cX2_become 93 = .ok (.iload_n 2, 1) := by decide +kernel
theorem dX2_become_94 : decode cX2_become 94 = .ok (.aaload, 1) := by decide +kernel
theorem dX2_become_95 : decode cX2_become 95 = .ok (.invokevirtual 52, 3) := by decide +kernel
theorem dX2_become_98 : decode cX2_become 98 = .ok (.iinc 2 1, 3) := by decide +kernel
theorem dX2_become_101 : decode cX2_become 101 = .ok (.goto (-24), 3) := by decide +kernel
theorem dX2_become_104 : decode cX2_become 104 = .ok (.iconst 0, 1) := by decide +kernel
theorem dX2_become_105 : decode cX2_become 105 = .ok (.istore_n 2, 1) := by decide +kernel
theorem dX2_become_106 : decode cX2_become 106 = .ok (.iload_n 2, 1) := by decide +kernel
theorem dX2_become_107 : decode cX2_become 107 = .ok (.bipush 6, 2) := by decide +kernel
theorem dX2_become_109 : decode cX2_become 109 = .ok (.if_icmp .ge 24, 3) := by decide +kernel
theorem dX2_become_112 : decode cX2_become 112 = .ok (.aload_n 0, 1) := by decide +kernel
theorem dX2_become_113 : decode cX2_become 113 = .ok (.getfield 36, 3) := by decide +kernel
theorem dX2_become_116 : decode cX2_become 116 = .ok (.iload_n 2, 1) := by decide +kernel
theorem dX2_become_117 : decode cX2_become 117 = .ok (.aaload, 1) := by decide +kernel
theorem dX2_become_118 : decode cX2_become 118 = .ok (.aload_n 1, 1) := by decide +kernel
theorem dX2_become_119 : decode cX2_become 119 = .ok (.getfield 36, 3) := by decide +kernel
theorem dX2_become_122 : decode cX2_become 122 = .ok (.iload_n 2, 1) := by decide +kernel
theorem dX2_become_123 : decode cX2_become 123 = .ok (.aaload, 1) := by decide +kernel
theorem dX2_become_124 : decode cX2_become 124 = .ok (.invokevirtual 55, 3) := by decide +kernel
theorem dX2_become_127 : decode cX2_become 127 = .ok (.iinc 2 1, 3) := by decide +kernel
theorem dX2_become_130 : decode cX2_become 130 = .ok (.goto (-24), 3) := by decide +kernel
theorem dX2_become_133 : decode cX2_become 133 = .ok (.aload_n 0, 1) := by decide +kernel
theorem dX2_become_134 : decode cX2_become 134 = .ok (.aload_n 1, 1) := by decide +kernel
theorem dX2_become_135 : decode cX2_become 135 = .ok (.getfield 58, 3) := by decide +kernel
theorem dX2_become_138 : decode cX2_become 138 = .ok (.putfield 58, 3) := by decide +kernel
theorem dX2_become_141 : decode cX2_become 141 = .ok (.return_, 1) := by decide +kernel
theorem dX2_joinWithNew_0 : decode cX2_joinWithNew 0 = .ok (.aload_n 0, 1) := by decide +kernel
theorem dX2_joinWithNew_1 : decode cX2_joinWithNew 1 = .ok (.getfield 24, 3) := by decide +kernel
theorem dX2_joinWithNew_4 : decode cX2_joinWithNew 4 = .ok (.iload_n 1, 1) := by decide +kernel
theorem dX2_joinWithNew_5 : decode cX2_joinWithNew 5 = .ok (.aaload, 1) := by decide +kernel
theorem dX2_joinWithNew_6 : decode cX2_joinWithNew 6 = .ok (.aload_n 2, 1) := by decide +kernel
theorem dX2_joinWithNew_7 : decode cX2_joinWithNew 7 = .ok (.invokevirtual 62, 3) := by decide +kernel
theorem dX2_joinWithNew_10 : decode cX2_joinWithNew 10 = .ok (.iconst 0, 1) := by decide +kernel
theorem dX2_joinWithNew_11 : decode cX2_joinWithNew 11 = .ok (.istore_n 3, 1) := by decide +kernel
theorem dX2_joinWithNew_12 : decode cX2_joinWithNew 12 = .ok (.iload_n 3, 1) := by decide +kernel
theorem dX2_joinWithNew_13 : decode cX2_joinWithNew 13 = .ok (.iconst 4, 1) := by decide +kernel
theorem dX2_joinWithNew_14 : decode cX2_joinWithNew 14 = .ok (.if_icmp .ge 28, 3) := by decide +kernel
theorem dX2_joinWithNew_17 : decode cX2_joinWithNew 17 = .ok (.iload_n 3, 1) := by decide +kernel
theorem dX2_joinWithNew_18 : decode cX2_joinWithNew 18 = .ok (.iload_n 1, 1) := by decide +kernel
theorem dX2_joinWithNew_19 : decode cX2_joinWithNew 19 = .ok (.if_icmp .eq 17, 3) := by decide +kernel
theorem dX2_joinWithNew_22 : decode cX2_joinWithNew 22 = .ok (.aload_n 0, 1) := by decide +kernel
theorem dX2_joinWithNew_23 : decode cX2_joinWithNew 23 = .ok (.getfield 28, 3) := by decide +kernel
theorem dX2_joinWithNew_26 : decode cX2_joinWithNew 26 = .ok (.iload_n 1, 1) := by decide +kernel
theorem dX2_joinWithNew_27 : decode cX2_joinWithNew 27 = .ok (.iload_n 3, 1) := by decide +kernel
theorem dX2_joinWithNew_28 : decode cX2_joinWithNew 28 = .ok (.invokestatic 65, 3) := by decide +kernel
theorem dX2_joinWithNew_31 : decode cX2_joinWithNew 31 = .ok (.aaload, 1) := by decide +kernel
theorem dX2_joinWithNew_32 : decode cX2_joinWithNew 32 = .ok (.aload_n 2, 1) := by decide +kernel
theorem dX2_joinWithNew_33 : decode cX2_joinWithNew 33 = .ok (.invokevirtual 62, 3) := by decide +kernel
theorem dX2_joinWithNew_36 : decode cX2_joinWithNew 36 = .ok (.iinc 3 1, 3) := by decide +kernel
theorem dX2_joinWithNew_39 : decode cX2_joinWithNew 39 = .ok (.goto (-27), 3) := by decide +kernel
theorem dX2_joinWithNew_42 : decode cX2_joinWithNew 42 = .ok (.return_, 1) := by decide +kernel
theorem dX2_post_0 : decode cX2_post 0 = .ok (.aload_n 0, 1) := by decide +kernel
theorem dX2_post_1 : decode cX2_post 1 = .ok (.getfield 36, 3) := by decide +kernel
theorem dX2_post_4 : decode cX2_post 4 = .ok (.aload_n 0, 1) := by decide +kernel
theorem dX2_post_5 : decode cX2_post 5 = .ok (.getfield 58, 3) := by decide +kernel
theorem dX2_post_8 : decode cX2_post 8 = .ok (.aaload, 1) := by decide +kernel
theorem dX2_post_9 : decode cX2_post 9 = .ok (.iload_n 1, 1) := by decide +kernel
theorem dX2_post_10 : decode cX2_post 10 = .ok (.iload_n 2, 1) := by decide +kernel
theorem dX2_post_11 : decode cX2_post 11 = .ok (.aload_n 3, 1) := by decide +kernel
theorem dX2_post_12 : decode cX2_post 12 = .ok (.aload_n 0, 1) := by decide +kernel
theorem dX2_post_13 : decode cX2_post 13 = .ok (.getfield 24, 3) := by decide +kernel
theorem dX2_post_16 : decode cX2_post 16 = .ok (.iload_n 1, 1) := by decide +kernel
theorem dX2_post_17 : decode cX2_post 17 = .ok (.aaload, 1) := by decide +kernel
theorem dX2_post_18 : decode cX2_post 18 = .ok (.getfield 69, 3) := by decide +kernel
theorem dX2_post_21 : decode cX2_post 21 = .ok (.invokevirtual 72, 3) := by decide +kernel
theorem dX2_post_24 : decode cX2_post 24 = .ok (.aload_n 0, 1) := by decide +kernel
theorem dX2_post_25 : decode cX2_post 25 = .ok (.dup, 1) := by decide +kernel
theorem dX2_post_26 : decode cX2_post 26 = .ok (.getfield 58, 3) := by decide +kernel
theorem dX2_post_29 : decode cX2_post 29 = .ok (.iconst 1, 1) := by decide +kernel
theorem dX2_post_30 : decode cX2_post 30 = .ok (.iadd, 1) := by decide +kernel
theorem dX2_post_31 : decode cX2_post 31 = .ok (.putfield 58, 3) := by decide +kernel
theorem dX2_post_34 : decode cX2_post 34 = .ok (.return_, 1) := by decide +kernel
theorem dX2_drop_0 : decode cX2_drop 0 = .ok (.aload_n 0, 1) := by decide +kernel
theorem dX2_drop_1 : decode cX2_drop 1 = .ok (.getfield 36, 3) := by decide +kernel
theorem dX2_drop_4 : decode cX2_drop 4 = .ok (.iload_n 1, 1) := by decide +kernel
theorem dX2_drop_5 : decode cX2_drop 5 = .ok (.aaload, 1) := by decide +kernel
theorem dX2_drop_6 : decode cX2_drop 6 = .ok (.astore_n 2, 1) := by decide +kernel
theorem dX2_drop_7 : decode cX2_drop 7 = .ok (.iload_n 1, 1) := by decide +kernel
theorem dX2_drop_8 : decode cX2_drop 8 = .ok (.istore_n 3, 1) := by decide +kernel
theorem dX2_drop_9 : decode cX2_drop 9 = .ok (.iload_n 3, 1) := by decide +kernel
theorem dX2_drop_10 : decode cX2_drop 10 = .ok (.aload_n 0, 1) := by decide +kernel
theorem dX2_drop_11 : decode cX2_drop 11 = .ok (.getfield 58, 3) := by decide +kernel
theorem dX2_drop_14 : decode cX2_drop 14 = .ok (.iconst 1, 1) := by decide +kernel
theorem dX2_drop_15 : decode cX2_drop 15 = .ok (.isub, 1) := by decide +kernel
theorem dX2_drop_16 : decode cX2_drop 16 = .ok (.if_icmp .ge 23, 3) := by decide +kernel
theorem dX2_drop_19 : decode cX2_drop 19 = .ok (.aload_n 0, 1) := by decide +kernel
theorem dX2_drop_20 : decode cX2_drop 20 = .ok (.getfield 36, 3) := by decide +kernel
theorem dX2_drop_23 : decode cX2_drop 23 = .ok (.iload_n 3, 1) := by decide +kernel
theorem dX2_drop_24 : decode cX2_drop 24 = .ok (.aload_n 0, 1) := by decide +kernel
theorem dX2_drop_25 : decode cX2_drop 25 = .ok (.getfield 36, 3) := by decide +kernel
theorem dX2_drop_28 : decode cX2_drop 28 = .ok (.iload_n 3, 1) := by decide +kernel
theorem dX2_drop_29 : decode cX2_drop 29 = .ok (.iconst 1, 1) := by decide +kernel
theorem dX2_drop_30 : decode cX2_drop 30 = .ok (.iadd, 1) := by decide +kernel
theorem dX2_drop_31 : decode cX2_drop 31 = .ok (.aaload, 1) := by decide +kernel
theorem dX2_drop_32 : decode cX2_drop 32 = .ok (.aastore, 1) := by decide +kernel
theorem dX2_drop_33 : decode cX2_drop 33 = .ok (.iinc 3 1, 3) := by decide +kernel
theorem dX2_drop_36 : decode cX2_drop 36 = .ok (.goto (-27), 3) := by decide +kernel
theorem dX2_drop_39 : decode cX2_drop 39 = .ok (.aload_n 0, 1) := by decide +kernel
theorem dX2_drop_40 : decode cX2_drop 40 = .ok (.dup, 1) := by decide +kernel
theorem dX2_drop_41 : decode cX2_drop 41 = .ok (.getfield 58, 3) := by decide +kernel
theorem dX2_drop_44 : decode cX2_drop 44 = .ok (.iconst 1, 1) := by decide +kernel
theorem dX2_drop_45 : decode cX2_drop 45 = .ok (.isub, 1) := by decide +kernel
theorem dX2_drop_46 : decode cX2_drop 46 = .ok (.putfield 58, 3) := by decide +kernel
theorem dX2_drop_49 : decode cX2_drop 49 = .ok (.aload_n 0, 1) := by decide +kernel
theorem dX2_drop_50 : decode cX2_drop 50 = .ok (.getfield 36, 3) := by decide +kernel
theorem dX2_drop_53 : decode cX2_drop 53 = .ok (.aload_n 0, 1) := by decide +kernel
theorem dX2_drop_54 : decode cX2_drop 54 = .ok (.getfield 58, 3) := by decide +kernel
theorem dX2_drop_57 : decode cX2_drop 57 = .ok (.aload_n 2, 1) := by decide +kernel
theorem dX2_drop_58 : decode cX2_drop 58 = .ok (.aastore, 1) := by decide +kernel
theorem dX2_drop_59 : decode cX2_drop 59 = .ok (.return_, 1) := by decide +kernel
theorem dX2_learn_0 : decode cX2_learn 0 = .ok (.aload_n 1, 1) := by decide +kernel
theorem dX2_learn_1 : decode cX2_learn 1 = .ok (.getfield 75, 3) := by decide +kernel
theorem dX2_learn_4 : decode cX2_learn 4 = .ok (.aload_n 1, 1) := by decide +kernel
theorem dX2_learn_5 : decode cX2_learn 5 = .ok (.getfield 78, 3) := by decide +kernel
theorem dX2_learn_8 : decode cX2_learn 8 = .ok (.invokestatic 65, 3) := by decide +kernel
theorem dX2_learn_11 : decode cX2_learn 11 = .ok (.iconst 4, 1) := by decide +kernel
theorem dX2_learn_12 : decode cX2_learn 12 = .ok (.imul, 1) := by decide +kernel
theorem dX2_learn_13 : decode cX2_learn 13 = .ok (.istore_n 2, 1) := by decide +kernel
theorem dX2_learn_14 : decode cX2_learn 14 = .ok (.iconst 0, 1) := by decide +kernel
theorem dX2_learn_15 : decode cX2_learn 15 = .ok (.istore_n 3, 1) := by decide +kernel
theorem dX2_learn_16 : decode cX2_learn 16 = .ok (.iload_n 3, 1) := by decide +kernel
theorem dX2_learn_17 : decode cX2_learn 17 = .ok (.iconst 4, 1) := by decide +kernel
theorem dX2_learn_18 : decode cX2_learn 18 = .ok (.if_icmp .ge 26, 3) := by decide +kernel
theorem dX2_learn_21 : decode cX2_learn 21 = .ok (.aload_n 0, 1) := by decide +kernel
theorem dX2_learn_22 : decode cX2_learn 22 = .ok (.getfield 31, 3) := by decide +kernel
theorem dX2_learn_25 : decode cX2_learn 25 = .ok (.iload_n 2, 1) := by decide +kernel
theorem dX2_learn_26 : decode cX2_learn 26 = .ok (.iload_n 3, 1) := by decide +kernel
theorem dX2_learn_27 : decode cX2_learn 27 = .ok (.iadd, 1) := by decide +kernel
theorem dX2_learn_28 : decode cX2_learn 28 = .ok (.dup2, 1) := by decide +kernel
theorem dX2_learn_29 : decode cX2_learn 29 = .ok (.iaload, 1) := by decide +kernel
theorem dX2_learn_30 : decode cX2_learn 30 = .ok (.aload_n 1, 1) := by decide +kernel
theorem dX2_learn_31 : decode cX2_learn 31 = .ok (.getfield 81, 3) := by decide +kernel
theorem dX2_learn_34 : decode cX2_learn 34 = .ok (.iload_n 3, 1) := by decide +kernel
theorem dX2_learn_35 : decode cX2_learn 35 = .ok (.iaload, 1) := by decide +kernel
theorem dX2_learn_36 : decode cX2_learn 36 = .ok (.ior, 1) := by decide +kernel
theorem dX2_learn_37 : decode cX2_learn 37 = .ok (.iastore, 1) := by decide +kernel
theorem dX2_learn_38 : decode cX2_learn 38 = .ok (.iinc 3 1, 3) := by decide +kernel
theorem dX2_learn_41 : decode cX2_learn 41 = .ok (.goto (-25), 3) := by decide +kernel
theorem dX2_learn_44 : decode cX2_learn 44 = .ok (.return_, 1) := by decide +kernel
theorem dX2_knownBy_0 : decode cX2_knownBy 0 = .ok (.iload_n 2, 1) := by decide +kernel
theorem dX2_knownBy_1 : decode cX2_knownBy 1 = .ok (.iload_n 1, 1) := by decide +kernel
theorem dX2_knownBy_2 : decode cX2_knownBy 2 = .ok (.if_icmp .ne 17, 3) := by decide +kernel
theorem dX2_knownBy_5 : decode cX2_knownBy 5 = .ok (.aload_n 0, 1) := by decide +kernel
theorem dX2_knownBy_6 : decode cX2_knownBy 6 = .ok (.getfield 24, 3) := by decide +kernel
theorem dX2_knownBy_9 : decode cX2_knownBy 9 = .ok (.iload_n 1, 1) := by decide +kernel
theorem dX2_knownBy_10 : decode cX2_knownBy 10 = .ok (.aaload, 1) := by decide +kernel
theorem dX2_knownBy_11 : decode cX2_knownBy 11 = .ok (.getfield 69, 3) := by decide +kernel
theorem dX2_knownBy_14 : decode cX2_knownBy 14 = .ok (.iload_n 3, 1) := by decide +kernel
theorem dX2_knownBy_15 : decode cX2_knownBy 15 = .ok (.iaload, 1) := by decide +kernel
theorem dX2_knownBy_16 : decode cX2_knownBy 16 = .ok (.goto 17, 3) := by decide +kernel
theorem dX2_knownBy_19 : decode cX2_knownBy 19 = .ok (.aload_n 0, 1) := by decide +kernel
theorem dX2_knownBy_20 : decode cX2_knownBy 20 = .ok (.getfield 31, 3) := by decide +kernel
theorem dX2_knownBy_23 : decode cX2_knownBy 23 = .ok (.iload_n 1, 1) := by decide +kernel
theorem dX2_knownBy_24 : decode cX2_knownBy 24 = .ok (.iload_n 2, 1) := by decide +kernel
theorem dX2_knownBy_25 : decode cX2_knownBy 25 = .ok (.invokestatic 65, 3) := by decide +kernel
theorem dX2_knownBy_28 : decode cX2_knownBy 28 = .ok (.iconst 4, 1) := by decide +kernel
theorem dX2_knownBy_29 : decode cX2_knownBy 29 = .ok (.imul, 1) := by decide +kernel
theorem dX2_knownBy_30 : decode cX2_knownBy 30 = .ok (.iload_n 3, 1) := by decide +kernel
theorem dX2_knownBy_31 : decode cX2_knownBy 31 = .ok (.iadd, 1) := by decide +kernel
theorem dX2_knownBy_32 : decode cX2_knownBy 32 = .ok (.iaload, 1) := by decide +kernel
theorem dX2_knownBy_33 : decode cX2_knownBy 33 = .ok (.ireturn, 1) := by decide +kernel
theorem dX2_stableAt_0 : decode cX2_stableAt 0 = .ok (.aload_n 0, 1) := by decide +kernel
theorem dX2_stableAt_1 : decode cX2_stableAt 1 = .ok (.getfield 24, 3) := by decide +kernel
theorem dX2_stableAt_4 : decode cX2_stableAt 4 = .ok (.iload_n 1, 1) := by decide +kernel
theorem dX2_stableAt_5 : decode cX2_stableAt 5 = .ok (.aaload, 1) := by decide +kernel
theorem dX2_stableAt_6 : decode cX2_stableAt 6 = .ok (.getfield 69, 3) := by decide +kernel
theorem dX2_stableAt_9 : decode cX2_stableAt 9 = .ok (.iload_n 2, 1) := by decide +kernel
theorem dX2_stableAt_10 : decode cX2_stableAt 10 = .ok (.iaload, 1) := by decide +kernel
theorem dX2_stableAt_11 : decode cX2_stableAt 11 = .ok (.istore_n 3, 1) := by decide +kernel
theorem dX2_stableAt_12 : decode cX2_stableAt 12 = .ok (.iconst 0, 1) := by decide +kernel
theorem dX2_stableAt_13 : decode cX2_stableAt 13 = .ok (.istore 4, 2) := by decide +kernel
theorem dX2_stableAt_15 : decode cX2_stableAt 15 = .ok (.iload 4, 2) := by decide +kernel
theorem dX2_stableAt_17 : decode cX2_stableAt 17 = .ok (.iconst 4, 1) := by decide +kernel
theorem dX2_stableAt_18 : decode cX2_stableAt 18 = .ok (.if_icmp .ge 20, 3) := by decide +kernel
theorem dX2_stableAt_21 : decode cX2_stableAt 21 = .ok (.iload_n 3, 1) := by decide +kernel
theorem dX2_stableAt_22 : decode cX2_stableAt 22 = .ok (.aload_n 0, 1) := by decide +kernel
theorem dX2_stableAt_23 : decode cX2_stableAt 23 = .ok (.iload_n 1, 1) := by decide +kernel
theorem dX2_stableAt_24 : decode cX2_stableAt 24 = .ok (.iload 4, 2) := by decide +kernel
theorem dX2_stableAt_26 : decode cX2_stableAt 26 = .ok (.iload_n 2, 1) := by decide +kernel
theorem dX2_stableAt_27 : decode cX2_stableAt 27 = .ok (.invokevirtual 84, 3) := by decide +kernel
theorem dX2_stableAt_30 : decode cX2_stableAt 30 = .ok (.iand, 1) := by decide +kernel
theorem dX2_stableAt_31 : decode cX2_stableAt 31 = .ok (.istore_n 3, 1) := by decide +kernel
theorem dX2_stableAt_32 : decode cX2_stableAt 32 = .ok (.iinc 4 1, 3) := by decide +kernel
theorem dX2_stableAt_35 : decode cX2_stableAt 35 = .ok (.goto (-20), 3) := by decide +kernel
theorem dX2_stableAt_38 : decode cX2_stableAt 38 = .ok (.iload_n 3, 1) := by decide +kernel
theorem dX2_stableAt_39 : decode cX2_stableAt 39 = .ok (.ireturn, 1) := by decide +kernel
theorem dX2_tagsAt_0 : decode cX2_tagsAt 0 = .ok (.aload_n 0, 1) := by decide +kernel
theorem dX2_tagsAt_1 : decode cX2_tagsAt 1 = .ok (.getfield 24, 3) := by decide +kernel
theorem dX2_tagsAt_4 : decode cX2_tagsAt 4 = .ok (.iload_n 1, 1) := by decide +kernel
theorem dX2_tagsAt_5 : decode cX2_tagsAt 5 = .ok (.aaload, 1) := by decide +kernel
theorem dX2_tagsAt_6 : decode cX2_tagsAt 6 = .ok (.getfield 69, 3) := by decide +kernel
theorem dX2_tagsAt_9 : decode cX2_tagsAt 9 = .ok (.iload_n 2, 1) := by decide +kernel
theorem dX2_tagsAt_10 : decode cX2_tagsAt 10 = .ok (.iaload, 1) := by decide +kernel
theorem dX2_tagsAt_11 : decode cX2_tagsAt 11 = .ok (.aload_n 0, 1) := by decide +kernel
theorem dX2_tagsAt_12 : decode cX2_tagsAt 12 = .ok (.getfield 24, 3) := by decide +kernel
theorem dX2_tagsAt_15 : decode cX2_tagsAt 15 = .ok (.iload_n 1, 1) := by decide +kernel
theorem dX2_tagsAt_16 : decode cX2_tagsAt 16 = .ok (.aaload, 1) := by decide +kernel
theorem dX2_tagsAt_17 : decode cX2_tagsAt 17 = .ok (.getfield 88, 3) := by decide +kernel
theorem dX2_tagsAt_20 : decode cX2_tagsAt 20 = .ok (.iload_n 2, 1) := by decide +kernel
theorem dX2_tagsAt_21 : decode cX2_tagsAt 21 = .ok (.iaload, 1) := by decide +kernel
theorem dX2_tagsAt_22 : decode cX2_tagsAt 22 = .ok (.iconst (-1), 1) := by decide +kernel
theorem dX2_tagsAt_23 : decode cX2_tagsAt 23 = .ok (.ixor, 1) := by decide +kernel
theorem dX2_tagsAt_24 : decode cX2_tagsAt 24 = .ok (.iand, 1) := by decide +kernel
theorem dX2_tagsAt_25 : decode cX2_tagsAt 25 = .ok (.aload_n 0, 1) := by decide +kernel
theorem dX2_tagsAt_26 : decode cX2_tagsAt 26 = .ok (.iload_n 1, 1) := by decide +kernel
theorem dX2_tagsAt_27 : decode cX2_tagsAt 27 = .ok (.iload_n 2, 1) := by decide +kernel
theorem dX2_tagsAt_28 : decode cX2_tagsAt 28 = .ok (.invokevirtual 91, 3) := by decide +kernel
theorem dX2_tagsAt_31 : decode cX2_tagsAt 31 = .ok (.iconst (-1), 1) := by decide +kernel
theorem dX2_tagsAt_32 : decode cX2_tagsAt 32 = .ok (.ixor, 1) := by decide +kernel
theorem dX2_tagsAt_33 : decode cX2_tagsAt 33 = .ok (.iand, 1) := by decide +kernel
theorem dX2_tagsAt_34 : decode cX2_tagsAt 34 = .ok (.ireturn, 1) := by decide +kernel
theorem dX2_tagsInAll_0 : decode cX2_tagsInAll 0 = .ok (.iconst 0, 1) := by decide +kernel
theorem dX2_tagsInAll_1 : decode cX2_tagsInAll 1 = .ok (.istore_n 1, 1) := by decide +kernel
theorem dX2_tagsInAll_2 : decode cX2_tagsInAll 2 = .ok (.iconst 0, 1) := by decide +kernel
theorem dX2_tagsInAll_3 : decode cX2_tagsInAll 3 = .ok (.istore_n 2, 1) := by decide +kernel
theorem dX2_tagsInAll_4 : decode cX2_tagsInAll 4 = .ok (.iload_n 2, 1) := by decide +kernel
theorem dX2_tagsInAll_5 : decode cX2_tagsInAll 5 = .ok (.iconst 4, 1) := by decide +kernel
theorem dX2_tagsInAll_6 : decode cX2_tagsInAll 6 = .ok (.if_icmp .ge 34, 3) := by decide +kernel
theorem dX2_tagsInAll_9 : decode cX2_tagsInAll 9 = .ok (.iconst 0, 1) := by decide +kernel
theorem dX2_tagsInAll_10 : decode cX2_tagsInAll 10 = .ok (.istore_n 3, 1) := by decide +kernel
theorem dX2_tagsInAll_11 : decode cX2_tagsInAll 11 = .ok (.iload_n 3, 1) := by decide +kernel
theorem dX2_tagsInAll_12 : decode cX2_tagsInAll 12 = .ok (.iconst 4, 1) := by decide +kernel
theorem dX2_tagsInAll_13 : decode cX2_tagsInAll 13 = .ok (.if_icmp .ge 21, 3) := by decide +kernel
theorem dX2_tagsInAll_16 : decode cX2_tagsInAll 16 = .ok (.iload_n 1, 1) := by decide +kernel
theorem dX2_tagsInAll_17 : decode cX2_tagsInAll 17 = .ok (.aload_n 0, 1) := by decide +kernel
theorem dX2_tagsInAll_18 : decode cX2_tagsInAll 18 = .ok (.iload_n 2, 1) := by decide +kernel
theorem dX2_tagsInAll_19 : decode cX2_tagsInAll 19 = .ok (.iload_n 3, 1) := by decide +kernel
theorem dX2_tagsInAll_20 : decode cX2_tagsInAll 20 = .ok (.invokevirtual 94, 3) := by decide +kernel
theorem dX2_tagsInAll_23 : decode cX2_tagsInAll 23 = .ok (.invokestatic 97, 3) := by decide +kernel
theorem dX2_tagsInAll_26 : decode cX2_tagsInAll 26 = .ok (.iadd, 1) := by decide +kernel
theorem dX2_tagsInAll_27 : decode cX2_tagsInAll 27 = .ok (.istore_n 1, 1) := by decide +kernel
theorem dX2_tagsInAll_28 : decode cX2_tagsInAll 28 = .ok (.iinc 3 1, 3) := by decide +kernel
theorem dX2_tagsInAll_31 : decode cX2_tagsInAll 31 = .ok (.goto (-20), 3) := by decide +kernel
theorem dX2_tagsInAll_34 : decode cX2_tagsInAll 34 = .ok (.iinc 2 1, 3) := by decide +kernel
theorem dX2_tagsInAll_37 : decode cX2_tagsInAll 37 = .ok (.goto (-33), 3) := by decide +kernel
theorem dX2_tagsInAll_40 : decode cX2_tagsInAll 40 = .ok (.iload_n 1, 1) := by decide +kernel
theorem dX2_tagsInAll_41 : decode cX2_tagsInAll 41 = .ok (.ireturn, 1) := by decide +kernel
theorem dX2_worthIn_0 : decode cX2_worthIn 0 = .ok (.aload_n 0, 1) := by decide +kernel
theorem dX2_worthIn_1 : decode cX2_worthIn 1 = .ok (.getfield 12, 3) := by decide +kernel
theorem dX2_worthIn_4 : decode cX2_worthIn 4 = .ok (.aload_n 1, 1) := by decide +kernel
theorem dX2_worthIn_5 : decode cX2_worthIn 5 = .ok (.iload_n 2, 1) := by decide +kernel
theorem dX2_worthIn_6 : decode cX2_worthIn 6 = .ok (.aload_n 0, 1) := by decide +kernel
theorem dX2_worthIn_7 : decode cX2_worthIn 7 = .ok (.getfield 18, 3) := by decide +kernel
theorem dX2_worthIn_10 : decode cX2_worthIn 10 = .ok (.iload_n 2, 1) := by decide +kernel
theorem dX2_worthIn_11 : decode cX2_worthIn 11 = .ok (.iaload, 1) := by decide +kernel
theorem dX2_worthIn_12 : decode cX2_worthIn 12 = .ok (.invokevirtual 103, 3) := by decide +kernel
theorem dX2_worthIn_15 : decode cX2_worthIn 15 = .ok (.lreturn, 1) := by decide +kernel
theorem dX3_init_0 : decode cX3_init 0 = .ok (.aload_n 0, 1) := by decide +kernel
theorem dX3_init_1 : decode cX3_init 1 = .ok (.invokespecial 3, 3) := by decide +kernel
theorem dX3_init_4 : decode cX3_init 4 = .ok (.aload_n 0, 1) := by decide +kernel
theorem dX3_init_5 : decode cX3_init 5 = .ok (.iconst (-1), 1) := by decide +kernel
theorem dX3_init_6 : decode cX3_init 6 = .ok (.putfield 9, 3) := by decide +kernel
theorem dX3_init_9 : decode cX3_init 9 = .ok (.aload_n 0, 1) := by decide +kernel
theorem dX3_init_10 : decode cX3_init 10 = .ok (.bipush 40, 2) := by decide +kernel
theorem dX3_init_12 : decode cX3_init 12 = .ok (.newarray .int, 2) := by decide +kernel
theorem dX3_init_14 : decode cX3_init 14 = .ok (.putfield 15, 3) := by decide +kernel
theorem dX3_init_17 : decode cX3_init 17 = .ok (.return_, 1) := by decide +kernel
theorem dX3_isMissing_0 : decode cX3_isMissing 0 = .ok (.aload_n 0, 1) := by decide +kernel
theorem dX3_isMissing_1 : decode cX3_isMissing 1 = .ok (.getfield 9, 3) := by decide +kernel
theorem dX3_isMissing_4 : decode cX3_isMissing 4 = .ok (.iconst (-1), 1) := by decide +kernel
theorem dX3_isMissing_5 : decode cX3_isMissing 5 = .ok (.if_icmp .ne 7, 3) := by decide +kernel
theorem dX3_isMissing_8 : decode cX3_isMissing 8 = .ok (.iconst 1, 1) := by decide +kernel
theorem dX3_isMissing_9 : decode cX3_isMissing 9 = .ok (.goto 4, 3) := by decide +kernel
theorem dX3_isMissing_12 : decode cX3_isMissing 12 = .ok (.iconst 0, 1) := by decide +kernel
theorem dX3_isMissing_13 : decode cX3_isMissing 13 = .ok (.ireturn, 1) := by decide +kernel
theorem dX3_become_0 : decode cX3_become 0 = .ok (.aload_n 0, 1) := by decide +kernel
theorem dX3_become_1 : decode cX3_become 1 = .ok (.iload_n 1, 1) := by decide +kernel
theorem dX3_become_2 : decode cX3_become 2 = .ok (.putfield 9, 3) := by decide +kernel
theorem dX3_become_5 : decode cX3_become 5 = .ok (.aload_n 0, 1) := by decide +kernel
theorem dX3_become_6 : decode cX3_become 6 = .ok (.iload_n 2, 1) := by decide +kernel
theorem dX3_become_7 : decode cX3_become 7 = .ok (.putfield 19, 3) := by decide +kernel
theorem dX3_become_10 : decode cX3_become 10 = .ok (.iconst 0, 1) := by decide +kernel
theorem dX3_become_11 : decode cX3_become 11 = .ok (.istore_n 3, 1) := by decide +kernel
theorem dX3_become_12 : decode cX3_become 12 = .ok (.iload_n 3, 1) := by decide +kernel
theorem dX3_become_13 : decode cX3_become 13 = .ok (.bipush 40, 2) := by decide +kernel
theorem dX3_become_15 : decode cX3_become 15 = .ok (.if_icmp .ge 16, 3) := by decide +kernel
theorem dX3_become_18 : decode cX3_become 18 = .ok (.aload_n 0, 1) := by decide +kernel
theorem dX3_become_19 : decode cX3_become 19 = .ok (.getfield 15, 3) := by decide +kernel
theorem dX3_become_22 : decode cX3_become 22 = .ok (.iload_n 3, 1) := by decide +kernel
theorem dX3_become_23 : decode cX3_become 23 = .ok (.iconst 0, 1) := by decide +kernel
theorem dX3_become_24 : decode cX3_become 24 = .ok (.iastore, 1) := by decide +kernel
theorem dX3_become_25 : decode cX3_become 25 = .ok (.iinc 3 1, 3) := by decide +kernel
theorem dX3_become_28 : decode cX3_become 28 = .ok (.goto (-16), 3) := by decide +kernel
theorem dX3_become_31 : decode cX3_become 31 = .ok (.return_, 1) := by decide +kernel
theorem dX3_holds_0 : decode cX3_holds 0 = .ok (.iload_n 1, 1) := by decide +kernel
theorem dX3_holds_1 : decode cX3_holds 1 = .ok (.ifCond .lt 29, 3) := by decide +kernel
theorem dX3_holds_4 : decode cX3_holds 4 = .ok (.iload_n 2, 1) := by decide +kernel
theorem dX3_holds_5 : decode cX3_holds 5 = .ok (.ifCond .lt 25, 3) := by decide +kernel
theorem dX3_holds_8 : decode cX3_holds 8 = .ok (.iload_n 2, 1) := by decide +kernel
theorem dX3_holds_9 : decode cX3_holds 9 = .ok (.aload_n 0, 1) := by decide +kernel
theorem dX3_holds_10 : decode cX3_holds 10 = .ok (.getfield 19, 3) := by decide +kernel
theorem dX3_holds_13 : decode cX3_holds 13 = .ok (.if_icmp .gt 17, 3) := by decide +kernel
theorem dX3_holds_16 : decode cX3_holds 16 = .ok (.iload_n 1, 1) := by decide +kernel
theorem dX3_holds_17 : decode cX3_holds 17 = .ok (.aload_n 0, 1) := by decide +kernel
theorem dX3_holds_18 : decode cX3_holds 18 = .ok (.getfield 19, 3) := by decide +kernel
theorem dX3_holds_21 : decode cX3_holds 21 = .ok (.iload_n 2, 1) := by decide +kernel
theorem dX3_holds_22 : decode cX3_holds 22 = .ok (.isub, 1) := by decide +kernel
theorem dX3_holds_23 : decode cX3_holds 23 = .ok (.if_icmp .gt 7, 3) := by decide +kernel
theorem dX3_holds_26 : decode cX3_holds 26 = .ok (.iconst 1, 1) := by decide +kernel
theorem dX3_holds_27 : decode cX3_holds 27 = .ok (.goto 4, 3) := by decide +kernel
theorem dX3_holds_30 : decode cX3_holds 30 = .ok (.iconst 0, 1) := by decide +kernel
theorem dX3_holds_31 : decode cX3_holds 31 = .ok (.ireturn, 1) := by decide +kernel
theorem dX4_init_0 : decode cX4_init 0 = .ok (.aload_n 0, 1) := by decide +kernel
theorem dX4_init_1 : decode cX4_init 1 = .ok (.invokespecial 3, 3) := by decide +kernel
theorem dX4_init_4 : decode cX4_init 4 = .ok (.aload_n 0, 1) := by decide +kernel
theorem dX4_init_5 : decode cX4_init 5 = .ok (.iconst 4, 1) := by decide +kernel
theorem dX4_init_6 : decode cX4_init 6 = .ok (.newarray .int, 2) := by decide +kernel
theorem dX4_init_8 : decode cX4_init 8 = .ok (.putfield 9, 3) := by decide +kernel
theorem dX4_init_11 : decode cX4_init 11 = .ok (.aload_n 0, 1) := by decide +kernel
theorem dX4_init_12 : decode cX4_init 12 = .ok (.iconst 4, 1) := by decide +kernel
theorem dX4_init_13 : decode cX4_init 13 = .ok (.newarray .int, 2) := by decide +kernel
theorem dX4_init_15 : decode cX4_init 15 = .ok (.putfield 15, 3) := by decide +kernel
theorem dX4_init_18 : decode cX4_init 18 = .ok (.return_, 1) := by decide +kernel
theorem dX4_empty_0 : decode cX4_empty 0 = .ok (.iconst 0, 1) := by decide +kernel
theorem dX4_empty_1 : decode cX4_empty 1 = .ok (.istore_n 1, 1) := by decide +kernel
theorem dX4_empty_2 : decode cX4_empty 2 = .ok (.iload_n 1, 1) := by decide +kernel
theorem dX4_empty_3 : decode cX4_empty 3 = .ok (.iconst 4, 1) := by decide +kernel
theorem dX4_empty_4 : decode cX4_empty 4 = .ok (.if_icmp .ge 23, 3) := by decide +kernel
theorem dX4_empty_7 : decode cX4_empty 7 = .ok (.aload_n 0, 1) := by decide +kernel
theorem dX4_empty_8 : decode cX4_empty 8 = .ok (.getfield 9, 3) := by decide +kernel
theorem dX4_empty_11 : decode cX4_empty 11 = .ok (.iload_n 1, 1) := by decide +kernel
theorem dX4_empty_12 : decode cX4_empty 12 = .ok (.iconst 0, 1) := by decide +kernel
theorem dX4_empty_13 : decode cX4_empty 13 = .ok (.iastore, 1) := by decide +kernel
theorem dX4_empty_14 : decode cX4_empty 14 = .ok (.aload_n 0, 1) := by decide +kernel
theorem dX4_empty_15 : decode cX4_empty 15 = .ok (.getfield 15, 3) := by decide +kernel
theorem dX4_empty_18 : decode cX4_empty 18 = .ok (.iload_n 1, 1) := by decide +kernel
theorem dX4_empty_19 : decode cX4_empty 19 = .ok (.iconst 0, 1) := by decide +kernel
theorem dX4_empty_20 : decode cX4_empty 20 = .ok (.iastore, 1) := by decide +kernel
theorem dX4_empty_21 : decode cX4_empty 21 = .ok (.iinc 1 1, 3) := by decide +kernel
theorem dX4_empty_24 : decode cX4_empty 24 = .ok (.goto (-22), 3) := by decide +kernel
theorem dX4_empty_27 : decode cX4_empty 27 = .ok (.return_, 1) := by decide +kernel
theorem dX4_become_0 : decode cX4_become 0 = .ok (.iconst 0, 1) := by decide +kernel
theorem dX4_become_1 : decode cX4_become 1 = .ok (.istore_n 2, 1) := by decide +kernel
theorem dX4_become_2 : decode cX4_become 2 = .ok (.iload_n 2, 1) := by decide +kernel
theorem dX4_become_3 : decode cX4_become 3 = .ok (.iconst 4, 1) := by decide +kernel
theorem dX4_become_4 : decode cX4_become 4 = .ok (.if_icmp .ge 33, 3) := by decide +kernel
theorem dX4_become_7 : decode cX4_become 7 = .ok (.aload_n 0, 1) := by decide +kernel
theorem dX4_become_8 : decode cX4_become 8 = .ok (.getfield 9, 3) := by decide +kernel
theorem dX4_become_11 : decode cX4_become 11 = .ok (.iload_n 2, 1) := by decide +kernel
theorem dX4_become_12 : decode cX4_become 12 = .ok (.aload_n 1, 1) := by decide +kernel
theorem dX4_become_13 : decode cX4_become 13 = .ok (.getfield 9, 3) := by decide +kernel
theorem dX4_become_16 : decode cX4_become 16 = .ok (.iload_n 2, 1) := by decide +kernel
theorem dX4_become_17 : decode cX4_become 17 = .ok (.iaload, 1) := by decide +kernel
theorem dX4_become_18 : decode cX4_become 18 = .ok (.iastore, 1) := by decide +kernel
theorem dX4_become_19 : decode cX4_become 19 = .ok (.aload_n 0, 1) := by decide +kernel
theorem dX4_become_20 : decode cX4_become 20 = .ok (.getfield 15, 3) := by decide +kernel
theorem dX4_become_23 : decode cX4_become 23 = .ok (.iload_n 2, 1) := by decide +kernel
theorem dX4_become_24 : decode cX4_become 24 = .ok (.aload_n 1, 1) := by decide +kernel
theorem dX4_become_25 : decode cX4_become 25 = .ok (.getfield 15, 3) := by decide +kernel
theorem dX4_become_28 : decode cX4_become 28 = .ok (.iload_n 2, 1) := by decide +kernel
theorem dX4_become_29 : decode cX4_become 29 = .ok (.iaload, 1) := by decide +kernel
theorem dX4_become_30 : decode cX4_become 30 = .ok (.iastore, 1) := by decide +kernel
theorem dX4_become_31 : decode cX4_become 31 = .ok (.iinc 2 1, 3) := by decide +kernel
theorem dX4_become_34 : decode cX4_become 34 = .ok (.goto (-32), 3) := by decide +kernel
theorem dX4_become_37 : decode cX4_become 37 = .ok (.return_, 1) := by decide +kernel
theorem dX4_hear_0 : decode cX4_hear 0 = .ok (.aload_n 0, 1) := by decide +kernel
theorem dX4_hear_1 : decode cX4_hear 1 = .ok (.getfield 9, 3) := by decide +kernel
theorem dX4_hear_4 : decode cX4_hear 4 = .ok (.iload_n 1, 1) := by decide +kernel
theorem dX4_hear_5 : decode cX4_hear 5 = .ok (.dup2, 1) := by decide +kernel
theorem dX4_hear_6 : decode cX4_hear 6 = .ok (.iaload, 1) := by decide +kernel
theorem dX4_hear_7 : decode cX4_hear 7 = .ok (.iconst 1, 1) := by decide +kernel
theorem dX4_hear_8 : decode cX4_hear 8 = .ok (.iload_n 2, 1) := by decide +kernel
theorem dX4_hear_9 : decode cX4_hear 9 = .ok (.ishl, 1) := by decide +kernel
theorem dX4_hear_10 : decode cX4_hear 10 = .ok (.ior, 1) := by decide +kernel
theorem dX4_hear_11 : decode cX4_hear 11 = .ok (.iastore, 1) := by decide +kernel
theorem dX4_hear_12 : decode cX4_hear 12 = .ok (.return_, 1) := by decide +kernel
theorem dX4_enliven_0 : decode cX4_enliven 0 = .ok (.aload_n 0, 1) := by decide +kernel
theorem dX4_enliven_1 : decode cX4_enliven 1 = .ok (.getfield 15, 3) := by decide +kernel
theorem dX4_enliven_4 : decode cX4_enliven 4 = .ok (.iload_n 1, 1) := by decide +kernel
theorem dX4_enliven_5 : decode cX4_enliven 5 = .ok (.dup2, 1) := by decide +kernel
theorem dX4_enliven_6 : decode cX4_enliven 6 = .ok (.iaload, 1) := by decide +kernel
theorem dX4_enliven_7 : decode cX4_enliven 7 = .ok (.iconst 1, 1) := by decide +kernel
theorem dX4_enliven_8 : decode cX4_enliven 8 = .ok (.iload_n 2, 1) := by decide +kernel
theorem dX4_enliven_9 : decode cX4_enliven 9 = .ok (.ishl, 1) := by decide +kernel
theorem dX4_enliven_10 : decode cX4_enliven 10 = .ok (.ior, 1) := by decide +kernel
theorem dX4_enliven_11 : decode cX4_enliven 11 = .ok (.iastore, 1) := by decide +kernel
theorem dX4_enliven_12 : decode cX4_enliven 12 = .ok (.return_, 1) := by decide +kernel
theorem dX4_join_0 : decode cX4_join 0 = .ok (.iconst 0, 1) := by decide +kernel
theorem dX4_join_1 : decode cX4_join 1 = .ok (.istore_n 2, 1) := by decide +kernel
theorem dX4_join_2 : decode cX4_join 2 = .ok (.iload_n 2, 1) := by decide +kernel
theorem dX4_join_3 : decode cX4_join 3 = .ok (.iconst 4, 1) := by decide +kernel
theorem dX4_join_4 : decode cX4_join 4 = .ok (.if_icmp .ge 85, 3) := by decide +kernel
theorem dX4_join_7 : decode cX4_join 7 = .ok (.aload_n 0, 1) := by decide +kernel
theorem dX4_join_8 : decode cX4_join 8 = .ok (.getfield 15, 3) := by decide +kernel
theorem dX4_join_11 : decode cX4_join 11 = .ok (.iload_n 2, 1) := by decide +kernel
theorem dX4_join_12 : decode cX4_join 12 = .ok (.iaload, 1) := by decide +kernel
theorem dX4_join_13 : decode cX4_join 13 = .ok (.aload_n 1, 1) := by decide +kernel
theorem dX4_join_14 : decode cX4_join 14 = .ok (.getfield 15, 3) := by decide +kernel
theorem dX4_join_17 : decode cX4_join 17 = .ok (.iload_n 2, 1) := by decide +kernel
theorem dX4_join_18 : decode cX4_join 18 = .ok (.iaload, 1) := by decide +kernel
theorem dX4_join_19 : decode cX4_join 19 = .ok (.iand, 1) := by decide +kernel
theorem dX4_join_20 : decode cX4_join 20 = .ok (.istore_n 3, 1) := by decide +kernel
theorem dX4_join_21 : decode cX4_join 21 = .ok (.aload_n 0, 1) := by decide +kernel
theorem dX4_join_22 : decode cX4_join 22 = .ok (.getfield 15, 3) := by decide +kernel
theorem dX4_join_25 : decode cX4_join 25 = .ok (.iload_n 2, 1) := by decide +kernel
theorem dX4_join_26 : decode cX4_join 26 = .ok (.iaload, 1) := by decide +kernel
theorem dX4_join_27 : decode cX4_join 27 = .ok (.aload_n 1, 1) := by decide +kernel
theorem dX4_join_28 : decode cX4_join 28 = .ok (.getfield 9, 3) := by decide +kernel
theorem dX4_join_31 : decode cX4_join 31 = .ok (.iload_n 2, 1) := by decide +kernel
theorem dX4_join_32 : decode cX4_join 32 = .ok (.iaload, 1) := by decide +kernel
theorem dX4_join_33 : decode cX4_join 33 = .ok (.iconst (-1), 1) := by decide +kernel
theorem dX4_join_34 : decode cX4_join 34 = .ok (.ixor, 1) := by decide +kernel
theorem dX4_join_35 : decode cX4_join 35 = .ok (.iand, 1) := by decide +kernel
theorem dX4_join_36 : decode cX4_join 36 = .ok (.istore 4, 2) := by decide +kernel
theorem dX4_join_38 : decode cX4_join 38 = .ok (.aload_n 1, 1) := by decide +kernel
theorem dX4_join_39 : decode cX4_join 39 = .ok (.getfield 15, 3) := by decide +kernel
theorem dX4_join_42 : decode cX4_join 42 = .ok (.iload_n 2, 1) := by decide +kernel
theorem dX4_join_43 : decode cX4_join 43 = .ok (.iaload, 1) := by decide +kernel
theorem dX4_join_44 : decode cX4_join 44 = .ok (.aload_n 0, 1) := by decide +kernel
theorem dX4_join_45 : decode cX4_join 45 = .ok (.getfield 9, 3) := by decide +kernel
theorem dX4_join_48 : decode cX4_join 48 = .ok (.iload_n 2, 1) := by decide +kernel
theorem dX4_join_49 : decode cX4_join 49 = .ok (.iaload, 1) := by decide +kernel
theorem dX4_join_50 : decode cX4_join 50 = .ok (.iconst (-1), 1) := by decide +kernel
theorem dX4_join_51 : decode cX4_join 51 = .ok (.ixor, 1) := by decide +kernel
theorem dX4_join_52 : decode cX4_join 52 = .ok (.iand, 1) := by decide +kernel
theorem dX4_join_53 : decode cX4_join 53 = .ok (.istore 5, 2) := by decide +kernel
theorem dX4_join_55 : decode cX4_join 55 = .ok (.aload_n 0, 1) := by decide +kernel
theorem dX4_join_56 : decode cX4_join 56 = .ok (.getfield 15, 3) := by decide +kernel
theorem dX4_join_59 : decode cX4_join 59 = .ok (.iload_n 2, 1) := by decide +kernel
theorem dX4_join_60 : decode cX4_join 60 = .ok (.iload_n 3, 1) := by decide +kernel
theorem dX4_join_61 : decode cX4_join 61 = .ok (.iload 4, 2) := by decide +kernel
theorem dX4_join_63 : decode cX4_join 63 = .ok (.ior, 1) := by decide +kernel
theorem dX4_join_64 : decode cX4_join 64 = .ok (.iload 5, 2) := by decide +kernel
theorem dX4_join_66 : decode cX4_join 66 = .ok (.ior, 1) := by decide +kernel
theorem dX4_join_67 : decode cX4_join 67 = .ok (.iastore, 1) := by decide +kernel
theorem dX4_join_68 : decode cX4_join 68 = .ok (.aload_n 0, 1) := by decide +kernel
theorem dX4_join_69 : decode cX4_join 69 = .ok (.getfield 9, 3) := by decide +kernel
theorem dX4_join_72 : decode cX4_join 72 = .ok (.iload_n 2, 1) := by decide +kernel
theorem dX4_join_73 : decode cX4_join 73 = .ok (.dup2, 1) := by decide +kernel
theorem dX4_join_74 : decode cX4_join 74 = .ok (.iaload, 1) := by decide +kernel
theorem dX4_join_75 : decode cX4_join 75 = .ok (.aload_n 1, 1) := by decide +kernel
theorem dX4_join_76 : decode cX4_join 76 = .ok (.getfield 9, 3) := by decide +kernel
theorem dX4_join_79 : decode cX4_join 79 = .ok (.iload_n 2, 1) := by decide +kernel
theorem dX4_join_80 : decode cX4_join 80 = .ok (.iaload, 1) := by decide +kernel
theorem dX4_join_81 : decode cX4_join 81 = .ok (.ior, 1) := by decide +kernel
theorem dX4_join_82 : decode cX4_join 82 = .ok (.iastore, 1) := by decide +kernel
theorem dX4_join_83 : decode cX4_join 83 = .ok (.iinc 2 1, 3) := by decide +kernel
theorem dX4_join_86 : decode cX4_join 86 = .ok (.goto (-84), 3) := by decide +kernel
theorem dX4_join_89 : decode cX4_join 89 = .ok (.return_, 1) := by decide +kernel
theorem dX4_isSame_0 : decode cX4_isSame 0 = .ok (.aload_n 0, 1) := by decide +kernel
theorem dX4_isSame_1 : decode cX4_isSame 1 = .ok (.getfield 9, 3) := by decide +kernel
theorem dX4_isSame_4 : decode cX4_isSame 4 = .ok (.aload_n 1, 1) := by decide +kernel
theorem dX4_isSame_5 : decode cX4_isSame 5 = .ok (.getfield 9, 3) := by decide +kernel
theorem dX4_isSame_8 : decode cX4_isSame 8 = .ok (.invokestatic 18, 3) := by decide +kernel
theorem dX4_isSame_11 : decode cX4_isSame 11 = .ok (.ifCond .ne 21, 3) := by decide +kernel
theorem dX4_isSame_14 : decode cX4_isSame 14 = .ok (.aload_n 0, 1) := by decide +kernel
theorem dX4_isSame_15 : decode cX4_isSame 15 = .ok (.getfield 15, 3) := by decide +kernel
theorem dX4_isSame_18 : decode cX4_isSame 18 = .ok (.aload_n 1, 1) := by decide +kernel
theorem dX4_isSame_19 : decode cX4_isSame 19 = .ok (.getfield 15, 3) := by decide +kernel
theorem dX4_isSame_22 : decode cX4_isSame 22 = .ok (.invokestatic 18, 3) := by decide +kernel
theorem dX4_isSame_25 : decode cX4_isSame 25 = .ok (.ifCond .ne 7, 3) := by decide +kernel
theorem dX4_isSame_28 : decode cX4_isSame 28 = .ok (.iconst 1, 1) := by decide +kernel
theorem dX4_isSame_29 : decode cX4_isSame 29 = .ok (.goto 4, 3) := by decide +kernel
theorem dX4_isSame_32 : decode cX4_isSame 32 = .ok (.iconst 0, 1) := by decide +kernel
theorem dX4_isSame_33 : decode cX4_isSame 33 = .ok (.ireturn, 1) := by decide +kernel
theorem dX4_heardInAll_0 : decode cX4_heardInAll 0 = .ok (.aload_n 0, 1) := by decide +kernel
theorem dX4_heardInAll_1 : decode cX4_heardInAll 1 = .ok (.getfield 9, 3) := by decide +kernel
theorem dX4_heardInAll_4 : decode cX4_heardInAll 4 = .ok (.invokestatic 22, 3) := by decide +kernel
theorem dX4_heardInAll_7 : decode cX4_heardInAll 7 = .ok (.ireturn, 1) := by decide +kernel
theorem dX4_aliveInAll_0 : decode cX4_aliveInAll 0 = .ok (.aload_n 0, 1) := by decide +kernel
theorem dX4_aliveInAll_1 : decode cX4_aliveInAll 1 = .ok (.getfield 15, 3) := by decide +kernel
theorem dX4_aliveInAll_4 : decode cX4_aliveInAll 4 = .ok (.invokestatic 22, 3) := by decide +kernel
theorem dX4_aliveInAll_7 : decode cX4_aliveInAll 7 = .ok (.ireturn, 1) := by decide +kernel
theorem dX4_bitsIn_0 : decode cX4_bitsIn 0 = .ok (.iconst 0, 1) := by decide +kernel
theorem dX4_bitsIn_1 : decode cX4_bitsIn 1 = .ok (.istore_n 1, 1) := by decide +kernel
theorem dX4_bitsIn_2 : decode cX4_bitsIn 2 = .ok (.iconst 0, 1) := by decide +kernel
theorem dX4_bitsIn_3 : decode cX4_bitsIn 3 = .ok (.istore_n 2, 1) := by decide +kernel
theorem dX4_bitsIn_4 : decode cX4_bitsIn 4 = .ok (.iload_n 2, 1) := by decide +kernel
theorem dX4_bitsIn_5 : decode cX4_bitsIn 5 = .ok (.iconst 4, 1) := by decide +kernel
theorem dX4_bitsIn_6 : decode cX4_bitsIn 6 = .ok (.if_icmp .ge 18, 3) := by decide +kernel
theorem dX4_bitsIn_9 : decode cX4_bitsIn 9 = .ok (.iload_n 1, 1) := by decide +kernel
theorem dX4_bitsIn_10 : decode cX4_bitsIn 10 = .ok (.aload_n 0, 1) := by decide +kernel
theorem dX4_bitsIn_11 : decode cX4_bitsIn 11 = .ok (.iload_n 2, 1) := by decide +kernel
theorem dX4_bitsIn_12 : decode cX4_bitsIn 12 = .ok (.iaload, 1) := by decide +kernel
theorem dX4_bitsIn_13 : decode cX4_bitsIn 13 = .ok (.invokestatic 26, 3) := by decide +kernel
theorem dX4_bitsIn_16 : decode cX4_bitsIn 16 = .ok (.iadd, 1) := by decide +kernel
theorem dX4_bitsIn_17 : decode cX4_bitsIn 17 = .ok (.istore_n 1, 1) := by decide +kernel
theorem dX4_bitsIn_18 : decode cX4_bitsIn 18 = .ok (.iinc 2 1, 3) := by decide +kernel
theorem dX4_bitsIn_21 : decode cX4_bitsIn 21 = .ok (.goto (-17), 3) := by decide +kernel
theorem dX4_bitsIn_24 : decode cX4_bitsIn 24 = .ok (.iload_n 1, 1) := by decide +kernel
theorem dX4_bitsIn_25 : decode cX4_bitsIn 25 = .ok (.ireturn, 1) := by decide +kernel
theorem dX5_init_0 : decode cX5_init 0 = .ok (.aload_n 0, 1) := by decide +kernel
theorem dX5_init_1 : decode cX5_init 1 = .ok (.invokespecial 1, 3) := by decide +kernel
theorem dX5_init_4 : decode cX5_init 4 = .ok (.aload_n 0, 1) := by decide +kernel
theorem dX5_init_5 : decode cX5_init 5 = .ok (.new 7, 3) := by decide +kernel
theorem dX5_init_8 : decode cX5_init 8 = .ok (.dup, 1) := by decide +kernel
theorem dX5_init_9 : decode cX5_init 9 = .ok (.invokespecial 9, 3) := by decide +kernel
theorem dX5_init_12 : decode cX5_init 12 = .ok (.putfield 10, 3) := by decide +kernel
theorem dX5_init_15 : decode cX5_init 15 = .ok (.aload_n 0, 1) := by decide +kernel
theorem dX5_init_16 : decode cX5_init 16 = .ok (.new 7, 3) := by decide +kernel
theorem dX5_init_19 : decode cX5_init 19 = .ok (.dup, 1) := by decide +kernel
theorem dX5_init_20 : decode cX5_init 20 = .ok (.invokespecial 9, 3) := by decide +kernel
theorem dX5_init_23 : decode cX5_init 23 = .ok (.putfield 16, 3) := by decide +kernel
theorem dX5_init_26 : decode cX5_init 26 = .ok (.aload_n 0, 1) := by decide +kernel
theorem dX5_init_27 : decode cX5_init 27 = .ok (.iconst 4, 1) := by decide +kernel
theorem dX5_init_28 : decode cX5_init 28 = .ok (.anewarray 19, 3) := by decide +kernel
theorem dX5_init_31 : decode cX5_init 31 = .ok (.putfield 21, 3) := by decide +kernel
theorem dX5_init_34 : decode cX5_init 34 = .ok (.aload_n 0, 1) := by decide +kernel
theorem dX5_init_35 : decode cX5_init 35 = .ok (.new 25, 3) := by decide +kernel
theorem dX5_init_38 : decode cX5_init 38 = .ok (.dup, 1) := by decide +kernel
theorem dX5_init_39 : decode cX5_init 39 = .ok (.invokespecial 27, 3) := by decide +kernel
theorem dX5_init_42 : decode cX5_init 42 = .ok (.putfield 28, 3) := by decide +kernel
theorem dX5_init_45 : decode cX5_init 45 = .ok (.aload_n 0, 1) := by decide +kernel
theorem dX5_init_46 : decode cX5_init 46 = .ok (.new 25, 3) := by decide +kernel
theorem dX5_init_49 : decode cX5_init 49 = .ok (.dup, 1) := by decide +kernel
theorem dX5_init_50 : decode cX5_init 50 = .ok (.invokespecial 27, 3) := by decide +kernel
theorem dX5_init_53 : decode cX5_init 53 = .ok (.putfield 32, 3) := by decide +kernel
theorem dX5_init_56 : decode cX5_init 56 = .ok (.aload_n 0, 1) := by decide +kernel
theorem dX5_init_57 : decode cX5_init 57 = .ok (.new 25, 3) := by decide +kernel
theorem dX5_init_60 : decode cX5_init 60 = .ok (.dup, 1) := by decide +kernel
theorem dX5_init_61 : decode cX5_init 61 = .ok (.invokespecial 27, 3) := by decide +kernel
theorem dX5_init_64 : decode cX5_init 64 = .ok (.putfield 35, 3) := by decide +kernel
theorem dX5_init_67 : decode cX5_init 67 = .ok (.aload_n 0, 1) := by decide +kernel
theorem dX5_init_68 : decode cX5_init 68 = .ok (.iconst 4, 1) := by decide +kernel
theorem dX5_init_69 : decode cX5_init 69 = .ok (.anewarray 25, 3) := by decide +kernel
theorem dX5_init_72 : decode cX5_init 72 = .ok (.putfield 38, 3) := by decide +kernel
theorem dX5_init_75 : decode cX5_init 75 = .ok (.iconst 0, 1) := by decide +kernel
theorem dX5_init_76 : decode cX5_init 76 = .ok (.istore_n 1, 1) := by decide +kernel
theorem dX5_init_77 : decode cX5_init 77 = .ok (.iload_n 1, 1) := by decide +kernel
theorem dX5_init_78 : decode cX5_init 78 = .ok (.iconst 4, 1) := by decide +kernel
theorem dX5_init_79 : decode cX5_init 79 = .ok (.if_icmp .ge 22, 3) := by decide +kernel
theorem dX5_init_82 : decode cX5_init 82 = .ok (.aload_n 0, 1) := by decide +kernel
theorem dX5_init_83 : decode cX5_init 83 = .ok (.getfield 21, 3) := by decide +kernel
theorem dX5_init_86 : decode cX5_init 86 = .ok (.iload_n 1, 1) := by decide +kernel
theorem dX5_init_87 : decode cX5_init 87 = .ok (.new 19, 3) := by decide +kernel
theorem dX5_init_90 : decode cX5_init 90 = .ok (.dup, 1) := by decide +kernel
theorem dX5_init_91 : decode cX5_init 91 = .ok (.invokespecial 42, 3) := by decide +kernel
theorem dX5_init_94 : decode cX5_init 94 = .ok (.aastore, 1) := by decide +kernel
theorem dX5_init_95 : decode cX5_init 95 = .ok (.iinc 1 1, 3) := by decide +kernel
theorem dX5_init_98 : decode cX5_init 98 = .ok (.goto (-21), 3) := by decide +kernel
theorem dX5_init_101 : decode cX5_init 101 = .ok (.iconst 0, 1) := by decide +kernel
theorem dX5_init_102 : decode cX5_init 102 = .ok (.istore_n 1, 1) := by decide +kernel
theorem dX5_init_103 : decode cX5_init 103 = .ok (.iload_n 1, 1) := by decide +kernel
theorem dX5_init_104 : decode cX5_init 104 = .ok (.iconst 4, 1) := by decide +kernel
theorem dX5_init_105 : decode cX5_init 105 = .ok (.if_icmp .ge 22, 3) := by decide +kernel
theorem dX5_init_108 : decode cX5_init 108 = .ok (.aload_n 0, 1) := by decide +kernel
theorem dX5_init_109 : decode cX5_init 109 = .ok (.getfield 38, 3) := by decide +kernel
theorem dX5_init_112 : decode cX5_init 112 = .ok (.iload_n 1, 1) := by decide +kernel
theorem dX5_init_113 : decode cX5_init 113 = .ok (.new 25, 3) := by decide +kernel
theorem dX5_init_116 : decode cX5_init 116 = .ok (.dup, 1) := by decide +kernel
theorem dX5_init_117 : decode cX5_init 117 = .ok (.invokespecial 27, 3) := by decide +kernel
theorem dX5_init_120 : decode cX5_init 120 = .ok (.aastore, 1) := by decide +kernel
theorem dX5_init_121 : decode cX5_init 121 = .ok (.iinc 1 1, 3) := by decide +kernel
theorem dX5_init_124 : decode cX5_init 124 = .ok (.goto (-21), 3) := by decide +kernel
theorem dX5_init_127 : decode cX5_init 127 = .ok (.return_, 1) := by decide +kernel
theorem dX5_add_0 : decode cX5_add 0 = .ok (.iload_n 1, 1) := by decide +kernel
theorem dX5_add_1 : decode cX5_add 1 = .ok (.invokestatic 43, 3) := by decide +kernel
theorem dX5_add_4 : decode cX5_add 4 = .ok (.ifCond .eq 11, 3) := by decide +kernel
theorem dX5_add_7 : decode cX5_add 7 = .ok (.iload_n 2, 1) := by decide +kernel
theorem dX5_add_8 : decode cX5_add 8 = .ok (.iload_n 3, 1) := by decide +kernel
theorem dX5_add_9 : decode cX5_add 9 = .ok (.invokestatic 47, 3) := by decide +kernel
theorem dX5_add_12 : decode cX5_add 12 = .ok (.ifCond .ne 6, 3) := by decide +kernel
theorem dX5_add_15 : decode cX5_add 15 = .ok (.bipush (-2), 2) := by decide +kernel
theorem dX5_add_17 : decode cX5_add 17 = .ok (.ireturn, 1) := by decide +kernel
theorem dX5_add_18 : decode cX5_add 18 = .ok (.aload_n 0, 1) := by decide +kernel
theorem dX5_add_19 : decode cX5_add 19 = .ok (.getfield 10, 3) := by decide +kernel
theorem dX5_add_22 : decode cX5_add 22 = .ok (.getfield 51, 3) := by decide +kernel
theorem dX5_add_25 : decode cX5_add 25 = .ok (.getfield 55, 3) := by decide +kernel
theorem dX5_add_28 : decode cX5_add 28 = .ok (.iload_n 1, 1) := by decide +kernel
theorem dX5_add_29 : decode cX5_add 29 = .ok (.iaload, 1) := by decide +kernel
theorem dX5_add_30 : decode cX5_add 30 = .ok (.bipush 31, 2) := by decide +kernel
theorem dX5_add_32 : decode cX5_add 32 = .ok (.if_icmp .lt 6, 3) := by decide +kernel
theorem dX5_add_35 : decode cX5_add 35 = .ok (.bipush (-4), 2) := by decide +kernel
theorem dX5_add_37 : decode cX5_add 37 = .ok (.ireturn, 1) := by decide +kernel
theorem dX5_add_38 : decode cX5_add 38 = .ok (.iload_n 2, 1) := by decide +kernel
theorem dX5_add_39 : decode cX5_add 39 = .ok (.iload_n 3, 1) := by decide +kernel
theorem dX5_add_40 : decode cX5_add 40 = .ok (.invokestatic 61, 3) := by decide +kernel
theorem dX5_add_43 : decode cX5_add 43 = .ok (.istore 5, 2) := by decide +kernel
theorem dX5_add_45 : decode cX5_add 45 = .ok (.aload_n 0, 1) := by decide +kernel
theorem dX5_add_46 : decode cX5_add 46 = .ok (.getfield 28, 3) := by decide +kernel
theorem dX5_add_49 : decode cX5_add 49 = .ok (.invokevirtual 65, 3) := by decide +kernel
theorem dX5_add_52 : decode cX5_add 52 = .ok (.aload_n 0, 1) := by decide +kernel
theorem dX5_add_53 : decode cX5_add 53 = .ok (.aload_n 0, 1) := by decide +kernel
theorem dX5_add_54 : decode cX5_add 54 = .ok (.getfield 10, 3) := by decide +kernel
theorem dX5_add_57 : decode cX5_add 57 = .ok (.getfield 68, 3) := by decide +kernel
theorem dX5_add_60 : decode cX5_add 60 = .ok (.iload_n 1, 1) := by decide +kernel
theorem dX5_add_61 : decode cX5_add 61 = .ok (.aaload, 1) := by decide +kernel
theorem dX5_add_62 : decode cX5_add 62 = .ok (.iload 5, 2) := by decide +kernel
theorem dX5_add_64 : decode cX5_add 64 = .ok (.iload 4, 2) := by decide +kernel
theorem dX5_add_66 : decode cX5_add 66 = .ok (.invokevirtual 71, 3) := by decide +kernel
theorem dX5_add_69 : decode cX5_add 69 = .ok (.aload_n 0, 1) := by decide +kernel
theorem dX5_add_70 : decode cX5_add 70 = .ok (.getfield 10, 3) := by decide +kernel
theorem dX5_add_73 : decode cX5_add 73 = .ok (.getfield 51, 3) := by decide +kernel
theorem dX5_add_76 : decode cX5_add 76 = .ok (.iload_n 1, 1) := by decide +kernel
theorem dX5_add_77 : decode cX5_add 77 = .ok (.aload_n 0, 1) := by decide +kernel
theorem dX5_add_78 : decode cX5_add 78 = .ok (.getfield 10, 3) := by decide +kernel
theorem dX5_add_81 : decode cX5_add 81 = .ok (.getfield 68, 3) := by decide +kernel
theorem dX5_add_84 : decode cX5_add 84 = .ok (.iload_n 1, 1) := by decide +kernel
theorem dX5_add_85 : decode cX5_add 85 = .ok (.aaload, 1) := by decide +kernel
theorem dX5_add_86 : decode cX5_add 86 = .ok (.iload 5, 2) := by decide +kernel
theorem dX5_add_88 : decode cX5_add 88 = .ok (.iload 4, 2) := by decide +kernel
theorem dX5_add_90 : decode cX5_add 90 = .ok (.invokevirtual 75, 3) := by decide +kernel
theorem dX5_add_93 : decode cX5_add 93 = .ok (.istore 6, 2) := by decide +kernel
theorem dX5_add_95 : decode cX5_add 95 = .ok (.aload_n 0, 1) := by decide +kernel
theorem dX5_add_96 : decode cX5_add 96 = .ok (.getfield 28, 3) := by decide +kernel
theorem dX5_add_99 : decode cX5_add 99 = .ok (.iload_n 1, 1) := by decide +kernel
theorem dX5_add_100 : decode cX5_add 100 = .ok (.iload 6, 2) := by decide +kernel
theorem dX5_add_102 : decode cX5_add 102 = .ok (.invokevirtual 79, 3) := by decide +kernel
theorem dX5_add_105 : decode cX5_add 105 = .ok (.aload_n 0, 1) := by decide +kernel
theorem dX5_add_106 : decode cX5_add 106 = .ok (.getfield 28, 3) := by decide +kernel
theorem dX5_add_109 : decode cX5_add 109 = .ok (.iload_n 1, 1) := by decide +kernel
theorem dX5_add_110 : decode cX5_add 110 = .ok (.iload 6, 2) := by decide +kernel
theorem dX5_add_112 : decode cX5_add 112 = .ok (.invokevirtual 83, 3) := by decide +kernel
theorem dX5_add_115 : decode cX5_add 115 = .ok (.aload_n 0, 1) := by decide +kernel
theorem dX5_add_116 : decode cX5_add 116 = .ok (.getfield 10, 3) := by decide +kernel
theorem dX5_add_119 : decode cX5_add 119 = .ok (.iload_n 1, 1) := by decide +kernel
theorem dX5_add_120 : decode cX5_add 120 = .ok (.aload_n 0, 1) := by decide +kernel
theorem dX5_add_121 : decode cX5_add 121 = .ok (.getfield 28, 3) := by decide +kernel
theorem dX5_add_124 : decode cX5_add 124 = .ok (.invokevirtual 86, 3) := by decide +kernel
theorem dX5_add_127 : decode cX5_add 127 = .ok (.iload 6, 2) := by decide +kernel
theorem dX5_add_129 : decode cX5_add 129 = .ok (.ireturn, 1) := by decide +kernel
theorem dX5_take_0 : decode cX5_take 0 = .ok (.iload_n 1, 1) := by decide +kernel
theorem dX5_take_1 : decode cX5_take 1 = .ok (.invokestatic 43, 3) := by decide +kernel
theorem dX5_take_4 : decode cX5_take 4 = .ok (.ifCond .eq 11, 3) := by decide +kernel
theorem dX5_take_7 : decode cX5_take 7 = .ok (.iload_n 2, 1) := by decide +kernel
theorem dX5_take_8 : decode cX5_take 8 = .ok (.iload_n 3, 1) := by decide +kernel
theorem dX5_take_9 : decode cX5_take 9 = .ok (.invokestatic 47, 3) := by decide +kernel
theorem dX5_take_12 : decode cX5_take 12 = .ok (.ifCond .ne 6, 3) := by decide +kernel
theorem dX5_take_15 : decode cX5_take 15 = .ok (.bipush (-2), 2) := by decide +kernel
theorem dX5_take_17 : decode cX5_take 17 = .ok (.ireturn, 1) := by decide +kernel
theorem dX5_take_18 : decode cX5_take 18 = .ok (.aload_n 0, 1) := by decide +kernel
theorem dX5_take_19 : decode cX5_take 19 = .ok (.getfield 28, 3) := by decide +kernel
theorem dX5_take_22 : decode cX5_take 22 = .ok (.invokevirtual 65, 3) := by decide +kernel
theorem dX5_take_25 : decode cX5_take 25 = .ok (.aload_n 0, 1) := by decide +kernel
theorem dX5_take_26 : decode cX5_take 26 = .ok (.getfield 10, 3) := by decide +kernel
theorem dX5_take_29 : decode cX5_take 29 = .ok (.getfield 51, 3) := by decide +kernel
theorem dX5_take_32 : decode cX5_take 32 = .ok (.aload_n 0, 1) := by decide +kernel
theorem dX5_take_33 : decode cX5_take 33 = .ok (.getfield 10, 3) := by decide +kernel
theorem dX5_take_36 : decode cX5_take 36 = .ok (.getfield 68, 3) := by decide +kernel
theorem dX5_take_39 : decode cX5_take 39 = .ok (.iload_n 1, 1) := by decide +kernel
theorem dX5_take_40 : decode cX5_take 40 = .ok (.aaload, 1) := by decide +kernel
theorem dX5_take_41 : decode cX5_take 41 = .ok (.iload_n 2, 1) := by decide +kernel
theorem dX5_take_42 : decode cX5_take 42 = .ok (.iload_n 3, 1) := by decide +kernel
theorem dX5_take_43 : decode cX5_take 43 = .ok (.invokestatic 61, 3) := by decide +kernel
theorem dX5_take_46 : decode cX5_take 46 = .ok (.iload 4, 2) := by decide +kernel
theorem dX5_take_48 : decode cX5_take 48 = .ok (.aload_n 0, 1) := by decide +kernel
theorem dX5_take_49 : decode cX5_take 49 = .ok (.getfield 28, 3) := by decide +kernel
theorem dX5_take_52 : decode cX5_take 52 = .ok (.invokevirtual 90, 3) := by decide +kernel
theorem dX5_take_55 : decode cX5_take 55 = .ok (.aload_n 0, 1) := by decide +kernel
theorem dX5_take_56 : decode cX5_take 56 = .ok (.getfield 10, 3) := by decide +kernel
theorem dX5_take_59 : decode cX5_take 59 = .ok (.iload_n 1, 1) := by decide +kernel
theorem dX5_take_60 : decode cX5_take 60 = .ok (.aload_n 0, 1) := by decide +kernel
theorem dX5_take_61 : decode cX5_take 61 = .ok (.getfield 28, 3) := by decide +kernel
theorem dX5_take_64 : decode cX5_take 64 = .ok (.invokevirtual 86, 3) := by decide +kernel
theorem dX5_take_67 : decode cX5_take 67 = .ok (.aload_n 0, 1) := by decide +kernel
theorem dX5_take_68 : decode cX5_take 68 = .ok (.getfield 28, 3) := by decide +kernel
theorem dX5_take_71 : decode cX5_take 71 = .ok (.invokevirtual 94, 3) := by decide +kernel
theorem dX5_take_74 : decode cX5_take 74 = .ok (.ireturn, 1) := by decide +kernel
theorem dX5_reset_0 : decode cX5_reset 0 = .ok (.iload_n 1, 1) := by decide +kernel
theorem dX5_reset_1 : decode cX5_reset 1 = .ok (.invokestatic 43, 3) := by decide +kernel
theorem dX5_reset_4 : decode cX5_reset 4 = .ok (.ifCond .eq 10, 3) := by decide +kernel
theorem dX5_reset_7 : decode cX5_reset 7 = .ok (.iload_n 2, 1) := by decide +kernel
theorem dX5_reset_8 : decode cX5_reset 8 = .ok (.invokestatic 98, 3) := by decide +kernel
theorem dX5_reset_11 : decode cX5_reset 11 = .ok (.ifCond .ne 6, 3) := by decide +kernel
theorem dX5_reset_14 : decode cX5_reset 14 = .ok (.bipush (-2), 2) := by decide +kernel
theorem dX5_reset_16 : decode cX5_reset 16 = .ok (.ireturn, 1) := by decide +kernel
theorem dX5_reset_17 : decode cX5_reset 17 = .ok (.aload_n 0, 1) := by decide +kernel
theorem dX5_reset_18 : decode cX5_reset 18 = .ok (.getfield 28, 3) := by decide +kernel
theorem dX5_reset_21 : decode cX5_reset 21 = .ok (.invokevirtual 65, 3) := by decide +kernel
theorem dX5_reset_24 : decode cX5_reset 24 = .ok (.iconst 0, 1) := by decide +kernel
theorem dX5_reset_25 : decode cX5_reset 25 = .ok (.istore_n 3, 1) := by decide +kernel
theorem dX5_reset_26 : decode cX5_reset 26 = .ok (.iload_n 3, 1) := by decide +kernel
theorem dX5_reset_27 : decode cX5_reset 27 = .ok (.iconst 4, 1) := by decide +kernel
theorem dX5_reset_28 : decode cX5_reset 28 = .ok (.if_icmp .ge 37, 3) := by decide +kernel
theorem dX5_reset_31 : decode cX5_reset 31 = .ok (.aload_n 0, 1) := by decide +kernel
theorem dX5_reset_32 : decode cX5_reset 32 = .ok (.getfield 10, 3) := by decide +kernel
theorem dX5_reset_35 : decode cX5_reset 35 = .ok (.getfield 51, 3) := by decide +kernel
theorem dX5_reset_38 : decode cX5_reset 38 = .ok (.aload_n 0, 1) := by decide +kernel
theorem dX5_reset_39 : decode cX5_reset 39 = .ok (.getfield 10, 3) := by decide +kernel
theorem dX5_reset_42 : decode cX5_reset 42 = .ok (.getfield 68, 3) := by decide +kernel
theorem dX5_reset_45 : decode cX5_reset 45 = .ok (.iload_n 1, 1) := by decide +kernel
theorem dX5_reset_46 : decode cX5_reset 46 = .ok (.aaload, 1) := by decide +kernel
theorem dX5_reset_47 : decode cX5_reset 47 = .ok (.iload_n 2, 1) := by decide +kernel
theorem dX5_reset_48 : decode cX5_reset 48 = .ok (.iload_n 3, 1) := by decide +kernel
theorem dX5_reset_49 : decode cX5_reset 49 = .ok (.invokestatic 61, 3) := by decide +kernel
theorem dX5_reset_52 : decode cX5_reset 52 = .ok (.aload_n 0, 1) := by decide +kernel
theorem dX5_reset_53 : decode cX5_reset 53 = .ok (.getfield 28, 3) := by decide +kernel
theorem dX5_reset_56 : decode cX5_reset 56 = .ok (.invokevirtual 101, 3) := by decide +kernel
theorem dX5_reset_59 : decode cX5_reset 59 = .ok (.iinc 3 1, 3) := by decide +kernel
theorem dX5_reset_62 : decode cX5_reset 62 = .ok (.goto (-36), 3) := by decide +kernel
theorem dX5_reset_65 : decode cX5_reset 65 = .ok (.aload_n 0, 1) := by decide +kernel
theorem dX5_reset_66 : decode cX5_reset 66 = .ok (.getfield 10, 3) := by decide +kernel
theorem dX5_reset_69 : decode cX5_reset 69 = .ok (.iload_n 1, 1) := by decide +kernel
theorem dX5_reset_70 : decode cX5_reset 70 = .ok (.aload_n 0, 1) := by decide +kernel
theorem dX5_reset_71 : decode cX5_reset 71 = .ok (.getfield 28, 3) := by decide +kernel
theorem dX5_reset_74 : decode cX5_reset 74 = .ok (.invokevirtual 86, 3) := by decide +kernel
theorem dX5_reset_77 : decode cX5_reset 77 = .ok (.aload_n 0, 1) := by decide +kernel
theorem dX5_reset_78 : decode cX5_reset 78 = .ok (.getfield 28, 3) := by decide +kernel
theorem dX5_reset_81 : decode cX5_reset 81 = .ok (.invokevirtual 94, 3) := by decide +kernel
theorem dX5_reset_84 : decode cX5_reset 84 = .ok (.ireturn, 1) := by decide +kernel
theorem dX5_kind_0 : decode cX5_kind 0 = .ok (.iload_n 1, 1) := by decide +kernel
theorem dX5_kind_1 : decode cX5_kind 1 = .ok (.iload_n 2, 1) := by decide +kernel
theorem dX5_kind_2 : decode cX5_kind 2 = .ok (.invokestatic 47, 3) := by decide +kernel
theorem dX5_kind_5 : decode cX5_kind 5 = .ok (.ifCond .eq 10, 3) := by decide +kernel
theorem dX5_kind_8 : decode cX5_kind 8 = .ok (.iload_n 3, 1) := by decide +kernel
theorem dX5_kind_9 : decode cX5_kind 9 = .ok (.invokestatic 105, 3) := by decide +kernel
theorem dX5_kind_12 : decode cX5_kind 12 = .ok (.ifCond .ne 6, 3) := by decide +kernel
theorem dX5_kind_15 : decode cX5_kind 15 = .ok (.bipush (-2), 2) := by decide +kernel
theorem dX5_kind_17 : decode cX5_kind 17 = .ok (.ireturn, 1) := by decide +kernel
theorem dX5_kind_18 : decode cX5_kind 18 = .ok (.iload_n 1, 1) := by decide +kernel
theorem dX5_kind_19 : decode cX5_kind 19 = .ok (.iload_n 2, 1) := by decide +kernel
theorem dX5_kind_20 : decode cX5_kind 20 = .ok (.invokestatic 61, 3) := by decide +kernel
theorem dX5_kind_23 : decode cX5_kind 23 = .ok (.istore 4, 2) := by decide +kernel
theorem dX5_kind_25 : decode cX5_kind 25 = .ok (.aload_n 0, 1) := by decide +kernel
theorem dX5_kind_26 : decode cX5_kind 26 = .ok (.getfield 10, 3) := by decide +kernel
theorem dX5_kind_29 : decode cX5_kind 29 = .ok (.getfield 108, 3) := by decide +kernel
theorem dX5_kind_32 : decode cX5_kind 32 = .ok (.iload 4, 2) := by decide +kernel
theorem dX5_kind_34 : decode cX5_kind 34 = .ok (.iaload, 1) := by decide +kernel
theorem dX5_kind_35 : decode cX5_kind 35 = .ok (.istore 5, 2) := by decide +kernel
theorem dX5_kind_37 : decode cX5_kind 37 = .ok (.aload_n 0, 1) := by decide +kernel
theorem dX5_kind_38 : decode cX5_kind 38 = .ok (.getfield 10, 3) := by decide +kernel
theorem dX5_kind_41 : decode cX5_kind 41 = .ok (.getfield 108, 3) := by decide +kernel
theorem dX5_kind_44 : decode cX5_kind 44 = .ok (.iload 4, 2) := by decide +kernel
theorem dX5_kind_46 : decode cX5_kind 46 = .ok (.iload_n 3, 1) := by decide +kernel
theorem dX5_kind_47 : decode cX5_kind 47 = .ok (.iastore, 1) := by decide +kernel
theorem dX5_kind_48 : decode cX5_kind 48 = .ok (.iload 5, 2) := by decide +kernel
theorem dX5_kind_50 : decode cX5_kind 50 = .ok (.ireturn, 1) := by decide +kernel
theorem dX5_taken_0 : decode cX5_taken 0 = .ok (.iload_n 1, 1) := by decide +kernel
theorem dX5_taken_1 : decode cX5_taken 1 = .ok (.iload_n 2, 1) := by decide +kernel
theorem dX5_taken_2 : decode cX5_taken 2 = .ok (.invokestatic 47, 3) := by decide +kernel
theorem dX5_taken_5 : decode cX5_taken 5 = .ok (.ifCond .eq 10, 3) := by decide +kernel
theorem dX5_taken_8 : decode cX5_taken 8 = .ok (.iload_n 3, 1) := by decide +kernel
theorem dX5_taken_9 : decode cX5_taken 9 = .ok (.invokestatic 105, 3) := by decide +kernel
theorem dX5_taken_12 : decode cX5_taken 12 = .ok (.ifCond .ne 6, 3) := by decide +kernel
theorem dX5_taken_15 : decode cX5_taken 15 = .ok (.bipush (-2), 2) := by decide +kernel
theorem dX5_taken_17 : decode cX5_taken 17 = .ok (.ireturn, 1) := by decide +kernel
theorem dX5_taken_18 : decode cX5_taken 18 = .ok (.aload_n 0, 1) := by decide +kernel
theorem dX5_taken_19 : decode cX5_taken 19 = .ok (.getfield 10, 3) := by decide +kernel
theorem dX5_taken_22 : decode cX5_taken 22 = .ok (.getfield 108, 3) := by decide +kernel
theorem dX5_taken_25 : decode cX5_taken 25 = .ok (.iload_n 1, 1) := by decide +kernel
theorem dX5_taken_26 : decode cX5_taken 26 = .ok (.iload_n 2, 1) := by decide +kernel
theorem dX5_taken_27 : decode cX5_taken 27 = .ok (.invokestatic 61, 3) := by decide +kernel
theorem dX5_taken_30 : decode cX5_taken 30 = .ok (.iaload, 1) := by decide +kernel
theorem dX5_taken_31 : decode cX5_taken 31 = .ok (.istore 4, 2) := by decide +kernel
theorem dX5_taken_33 : decode cX5_taken 33 = .ok (.iload 4, 2) := by decide +kernel
theorem dX5_taken_35 : decode cX5_taken 35 = .ok (.iload_n 3, 1) := by decide +kernel
theorem dX5_taken_36 : decode cX5_taken 36 = .ok (.invokestatic 111, 3) := by decide +kernel
theorem dX5_taken_39 : decode cX5_taken 39 = .ok (.ifCond .eq 8, 3) := by decide +kernel
theorem dX5_taken_42 : decode cX5_taken 42 = .ok (.iload 4, 2) := by decide +kernel
theorem dX5_taken_44 : decode cX5_taken 44 = .ok (.goto 5, 3) := by decide +kernel
theorem dX5_taken_47 : decode cX5_taken 47 = .ok (.bipush (-13), 2) := by decide +kernel
theorem dX5_taken_49 : decode cX5_taken 49 = .ok (.ireturn, 1) := by decide +kernel
theorem dX5_worth_0 : decode cX5_worth 0 = .ok (.iload_n 1, 1) := by decide +kernel
theorem dX5_worth_1 : decode cX5_worth 1 = .ok (.invokestatic 43, 3) := by decide +kernel
theorem dX5_worth_4 : decode cX5_worth 4 = .ok (.ifCond .eq 11, 3) := by decide +kernel
theorem dX5_worth_7 : decode cX5_worth 7 = .ok (.iload_n 2, 1) := by decide +kernel
theorem dX5_worth_8 : decode cX5_worth 8 = .ok (.iload_n 3, 1) := by decide +kernel
theorem dX5_worth_9 : decode cX5_worth 9 = .ok (.invokestatic 47, 3) := by decide +kernel
theorem dX5_worth_12 : decode cX5_worth 12 = .ok (.ifCond .ne 7, 3) := by decide +kernel
theorem dX5_worth_15 : decode cX5_worth 15 = .ok (.ldc2_w 114, 3) := by decide +kernel
theorem dX5_worth_18 : decode cX5_worth 18 = .ok (.lreturn, 1) := by decide +kernel
theorem dX5_worth_19 : decode cX5_worth 19 = .ok (.aload_n 0, 1) := by decide +kernel
theorem dX5_worth_20 : decode cX5_worth 20 = .ok (.getfield 10, 3) := by decide +kernel
theorem dX5_worth_23 : decode cX5_worth 23 = .ok (.aload_n 0, 1) := by decide +kernel
theorem dX5_worth_24 : decode cX5_worth 24 = .ok (.getfield 10, 3) := by decide +kernel
theorem dX5_worth_27 : decode cX5_worth 27 = .ok (.getfield 68, 3) := by decide +kernel
theorem dX5_worth_30 : decode cX5_worth 30 = .ok (.iload_n 1, 1) := by decide +kernel
theorem dX5_worth_31 : decode cX5_worth 31 = .ok (.aaload, 1) := by decide +kernel
theorem dX5_worth_32 : decode cX5_worth 32 = .ok (.iload_n 2, 1) := by decide +kernel
theorem dX5_worth_33 : decode cX5_worth 33 = .ok (.iload_n 3, 1) := by decide +kernel
theorem dX5_worth_34 : decode cX5_worth 34 = .ok (.invokestatic 61, 3) := by decide +kernel
theorem dX5_worth_37 : decode cX5_worth 37 = .ok (.invokevirtual 116, 3) := by decide +kernel
theorem dX5_worth_40 : decode cX5_worth 40 = .ok (.lreturn, 1) := by decide +kernel
theorem dX5_told_0 : decode cX5_told 0 = .ok (.iload_n 1, 1) := by decide +kernel
theorem dX5_told_1 : decode cX5_told 1 = .ok (.invokestatic 43, 3) := by decide +kernel
theorem dX5_told_4 : decode cX5_told 4 = .ok (.ifCond .eq 10, 3) := by decide +kernel
theorem dX5_told_7 : decode cX5_told 7 = .ok (.iload_n 2, 1) := by decide +kernel
theorem dX5_told_8 : decode cX5_told 8 = .ok (.invokestatic 43, 3) := by decide +kernel
theorem dX5_told_11 : decode cX5_told 11 = .ok (.ifCond .ne 6, 3) := by decide +kernel
theorem dX5_told_14 : decode cX5_told 14 = .ok (.bipush (-2), 2) := by decide +kernel
theorem dX5_told_16 : decode cX5_told 16 = .ok (.ireturn, 1) := by decide +kernel
theorem dX5_told_17 : decode cX5_told 17 = .ok (.iload_n 3, 1) := by decide +kernel
theorem dX5_told_18 : decode cX5_told 18 = .ok (.tableswitch 80 0 3 #[30, 45, 60, 70], 30) := by decide +kernel
theorem dX5_told_48 : decode cX5_told 48 = .ok (.aload_n 0, 1) := by decide +kernel
theorem dX5_told_49 : decode cX5_told 49 = .ok (.getfield 10, 3) := by decide +kernel
theorem dX5_told_52 : decode cX5_told 52 = .ok (.getfield 68, 3) := by decide +kernel
theorem dX5_told_55 : decode cX5_told 55 = .ok (.iload_n 1, 1) := by decide +kernel
theorem dX5_told_56 : decode cX5_told 56 = .ok (.aaload, 1) := by decide +kernel
theorem dX5_told_57 : decode cX5_told 57 = .ok (.getfield 120, 3) := by decide +kernel
theorem dX5_told_60 : decode cX5_told 60 = .ok (.iload_n 2, 1) := by decide +kernel
theorem dX5_told_61 : decode cX5_told 61 = .ok (.iaload, 1) := by decide +kernel
theorem dX5_told_62 : decode cX5_told 62 = .ok (.ireturn, 1) := by decide +kernel
theorem dX5_told_63 : decode cX5_told 63 = .ok (.aload_n 0, 1) := by decide +kernel
theorem dX5_told_64 : decode cX5_told 64 = .ok (.getfield 10, 3) := by decide +kernel
theorem dX5_told_67 : decode cX5_told 67 = .ok (.getfield 68, 3) := by decide +kernel
theorem dX5_told_70 : decode cX5_told 70 = .ok (.iload_n 1, 1) := by decide +kernel
theorem dX5_told_71 : decode cX5_told 71 = .ok (.aaload, 1) := by decide +kernel
theorem dX5_told_72 : decode cX5_told 72 = .ok (.getfield 123, 3) := by decide +kernel
theorem dX5_told_75 : decode cX5_told 75 = .ok (.iload_n 2, 1) := by decide +kernel
theorem dX5_told_76 : decode cX5_told 76 = .ok (.iaload, 1) := by decide +kernel
theorem dX5_told_77 : decode cX5_told 77 = .ok (.ireturn, 1) := by decide +kernel
theorem dX5_told_78 : decode cX5_told 78 = .ok (.aload_n 0, 1) := by decide +kernel
theorem dX5_told_79 : decode cX5_told 79 = .ok (.getfield 10, 3) := by decide +kernel
theorem dX5_told_82 : decode cX5_told 82 = .ok (.iload_n 1, 1) := by decide +kernel
theorem dX5_told_83 : decode cX5_told 83 = .ok (.iload_n 2, 1) := by decide +kernel
theorem dX5_told_84 : decode cX5_told 84 = .ok (.invokevirtual 126, 3) := by decide +kernel
theorem dX5_told_87 : decode cX5_told 87 = .ok (.ireturn, 1) := by decide +kernel
theorem dX5_told_88 : decode cX5_told 88 = .ok (.aload_n 0, 1) := by decide +kernel
theorem dX5_told_89 : decode cX5_told 89 = .ok (.getfield 10, 3) := by decide +kernel
theorem dX5_told_92 : decode cX5_told 92 = .ok (.iload_n 1, 1) := by decide +kernel
theorem dX5_told_93 : decode cX5_told 93 = .ok (.iload_n 2, 1) := by decide +kernel
theorem dX5_told_94 : decode cX5_told 94 = .ok (.invokevirtual 129, 3) := by decide +kernel
theorem dX5_told_97 : decode cX5_told 97 = .ok (.ireturn, 1) := by decide +kernel
theorem dX5_told_98 : decode cX5_told 98 = .ok (.iload_n 3, 1) := by decide +kernel
theorem dX5_told_99 : decode cX5_told 99 = .ok (.bipush 10, 2) := by decide +kernel
theorem dX5_told_101 : decode cX5_told 101 = .ok (.if_icmp .lt 29, 3) := by decide +kernel
theorem dX5_told_104 : decode cX5_told 104 = .ok (.iload_n 3, 1) := by decide +kernel
theorem dX5_told_105 : decode cX5_told 105 = .ok (.bipush 10, 2) := by decide +kernel
theorem dX5_told_107 : decode cX5_told 107 = .ok (.isub, 1) := by decide +kernel
theorem dX5_told_108 : decode cX5_told 108 = .ok (.invokestatic 43, 3) := by decide +kernel
theorem dX5_told_111 : decode cX5_told 111 = .ok (.ifCond .eq 19, 3) := by decide +kernel
theorem dX5_told_114 : decode cX5_told 114 = .ok (.aload_n 0, 1) := by decide +kernel
theorem dX5_told_115 : decode cX5_told 115 = .ok (.getfield 10, 3) := by decide +kernel
theorem dX5_told_118 : decode cX5_told 118 = .ok (.iload_n 1, 1) := by decide +kernel
theorem dX5_told_119 : decode cX5_told 119 = .ok (.iload_n 2, 1) := by decide +kernel
theorem dX5_told_120 : decode cX5_told 120 = .ok (.iload_n 3, 1) := by decide +kernel
theorem dX5_told_121 : decode cX5_told 121 = .ok (.bipush 10, 2) := by decide +kernel
theorem dX5_told_123 : decode cX5_told 123 = .ok (.isub, 1) := by decide +kernel
theorem dX5_told_124 : decode cX5_told 124 = .ok (.invokevirtual 132, 3) := by decide +kernel
theorem dX5_told_127 : decode cX5_told 127 = .ok (.goto 5, 3) := by decide +kernel
theorem dX5_told_130 : decode cX5_told 130 = .ok (.bipush (-2), 2) := by decide +kernel
theorem dX5_told_132 : decode cX5_told 132 = .ok (.ireturn, 1) := by decide +kernel
theorem dX5_dot_0 : decode cX5_dot 0 = .ok (.iload_n 3, 1) := by decide +kernel
theorem dX5_dot_1 : decode cX5_dot 1 = .ok (.ifCond .lt 8, 3) := by decide +kernel
theorem dX5_dot_4 : decode cX5_dot 4 = .ok (.iload_n 3, 1) := by decide +kernel
theorem dX5_dot_5 : decode cX5_dot 5 = .ok (.iconst 2, 1) := by decide +kernel
theorem dX5_dot_6 : decode cX5_dot 6 = .ok (.if_icmp .le 6, 3) := by decide +kernel
theorem dX5_dot_9 : decode cX5_dot 9 = .ok (.bipush (-2), 2) := by decide +kernel
theorem dX5_dot_11 : decode cX5_dot 11 = .ok (.ireturn, 1) := by decide +kernel
theorem dX5_dot_12 : decode cX5_dot 12 = .ok (.aload_n 0, 1) := by decide +kernel
theorem dX5_dot_13 : decode cX5_dot 13 = .ok (.getfield 10, 3) := by decide +kernel
theorem dX5_dot_16 : decode cX5_dot 16 = .ok (.getfield 51, 3) := by decide +kernel
theorem dX5_dot_19 : decode cX5_dot 19 = .ok (.astore 4, 2) := by decide +kernel
theorem dX5_dot_21 : decode cX5_dot 21 = .ok (.iload_n 1, 1) := by decide +kernel
theorem dX5_dot_22 : decode cX5_dot 22 = .ok (.invokestatic 43, 3) := by decide +kernel
theorem dX5_dot_25 : decode cX5_dot 25 = .ok (.ifCond .eq 18, 3) := by decide +kernel
theorem dX5_dot_28 : decode cX5_dot 28 = .ok (.iload_n 2, 1) := by decide +kernel
theorem dX5_dot_29 : decode cX5_dot 29 = .ok (.ifCond .lt 14, 3) := by decide +kernel
theorem dX5_dot_32 : decode cX5_dot 32 = .ok (.iload_n 2, 1) := by decide +kernel
theorem dX5_dot_33 : decode cX5_dot 33 = .ok (.aload 4, 2) := by decide +kernel
theorem dX5_dot_35 : decode cX5_dot 35 = .ok (.getfield 55, 3) := by decide +kernel
theorem dX5_dot_38 : decode cX5_dot 38 = .ok (.iload_n 1, 1) := by decide +kernel
theorem dX5_dot_39 : decode cX5_dot 39 = .ok (.iaload, 1) := by decide +kernel
theorem dX5_dot_40 : decode cX5_dot 40 = .ok (.if_icmp .lt 6, 3) := by decide +kernel
theorem dX5_dot_43 : decode cX5_dot 43 = .ok (.bipush (-12), 2) := by decide +kernel
theorem dX5_dot_45 : decode cX5_dot 45 = .ok (.ireturn, 1) := by decide +kernel
theorem dX5_dot_46 : decode cX5_dot 46 = .ok (.iload_n 1, 1) := by decide +kernel
theorem dX5_dot_47 : decode cX5_dot 47 = .ok (.iload_n 2, 1) := by decide +kernel
theorem dX5_dot_48 : decode cX5_dot 48 = .ok (.invokestatic 136, 3) := by decide +kernel
theorem dX5_dot_51 : decode cX5_dot 51 = .ok (.istore 5, 2) := by decide +kernel
theorem dX5_dot_53 : decode cX5_dot 53 = .ok (.iload_n 3, 1) := by decide +kernel
theorem dX5_dot_54 : decode cX5_dot 54 = .ok (.ifCond .ne 12, 3) := by decide +kernel
theorem dX5_dot_57 : decode cX5_dot 57 = .ok (.aload 4, 2) := by decide +kernel
theorem dX5_dot_59 : decode cX5_dot 59 = .ok (.getfield 139, 3) := by decide +kernel
theorem dX5_dot_62 : decode cX5_dot 62 = .ok (.iload 5, 2) := by decide +kernel
theorem dX5_dot_64 : decode cX5_dot 64 = .ok (.iaload, 1) := by decide +kernel
theorem dX5_dot_65 : decode cX5_dot 65 = .ok (.ireturn, 1) := by decide +kernel
theorem dX5_dot_66 : decode cX5_dot 66 = .ok (.iload_n 3, 1) := by decide +kernel
theorem dX5_dot_67 : decode cX5_dot 67 = .ok (.iconst 1, 1) := by decide +kernel
theorem dX5_dot_68 : decode cX5_dot 68 = .ok (.if_icmp .ne 12, 3) := by decide +kernel
theorem dX5_dot_71 : decode cX5_dot 71 = .ok (.aload 4, 2) := by decide +kernel
theorem dX5_dot_73 : decode cX5_dot 73 = .ok (.getfield 142, 3) := by decide +kernel
theorem dX5_dot_76 : decode cX5_dot 76 = .ok (.iload 5, 2) := by decide +kernel
theorem dX5_dot_78 : decode cX5_dot 78 = .ok (.iaload, 1) := by decide +kernel
theorem dX5_dot_79 : decode cX5_dot 79 = .ok (.ireturn, 1) := by decide +kernel
theorem dX5_dot_80 : decode cX5_dot 80 = .ok (.bipush 10, 2) := by decide +kernel
theorem dX5_dot_82 : decode cX5_dot 82 = .ok (.aload 4, 2) := by decide +kernel
theorem dX5_dot_84 : decode cX5_dot 84 = .ok (.getfield 145, 3) := by decide +kernel
theorem dX5_dot_87 : decode cX5_dot 87 = .ok (.iload 5, 2) := by decide +kernel
theorem dX5_dot_89 : decode cX5_dot 89 = .ok (.iaload, 1) := by decide +kernel
theorem dX5_dot_90 : decode cX5_dot 90 = .ok (.iconst 4, 1) := by decide +kernel
theorem dX5_dot_91 : decode cX5_dot 91 = .ok (.idiv, 1) := by decide +kernel
theorem dX5_dot_92 : decode cX5_dot 92 = .ok (.imul, 1) := by decide +kernel
theorem dX5_dot_93 : decode cX5_dot 93 = .ok (.aload 4, 2) := by decide +kernel
theorem dX5_dot_95 : decode cX5_dot 95 = .ok (.getfield 145, 3) := by decide +kernel
theorem dX5_dot_98 : decode cX5_dot 98 = .ok (.iload 5, 2) := by decide +kernel
theorem dX5_dot_100 : decode cX5_dot 100 = .ok (.iaload, 1) := by decide +kernel
theorem dX5_dot_101 : decode cX5_dot 101 = .ok (.iconst 4, 1) := by decide +kernel
theorem dX5_dot_102 : decode cX5_dot 102 = .ok (.irem, 1) := by decide +kernel
theorem dX5_dot_103 : decode cX5_dot 103 = .ok (.iadd, 1) := by decide +kernel
theorem dX5_dot_104 : decode cX5_dot 104 = .ok (.ireturn, 1) := by decide +kernel
theorem dX5_has_0 : decode cX5_has 0 = .ok (.iload_n 1, 1) := by decide +kernel
theorem dX5_has_1 : decode cX5_has 1 = .ok (.invokestatic 43, 3) := by decide +kernel
theorem dX5_has_4 : decode cX5_has 4 = .ok (.ifCond .eq 11, 3) := by decide +kernel
theorem dX5_has_7 : decode cX5_has 7 = .ok (.iload_n 2, 1) := by decide +kernel
theorem dX5_has_8 : decode cX5_has 8 = .ok (.iload_n 3, 1) := by decide +kernel
theorem dX5_has_9 : decode cX5_has 9 = .ok (.invokestatic 47, 3) := by decide +kernel
theorem dX5_has_12 : decode cX5_has 12 = .ok (.ifCond .ne 6, 3) := by decide +kernel
theorem dX5_has_15 : decode cX5_has 15 = .ok (.bipush (-2), 2) := by decide +kernel
theorem dX5_has_17 : decode cX5_has 17 = .ok (.ireturn, 1) := by decide +kernel
theorem dX5_has_18 : decode cX5_has 18 = .ok (.aload_n 0, 1) := by decide +kernel
theorem dX5_has_19 : decode cX5_has 19 = .ok (.getfield 28, 3) := by decide +kernel
theorem dX5_has_22 : decode cX5_has 22 = .ok (.invokevirtual 65, 3) := by decide +kernel
theorem dX5_has_25 : decode cX5_has 25 = .ok (.aload_n 0, 1) := by decide +kernel
theorem dX5_has_26 : decode cX5_has 26 = .ok (.getfield 10, 3) := by decide +kernel
theorem dX5_has_29 : decode cX5_has 29 = .ok (.getfield 51, 3) := by decide +kernel
theorem dX5_has_32 : decode cX5_has 32 = .ok (.aload_n 0, 1) := by decide +kernel
theorem dX5_has_33 : decode cX5_has 33 = .ok (.getfield 10, 3) := by decide +kernel
theorem dX5_has_36 : decode cX5_has 36 = .ok (.getfield 68, 3) := by decide +kernel
theorem dX5_has_39 : decode cX5_has 39 = .ok (.iload_n 1, 1) := by decide +kernel
theorem dX5_has_40 : decode cX5_has 40 = .ok (.aaload, 1) := by decide +kernel
theorem dX5_has_41 : decode cX5_has 41 = .ok (.iload_n 2, 1) := by decide +kernel
theorem dX5_has_42 : decode cX5_has 42 = .ok (.iload_n 3, 1) := by decide +kernel
theorem dX5_has_43 : decode cX5_has 43 = .ok (.invokestatic 61, 3) := by decide +kernel
theorem dX5_has_46 : decode cX5_has 46 = .ok (.iload 4, 2) := by decide +kernel
theorem dX5_has_48 : decode cX5_has 48 = .ok (.aload_n 0, 1) := by decide +kernel
theorem dX5_has_49 : decode cX5_has 49 = .ok (.getfield 28, 3) := by decide +kernel
theorem dX5_has_52 : decode cX5_has 52 = .ok (.invokevirtual 90, 3) := by decide +kernel
theorem dX5_has_55 : decode cX5_has 55 = .ok (.aload_n 0, 1) := by decide +kernel
theorem dX5_has_56 : decode cX5_has 56 = .ok (.getfield 28, 3) := by decide +kernel
theorem dX5_has_59 : decode cX5_has 59 = .ok (.invokevirtual 94, 3) := by decide +kernel
theorem dX5_has_62 : decode cX5_has 62 = .ok (.ireturn, 1) := by decide +kernel
theorem dX5_send_0 : decode cX5_send 0 = .ok (.iload_n 1, 1) := by decide +kernel
theorem dX5_send_1 : decode cX5_send 1 = .ok (.invokestatic 43, 3) := by decide +kernel
theorem dX5_send_4 : decode cX5_send 4 = .ok (.ifCond .eq 24, 3) := by decide +kernel
theorem dX5_send_7 : decode cX5_send 7 = .ok (.iload_n 2, 1) := by decide +kernel
theorem dX5_send_8 : decode cX5_send 8 = .ok (.invokestatic 43, 3) := by decide +kernel
theorem dX5_send_11 : decode cX5_send 11 = .ok (.ifCond .eq 17, 3) := by decide +kernel
theorem dX5_send_14 : decode cX5_send 14 = .ok (.iload_n 1, 1) := by decide +kernel
theorem dX5_send_15 : decode cX5_send 15 = .ok (.iload_n 2, 1) := by decide +kernel
theorem dX5_send_16 : decode cX5_send 16 = .ok (.if_icmp .eq 12, 3) := by decide +kernel
theorem dX5_send_19 : decode cX5_send 19 = .ok (.iload_n 3, 1) := by decide +kernel
theorem dX5_send_20 : decode cX5_send 20 = .ok (.ifCond .lt 8, 3) := by decide +kernel
theorem dX5_send_23 : decode cX5_send 23 = .ok (.iload_n 3, 1) := by decide +kernel
theorem dX5_send_24 : decode cX5_send 24 = .ok (.iconst 1, 1) := by decide +kernel
theorem dX5_send_25 : decode cX5_send 25 = .ok (.if_icmp .le 6, 3) := by decide +kernel
theorem dX5_send_28 : decode cX5_send 28 = .ok (.bipush (-2), 2) := by decide +kernel
theorem dX5_send_30 : decode cX5_send 30 = .ok (.ireturn, 1) := by decide +kernel
theorem dX5_send_31 : decode cX5_send 31 = .ok (.aload_n 0, 1) := by decide +kernel
theorem dX5_send_32 : decode cX5_send 32 = .ok (.getfield 10, 3) := by decide +kernel
theorem dX5_send_35 : decode cX5_send 35 = .ok (.getfield 148, 3) := by decide +kernel
theorem dX5_send_38 : decode cX5_send 38 = .ok (.bipush 6, 2) := by decide +kernel
theorem dX5_send_40 : decode cX5_send 40 = .ok (.if_icmp .lt 6, 3) := by decide +kernel
theorem dX5_send_43 : decode cX5_send 43 = .ok (.bipush (-4), 2) := by decide +kernel
theorem dX5_send_45 : decode cX5_send 45 = .ok (.ireturn, 1) := by decide +kernel
theorem dX5_send_46 : decode cX5_send 46 = .ok (.aload_n 0, 1) := by decide +kernel
theorem dX5_send_47 : decode cX5_send 47 = .ok (.getfield 10, 3) := by decide +kernel
theorem dX5_send_50 : decode cX5_send 50 = .ok (.getfield 152, 3) := by decide +kernel
theorem dX5_send_53 : decode cX5_send 53 = .ok (.iload_n 1, 1) := by decide +kernel
theorem dX5_send_54 : decode cX5_send 54 = .ok (.iload_n 2, 1) := by decide +kernel
theorem dX5_send_55 : decode cX5_send 55 = .ok (.invokestatic 155, 3) := by decide +kernel
theorem dX5_send_58 : decode cX5_send 58 = .ok (.aaload, 1) := by decide +kernel
theorem dX5_send_59 : decode cX5_send 59 = .ok (.astore 4, 2) := by decide +kernel
theorem dX5_send_61 : decode cX5_send 61 = .ok (.aload_n 0, 1) := by decide +kernel
theorem dX5_send_62 : decode cX5_send 62 = .ok (.getfield 10, 3) := by decide +kernel
theorem dX5_send_65 : decode cX5_send 65 = .ok (.iload_n 1, 1) := by decide +kernel
theorem dX5_send_66 : decode cX5_send 66 = .ok (.iload_n 2, 1) := by decide +kernel
theorem dX5_send_67 : decode cX5_send 67 = .ok (.iload_n 3, 1) := by decide +kernel
theorem dX5_send_68 : decode cX5_send 68 = .ok (.ifCond .ne 15, 3) := by decide +kernel
theorem dX5_send_71 : decode cX5_send 71 = .ok (.aload_n 0, 1) := by decide +kernel
theorem dX5_send_72 : decode cX5_send 72 = .ok (.getfield 10, 3) := by decide +kernel
theorem dX5_send_75 : decode cX5_send 75 = .ok (.getfield 68, 3) := by decide +kernel
theorem dX5_send_78 : decode cX5_send 78 = .ok (.iload_n 1, 1) := by decide +kernel
theorem dX5_send_79 : decode cX5_send 79 = .ok (.aaload, 1) := by decide +kernel
theorem dX5_send_80 : decode cX5_send 80 = .ok (.goto 5, 3) := by decide +kernel
theorem dX5_send_83 : decode cX5_send 83 = .ok (.aload 4, 2) := by decide +kernel
theorem dX5_send_85 : decode cX5_send 85 = .ok (.invokevirtual 158, 3) := by decide +kernel
theorem dX5_send_88 : decode cX5_send 88 = .ok (.iload_n 3, 1) := by decide +kernel
theorem dX5_send_89 : decode cX5_send 89 = .ok (.iconst 1, 1) := by decide +kernel
theorem dX5_send_90 : decode cX5_send 90 = .ok (.if_icmp .ne 8, 3) := by decide +kernel
theorem dX5_send_93 : decode cX5_send 93 = .ok (.aload 4, 2) := by decide +kernel
theorem dX5_send_95 : decode cX5_send 95 = .ok (.invokevirtual 65, 3) := by decide +kernel
theorem dX5_send_98 : decode cX5_send 98 = .ok (.aload_n 0, 1) := by decide +kernel
theorem dX5_send_99 : decode cX5_send 99 = .ok (.getfield 10, 3) := by decide +kernel
theorem dX5_send_102 : decode cX5_send 102 = .ok (.getfield 148, 3) := by decide +kernel
theorem dX5_send_105 : decode cX5_send 105 = .ok (.iconst 1, 1) := by decide +kernel
theorem dX5_send_106 : decode cX5_send 106 = .ok (.isub, 1) := by decide +kernel
theorem dX5_send_107 : decode cX5_send 107 = .ok (.ireturn, 1) := by decide +kernel
theorem dX5_come_0 : decode cX5_come 0 = .ok (.aload_n 0, 1) := by decide +kernel
theorem dX5_come_1 : decode cX5_come 1 = .ok (.iload_n 1, 1) := by decide +kernel
theorem dX5_come_2 : decode cX5_come 2 = .ok (.invokevirtual 162, 3) := by decide +kernel
theorem dX5_come_5 : decode cX5_come 5 = .ok (.ifCond .ne 6, 3) := by decide +kernel
theorem dX5_come_8 : decode cX5_come 8 = .ok (.bipush (-2), 2) := by decide +kernel
theorem dX5_come_10 : decode cX5_come 10 = .ok (.ireturn, 1) := by decide +kernel
theorem dX5_come_11 : decode cX5_come 11 = .ok (.aload_n 0, 1) := by decide +kernel
theorem dX5_come_12 : decode cX5_come 12 = .ok (.getfield 10, 3) := by decide +kernel
theorem dX5_come_15 : decode cX5_come 15 = .ok (.getfield 165, 3) := by decide +kernel
theorem dX5_come_18 : decode cX5_come 18 = .ok (.iload_n 1, 1) := by decide +kernel
theorem dX5_come_19 : decode cX5_come 19 = .ok (.aaload, 1) := by decide +kernel
theorem dX5_come_20 : decode cX5_come 20 = .ok (.astore_n 2, 1) := by decide +kernel
theorem dX5_come_21 : decode cX5_come 21 = .ok (.aload_n 0, 1) := by decide +kernel
theorem dX5_come_22 : decode cX5_come 22 = .ok (.getfield 10, 3) := by decide +kernel
theorem dX5_come_25 : decode cX5_come 25 = .ok (.getfield 68, 3) := by decide +kernel
theorem dX5_come_28 : decode cX5_come 28 = .ok (.aload_n 2, 1) := by decide +kernel
theorem dX5_come_29 : decode cX5_come 29 = .ok (.getfield 169, 3) := by decide +kernel
theorem dX5_come_32 : decode cX5_come 32 = .ok (.aaload, 1) := by decide +kernel
theorem dX5_come_33 : decode cX5_come 33 = .ok (.astore_n 3, 1) := by decide +kernel
theorem dX5_come_34 : decode cX5_come 34 = .ok (.aload_n 3, 1) := by decide +kernel
theorem dX5_come_35 : decode cX5_come 35 = .ok (.invokevirtual 94, 3) := by decide +kernel
theorem dX5_come_38 : decode cX5_come 38 = .ok (.istore 4, 2) := by decide +kernel
theorem dX5_come_40 : decode cX5_come 40 = .ok (.aload_n 3, 1) := by decide +kernel
theorem dX5_come_41 : decode cX5_come 41 = .ok (.aload_n 2, 1) := by decide +kernel
theorem dX5_come_42 : decode cX5_come 42 = .ok (.getfield 174, 3) := by decide +kernel
theorem dX5_come_45 : decode cX5_come 45 = .ok (.invokevirtual 177, 3) := by decide +kernel
theorem dX5_come_48 : decode cX5_come 48 = .ok (.aload_n 0, 1) := by decide +kernel
theorem dX5_come_49 : decode cX5_come 49 = .ok (.getfield 10, 3) := by decide +kernel
theorem dX5_come_52 : decode cX5_come 52 = .ok (.aload_n 2, 1) := by decide +kernel
theorem dX5_come_53 : decode cX5_come 53 = .ok (.invokevirtual 181, 3) := by decide +kernel
theorem dX5_come_56 : decode cX5_come 56 = .ok (.aload_n 0, 1) := by decide +kernel
theorem dX5_come_57 : decode cX5_come 57 = .ok (.getfield 10, 3) := by decide +kernel
theorem dX5_come_60 : decode cX5_come 60 = .ok (.iload_n 1, 1) := by decide +kernel
theorem dX5_come_61 : decode cX5_come 61 = .ok (.invokevirtual 185, 3) := by decide +kernel
theorem dX5_come_64 : decode cX5_come 64 = .ok (.aload_n 3, 1) := by decide +kernel
theorem dX5_come_65 : decode cX5_come 65 = .ok (.invokevirtual 94, 3) := by decide +kernel
theorem dX5_come_68 : decode cX5_come 68 = .ok (.iload 4, 2) := by decide +kernel
theorem dX5_come_70 : decode cX5_come 70 = .ok (.isub, 1) := by decide +kernel
theorem dX5_come_71 : decode cX5_come 71 = .ok (.ireturn, 1) := by decide +kernel
theorem dX5_lose_0 : decode cX5_lose 0 = .ok (.aload_n 0, 1) := by decide +kernel
theorem dX5_lose_1 : decode cX5_lose 1 = .ok (.iload_n 1, 1) := by decide +kernel
theorem dX5_lose_2 : decode cX5_lose 2 = .ok (.invokevirtual 162, 3) := by decide +kernel
theorem dX5_lose_5 : decode cX5_lose 5 = .ok (.ifCond .ne 6, 3) := by decide +kernel
theorem dX5_lose_8 : decode cX5_lose 8 = .ok (.bipush (-2), 2) := by decide +kernel
theorem dX5_lose_10 : decode cX5_lose 10 = .ok (.ireturn, 1) := by decide +kernel
theorem dX5_lose_11 : decode cX5_lose 11 = .ok (.aload_n 0, 1) := by decide +kernel
theorem dX5_lose_12 : decode cX5_lose 12 = .ok (.getfield 10, 3) := by decide +kernel
theorem dX5_lose_15 : decode cX5_lose 15 = .ok (.iload_n 1, 1) := by decide +kernel
theorem dX5_lose_16 : decode cX5_lose 16 = .ok (.invokevirtual 185, 3) := by decide +kernel
theorem dX5_lose_19 : decode cX5_lose 19 = .ok (.iconst 1, 1) := by decide +kernel
theorem dX5_lose_20 : decode cX5_lose 20 = .ok (.ireturn, 1) := by decide +kernel
theorem dX5_twice_0 : decode cX5_twice 0 = .ok (.aload_n 0, 1) := by decide +kernel
theorem dX5_twice_1 : decode cX5_twice 1 = .ok (.iload_n 1, 1) := by decide +kernel
theorem dX5_twice_2 : decode cX5_twice 2 = .ok (.invokevirtual 162, 3) := by decide +kernel
theorem dX5_twice_5 : decode cX5_twice 5 = .ok (.ifCond .ne 6, 3) := by decide +kernel
theorem dX5_twice_8 : decode cX5_twice 8 = .ok (.bipush (-2), 2) := by decide +kernel
theorem dX5_twice_10 : decode cX5_twice 10 = .ok (.ireturn, 1) := by decide +kernel
theorem dX5_twice_11 : decode cX5_twice 11 = .ok (.aload_n 0, 1) := by decide +kernel
theorem dX5_twice_12 : decode cX5_twice 12 = .ok (.getfield 10, 3) := by decide +kernel
theorem dX5_twice_15 : decode cX5_twice 15 = .ok (.getfield 148, 3) := by decide +kernel
theorem dX5_twice_18 : decode cX5_twice 18 = .ok (.bipush 6, 2) := by decide +kernel
theorem dX5_twice_20 : decode cX5_twice 20 = .ok (.if_icmp .lt 6, 3) := by decide +kernel
theorem dX5_twice_23 : decode cX5_twice 23 = .ok (.bipush (-4), 2) := by decide +kernel
theorem dX5_twice_25 : decode cX5_twice 25 = .ok (.ireturn, 1) := by decide +kernel
theorem dX5_twice_26 : decode cX5_twice 26 = .ok (.aload_n 0, 1) := by decide +kernel
theorem dX5_twice_27 : decode cX5_twice 27 = .ok (.getfield 10, 3) := by decide +kernel
theorem dX5_twice_30 : decode cX5_twice 30 = .ok (.getfield 165, 3) := by decide +kernel
theorem dX5_twice_33 : decode cX5_twice 33 = .ok (.aload_n 0, 1) := by decide +kernel
theorem dX5_twice_34 : decode cX5_twice 34 = .ok (.getfield 10, 3) := by decide +kernel
theorem dX5_twice_37 : decode cX5_twice 37 = .ok (.getfield 148, 3) := by decide +kernel
theorem dX5_twice_40 : decode cX5_twice 40 = .ok (.aaload, 1) := by decide +kernel
theorem dX5_twice_41 : decode cX5_twice 41 = .ok (.aload_n 0, 1) := by decide +kernel
theorem dX5_twice_42 : decode cX5_twice 42 = .ok (.getfield 10, 3) := by decide +kernel
theorem dX5_twice_45 : decode cX5_twice 45 = .ok (.getfield 165, 3) := by decide +kernel
theorem dX5_twice_48 : decode cX5_twice 48 = .ok (.iload_n 1, 1) := by decide +kernel
theorem dX5_twice_49 : decode cX5_twice 49 = .ok (.aaload, 1) := by decide +kernel
theorem dX5_twice_50 : decode cX5_twice 50 = .ok (.invokevirtual 189, 3) := by decide +kernel
theorem dX5_twice_53 : decode cX5_twice 53 = .ok (.aload_n 0, 1) := by decide +kernel
theorem dX5_twice_54 : decode cX5_twice 54 = .ok (.getfield 10, 3) := by decide +kernel
theorem dX5_twice_57 : decode cX5_twice 57 = .ok (.dup, 1) := by decide +kernel
theorem dX5_twice_58 : decode cX5_twice 58 = .ok (.getfield 148, 3) := by decide +kernel
theorem dX5_twice_61 : decode cX5_twice 61 = .ok (.iconst 1, 1) := by decide +kernel
theorem dX5_twice_62 : decode cX5_twice 62 = .ok (.iadd, 1) := by decide +kernel
theorem dX5_twice_63 : decode cX5_twice 63 = .ok (.putfield 148, 3) := by decide +kernel
theorem dX5_twice_66 : decode cX5_twice 66 = .ok (.aload_n 0, 1) := by decide +kernel
theorem dX5_twice_67 : decode cX5_twice 67 = .ok (.getfield 10, 3) := by decide +kernel
theorem dX5_twice_70 : decode cX5_twice 70 = .ok (.getfield 148, 3) := by decide +kernel
theorem dX5_twice_73 : decode cX5_twice 73 = .ok (.iconst 1, 1) := by decide +kernel
theorem dX5_twice_74 : decode cX5_twice 74 = .ok (.isub, 1) := by decide +kernel
theorem dX5_twice_75 : decode cX5_twice 75 = .ok (.ireturn, 1) := by decide +kernel
theorem dX5_letter_0 : decode cX5_letter 0 = .ok (.aload_n 0, 1) := by decide +kernel
theorem dX5_letter_1 : decode cX5_letter 1 = .ok (.iload_n 1, 1) := by decide +kernel
theorem dX5_letter_2 : decode cX5_letter 2 = .ok (.invokevirtual 162, 3) := by decide +kernel
theorem dX5_letter_5 : decode cX5_letter 5 = .ok (.ifCond .ne 6, 3) := by decide +kernel
theorem dX5_letter_8 : decode cX5_letter 8 = .ok (.bipush (-2), 2) := by decide +kernel
theorem dX5_letter_10 : decode cX5_letter 10 = .ok (.ireturn, 1) := by decide +kernel
theorem dX5_letter_11 : decode cX5_letter 11 = .ok (.aload_n 0, 1) := by decide +kernel
theorem dX5_letter_12 : decode cX5_letter 12 = .ok (.getfield 10, 3) := by decide +kernel
theorem dX5_letter_15 : decode cX5_letter 15 = .ok (.getfield 165, 3) := by decide +kernel
theorem dX5_letter_18 : decode cX5_letter 18 = .ok (.iload_n 1, 1) := by decide +kernel
theorem dX5_letter_19 : decode cX5_letter 19 = .ok (.aaload, 1) := by decide +kernel
theorem dX5_letter_20 : decode cX5_letter 20 = .ok (.astore_n 3, 1) := by decide +kernel
theorem dX5_letter_21 : decode cX5_letter 21 = .ok (.iload_n 2, 1) := by decide +kernel
theorem dX5_letter_22 : decode cX5_letter 22 = .ok (.tableswitch 56 0 3 #[30, 35, 40, 48], 30) := by decide +kernel
theorem dX5_letter_52 : decode cX5_letter 52 = .ok (.aload_n 3, 1) := by decide +kernel
theorem dX5_letter_53 : decode cX5_letter 53 = .ok (.getfield 192, 3) := by decide +kernel
theorem dX5_letter_56 : decode cX5_letter 56 = .ok (.ireturn, 1) := by decide +kernel
theorem dX5_letter_57 : decode cX5_letter 57 = .ok (.aload_n 3, 1) := by decide +kernel
theorem dX5_letter_58 : decode cX5_letter 58 = .ok (.getfield 169, 3) := by decide +kernel
theorem dX5_letter_61 : decode cX5_letter 61 = .ok (.ireturn, 1) := by decide +kernel
theorem dX5_letter_62 : decode cX5_letter 62 = .ok (.aload_n 3, 1) := by decide +kernel
theorem dX5_letter_63 : decode cX5_letter 63 = .ok (.getfield 174, 3) := by decide +kernel
theorem dX5_letter_66 : decode cX5_letter 66 = .ok (.invokevirtual 94, 3) := by decide +kernel
theorem dX5_letter_69 : decode cX5_letter 69 = .ok (.ireturn, 1) := by decide +kernel
theorem dX5_letter_70 : decode cX5_letter 70 = .ok (.aload_n 3, 1) := by decide +kernel
theorem dX5_letter_71 : decode cX5_letter 71 = .ok (.getfield 174, 3) := by decide +kernel
theorem dX5_letter_74 : decode cX5_letter 74 = .ok (.invokevirtual 195, 3) := by decide +kernel
theorem dX5_letter_77 : decode cX5_letter 77 = .ok (.ireturn, 1) := by decide +kernel
theorem dX5_letter_78 : decode cX5_letter 78 = .ok (.bipush (-2), 2) := by decide +kernel
theorem dX5_letter_80 : decode cX5_letter 80 = .ok (.ireturn, 1) := by decide +kernel
theorem dX5_met_0 : decode cX5_met 0 = .ok (.iload_n 1, 1) := by decide +kernel
theorem dX5_met_1 : decode cX5_met 1 = .ok (.iload_n 2, 1) := by decide +kernel
theorem dX5_met_2 : decode cX5_met 2 = .ok (.invokestatic 47, 3) := by decide +kernel
theorem dX5_met_5 : decode cX5_met 5 = .ok (.ifCond .ne 7, 3) := by decide +kernel
theorem dX5_met_8 : decode cX5_met 8 = .ok (.ldc2_w 114, 3) := by decide +kernel
theorem dX5_met_11 : decode cX5_met 11 = .ok (.lreturn, 1) := by decide +kernel
theorem dX5_met_12 : decode cX5_met 12 = .ok (.aload_n 0, 1) := by decide +kernel
theorem dX5_met_13 : decode cX5_met 13 = .ok (.aload_n 0, 1) := by decide +kernel
theorem dX5_met_14 : decode cX5_met 14 = .ok (.getfield 10, 3) := by decide +kernel
theorem dX5_met_17 : decode cX5_met 17 = .ok (.getfield 68, 3) := by decide +kernel
theorem dX5_met_20 : decode cX5_met 20 = .ok (.invokevirtual 198, 3) := by decide +kernel
theorem dX5_met_23 : decode cX5_met 23 = .ok (.aload_n 0, 1) := by decide +kernel
theorem dX5_met_24 : decode cX5_met 24 = .ok (.getfield 10, 3) := by decide +kernel
theorem dX5_met_27 : decode cX5_met 27 = .ok (.aload_n 0, 1) := by decide +kernel
theorem dX5_met_28 : decode cX5_met 28 = .ok (.getfield 32, 3) := by decide +kernel
theorem dX5_met_31 : decode cX5_met 31 = .ok (.iload_n 1, 1) := by decide +kernel
theorem dX5_met_32 : decode cX5_met 32 = .ok (.iload_n 2, 1) := by decide +kernel
theorem dX5_met_33 : decode cX5_met 33 = .ok (.invokestatic 61, 3) := by decide +kernel
theorem dX5_met_36 : decode cX5_met 36 = .ok (.invokevirtual 116, 3) := by decide +kernel
theorem dX5_met_39 : decode cX5_met 39 = .ok (.lreturn, 1) := by decide +kernel
theorem dX5_apart_0 : decode cX5_apart 0 = .ok (.iload_n 1, 1) := by decide +kernel
theorem dX5_apart_1 : decode cX5_apart 1 = .ok (.invokestatic 43, 3) := by decide +kernel
theorem dX5_apart_4 : decode cX5_apart 4 = .ok (.ifCond .eq 10, 3) := by decide +kernel
theorem dX5_apart_7 : decode cX5_apart 7 = .ok (.iload_n 2, 1) := by decide +kernel
theorem dX5_apart_8 : decode cX5_apart 8 = .ok (.invokestatic 43, 3) := by decide +kernel
theorem dX5_apart_11 : decode cX5_apart 11 = .ok (.ifCond .ne 6, 3) := by decide +kernel
theorem dX5_apart_14 : decode cX5_apart 14 = .ok (.bipush (-2), 2) := by decide +kernel
theorem dX5_apart_16 : decode cX5_apart 16 = .ok (.ireturn, 1) := by decide +kernel
theorem dX5_apart_17 : decode cX5_apart 17 = .ok (.aload_n 0, 1) := by decide +kernel
theorem dX5_apart_18 : decode cX5_apart 18 = .ok (.getfield 10, 3) := by decide +kernel
theorem dX5_apart_21 : decode cX5_apart 21 = .ok (.getfield 68, 3) := by decide +kernel
theorem dX5_apart_24 : decode cX5_apart 24 = .ok (.iload_n 1, 1) := by decide +kernel
theorem dX5_apart_25 : decode cX5_apart 25 = .ok (.aaload, 1) := by decide +kernel
theorem dX5_apart_26 : decode cX5_apart 26 = .ok (.astore 4, 2) := by decide +kernel
theorem dX5_apart_28 : decode cX5_apart 28 = .ok (.aload_n 0, 1) := by decide +kernel
theorem dX5_apart_29 : decode cX5_apart 29 = .ok (.getfield 10, 3) := by decide +kernel
theorem dX5_apart_32 : decode cX5_apart 32 = .ok (.getfield 68, 3) := by decide +kernel
theorem dX5_apart_35 : decode cX5_apart 35 = .ok (.iload_n 2, 1) := by decide +kernel
theorem dX5_apart_36 : decode cX5_apart 36 = .ok (.aaload, 1) := by decide +kernel
theorem dX5_apart_37 : decode cX5_apart 37 = .ok (.astore 5, 2) := by decide +kernel
theorem dX5_apart_39 : decode cX5_apart 39 = .ok (.iload_n 3, 1) := by decide +kernel
theorem dX5_apart_40 : decode cX5_apart 40 = .ok (.tableswitch 105 0 3 #[32, 49, 77, 91], 32) := by decide +kernel
theorem dX5_apart_72 : decode cX5_apart 72 = .ok (.aload_n 0, 1) := by decide +kernel
theorem dX5_apart_73 : decode cX5_apart 73 = .ok (.aload 4, 2) := by decide +kernel
theorem dX5_apart_75 : decode cX5_apart 75 = .ok (.aload 5, 2) := by decide +kernel
theorem dX5_apart_77 : decode cX5_apart 77 = .ok (.invokevirtual 202, 3) := by decide +kernel
theorem dX5_apart_80 : decode cX5_apart 80 = .ok (.ifCond .eq 7, 3) := by decide +kernel
theorem dX5_apart_83 : decode cX5_apart 83 = .ok (.iconst 1, 1) := by decide +kernel
theorem dX5_apart_84 : decode cX5_apart 84 = .ok (.goto 4, 3) := by decide +kernel
theorem dX5_apart_87 : decode cX5_apart 87 = .ok (.iconst 0, 1) := by decide +kernel
theorem dX5_apart_88 : decode cX5_apart 88 = .ok (.ireturn, 1) := by decide +kernel
theorem dX5_apart_89 : decode cX5_apart 89 = .ok (.aload_n 0, 1) := by decide +kernel
theorem dX5_apart_90 : decode cX5_apart 90 = .ok (.aload 4, 2) := by decide +kernel
theorem dX5_apart_92 : decode cX5_apart 92 = .ok (.aload 5, 2) := by decide +kernel
theorem dX5_apart_94 : decode cX5_apart 94 = .ok (.invokevirtual 202, 3) := by decide +kernel
theorem dX5_apart_97 : decode cX5_apart 97 = .ok (.ifCond .eq 18, 3) := by decide +kernel
theorem dX5_apart_100 : decode cX5_apart 100 = .ok (.aload_n 0, 1) := by decide +kernel
theorem dX5_apart_101 : decode cX5_apart 101 = .ok (.aload 5, 2) := by decide +kernel
theorem dX5_apart_103 : decode cX5_apart 103 = .ok (.aload 4, 2) := by decide +kernel
theorem dX5_apart_105 : decode cX5_apart 105 = .ok (.invokevirtual 202, 3) := by decide +kernel
theorem dX5_apart_108 : decode cX5_apart 108 = .ok (.ifCond .eq 7, 3) := by decide +kernel
theorem dX5_apart_111 : decode cX5_apart 111 = .ok (.iconst 1, 1) := by decide +kernel
theorem dX5_apart_112 : decode cX5_apart 112 = .ok (.goto 4, 3) := by decide +kernel
theorem dX5_apart_115 : decode cX5_apart 115 = .ok (.iconst 0, 1) := by decide +kernel
theorem dX5_apart_116 : decode cX5_apart 116 = .ok (.ireturn, 1) := by decide +kernel
theorem dX5_apart_117 : decode cX5_apart 117 = .ok (.aload 4, 2) := by decide +kernel
theorem dX5_apart_119 : decode cX5_apart 119 = .ok (.getfield 120, 3) := by decide +kernel
theorem dX5_apart_122 : decode cX5_apart 122 = .ok (.aload 5, 2) := by decide +kernel
theorem dX5_apart_124 : decode cX5_apart 124 = .ok (.getfield 120, 3) := by decide +kernel
theorem dX5_apart_127 : decode cX5_apart 127 = .ok (.invokestatic 206, 3) := by decide +kernel
theorem dX5_apart_130 : decode cX5_apart 130 = .ok (.ireturn, 1) := by decide +kernel
theorem dX5_apart_131 : decode cX5_apart 131 = .ok (.aload 4, 2) := by decide +kernel
theorem dX5_apart_133 : decode cX5_apart 133 = .ok (.getfield 123, 3) := by decide +kernel
theorem dX5_apart_136 : decode cX5_apart 136 = .ok (.aload 5, 2) := by decide +kernel
theorem dX5_apart_138 : decode cX5_apart 138 = .ok (.getfield 123, 3) := by decide +kernel
theorem dX5_apart_141 : decode cX5_apart 141 = .ok (.invokestatic 206, 3) := by decide +kernel
theorem dX5_apart_144 : decode cX5_apart 144 = .ok (.ireturn, 1) := by decide +kernel
theorem dX5_apart_145 : decode cX5_apart 145 = .ok (.bipush (-2), 2) := by decide +kernel
theorem dX5_apart_147 : decode cX5_apart 147 = .ok (.ireturn, 1) := by decide +kernel
theorem dX5_needs_0 : decode cX5_needs 0 = .ok (.iload_n 1, 1) := by decide +kernel
theorem dX5_needs_1 : decode cX5_needs 1 = .ok (.invokestatic 43, 3) := by decide +kernel
theorem dX5_needs_4 : decode cX5_needs 4 = .ok (.ifCond .eq 22, 3) := by decide +kernel
theorem dX5_needs_7 : decode cX5_needs 7 = .ok (.iload_n 2, 1) := by decide +kernel
theorem dX5_needs_8 : decode cX5_needs 8 = .ok (.iload_n 3, 1) := by decide +kernel
theorem dX5_needs_9 : decode cX5_needs 9 = .ok (.invokestatic 47, 3) := by decide +kernel
theorem dX5_needs_12 : decode cX5_needs 12 = .ok (.ifCond .eq 14, 3) := by decide +kernel
theorem dX5_needs_15 : decode cX5_needs 15 = .ok (.iload 6, 2) := by decide +kernel
theorem dX5_needs_17 : decode cX5_needs 17 = .ok (.ifCond .lt 9, 3) := by decide +kernel
theorem dX5_needs_20 : decode cX5_needs 20 = .ok (.iload 6, 2) := by decide +kernel
theorem dX5_needs_22 : decode cX5_needs 22 = .ok (.iconst 1, 1) := by decide +kernel
theorem dX5_needs_23 : decode cX5_needs 23 = .ok (.if_icmp .le 6, 3) := by decide +kernel
theorem dX5_needs_26 : decode cX5_needs 26 = .ok (.bipush (-2), 2) := by decide +kernel
theorem dX5_needs_28 : decode cX5_needs 28 = .ok (.ireturn, 1) := by decide +kernel
theorem dX5_needs_29 : decode cX5_needs 29 = .ok (.aload_n 0, 1) := by decide +kernel
theorem dX5_needs_30 : decode cX5_needs 30 = .ok (.iload_n 1, 1) := by decide +kernel
theorem dX5_needs_31 : decode cX5_needs 31 = .ok (.iload_n 2, 1) := by decide +kernel
theorem dX5_needs_32 : decode cX5_needs 32 = .ok (.iload_n 3, 1) := by decide +kernel
theorem dX5_needs_33 : decode cX5_needs 33 = .ok (.invokestatic 61, 3) := by decide +kernel
theorem dX5_needs_36 : decode cX5_needs 36 = .ok (.lload 4, 2) := by decide +kernel
theorem dX5_needs_38 : decode cX5_needs 38 = .ok (.invokevirtual 210, 3) := by decide +kernel
theorem dX5_needs_41 : decode cX5_needs 41 = .ok (.istore 7, 2) := by decide +kernel
theorem dX5_needs_43 : decode cX5_needs 43 = .ok (.iload 7, 2) := by decide +kernel
theorem dX5_needs_45 : decode cX5_needs 45 = .ok (.iconst (-1), 1) := by decide +kernel
theorem dX5_needs_46 : decode cX5_needs 46 = .ok (.if_icmp .ne 5, 3) := by decide +kernel
theorem dX5_needs_49 : decode cX5_needs 49 = .ok (.iconst (-1), 1) := by decide +kernel
theorem dX5_needs_50 : decode cX5_needs 50 = .ok (.ireturn, 1) := by decide +kernel
theorem dX5_needs_51 : decode cX5_needs 51 = .ok (.iload 6, 2) := by decide +kernel
theorem dX5_needs_53 : decode cX5_needs 53 = .ok (.ifCond .ne 11, 3) := by decide +kernel
theorem dX5_needs_56 : decode cX5_needs 56 = .ok (.iload 7, 2) := by decide +kernel
theorem dX5_needs_58 : decode cX5_needs 58 = .ok (.invokestatic 214, 3) := by decide +kernel
theorem dX5_needs_61 : decode cX5_needs 61 = .ok (.goto 5, 3) := by decide +kernel
theorem dX5_needs_64 : decode cX5_needs 64 = .ok (.iload 7, 2) := by decide +kernel
theorem dX5_needs_66 : decode cX5_needs 66 = .ok (.ireturn, 1) := by decide +kernel
theorem dX5_drawn_0 : decode cX5_drawn 0 = .ok (.iload_n 2, 1) := by decide +kernel
theorem dX5_drawn_1 : decode cX5_drawn 1 = .ok (.ifCond .lt 9, 3) := by decide +kernel
theorem dX5_drawn_4 : decode cX5_drawn 4 = .ok (.iload_n 2, 1) := by decide +kernel
theorem dX5_drawn_5 : decode cX5_drawn 5 = .ok (.bipush 20, 2) := by decide +kernel
theorem dX5_drawn_7 : decode cX5_drawn 7 = .ok (.if_icmp .le 6, 3) := by decide +kernel
theorem dX5_drawn_10 : decode cX5_drawn 10 = .ok (.bipush (-2), 2) := by decide +kernel
theorem dX5_drawn_12 : decode cX5_drawn 12 = .ok (.ireturn, 1) := by decide +kernel
theorem dX5_drawn_13 : decode cX5_drawn 13 = .ok (.aload_n 0, 1) := by decide +kernel
theorem dX5_drawn_14 : decode cX5_drawn 14 = .ok (.iload_n 1, 1) := by decide +kernel
theorem dX5_drawn_15 : decode cX5_drawn 15 = .ok (.iload_n 2, 1) := by decide +kernel
theorem dX5_drawn_16 : decode cX5_drawn 16 = .ok (.invokevirtual 220, 3) := by decide +kernel
theorem dX5_drawn_19 : decode cX5_drawn 19 = .ok (.ireturn, 1) := by decide +kernel
theorem dX5_chance_0 : decode cX5_chance 0 = .ok (.iload_n 2, 1) := by decide +kernel
theorem dX5_chance_1 : decode cX5_chance 1 = .ok (.iconst 1, 1) := by decide +kernel
theorem dX5_chance_2 : decode cX5_chance 2 = .ok (.if_icmp .lt 18, 3) := by decide +kernel
theorem dX5_chance_5 : decode cX5_chance 5 = .ok (.iload_n 2, 1) := by decide +kernel
theorem dX5_chance_6 : decode cX5_chance 6 = .ok (.bipush 8, 2) := by decide +kernel
theorem dX5_chance_8 : decode cX5_chance 8 = .ok (.if_icmp .gt 12, 3) := by decide +kernel
theorem dX5_chance_11 : decode cX5_chance 11 = .ok (.iload_n 3, 1) := by decide +kernel
theorem dX5_chance_12 : decode cX5_chance 12 = .ok (.ifCond .lt 8, 3) := by decide +kernel
theorem dX5_chance_15 : decode cX5_chance 15 = .ok (.iload_n 3, 1) := by decide +kernel
theorem dX5_chance_16 : decode cX5_chance 16 = .ok (.iconst 1, 1) := by decide +kernel
theorem dX5_chance_17 : decode cX5_chance 17 = .ok (.if_icmp .le 6, 3) := by decide +kernel
theorem dX5_chance_20 : decode cX5_chance 20 = .ok (.bipush (-2), 2) := by decide +kernel
theorem dX5_chance_22 : decode cX5_chance 22 = .ok (.ireturn, 1) := by decide +kernel
theorem dX5_chance_23 : decode cX5_chance 23 = .ok (.iconst 0, 1) := by decide +kernel
theorem dX5_chance_24 : decode cX5_chance 24 = .ok (.istore 4, 2) := by decide +kernel
theorem dX5_chance_26 : decode cX5_chance 26 = .ok (.iconst 0, 1) := by decide +kernel
theorem dX5_chance_27 : decode cX5_chance 27 = .ok (.istore 5, 2) := by decide +kernel
theorem dX5_chance_29 : decode cX5_chance 29 = .ok (.iload 5, 2) := by decide +kernel
theorem dX5_chance_31 : decode cX5_chance 31 = .ok (.iload_n 2, 1) := by decide +kernel
theorem dX5_chance_32 : decode cX5_chance 32 = .ok (.if_icmp .ge 26, 3) := by decide +kernel
theorem dX5_chance_35 : decode cX5_chance 35 = .ok (.aload_n 0, 1) := by decide +kernel
theorem dX5_chance_36 : decode cX5_chance 36 = .ok (.iload_n 1, 1) := by decide +kernel
theorem dX5_chance_37 : decode cX5_chance 37 = .ok (.iload 5, 2) := by decide +kernel
theorem dX5_chance_39 : decode cX5_chance 39 = .ok (.iadd, 1) := by decide +kernel
theorem dX5_chance_40 : decode cX5_chance 40 = .ok (.bipush 8, 2) := by decide +kernel
theorem dX5_chance_42 : decode cX5_chance 42 = .ok (.invokevirtual 220, 3) := by decide +kernel
theorem dX5_chance_45 : decode cX5_chance 45 = .ok (.iconst 4, 1) := by decide +kernel
theorem dX5_chance_46 : decode cX5_chance 46 = .ok (.if_icmp .ne 6, 3) := by decide +kernel
theorem dX5_chance_49 : decode cX5_chance 49 = .ok (.iinc 4 1, 3) := by decide +kernel
theorem dX5_chance_52 : decode cX5_chance 52 = .ok (.iinc 5 1, 3) := by decide +kernel
theorem dX5_chance_55 : decode cX5_chance 55 = .ok (.goto (-26), 3) := by decide +kernel
theorem dX5_chance_58 : decode cX5_chance 58 = .ok (.iload_n 3, 1) := by decide +kernel
theorem dX5_chance_59 : decode cX5_chance 59 = .ok (.ifCond .ne 8, 3) := by decide +kernel
theorem dX5_chance_62 : decode cX5_chance 62 = .ok (.iload 4, 2) := by decide +kernel
theorem dX5_chance_64 : decode cX5_chance 64 = .ok (.goto 4, 3) := by decide +kernel
theorem dX5_chance_67 : decode cX5_chance 67 = .ok (.iload_n 2, 1) := by decide +kernel
theorem dX5_chance_68 : decode cX5_chance 68 = .ok (.iload_n 2, 1) := by decide +kernel
theorem dX5_chance_69 : decode cX5_chance 69 = .ok (.iload 4, 2) := by decide +kernel
theorem dX5_chance_71 : decode cX5_chance 71 = .ok (.invokestatic 223, 3) := by decide +kernel
theorem dX5_chance_74 : decode cX5_chance 74 = .ok (.idiv, 1) := by decide +kernel
theorem dX5_chance_75 : decode cX5_chance 75 = .ok (.ireturn, 1) := by decide +kernel
theorem dX5_tells_0 : decode cX5_tells 0 = .ok (.iload_n 1, 1) := by decide +kernel
theorem dX5_tells_1 : decode cX5_tells 1 = .ok (.invokestatic 226, 3) := by decide +kernel
theorem dX5_tells_4 : decode cX5_tells 4 = .ok (.ifCond .eq 28, 3) := by decide +kernel
theorem dX5_tells_7 : decode cX5_tells 7 = .ok (.iload_n 2, 1) := by decide +kernel
theorem dX5_tells_8 : decode cX5_tells 8 = .ok (.invokestatic 43, 3) := by decide +kernel
theorem dX5_tells_11 : decode cX5_tells 11 = .ok (.ifCond .eq 21, 3) := by decide +kernel
theorem dX5_tells_14 : decode cX5_tells 14 = .ok (.iload_n 3, 1) := by decide +kernel
theorem dX5_tells_15 : decode cX5_tells 15 = .ok (.invokestatic 98, 3) := by decide +kernel
theorem dX5_tells_18 : decode cX5_tells 18 = .ok (.ifCond .eq 14, 3) := by decide +kernel
theorem dX5_tells_21 : decode cX5_tells 21 = .ok (.iload 4, 2) := by decide +kernel
theorem dX5_tells_23 : decode cX5_tells 23 = .ok (.ifCond .lt 9, 3) := by decide +kernel
theorem dX5_tells_26 : decode cX5_tells 26 = .ok (.iload 4, 2) := by decide +kernel
theorem dX5_tells_28 : decode cX5_tells 28 = .ok (.iconst 3, 1) := by decide +kernel
theorem dX5_tells_29 : decode cX5_tells 29 = .ok (.if_icmp .le 6, 3) := by decide +kernel
theorem dX5_tells_32 : decode cX5_tells 32 = .ok (.bipush (-2), 2) := by decide +kernel
theorem dX5_tells_34 : decode cX5_tells 34 = .ok (.ireturn, 1) := by decide +kernel
theorem dX5_tells_35 : decode cX5_tells 35 = .ok (.aload_n 0, 1) := by decide +kernel
theorem dX5_tells_36 : decode cX5_tells 36 = .ok (.getfield 21, 3) := by decide +kernel
theorem dX5_tells_39 : decode cX5_tells 39 = .ok (.iload_n 1, 1) := by decide +kernel
theorem dX5_tells_40 : decode cX5_tells 40 = .ok (.aaload, 1) := by decide +kernel
theorem dX5_tells_41 : decode cX5_tells 41 = .ok (.astore 5, 2) := by decide +kernel
theorem dX5_tells_43 : decode cX5_tells 43 = .ok (.aload 5, 2) := by decide +kernel
theorem dX5_tells_45 : decode cX5_tells 45 = .ok (.invokevirtual 229, 3) := by decide +kernel
theorem dX5_tells_48 : decode cX5_tells 48 = .ok (.ifCond .eq 6, 3) := by decide +kernel
theorem dX5_tells_51 : decode cX5_tells 51 = .ok (.bipush (-11), 2) := by decide +kernel
theorem dX5_tells_53 : decode cX5_tells 53 = .ok (.ireturn, 1) := by decide +kernel
theorem dX5_tells_54 : decode cX5_tells 54 = .ok (.aload 5, 2) := by decide +kernel
theorem dX5_tells_56 : decode cX5_tells 56 = .ok (.getfield 233, 3) := by decide +kernel
theorem dX5_tells_59 : decode cX5_tells 59 = .ok (.iconst 4, 1) := by decide +kernel
theorem dX5_tells_60 : decode cX5_tells 60 = .ok (.if_icmp .gt 17, 3) := by decide +kernel
theorem dX5_tells_63 : decode cX5_tells 63 = .ok (.iload 4, 2) := by decide +kernel
theorem dX5_tells_65 : decode cX5_tells 65 = .ok (.iconst 2, 1) := by decide +kernel
theorem dX5_tells_66 : decode cX5_tells 66 = .ok (.if_icmp .ne 14, 3) := by decide +kernel
theorem dX5_tells_69 : decode cX5_tells 69 = .ok (.aload 5, 2) := by decide +kernel
theorem dX5_tells_71 : decode cX5_tells 71 = .ok (.getfield 233, 3) := by decide +kernel
theorem dX5_tells_74 : decode cX5_tells 74 = .ok (.ifCond .ne 6, 3) := by decide +kernel
theorem dX5_tells_77 : decode cX5_tells 77 = .ok (.bipush (-2), 2) := by decide +kernel
theorem dX5_tells_79 : decode cX5_tells 79 = .ok (.ireturn, 1) := by decide +kernel
theorem dX5_tells_80 : decode cX5_tells 80 = .ok (.iload 4, 2) := by decide +kernel
theorem dX5_tells_82 : decode cX5_tells 82 = .ok (.ifCond .ne 25, 3) := by decide +kernel
theorem dX5_tells_85 : decode cX5_tells 85 = .ok (.aload_n 0, 1) := by decide +kernel
theorem dX5_tells_86 : decode cX5_tells 86 = .ok (.aload 5, 2) := by decide +kernel
theorem dX5_tells_88 : decode cX5_tells 88 = .ok (.aload_n 0, 1) := by decide +kernel
theorem dX5_tells_89 : decode cX5_tells 89 = .ok (.getfield 10, 3) := by decide +kernel
theorem dX5_tells_92 : decode cX5_tells 92 = .ok (.getfield 68, 3) := by decide +kernel
theorem dX5_tells_95 : decode cX5_tells 95 = .ok (.iload_n 2, 1) := by decide +kernel
theorem dX5_tells_96 : decode cX5_tells 96 = .ok (.aaload, 1) := by decide +kernel
theorem dX5_tells_97 : decode cX5_tells 97 = .ok (.iload_n 3, 1) := by decide +kernel
theorem dX5_tells_98 : decode cX5_tells 98 = .ok (.aload_n 0, 1) := by decide +kernel
theorem dX5_tells_99 : decode cX5_tells 99 = .ok (.iload_n 3, 1) := by decide +kernel
theorem dX5_tells_100 : decode cX5_tells 100 = .ok (.invokevirtual 236, 3) := by decide +kernel
theorem dX5_tells_103 : decode cX5_tells 103 = .ok (.invokevirtual 239, 3) := by decide +kernel
theorem dX5_tells_106 : decode cX5_tells 106 = .ok (.ireturn, 1) := by decide +kernel
theorem dX5_tells_107 : decode cX5_tells 107 = .ok (.iload 4, 2) := by decide +kernel
theorem dX5_tells_109 : decode cX5_tells 109 = .ok (.iconst 1, 1) := by decide +kernel
theorem dX5_tells_110 : decode cX5_tells 110 = .ok (.if_icmp .ne 11, 3) := by decide +kernel
theorem dX5_tells_113 : decode cX5_tells 113 = .ok (.aload_n 0, 1) := by decide +kernel
theorem dX5_tells_114 : decode cX5_tells 114 = .ok (.aload 5, 2) := by decide +kernel
theorem dX5_tells_116 : decode cX5_tells 116 = .ok (.iload_n 3, 1) := by decide +kernel
theorem dX5_tells_117 : decode cX5_tells 117 = .ok (.invokevirtual 243, 3) := by decide +kernel
theorem dX5_tells_120 : decode cX5_tells 120 = .ok (.ireturn, 1) := by decide +kernel
theorem dX5_tells_121 : decode cX5_tells 121 = .ok (.iload 4, 2) := by decide +kernel
theorem dX5_tells_123 : decode cX5_tells 123 = .ok (.iconst 2, 1) := by decide +kernel
theorem dX5_tells_124 : decode cX5_tells 124 = .ok (.if_icmp .ne 14, 3) := by decide +kernel
theorem dX5_tells_127 : decode cX5_tells 127 = .ok (.aload_n 0, 1) := by decide +kernel
theorem dX5_tells_128 : decode cX5_tells 128 = .ok (.aload 5, 2) := by decide +kernel
theorem dX5_tells_130 : decode cX5_tells 130 = .ok (.iload_n 2, 1) := by decide +kernel
theorem dX5_tells_131 : decode cX5_tells 131 = .ok (.iload_n 3, 1) := by decide +kernel
theorem dX5_tells_132 : decode cX5_tells 132 = .ok (.invokevirtual 247, 3) := by decide +kernel
theorem dX5_tells_135 : decode cX5_tells 135 = .ok (.goto 11, 3) := by decide +kernel
theorem dX5_tells_138 : decode cX5_tells 138 = .ok (.aload_n 0, 1) := by decide +kernel
theorem dX5_tells_139 : decode cX5_tells 139 = .ok (.aload 5, 2) := by decide +kernel
theorem dX5_tells_141 : decode cX5_tells 141 = .ok (.iload_n 2, 1) := by decide +kernel
theorem dX5_tells_142 : decode cX5_tells 142 = .ok (.iload_n 3, 1) := by decide +kernel
theorem dX5_tells_143 : decode cX5_tells 143 = .ok (.invokevirtual 251, 3) := by decide +kernel
theorem dX5_tells_146 : decode cX5_tells 146 = .ok (.ireturn, 1) := by decide +kernel
theorem dX5_film_0 : decode cX5_film 0 = .ok (.iload_n 1, 1) := by decide +kernel
theorem dX5_film_1 : decode cX5_film 1 = .ok (.invokestatic 226, 3) := by decide +kernel
theorem dX5_film_4 : decode cX5_film 4 = .ok (.ifCond .eq 28, 3) := by decide +kernel
theorem dX5_film_7 : decode cX5_film 7 = .ok (.iload_n 2, 1) := by decide +kernel
theorem dX5_film_8 : decode cX5_film 8 = .ok (.invokestatic 43, 3) := by decide +kernel
theorem dX5_film_11 : decode cX5_film 11 = .ok (.ifCond .eq 21, 3) := by decide +kernel
theorem dX5_film_14 : decode cX5_film 14 = .ok (.iload_n 3, 1) := by decide +kernel
theorem dX5_film_15 : decode cX5_film 15 = .ok (.invokestatic 98, 3) := by decide +kernel
theorem dX5_film_18 : decode cX5_film 18 = .ok (.ifCond .eq 14, 3) := by decide +kernel
theorem dX5_film_21 : decode cX5_film 21 = .ok (.iload 4, 2) := by decide +kernel
theorem dX5_film_23 : decode cX5_film 23 = .ok (.ifCond .lt 9, 3) := by decide +kernel
theorem dX5_film_26 : decode cX5_film 26 = .ok (.iload 4, 2) := by decide +kernel
theorem dX5_film_28 : decode cX5_film 28 = .ok (.iconst 4, 1) := by decide +kernel
theorem dX5_film_29 : decode cX5_film 29 = .ok (.if_icmp .le 6, 3) := by decide +kernel
theorem dX5_film_32 : decode cX5_film 32 = .ok (.bipush (-2), 2) := by decide +kernel
theorem dX5_film_34 : decode cX5_film 34 = .ok (.ireturn, 1) := by decide +kernel
theorem dX5_film_35 : decode cX5_film 35 = .ok (.aload_n 0, 1) := by decide +kernel
theorem dX5_film_36 : decode cX5_film 36 = .ok (.getfield 21, 3) := by decide +kernel
theorem dX5_film_39 : decode cX5_film 39 = .ok (.iload_n 1, 1) := by decide +kernel
theorem dX5_film_40 : decode cX5_film 40 = .ok (.aaload, 1) := by decide +kernel
theorem dX5_film_41 : decode cX5_film 41 = .ok (.astore 5, 2) := by decide +kernel
theorem dX5_film_43 : decode cX5_film 43 = .ok (.aload 5, 2) := by decide +kernel
theorem dX5_film_45 : decode cX5_film 45 = .ok (.iconst 0, 1) := by decide +kernel
theorem dX5_film_46 : decode cX5_film 46 = .ok (.iload 4, 2) := by decide +kernel
theorem dX5_film_48 : decode cX5_film 48 = .ok (.invokevirtual 254, 3) := by decide +kernel
theorem dX5_film_51 : decode cX5_film 51 = .ok (.iconst 0, 1) := by decide +kernel
theorem dX5_film_52 : decode cX5_film 52 = .ok (.istore 6, 2) := by decide +kernel
theorem dX5_film_54 : decode cX5_film 54 = .ok (.iload 6, 2) := by decide +kernel
theorem dX5_film_56 : decode cX5_film 56 = .ok (.iload 4, 2) := by decide +kernel
theorem dX5_film_58 : decode cX5_film 58 = .ok (.if_icmp .ge 40, 3) := by decide +kernel
theorem dX5_film_61 : decode cX5_film 61 = .ok (.aload 5, 2) := by decide +kernel
theorem dX5_film_63 : decode cX5_film 63 = .ok (.getfield 256, 3) := by decide +kernel
theorem dX5_film_66 : decode cX5_film 66 = .ok (.iload 6, 2) := by decide +kernel
theorem dX5_film_68 : decode cX5_film 68 = .ok (.aload_n 0, 1) := by decide +kernel
theorem dX5_film_69 : decode cX5_film 69 = .ok (.getfield 10, 3) := by decide +kernel
theorem dX5_film_72 : decode cX5_film 72 = .ok (.aload_n 0, 1) := by decide +kernel
theorem dX5_film_73 : decode cX5_film 73 = .ok (.getfield 10, 3) := by decide +kernel
theorem dX5_film_76 : decode cX5_film 76 = .ok (.getfield 68, 3) := by decide +kernel
theorem dX5_film_79 : decode cX5_film 79 = .ok (.iload_n 2, 1) := by decide +kernel
theorem dX5_film_80 : decode cX5_film 80 = .ok (.aaload, 1) := by decide +kernel
theorem dX5_film_81 : decode cX5_film 81 = .ok (.iload_n 3, 1) := by decide +kernel
theorem dX5_film_82 : decode cX5_film 82 = .ok (.iload 6, 2) := by decide +kernel
theorem dX5_film_84 : decode cX5_film 84 = .ok (.invokestatic 61, 3) := by decide +kernel
theorem dX5_film_87 : decode cX5_film 87 = .ok (.invokevirtual 116, 3) := by decide +kernel
theorem dX5_film_90 : decode cX5_film 90 = .ok (.l2i, 1) := by decide +kernel
theorem dX5_film_91 : decode cX5_film 91 = .ok (.iastore, 1) := by decide +kernel
theorem dX5_film_92 : decode cX5_film 92 = .ok (.iinc 6 1, 3) := by decide +kernel
theorem dX5_film_95 : decode cX5_film 95 = .ok (.goto (-41), 3) := by decide +kernel
theorem dX5_film_98 : decode cX5_film 98 = .ok (.iload 4, 2) := by decide +kernel
theorem dX5_film_100 : decode cX5_film 100 = .ok (.ireturn, 1) := by decide +kernel
theorem dX5_image_0 : decode cX5_image 0 = .ok (.aload_n 0, 1) := by decide +kernel
theorem dX5_image_1 : decode cX5_image 1 = .ok (.getfield 16, 3) := by decide +kernel
theorem dX5_image_4 : decode cX5_image 4 = .ok (.aload_n 0, 1) := by decide +kernel
theorem dX5_image_5 : decode cX5_image 5 = .ok (.getfield 10, 3) := by decide +kernel
theorem dX5_image_8 : decode cX5_image 8 = .ok (.invokevirtual 259, 3) := by decide +kernel
theorem dX5_image_11 : decode cX5_image 11 = .ok (.aload_n 0, 1) := by decide +kernel
theorem dX5_image_12 : decode cX5_image 12 = .ok (.iconst 1, 1) := by decide +kernel
theorem dX5_image_13 : decode cX5_image 13 = .ok (.putfield 262, 3) := by decide +kernel
theorem dX5_image_16 : decode cX5_image 16 = .ok (.aload_n 0, 1) := by decide +kernel
theorem dX5_image_17 : decode cX5_image 17 = .ok (.getfield 10, 3) := by decide +kernel
theorem dX5_image_20 : decode cX5_image 20 = .ok (.getfield 148, 3) := by decide +kernel
theorem dX5_image_23 : decode cX5_image 23 = .ok (.ireturn, 1) := by decide +kernel
theorem dX5_back_0 : decode cX5_back 0 = .ok (.aload_n 0, 1) := by decide +kernel
theorem dX5_back_1 : decode cX5_back 1 = .ok (.getfield 262, 3) := by decide +kernel
theorem dX5_back_4 : decode cX5_back 4 = .ok (.ifCond .ne 6, 3) := by decide +kernel
theorem dX5_back_7 : decode cX5_back 7 = .ok (.bipush (-3), 2) := by decide +kernel
theorem dX5_back_9 : decode cX5_back 9 = .ok (.ireturn, 1) := by decide +kernel
theorem dX5_back_10 : decode cX5_back 10 = .ok (.aload_n 0, 1) := by decide +kernel
theorem dX5_back_11 : decode cX5_back 11 = .ok (.getfield 10, 3) := by decide +kernel
theorem dX5_back_14 : decode cX5_back 14 = .ok (.aload_n 0, 1) := by decide +kernel
theorem dX5_back_15 : decode cX5_back 15 = .ok (.getfield 16, 3) := by decide +kernel
theorem dX5_back_18 : decode cX5_back 18 = .ok (.invokevirtual 259, 3) := by decide +kernel
theorem dX5_back_21 : decode cX5_back 21 = .ok (.aload_n 0, 1) := by decide +kernel
theorem dX5_back_22 : decode cX5_back 22 = .ok (.getfield 10, 3) := by decide +kernel
theorem dX5_back_25 : decode cX5_back 25 = .ok (.getfield 148, 3) := by decide +kernel
theorem dX5_back_28 : decode cX5_back 28 = .ok (.ireturn, 1) := by decide +kernel
theorem dX5_count_0 : decode cX5_count 0 = .ok (.iload_n 1, 1) := by decide +kernel
theorem dX5_count_1 : decode cX5_count 1 = .ok (.tableswitch 93 0 4 #[35, 46, 54, 66, 85], 35) := by decide +kernel
theorem dX5_count_36 : decode cX5_count 36 = .ok (.aload_n 0, 1) := by decide +kernel
theorem dX5_count_37 : decode cX5_count 37 = .ok (.getfield 10, 3) := by decide +kernel
theorem dX5_count_40 : decode cX5_count 40 = .ok (.getfield 51, 3) := by decide +kernel
theorem dX5_count_43 : decode cX5_count 43 = .ok (.invokevirtual 266, 3) := by decide +kernel
theorem dX5_count_46 : decode cX5_count 46 = .ok (.ireturn, 1) := by decide +kernel
theorem dX5_count_47 : decode cX5_count 47 = .ok (.aload_n 0, 1) := by decide +kernel
theorem dX5_count_48 : decode cX5_count 48 = .ok (.getfield 10, 3) := by decide +kernel
theorem dX5_count_51 : decode cX5_count 51 = .ok (.getfield 148, 3) := by decide +kernel
theorem dX5_count_54 : decode cX5_count 54 = .ok (.ireturn, 1) := by decide +kernel
theorem dX5_count_55 : decode cX5_count 55 = .ok (.aload_n 0, 1) := by decide +kernel
theorem dX5_count_56 : decode cX5_count 56 = .ok (.aload_n 0, 1) := by decide +kernel
theorem dX5_count_57 : decode cX5_count 57 = .ok (.getfield 10, 3) := by decide +kernel
theorem dX5_count_60 : decode cX5_count 60 = .ok (.getfield 68, 3) := by decide +kernel
theorem dX5_count_63 : decode cX5_count 63 = .ok (.invokevirtual 269, 3) := by decide +kernel
theorem dX5_count_66 : decode cX5_count 66 = .ok (.ireturn, 1) := by decide +kernel
theorem dX5_count_67 : decode cX5_count 67 = .ok (.aload_n 0, 1) := by decide +kernel
theorem dX5_count_68 : decode cX5_count 68 = .ok (.aload_n 0, 1) := by decide +kernel
theorem dX5_count_69 : decode cX5_count 69 = .ok (.getfield 10, 3) := by decide +kernel
theorem dX5_count_72 : decode cX5_count 72 = .ok (.getfield 68, 3) := by decide +kernel
theorem dX5_count_75 : decode cX5_count 75 = .ok (.invokevirtual 198, 3) := by decide +kernel
theorem dX5_count_78 : decode cX5_count 78 = .ok (.aload_n 0, 1) := by decide +kernel
theorem dX5_count_79 : decode cX5_count 79 = .ok (.getfield 32, 3) := by decide +kernel
theorem dX5_count_82 : decode cX5_count 82 = .ok (.invokevirtual 195, 3) := by decide +kernel
theorem dX5_count_85 : decode cX5_count 85 = .ok (.ireturn, 1) := by decide +kernel
theorem dX5_count_86 : decode cX5_count 86 = .ok (.aload_n 0, 1) := by decide +kernel
theorem dX5_count_87 : decode cX5_count 87 = .ok (.getfield 10, 3) := by decide +kernel
theorem dX5_count_90 : decode cX5_count 90 = .ok (.invokevirtual 273, 3) := by decide +kernel
theorem dX5_count_93 : decode cX5_count 93 = .ok (.ireturn, 1) := by decide +kernel
theorem dX5_count_94 : decode cX5_count 94 = .ok (.bipush (-2), 2) := by decide +kernel
theorem dX5_count_96 : decode cX5_count 96 = .ok (.ireturn, 1) := by decide +kernel
theorem dX5_sheet_0 : decode cX5_sheet 0 = .ok (.iload_n 1, 1) := by decide +kernel
theorem dX5_sheet_1 : decode cX5_sheet 1 = .ok (.invokestatic 226, 3) := by decide +kernel
theorem dX5_sheet_4 : decode cX5_sheet 4 = .ok (.ifCond .eq 13, 3) := by decide +kernel
theorem dX5_sheet_7 : decode cX5_sheet 7 = .ok (.iload_n 2, 1) := by decide +kernel
theorem dX5_sheet_8 : decode cX5_sheet 8 = .ok (.iconst (-1), 1) := by decide +kernel
theorem dX5_sheet_9 : decode cX5_sheet 9 = .ok (.if_icmp .lt 8, 3) := by decide +kernel
theorem dX5_sheet_12 : decode cX5_sheet 12 = .ok (.iload_n 2, 1) := by decide +kernel
theorem dX5_sheet_13 : decode cX5_sheet 13 = .ok (.iconst 1, 1) := by decide +kernel
theorem dX5_sheet_14 : decode cX5_sheet 14 = .ok (.if_icmp .le 6, 3) := by decide +kernel
theorem dX5_sheet_17 : decode cX5_sheet 17 = .ok (.bipush (-2), 2) := by decide +kernel
theorem dX5_sheet_19 : decode cX5_sheet 19 = .ok (.ireturn, 1) := by decide +kernel
theorem dX5_sheet_20 : decode cX5_sheet 20 = .ok (.iload_n 2, 1) := by decide +kernel
theorem dX5_sheet_21 : decode cX5_sheet 21 = .ok (.iconst (-1), 1) := by decide +kernel
theorem dX5_sheet_22 : decode cX5_sheet 22 = .ok (.if_icmp .ne 16, 3) := by decide +kernel
theorem dX5_sheet_25 : decode cX5_sheet 25 = .ok (.aload_n 0, 1) := by decide +kernel
theorem dX5_sheet_26 : decode cX5_sheet 26 = .ok (.getfield 21, 3) := by decide +kernel
theorem dX5_sheet_29 : decode cX5_sheet 29 = .ok (.iload_n 1, 1) := by decide +kernel
theorem dX5_sheet_30 : decode cX5_sheet 30 = .ok (.aaload, 1) := by decide +kernel
theorem dX5_sheet_31 : decode cX5_sheet 31 = .ok (.iconst (-1), 1) := by decide +kernel
theorem dX5_sheet_32 : decode cX5_sheet 32 = .ok (.iconst 0, 1) := by decide +kernel
theorem dX5_sheet_33 : decode cX5_sheet 33 = .ok (.invokevirtual 254, 3) := by decide +kernel
theorem dX5_sheet_36 : decode cX5_sheet 36 = .ok (.iconst 1, 1) := by decide +kernel
theorem dX5_sheet_37 : decode cX5_sheet 37 = .ok (.ireturn, 1) := by decide +kernel
theorem dX5_sheet_38 : decode cX5_sheet 38 = .ok (.iload_n 3, 1) := by decide +kernel
theorem dX5_sheet_39 : decode cX5_sheet 39 = .ok (.bipush 40, 2) := by decide +kernel
theorem dX5_sheet_41 : decode cX5_sheet 41 = .ok (.if_icmp .le 6, 3) := by decide +kernel
theorem dX5_sheet_44 : decode cX5_sheet 44 = .ok (.bipush (-2), 2) := by decide +kernel
theorem dX5_sheet_46 : decode cX5_sheet 46 = .ok (.ireturn, 1) := by decide +kernel
theorem dX5_sheet_47 : decode cX5_sheet 47 = .ok (.iload_n 3, 1) := by decide +kernel
theorem dX5_sheet_48 : decode cX5_sheet 48 = .ok (.ifCond .ge 6, 3) := by decide +kernel
theorem dX5_sheet_51 : decode cX5_sheet 51 = .ok (.bipush (-14), 2) := by decide +kernel
theorem dX5_sheet_53 : decode cX5_sheet 53 = .ok (.ireturn, 1) := by decide +kernel
theorem dX5_sheet_54 : decode cX5_sheet 54 = .ok (.aload_n 0, 1) := by decide +kernel
theorem dX5_sheet_55 : decode cX5_sheet 55 = .ok (.getfield 21, 3) := by decide +kernel
theorem dX5_sheet_58 : decode cX5_sheet 58 = .ok (.iload_n 1, 1) := by decide +kernel
theorem dX5_sheet_59 : decode cX5_sheet 59 = .ok (.aaload, 1) := by decide +kernel
theorem dX5_sheet_60 : decode cX5_sheet 60 = .ok (.iload_n 2, 1) := by decide +kernel
theorem dX5_sheet_61 : decode cX5_sheet 61 = .ok (.iload_n 3, 1) := by decide +kernel
theorem dX5_sheet_62 : decode cX5_sheet 62 = .ok (.invokevirtual 254, 3) := by decide +kernel
theorem dX5_sheet_65 : decode cX5_sheet 65 = .ok (.iconst 1, 1) := by decide +kernel
theorem dX5_sheet_66 : decode cX5_sheet 66 = .ok (.ireturn, 1) := by decide +kernel
theorem dX5_put_0 : decode cX5_put 0 = .ok (.aload_n 0, 1) := by decide +kernel
theorem dX5_put_1 : decode cX5_put 1 = .ok (.iload_n 1, 1) := by decide +kernel
theorem dX5_put_2 : decode cX5_put 2 = .ok (.iload_n 2, 1) := by decide +kernel
theorem dX5_put_3 : decode cX5_put 3 = .ok (.invokevirtual 276, 3) := by decide +kernel
theorem dX5_put_6 : decode cX5_put 6 = .ok (.istore 4, 2) := by decide +kernel
theorem dX5_put_8 : decode cX5_put 8 = .ok (.iload 4, 2) := by decide +kernel
theorem dX5_put_10 : decode cX5_put 10 = .ok (.ifCond .eq 6, 3) := by decide +kernel
theorem dX5_put_13 : decode cX5_put 13 = .ok (.iload 4, 2) := by decide +kernel
theorem dX5_put_15 : decode cX5_put 15 = .ok (.ireturn, 1) := by decide +kernel
theorem dX5_put_16 : decode cX5_put 16 = .ok (.aload_n 0, 1) := by decide +kernel
theorem dX5_put_17 : decode cX5_put 17 = .ok (.getfield 21, 3) := by decide +kernel
theorem dX5_put_20 : decode cX5_put 20 = .ok (.iload_n 1, 1) := by decide +kernel
theorem dX5_put_21 : decode cX5_put 21 = .ok (.aaload, 1) := by decide +kernel
theorem dX5_put_22 : decode cX5_put 22 = .ok (.astore 5, 2) := by decide +kernel
theorem dX5_put_24 : decode cX5_put 24 = .ok (.aload 5, 2) := by decide +kernel
theorem dX5_put_26 : decode cX5_put 26 = .ok (.getfield 256, 3) := by decide +kernel
theorem dX5_put_29 : decode cX5_put 29 = .ok (.iload_n 2, 1) := by decide +kernel
theorem dX5_put_30 : decode cX5_put 30 = .ok (.aload 5, 2) := by decide +kernel
theorem dX5_put_32 : decode cX5_put 32 = .ok (.getfield 279, 3) := by decide +kernel
theorem dX5_put_35 : decode cX5_put 35 = .ok (.iconst 1, 1) := by decide +kernel
theorem dX5_put_36 : decode cX5_put 36 = .ok (.if_icmp .ne 15, 3) := by decide +kernel
theorem dX5_put_39 : decode cX5_put 39 = .ok (.iload_n 3, 1) := by decide +kernel
theorem dX5_put_40 : decode cX5_put 40 = .ok (.i2f, 1) := by decide +kernel
theorem dX5_put_41 : decode cX5_put 41 = .ok (.ldc_w 282, 3) := by decide +kernel
theorem dX5_put_44 : decode cX5_put 44 = .ok (.fdiv, 1) := by decide +kernel
theorem dX5_put_45 : decode cX5_put 45 = .ok (.invokestatic 283, 3) := by decide +kernel
theorem dX5_put_48 : decode cX5_put 48 = .ok (.goto 4, 3) := by decide +kernel
theorem dX5_put_51 : decode cX5_put 51 = .ok (.iload_n 3, 1) := by decide +kernel
theorem dX5_put_52 : decode cX5_put 52 = .ok (.iastore, 1) := by decide +kernel
theorem dX5_put_53 : decode cX5_put 53 = .ok (.iconst 1, 1) := by decide +kernel
theorem dX5_put_54 : decode cX5_put 54 = .ok (.ireturn, 1) := by decide +kernel
theorem dX5_item_0 : decode cX5_item 0 = .ok (.aload_n 0, 1) := by decide +kernel
theorem dX5_item_1 : decode cX5_item 1 = .ok (.iload_n 1, 1) := by decide +kernel
theorem dX5_item_2 : decode cX5_item 2 = .ok (.iload_n 2, 1) := by decide +kernel
theorem dX5_item_3 : decode cX5_item 3 = .ok (.invokevirtual 276, 3) := by decide +kernel
theorem dX5_item_6 : decode cX5_item 6 = .ok (.istore_n 3, 1) := by decide +kernel
theorem dX5_item_7 : decode cX5_item 7 = .ok (.iload_n 3, 1) := by decide +kernel
theorem dX5_item_8 : decode cX5_item 8 = .ok (.ifCond .eq 10, 3) := by decide +kernel
theorem dX5_item_11 : decode cX5_item 11 = .ok (.ldc2_w 287, 3) := by decide +kernel
theorem dX5_item_14 : decode cX5_item 14 = .ok (.iload_n 3, 1) := by decide +kernel
theorem dX5_item_15 : decode cX5_item 15 = .ok (.i2l, 1) := by decide +kernel
theorem dX5_item_16 : decode cX5_item 16 = .ok (.ladd, 1) := by decide +kernel
theorem dX5_item_17 : decode cX5_item 17 = .ok (.lreturn, 1) := by decide +kernel
theorem dX5_item_18 : decode cX5_item 18 = .ok (.aload_n 0, 1) := by decide +kernel
theorem dX5_item_19 : decode cX5_item 19 = .ok (.getfield 21, 3) := by decide +kernel
theorem dX5_item_22 : decode cX5_item 22 = .ok (.iload_n 1, 1) := by decide +kernel
theorem dX5_item_23 : decode cX5_item 23 = .ok (.aaload, 1) := by decide +kernel
theorem dX5_item_24 : decode cX5_item 24 = .ok (.getfield 256, 3) := by decide +kernel
theorem dX5_item_27 : decode cX5_item 27 = .ok (.iload_n 2, 1) := by decide +kernel
theorem dX5_item_28 : decode cX5_item 28 = .ok (.iaload, 1) := by decide +kernel
theorem dX5_item_29 : decode cX5_item 29 = .ok (.i2l, 1) := by decide +kernel
theorem dX5_item_30 : decode cX5_item 30 = .ok (.lreturn, 1) := by decide +kernel
theorem dX5_copy_0 : decode cX5_copy 0 = .ok (.iload_n 1, 1) := by decide +kernel
theorem dX5_copy_1 : decode cX5_copy 1 = .ok (.invokestatic 226, 3) := by decide +kernel
theorem dX5_copy_4 : decode cX5_copy 4 = .ok (.ifCond .eq 10, 3) := by decide +kernel
theorem dX5_copy_7 : decode cX5_copy 7 = .ok (.iload_n 3, 1) := by decide +kernel
theorem dX5_copy_8 : decode cX5_copy 8 = .ok (.invokestatic 226, 3) := by decide +kernel
theorem dX5_copy_11 : decode cX5_copy 11 = .ok (.ifCond .ne 6, 3) := by decide +kernel
theorem dX5_copy_14 : decode cX5_copy 14 = .ok (.bipush (-2), 2) := by decide +kernel
theorem dX5_copy_16 : decode cX5_copy 16 = .ok (.ireturn, 1) := by decide +kernel
theorem dX5_copy_17 : decode cX5_copy 17 = .ok (.aload_n 0, 1) := by decide +kernel
theorem dX5_copy_18 : decode cX5_copy 18 = .ok (.getfield 21, 3) := by decide +kernel
theorem dX5_copy_21 : decode cX5_copy 21 = .ok (.iload_n 1, 1) := by decide +kernel
theorem dX5_copy_22 : decode cX5_copy 22 = .ok (.aaload, 1) := by decide +kernel
theorem dX5_copy_23 : decode cX5_copy 23 = .ok (.astore 6, 2) := by decide +kernel
theorem dX5_copy_25 : decode cX5_copy 25 = .ok (.aload_n 0, 1) := by decide +kernel
theorem dX5_copy_26 : decode cX5_copy 26 = .ok (.getfield 21, 3) := by decide +kernel
theorem dX5_copy_29 : decode cX5_copy 29 = .ok (.iload_n 3, 1) := by decide +kernel
theorem dX5_copy_30 : decode cX5_copy 30 = .ok (.aaload, 1) := by decide +kernel
theorem dX5_copy_31 : decode cX5_copy 31 = .ok (.astore 7, 2) := by decide +kernel
theorem dX5_copy_33 : decode cX5_copy 33 = .ok (.aload 6, 2) := by decide +kernel
theorem dX5_copy_35 : decode cX5_copy 35 = .ok (.invokevirtual 229, 3) := by decide +kernel
theorem dX5_copy_38 : decode cX5_copy 38 = .ok (.ifCond .ne 11, 3) := by decide +kernel
theorem dX5_copy_41 : decode cX5_copy 41 = .ok (.aload 7, 2) := by decide +kernel
theorem dX5_copy_43 : decode cX5_copy 43 = .ok (.invokevirtual 229, 3) := by decide +kernel
theorem dX5_copy_46 : decode cX5_copy 46 = .ok (.ifCond .eq 6, 3) := by decide +kernel
theorem dX5_copy_49 : decode cX5_copy 49 = .ok (.bipush (-11), 2) := by decide +kernel
theorem dX5_copy_51 : decode cX5_copy 51 = .ok (.ireturn, 1) := by decide +kernel
theorem dX5_copy_52 : decode cX5_copy 52 = .ok (.aload 6, 2) := by decide +kernel
theorem dX5_copy_54 : decode cX5_copy 54 = .ok (.getfield 279, 3) := by decide +kernel
theorem dX5_copy_57 : decode cX5_copy 57 = .ok (.aload 7, 2) := by decide +kernel
theorem dX5_copy_59 : decode cX5_copy 59 = .ok (.getfield 279, 3) := by decide +kernel
theorem dX5_copy_62 : decode cX5_copy 62 = .ok (.if_icmp .eq 6, 3) := by decide +kernel
theorem dX5_copy_65 : decode cX5_copy 65 = .ok (.bipush (-13), 2) := by decide +kernel
theorem dX5_copy_67 : decode cX5_copy 67 = .ok (.ireturn, 1) := by decide +kernel
theorem dX5_copy_68 : decode cX5_copy 68 = .ok (.aload 6, 2) := by decide +kernel
theorem dX5_copy_70 : decode cX5_copy 70 = .ok (.iload_n 2, 1) := by decide +kernel
theorem dX5_copy_71 : decode cX5_copy 71 = .ok (.iload 5, 2) := by decide +kernel
theorem dX5_copy_73 : decode cX5_copy 73 = .ok (.invokevirtual 289, 3) := by decide +kernel
theorem dX5_copy_76 : decode cX5_copy 76 = .ok (.ifCond .eq 15, 3) := by decide +kernel
theorem dX5_copy_79 : decode cX5_copy 79 = .ok (.aload 7, 2) := by decide +kernel
theorem dX5_copy_81 : decode cX5_copy 81 = .ok (.iload 4, 2) := by decide +kernel
theorem dX5_copy_83 : decode cX5_copy 83 = .ok (.iload 5, 2) := by decide +kernel
theorem dX5_copy_85 : decode cX5_copy 85 = .ok (.invokevirtual 289, 3) := by decide +kernel
theorem dX5_copy_88 : decode cX5_copy 88 = .ok (.ifCond .ne 6, 3) := by decide +kernel
theorem dX5_copy_91 : decode cX5_copy 91 = .ok (.bipush (-12), 2) := by decide +kernel
theorem dX5_copy_93 : decode cX5_copy 93 = .ok (.ireturn, 1) := by decide +kernel
theorem dX5_copy_94 : decode cX5_copy 94 = .ok (.aload 6, 2) := by decide +kernel
theorem dX5_copy_96 : decode cX5_copy 96 = .ok (.getfield 256, 3) := by decide +kernel
theorem dX5_copy_99 : decode cX5_copy 99 = .ok (.iload_n 2, 1) := by decide +kernel
theorem dX5_copy_100 : decode cX5_copy 100 = .ok (.aload 7, 2) := by decide +kernel
theorem dX5_copy_102 : decode cX5_copy 102 = .ok (.getfield 256, 3) := by decide +kernel
theorem dX5_copy_105 : decode cX5_copy 105 = .ok (.iload 4, 2) := by decide +kernel
theorem dX5_copy_107 : decode cX5_copy 107 = .ok (.iload 5, 2) := by decide +kernel
theorem dX5_copy_109 : decode cX5_copy 109 = .ok (.invokestatic 292, 3) := by decide +kernel
theorem dX5_copy_112 : decode cX5_copy 112 = .ok (.iload 5, 2) := by decide +kernel
theorem dX5_copy_114 : decode cX5_copy 114 = .ok (.ireturn, 1) := by decide +kernel
theorem dX5_isReplica_0 : decode cX5_isReplica 0 = .ok (.iload_n 0, 1) := by decide +kernel
theorem dX5_isReplica_1 : decode cX5_isReplica 1 = .ok (.ifCond .lt 12, 3) := by decide +kernel
theorem dX5_isReplica_4 : decode cX5_isReplica 4 = .ok (.iload_n 0, 1) := by decide +kernel
theorem dX5_isReplica_5 : decode cX5_isReplica 5 = .ok (.iconst 4, 1) := by decide +kernel
theorem dX5_isReplica_6 : decode cX5_isReplica 6 = .ok (.if_icmp .ge 7, 3) := by decide +kernel
theorem dX5_isReplica_9 : decode cX5_isReplica 9 = .ok (.iconst 1, 1) := by decide +kernel
theorem dX5_isReplica_10 : decode cX5_isReplica 10 = .ok (.goto 4, 3) := by decide +kernel
theorem dX5_isReplica_13 : decode cX5_isReplica 13 = .ok (.iconst 0, 1) := by decide +kernel
theorem dX5_isReplica_14 : decode cX5_isReplica 14 = .ok (.ireturn, 1) := by decide +kernel
theorem dX5_isRoom_0 : decode cX5_isRoom 0 = .ok (.iload_n 0, 1) := by decide +kernel
theorem dX5_isRoom_1 : decode cX5_isRoom 1 = .ok (.ifCond .lt 12, 3) := by decide +kernel
theorem dX5_isRoom_4 : decode cX5_isRoom 4 = .ok (.iload_n 0, 1) := by decide +kernel
theorem dX5_isRoom_5 : decode cX5_isRoom 5 = .ok (.iconst 3, 1) := by decide +kernel
theorem dX5_isRoom_6 : decode cX5_isRoom 6 = .ok (.if_icmp .ge 7, 3) := by decide +kernel
theorem dX5_isRoom_9 : decode cX5_isRoom 9 = .ok (.iconst 1, 1) := by decide +kernel
theorem dX5_isRoom_10 : decode cX5_isRoom 10 = .ok (.goto 4, 3) := by decide +kernel
theorem dX5_isRoom_13 : decode cX5_isRoom 13 = .ok (.iconst 0, 1) := by decide +kernel
theorem dX5_isRoom_14 : decode cX5_isRoom 14 = .ok (.ireturn, 1) := by decide +kernel
theorem dX5_isObject_0 : decode cX5_isObject 0 = .ok (.iload_n 0, 1) := by decide +kernel
theorem dX5_isObject_1 : decode cX5_isObject 1 = .ok (.invokestatic 98, 3) := by decide +kernel
theorem dX5_isObject_4 : decode cX5_isObject 4 = .ok (.ifCond .eq 16, 3) := by decide +kernel
theorem dX5_isObject_7 : decode cX5_isObject 7 = .ok (.iload_n 1, 1) := by decide +kernel
theorem dX5_isObject_8 : decode cX5_isObject 8 = .ok (.ifCond .lt 12, 3) := by decide +kernel
theorem dX5_isObject_11 : decode cX5_isObject 11 = .ok (.iload_n 1, 1) := by decide +kernel
theorem dX5_isObject_12 : decode cX5_isObject 12 = .ok (.iconst 4, 1) := by decide +kernel
theorem dX5_isObject_13 : decode cX5_isObject 13 = .ok (.if_icmp .ge 7, 3) := by decide +kernel
theorem dX5_isObject_16 : decode cX5_isObject 16 = .ok (.iconst 1, 1) := by decide +kernel
theorem dX5_isObject_17 : decode cX5_isObject 17 = .ok (.goto 4, 3) := by decide +kernel
theorem dX5_isObject_20 : decode cX5_isObject 20 = .ok (.iconst 0, 1) := by decide +kernel
theorem dX5_isObject_21 : decode cX5_isObject 21 = .ok (.ireturn, 1) := by decide +kernel
theorem dX5_isKind_0 : decode cX5_isKind 0 = .ok (.iload_n 0, 1) := by decide +kernel
theorem dX5_isKind_1 : decode cX5_isKind 1 = .ok (.ifCond .lt 13, 3) := by decide +kernel
theorem dX5_isKind_4 : decode cX5_isKind 4 = .ok (.iload_n 0, 1) := by decide +kernel
theorem dX5_isKind_5 : decode cX5_isKind 5 = .ok (.bipush 6, 2) := by decide +kernel
theorem dX5_isKind_7 : decode cX5_isKind 7 = .ok (.if_icmp .ge 7, 3) := by decide +kernel
theorem dX5_isKind_10 : decode cX5_isKind 10 = .ok (.iconst 1, 1) := by decide +kernel
theorem dX5_isKind_11 : decode cX5_isKind 11 = .ok (.goto 4, 3) := by decide +kernel
theorem dX5_isKind_14 : decode cX5_isKind 14 = .ok (.iconst 0, 1) := by decide +kernel
theorem dX5_isKind_15 : decode cX5_isKind 15 = .ok (.ireturn, 1) := by decide +kernel
theorem dX5_isSheet_0 : decode cX5_isSheet 0 = .ok (.iload_n 0, 1) := by decide +kernel
theorem dX5_isSheet_1 : decode cX5_isSheet 1 = .ok (.ifCond .lt 12, 3) := by decide +kernel
theorem dX5_isSheet_4 : decode cX5_isSheet 4 = .ok (.iload_n 0, 1) := by decide +kernel
theorem dX5_isSheet_5 : decode cX5_isSheet 5 = .ok (.iconst 4, 1) := by decide +kernel
theorem dX5_isSheet_6 : decode cX5_isSheet 6 = .ok (.if_icmp .ge 7, 3) := by decide +kernel
theorem dX5_isSheet_9 : decode cX5_isSheet 9 = .ok (.iconst 1, 1) := by decide +kernel
theorem dX5_isSheet_10 : decode cX5_isSheet 10 = .ok (.goto 4, 3) := by decide +kernel
theorem dX5_isSheet_13 : decode cX5_isSheet 13 = .ok (.iconst 0, 1) := by decide +kernel
