theorem dX5_isSheet_14 : decode cX5_isSheet 14 = .ok (.ireturn, 1) := by decide +kernel
theorem dX5_isMessage_0 : decode cX5_isMessage 0 = .ok (.iload_n 1, 1) := by decide +kernel
theorem dX5_isMessage_1 : decode cX5_isMessage 1 = .ok (.ifCond .lt 18, 3) := by decide +kernel
theorem dX5_isMessage_4 : decode cX5_isMessage 4 = .ok (.iload_n 1, 1) := by decide +kernel
theorem dX5_isMessage_5 : decode cX5_isMessage 5 = .ok (.aload_n 0, 1) := by decide +kernel
theorem dX5_isMessage_6 : decode cX5_isMessage 6 = .ok (.getfield 10, 3) := by decide +kernel
theorem dX5_isMessage_9 : decode cX5_isMessage 9 = .ok (.getfield 148, 3) := by decide +kernel
theorem dX5_isMessage_12 : decode cX5_isMessage 12 = .ok (.if_icmp .ge 7, 3) := by decide +kernel
theorem dX5_isMessage_15 : decode cX5_isMessage 15 = .ok (.iconst 1, 1) := by decide +kernel
theorem dX5_isMessage_16 : decode cX5_isMessage 16 = .ok (.goto 4, 3) := by decide +kernel
theorem dX5_isMessage_19 : decode cX5_isMessage 19 = .ok (.iconst 0, 1) := by decide +kernel
theorem dX5_isMessage_20 : decode cX5_isMessage 20 = .ok (.ireturn, 1) := by decide +kernel
theorem dX5_refusalOfItem_0 : decode cX5_refusalOfItem 0 = .ok (.iload_n 1, 1) := by decide +kernel
theorem dX5_refusalOfItem_1 : decode cX5_refusalOfItem 1 = .ok (.invokestatic 226, 3) := by decide +kernel
theorem dX5_refusalOfItem_4 : decode cX5_refusalOfItem 4 = .ok (.ifCond .ne 6, 3) := by decide +kernel
theorem dX5_refusalOfItem_7 : decode cX5_refusalOfItem 7 = .ok (.bipush (-2), 2) := by decide +kernel
theorem dX5_refusalOfItem_9 : decode cX5_refusalOfItem 9 = .ok (.ireturn, 1) := by decide +kernel
theorem dX5_refusalOfItem_10 : decode cX5_refusalOfItem 10 = .ok (.aload_n 0, 1) := by decide +kernel
theorem dX5_refusalOfItem_11 : decode cX5_refusalOfItem 11 = .ok (.getfield 21, 3) := by decide +kernel
theorem dX5_refusalOfItem_14 : decode cX5_refusalOfItem 14 = .ok (.iload_n 1, 1) := by decide +kernel
theorem dX5_refusalOfItem_15 : decode cX5_refusalOfItem 15 = .ok (.aaload, 1) := by decide +kernel
theorem dX5_refusalOfItem_16 : decode cX5_refusalOfItem 16 = .ok (.invokevirtual 229, 3) := by decide +kernel
theorem dX5_refusalOfItem_19 : decode cX5_refusalOfItem 19 = .ok (.ifCond .eq 6, 3) := by decide +kernel
theorem dX5_refusalOfItem_22 : decode cX5_refusalOfItem 22 = .ok (.bipush (-11), 2) := by decide +kernel
theorem dX5_refusalOfItem_24 : decode cX5_refusalOfItem 24 = .ok (.ireturn, 1) := by decide +kernel
theorem dX5_refusalOfItem_25 : decode cX5_refusalOfItem 25 = .ok (.iload_n 2, 1) := by decide +kernel
theorem dX5_refusalOfItem_26 : decode cX5_refusalOfItem 26 = .ok (.ifCond .lt 20, 3) := by decide +kernel
theorem dX5_refusalOfItem_29 : decode cX5_refusalOfItem 29 = .ok (.iload_n 2, 1) := by decide +kernel
theorem dX5_refusalOfItem_30 : decode cX5_refusalOfItem 30 = .ok (.aload_n 0, 1) := by decide +kernel
theorem dX5_refusalOfItem_31 : decode cX5_refusalOfItem 31 = .ok (.getfield 21, 3) := by decide +kernel
theorem dX5_refusalOfItem_34 : decode cX5_refusalOfItem 34 = .ok (.iload_n 1, 1) := by decide +kernel
theorem dX5_refusalOfItem_35 : decode cX5_refusalOfItem 35 = .ok (.aaload, 1) := by decide +kernel
theorem dX5_refusalOfItem_36 : decode cX5_refusalOfItem 36 = .ok (.getfield 233, 3) := by decide +kernel
theorem dX5_refusalOfItem_39 : decode cX5_refusalOfItem 39 = .ok (.if_icmp .ge 7, 3) := by decide +kernel
theorem dX5_refusalOfItem_42 : decode cX5_refusalOfItem 42 = .ok (.iconst 0, 1) := by decide +kernel
theorem dX5_refusalOfItem_43 : decode cX5_refusalOfItem 43 = .ok (.goto 5, 3) := by decide +kernel
theorem dX5_refusalOfItem_46 : decode cX5_refusalOfItem 46 = .ok (.bipush (-12), 2) := by decide +kernel
theorem dX5_refusalOfItem_48 : decode cX5_refusalOfItem 48 = .ok (.ireturn, 1) := by decide +kernel
theorem dX5_objectAt_0 : decode cX5_objectAt 0 = .ok (.iload_n 0, 1) := by decide +kernel
theorem dX5_objectAt_1 : decode cX5_objectAt 1 = .ok (.iconst 4, 1) := by decide +kernel
theorem dX5_objectAt_2 : decode cX5_objectAt 2 = .ok (.imul, 1) := by decide +kernel
theorem dX5_objectAt_3 : decode cX5_objectAt 3 = .ok (.iload_n 1, 1) := by decide +kernel
theorem dX5_objectAt_4 : decode cX5_objectAt 4 = .ok (.iadd, 1) := by decide +kernel
theorem dX5_objectAt_5 : decode cX5_objectAt 5 = .ok (.ireturn, 1) := by decide +kernel
theorem dX5_placeOf_0 : decode cX5_placeOf 0 = .ok (.iload_n 0, 1) := by decide +kernel
theorem dX5_placeOf_1 : decode cX5_placeOf 1 = .ok (.bipush 31, 2) := by decide +kernel
theorem dX5_placeOf_3 : decode cX5_placeOf 3 = .ok (.imul, 1) := by decide +kernel
theorem dX5_placeOf_4 : decode cX5_placeOf 4 = .ok (.iload_n 1, 1) := by decide +kernel
theorem dX5_placeOf_5 : decode cX5_placeOf 5 = .ok (.iadd, 1) := by decide +kernel
theorem dX5_placeOf_6 : decode cX5_placeOf 6 = .ok (.ireturn, 1) := by decide +kernel
theorem dX5_pairOf_0 : decode cX5_pairOf 0 = .ok (.iload_n 0, 1) := by decide +kernel
theorem dX5_pairOf_1 : decode cX5_pairOf 1 = .ok (.iconst 4, 1) := by decide +kernel
theorem dX5_pairOf_2 : decode cX5_pairOf 2 = .ok (.imul, 1) := by decide +kernel
theorem dX5_pairOf_3 : decode cX5_pairOf 3 = .ok (.iload_n 1, 1) := by decide +kernel
theorem dX5_pairOf_4 : decode cX5_pairOf 4 = .ok (.iadd, 1) := by decide +kernel
theorem dX5_pairOf_5 : decode cX5_pairOf 5 = .ok (.ireturn, 1) := by decide +kernel
theorem dX5_isOrIsUnder_0 : decode cX5_isOrIsUnder 0 = .ok (.iload_n 0, 1) := by decide +kernel
theorem dX5_isOrIsUnder_1 : decode cX5_isOrIsUnder 1 = .ok (.istore_n 2, 1) := by decide +kernel
theorem dX5_isOrIsUnder_2 : decode cX5_isOrIsUnder 2 = .ok (.iconst 0, 1) := by decide +kernel
theorem dX5_isOrIsUnder_3 : decode cX5_isOrIsUnder 3 = .ok (.istore_n 3, 1) := by decide +kernel
theorem dX5_isOrIsUnder_4 : decode cX5_isOrIsUnder 4 = .ok (.iload_n 3, 1) := by decide +kernel
theorem dX5_isOrIsUnder_5 : decode cX5_isOrIsUnder 5 = .ok (.bipush 6, 2) := by decide +kernel
theorem dX5_isOrIsUnder_7 : decode cX5_isOrIsUnder 7 = .ok (.if_icmp .ge 27, 3) := by decide +kernel
theorem dX5_isOrIsUnder_10 : decode cX5_isOrIsUnder 10 = .ok (.iload_n 2, 1) := by decide +kernel
theorem dX5_isOrIsUnder_11 : decode cX5_isOrIsUnder 11 = .ok (.iconst (-1), 1) := by decide +kernel
theorem dX5_isOrIsUnder_12 : decode cX5_isOrIsUnder 12 = .ok (.if_icmp .eq 22, 3) := by decide +kernel
theorem dX5_isOrIsUnder_15 : decode cX5_isOrIsUnder 15 = .ok (.iload_n 2, 1) := by decide +kernel
theorem dX5_isOrIsUnder_16 : decode cX5_isOrIsUnder 16 = .ok (.iload_n 1, 1) := by decide +kernel
theorem dX5_isOrIsUnder_17 : decode cX5_isOrIsUnder 17 = .ok (.if_icmp .ne 5, 3) := by decide +kernel
theorem dX5_isOrIsUnder_20 : decode cX5_isOrIsUnder 20 = .ok (.iconst 1, 1) := by decide +kernel
theorem dX5_isOrIsUnder_21 : decode cX5_isOrIsUnder 21 = .ok (.ireturn, 1) := by decide +kernel
theorem dX5_isOrIsUnder_22 : decode cX5_isOrIsUnder 22 = .ok (.getstatic 298, 3) := by decide +kernel
theorem dX5_isOrIsUnder_25 : decode cX5_isOrIsUnder 25 = .ok (.iload_n 2, 1) := by decide +kernel
theorem dX5_isOrIsUnder_26 : decode cX5_isOrIsUnder 26 = .ok (.iaload, 1) := by decide +kernel
theorem dX5_isOrIsUnder_27 : decode cX5_isOrIsUnder 27 = .ok (.istore_n 2, 1) := by decide +kernel
theorem dX5_isOrIsUnder_28 : decode cX5_isOrIsUnder 28 = .ok (.iinc 3 1, 3) := by decide +kernel
theorem dX5_isOrIsUnder_31 : decode cX5_isOrIsUnder 31 = .ok (.goto (-27), 3) := by decide +kernel
theorem dX5_isOrIsUnder_34 : decode cX5_isOrIsUnder 34 = .ok (.iconst 0, 1) := by decide +kernel
theorem dX5_isOrIsUnder_35 : decode cX5_isOrIsUnder 35 = .ok (.ireturn, 1) := by decide +kernel
theorem dX5_markGoneByAdding_0 : decode cX5_markGoneByAdding 0 = .ok (.aload_n 0, 1) := by decide +kernel
theorem dX5_markGoneByAdding_1 : decode cX5_markGoneByAdding 1 = .ok (.getfield 10, 3) := by decide +kernel
theorem dX5_markGoneByAdding_4 : decode cX5_markGoneByAdding 4 = .ok (.getfield 108, 3) := by decide +kernel
theorem dX5_markGoneByAdding_7 : decode cX5_markGoneByAdding 7 = .ok (.iload_n 2, 1) := by decide +kernel
theorem dX5_markGoneByAdding_8 : decode cX5_markGoneByAdding 8 = .ok (.iaload, 1) := by decide +kernel
theorem dX5_markGoneByAdding_9 : decode cX5_markGoneByAdding 9 = .ok (.tableswitch 97 1 5 #[35, 97, 78, 55, 78], 35) := by decide +kernel
theorem dX5_markGoneByAdding_44 : decode cX5_markGoneByAdding 44 = .ok (.aload_n 0, 1) := by decide +kernel
theorem dX5_markGoneByAdding_45 : decode cX5_markGoneByAdding 45 = .ok (.getfield 10, 3) := by decide +kernel
theorem dX5_markGoneByAdding_48 : decode cX5_markGoneByAdding 48 = .ok (.getfield 51, 3) := by decide +kernel
theorem dX5_markGoneByAdding_51 : decode cX5_markGoneByAdding 51 = .ok (.aload_n 1, 1) := by decide +kernel
theorem dX5_markGoneByAdding_52 : decode cX5_markGoneByAdding 52 = .ok (.iload_n 2, 1) := by decide +kernel
theorem dX5_markGoneByAdding_53 : decode cX5_markGoneByAdding 53 = .ok (.iload_n 3, 1) := by decide +kernel
theorem dX5_markGoneByAdding_54 : decode cX5_markGoneByAdding 54 = .ok (.aload_n 0, 1) := by decide +kernel
theorem dX5_markGoneByAdding_55 : decode cX5_markGoneByAdding 55 = .ok (.getfield 28, 3) := by decide +kernel
theorem dX5_markGoneByAdding_58 : decode cX5_markGoneByAdding 58 = .ok (.invokevirtual 90, 3) := by decide +kernel
theorem dX5_markGoneByAdding_61 : decode cX5_markGoneByAdding 61 = .ok (.goto 45, 3) := by decide +kernel
theorem dX5_markGoneByAdding_64 : decode cX5_markGoneByAdding 64 = .ok (.aload_n 0, 1) := by decide +kernel
theorem dX5_markGoneByAdding_65 : decode cX5_markGoneByAdding 65 = .ok (.getfield 10, 3) := by decide +kernel
theorem dX5_markGoneByAdding_68 : decode cX5_markGoneByAdding 68 = .ok (.getfield 51, 3) := by decide +kernel
theorem dX5_markGoneByAdding_71 : decode cX5_markGoneByAdding 71 = .ok (.aload_n 1, 1) := by decide +kernel
theorem dX5_markGoneByAdding_72 : decode cX5_markGoneByAdding 72 = .ok (.iload_n 2, 1) := by decide +kernel
theorem dX5_markGoneByAdding_73 : decode cX5_markGoneByAdding 73 = .ok (.ldc_w 301, 3) := by decide +kernel
theorem dX5_markGoneByAdding_76 : decode cX5_markGoneByAdding 76 = .ok (.iload_n 3, 1) := by decide +kernel
theorem dX5_markGoneByAdding_77 : decode cX5_markGoneByAdding 77 = .ok (.aload_n 0, 1) := by decide +kernel
theorem dX5_markGoneByAdding_78 : decode cX5_markGoneByAdding 78 = .ok (.getfield 28, 3) := by decide +kernel
theorem dX5_markGoneByAdding_81 : decode cX5_markGoneByAdding 81 = .ok (.invokevirtual 302, 3) := by decide +kernel
theorem dX5_markGoneByAdding_84 : decode cX5_markGoneByAdding 84 = .ok (.goto 22, 3) := by decide +kernel
theorem dX5_markGoneByAdding_87 : decode cX5_markGoneByAdding 87 = .ok (.aload_n 0, 1) := by decide +kernel
theorem dX5_markGoneByAdding_88 : decode cX5_markGoneByAdding 88 = .ok (.getfield 10, 3) := by decide +kernel
theorem dX5_markGoneByAdding_91 : decode cX5_markGoneByAdding 91 = .ok (.getfield 51, 3) := by decide +kernel
theorem dX5_markGoneByAdding_94 : decode cX5_markGoneByAdding 94 = .ok (.aload_n 1, 1) := by decide +kernel
theorem dX5_markGoneByAdding_95 : decode cX5_markGoneByAdding 95 = .ok (.iload_n 2, 1) := by decide +kernel
theorem dX5_markGoneByAdding_96 : decode cX5_markGoneByAdding 96 = .ok (.aload_n 0, 1) := by decide +kernel
theorem dX5_markGoneByAdding_97 : decode cX5_markGoneByAdding 97 = .ok (.getfield 28, 3) := by decide +kernel
theorem dX5_markGoneByAdding_100 : decode cX5_markGoneByAdding 100 = .ok (.invokevirtual 101, 3) := by decide +kernel
theorem dX5_markGoneByAdding_103 : decode cX5_markGoneByAdding 103 = .ok (.goto 3, 3) := by decide +kernel
theorem dX5_markGoneByAdding_106 : decode cX5_markGoneByAdding 106 = .ok (.return_, 1) := by decide +kernel
theorem dX5_meet_0 : decode cX5_meet 0 = .ok (.aload_n 0, 1) := by decide +kernel
theorem dX5_meet_1 : decode cX5_meet 1 = .ok (.getfield 32, 3) := by decide +kernel
theorem dX5_meet_4 : decode cX5_meet 4 = .ok (.invokevirtual 65, 3) := by decide +kernel
theorem dX5_meet_7 : decode cX5_meet 7 = .ok (.iconst 0, 1) := by decide +kernel
theorem dX5_meet_8 : decode cX5_meet 8 = .ok (.istore_n 2, 1) := by decide +kernel
theorem dX5_meet_9 : decode cX5_meet 9 = .ok (.iload_n 2, 1) := by decide +kernel
theorem dX5_meet_10 : decode cX5_meet 10 = .ok (.iconst 4, 1) := by decide +kernel
theorem dX5_meet_11 : decode cX5_meet 11 = .ok (.if_icmp .ge 19, 3) := by decide +kernel
theorem dX5_meet_14 : decode cX5_meet 14 = .ok (.aload_n 0, 1) := by decide +kernel
theorem dX5_meet_15 : decode cX5_meet 15 = .ok (.getfield 32, 3) := by decide +kernel
theorem dX5_meet_18 : decode cX5_meet 18 = .ok (.aload_n 1, 1) := by decide +kernel
theorem dX5_meet_19 : decode cX5_meet 19 = .ok (.iload_n 2, 1) := by decide +kernel
theorem dX5_meet_20 : decode cX5_meet 20 = .ok (.aaload, 1) := by decide +kernel
theorem dX5_meet_21 : decode cX5_meet 21 = .ok (.invokevirtual 177, 3) := by decide +kernel
theorem dX5_meet_24 : decode cX5_meet 24 = .ok (.iinc 2 1, 3) := by decide +kernel
theorem dX5_meet_27 : decode cX5_meet 27 = .ok (.goto (-18), 3) := by decide +kernel
theorem dX5_meet_30 : decode cX5_meet 30 = .ok (.return_, 1) := by decide +kernel
theorem dX5_alikeAll_0 : decode cX5_alikeAll 0 = .ok (.aload_n 0, 1) := by decide +kernel
theorem dX5_alikeAll_1 : decode cX5_alikeAll 1 = .ok (.aload_n 1, 1) := by decide +kernel
theorem dX5_alikeAll_2 : decode cX5_alikeAll 2 = .ok (.invokevirtual 198, 3) := by decide +kernel
theorem dX5_alikeAll_5 : decode cX5_alikeAll 5 = .ok (.iconst 0, 1) := by decide +kernel
theorem dX5_alikeAll_6 : decode cX5_alikeAll 6 = .ok (.istore_n 2, 1) := by decide +kernel
theorem dX5_alikeAll_7 : decode cX5_alikeAll 7 = .ok (.iconst 0, 1) := by decide +kernel
theorem dX5_alikeAll_8 : decode cX5_alikeAll 8 = .ok (.istore_n 3, 1) := by decide +kernel
theorem dX5_alikeAll_9 : decode cX5_alikeAll 9 = .ok (.iload_n 3, 1) := by decide +kernel
theorem dX5_alikeAll_10 : decode cX5_alikeAll 10 = .ok (.iconst 4, 1) := by decide +kernel
theorem dX5_alikeAll_11 : decode cX5_alikeAll 11 = .ok (.if_icmp .ge 25, 3) := by decide +kernel
theorem dX5_alikeAll_14 : decode cX5_alikeAll 14 = .ok (.aload_n 1, 1) := by decide +kernel
theorem dX5_alikeAll_15 : decode cX5_alikeAll 15 = .ok (.iload_n 3, 1) := by decide +kernel
theorem dX5_alikeAll_16 : decode cX5_alikeAll 16 = .ok (.aaload, 1) := by decide +kernel
theorem dX5_alikeAll_17 : decode cX5_alikeAll 17 = .ok (.aload_n 0, 1) := by decide +kernel
theorem dX5_alikeAll_18 : decode cX5_alikeAll 18 = .ok (.getfield 32, 3) := by decide +kernel
theorem dX5_alikeAll_21 : decode cX5_alikeAll 21 = .ok (.invokevirtual 306, 3) := by decide +kernel
theorem dX5_alikeAll_24 : decode cX5_alikeAll 24 = .ok (.ifCond .eq 6, 3) := by decide +kernel
theorem dX5_alikeAll_27 : decode cX5_alikeAll 27 = .ok (.iinc 2 1, 3) := by decide +kernel
theorem dX5_alikeAll_30 : decode cX5_alikeAll 30 = .ok (.iinc 3 1, 3) := by decide +kernel
theorem dX5_alikeAll_33 : decode cX5_alikeAll 33 = .ok (.goto (-24), 3) := by decide +kernel
theorem dX5_alikeAll_36 : decode cX5_alikeAll 36 = .ok (.iload_n 2, 1) := by decide +kernel
theorem dX5_alikeAll_37 : decode cX5_alikeAll 37 = .ok (.ireturn, 1) := by decide +kernel
theorem dX5_isAhead_0 : decode cX5_isAhead 0 = .ok (.aload_n 0, 1) := by decide +kernel
theorem dX5_isAhead_1 : decode cX5_isAhead 1 = .ok (.getfield 35, 3) := by decide +kernel
theorem dX5_isAhead_4 : decode cX5_isAhead 4 = .ok (.aload_n 1, 1) := by decide +kernel
theorem dX5_isAhead_5 : decode cX5_isAhead 5 = .ok (.invokevirtual 310, 3) := by decide +kernel
theorem dX5_isAhead_8 : decode cX5_isAhead 8 = .ok (.aload_n 0, 1) := by decide +kernel
theorem dX5_isAhead_9 : decode cX5_isAhead 9 = .ok (.getfield 35, 3) := by decide +kernel
theorem dX5_isAhead_12 : decode cX5_isAhead 12 = .ok (.aload_n 2, 1) := by decide +kernel
theorem dX5_isAhead_13 : decode cX5_isAhead 13 = .ok (.invokevirtual 177, 3) := by decide +kernel
theorem dX5_isAhead_16 : decode cX5_isAhead 16 = .ok (.aload_n 0, 1) := by decide +kernel
theorem dX5_isAhead_17 : decode cX5_isAhead 17 = .ok (.getfield 35, 3) := by decide +kernel
theorem dX5_isAhead_20 : decode cX5_isAhead 20 = .ok (.aload_n 1, 1) := by decide +kernel
theorem dX5_isAhead_21 : decode cX5_isAhead 21 = .ok (.invokevirtual 306, 3) := by decide +kernel
theorem dX5_isAhead_24 : decode cX5_isAhead 24 = .ok (.ireturn, 1) := by decide +kernel
theorem dX5_otherwise_0 : decode cX5_otherwise 0 = .ok (.iconst 0, 1) := by decide +kernel
theorem dX5_otherwise_1 : decode cX5_otherwise 1 = .ok (.istore_n 2, 1) := by decide +kernel
theorem dX5_otherwise_2 : decode cX5_otherwise 2 = .ok (.iconst 0, 1) := by decide +kernel
theorem dX5_otherwise_3 : decode cX5_otherwise 3 = .ok (.istore_n 3, 1) := by decide +kernel
theorem dX5_otherwise_4 : decode cX5_otherwise 4 = .ok (.iload_n 3, 1) := by decide +kernel
theorem dX5_otherwise_5 : decode cX5_otherwise 5 = .ok (.iconst 4, 1) := by decide +kernel
theorem dX5_otherwise_6 : decode cX5_otherwise 6 = .ok (.if_icmp .ge 22, 3) := by decide +kernel
theorem dX5_otherwise_9 : decode cX5_otherwise 9 = .ok (.iload_n 2, 1) := by decide +kernel
theorem dX5_otherwise_10 : decode cX5_otherwise 10 = .ok (.aload_n 0, 1) := by decide +kernel
theorem dX5_otherwise_11 : decode cX5_otherwise 11 = .ok (.iload_n 3, 1) := by decide +kernel
theorem dX5_otherwise_12 : decode cX5_otherwise 12 = .ok (.iaload, 1) := by decide +kernel
theorem dX5_otherwise_13 : decode cX5_otherwise 13 = .ok (.aload_n 1, 1) := by decide +kernel
theorem dX5_otherwise_14 : decode cX5_otherwise 14 = .ok (.iload_n 3, 1) := by decide +kernel
theorem dX5_otherwise_15 : decode cX5_otherwise 15 = .ok (.iaload, 1) := by decide +kernel
theorem dX5_otherwise_16 : decode cX5_otherwise 16 = .ok (.ixor, 1) := by decide +kernel
theorem dX5_otherwise_17 : decode cX5_otherwise 17 = .ok (.invokestatic 214, 3) := by decide +kernel
theorem dX5_otherwise_20 : decode cX5_otherwise 20 = .ok (.iadd, 1) := by decide +kernel
theorem dX5_otherwise_21 : decode cX5_otherwise 21 = .ok (.istore_n 2, 1) := by decide +kernel
theorem dX5_otherwise_22 : decode cX5_otherwise 22 = .ok (.iinc 3 1, 3) := by decide +kernel
theorem dX5_otherwise_25 : decode cX5_otherwise 25 = .ok (.goto (-21), 3) := by decide +kernel
theorem dX5_otherwise_28 : decode cX5_otherwise 28 = .ok (.iload_n 2, 1) := by decide +kernel
theorem dX5_otherwise_29 : decode cX5_otherwise 29 = .ok (.ireturn, 1) := by decide +kernel
theorem dX5_fewestToTell_0 : decode cX5_fewestToTell 0 = .ok (.aload_n 0, 1) := by decide +kernel
theorem dX5_fewestToTell_1 : decode cX5_fewestToTell 1 = .ok (.iload_n 1, 1) := by decide +kernel
theorem dX5_fewestToTell_2 : decode cX5_fewestToTell 2 = .ok (.invokevirtual 312, 3) := by decide +kernel
theorem dX5_fewestToTell_5 : decode cX5_fewestToTell 5 = .ok (.istore 5, 2) := by decide +kernel
theorem dX5_fewestToTell_7 : decode cX5_fewestToTell 7 = .ok (.iconst (-1), 1) := by decide +kernel
theorem dX5_fewestToTell_8 : decode cX5_fewestToTell 8 = .ok (.istore 6, 2) := by decide +kernel
theorem dX5_fewestToTell_10 : decode cX5_fewestToTell 10 = .ok (.iconst 0, 1) := by decide +kernel
theorem dX5_fewestToTell_11 : decode cX5_fewestToTell 11 = .ok (.istore 7, 2) := by decide +kernel
theorem dX5_fewestToTell_13 : decode cX5_fewestToTell 13 = .ok (.iload 7, 2) := by decide +kernel
theorem dX5_fewestToTell_15 : decode cX5_fewestToTell 15 = .ok (.bipush 64, 2) := by decide +kernel
theorem dX5_fewestToTell_17 : decode cX5_fewestToTell 17 = .ok (.if_icmp .ge 78, 3) := by decide +kernel
theorem dX5_fewestToTell_20 : decode cX5_fewestToTell 20 = .ok (.iload 6, 2) := by decide +kernel
theorem dX5_fewestToTell_22 : decode cX5_fewestToTell 22 = .ok (.iconst (-1), 1) := by decide +kernel
theorem dX5_fewestToTell_23 : decode cX5_fewestToTell 23 = .ok (.if_icmp .eq 16, 3) := by decide +kernel
theorem dX5_fewestToTell_26 : decode cX5_fewestToTell 26 = .ok (.iload 7, 2) := by decide +kernel
theorem dX5_fewestToTell_28 : decode cX5_fewestToTell 28 = .ok (.invokestatic 214, 3) := by decide +kernel
theorem dX5_fewestToTell_31 : decode cX5_fewestToTell 31 = .ok (.iload 6, 2) := by decide +kernel
theorem dX5_fewestToTell_33 : decode cX5_fewestToTell 33 = .ok (.invokestatic 214, 3) := by decide +kernel
theorem dX5_fewestToTell_36 : decode cX5_fewestToTell 36 = .ok (.if_icmp .ge 7, 3) := by decide +kernel
theorem dX5_fewestToTell_39 : decode cX5_fewestToTell 39 = .ok (.iconst 1, 1) := by decide +kernel
theorem dX5_fewestToTell_40 : decode cX5_fewestToTell 40 = .ok (.goto 4, 3) := by decide +kernel
theorem dX5_fewestToTell_43 : decode cX5_fewestToTell 43 = .ok (.iconst 0, 1) := by decide +kernel
theorem dX5_fewestToTell_44 : decode cX5_fewestToTell 44 = .ok (.istore 8, 2) := by decide +kernel
theorem dX5_fewestToTell_46 : decode cX5_fewestToTell 46 = .ok (.iload 7, 2) := by decide +kernel
theorem dX5_fewestToTell_48 : decode cX5_fewestToTell 48 = .ok (.iload 5, 2) := by decide +kernel
theorem dX5_fewestToTell_50 : decode cX5_fewestToTell 50 = .ok (.iconst (-1), 1) := by decide +kernel
theorem dX5_fewestToTell_51 : decode cX5_fewestToTell 51 = .ok (.ixor, 1) := by decide +kernel
theorem dX5_fewestToTell_52 : decode cX5_fewestToTell 52 = .ok (.iand, 1) := by decide +kernel
theorem dX5_fewestToTell_53 : decode cX5_fewestToTell 53 = .ok (.ifCond .ne 36, 3) := by decide +kernel
theorem dX5_fewestToTell_56 : decode cX5_fewestToTell 56 = .ok (.iload 8, 2) := by decide +kernel
theorem dX5_fewestToTell_58 : decode cX5_fewestToTell 58 = .ok (.ifCond .eq 31, 3) := by decide +kernel
theorem dX5_fewestToTell_61 : decode cX5_fewestToTell 61 = .ok (.aload_n 0, 1) := by decide +kernel
theorem dX5_fewestToTell_62 : decode cX5_fewestToTell 62 = .ok (.iload_n 1, 1) := by decide +kernel
theorem dX5_fewestToTell_63 : decode cX5_fewestToTell 63 = .ok (.iload 7, 2) := by decide +kernel
theorem dX5_fewestToTell_65 : decode cX5_fewestToTell 65 = .ok (.invokevirtual 315, 3) := by decide +kernel
theorem dX5_fewestToTell_68 : decode cX5_fewestToTell 68 = .ok (.aload_n 0, 1) := by decide +kernel
theorem dX5_fewestToTell_69 : decode cX5_fewestToTell 69 = .ok (.getfield 10, 3) := by decide +kernel
theorem dX5_fewestToTell_72 : decode cX5_fewestToTell 72 = .ok (.aload_n 0, 1) := by decide +kernel
theorem dX5_fewestToTell_73 : decode cX5_fewestToTell 73 = .ok (.getfield 35, 3) := by decide +kernel
theorem dX5_fewestToTell_76 : decode cX5_fewestToTell 76 = .ok (.iload_n 2, 1) := by decide +kernel
theorem dX5_fewestToTell_77 : decode cX5_fewestToTell 77 = .ok (.invokevirtual 116, 3) := by decide +kernel
theorem dX5_fewestToTell_80 : decode cX5_fewestToTell 80 = .ok (.lload_n 3, 1) := by decide +kernel
theorem dX5_fewestToTell_81 : decode cX5_fewestToTell 81 = .ok (.lcmp, 1) := by decide +kernel
theorem dX5_fewestToTell_82 : decode cX5_fewestToTell 82 = .ok (.ifCond .ne 7, 3) := by decide +kernel
theorem dX5_fewestToTell_85 : decode cX5_fewestToTell 85 = .ok (.iload 7, 2) := by decide +kernel
theorem dX5_fewestToTell_87 : decode cX5_fewestToTell 87 = .ok (.istore 6, 2) := by decide +kernel
theorem dX5_fewestToTell_89 : decode cX5_fewestToTell 89 = .ok (.iinc 7 1, 3) := by decide +kernel
theorem dX5_fewestToTell_92 : decode cX5_fewestToTell 92 = .ok (.goto (-79), 3) := by decide +kernel
theorem dX5_fewestToTell_95 : decode cX5_fewestToTell 95 = .ok (.iload 6, 2) := by decide +kernel
theorem dX5_fewestToTell_97 : decode cX5_fewestToTell 97 = .ok (.ireturn, 1) := by decide +kernel
theorem dX5_messagesTo_0 : decode cX5_messagesTo 0 = .ok (.iconst 0, 1) := by decide +kernel
theorem dX5_messagesTo_1 : decode cX5_messagesTo 1 = .ok (.istore_n 2, 1) := by decide +kernel
theorem dX5_messagesTo_2 : decode cX5_messagesTo 2 = .ok (.iconst 0, 1) := by decide +kernel
theorem dX5_messagesTo_3 : decode cX5_messagesTo 3 = .ok (.istore_n 3, 1) := by decide +kernel
theorem dX5_messagesTo_4 : decode cX5_messagesTo 4 = .ok (.iload_n 3, 1) := by decide +kernel
theorem dX5_messagesTo_5 : decode cX5_messagesTo 5 = .ok (.aload_n 0, 1) := by decide +kernel
theorem dX5_messagesTo_6 : decode cX5_messagesTo 6 = .ok (.getfield 10, 3) := by decide +kernel
theorem dX5_messagesTo_9 : decode cX5_messagesTo 9 = .ok (.getfield 148, 3) := by decide +kernel
theorem dX5_messagesTo_12 : decode cX5_messagesTo 12 = .ok (.if_icmp .ge 31, 3) := by decide +kernel
theorem dX5_messagesTo_15 : decode cX5_messagesTo 15 = .ok (.aload_n 0, 1) := by decide +kernel
theorem dX5_messagesTo_16 : decode cX5_messagesTo 16 = .ok (.getfield 10, 3) := by decide +kernel
theorem dX5_messagesTo_19 : decode cX5_messagesTo 19 = .ok (.getfield 165, 3) := by decide +kernel
theorem dX5_messagesTo_22 : decode cX5_messagesTo 22 = .ok (.iload_n 3, 1) := by decide +kernel
theorem dX5_messagesTo_23 : decode cX5_messagesTo 23 = .ok (.aaload, 1) := by decide +kernel
theorem dX5_messagesTo_24 : decode cX5_messagesTo 24 = .ok (.getfield 169, 3) := by decide +kernel
theorem dX5_messagesTo_27 : decode cX5_messagesTo 27 = .ok (.iload_n 1, 1) := by decide +kernel
theorem dX5_messagesTo_28 : decode cX5_messagesTo 28 = .ok (.if_icmp .ne 9, 3) := by decide +kernel
theorem dX5_messagesTo_31 : decode cX5_messagesTo 31 = .ok (.iload_n 2, 1) := by decide +kernel
theorem dX5_messagesTo_32 : decode cX5_messagesTo 32 = .ok (.iconst 1, 1) := by decide +kernel
theorem dX5_messagesTo_33 : decode cX5_messagesTo 33 = .ok (.iload_n 3, 1) := by decide +kernel
theorem dX5_messagesTo_34 : decode cX5_messagesTo 34 = .ok (.ishl, 1) := by decide +kernel
theorem dX5_messagesTo_35 : decode cX5_messagesTo 35 = .ok (.ior, 1) := by decide +kernel
theorem dX5_messagesTo_36 : decode cX5_messagesTo 36 = .ok (.istore_n 2, 1) := by decide +kernel
theorem dX5_messagesTo_37 : decode cX5_messagesTo 37 = .ok (.iinc 3 1, 3) := by decide +kernel
theorem dX5_messagesTo_40 : decode cX5_messagesTo 40 = .ok (.goto (-36), 3) := by decide +kernel
theorem dX5_messagesTo_43 : decode cX5_messagesTo 43 = .ok (.iload_n 2, 1) := by decide +kernel
theorem dX5_messagesTo_44 : decode cX5_messagesTo 44 = .ok (.ireturn, 1) := by decide +kernel
theorem dX5_thinkComing_0 : decode cX5_thinkComing 0 = .ok (.aload_n 0, 1) := by decide +kernel
theorem dX5_thinkComing_1 : decode cX5_thinkComing 1 = .ok (.getfield 35, 3) := by decide +kernel
theorem dX5_thinkComing_4 : decode cX5_thinkComing 4 = .ok (.aload_n 0, 1) := by decide +kernel
theorem dX5_thinkComing_5 : decode cX5_thinkComing 5 = .ok (.getfield 10, 3) := by decide +kernel
theorem dX5_thinkComing_8 : decode cX5_thinkComing 8 = .ok (.getfield 68, 3) := by decide +kernel
theorem dX5_thinkComing_11 : decode cX5_thinkComing 11 = .ok (.iload_n 1, 1) := by decide +kernel
theorem dX5_thinkComing_12 : decode cX5_thinkComing 12 = .ok (.aaload, 1) := by decide +kernel
theorem dX5_thinkComing_13 : decode cX5_thinkComing 13 = .ok (.invokevirtual 310, 3) := by decide +kernel
theorem dX5_thinkComing_16 : decode cX5_thinkComing 16 = .ok (.iconst 0, 1) := by decide +kernel
theorem dX5_thinkComing_17 : decode cX5_thinkComing 17 = .ok (.istore_n 3, 1) := by decide +kernel
theorem dX5_thinkComing_18 : decode cX5_thinkComing 18 = .ok (.iload_n 3, 1) := by decide +kernel
theorem dX5_thinkComing_19 : decode cX5_thinkComing 19 = .ok (.aload_n 0, 1) := by decide +kernel
theorem dX5_thinkComing_20 : decode cX5_thinkComing 20 = .ok (.getfield 10, 3) := by decide +kernel
theorem dX5_thinkComing_23 : decode cX5_thinkComing 23 = .ok (.getfield 148, 3) := by decide +kernel
theorem dX5_thinkComing_26 : decode cX5_thinkComing 26 = .ok (.if_icmp .ge 37, 3) := by decide +kernel
theorem dX5_thinkComing_29 : decode cX5_thinkComing 29 = .ok (.iload_n 2, 1) := by decide +kernel
theorem dX5_thinkComing_30 : decode cX5_thinkComing 30 = .ok (.iload_n 3, 1) := by decide +kernel
theorem dX5_thinkComing_31 : decode cX5_thinkComing 31 = .ok (.iushr, 1) := by decide +kernel
theorem dX5_thinkComing_32 : decode cX5_thinkComing 32 = .ok (.iconst 1, 1) := by decide +kernel
theorem dX5_thinkComing_33 : decode cX5_thinkComing 33 = .ok (.iand, 1) := by decide +kernel
theorem dX5_thinkComing_34 : decode cX5_thinkComing 34 = .ok (.iconst 1, 1) := by decide +kernel
theorem dX5_thinkComing_35 : decode cX5_thinkComing 35 = .ok (.if_icmp .ne 22, 3) := by decide +kernel
theorem dX5_thinkComing_38 : decode cX5_thinkComing 38 = .ok (.aload_n 0, 1) := by decide +kernel
theorem dX5_thinkComing_39 : decode cX5_thinkComing 39 = .ok (.getfield 35, 3) := by decide +kernel
theorem dX5_thinkComing_42 : decode cX5_thinkComing 42 = .ok (.aload_n 0, 1) := by decide +kernel
theorem dX5_thinkComing_43 : decode cX5_thinkComing 43 = .ok (.getfield 10, 3) := by decide +kernel
theorem dX5_thinkComing_46 : decode cX5_thinkComing 46 = .ok (.getfield 165, 3) := by decide +kernel
theorem dX5_thinkComing_49 : decode cX5_thinkComing 49 = .ok (.iload_n 3, 1) := by decide +kernel
theorem dX5_thinkComing_50 : decode cX5_thinkComing 50 = .ok (.aaload, 1) := by decide +kernel
theorem dX5_thinkComing_51 : decode cX5_thinkComing 51 = .ok (.getfield 174, 3) := by decide +kernel
theorem dX5_thinkComing_54 : decode cX5_thinkComing 54 = .ok (.invokevirtual 177, 3) := by decide +kernel
theorem dX5_thinkComing_57 : decode cX5_thinkComing 57 = .ok (.iinc 3 1, 3) := by decide +kernel
theorem dX5_thinkComing_60 : decode cX5_thinkComing 60 = .ok (.goto (-42), 3) := by decide +kernel
theorem dX5_thinkComing_63 : decode cX5_thinkComing 63 = .ok (.return_, 1) := by decide +kernel
theorem dX5_alikeAfterDrawing_0 : decode cX5_alikeAfterDrawing 0 = .ok (.iconst 0, 1) := by decide +kernel
theorem dX5_alikeAfterDrawing_1 : decode cX5_alikeAfterDrawing 1 = .ok (.istore_n 3, 1) := by decide +kernel
theorem dX5_alikeAfterDrawing_2 : decode cX5_alikeAfterDrawing 2 = .ok (.iload_n 3, 1) := by decide +kernel
theorem dX5_alikeAfterDrawing_3 : decode cX5_alikeAfterDrawing 3 = .ok (.iconst 4, 1) := by decide +kernel
theorem dX5_alikeAfterDrawing_4 : decode cX5_alikeAfterDrawing 4 = .ok (.if_icmp .ge 27, 3) := by decide +kernel
theorem dX5_alikeAfterDrawing_7 : decode cX5_alikeAfterDrawing 7 = .ok (.aload_n 0, 1) := by decide +kernel
theorem dX5_alikeAfterDrawing_8 : decode cX5_alikeAfterDrawing 8 = .ok (.getfield 38, 3) := by decide +kernel
theorem dX5_alikeAfterDrawing_11 : decode cX5_alikeAfterDrawing 11 = .ok (.iload_n 3, 1) := by decide +kernel
theorem dX5_alikeAfterDrawing_12 : decode cX5_alikeAfterDrawing 12 = .ok (.aaload, 1) := by decide +kernel
theorem dX5_alikeAfterDrawing_13 : decode cX5_alikeAfterDrawing 13 = .ok (.aload_n 0, 1) := by decide +kernel
theorem dX5_alikeAfterDrawing_14 : decode cX5_alikeAfterDrawing 14 = .ok (.getfield 10, 3) := by decide +kernel
theorem dX5_alikeAfterDrawing_17 : decode cX5_alikeAfterDrawing 17 = .ok (.getfield 68, 3) := by decide +kernel
theorem dX5_alikeAfterDrawing_20 : decode cX5_alikeAfterDrawing 20 = .ok (.iload_n 3, 1) := by decide +kernel
theorem dX5_alikeAfterDrawing_21 : decode cX5_alikeAfterDrawing 21 = .ok (.aaload, 1) := by decide +kernel
theorem dX5_alikeAfterDrawing_22 : decode cX5_alikeAfterDrawing 22 = .ok (.invokevirtual 310, 3) := by decide +kernel
theorem dX5_alikeAfterDrawing_25 : decode cX5_alikeAfterDrawing 25 = .ok (.iinc 3 1, 3) := by decide +kernel
theorem dX5_alikeAfterDrawing_28 : decode cX5_alikeAfterDrawing 28 = .ok (.goto (-26), 3) := by decide +kernel
theorem dX5_alikeAfterDrawing_31 : decode cX5_alikeAfterDrawing 31 = .ok (.iload_n 1, 1) := by decide +kernel
theorem dX5_alikeAfterDrawing_32 : decode cX5_alikeAfterDrawing 32 = .ok (.istore_n 3, 1) := by decide +kernel
theorem dX5_alikeAfterDrawing_33 : decode cX5_alikeAfterDrawing 33 = .ok (.iconst 0, 1) := by decide +kernel
theorem dX5_alikeAfterDrawing_34 : decode cX5_alikeAfterDrawing 34 = .ok (.istore 4, 2) := by decide +kernel
theorem dX5_alikeAfterDrawing_36 : decode cX5_alikeAfterDrawing 36 = .ok (.iload 4, 2) := by decide +kernel
theorem dX5_alikeAfterDrawing_38 : decode cX5_alikeAfterDrawing 38 = .ok (.iload_n 2, 1) := by decide +kernel
theorem dX5_alikeAfterDrawing_39 : decode cX5_alikeAfterDrawing 39 = .ok (.if_icmp .ge 48, 3) := by decide +kernel
theorem dX5_alikeAfterDrawing_42 : decode cX5_alikeAfterDrawing 42 = .ok (.iload_n 3, 1) := by decide +kernel
theorem dX5_alikeAfterDrawing_43 : decode cX5_alikeAfterDrawing 43 = .ok (.invokestatic 318, 3) := by decide +kernel
theorem dX5_alikeAfterDrawing_46 : decode cX5_alikeAfterDrawing 46 = .ok (.istore_n 3, 1) := by decide +kernel
theorem dX5_alikeAfterDrawing_47 : decode cX5_alikeAfterDrawing 47 = .ok (.iload_n 3, 1) := by decide +kernel
theorem dX5_alikeAfterDrawing_48 : decode cX5_alikeAfterDrawing 48 = .ok (.invokestatic 321, 3) := by decide +kernel
theorem dX5_alikeAfterDrawing_51 : decode cX5_alikeAfterDrawing 51 = .ok (.istore 5, 2) := by decide +kernel
theorem dX5_alikeAfterDrawing_53 : decode cX5_alikeAfterDrawing 53 = .ok (.iload_n 3, 1) := by decide +kernel
theorem dX5_alikeAfterDrawing_54 : decode cX5_alikeAfterDrawing 54 = .ok (.invokestatic 318, 3) := by decide +kernel
theorem dX5_alikeAfterDrawing_57 : decode cX5_alikeAfterDrawing 57 = .ok (.istore_n 3, 1) := by decide +kernel
theorem dX5_alikeAfterDrawing_58 : decode cX5_alikeAfterDrawing 58 = .ok (.iload_n 3, 1) := by decide +kernel
theorem dX5_alikeAfterDrawing_59 : decode cX5_alikeAfterDrawing 59 = .ok (.invokestatic 321, 3) := by decide +kernel
theorem dX5_alikeAfterDrawing_62 : decode cX5_alikeAfterDrawing 62 = .ok (.istore 6, 2) := by decide +kernel
theorem dX5_alikeAfterDrawing_64 : decode cX5_alikeAfterDrawing 64 = .ok (.aload_n 0, 1) := by decide +kernel
theorem dX5_alikeAfterDrawing_65 : decode cX5_alikeAfterDrawing 65 = .ok (.getfield 38, 3) := by decide +kernel
theorem dX5_alikeAfterDrawing_68 : decode cX5_alikeAfterDrawing 68 = .ok (.iload 6, 2) := by decide +kernel
theorem dX5_alikeAfterDrawing_70 : decode cX5_alikeAfterDrawing 70 = .ok (.aaload, 1) := by decide +kernel
theorem dX5_alikeAfterDrawing_71 : decode cX5_alikeAfterDrawing 71 = .ok (.aload_n 0, 1) := by decide +kernel
theorem dX5_alikeAfterDrawing_72 : decode cX5_alikeAfterDrawing 72 = .ok (.getfield 38, 3) := by decide +kernel
theorem dX5_alikeAfterDrawing_75 : decode cX5_alikeAfterDrawing 75 = .ok (.iload 5, 2) := by decide +kernel
theorem dX5_alikeAfterDrawing_77 : decode cX5_alikeAfterDrawing 77 = .ok (.aaload, 1) := by decide +kernel
theorem dX5_alikeAfterDrawing_78 : decode cX5_alikeAfterDrawing 78 = .ok (.invokevirtual 177, 3) := by decide +kernel
theorem dX5_alikeAfterDrawing_81 : decode cX5_alikeAfterDrawing 81 = .ok (.iinc 4 1, 3) := by decide +kernel
theorem dX5_alikeAfterDrawing_84 : decode cX5_alikeAfterDrawing 84 = .ok (.goto (-48), 3) := by decide +kernel
theorem dX5_alikeAfterDrawing_87 : decode cX5_alikeAfterDrawing 87 = .ok (.aload_n 0, 1) := by decide +kernel
theorem dX5_alikeAfterDrawing_88 : decode cX5_alikeAfterDrawing 88 = .ok (.aload_n 0, 1) := by decide +kernel
theorem dX5_alikeAfterDrawing_89 : decode cX5_alikeAfterDrawing 89 = .ok (.getfield 38, 3) := by decide +kernel
theorem dX5_alikeAfterDrawing_92 : decode cX5_alikeAfterDrawing 92 = .ok (.invokevirtual 269, 3) := by decide +kernel
theorem dX5_alikeAfterDrawing_95 : decode cX5_alikeAfterDrawing 95 = .ok (.ireturn, 1) := by decide +kernel
theorem dX5_nextDrawn_0 : decode cX5_nextDrawn 0 = .ok (.iload_n 0, 1) := by decide +kernel
theorem dX5_nextDrawn_1 : decode cX5_nextDrawn 1 = .ok (.ldc_w 324, 3) := by decide +kernel
theorem dX5_nextDrawn_4 : decode cX5_nextDrawn 4 = .ok (.imul, 1) := by decide +kernel
theorem dX5_nextDrawn_5 : decode cX5_nextDrawn 5 = .ok (.sipush 12345, 3) := by decide +kernel
theorem dX5_nextDrawn_8 : decode cX5_nextDrawn 8 = .ok (.iadd, 1) := by decide +kernel
theorem dX5_nextDrawn_9 : decode cX5_nextDrawn 9 = .ok (.ireturn, 1) := by decide +kernel
theorem dX5_replicaDrawn_0 : decode cX5_replicaDrawn 0 = .ok (.iload_n 0, 1) := by decide +kernel
theorem dX5_replicaDrawn_1 : decode cX5_replicaDrawn 1 = .ok (.bipush 9, 2) := by decide +kernel
theorem dX5_replicaDrawn_3 : decode cX5_replicaDrawn 3 = .ok (.iushr, 1) := by decide +kernel
theorem dX5_replicaDrawn_4 : decode cX5_replicaDrawn 4 = .ok (.iconst 4, 1) := by decide +kernel
theorem dX5_replicaDrawn_5 : decode cX5_replicaDrawn 5 = .ok (.irem, 1) := by decide +kernel
theorem dX5_replicaDrawn_6 : decode cX5_replicaDrawn 6 = .ok (.ireturn, 1) := by decide +kernel
theorem dX5_greatestDivisorOfBoth_0 : decode cX5_greatestDivisorOfBoth 0 = .ok (.iload_n 0, 1) := by decide +kernel
theorem dX5_greatestDivisorOfBoth_1 : decode cX5_greatestDivisorOfBoth 1 = .ok (.istore_n 2, 1) := by decide +kernel
theorem dX5_greatestDivisorOfBoth_2 : decode cX5_greatestDivisorOfBoth 2 = .ok (.iload_n 2, 1) := by decide +kernel
theorem dX5_greatestDivisorOfBoth_3 : decode cX5_greatestDivisorOfBoth 3 = .ok (.iconst 1, 1) := by decide +kernel
theorem dX5_greatestDivisorOfBoth_4 : decode cX5_greatestDivisorOfBoth 4 = .ok (.if_icmp .le 23, 3) := by decide +kernel
theorem dX5_greatestDivisorOfBoth_7 : decode cX5_greatestDivisorOfBoth 7 = .ok (.iload_n 0, 1) := by decide +kernel
theorem dX5_greatestDivisorOfBoth_8 : decode cX5_greatestDivisorOfBoth 8 = .ok (.iload_n 2, 1) := by decide +kernel
theorem dX5_greatestDivisorOfBoth_9 : decode cX5_greatestDivisorOfBoth 9 = .ok (.irem, 1) := by decide +kernel
theorem dX5_greatestDivisorOfBoth_10 : decode cX5_greatestDivisorOfBoth 10 = .ok (.ifCond .ne 11, 3) := by decide +kernel
theorem dX5_greatestDivisorOfBoth_13 : decode cX5_greatestDivisorOfBoth 13 = .ok (.iload_n 1, 1) := by decide +kernel
theorem dX5_greatestDivisorOfBoth_14 : decode cX5_greatestDivisorOfBoth 14 = .ok (.iload_n 2, 1) := by decide +kernel
theorem dX5_greatestDivisorOfBoth_15 : decode cX5_greatestDivisorOfBoth 15 = .ok (.irem, 1) := by decide +kernel
theorem dX5_greatestDivisorOfBoth_16 : decode cX5_greatestDivisorOfBoth 16 = .ok (.ifCond .ne 5, 3) := by decide +kernel
theorem dX5_greatestDivisorOfBoth_19 : decode cX5_greatestDivisorOfBoth 19 = .ok (.iload_n 2, 1) := by decide +kernel
theorem dX5_greatestDivisorOfBoth_20 : decode cX5_greatestDivisorOfBoth 20 = .ok (.ireturn, 1) := by decide +kernel
theorem dX5_greatestDivisorOfBoth_21 : decode cX5_greatestDivisorOfBoth 21 = .ok (.iinc 2 (-1), 3) := by decide +kernel
theorem dX5_greatestDivisorOfBoth_24 : decode cX5_greatestDivisorOfBoth 24 = .ok (.goto (-22), 3) := by decide +kernel
theorem dX5_greatestDivisorOfBoth_27 : decode cX5_greatestDivisorOfBoth 27 = .ok (.iconst 1, 1) := by decide +kernel
theorem dX5_greatestDivisorOfBoth_28 : decode cX5_greatestDivisorOfBoth 28 = .ok (.ireturn, 1) := by decide +kernel
theorem dX5_kindOfFirst_0 : decode cX5_kindOfFirst 0 = .ok (.aload_n 0, 1) := by decide +kernel
theorem dX5_kindOfFirst_1 : decode cX5_kindOfFirst 1 = .ok (.getfield 10, 3) := by decide +kernel
theorem dX5_kindOfFirst_4 : decode cX5_kindOfFirst 4 = .ok (.getfield 108, 3) := by decide +kernel
theorem dX5_kindOfFirst_7 : decode cX5_kindOfFirst 7 = .ok (.iload_n 1, 1) := by decide +kernel
theorem dX5_kindOfFirst_8 : decode cX5_kindOfFirst 8 = .ok (.iconst 0, 1) := by decide +kernel
theorem dX5_kindOfFirst_9 : decode cX5_kindOfFirst 9 = .ok (.invokestatic 61, 3) := by decide +kernel
theorem dX5_kindOfFirst_12 : decode cX5_kindOfFirst 12 = .ok (.iaload, 1) := by decide +kernel
theorem dX5_kindOfFirst_13 : decode cX5_kindOfFirst 13 = .ok (.ireturn, 1) := by decide +kernel
theorem dX5_firstOtherwise_0 : decode cX5_firstOtherwise 0 = .ok (.iconst 0, 1) := by decide +kernel
theorem dX5_firstOtherwise_1 : decode cX5_firstOtherwise 1 = .ok (.istore 5, 2) := by decide +kernel
theorem dX5_firstOtherwise_3 : decode cX5_firstOtherwise 3 = .ok (.iload 5, 2) := by decide +kernel
theorem dX5_firstOtherwise_5 : decode cX5_firstOtherwise 5 = .ok (.aload_n 1, 1) := by decide +kernel
theorem dX5_firstOtherwise_6 : decode cX5_firstOtherwise 6 = .ok (.getfield 233, 3) := by decide +kernel
theorem dX5_firstOtherwise_9 : decode cX5_firstOtherwise 9 = .ok (.if_icmp .ge 74, 3) := by decide +kernel
theorem dX5_firstOtherwise_12 : decode cX5_firstOtherwise 12 = .ok (.iload 5, 2) := by decide +kernel
theorem dX5_firstOtherwise_14 : decode cX5_firstOtherwise 14 = .ok (.iconst 4, 1) := by decide +kernel
theorem dX5_firstOtherwise_15 : decode cX5_firstOtherwise 15 = .ok (.if_icmp .ge 68, 3) := by decide +kernel
theorem dX5_firstOtherwise_18 : decode cX5_firstOtherwise 18 = .ok (.iload_n 3, 1) := by decide +kernel
theorem dX5_firstOtherwise_19 : decode cX5_firstOtherwise 19 = .ok (.iload 5, 2) := by decide +kernel
theorem dX5_firstOtherwise_21 : decode cX5_firstOtherwise 21 = .ok (.invokestatic 61, 3) := by decide +kernel
theorem dX5_firstOtherwise_24 : decode cX5_firstOtherwise 24 = .ok (.istore 6, 2) := by decide +kernel
theorem dX5_firstOtherwise_26 : decode cX5_firstOtherwise 26 = .ok (.iload 5, 2) := by decide +kernel
theorem dX5_firstOtherwise_28 : decode cX5_firstOtherwise 28 = .ok (.ifCond .ne 8, 3) := by decide +kernel
theorem dX5_firstOtherwise_31 : decode cX5_firstOtherwise 31 = .ok (.iload 4, 2) := by decide +kernel
theorem dX5_firstOtherwise_33 : decode cX5_firstOtherwise 33 = .ok (.goto 13, 3) := by decide +kernel
theorem dX5_firstOtherwise_36 : decode cX5_firstOtherwise 36 = .ok (.aload_n 0, 1) := by decide +kernel
theorem dX5_firstOtherwise_37 : decode cX5_firstOtherwise 37 = .ok (.getfield 10, 3) := by decide +kernel
theorem dX5_firstOtherwise_40 : decode cX5_firstOtherwise 40 = .ok (.getfield 108, 3) := by decide +kernel
theorem dX5_firstOtherwise_43 : decode cX5_firstOtherwise 43 = .ok (.iload 6, 2) := by decide +kernel
theorem dX5_firstOtherwise_45 : decode cX5_firstOtherwise 45 = .ok (.iaload, 1) := by decide +kernel
theorem dX5_firstOtherwise_46 : decode cX5_firstOtherwise 46 = .ok (.istore 7, 2) := by decide +kernel
theorem dX5_firstOtherwise_48 : decode cX5_firstOtherwise 48 = .ok (.aload_n 1, 1) := by decide +kernel
theorem dX5_firstOtherwise_49 : decode cX5_firstOtherwise 49 = .ok (.getfield 256, 3) := by decide +kernel
theorem dX5_firstOtherwise_52 : decode cX5_firstOtherwise 52 = .ok (.iload 5, 2) := by decide +kernel
theorem dX5_firstOtherwise_54 : decode cX5_firstOtherwise 54 = .ok (.iaload, 1) := by decide +kernel
theorem dX5_firstOtherwise_55 : decode cX5_firstOtherwise 55 = .ok (.aload_n 0, 1) := by decide +kernel
theorem dX5_firstOtherwise_56 : decode cX5_firstOtherwise 56 = .ok (.getfield 10, 3) := by decide +kernel
theorem dX5_firstOtherwise_59 : decode cX5_firstOtherwise 59 = .ok (.getfield 51, 3) := by decide +kernel
theorem dX5_firstOtherwise_62 : decode cX5_firstOtherwise 62 = .ok (.aload_n 2, 1) := by decide +kernel
theorem dX5_firstOtherwise_63 : decode cX5_firstOtherwise 63 = .ok (.iload 6, 2) := by decide +kernel
theorem dX5_firstOtherwise_65 : decode cX5_firstOtherwise 65 = .ok (.iload 7, 2) := by decide +kernel
theorem dX5_firstOtherwise_67 : decode cX5_firstOtherwise 67 = .ok (.invokevirtual 325, 3) := by decide +kernel
theorem dX5_firstOtherwise_70 : decode cX5_firstOtherwise 70 = .ok (.l2i, 1) := by decide +kernel
theorem dX5_firstOtherwise_71 : decode cX5_firstOtherwise 71 = .ok (.if_icmp .eq 6, 3) := by decide +kernel
theorem dX5_firstOtherwise_74 : decode cX5_firstOtherwise 74 = .ok (.iload 5, 2) := by decide +kernel
theorem dX5_firstOtherwise_76 : decode cX5_firstOtherwise 76 = .ok (.ireturn, 1) := by decide +kernel
theorem dX5_firstOtherwise_77 : decode cX5_firstOtherwise 77 = .ok (.iinc 5 1, 3) := by decide +kernel
theorem dX5_firstOtherwise_80 : decode cX5_firstOtherwise 80 = .ok (.goto (-77), 3) := by decide +kernel
theorem dX5_firstOtherwise_83 : decode cX5_firstOtherwise 83 = .ok (.iconst (-1), 1) := by decide +kernel
theorem dX5_firstOtherwise_84 : decode cX5_firstOtherwise 84 = .ok (.ireturn, 1) := by decide +kernel
theorem dX5_replicasThatTell_0 : decode cX5_replicasThatTell 0 = .ok (.iconst 0, 1) := by decide +kernel
theorem dX5_replicasThatTell_1 : decode cX5_replicasThatTell 1 = .ok (.istore_n 3, 1) := by decide +kernel
theorem dX5_replicasThatTell_2 : decode cX5_replicasThatTell 2 = .ok (.iconst 0, 1) := by decide +kernel
theorem dX5_replicasThatTell_3 : decode cX5_replicasThatTell 3 = .ok (.istore 4, 2) := by decide +kernel
theorem dX5_replicasThatTell_5 : decode cX5_replicasThatTell 5 = .ok (.iload 4, 2) := by decide +kernel
theorem dX5_replicasThatTell_7 : decode cX5_replicasThatTell 7 = .ok (.iconst 4, 1) := by decide +kernel
theorem dX5_replicasThatTell_8 : decode cX5_replicasThatTell 8 = .ok (.if_icmp .ge 41, 3) := by decide +kernel
theorem dX5_replicasThatTell_11 : decode cX5_replicasThatTell 11 = .ok (.aload_n 0, 1) := by decide +kernel
theorem dX5_replicasThatTell_12 : decode cX5_replicasThatTell 12 = .ok (.aload_n 1, 1) := by decide +kernel
theorem dX5_replicasThatTell_13 : decode cX5_replicasThatTell 13 = .ok (.aload_n 0, 1) := by decide +kernel
theorem dX5_replicasThatTell_14 : decode cX5_replicasThatTell 14 = .ok (.getfield 10, 3) := by decide +kernel
theorem dX5_replicasThatTell_17 : decode cX5_replicasThatTell 17 = .ok (.getfield 68, 3) := by decide +kernel
theorem dX5_replicasThatTell_20 : decode cX5_replicasThatTell 20 = .ok (.iload 4, 2) := by decide +kernel
theorem dX5_replicasThatTell_22 : decode cX5_replicasThatTell 22 = .ok (.aaload, 1) := by decide +kernel
theorem dX5_replicasThatTell_23 : decode cX5_replicasThatTell 23 = .ok (.iload_n 2, 1) := by decide +kernel
theorem dX5_replicasThatTell_24 : decode cX5_replicasThatTell 24 = .ok (.aload_n 0, 1) := by decide +kernel
theorem dX5_replicasThatTell_25 : decode cX5_replicasThatTell 25 = .ok (.iload_n 2, 1) := by decide +kernel
theorem dX5_replicasThatTell_26 : decode cX5_replicasThatTell 26 = .ok (.invokevirtual 236, 3) := by decide +kernel
theorem dX5_replicasThatTell_29 : decode cX5_replicasThatTell 29 = .ok (.invokevirtual 239, 3) := by decide +kernel
theorem dX5_replicasThatTell_32 : decode cX5_replicasThatTell 32 = .ok (.iconst (-1), 1) := by decide +kernel
theorem dX5_replicasThatTell_33 : decode cX5_replicasThatTell 33 = .ok (.if_icmp .ne 10, 3) := by decide +kernel
theorem dX5_replicasThatTell_36 : decode cX5_replicasThatTell 36 = .ok (.iload_n 3, 1) := by decide +kernel
theorem dX5_replicasThatTell_37 : decode cX5_replicasThatTell 37 = .ok (.iconst 1, 1) := by decide +kernel
theorem dX5_replicasThatTell_38 : decode cX5_replicasThatTell 38 = .ok (.iload 4, 2) := by decide +kernel
theorem dX5_replicasThatTell_40 : decode cX5_replicasThatTell 40 = .ok (.ishl, 1) := by decide +kernel
theorem dX5_replicasThatTell_41 : decode cX5_replicasThatTell 41 = .ok (.ior, 1) := by decide +kernel
theorem dX5_replicasThatTell_42 : decode cX5_replicasThatTell 42 = .ok (.istore_n 3, 1) := by decide +kernel
theorem dX5_replicasThatTell_43 : decode cX5_replicasThatTell 43 = .ok (.iinc 4 1, 3) := by decide +kernel
theorem dX5_replicasThatTell_46 : decode cX5_replicasThatTell 46 = .ok (.goto (-41), 3) := by decide +kernel
theorem dX5_replicasThatTell_49 : decode cX5_replicasThatTell 49 = .ok (.iload_n 3, 1) := by decide +kernel
theorem dX5_replicasThatTell_50 : decode cX5_replicasThatTell 50 = .ok (.ireturn, 1) := by decide +kernel
theorem dX5_kindsThatTell_0 : decode cX5_kindsThatTell 0 = .ok (.iconst 0, 1) := by decide +kernel
theorem dX5_kindsThatTell_1 : decode cX5_kindsThatTell 1 = .ok (.istore 4, 2) := by decide +kernel
theorem dX5_kindsThatTell_3 : decode cX5_kindsThatTell 3 = .ok (.iconst 0, 1) := by decide +kernel
theorem dX5_kindsThatTell_4 : decode cX5_kindsThatTell 4 = .ok (.istore 5, 2) := by decide +kernel
theorem dX5_kindsThatTell_6 : decode cX5_kindsThatTell 6 = .ok (.iload 5, 2) := by decide +kernel
theorem dX5_kindsThatTell_8 : decode cX5_kindsThatTell 8 = .ok (.bipush 6, 2) := by decide +kernel
theorem dX5_kindsThatTell_10 : decode cX5_kindsThatTell 10 = .ok (.if_icmp .ge 39, 3) := by decide +kernel
theorem dX5_kindsThatTell_13 : decode cX5_kindsThatTell 13 = .ok (.aload_n 0, 1) := by decide +kernel
theorem dX5_kindsThatTell_14 : decode cX5_kindsThatTell 14 = .ok (.aload_n 1, 1) := by decide +kernel
theorem dX5_kindsThatTell_15 : decode cX5_kindsThatTell 15 = .ok (.aload_n 0, 1) := by decide +kernel
theorem dX5_kindsThatTell_16 : decode cX5_kindsThatTell 16 = .ok (.getfield 10, 3) := by decide +kernel
theorem dX5_kindsThatTell_19 : decode cX5_kindsThatTell 19 = .ok (.getfield 68, 3) := by decide +kernel
theorem dX5_kindsThatTell_22 : decode cX5_kindsThatTell 22 = .ok (.iload_n 2, 1) := by decide +kernel
theorem dX5_kindsThatTell_23 : decode cX5_kindsThatTell 23 = .ok (.aaload, 1) := by decide +kernel
theorem dX5_kindsThatTell_24 : decode cX5_kindsThatTell 24 = .ok (.iload_n 3, 1) := by decide +kernel
theorem dX5_kindsThatTell_25 : decode cX5_kindsThatTell 25 = .ok (.iload 5, 2) := by decide +kernel
theorem dX5_kindsThatTell_27 : decode cX5_kindsThatTell 27 = .ok (.invokevirtual 239, 3) := by decide +kernel
theorem dX5_kindsThatTell_30 : decode cX5_kindsThatTell 30 = .ok (.iconst (-1), 1) := by decide +kernel
theorem dX5_kindsThatTell_31 : decode cX5_kindsThatTell 31 = .ok (.if_icmp .ne 12, 3) := by decide +kernel
theorem dX5_kindsThatTell_34 : decode cX5_kindsThatTell 34 = .ok (.iload 4, 2) := by decide +kernel
theorem dX5_kindsThatTell_36 : decode cX5_kindsThatTell 36 = .ok (.iconst 1, 1) := by decide +kernel
theorem dX5_kindsThatTell_37 : decode cX5_kindsThatTell 37 = .ok (.iload 5, 2) := by decide +kernel
theorem dX5_kindsThatTell_39 : decode cX5_kindsThatTell 39 = .ok (.ishl, 1) := by decide +kernel
theorem dX5_kindsThatTell_40 : decode cX5_kindsThatTell 40 = .ok (.ior, 1) := by decide +kernel
theorem dX5_kindsThatTell_41 : decode cX5_kindsThatTell 41 = .ok (.istore 4, 2) := by decide +kernel
theorem dX5_kindsThatTell_43 : decode cX5_kindsThatTell 43 = .ok (.iinc 5 1, 3) := by decide +kernel
theorem dX5_kindsThatTell_46 : decode cX5_kindsThatTell 46 = .ok (.goto (-40), 3) := by decide +kernel
theorem dX5_kindsThatTell_49 : decode cX5_kindsThatTell 49 = .ok (.iload 4, 2) := by decide +kernel
theorem dX5_kindsThatTell_51 : decode cX5_kindsThatTell 51 = .ok (.ireturn, 1) := by decide +kernel
theorem dX5_messagesThatTell_0 : decode cX5_messagesThatTell 0 = .ok (.iconst 0, 1) := by decide +kernel
theorem dX5_messagesThatTell_1 : decode cX5_messagesThatTell 1 = .ok (.istore 4, 2) := by decide +kernel
theorem dX5_messagesThatTell_3 : decode cX5_messagesThatTell 3 = .ok (.aload_n 0, 1) := by decide +kernel
theorem dX5_messagesThatTell_4 : decode cX5_messagesThatTell 4 = .ok (.iload_n 2, 1) := by decide +kernel
theorem dX5_messagesThatTell_5 : decode cX5_messagesThatTell 5 = .ok (.invokevirtual 312, 3) := by decide +kernel
theorem dX5_messagesThatTell_8 : decode cX5_messagesThatTell 8 = .ok (.istore 5, 2) := by decide +kernel
theorem dX5_messagesThatTell_10 : decode cX5_messagesThatTell 10 = .ok (.iconst 0, 1) := by decide +kernel
theorem dX5_messagesThatTell_11 : decode cX5_messagesThatTell 11 = .ok (.istore 6, 2) := by decide +kernel
theorem dX5_messagesThatTell_13 : decode cX5_messagesThatTell 13 = .ok (.iload 6, 2) := by decide +kernel
theorem dX5_messagesThatTell_15 : decode cX5_messagesThatTell 15 = .ok (.aload_n 0, 1) := by decide +kernel
theorem dX5_messagesThatTell_16 : decode cX5_messagesThatTell 16 = .ok (.getfield 10, 3) := by decide +kernel
theorem dX5_messagesThatTell_19 : decode cX5_messagesThatTell 19 = .ok (.getfield 148, 3) := by decide +kernel
theorem dX5_messagesThatTell_22 : decode cX5_messagesThatTell 22 = .ok (.if_icmp .ge 57, 3) := by decide +kernel
theorem dX5_messagesThatTell_25 : decode cX5_messagesThatTell 25 = .ok (.iload 5, 2) := by decide +kernel
theorem dX5_messagesThatTell_27 : decode cX5_messagesThatTell 27 = .ok (.iload 6, 2) := by decide +kernel
theorem dX5_messagesThatTell_29 : decode cX5_messagesThatTell 29 = .ok (.iushr, 1) := by decide +kernel
theorem dX5_messagesThatTell_30 : decode cX5_messagesThatTell 30 = .ok (.iconst 1, 1) := by decide +kernel
theorem dX5_messagesThatTell_31 : decode cX5_messagesThatTell 31 = .ok (.iand, 1) := by decide +kernel
theorem dX5_messagesThatTell_32 : decode cX5_messagesThatTell 32 = .ok (.iconst 1, 1) := by decide +kernel
theorem dX5_messagesThatTell_33 : decode cX5_messagesThatTell 33 = .ok (.if_icmp .ne 40, 3) := by decide +kernel
theorem dX5_messagesThatTell_36 : decode cX5_messagesThatTell 36 = .ok (.aload_n 0, 1) := by decide +kernel
theorem dX5_messagesThatTell_37 : decode cX5_messagesThatTell 37 = .ok (.iload_n 2, 1) := by decide +kernel
theorem dX5_messagesThatTell_38 : decode cX5_messagesThatTell 38 = .ok (.iconst 1, 1) := by decide +kernel
theorem dX5_messagesThatTell_39 : decode cX5_messagesThatTell 39 = .ok (.iload 6, 2) := by decide +kernel
theorem dX5_messagesThatTell_41 : decode cX5_messagesThatTell 41 = .ok (.ishl, 1) := by decide +kernel
theorem dX5_messagesThatTell_42 : decode cX5_messagesThatTell 42 = .ok (.invokevirtual 315, 3) := by decide +kernel
theorem dX5_messagesThatTell_45 : decode cX5_messagesThatTell 45 = .ok (.aload_n 0, 1) := by decide +kernel
theorem dX5_messagesThatTell_46 : decode cX5_messagesThatTell 46 = .ok (.aload_n 1, 1) := by decide +kernel
theorem dX5_messagesThatTell_47 : decode cX5_messagesThatTell 47 = .ok (.aload_n 0, 1) := by decide +kernel
theorem dX5_messagesThatTell_48 : decode cX5_messagesThatTell 48 = .ok (.getfield 35, 3) := by decide +kernel
theorem dX5_messagesThatTell_51 : decode cX5_messagesThatTell 51 = .ok (.iload_n 3, 1) := by decide +kernel
theorem dX5_messagesThatTell_52 : decode cX5_messagesThatTell 52 = .ok (.aload_n 0, 1) := by decide +kernel
theorem dX5_messagesThatTell_53 : decode cX5_messagesThatTell 53 = .ok (.iload_n 3, 1) := by decide +kernel
theorem dX5_messagesThatTell_54 : decode cX5_messagesThatTell 54 = .ok (.invokevirtual 236, 3) := by decide +kernel
theorem dX5_messagesThatTell_57 : decode cX5_messagesThatTell 57 = .ok (.invokevirtual 239, 3) := by decide +kernel
theorem dX5_messagesThatTell_60 : decode cX5_messagesThatTell 60 = .ok (.iconst (-1), 1) := by decide +kernel
theorem dX5_messagesThatTell_61 : decode cX5_messagesThatTell 61 = .ok (.if_icmp .ne 12, 3) := by decide +kernel
theorem dX5_messagesThatTell_64 : decode cX5_messagesThatTell 64 = .ok (.iload 4, 2) := by decide +kernel
theorem dX5_messagesThatTell_66 : decode cX5_messagesThatTell 66 = .ok (.iconst 1, 1) := by decide +kernel
theorem dX5_messagesThatTell_67 : decode cX5_messagesThatTell 67 = .ok (.iload 6, 2) := by decide +kernel
theorem dX5_messagesThatTell_69 : decode cX5_messagesThatTell 69 = .ok (.ishl, 1) := by decide +kernel
theorem dX5_messagesThatTell_70 : decode cX5_messagesThatTell 70 = .ok (.ior, 1) := by decide +kernel
theorem dX5_messagesThatTell_71 : decode cX5_messagesThatTell 71 = .ok (.istore 4, 2) := by decide +kernel
theorem dX5_messagesThatTell_73 : decode cX5_messagesThatTell 73 = .ok (.iinc 6 1, 3) := by decide +kernel
theorem dX5_messagesThatTell_76 : decode cX5_messagesThatTell 76 = .ok (.goto (-63), 3) := by decide +kernel
theorem dX5_messagesThatTell_79 : decode cX5_messagesThatTell 79 = .ok (.iload 4, 2) := by decide +kernel
theorem dX5_messagesThatTell_81 : decode cX5_messagesThatTell 81 = .ok (.ireturn, 1) := by decide +kernel
theorem dX5_bitsOf_0 : decode cX5_bitsOf 0 = .ok (.fload_n 0, 1) := by decide +kernel
theorem dX5_bitsOf_1 : decode cX5_bitsOf 1 = .ok (.fconst 0, 1) := by decide +kernel
theorem dX5_bitsOf_2 : decode cX5_bitsOf 2 = .ok (.fcmp .l, 1) := by decide +kernel
theorem dX5_bitsOf_3 : decode cX5_bitsOf 3 = .ok (.ifCond .ne 5, 3) := by decide +kernel
theorem dX5_bitsOf_6 : decode cX5_bitsOf 6 = .ok (.iconst 0, 1) := by decide +kernel
theorem dX5_bitsOf_7 : decode cX5_bitsOf 7 = .ok (.ireturn, 1) := by decide +kernel
theorem dX5_bitsOf_8 : decode cX5_bitsOf 8 = .ok (.fload_n 0, 1) := by decide +kernel
theorem dX5_bitsOf_9 : decode cX5_bitsOf 9 = .ok (.fconst 0, 1) := by decide +kernel
theorem dX5_bitsOf_10 : decode cX5_bitsOf 10 = .ok (.fcmp .g, 1) := by decide +kernel
theorem dX5_bitsOf_11 : decode cX5_bitsOf 11 = .ok (.ifCond .ge 9, 3) := by decide +kernel
theorem dX5_bitsOf_14 : decode cX5_bitsOf 14 = .ok (.ldc_w 301, 3) := by decide +kernel
theorem dX5_bitsOf_17 : decode cX5_bitsOf 17 = .ok (.goto 4, 3) := by decide +kernel
theorem dX5_bitsOf_20 : decode cX5_bitsOf 20 = .ok (.iconst 0, 1) := by decide +kernel
theorem dX5_bitsOf_21 : decode cX5_bitsOf 21 = .ok (.istore_n 1, 1) := by decide +kernel
theorem dX5_bitsOf_22 : decode cX5_bitsOf 22 = .ok (.fload_n 0, 1) := by decide +kernel
theorem dX5_bitsOf_23 : decode cX5_bitsOf 23 = .ok (.fconst 0, 1) := by decide +kernel
theorem dX5_bitsOf_24 : decode cX5_bitsOf 24 = .ok (.fcmp .g, 1) := by decide +kernel
theorem dX5_bitsOf_25 : decode cX5_bitsOf 25 = .ok (.ifCond .ge 8, 3) := by decide +kernel
theorem dX5_bitsOf_28 : decode cX5_bitsOf 28 = .ok (.fload_n 0, 1) := by decide +kernel
theorem dX5_bitsOf_29 : decode cX5_bitsOf 29 = .ok (.fneg, 1) := by decide +kernel
theorem dX5_bitsOf_30 : decode cX5_bitsOf 30 = .ok (.goto 4, 3) := by decide +kernel
theorem dX5_bitsOf_33 : decode cX5_bitsOf 33 = .ok (.fload_n 0, 1) := by decide +kernel
theorem dX5_bitsOf_34 : decode cX5_bitsOf 34 = .ok (.fstore_n 2, 1) := by decide +kernel
theorem dX5_bitsOf_35 : decode cX5_bitsOf 35 = .ok (.bipush 127, 2) := by decide +kernel
theorem dX5_bitsOf_37 : decode cX5_bitsOf 37 = .ok (.istore_n 3, 1) := by decide +kernel
theorem dX5_bitsOf_38 : decode cX5_bitsOf 38 = .ok (.fload_n 2, 1) := by decide +kernel
theorem dX5_bitsOf_39 : decode cX5_bitsOf 39 = .ok (.fconst 2, 1) := by decide +kernel
theorem dX5_bitsOf_40 : decode cX5_bitsOf 40 = .ok (.fcmp .l, 1) := by decide +kernel
theorem dX5_bitsOf_41 : decode cX5_bitsOf 41 = .ok (.ifCond .lt 20, 3) := by decide +kernel
theorem dX5_bitsOf_44 : decode cX5_bitsOf 44 = .ok (.iload_n 3, 1) := by decide +kernel
theorem dX5_bitsOf_45 : decode cX5_bitsOf 45 = .ok (.sipush 254, 3) := by decide +kernel
theorem dX5_bitsOf_48 : decode cX5_bitsOf 48 = .ok (.if_icmp .ge 13, 3) := by decide +kernel
theorem dX5_bitsOf_51 : decode cX5_bitsOf 51 = .ok (.fload_n 2, 1) := by decide +kernel
theorem dX5_bitsOf_52 : decode cX5_bitsOf 52 = .ok (.fconst 2, 1) := by decide +kernel
theorem dX5_bitsOf_53 : decode cX5_bitsOf 53 = .ok (.fdiv, 1) := by decide +kernel
theorem dX5_bitsOf_54 : decode cX5_bitsOf 54 = .ok (.fstore_n 2, 1) := by decide +kernel
theorem dX5_bitsOf_55 : decode cX5_bitsOf 55 = .ok (.iinc 3 1, 3) := by decide +kernel
theorem dX5_bitsOf_58 : decode cX5_bitsOf 58 = .ok (.goto (-20), 3) := by decide +kernel
theorem dX5_bitsOf_61 : decode cX5_bitsOf 61 = .ok (.fload_n 2, 1) := by decide +kernel
theorem dX5_bitsOf_62 : decode cX5_bitsOf 62 = .ok (.fconst 1, 1) := by decide +kernel
theorem dX5_bitsOf_63 : decode cX5_bitsOf 63 = .ok (.fcmp .g, 1) := by decide +kernel
theorem dX5_bitsOf_64 : decode cX5_bitsOf 64 = .ok (.ifCond .ge 18, 3) := by decide +kernel
theorem dX5_bitsOf_67 : decode cX5_bitsOf 67 = .ok (.iload_n 3, 1) := by decide +kernel
theorem dX5_bitsOf_68 : decode cX5_bitsOf 68 = .ok (.iconst 1, 1) := by decide +kernel
theorem dX5_bitsOf_69 : decode cX5_bitsOf 69 = .ok (.if_icmp .le 13, 3) := by decide +kernel
theorem dX5_bitsOf_72 : decode cX5_bitsOf 72 = .ok (.fload_n 2, 1) := by decide +kernel
theorem dX5_bitsOf_73 : decode cX5_bitsOf 73 = .ok (.fconst 2, 1) := by decide +kernel
theorem dX5_bitsOf_74 : decode cX5_bitsOf 74 = .ok (.fmul, 1) := by decide +kernel
theorem dX5_bitsOf_75 : decode cX5_bitsOf 75 = .ok (.fstore_n 2, 1) := by decide +kernel
theorem dX5_bitsOf_76 : decode cX5_bitsOf 76 = .ok (.iinc 3 (-1), 3) := by decide +kernel
theorem dX5_bitsOf_79 : decode cX5_bitsOf 79 = .ok (.goto (-18), 3) := by decide +kernel
theorem dX5_bitsOf_82 : decode cX5_bitsOf 82 = .ok (.iload_n 1, 1) := by decide +kernel
theorem dX5_bitsOf_83 : decode cX5_bitsOf 83 = .ok (.iload_n 3, 1) := by decide +kernel
theorem dX5_bitsOf_84 : decode cX5_bitsOf 84 = .ok (.bipush 23, 2) := by decide +kernel
theorem dX5_bitsOf_86 : decode cX5_bitsOf 86 = .ok (.ishl, 1) := by decide +kernel
theorem dX5_bitsOf_87 : decode cX5_bitsOf 87 = .ok (.ior, 1) := by decide +kernel
theorem dX5_bitsOf_88 : decode cX5_bitsOf 88 = .ok (.fload_n 2, 1) := by decide +kernel
theorem dX5_bitsOf_89 : decode cX5_bitsOf 89 = .ok (.fconst 1, 1) := by decide +kernel
theorem dX5_bitsOf_90 : decode cX5_bitsOf 90 = .ok (.fsub, 1) := by decide +kernel
theorem dX5_bitsOf_91 : decode cX5_bitsOf 91 = .ok (.ldc_w 329, 3) := by decide +kernel
theorem dX5_bitsOf_94 : decode cX5_bitsOf 94 = .ok (.fmul, 1) := by decide +kernel
theorem dX5_bitsOf_95 : decode cX5_bitsOf 95 = .ok (.f2i, 1) := by decide +kernel
theorem dX5_bitsOf_96 : decode cX5_bitsOf 96 = .ok (.ior, 1) := by decide +kernel
theorem dX5_bitsOf_97 : decode cX5_bitsOf 97 = .ok (.ireturn, 1) := by decide +kernel
theorem dX6_init_0 : decode cX6_init 0 = .ok (.aload_n 0, 1) := by decide +kernel
theorem dX6_init_1 : decode cX6_init 1 = .ok (.invokespecial 1, 3) := by decide +kernel
theorem dX6_init_4 : decode cX6_init 4 = .ok (.aload_n 0, 1) := by decide +kernel
theorem dX6_init_5 : decode cX6_init 5 = .ok (.iconst 4, 1) := by decide +kernel
theorem dX6_init_6 : decode cX6_init 6 = .ok (.newarray .int, 2) := by decide +kernel
theorem dX6_init_8 : decode cX6_init 8 = .ok (.putfield 9, 3) := by decide +kernel
theorem dX6_init_11 : decode cX6_init 11 = .ok (.aload_n 0, 1) := by decide +kernel
theorem dX6_init_12 : decode cX6_init 12 = .ok (.iconst 4, 1) := by decide +kernel
theorem dX6_init_13 : decode cX6_init 13 = .ok (.bipush 31, 2) := by decide +kernel
theorem dX6_init_15 : decode cX6_init 15 = .ok (.multianewarray 13 2, 4) := by decide +kernel
theorem dX6_init_19 : decode cX6_init 19 = .ok (.putfield 15, 3) := by decide +kernel
theorem dX6_init_22 : decode cX6_init 22 = .ok (.aload_n 0, 1) := by decide +kernel
theorem dX6_init_23 : decode cX6_init 23 = .ok (.iconst 4, 1) := by decide +kernel
theorem dX6_init_24 : decode cX6_init 24 = .ok (.bipush 31, 2) := by decide +kernel
theorem dX6_init_26 : decode cX6_init 26 = .ok (.multianewarray 13 2, 4) := by decide +kernel
theorem dX6_init_30 : decode cX6_init 30 = .ok (.putfield 18, 3) := by decide +kernel
theorem dX6_init_33 : decode cX6_init 33 = .ok (.aload_n 0, 1) := by decide +kernel
theorem dX6_init_34 : decode cX6_init 34 = .ok (.iconst 4, 1) := by decide +kernel
theorem dX6_init_35 : decode cX6_init 35 = .ok (.bipush 31, 2) := by decide +kernel
theorem dX6_init_37 : decode cX6_init 37 = .ok (.multianewarray 13 2, 4) := by decide +kernel
theorem dX6_init_41 : decode cX6_init 41 = .ok (.putfield 21, 3) := by decide +kernel
theorem dX6_init_44 : decode cX6_init 44 = .ok (.aload_n 0, 1) := by decide +kernel
theorem dX6_init_45 : decode cX6_init 45 = .ok (.bipush 12, 2) := by decide +kernel
theorem dX6_init_47 : decode cX6_init 47 = .ok (.newarray .int, 2) := by decide +kernel
theorem dX6_init_49 : decode cX6_init 49 = .ok (.putfield 24, 3) := by decide +kernel
theorem dX6_init_52 : decode cX6_init 52 = .ok (.aload_n 0, 1) := by decide +kernel
theorem dX6_init_53 : decode cX6_init 53 = .ok (.bipush 33, 2) := by decide +kernel
theorem dX6_init_55 : decode cX6_init 55 = .ok (.iconst 4, 1) := by decide +kernel
theorem dX6_init_56 : decode cX6_init 56 = .ok (.multianewarray 13 2, 4) := by decide +kernel
theorem dX6_init_60 : decode cX6_init 60 = .ok (.putfield 27, 3) := by decide +kernel
theorem dX6_init_63 : decode cX6_init 63 = .ok (.aload_n 0, 1) := by decide +kernel
theorem dX6_init_64 : decode cX6_init 64 = .ok (.bipush 33, 2) := by decide +kernel
theorem dX6_init_66 : decode cX6_init 66 = .ok (.iconst 4, 1) := by decide +kernel
theorem dX6_init_67 : decode cX6_init 67 = .ok (.multianewarray 13 2, 4) := by decide +kernel
theorem dX6_init_71 : decode cX6_init 71 = .ok (.putfield 30, 3) := by decide +kernel
theorem dX6_init_74 : decode cX6_init 74 = .ok (.aload_n 0, 1) := by decide +kernel
theorem dX6_init_75 : decode cX6_init 75 = .ok (.bipush 16, 2) := by decide +kernel
theorem dX6_init_77 : decode cX6_init 77 = .ok (.iconst 4, 1) := by decide +kernel
theorem dX6_init_78 : decode cX6_init 78 = .ok (.multianewarray 13 2, 4) := by decide +kernel
theorem dX6_init_82 : decode cX6_init 82 = .ok (.putfield 33, 3) := by decide +kernel
theorem dX6_init_85 : decode cX6_init 85 = .ok (.aload_n 0, 1) := by decide +kernel
theorem dX6_init_86 : decode cX6_init 86 = .ok (.bipush 6, 2) := by decide +kernel
theorem dX6_init_88 : decode cX6_init 88 = .ok (.newarray .int, 2) := by decide +kernel
theorem dX6_init_90 : decode cX6_init 90 = .ok (.putfield 36, 3) := by decide +kernel
theorem dX6_init_93 : decode cX6_init 93 = .ok (.aload_n 0, 1) := by decide +kernel
theorem dX6_init_94 : decode cX6_init 94 = .ok (.bipush 6, 2) := by decide +kernel
theorem dX6_init_96 : decode cX6_init 96 = .ok (.newarray .int, 2) := by decide +kernel
theorem dX6_init_98 : decode cX6_init 98 = .ok (.putfield 39, 3) := by decide +kernel
theorem dX6_init_101 : decode cX6_init 101 = .ok (.aload_n 0, 1) := by decide +kernel
theorem dX6_init_102 : decode cX6_init 102 = .ok (.bipush 6, 2) := by decide +kernel
theorem dX6_init_104 : decode cX6_init 104 = .ok (.iconst 4, 1) := by decide +kernel
theorem dX6_init_105 : decode cX6_init 105 = .ok (.multianewarray 13 2, 4) := by decide +kernel
theorem dX6_init_109 : decode cX6_init 109 = .ok (.putfield 42, 3) := by decide +kernel
theorem dX6_init_112 : decode cX6_init 112 = .ok (.aload_n 0, 1) := by decide +kernel
theorem dX6_init_113 : decode cX6_init 113 = .ok (.iconst 4, 1) := by decide +kernel
theorem dX6_init_114 : decode cX6_init 114 = .ok (.newarray .int, 2) := by decide +kernel
theorem dX6_init_116 : decode cX6_init 116 = .ok (.putfield 45, 3) := by decide +kernel
theorem dX6_init_119 : decode cX6_init 119 = .ok (.aload_n 0, 1) := by decide +kernel
theorem dX6_init_120 : decode cX6_init 120 = .ok (.bipush 12, 2) := by decide +kernel
theorem dX6_init_122 : decode cX6_init 122 = .ok (.newarray .int, 2) := by decide +kernel
theorem dX6_init_124 : decode cX6_init 124 = .ok (.putfield 48, 3) := by decide +kernel
theorem dX6_init_127 : decode cX6_init 127 = .ok (.aload_n 0, 1) := by decide +kernel
theorem dX6_init_128 : decode cX6_init 128 = .ok (.bipush 6, 2) := by decide +kernel
theorem dX6_init_130 : decode cX6_init 130 = .ok (.newarray .int, 2) := by decide +kernel
theorem dX6_init_132 : decode cX6_init 132 = .ok (.putfield 51, 3) := by decide +kernel
theorem dX6_init_135 : decode cX6_init 135 = .ok (.aload_n 0, 1) := by decide +kernel
theorem dX6_init_136 : decode cX6_init 136 = .ok (.bipush 6, 2) := by decide +kernel
theorem dX6_init_138 : decode cX6_init 138 = .ok (.newarray .int, 2) := by decide +kernel
theorem dX6_init_140 : decode cX6_init 140 = .ok (.putfield 54, 3) := by decide +kernel
theorem dX6_init_143 : decode cX6_init 143 = .ok (.aload_n 0, 1) := by decide +kernel
theorem dX6_init_144 : decode cX6_init 144 = .ok (.bipush 12, 2) := by decide +kernel
theorem dX6_init_146 : decode cX6_init 146 = .ok (.bipush 31, 2) := by decide +kernel
theorem dX6_init_148 : decode cX6_init 148 = .ok (.multianewarray 13 2, 4) := by decide +kernel
theorem dX6_init_152 : decode cX6_init 152 = .ok (.putfield 57, 3) := by decide +kernel
theorem dX6_init_155 : decode cX6_init 155 = .ok (.aload_n 0, 1) := by decide +kernel
theorem dX6_init_156 : decode cX6_init 156 = .ok (.bipush 33, 2) := by decide +kernel
theorem dX6_init_158 : decode cX6_init 158 = .ok (.iconst 4, 1) := by decide +kernel
theorem dX6_init_159 : decode cX6_init 159 = .ok (.multianewarray 13 2, 4) := by decide +kernel
theorem dX6_init_163 : decode cX6_init 163 = .ok (.putfield 60, 3) := by decide +kernel
theorem dX6_init_166 : decode cX6_init 166 = .ok (.aload_n 0, 1) := by decide +kernel
theorem dX6_init_167 : decode cX6_init 167 = .ok (.bipush 33, 2) := by decide +kernel
theorem dX6_init_169 : decode cX6_init 169 = .ok (.iconst 4, 1) := by decide +kernel
theorem dX6_init_170 : decode cX6_init 170 = .ok (.multianewarray 13 2, 4) := by decide +kernel
theorem dX6_init_174 : decode cX6_init 174 = .ok (.putfield 63, 3) := by decide +kernel
theorem dX6_init_177 : decode cX6_init 177 = .ok (.aload_n 0, 1) := by decide +kernel
theorem dX6_init_178 : decode cX6_init 178 = .ok (.bipush 16, 2) := by decide +kernel
theorem dX6_init_180 : decode cX6_init 180 = .ok (.iconst 4, 1) := by decide +kernel
theorem dX6_init_181 : decode cX6_init 181 = .ok (.multianewarray 13 2, 4) := by decide +kernel
theorem dX6_init_185 : decode cX6_init 185 = .ok (.putfield 66, 3) := by decide +kernel
theorem dX6_init_188 : decode cX6_init 188 = .ok (.aload_n 0, 1) := by decide +kernel
theorem dX6_init_189 : decode cX6_init 189 = .ok (.bipush 6, 2) := by decide +kernel
theorem dX6_init_191 : decode cX6_init 191 = .ok (.iconst 4, 1) := by decide +kernel
theorem dX6_init_192 : decode cX6_init 192 = .ok (.multianewarray 13 2, 4) := by decide +kernel
theorem dX6_init_196 : decode cX6_init 196 = .ok (.putfield 69, 3) := by decide +kernel
theorem dX6_init_199 : decode cX6_init 199 = .ok (.aload_n 0, 1) := by decide +kernel
theorem dX6_init_200 : decode cX6_init 200 = .ok (.iconst 4, 1) := by decide +kernel
theorem dX6_init_201 : decode cX6_init 201 = .ok (.newarray .int, 2) := by decide +kernel
theorem dX6_init_203 : decode cX6_init 203 = .ok (.dup, 1) := by decide +kernel
theorem dX6_init_204 : decode cX6_init 204 = .ok (.iconst 0, 1) := by decide +kernel
theorem dX6_init_205 : decode cX6_init 205 = .ok (.iconst (-1), 1) := by decide +kernel
theorem dX6_init_206 : decode cX6_init 206 = .ok (.iastore, 1) := by decide +kernel
theorem dX6_init_207 : decode cX6_init 207 = .ok (.dup, 1) := by decide +kernel
theorem dX6_init_208 : decode cX6_init 208 = .ok (.iconst 1, 1) := by decide +kernel
theorem dX6_init_209 : decode cX6_init 209 = .ok (.iconst (-1), 1) := by decide +kernel
theorem dX6_init_210 : decode cX6_init 210 = .ok (.iastore, 1) := by decide +kernel
theorem dX6_init_211 : decode cX6_init 211 = .ok (.dup, 1) := by decide +kernel
theorem dX6_init_212 : decode cX6_init 212 = .ok (.iconst 2, 1) := by decide +kernel
theorem dX6_init_213 : decode cX6_init 213 = .ok (.iconst (-1), 1) := by decide +kernel
theorem dX6_init_214 : decode cX6_init 214 = .ok (.iastore, 1) := by decide +kernel
theorem dX6_init_215 : decode cX6_init 215 = .ok (.dup, 1) := by decide +kernel
theorem dX6_init_216 : decode cX6_init 216 = .ok (.iconst 3, 1) := by decide +kernel
theorem dX6_init_217 : decode cX6_init 217 = .ok (.iconst (-1), 1) := by decide +kernel
theorem dX6_init_218 : decode cX6_init 218 = .ok (.iastore, 1) := by decide +kernel
theorem dX6_init_219 : decode cX6_init 219 = .ok (.putfield 72, 3) := by decide +kernel
theorem dX6_init_222 : decode cX6_init 222 = .ok (.aload_n 0, 1) := by decide +kernel
theorem dX6_init_223 : decode cX6_init 223 = .ok (.iconst 4, 1) := by decide +kernel
theorem dX6_init_224 : decode cX6_init 224 = .ok (.newarray .int, 2) := by decide +kernel
theorem dX6_init_226 : decode cX6_init 226 = .ok (.putfield 75, 3) := by decide +kernel
theorem dX6_init_229 : decode cX6_init 229 = .ok (.aload_n 0, 1) := by decide +kernel
theorem dX6_init_230 : decode cX6_init 230 = .ok (.iconst 4, 1) := by decide +kernel
theorem dX6_init_231 : decode cX6_init 231 = .ok (.bipush 40, 2) := by decide +kernel
theorem dX6_init_233 : decode cX6_init 233 = .ok (.multianewarray 13 2, 4) := by decide +kernel
theorem dX6_init_237 : decode cX6_init 237 = .ok (.putfield 78, 3) := by decide +kernel
theorem dX6_init_240 : decode cX6_init 240 = .ok (.aload_n 0, 1) := by decide +kernel
theorem dX6_init_241 : decode cX6_init 241 = .ok (.bipush 40, 2) := by decide +kernel
theorem dX6_init_243 : decode cX6_init 243 = .ok (.newarray .int, 2) := by decide +kernel
theorem dX6_init_245 : decode cX6_init 245 = .ok (.putfield 81, 3) := by decide +kernel
theorem dX6_init_248 : decode cX6_init 248 = .ok (.return_, 1) := by decide +kernel
theorem dX6_in_0 : decode cX6_in 0 = .ok (.lload_n 0, 1) := by decide +kernel
theorem dX6_in_1 : decode cX6_in 1 = .ok (.lload_n 2, 1) := by decide +kernel
theorem dX6_in_2 : decode cX6_in 2 = .ok (.lcmp, 1) := by decide +kernel
theorem dX6_in_3 : decode cX6_in 3 = .ok (.ifCond .lt 14, 3) := by decide +kernel
theorem dX6_in_6 : decode cX6_in 6 = .ok (.lload_n 0, 1) := by decide +kernel
theorem dX6_in_7 : decode cX6_in 7 = .ok (.lload 4, 2) := by decide +kernel
theorem dX6_in_9 : decode cX6_in 9 = .ok (.lcmp, 1) := by decide +kernel
theorem dX6_in_10 : decode cX6_in 10 = .ok (.ifCond .gt 7, 3) := by decide +kernel
theorem dX6_in_13 : decode cX6_in 13 = .ok (.iconst 1, 1) := by decide +kernel
theorem dX6_in_14 : decode cX6_in 14 = .ok (.goto 4, 3) := by decide +kernel
theorem dX6_in_17 : decode cX6_in 17 = .ok (.iconst 0, 1) := by decide +kernel
theorem dX6_in_18 : decode cX6_in 18 = .ok (.ireturn, 1) := by decide +kernel
theorem dX6_isReplica_0 : decode cX6_isReplica 0 = .ok (.iload_n 0, 1) := by decide +kernel
theorem dX6_isReplica_1 : decode cX6_isReplica 1 = .ok (.i2l, 1) := by decide +kernel
theorem dX6_isReplica_2 : decode cX6_isReplica 2 = .ok (.lconst 0, 1) := by decide +kernel
theorem dX6_isReplica_3 : decode cX6_isReplica 3 = .ok (.ldc2_w 84, 3) := by decide +kernel
theorem dX6_isReplica_6 : decode cX6_isReplica 6 = .ok (.invokestatic 86, 3) := by decide +kernel
theorem dX6_isReplica_9 : decode cX6_isReplica 9 = .ok (.ireturn, 1) := by decide +kernel
theorem dX6_isObject_0 : decode cX6_isObject 0 = .ok (.iload_n 0, 1) := by decide +kernel
theorem dX6_isObject_1 : decode cX6_isObject 1 = .ok (.i2l, 1) := by decide +kernel
theorem dX6_isObject_2 : decode cX6_isObject 2 = .ok (.lconst 0, 1) := by decide +kernel
theorem dX6_isObject_3 : decode cX6_isObject 3 = .ok (.ldc2_w 90, 3) := by decide +kernel
theorem dX6_isObject_6 : decode cX6_isObject 6 = .ok (.invokestatic 86, 3) := by decide +kernel
theorem dX6_isObject_9 : decode cX6_isObject 9 = .ok (.ifCond .eq 19, 3) := by decide +kernel
theorem dX6_isObject_12 : decode cX6_isObject 12 = .ok (.iload_n 1, 1) := by decide +kernel
theorem dX6_isObject_13 : decode cX6_isObject 13 = .ok (.i2l, 1) := by decide +kernel
theorem dX6_isObject_14 : decode cX6_isObject 14 = .ok (.lconst 0, 1) := by decide +kernel
theorem dX6_isObject_15 : decode cX6_isObject 15 = .ok (.ldc2_w 84, 3) := by decide +kernel
theorem dX6_isObject_18 : decode cX6_isObject 18 = .ok (.invokestatic 86, 3) := by decide +kernel
theorem dX6_isObject_21 : decode cX6_isObject 21 = .ok (.ifCond .eq 7, 3) := by decide +kernel
theorem dX6_isObject_24 : decode cX6_isObject 24 = .ok (.iconst 1, 1) := by decide +kernel
theorem dX6_isObject_25 : decode cX6_isObject 25 = .ok (.goto 4, 3) := by decide +kernel
theorem dX6_isObject_28 : decode cX6_isObject 28 = .ok (.iconst 0, 1) := by decide +kernel
theorem dX6_isObject_29 : decode cX6_isObject 29 = .ok (.ireturn, 1) := by decide +kernel
theorem dX6_isLetter_0 : decode cX6_isLetter 0 = .ok (.iload_n 1, 1) := by decide +kernel
theorem dX6_isLetter_1 : decode cX6_isLetter 1 = .ok (.i2l, 1) := by decide +kernel
theorem dX6_isLetter_2 : decode cX6_isLetter 2 = .ok (.lconst 0, 1) := by decide +kernel
theorem dX6_isLetter_3 : decode cX6_isLetter 3 = .ok (.aload_n 0, 1) := by decide +kernel
theorem dX6_isLetter_4 : decode cX6_isLetter 4 = .ok (.getfield 92, 3) := by decide +kernel
theorem dX6_isLetter_7 : decode cX6_isLetter 7 = .ok (.iconst 1, 1) := by decide +kernel
theorem dX6_isLetter_8 : decode cX6_isLetter 8 = .ok (.isub, 1) := by decide +kernel
theorem dX6_isLetter_9 : decode cX6_isLetter 9 = .ok (.i2l, 1) := by decide +kernel
theorem dX6_isLetter_10 : decode cX6_isLetter 10 = .ok (.invokestatic 86, 3) := by decide +kernel
theorem dX6_isLetter_13 : decode cX6_isLetter 13 = .ok (.ireturn, 1) := by decide +kernel
theorem dX6_asLong_0 : decode cX6_asLong 0 = .ok (.iload_n 0, 1) := by decide +kernel
theorem dX6_asLong_1 : decode cX6_asLong 1 = .ok (.i2l, 1) := by decide +kernel
theorem dX6_asLong_2 : decode cX6_asLong 2 = .ok (.ldc2_w 96, 3) := by decide +kernel
theorem dX6_asLong_5 : decode cX6_asLong 5 = .ok (.lsub, 1) := by decide +kernel
theorem dX6_asLong_6 : decode cX6_asLong 6 = .ok (.lreturn, 1) := by decide +kernel
theorem dX6_clear_0 : decode cX6_clear 0 = .ok (.iconst 0, 1) := by decide +kernel
theorem dX6_clear_1 : decode cX6_clear 1 = .ok (.istore_n 2, 1) := by decide +kernel
theorem dX6_clear_2 : decode cX6_clear 2 = .ok (.iload_n 2, 1) := by decide +kernel
theorem dX6_clear_3 : decode cX6_clear 3 = .ok (.iconst 4, 1) := by decide +kernel
theorem dX6_clear_4 : decode cX6_clear 4 = .ok (.if_icmp .ge 27, 3) := by decide +kernel
theorem dX6_clear_7 : decode cX6_clear 7 = .ok (.aload_n 0, 1) := by decide +kernel
theorem dX6_clear_8 : decode cX6_clear 8 = .ok (.getfield 27, 3) := by decide +kernel
theorem dX6_clear_11 : decode cX6_clear 11 = .ok (.iload_n 1, 1) := by decide +kernel
theorem dX6_clear_12 : decode cX6_clear 12 = .ok (.aaload, 1) := by decide +kernel
theorem dX6_clear_13 : decode cX6_clear 13 = .ok (.iload_n 2, 1) := by decide +kernel
theorem dX6_clear_14 : decode cX6_clear 14 = .ok (.iconst 0, 1) := by decide +kernel
theorem dX6_clear_15 : decode cX6_clear 15 = .ok (.iastore, 1) := by decide +kernel
theorem dX6_clear_16 : decode cX6_clear 16 = .ok (.aload_n 0, 1) := by decide +kernel
theorem dX6_clear_17 : decode cX6_clear 17 = .ok (.getfield 30, 3) := by decide +kernel
theorem dX6_clear_20 : decode cX6_clear 20 = .ok (.iload_n 1, 1) := by decide +kernel
theorem dX6_clear_21 : decode cX6_clear 21 = .ok (.aaload, 1) := by decide +kernel
theorem dX6_clear_22 : decode cX6_clear 22 = .ok (.iload_n 2, 1) := by decide +kernel
theorem dX6_clear_23 : decode cX6_clear 23 = .ok (.iconst 0, 1) := by decide +kernel
theorem dX6_clear_24 : decode cX6_clear 24 = .ok (.iastore, 1) := by decide +kernel
theorem dX6_clear_25 : decode cX6_clear 25 = .ok (.iinc 2 1, 3) := by decide +kernel
theorem dX6_clear_28 : decode cX6_clear 28 = .ok (.goto (-26), 3) := by decide +kernel
theorem dX6_clear_31 : decode cX6_clear 31 = .ok (.return_, 1) := by decide +kernel
theorem dX6_again_0 : decode cX6_again 0 = .ok (.aload_n 0, 1) := by decide +kernel
theorem dX6_again_1 : decode cX6_again 1 = .ok (.getfield 27, 3) := by decide +kernel
theorem dX6_again_4 : decode cX6_again 4 = .ok (.iload_n 1, 1) := by decide +kernel
theorem dX6_again_5 : decode cX6_again 5 = .ok (.aaload, 1) := by decide +kernel
theorem dX6_again_6 : decode cX6_again 6 = .ok (.iconst 0, 1) := by decide +kernel
theorem dX6_again_7 : decode cX6_again 7 = .ok (.aload_n 0, 1) := by decide +kernel
theorem dX6_again_8 : decode cX6_again 8 = .ok (.getfield 27, 3) := by decide +kernel
theorem dX6_again_11 : decode cX6_again 11 = .ok (.iload_n 2, 1) := by decide +kernel
theorem dX6_again_12 : decode cX6_again 12 = .ok (.aaload, 1) := by decide +kernel
theorem dX6_again_13 : decode cX6_again 13 = .ok (.iconst 0, 1) := by decide +kernel
theorem dX6_again_14 : decode cX6_again 14 = .ok (.iconst 4, 1) := by decide +kernel
theorem dX6_again_15 : decode cX6_again 15 = .ok (.invokestatic 98, 3) := by decide +kernel
theorem dX6_again_18 : decode cX6_again 18 = .ok (.aload_n 0, 1) := by decide +kernel
theorem dX6_again_19 : decode cX6_again 19 = .ok (.getfield 30, 3) := by decide +kernel
theorem dX6_again_22 : decode cX6_again 22 = .ok (.iload_n 1, 1) := by decide +kernel
theorem dX6_again_23 : decode cX6_again 23 = .ok (.aaload, 1) := by decide +kernel
theorem dX6_again_24 : decode cX6_again 24 = .ok (.iconst 0, 1) := by decide +kernel
theorem dX6_again_25 : decode cX6_again 25 = .ok (.aload_n 0, 1) := by decide +kernel
theorem dX6_again_26 : decode cX6_again 26 = .ok (.getfield 30, 3) := by decide +kernel
theorem dX6_again_29 : decode cX6_again 29 = .ok (.iload_n 2, 1) := by decide +kernel
theorem dX6_again_30 : decode cX6_again 30 = .ok (.aaload, 1) := by decide +kernel
theorem dX6_again_31 : decode cX6_again 31 = .ok (.iconst 0, 1) := by decide +kernel
theorem dX6_again_32 : decode cX6_again 32 = .ok (.iconst 4, 1) := by decide +kernel
theorem dX6_again_33 : decode cX6_again 33 = .ok (.invokestatic 98, 3) := by decide +kernel
theorem dX6_again_36 : decode cX6_again 36 = .ok (.return_, 1) := by decide +kernel
theorem dX6_join_0 : decode cX6_join 0 = .ok (.iconst 0, 1) := by decide +kernel
theorem dX6_join_1 : decode cX6_join 1 = .ok (.istore_n 3, 1) := by decide +kernel
theorem dX6_join_2 : decode cX6_join 2 = .ok (.iload_n 3, 1) := by decide +kernel
theorem dX6_join_3 : decode cX6_join 3 = .ok (.iconst 4, 1) := by decide +kernel
theorem dX6_join_4 : decode cX6_join 4 = .ok (.if_icmp .ge 89, 3) := by decide +kernel
theorem dX6_join_7 : decode cX6_join 7 = .ok (.aload_n 0, 1) := by decide +kernel
theorem dX6_join_8 : decode cX6_join 8 = .ok (.getfield 30, 3) := by decide +kernel
theorem dX6_join_11 : decode cX6_join 11 = .ok (.iload_n 1, 1) := by decide +kernel
theorem dX6_join_12 : decode cX6_join 12 = .ok (.aaload, 1) := by decide +kernel
theorem dX6_join_13 : decode cX6_join 13 = .ok (.iload_n 3, 1) := by decide +kernel
theorem dX6_join_14 : decode cX6_join 14 = .ok (.iaload, 1) := by decide +kernel
theorem dX6_join_15 : decode cX6_join 15 = .ok (.istore 4, 2) := by decide +kernel
theorem dX6_join_17 : decode cX6_join 17 = .ok (.aload_n 0, 1) := by decide +kernel
theorem dX6_join_18 : decode cX6_join 18 = .ok (.getfield 30, 3) := by decide +kernel
theorem dX6_join_21 : decode cX6_join 21 = .ok (.iload_n 2, 1) := by decide +kernel
theorem dX6_join_22 : decode cX6_join 22 = .ok (.aaload, 1) := by decide +kernel
theorem dX6_join_23 : decode cX6_join 23 = .ok (.iload_n 3, 1) := by decide +kernel
theorem dX6_join_24 : decode cX6_join 24 = .ok (.iaload, 1) := by decide +kernel
theorem dX6_join_25 : decode cX6_join 25 = .ok (.istore 5, 2) := by decide +kernel
theorem dX6_join_27 : decode cX6_join 27 = .ok (.aload_n 0, 1) := by decide +kernel
theorem dX6_join_28 : decode cX6_join 28 = .ok (.getfield 30, 3) := by decide +kernel
theorem dX6_join_31 : decode cX6_join 31 = .ok (.iload_n 1, 1) := by decide +kernel
theorem dX6_join_32 : decode cX6_join 32 = .ok (.aaload, 1) := by decide +kernel
theorem dX6_join_33 : decode cX6_join 33 = .ok (.iload_n 3, 1) := by decide +kernel
theorem dX6_join_34 : decode cX6_join 34 = .ok (.iload 4, 2) := by decide +kernel
theorem dX6_join_36 : decode cX6_join 36 = .ok (.iload 5, 2) := by decide +kernel
theorem dX6_join_38 : decode cX6_join 38 = .ok (.iand, 1) := by decide +kernel
theorem dX6_join_39 : decode cX6_join 39 = .ok (.iload 4, 2) := by decide +kernel
theorem dX6_join_41 : decode cX6_join 41 = .ok (.aload_n 0, 1) := by decide +kernel
theorem dX6_join_42 : decode cX6_join 42 = .ok (.getfield 27, 3) := by decide +kernel
theorem dX6_join_45 : decode cX6_join 45 = .ok (.iload_n 2, 1) := by decide +kernel
theorem dX6_join_46 : decode cX6_join 46 = .ok (.aaload, 1) := by decide +kernel
theorem dX6_join_47 : decode cX6_join 47 = .ok (.iload_n 3, 1) := by decide +kernel
theorem dX6_join_48 : decode cX6_join 48 = .ok (.iaload, 1) := by decide +kernel
theorem dX6_join_49 : decode cX6_join 49 = .ok (.iconst (-1), 1) := by decide +kernel
theorem dX6_join_50 : decode cX6_join 50 = .ok (.ixor, 1) := by decide +kernel
theorem dX6_join_51 : decode cX6_join 51 = .ok (.iand, 1) := by decide +kernel
theorem dX6_join_52 : decode cX6_join 52 = .ok (.ior, 1) := by decide +kernel
theorem dX6_join_53 : decode cX6_join 53 = .ok (.iload 5, 2) := by decide +kernel
theorem dX6_join_55 : decode cX6_join 55 = .ok (.aload_n 0, 1) := by decide +kernel
theorem dX6_join_56 : decode cX6_join 56 = .ok (.getfield 27, 3) := by decide +kernel
theorem dX6_join_59 : decode cX6_join 59 = .ok (.iload_n 1, 1) := by decide +kernel
theorem dX6_join_60 : decode cX6_join 60 = .ok (.aaload, 1) := by decide +kernel
theorem dX6_join_61 : decode cX6_join 61 = .ok (.iload_n 3, 1) := by decide +kernel
theorem dX6_join_62 : decode cX6_join 62 = .ok (.iaload, 1) := by decide +kernel
theorem dX6_join_63 : decode cX6_join 63 = .ok (.iconst (-1), 1) := by decide +kernel
theorem dX6_join_64 : decode cX6_join 64 = .ok (.ixor, 1) := by decide +kernel
theorem dX6_join_65 : decode cX6_join 65 = .ok (.iand, 1) := by decide +kernel
theorem dX6_join_66 : decode cX6_join 66 = .ok (.ior, 1) := by decide +kernel
theorem dX6_join_67 : decode cX6_join 67 = .ok (.iastore, 1) := by decide +kernel
theorem dX6_join_68 : decode cX6_join 68 = .ok (.aload_n 0, 1) := by decide +kernel
theorem dX6_join_69 : decode cX6_join 69 = .ok (.getfield 27, 3) := by decide +kernel
theorem dX6_join_72 : decode cX6_join 72 = .ok (.iload_n 1, 1) := by decide +kernel
theorem dX6_join_73 : decode cX6_join 73 = .ok (.aaload, 1) := by decide +kernel
theorem dX6_join_74 : decode cX6_join 74 = .ok (.iload_n 3, 1) := by decide +kernel
theorem dX6_join_75 : decode cX6_join 75 = .ok (.dup2, 1) := by decide +kernel
theorem dX6_join_76 : decode cX6_join 76 = .ok (.iaload, 1) := by decide +kernel
theorem dX6_join_77 : decode cX6_join 77 = .ok (.aload_n 0, 1) := by decide +kernel
theorem dX6_join_78 : decode cX6_join 78 = .ok (.getfield 27, 3) := by decide +kernel
theorem dX6_join_81 : decode cX6_join 81 = .ok (.iload_n 2, 1) := by decide +kernel
theorem dX6_join_82 : decode cX6_join 82 = .ok (.aaload, 1) := by decide +kernel
theorem dX6_join_83 : decode cX6_join 83 = .ok (.iload_n 3, 1) := by decide +kernel
theorem dX6_join_84 : decode cX6_join 84 = .ok (.iaload, 1) := by decide +kernel
theorem dX6_join_85 : decode cX6_join 85 = .ok (.ior, 1) := by decide +kernel
theorem dX6_join_86 : decode cX6_join 86 = .ok (.iastore, 1) := by decide +kernel
theorem dX6_join_87 : decode cX6_join 87 = .ok (.iinc 3 1, 3) := by decide +kernel
theorem dX6_join_90 : decode cX6_join 90 = .ok (.goto (-88), 3) := by decide +kernel
theorem dX6_join_93 : decode cX6_join 93 = .ok (.return_, 1) := by decide +kernel
theorem dX6_areAlike_0 : decode cX6_areAlike 0 = .ok (.iconst 0, 1) := by decide +kernel
theorem dX6_areAlike_1 : decode cX6_areAlike 1 = .ok (.istore_n 3, 1) := by decide +kernel
theorem dX6_areAlike_2 : decode cX6_areAlike 2 = .ok (.iload_n 3, 1) := by decide +kernel
theorem dX6_areAlike_3 : decode cX6_areAlike 3 = .ok (.iconst 4, 1) := by decide +kernel
theorem dX6_areAlike_4 : decode cX6_areAlike 4 = .ok (.if_icmp .ge 49, 3) := by decide +kernel
theorem dX6_areAlike_7 : decode cX6_areAlike 7 = .ok (.aload_n 0, 1) := by decide +kernel
theorem dX6_areAlike_8 : decode cX6_areAlike 8 = .ok (.getfield 27, 3) := by decide +kernel
theorem dX6_areAlike_11 : decode cX6_areAlike 11 = .ok (.iload_n 1, 1) := by decide +kernel
theorem dX6_areAlike_12 : decode cX6_areAlike 12 = .ok (.aaload, 1) := by decide +kernel
theorem dX6_areAlike_13 : decode cX6_areAlike 13 = .ok (.iload_n 3, 1) := by decide +kernel
theorem dX6_areAlike_14 : decode cX6_areAlike 14 = .ok (.iaload, 1) := by decide +kernel
theorem dX6_areAlike_15 : decode cX6_areAlike 15 = .ok (.aload_n 0, 1) := by decide +kernel
theorem dX6_areAlike_16 : decode cX6_areAlike 16 = .ok (.getfield 27, 3) := by decide +kernel
theorem dX6_areAlike_19 : decode cX6_areAlike 19 = .ok (.iload_n 2, 1) := by decide +kernel
theorem dX6_areAlike_20 : decode cX6_areAlike 20 = .ok (.aaload, 1) := by decide +kernel
theorem dX6_areAlike_21 : decode cX6_areAlike 21 = .ok (.iload_n 3, 1) := by decide +kernel
theorem dX6_areAlike_22 : decode cX6_areAlike 22 = .ok (.iaload, 1) := by decide +kernel
theorem dX6_areAlike_23 : decode cX6_areAlike 23 = .ok (.if_icmp .ne 22, 3) := by decide +kernel
theorem dX6_areAlike_26 : decode cX6_areAlike 26 = .ok (.aload_n 0, 1) := by decide +kernel
theorem dX6_areAlike_27 : decode cX6_areAlike 27 = .ok (.getfield 30, 3) := by decide +kernel
theorem dX6_areAlike_30 : decode cX6_areAlike 30 = .ok (.iload_n 1, 1) := by decide +kernel
theorem dX6_areAlike_31 : decode cX6_areAlike 31 = .ok (.aaload, 1) := by decide +kernel
theorem dX6_areAlike_32 : decode cX6_areAlike 32 = .ok (.iload_n 3, 1) := by decide +kernel
theorem dX6_areAlike_33 : decode cX6_areAlike 33 = .ok (.iaload, 1) := by decide +kernel
theorem dX6_areAlike_34 : decode cX6_areAlike 34 = .ok (.aload_n 0, 1) := by decide +kernel
theorem dX6_areAlike_35 : decode cX6_areAlike 35 = .ok (.getfield 30, 3) := by decide +kernel
theorem dX6_areAlike_38 : decode cX6_areAlike 38 = .ok (.iload_n 2, 1) := by decide +kernel
theorem dX6_areAlike_39 : decode cX6_areAlike 39 = .ok (.aaload, 1) := by decide +kernel
theorem dX6_areAlike_40 : decode cX6_areAlike 40 = .ok (.iload_n 3, 1) := by decide +kernel
theorem dX6_areAlike_41 : decode cX6_areAlike 41 = .ok (.iaload, 1) := by decide +kernel
theorem dX6_areAlike_42 : decode cX6_areAlike 42 = .ok (.if_icmp .eq 5, 3) := by decide +kernel
theorem dX6_areAlike_45 : decode cX6_areAlike 45 = .ok (.iconst 0, 1) := by decide +kernel
theorem dX6_areAlike_46 : decode cX6_areAlike 46 = .ok (.ireturn, 1) := by decide +kernel
theorem dX6_areAlike_47 : decode cX6_areAlike 47 = .ok (.iinc 3 1, 3) := by decide +kernel
theorem dX6_areAlike_50 : decode cX6_areAlike 50 = .ok (.goto (-48), 3) := by decide +kernel
theorem dX6_areAlike_53 : decode cX6_areAlike 53 = .ok (.iconst 1, 1) := by decide +kernel
theorem dX6_areAlike_54 : decode cX6_areAlike 54 = .ok (.ireturn, 1) := by decide +kernel
theorem dX6_bitsOf_0 : decode cX6_bitsOf 0 = .ok (.iconst 0, 1) := by decide +kernel
theorem dX6_bitsOf_1 : decode cX6_bitsOf 1 = .ok (.istore_n 2, 1) := by decide +kernel
theorem dX6_bitsOf_2 : decode cX6_bitsOf 2 = .ok (.iconst 0, 1) := by decide +kernel
theorem dX6_bitsOf_3 : decode cX6_bitsOf 3 = .ok (.istore_n 3, 1) := by decide +kernel
theorem dX6_bitsOf_4 : decode cX6_bitsOf 4 = .ok (.iload_n 3, 1) := by decide +kernel
theorem dX6_bitsOf_5 : decode cX6_bitsOf 5 = .ok (.iconst 4, 1) := by decide +kernel
theorem dX6_bitsOf_6 : decode cX6_bitsOf 6 = .ok (.if_icmp .ge 18, 3) := by decide +kernel
theorem dX6_bitsOf_9 : decode cX6_bitsOf 9 = .ok (.iload_n 2, 1) := by decide +kernel
theorem dX6_bitsOf_10 : decode cX6_bitsOf 10 = .ok (.aload_n 1, 1) := by decide +kernel
theorem dX6_bitsOf_11 : decode cX6_bitsOf 11 = .ok (.iload_n 3, 1) := by decide +kernel
theorem dX6_bitsOf_12 : decode cX6_bitsOf 12 = .ok (.iaload, 1) := by decide +kernel
theorem dX6_bitsOf_13 : decode cX6_bitsOf 13 = .ok (.invokestatic 104, 3) := by decide +kernel
theorem dX6_bitsOf_16 : decode cX6_bitsOf 16 = .ok (.iadd, 1) := by decide +kernel
theorem dX6_bitsOf_17 : decode cX6_bitsOf 17 = .ok (.istore_n 2, 1) := by decide +kernel
theorem dX6_bitsOf_18 : decode cX6_bitsOf 18 = .ok (.iinc 3 1, 3) := by decide +kernel
theorem dX6_bitsOf_21 : decode cX6_bitsOf 21 = .ok (.goto (-17), 3) := by decide +kernel
theorem dX6_bitsOf_24 : decode cX6_bitsOf 24 = .ok (.iload_n 2, 1) := by decide +kernel
theorem dX6_bitsOf_25 : decode cX6_bitsOf 25 = .ok (.ireturn, 1) := by decide +kernel
theorem dX6_meets_0 : decode cX6_meets 0 = .ok (.aload_n 0, 1) := by decide +kernel
theorem dX6_meets_1 : decode cX6_meets 1 = .ok (.iconst 0, 1) := by decide +kernel
theorem dX6_meets_2 : decode cX6_meets 2 = .ok (.bipush 26, 2) := by decide +kernel
theorem dX6_meets_4 : decode cX6_meets 4 = .ok (.invokevirtual 110, 3) := by decide +kernel
theorem dX6_meets_7 : decode cX6_meets 7 = .ok (.iconst 1, 1) := by decide +kernel
theorem dX6_meets_8 : decode cX6_meets 8 = .ok (.istore_n 1, 1) := by decide +kernel
theorem dX6_meets_9 : decode cX6_meets 9 = .ok (.iload_n 1, 1) := by decide +kernel
theorem dX6_meets_10 : decode cX6_meets 10 = .ok (.iconst 4, 1) := by decide +kernel
theorem dX6_meets_11 : decode cX6_meets 11 = .ok (.if_icmp .ge 16, 3) := by decide +kernel
theorem dX6_meets_14 : decode cX6_meets 14 = .ok (.aload_n 0, 1) := by decide +kernel
theorem dX6_meets_15 : decode cX6_meets 15 = .ok (.bipush 26, 2) := by decide +kernel
theorem dX6_meets_17 : decode cX6_meets 17 = .ok (.iload_n 1, 1) := by decide +kernel
theorem dX6_meets_18 : decode cX6_meets 18 = .ok (.invokevirtual 114, 3) := by decide +kernel
theorem dX6_meets_21 : decode cX6_meets 21 = .ok (.iinc 1 1, 3) := by decide +kernel
theorem dX6_meets_24 : decode cX6_meets 24 = .ok (.goto (-15), 3) := by decide +kernel
theorem dX6_meets_27 : decode cX6_meets 27 = .ok (.return_, 1) := by decide +kernel
theorem dX6_isGone_0 : decode cX6_isGone 0 = .ok (.iload_n 1, 1) := by decide +kernel
theorem dX6_isGone_1 : decode cX6_isGone 1 = .ok (.iconst 1, 1) := by decide +kernel
theorem dX6_isGone_2 : decode cX6_isGone 2 = .ok (.if_icmp .eq 23, 3) := by decide +kernel
theorem dX6_isGone_5 : decode cX6_isGone 5 = .ok (.iload_n 1, 1) := by decide +kernel
theorem dX6_isGone_6 : decode cX6_isGone 6 = .ok (.iconst 2, 1) := by decide +kernel
theorem dX6_isGone_7 : decode cX6_isGone 7 = .ok (.if_icmp .ne 8, 3) := by decide +kernel
theorem dX6_isGone_10 : decode cX6_isGone 10 = .ok (.iload_n 3, 1) := by decide +kernel
theorem dX6_isGone_11 : decode cX6_isGone 11 = .ok (.iload_n 2, 1) := by decide +kernel
theorem dX6_isGone_12 : decode cX6_isGone 12 = .ok (.if_icmp .eq 13, 3) := by decide +kernel
theorem dX6_isGone_15 : decode cX6_isGone 15 = .ok (.iload_n 1, 1) := by decide +kernel
theorem dX6_isGone_16 : decode cX6_isGone 16 = .ok (.iconst 3, 1) := by decide +kernel
theorem dX6_isGone_17 : decode cX6_isGone 17 = .ok (.if_icmp .ne 12, 3) := by decide +kernel
theorem dX6_isGone_20 : decode cX6_isGone 20 = .ok (.iload_n 3, 1) := by decide +kernel
theorem dX6_isGone_21 : decode cX6_isGone 21 = .ok (.iload_n 2, 1) := by decide +kernel
theorem dX6_isGone_22 : decode cX6_isGone 22 = .ok (.if_icmp .gt 7, 3) := by decide +kernel
theorem dX6_isGone_25 : decode cX6_isGone 25 = .ok (.iconst 1, 1) := by decide +kernel
theorem dX6_isGone_26 : decode cX6_isGone 26 = .ok (.goto 4, 3) := by decide +kernel
theorem dX6_isGone_29 : decode cX6_isGone 29 = .ok (.iconst 0, 1) := by decide +kernel
theorem dX6_isGone_30 : decode cX6_isGone 30 = .ok (.ireturn, 1) := by decide +kernel
theorem dX6_goes_0 : decode cX6_goes 0 = .ok (.iconst 0, 1) := by decide +kernel
theorem dX6_goes_1 : decode cX6_goes 1 = .ok (.istore 6, 2) := by decide +kernel
theorem dX6_goes_3 : decode cX6_goes 3 = .ok (.aload_n 0, 1) := by decide +kernel
theorem dX6_goes_4 : decode cX6_goes 4 = .ok (.bipush 27, 2) := by decide +kernel
theorem dX6_goes_6 : decode cX6_goes 6 = .ok (.invokevirtual 117, 3) := by decide +kernel
theorem dX6_goes_9 : decode cX6_goes 9 = .ok (.iconst 0, 1) := by decide +kernel
theorem dX6_goes_10 : decode cX6_goes 10 = .ok (.istore 7, 2) := by decide +kernel
theorem dX6_goes_12 : decode cX6_goes 12 = .ok (.iload 7, 2) := by decide +kernel
theorem dX6_goes_14 : decode cX6_goes 14 = .ok (.iconst 4, 1) := by decide +kernel
theorem dX6_goes_15 : decode cX6_goes 15 = .ok (.if_icmp .ge 145, 3) := by decide +kernel
theorem dX6_goes_18 : decode cX6_goes 18 = .ok (.iconst 0, 1) := by decide +kernel
theorem dX6_goes_19 : decode cX6_goes 19 = .ok (.istore 8, 2) := by decide +kernel
theorem dX6_goes_21 : decode cX6_goes 21 = .ok (.iload 8, 2) := by decide +kernel
theorem dX6_goes_23 : decode cX6_goes 23 = .ok (.aload_n 0, 1) := by decide +kernel
theorem dX6_goes_24 : decode cX6_goes 24 = .ok (.getfield 9, 3) := by decide +kernel
theorem dX6_goes_27 : decode cX6_goes 27 = .ok (.iload 7, 2) := by decide +kernel
theorem dX6_goes_29 : decode cX6_goes 29 = .ok (.iaload, 1) := by decide +kernel
theorem dX6_goes_30 : decode cX6_goes 30 = .ok (.if_icmp .ge 124, 3) := by decide +kernel
theorem dX6_goes_33 : decode cX6_goes 33 = .ok (.iload_n 3, 1) := by decide +kernel
theorem dX6_goes_34 : decode cX6_goes 34 = .ok (.ifCond .ge 27, 3) := by decide +kernel
theorem dX6_goes_37 : decode cX6_goes 37 = .ok (.aload_n 0, 1) := by decide +kernel
theorem dX6_goes_38 : decode cX6_goes 38 = .ok (.getfield 21, 3) := by decide +kernel
theorem dX6_goes_41 : decode cX6_goes 41 = .ok (.iload 7, 2) := by decide +kernel
theorem dX6_goes_43 : decode cX6_goes 43 = .ok (.aaload, 1) := by decide +kernel
theorem dX6_goes_44 : decode cX6_goes 44 = .ok (.iload 8, 2) := by decide +kernel
theorem dX6_goes_46 : decode cX6_goes 46 = .ok (.iaload, 1) := by decide +kernel
theorem dX6_goes_47 : decode cX6_goes 47 = .ok (.iconst 4, 1) := by decide +kernel
theorem dX6_goes_48 : decode cX6_goes 48 = .ok (.idiv, 1) := by decide +kernel
theorem dX6_goes_49 : decode cX6_goes 49 = .ok (.iload_n 2, 1) := by decide +kernel
theorem dX6_goes_50 : decode cX6_goes 50 = .ok (.if_icmp .ne 7, 3) := by decide +kernel
theorem dX6_goes_53 : decode cX6_goes 53 = .ok (.iconst 1, 1) := by decide +kernel
theorem dX6_goes_54 : decode cX6_goes 54 = .ok (.goto 26, 3) := by decide +kernel
theorem dX6_goes_57 : decode cX6_goes 57 = .ok (.iconst 0, 1) := by decide +kernel
theorem dX6_goes_58 : decode cX6_goes 58 = .ok (.goto 22, 3) := by decide +kernel
theorem dX6_goes_61 : decode cX6_goes 61 = .ok (.aload_n 0, 1) := by decide +kernel
theorem dX6_goes_62 : decode cX6_goes 62 = .ok (.getfield 21, 3) := by decide +kernel
theorem dX6_goes_65 : decode cX6_goes 65 = .ok (.iload 7, 2) := by decide +kernel
theorem dX6_goes_67 : decode cX6_goes 67 = .ok (.aaload, 1) := by decide +kernel
theorem dX6_goes_68 : decode cX6_goes 68 = .ok (.iload 8, 2) := by decide +kernel
theorem dX6_goes_70 : decode cX6_goes 70 = .ok (.iaload, 1) := by decide +kernel
theorem dX6_goes_71 : decode cX6_goes 71 = .ok (.iload_n 3, 1) := by decide +kernel
theorem dX6_goes_72 : decode cX6_goes 72 = .ok (.if_icmp .ne 7, 3) := by decide +kernel
theorem dX6_goes_75 : decode cX6_goes 75 = .ok (.iconst 1, 1) := by decide +kernel
theorem dX6_goes_76 : decode cX6_goes 76 = .ok (.goto 4, 3) := by decide +kernel
theorem dX6_goes_79 : decode cX6_goes 79 = .ok (.iconst 0, 1) := by decide +kernel
theorem dX6_goes_80 : decode cX6_goes 80 = .ok (.istore 9, 2) := by decide +kernel
theorem dX6_goes_82 : decode cX6_goes 82 = .ok (.aload_n 0, 1) := by decide +kernel
theorem dX6_goes_83 : decode cX6_goes 83 = .ok (.getfield 30, 3) := by decide +kernel
theorem dX6_goes_86 : decode cX6_goes 86 = .ok (.iload_n 1, 1) := by decide +kernel
theorem dX6_goes_87 : decode cX6_goes 87 = .ok (.aaload, 1) := by decide +kernel
theorem dX6_goes_88 : decode cX6_goes 88 = .ok (.iload 7, 2) := by decide +kernel
theorem dX6_goes_90 : decode cX6_goes 90 = .ok (.iaload, 1) := by decide +kernel
theorem dX6_goes_91 : decode cX6_goes 91 = .ok (.iload 8, 2) := by decide +kernel
theorem dX6_goes_93 : decode cX6_goes 93 = .ok (.ishr, 1) := by decide +kernel
theorem dX6_goes_94 : decode cX6_goes 94 = .ok (.iconst 1, 1) := by decide +kernel
theorem dX6_goes_95 : decode cX6_goes 95 = .ok (.iand, 1) := by decide +kernel
theorem dX6_goes_96 : decode cX6_goes 96 = .ok (.ifCond .eq 52, 3) := by decide +kernel
theorem dX6_goes_99 : decode cX6_goes 99 = .ok (.iload 9, 2) := by decide +kernel
theorem dX6_goes_101 : decode cX6_goes 101 = .ok (.ifCond .eq 47, 3) := by decide +kernel
theorem dX6_goes_104 : decode cX6_goes 104 = .ok (.aload_n 0, 1) := by decide +kernel
theorem dX6_goes_105 : decode cX6_goes 105 = .ok (.iload 4, 2) := by decide +kernel
theorem dX6_goes_107 : decode cX6_goes 107 = .ok (.iload 5, 2) := by decide +kernel
theorem dX6_goes_109 : decode cX6_goes 109 = .ok (.aload_n 0, 1) := by decide +kernel
theorem dX6_goes_110 : decode cX6_goes 110 = .ok (.getfield 15, 3) := by decide +kernel
theorem dX6_goes_113 : decode cX6_goes 113 = .ok (.iload 7, 2) := by decide +kernel
theorem dX6_goes_115 : decode cX6_goes 115 = .ok (.aaload, 1) := by decide +kernel
theorem dX6_goes_116 : decode cX6_goes 116 = .ok (.iload 8, 2) := by decide +kernel
theorem dX6_goes_118 : decode cX6_goes 118 = .ok (.iaload, 1) := by decide +kernel
theorem dX6_goes_119 : decode cX6_goes 119 = .ok (.invokevirtual 121, 3) := by decide +kernel
theorem dX6_goes_122 : decode cX6_goes 122 = .ok (.ifCond .ne 6, 3) := by decide +kernel
theorem dX6_goes_125 : decode cX6_goes 125 = .ok (.goto 23, 3) := by decide +kernel
theorem dX6_goes_128 : decode cX6_goes 128 = .ok (.aload_n 0, 1) := by decide +kernel
theorem dX6_goes_129 : decode cX6_goes 129 = .ok (.getfield 27, 3) := by decide +kernel
theorem dX6_goes_132 : decode cX6_goes 132 = .ok (.bipush 27, 2) := by decide +kernel
theorem dX6_goes_134 : decode cX6_goes 134 = .ok (.aaload, 1) := by decide +kernel
theorem dX6_goes_135 : decode cX6_goes 135 = .ok (.iload 7, 2) := by decide +kernel
theorem dX6_goes_137 : decode cX6_goes 137 = .ok (.dup2, 1) := by decide +kernel
theorem dX6_goes_138 : decode cX6_goes 138 = .ok (.iaload, 1) := by decide +kernel
theorem dX6_goes_139 : decode cX6_goes 139 = .ok (.iconst 1, 1) := by decide +kernel
theorem dX6_goes_140 : decode cX6_goes 140 = .ok (.iload 8, 2) := by decide +kernel
theorem dX6_goes_142 : decode cX6_goes 142 = .ok (.ishl, 1) := by decide +kernel
theorem dX6_goes_143 : decode cX6_goes 143 = .ok (.ior, 1) := by decide +kernel
theorem dX6_goes_144 : decode cX6_goes 144 = .ok (.iastore, 1) := by decide +kernel
theorem dX6_goes_145 : decode cX6_goes 145 = .ok (.iinc 6 1, 3) := by decide +kernel
theorem dX6_goes_148 : decode cX6_goes 148 = .ok (.iinc 8 1, 3) := by decide +kernel
theorem dX6_goes_151 : decode cX6_goes 151 = .ok (.goto (-130), 3) := by decide +kernel
theorem dX6_goes_154 : decode cX6_goes 154 = .ok (.iinc 7 1, 3) := by decide +kernel
theorem dX6_goes_157 : decode cX6_goes 157 = .ok (.goto (-145), 3) := by decide +kernel
theorem dX6_goes_160 : decode cX6_goes 160 = .ok (.iload 6, 2) := by decide +kernel
theorem dX6_goes_162 : decode cX6_goes 162 = .ok (.ireturn, 1) := by decide +kernel
theorem dX6_isNew_0 : decode cX6_isNew 0 = .ok (.aload_n 0, 1) := by decide +kernel
theorem dX6_isNew_1 : decode cX6_isNew 1 = .ok (.iload_n 1, 1) := by decide +kernel
theorem dX6_isNew_2 : decode cX6_isNew 2 = .ok (.bipush 27, 2) := by decide +kernel
theorem dX6_isNew_4 : decode cX6_isNew 4 = .ok (.invokevirtual 114, 3) := by decide +kernel
theorem dX6_isNew_7 : decode cX6_isNew 7 = .ok (.iconst 0, 1) := by decide +kernel
theorem dX6_isNew_8 : decode cX6_isNew 8 = .ok (.istore_n 2, 1) := by decide +kernel
theorem dX6_isNew_9 : decode cX6_isNew 9 = .ok (.iload_n 2, 1) := by decide +kernel
theorem dX6_isNew_10 : decode cX6_isNew 10 = .ok (.iconst 4, 1) := by decide +kernel
theorem dX6_isNew_11 : decode cX6_isNew 11 = .ok (.if_icmp .ge 27, 3) := by decide +kernel
theorem dX6_isNew_14 : decode cX6_isNew 14 = .ok (.iload_n 2, 1) := by decide +kernel
theorem dX6_isNew_15 : decode cX6_isNew 15 = .ok (.iload_n 1, 1) := by decide +kernel
theorem dX6_isNew_16 : decode cX6_isNew 16 = .ok (.if_icmp .eq 16, 3) := by decide +kernel
theorem dX6_isNew_19 : decode cX6_isNew 19 = .ok (.aload_n 0, 1) := by decide +kernel
theorem dX6_isNew_20 : decode cX6_isNew 20 = .ok (.iconst 4, 1) := by decide +kernel
theorem dX6_isNew_21 : decode cX6_isNew 21 = .ok (.iconst 4, 1) := by decide +kernel
theorem dX6_isNew_22 : decode cX6_isNew 22 = .ok (.iload_n 1, 1) := by decide +kernel
theorem dX6_isNew_23 : decode cX6_isNew 23 = .ok (.imul, 1) := by decide +kernel
theorem dX6_isNew_24 : decode cX6_isNew 24 = .ok (.iadd, 1) := by decide +kernel
theorem dX6_isNew_25 : decode cX6_isNew 25 = .ok (.iload_n 2, 1) := by decide +kernel
theorem dX6_isNew_26 : decode cX6_isNew 26 = .ok (.iadd, 1) := by decide +kernel
theorem dX6_isNew_27 : decode cX6_isNew 27 = .ok (.bipush 27, 2) := by decide +kernel
theorem dX6_isNew_29 : decode cX6_isNew 29 = .ok (.invokevirtual 114, 3) := by decide +kernel
theorem dX6_isNew_32 : decode cX6_isNew 32 = .ok (.iinc 2 1, 3) := by decide +kernel
theorem dX6_isNew_35 : decode cX6_isNew 35 = .ok (.goto (-26), 3) := by decide +kernel
theorem dX6_isNew_38 : decode cX6_isNew 38 = .ok (.return_, 1) := by decide +kernel
theorem dX6_stampAbove_0 : decode cX6_stampAbove 0 = .ok (.iconst 0, 1) := by decide +kernel
theorem dX6_stampAbove_1 : decode cX6_stampAbove 1 = .ok (.istore_n 2, 1) := by decide +kernel
theorem dX6_stampAbove_2 : decode cX6_stampAbove 2 = .ok (.iconst 0, 1) := by decide +kernel
theorem dX6_stampAbove_3 : decode cX6_stampAbove 3 = .ok (.istore_n 3, 1) := by decide +kernel
theorem dX6_stampAbove_4 : decode cX6_stampAbove 4 = .ok (.iload_n 3, 1) := by decide +kernel
theorem dX6_stampAbove_5 : decode cX6_stampAbove 5 = .ok (.iconst 4, 1) := by decide +kernel
theorem dX6_stampAbove_6 : decode cX6_stampAbove 6 = .ok (.if_icmp .ge 60, 3) := by decide +kernel
theorem dX6_stampAbove_9 : decode cX6_stampAbove 9 = .ok (.iconst 0, 1) := by decide +kernel
theorem dX6_stampAbove_10 : decode cX6_stampAbove 10 = .ok (.istore 4, 2) := by decide +kernel
theorem dX6_stampAbove_12 : decode cX6_stampAbove 12 = .ok (.iload 4, 2) := by decide +kernel
theorem dX6_stampAbove_14 : decode cX6_stampAbove 14 = .ok (.aload_n 0, 1) := by decide +kernel
theorem dX6_stampAbove_15 : decode cX6_stampAbove 15 = .ok (.getfield 9, 3) := by decide +kernel
theorem dX6_stampAbove_18 : decode cX6_stampAbove 18 = .ok (.iload_n 3, 1) := by decide +kernel
theorem dX6_stampAbove_19 : decode cX6_stampAbove 19 = .ok (.iaload, 1) := by decide +kernel
theorem dX6_stampAbove_20 : decode cX6_stampAbove 20 = .ok (.if_icmp .ge 40, 3) := by decide +kernel
theorem dX6_stampAbove_23 : decode cX6_stampAbove 23 = .ok (.aload_n 0, 1) := by decide +kernel
theorem dX6_stampAbove_24 : decode cX6_stampAbove 24 = .ok (.getfield 27, 3) := by decide +kernel
theorem dX6_stampAbove_27 : decode cX6_stampAbove 27 = .ok (.iload_n 1, 1) := by decide +kernel
theorem dX6_stampAbove_28 : decode cX6_stampAbove 28 = .ok (.aaload, 1) := by decide +kernel
theorem dX6_stampAbove_29 : decode cX6_stampAbove 29 = .ok (.iload_n 3, 1) := by decide +kernel
theorem dX6_stampAbove_30 : decode cX6_stampAbove 30 = .ok (.iaload, 1) := by decide +kernel
theorem dX6_stampAbove_31 : decode cX6_stampAbove 31 = .ok (.iload 4, 2) := by decide +kernel
theorem dX6_stampAbove_33 : decode cX6_stampAbove 33 = .ok (.ishr, 1) := by decide +kernel
theorem dX6_stampAbove_34 : decode cX6_stampAbove 34 = .ok (.iconst 1, 1) := by decide +kernel
theorem dX6_stampAbove_35 : decode cX6_stampAbove 35 = .ok (.iand, 1) := by decide +kernel
theorem dX6_stampAbove_36 : decode cX6_stampAbove 36 = .ok (.iconst 1, 1) := by decide +kernel
theorem dX6_stampAbove_37 : decode cX6_stampAbove 37 = .ok (.if_icmp .ne 17, 3) := by decide +kernel
theorem dX6_stampAbove_40 : decode cX6_stampAbove 40 = .ok (.iload_n 2, 1) := by decide +kernel
theorem dX6_stampAbove_41 : decode cX6_stampAbove 41 = .ok (.aload_n 0, 1) := by decide +kernel
theorem dX6_stampAbove_42 : decode cX6_stampAbove 42 = .ok (.getfield 18, 3) := by decide +kernel
theorem dX6_stampAbove_45 : decode cX6_stampAbove 45 = .ok (.iload_n 3, 1) := by decide +kernel
theorem dX6_stampAbove_46 : decode cX6_stampAbove 46 = .ok (.aaload, 1) := by decide +kernel
theorem dX6_stampAbove_47 : decode cX6_stampAbove 47 = .ok (.iload 4, 2) := by decide +kernel
theorem dX6_stampAbove_49 : decode cX6_stampAbove 49 = .ok (.iaload, 1) := by decide +kernel
theorem dX6_stampAbove_50 : decode cX6_stampAbove 50 = .ok (.invokestatic 125, 3) := by decide +kernel
theorem dX6_stampAbove_53 : decode cX6_stampAbove 53 = .ok (.istore_n 2, 1) := by decide +kernel
theorem dX6_stampAbove_54 : decode cX6_stampAbove 54 = .ok (.iinc 4 1, 3) := by decide +kernel
theorem dX6_stampAbove_57 : decode cX6_stampAbove 57 = .ok (.goto (-45), 3) := by decide +kernel
theorem dX6_stampAbove_60 : decode cX6_stampAbove 60 = .ok (.iinc 3 1, 3) := by decide +kernel
theorem dX6_stampAbove_63 : decode cX6_stampAbove 63 = .ok (.goto (-59), 3) := by decide +kernel
theorem dX6_stampAbove_66 : decode cX6_stampAbove 66 = .ok (.iload_n 2, 1) := by decide +kernel
theorem dX6_stampAbove_67 : decode cX6_stampAbove 67 = .ok (.iconst 1, 1) := by decide +kernel
theorem dX6_stampAbove_68 : decode cX6_stampAbove 68 = .ok (.iadd, 1) := by decide +kernel
theorem dX6_stampAbove_69 : decode cX6_stampAbove 69 = .ok (.ireturn, 1) := by decide +kernel
theorem dX6_add_0 : decode cX6_add 0 = .ok (.iload_n 1, 1) := by decide +kernel
theorem dX6_add_1 : decode cX6_add 1 = .ok (.invokestatic 131, 3) := by decide +kernel
theorem dX6_add_4 : decode cX6_add 4 = .ok (.ifCond .eq 11, 3) := by decide +kernel
theorem dX6_add_7 : decode cX6_add 7 = .ok (.iload_n 2, 1) := by decide +kernel
theorem dX6_add_8 : decode cX6_add 8 = .ok (.iload_n 3, 1) := by decide +kernel
theorem dX6_add_9 : decode cX6_add 9 = .ok (.invokestatic 135, 3) := by decide +kernel
theorem dX6_add_12 : decode cX6_add 12 = .ok (.ifCond .ne 6, 3) := by decide +kernel
theorem dX6_add_15 : decode cX6_add 15 = .ok (.bipush (-2), 2) := by decide +kernel
theorem dX6_add_17 : decode cX6_add 17 = .ok (.ireturn, 1) := by decide +kernel
theorem dX6_add_18 : decode cX6_add 18 = .ok (.aload_n 0, 1) := by decide +kernel
theorem dX6_add_19 : decode cX6_add 19 = .ok (.getfield 9, 3) := by decide +kernel
theorem dX6_add_22 : decode cX6_add 22 = .ok (.iload_n 1, 1) := by decide +kernel
theorem dX6_add_23 : decode cX6_add 23 = .ok (.iaload, 1) := by decide +kernel
theorem dX6_add_24 : decode cX6_add 24 = .ok (.bipush 31, 2) := by decide +kernel
theorem dX6_add_26 : decode cX6_add 26 = .ok (.if_icmp .ne 6, 3) := by decide +kernel
theorem dX6_add_29 : decode cX6_add 29 = .ok (.bipush (-4), 2) := by decide +kernel
theorem dX6_add_31 : decode cX6_add 31 = .ok (.ireturn, 1) := by decide +kernel
theorem dX6_add_32 : decode cX6_add 32 = .ok (.iconst 4, 1) := by decide +kernel
theorem dX6_add_33 : decode cX6_add 33 = .ok (.iload_n 2, 1) := by decide +kernel
theorem dX6_add_34 : decode cX6_add 34 = .ok (.imul, 1) := by decide +kernel
theorem dX6_add_35 : decode cX6_add 35 = .ok (.iload_n 3, 1) := by decide +kernel
theorem dX6_add_36 : decode cX6_add 36 = .ok (.iadd, 1) := by decide +kernel
theorem dX6_add_37 : decode cX6_add 37 = .ok (.istore 5, 2) := by decide +kernel
theorem dX6_add_39 : decode cX6_add 39 = .ok (.aload_n 0, 1) := by decide +kernel
theorem dX6_add_40 : decode cX6_add 40 = .ok (.getfield 24, 3) := by decide +kernel
theorem dX6_add_43 : decode cX6_add 43 = .ok (.iload 5, 2) := by decide +kernel
theorem dX6_add_45 : decode cX6_add 45 = .ok (.iaload, 1) := by decide +kernel
theorem dX6_add_46 : decode cX6_add 46 = .ok (.istore 6, 2) := by decide +kernel
theorem dX6_add_48 : decode cX6_add 48 = .ok (.aload_n 0, 1) := by decide +kernel
theorem dX6_add_49 : decode cX6_add 49 = .ok (.iload_n 1, 1) := by decide +kernel
theorem dX6_add_50 : decode cX6_add 50 = .ok (.iload_n 2, 1) := by decide +kernel
theorem dX6_add_51 : decode cX6_add 51 = .ok (.iload 5, 2) := by decide +kernel
theorem dX6_add_53 : decode cX6_add 53 = .ok (.iload 6, 2) := by decide +kernel
theorem dX6_add_55 : decode cX6_add 55 = .ok (.iconst 3, 1) := by decide +kernel
theorem dX6_add_56 : decode cX6_add 56 = .ok (.if_icmp .eq 9, 3) := by decide +kernel
theorem dX6_add_59 : decode cX6_add 59 = .ok (.iload 6, 2) := by decide +kernel
theorem dX6_add_61 : decode cX6_add 61 = .ok (.iconst 5, 1) := by decide +kernel
theorem dX6_add_62 : decode cX6_add 62 = .ok (.if_icmp .ne 7, 3) := by decide +kernel
theorem dX6_add_65 : decode cX6_add 65 = .ok (.iconst 1, 1) := by decide +kernel
theorem dX6_add_66 : decode cX6_add 66 = .ok (.goto 24, 3) := by decide +kernel
theorem dX6_add_69 : decode cX6_add 69 = .ok (.iload 6, 2) := by decide +kernel
theorem dX6_add_71 : decode cX6_add 71 = .ok (.iconst 1, 1) := by decide +kernel
theorem dX6_add_72 : decode cX6_add 72 = .ok (.if_icmp .ne 7, 3) := by decide +kernel
theorem dX6_add_75 : decode cX6_add 75 = .ok (.iconst 2, 1) := by decide +kernel
theorem dX6_add_76 : decode cX6_add 76 = .ok (.goto 14, 3) := by decide +kernel
theorem dX6_add_79 : decode cX6_add 79 = .ok (.iload 6, 2) := by decide +kernel
theorem dX6_add_81 : decode cX6_add 81 = .ok (.iconst 4, 1) := by decide +kernel
theorem dX6_add_82 : decode cX6_add 82 = .ok (.if_icmp .ne 7, 3) := by decide +kernel
theorem dX6_add_85 : decode cX6_add 85 = .ok (.iconst 3, 1) := by decide +kernel
theorem dX6_add_86 : decode cX6_add 86 = .ok (.goto 4, 3) := by decide +kernel
theorem dX6_add_89 : decode cX6_add 89 = .ok (.iconst 0, 1) := by decide +kernel
theorem dX6_add_90 : decode cX6_add 90 = .ok (.iload 4, 2) := by decide +kernel
theorem dX6_add_92 : decode cX6_add 92 = .ok (.invokevirtual 139, 3) := by decide +kernel
theorem dX6_add_95 : decode cX6_add 95 = .ok (.istore 7, 2) := by decide +kernel
theorem dX6_add_97 : decode cX6_add 97 = .ok (.aload_n 0, 1) := by decide +kernel
theorem dX6_add_98 : decode cX6_add 98 = .ok (.getfield 9, 3) := by decide +kernel
theorem dX6_add_101 : decode cX6_add 101 = .ok (.iload_n 1, 1) := by decide +kernel
theorem dX6_add_102 : decode cX6_add 102 = .ok (.iaload, 1) := by decide +kernel
theorem dX6_add_103 : decode cX6_add 103 = .ok (.istore 8, 2) := by decide +kernel
theorem dX6_add_105 : decode cX6_add 105 = .ok (.aload_n 0, 1) := by decide +kernel
theorem dX6_add_106 : decode cX6_add 106 = .ok (.getfield 18, 3) := by decide +kernel
theorem dX6_add_109 : decode cX6_add 109 = .ok (.iload_n 1, 1) := by decide +kernel
theorem dX6_add_110 : decode cX6_add 110 = .ok (.aaload, 1) := by decide +kernel
theorem dX6_add_111 : decode cX6_add 111 = .ok (.iload 8, 2) := by decide +kernel
theorem dX6_add_113 : decode cX6_add 113 = .ok (.aload_n 0, 1) := by decide +kernel
theorem dX6_add_114 : decode cX6_add 114 = .ok (.iload_n 1, 1) := by decide +kernel
theorem dX6_add_115 : decode cX6_add 115 = .ok (.invokevirtual 143, 3) := by decide +kernel
theorem dX6_add_118 : decode cX6_add 118 = .ok (.iastore, 1) := by decide +kernel
theorem dX6_add_119 : decode cX6_add 119 = .ok (.aload_n 0, 1) := by decide +kernel
theorem dX6_add_120 : decode cX6_add 120 = .ok (.getfield 15, 3) := by decide +kernel
theorem dX6_add_123 : decode cX6_add 123 = .ok (.iload_n 1, 1) := by decide +kernel
theorem dX6_add_124 : decode cX6_add 124 = .ok (.aaload, 1) := by decide +kernel
theorem dX6_add_125 : decode cX6_add 125 = .ok (.iload 8, 2) := by decide +kernel
theorem dX6_add_127 : decode cX6_add 127 = .ok (.iload 4, 2) := by decide +kernel
theorem dX6_add_129 : decode cX6_add 129 = .ok (.iastore, 1) := by decide +kernel
theorem dX6_add_130 : decode cX6_add 130 = .ok (.aload_n 0, 1) := by decide +kernel
theorem dX6_add_131 : decode cX6_add 131 = .ok (.getfield 21, 3) := by decide +kernel
theorem dX6_add_134 : decode cX6_add 134 = .ok (.iload_n 1, 1) := by decide +kernel
theorem dX6_add_135 : decode cX6_add 135 = .ok (.aaload, 1) := by decide +kernel
theorem dX6_add_136 : decode cX6_add 136 = .ok (.iload 8, 2) := by decide +kernel
theorem dX6_add_138 : decode cX6_add 138 = .ok (.iload 5, 2) := by decide +kernel
theorem dX6_add_140 : decode cX6_add 140 = .ok (.iastore, 1) := by decide +kernel
theorem dX6_add_141 : decode cX6_add 141 = .ok (.aload_n 0, 1) := by decide +kernel
theorem dX6_add_142 : decode cX6_add 142 = .ok (.getfield 9, 3) := by decide +kernel
theorem dX6_add_145 : decode cX6_add 145 = .ok (.iload_n 1, 1) := by decide +kernel
theorem dX6_add_146 : decode cX6_add 146 = .ok (.dup2, 1) := by decide +kernel
theorem dX6_add_147 : decode cX6_add 147 = .ok (.iaload, 1) := by decide +kernel
theorem dX6_add_148 : decode cX6_add 148 = .ok (.iconst 1, 1) := by decide +kernel
theorem dX6_add_149 : decode cX6_add 149 = .ok (.iadd, 1) := by decide +kernel
theorem dX6_add_150 : decode cX6_add 150 = .ok (.iastore, 1) := by decide +kernel
theorem dX6_add_151 : decode cX6_add 151 = .ok (.aload_n 0, 1) := by decide +kernel
theorem dX6_add_152 : decode cX6_add 152 = .ok (.getfield 27, 3) := by decide +kernel
theorem dX6_add_155 : decode cX6_add 155 = .ok (.bipush 27, 2) := by decide +kernel
theorem dX6_add_157 : decode cX6_add 157 = .ok (.aaload, 1) := by decide +kernel
theorem dX6_add_158 : decode cX6_add 158 = .ok (.iload_n 1, 1) := by decide +kernel
theorem dX6_add_159 : decode cX6_add 159 = .ok (.dup2, 1) := by decide +kernel
theorem dX6_add_160 : decode cX6_add 160 = .ok (.iaload, 1) := by decide +kernel
theorem dX6_add_161 : decode cX6_add 161 = .ok (.iconst 1, 1) := by decide +kernel
theorem dX6_add_162 : decode cX6_add 162 = .ok (.iload 8, 2) := by decide +kernel
theorem dX6_add_164 : decode cX6_add 164 = .ok (.ishl, 1) := by decide +kernel
theorem dX6_add_165 : decode cX6_add 165 = .ok (.ior, 1) := by decide +kernel
theorem dX6_add_166 : decode cX6_add 166 = .ok (.iastore, 1) := by decide +kernel
theorem dX6_add_167 : decode cX6_add 167 = .ok (.aload_n 0, 1) := by decide +kernel
theorem dX6_add_168 : decode cX6_add 168 = .ok (.getfield 30, 3) := by decide +kernel
theorem dX6_add_171 : decode cX6_add 171 = .ok (.bipush 27, 2) := by decide +kernel
theorem dX6_add_173 : decode cX6_add 173 = .ok (.aaload, 1) := by decide +kernel
theorem dX6_add_174 : decode cX6_add 174 = .ok (.iload_n 1, 1) := by decide +kernel
theorem dX6_add_175 : decode cX6_add 175 = .ok (.dup2, 1) := by decide +kernel
theorem dX6_add_176 : decode cX6_add 176 = .ok (.iaload, 1) := by decide +kernel
theorem dX6_add_177 : decode cX6_add 177 = .ok (.iconst 1, 1) := by decide +kernel
theorem dX6_add_178 : decode cX6_add 178 = .ok (.iload 8, 2) := by decide +kernel
theorem dX6_add_180 : decode cX6_add 180 = .ok (.ishl, 1) := by decide +kernel
theorem dX6_add_181 : decode cX6_add 181 = .ok (.ior, 1) := by decide +kernel
theorem dX6_add_182 : decode cX6_add 182 = .ok (.iastore, 1) := by decide +kernel
theorem dX6_add_183 : decode cX6_add 183 = .ok (.aload_n 0, 1) := by decide +kernel
theorem dX6_add_184 : decode cX6_add 184 = .ok (.iload_n 1, 1) := by decide +kernel
theorem dX6_add_185 : decode cX6_add 185 = .ok (.invokevirtual 146, 3) := by decide +kernel
theorem dX6_add_188 : decode cX6_add 188 = .ok (.iload 8, 2) := by decide +kernel
theorem dX6_add_190 : decode cX6_add 190 = .ok (.ireturn, 1) := by decide +kernel
theorem dX6_take_0 : decode cX6_take 0 = .ok (.iload_n 1, 1) := by decide +kernel
theorem dX6_take_1 : decode cX6_take 1 = .ok (.invokestatic 131, 3) := by decide +kernel
theorem dX6_take_4 : decode cX6_take 4 = .ok (.ifCond .eq 11, 3) := by decide +kernel
theorem dX6_take_7 : decode cX6_take 7 = .ok (.iload_n 2, 1) := by decide +kernel
theorem dX6_take_8 : decode cX6_take 8 = .ok (.iload_n 3, 1) := by decide +kernel
theorem dX6_take_9 : decode cX6_take 9 = .ok (.invokestatic 135, 3) := by decide +kernel
theorem dX6_take_12 : decode cX6_take 12 = .ok (.ifCond .ne 6, 3) := by decide +kernel
theorem dX6_take_15 : decode cX6_take 15 = .ok (.bipush (-2), 2) := by decide +kernel
theorem dX6_take_17 : decode cX6_take 17 = .ok (.ireturn, 1) := by decide +kernel
theorem dX6_take_18 : decode cX6_take 18 = .ok (.aload_n 0, 1) := by decide +kernel
theorem dX6_take_19 : decode cX6_take 19 = .ok (.iload_n 1, 1) := by decide +kernel
theorem dX6_take_20 : decode cX6_take 20 = .ok (.iload_n 2, 1) := by decide +kernel
theorem dX6_take_21 : decode cX6_take 21 = .ok (.iconst 4, 1) := by decide +kernel
theorem dX6_take_22 : decode cX6_take 22 = .ok (.iload_n 2, 1) := by decide +kernel
theorem dX6_take_23 : decode cX6_take 23 = .ok (.imul, 1) := by decide +kernel
theorem dX6_take_24 : decode cX6_take 24 = .ok (.iload_n 3, 1) := by decide +kernel
theorem dX6_take_25 : decode cX6_take 25 = .ok (.iadd, 1) := by decide +kernel
theorem dX6_take_26 : decode cX6_take 26 = .ok (.iconst 2, 1) := by decide +kernel
theorem dX6_take_27 : decode cX6_take 27 = .ok (.iload 4, 2) := by decide +kernel
theorem dX6_take_29 : decode cX6_take 29 = .ok (.invokevirtual 139, 3) := by decide +kernel
theorem dX6_take_32 : decode cX6_take 32 = .ok (.istore 5, 2) := by decide +kernel
theorem dX6_take_34 : decode cX6_take 34 = .ok (.aload_n 0, 1) := by decide +kernel
theorem dX6_take_35 : decode cX6_take 35 = .ok (.iload_n 1, 1) := by decide +kernel
theorem dX6_take_36 : decode cX6_take 36 = .ok (.invokevirtual 146, 3) := by decide +kernel
theorem dX6_take_39 : decode cX6_take 39 = .ok (.iload 5, 2) := by decide +kernel
theorem dX6_take_41 : decode cX6_take 41 = .ok (.ireturn, 1) := by decide +kernel
theorem dX6_reset_0 : decode cX6_reset 0 = .ok (.iload_n 1, 1) := by decide +kernel
theorem dX6_reset_1 : decode cX6_reset 1 = .ok (.invokestatic 131, 3) := by decide +kernel
theorem dX6_reset_4 : decode cX6_reset 4 = .ok (.ifCond .eq 11, 3) := by decide +kernel
theorem dX6_reset_7 : decode cX6_reset 7 = .ok (.iload_n 2, 1) := by decide +kernel
theorem dX6_reset_8 : decode cX6_reset 8 = .ok (.iconst 0, 1) := by decide +kernel
theorem dX6_reset_9 : decode cX6_reset 9 = .ok (.invokestatic 135, 3) := by decide +kernel
theorem dX6_reset_12 : decode cX6_reset 12 = .ok (.ifCond .ne 6, 3) := by decide +kernel
theorem dX6_reset_15 : decode cX6_reset 15 = .ok (.bipush (-2), 2) := by decide +kernel
theorem dX6_reset_17 : decode cX6_reset 17 = .ok (.ireturn, 1) := by decide +kernel
theorem dX6_reset_18 : decode cX6_reset 18 = .ok (.aload_n 0, 1) := by decide +kernel
theorem dX6_reset_19 : decode cX6_reset 19 = .ok (.iload_n 1, 1) := by decide +kernel
theorem dX6_reset_20 : decode cX6_reset 20 = .ok (.iload_n 2, 1) := by decide +kernel
theorem dX6_reset_21 : decode cX6_reset 21 = .ok (.iconst (-1), 1) := by decide +kernel
theorem dX6_reset_22 : decode cX6_reset 22 = .ok (.iconst 1, 1) := by decide +kernel
theorem dX6_reset_23 : decode cX6_reset 23 = .ok (.iconst 0, 1) := by decide +kernel
theorem dX6_reset_24 : decode cX6_reset 24 = .ok (.invokevirtual 139, 3) := by decide +kernel
theorem dX6_reset_27 : decode cX6_reset 27 = .ok (.istore_n 3, 1) := by decide +kernel
theorem dX6_reset_28 : decode cX6_reset 28 = .ok (.aload_n 0, 1) := by decide +kernel
theorem dX6_reset_29 : decode cX6_reset 29 = .ok (.iload_n 1, 1) := by decide +kernel
theorem dX6_reset_30 : decode cX6_reset 30 = .ok (.invokevirtual 146, 3) := by decide +kernel
theorem dX6_reset_33 : decode cX6_reset 33 = .ok (.iload_n 3, 1) := by decide +kernel
theorem dX6_reset_34 : decode cX6_reset 34 = .ok (.ireturn, 1) := by decide +kernel
theorem dX6_kind_0 : decode cX6_kind 0 = .ok (.iload_n 1, 1) := by decide +kernel
theorem dX6_kind_1 : decode cX6_kind 1 = .ok (.iload_n 2, 1) := by decide +kernel
theorem dX6_kind_2 : decode cX6_kind 2 = .ok (.invokestatic 135, 3) := by decide +kernel
theorem dX6_kind_5 : decode cX6_kind 5 = .ok (.ifCond .eq 15, 3) := by decide +kernel
theorem dX6_kind_8 : decode cX6_kind 8 = .ok (.iload_n 3, 1) := by decide +kernel
theorem dX6_kind_9 : decode cX6_kind 9 = .ok (.i2l, 1) := by decide +kernel
theorem dX6_kind_10 : decode cX6_kind 10 = .ok (.lconst 0, 1) := by decide +kernel
theorem dX6_kind_11 : decode cX6_kind 11 = .ok (.ldc2_w 149, 3) := by decide +kernel
theorem dX6_kind_14 : decode cX6_kind 14 = .ok (.invokestatic 86, 3) := by decide +kernel
theorem dX6_kind_17 : decode cX6_kind 17 = .ok (.ifCond .ne 6, 3) := by decide +kernel
theorem dX6_kind_20 : decode cX6_kind 20 = .ok (.bipush (-2), 2) := by decide +kernel
theorem dX6_kind_22 : decode cX6_kind 22 = .ok (.ireturn, 1) := by decide +kernel
theorem dX6_kind_23 : decode cX6_kind 23 = .ok (.aload_n 0, 1) := by decide +kernel
theorem dX6_kind_24 : decode cX6_kind 24 = .ok (.getfield 24, 3) := by decide +kernel
theorem dX6_kind_27 : decode cX6_kind 27 = .ok (.iconst 4, 1) := by decide +kernel
theorem dX6_kind_28 : decode cX6_kind 28 = .ok (.iload_n 1, 1) := by decide +kernel
theorem dX6_kind_29 : decode cX6_kind 29 = .ok (.imul, 1) := by decide +kernel
theorem dX6_kind_30 : decode cX6_kind 30 = .ok (.iload_n 2, 1) := by decide +kernel
theorem dX6_kind_31 : decode cX6_kind 31 = .ok (.iadd, 1) := by decide +kernel
theorem dX6_kind_32 : decode cX6_kind 32 = .ok (.iaload, 1) := by decide +kernel
theorem dX6_kind_33 : decode cX6_kind 33 = .ok (.istore 4, 2) := by decide +kernel
theorem dX6_kind_35 : decode cX6_kind 35 = .ok (.aload_n 0, 1) := by decide +kernel
theorem dX6_kind_36 : decode cX6_kind 36 = .ok (.getfield 24, 3) := by decide +kernel
theorem dX6_kind_39 : decode cX6_kind 39 = .ok (.iconst 4, 1) := by decide +kernel
theorem dX6_kind_40 : decode cX6_kind 40 = .ok (.iload_n 1, 1) := by decide +kernel
theorem dX6_kind_41 : decode cX6_kind 41 = .ok (.imul, 1) := by decide +kernel
theorem dX6_kind_42 : decode cX6_kind 42 = .ok (.iload_n 2, 1) := by decide +kernel
theorem dX6_kind_43 : decode cX6_kind 43 = .ok (.iadd, 1) := by decide +kernel
theorem dX6_kind_44 : decode cX6_kind 44 = .ok (.iload_n 3, 1) := by decide +kernel
theorem dX6_kind_45 : decode cX6_kind 45 = .ok (.iastore, 1) := by decide +kernel
theorem dX6_kind_46 : decode cX6_kind 46 = .ok (.iload 4, 2) := by decide +kernel
theorem dX6_kind_48 : decode cX6_kind 48 = .ok (.ireturn, 1) := by decide +kernel
theorem dX6_taken_0 : decode cX6_taken 0 = .ok (.iload_n 1, 1) := by decide +kernel
theorem dX6_taken_1 : decode cX6_taken 1 = .ok (.iload_n 2, 1) := by decide +kernel
theorem dX6_taken_2 : decode cX6_taken 2 = .ok (.invokestatic 135, 3) := by decide +kernel
theorem dX6_taken_5 : decode cX6_taken 5 = .ok (.ifCond .eq 15, 3) := by decide +kernel
theorem dX6_taken_8 : decode cX6_taken 8 = .ok (.iload_n 3, 1) := by decide +kernel
theorem dX6_taken_9 : decode cX6_taken 9 = .ok (.i2l, 1) := by decide +kernel
theorem dX6_taken_10 : decode cX6_taken 10 = .ok (.lconst 0, 1) := by decide +kernel
theorem dX6_taken_11 : decode cX6_taken 11 = .ok (.ldc2_w 149, 3) := by decide +kernel
theorem dX6_taken_14 : decode cX6_taken 14 = .ok (.invokestatic 86, 3) := by decide +kernel
theorem dX6_taken_17 : decode cX6_taken 17 = .ok (.ifCond .ne 6, 3) := by decide +kernel
theorem dX6_taken_20 : decode cX6_taken 20 = .ok (.bipush (-2), 2) := by decide +kernel
theorem dX6_taken_22 : decode cX6_taken 22 = .ok (.ireturn, 1) := by decide +kernel
theorem dX6_taken_23 : decode cX6_taken 23 = .ok (.aload_n 0, 1) := by decide +kernel
theorem dX6_taken_24 : decode cX6_taken 24 = .ok (.getfield 24, 3) := by decide +kernel
theorem dX6_taken_27 : decode cX6_taken 27 = .ok (.iconst 4, 1) := by decide +kernel
theorem dX6_taken_28 : decode cX6_taken 28 = .ok (.iload_n 1, 1) := by decide +kernel
theorem dX6_taken_29 : decode cX6_taken 29 = .ok (.imul, 1) := by decide +kernel
theorem dX6_taken_30 : decode cX6_taken 30 = .ok (.iload_n 2, 1) := by decide +kernel
theorem dX6_taken_31 : decode cX6_taken 31 = .ok (.iadd, 1) := by decide +kernel
theorem dX6_taken_32 : decode cX6_taken 32 = .ok (.iaload, 1) := by decide +kernel
theorem dX6_taken_33 : decode cX6_taken 33 = .ok (.istore 4, 2) := by decide +kernel
theorem dX6_taken_35 : decode cX6_taken 35 = .ok (.iload_n 3, 1) := by decide +kernel
theorem dX6_taken_36 : decode cX6_taken 36 = .ok (.ifCond .eq 48, 3) := by decide +kernel
theorem dX6_taken_39 : decode cX6_taken 39 = .ok (.iload_n 3, 1) := by decide +kernel
theorem dX6_taken_40 : decode cX6_taken 40 = .ok (.iload 4, 2) := by decide +kernel
theorem dX6_taken_42 : decode cX6_taken 42 = .ok (.if_icmp .eq 42, 3) := by decide +kernel
theorem dX6_taken_45 : decode cX6_taken 45 = .ok (.iload_n 3, 1) := by decide +kernel
theorem dX6_taken_46 : decode cX6_taken 46 = .ok (.iconst 1, 1) := by decide +kernel
theorem dX6_taken_47 : decode cX6_taken 47 = .ok (.if_icmp .ne 15, 3) := by decide +kernel
theorem dX6_taken_50 : decode cX6_taken 50 = .ok (.iload 4, 2) := by decide +kernel
theorem dX6_taken_52 : decode cX6_taken 52 = .ok (.iconst 3, 1) := by decide +kernel
theorem dX6_taken_53 : decode cX6_taken 53 = .ok (.if_icmp .eq 31, 3) := by decide +kernel
theorem dX6_taken_56 : decode cX6_taken 56 = .ok (.iload 4, 2) := by decide +kernel
theorem dX6_taken_58 : decode cX6_taken 58 = .ok (.iconst 5, 1) := by decide +kernel
theorem dX6_taken_59 : decode cX6_taken 59 = .ok (.if_icmp .eq 25, 3) := by decide +kernel
theorem dX6_taken_62 : decode cX6_taken 62 = .ok (.iload_n 3, 1) := by decide +kernel
theorem dX6_taken_63 : decode cX6_taken 63 = .ok (.iconst 2, 1) := by decide +kernel
theorem dX6_taken_64 : decode cX6_taken 64 = .ok (.if_icmp .ne 9, 3) := by decide +kernel
theorem dX6_taken_67 : decode cX6_taken 67 = .ok (.iload 4, 2) := by decide +kernel
theorem dX6_taken_69 : decode cX6_taken 69 = .ok (.iconst 4, 1) := by decide +kernel
theorem dX6_taken_70 : decode cX6_taken 70 = .ok (.if_icmp .eq 14, 3) := by decide +kernel
theorem dX6_taken_73 : decode cX6_taken 73 = .ok (.iload_n 3, 1) := by decide +kernel
theorem dX6_taken_74 : decode cX6_taken 74 = .ok (.iconst 3, 1) := by decide +kernel
theorem dX6_taken_75 : decode cX6_taken 75 = .ok (.if_icmp .ne 13, 3) := by decide +kernel
theorem dX6_taken_78 : decode cX6_taken 78 = .ok (.iload 4, 2) := by decide +kernel
theorem dX6_taken_80 : decode cX6_taken 80 = .ok (.iconst 5, 1) := by decide +kernel
theorem dX6_taken_81 : decode cX6_taken 81 = .ok (.if_icmp .ne 7, 3) := by decide +kernel
theorem dX6_taken_84 : decode cX6_taken 84 = .ok (.iconst 1, 1) := by decide +kernel
theorem dX6_taken_85 : decode cX6_taken 85 = .ok (.goto 4, 3) := by decide +kernel
theorem dX6_taken_88 : decode cX6_taken 88 = .ok (.iconst 0, 1) := by decide +kernel
theorem dX6_taken_89 : decode cX6_taken 89 = .ok (.istore 5, 2) := by decide +kernel
theorem dX6_taken_91 : decode cX6_taken 91 = .ok (.iload 5, 2) := by decide +kernel
theorem dX6_taken_93 : decode cX6_taken 93 = .ok (.ifCond .eq 8, 3) := by decide +kernel
theorem dX6_taken_96 : decode cX6_taken 96 = .ok (.iload 4, 2) := by decide +kernel
theorem dX6_taken_98 : decode cX6_taken 98 = .ok (.goto 5, 3) := by decide +kernel
theorem dX6_taken_101 : decode cX6_taken 101 = .ok (.bipush (-13), 2) := by decide +kernel
theorem dX6_taken_103 : decode cX6_taken 103 = .ok (.ireturn, 1) := by decide +kernel
theorem dX6_worthOf_0 : decode cX6_worthOf 0 = .ok (.iconst 0, 1) := by decide +kernel
theorem dX6_worthOf_1 : decode cX6_worthOf 1 = .ok (.istore 4, 2) := by decide +kernel
theorem dX6_worthOf_3 : decode cX6_worthOf 3 = .ok (.lconst 0, 1) := by decide +kernel
theorem dX6_worthOf_4 : decode cX6_worthOf 4 = .ok (.lstore 5, 2) := by decide +kernel
theorem dX6_worthOf_6 : decode cX6_worthOf 6 = .ok (.iconst 0, 1) := by decide +kernel
theorem dX6_worthOf_7 : decode cX6_worthOf 7 = .ok (.istore 7, 2) := by decide +kernel
theorem dX6_worthOf_9 : decode cX6_worthOf 9 = .ok (.iconst 0, 1) := by decide +kernel
theorem dX6_worthOf_10 : decode cX6_worthOf 10 = .ok (.istore 8, 2) := by decide +kernel
theorem dX6_worthOf_12 : decode cX6_worthOf 12 = .ok (.iconst 0, 1) := by decide +kernel
theorem dX6_worthOf_13 : decode cX6_worthOf 13 = .ok (.istore 9, 2) := by decide +kernel
theorem dX6_worthOf_15 : decode cX6_worthOf 15 = .ok (.fconst 0, 1) := by decide +kernel
theorem dX6_worthOf_16 : decode cX6_worthOf 16 = .ok (.fstore 10, 2) := by decide +kernel
theorem dX6_worthOf_18 : decode cX6_worthOf 18 = .ok (.iconst 0, 1) := by decide +kernel
theorem dX6_worthOf_19 : decode cX6_worthOf 19 = .ok (.istore 11, 2) := by decide +kernel
theorem dX6_worthOf_21 : decode cX6_worthOf 21 = .ok (.iload 11, 2) := by decide +kernel
theorem dX6_worthOf_23 : decode cX6_worthOf 23 = .ok (.iconst 4, 1) := by decide +kernel
theorem dX6_worthOf_24 : decode cX6_worthOf 24 = .ok (.if_icmp .ge 145, 3) := by decide +kernel
theorem dX6_worthOf_27 : decode cX6_worthOf 27 = .ok (.iconst 0, 1) := by decide +kernel
theorem dX6_worthOf_28 : decode cX6_worthOf 28 = .ok (.istore 12, 2) := by decide +kernel
theorem dX6_worthOf_30 : decode cX6_worthOf 30 = .ok (.iload 12, 2) := by decide +kernel
theorem dX6_worthOf_32 : decode cX6_worthOf 32 = .ok (.aload_n 0, 1) := by decide +kernel
theorem dX6_worthOf_33 : decode cX6_worthOf 33 = .ok (.getfield 9, 3) := by decide +kernel
theorem dX6_worthOf_36 : decode cX6_worthOf 36 = .ok (.iload 11, 2) := by decide +kernel
theorem dX6_worthOf_38 : decode cX6_worthOf 38 = .ok (.iaload, 1) := by decide +kernel
theorem dX6_worthOf_39 : decode cX6_worthOf 39 = .ok (.if_icmp .ge 124, 3) := by decide +kernel
theorem dX6_worthOf_42 : decode cX6_worthOf 42 = .ok (.aload_n 0, 1) := by decide +kernel
theorem dX6_worthOf_43 : decode cX6_worthOf 43 = .ok (.getfield 30, 3) := by decide +kernel
theorem dX6_worthOf_46 : decode cX6_worthOf 46 = .ok (.iload_n 1, 1) := by decide +kernel
theorem dX6_worthOf_47 : decode cX6_worthOf 47 = .ok (.aaload, 1) := by decide +kernel
theorem dX6_worthOf_48 : decode cX6_worthOf 48 = .ok (.iload 11, 2) := by decide +kernel
theorem dX6_worthOf_50 : decode cX6_worthOf 50 = .ok (.iaload, 1) := by decide +kernel
theorem dX6_worthOf_51 : decode cX6_worthOf 51 = .ok (.iload 12, 2) := by decide +kernel
theorem dX6_worthOf_53 : decode cX6_worthOf 53 = .ok (.ishr, 1) := by decide +kernel
theorem dX6_worthOf_54 : decode cX6_worthOf 54 = .ok (.iconst 1, 1) := by decide +kernel
theorem dX6_worthOf_55 : decode cX6_worthOf 55 = .ok (.iand, 1) := by decide +kernel
theorem dX6_worthOf_56 : decode cX6_worthOf 56 = .ok (.ifCond .eq 101, 3) := by decide +kernel
theorem dX6_worthOf_59 : decode cX6_worthOf 59 = .ok (.aload_n 0, 1) := by decide +kernel
theorem dX6_worthOf_60 : decode cX6_worthOf 60 = .ok (.getfield 21, 3) := by decide +kernel
theorem dX6_worthOf_63 : decode cX6_worthOf 63 = .ok (.iload 11, 2) := by decide +kernel
theorem dX6_worthOf_65 : decode cX6_worthOf 65 = .ok (.aaload, 1) := by decide +kernel
theorem dX6_worthOf_66 : decode cX6_worthOf 66 = .ok (.iload 12, 2) := by decide +kernel
theorem dX6_worthOf_68 : decode cX6_worthOf 68 = .ok (.iaload, 1) := by decide +kernel
theorem dX6_worthOf_69 : decode cX6_worthOf 69 = .ok (.iload_n 2, 1) := by decide +kernel
theorem dX6_worthOf_70 : decode cX6_worthOf 70 = .ok (.if_icmp .eq 6, 3) := by decide +kernel
theorem dX6_worthOf_73 : decode cX6_worthOf 73 = .ok (.goto 84, 3) := by decide +kernel
theorem dX6_worthOf_76 : decode cX6_worthOf 76 = .ok (.aload_n 0, 1) := by decide +kernel
theorem dX6_worthOf_77 : decode cX6_worthOf 77 = .ok (.getfield 15, 3) := by decide +kernel
theorem dX6_worthOf_80 : decode cX6_worthOf 80 = .ok (.iload 11, 2) := by decide +kernel
theorem dX6_worthOf_82 : decode cX6_worthOf 82 = .ok (.aaload, 1) := by decide +kernel
theorem dX6_worthOf_83 : decode cX6_worthOf 83 = .ok (.iload 12, 2) := by decide +kernel
theorem dX6_worthOf_85 : decode cX6_worthOf 85 = .ok (.iaload, 1) := by decide +kernel
theorem dX6_worthOf_86 : decode cX6_worthOf 86 = .ok (.istore 13, 2) := by decide +kernel
theorem dX6_worthOf_88 : decode cX6_worthOf 88 = .ok (.lload 5, 2) := by decide +kernel
theorem dX6_worthOf_90 : decode cX6_worthOf 90 = .ok (.iload 13, 2) := by decide +kernel
theorem dX6_worthOf_92 : decode cX6_worthOf 92 = .ok (.i2l, 1) := by decide +kernel
theorem dX6_worthOf_93 : decode cX6_worthOf 93 = .ok (.ladd, 1) := by decide +kernel
theorem dX6_worthOf_94 : decode cX6_worthOf 94 = .ok (.lstore 5, 2) := by decide +kernel
theorem dX6_worthOf_96 : decode cX6_worthOf 96 = .ok (.fload 10, 2) := by decide +kernel
theorem dX6_worthOf_98 : decode cX6_worthOf 98 = .ok (.iload 13, 2) := by decide +kernel
theorem dX6_worthOf_100 : decode cX6_worthOf 100 = .ok (.i2f, 1) := by decide +kernel
theorem dX6_worthOf_101 : decode cX6_worthOf 101 = .ok (.fadd, 1) := by decide +kernel
theorem dX6_worthOf_102 : decode cX6_worthOf 102 = .ok (.fstore 10, 2) := by decide +kernel
theorem dX6_worthOf_104 : decode cX6_worthOf 104 = .ok (.iload 4, 2) := by decide +kernel
theorem dX6_worthOf_106 : decode cX6_worthOf 106 = .ok (.ifCond .ne 8, 3) := by decide +kernel
theorem dX6_worthOf_109 : decode cX6_worthOf 109 = .ok (.iload 13, 2) := by decide +kernel
theorem dX6_worthOf_111 : decode cX6_worthOf 111 = .ok (.goto 10, 3) := by decide +kernel
theorem dX6_worthOf_114 : decode cX6_worthOf 114 = .ok (.iload 7, 2) := by decide +kernel
theorem dX6_worthOf_116 : decode cX6_worthOf 116 = .ok (.iload 13, 2) := by decide +kernel
theorem dX6_worthOf_118 : decode cX6_worthOf 118 = .ok (.invokestatic 125, 3) := by decide +kernel
theorem dX6_worthOf_121 : decode cX6_worthOf 121 = .ok (.istore 7, 2) := by decide +kernel
theorem dX6_worthOf_123 : decode cX6_worthOf 123 = .ok (.aload_n 0, 1) := by decide +kernel
theorem dX6_worthOf_124 : decode cX6_worthOf 124 = .ok (.getfield 18, 3) := by decide +kernel
theorem dX6_worthOf_127 : decode cX6_worthOf 127 = .ok (.iload 11, 2) := by decide +kernel
theorem dX6_worthOf_129 : decode cX6_worthOf 129 = .ok (.aaload, 1) := by decide +kernel
theorem dX6_worthOf_130 : decode cX6_worthOf 130 = .ok (.iload 12, 2) := by decide +kernel
theorem dX6_worthOf_132 : decode cX6_worthOf 132 = .ok (.iaload, 1) := by decide +kernel
theorem dX6_worthOf_133 : decode cX6_worthOf 133 = .ok (.iload 9, 2) := by decide +kernel
theorem dX6_worthOf_135 : decode cX6_worthOf 135 = .ok (.if_icmp .lt 19, 3) := by decide +kernel
theorem dX6_worthOf_138 : decode cX6_worthOf 138 = .ok (.aload_n 0, 1) := by decide +kernel
theorem dX6_worthOf_139 : decode cX6_worthOf 139 = .ok (.getfield 18, 3) := by decide +kernel
theorem dX6_worthOf_142 : decode cX6_worthOf 142 = .ok (.iload 11, 2) := by decide +kernel
theorem dX6_worthOf_144 : decode cX6_worthOf 144 = .ok (.aaload, 1) := by decide +kernel
theorem dX6_worthOf_145 : decode cX6_worthOf 145 = .ok (.iload 12, 2) := by decide +kernel
theorem dX6_worthOf_147 : decode cX6_worthOf 147 = .ok (.iaload, 1) := by decide +kernel
theorem dX6_worthOf_148 : decode cX6_worthOf 148 = .ok (.istore 9, 2) := by decide +kernel
theorem dX6_worthOf_150 : decode cX6_worthOf 150 = .ok (.iload 13, 2) := by decide +kernel
theorem dX6_worthOf_152 : decode cX6_worthOf 152 = .ok (.istore 8, 2) := by decide +kernel
theorem dX6_worthOf_154 : decode cX6_worthOf 154 = .ok (.iinc 4 1, 3) := by decide +kernel
theorem dX6_worthOf_157 : decode cX6_worthOf 157 = .ok (.iinc 12 1, 3) := by decide +kernel
theorem dX6_worthOf_160 : decode cX6_worthOf 160 = .ok (.goto (-130), 3) := by decide +kernel
theorem dX6_worthOf_163 : decode cX6_worthOf 163 = .ok (.iinc 11 1, 3) := by decide +kernel
theorem dX6_worthOf_166 : decode cX6_worthOf 166 = .ok (.goto (-145), 3) := by decide +kernel
theorem dX6_worthOf_169 : decode cX6_worthOf 169 = .ok (.iload_n 3, 1) := by decide +kernel
theorem dX6_worthOf_170 : decode cX6_worthOf 170 = .ok (.iconst 2, 1) := by decide +kernel
theorem dX6_worthOf_171 : decode cX6_worthOf 171 = .ok (.if_icmp .ge 9, 3) := by decide +kernel
theorem dX6_worthOf_174 : decode cX6_worthOf 174 = .ok (.iload 4, 2) := by decide +kernel
theorem dX6_worthOf_176 : decode cX6_worthOf 176 = .ok (.i2l, 1) := by decide +kernel
theorem dX6_worthOf_177 : decode cX6_worthOf 177 = .ok (.goto 54, 3) := by decide +kernel
theorem dX6_worthOf_180 : decode cX6_worthOf 180 = .ok (.iload_n 3, 1) := by decide +kernel
theorem dX6_worthOf_181 : decode cX6_worthOf 181 = .ok (.iconst 2, 1) := by decide +kernel
theorem dX6_worthOf_182 : decode cX6_worthOf 182 = .ok (.if_icmp .ne 8, 3) := by decide +kernel
theorem dX6_worthOf_185 : decode cX6_worthOf 185 = .ok (.lload 5, 2) := by decide +kernel
theorem dX6_worthOf_187 : decode cX6_worthOf 187 = .ok (.goto 44, 3) := by decide +kernel
theorem dX6_worthOf_190 : decode cX6_worthOf 190 = .ok (.iload_n 3, 1) := by decide +kernel
theorem dX6_worthOf_191 : decode cX6_worthOf 191 = .ok (.iconst 3, 1) := by decide +kernel
theorem dX6_worthOf_192 : decode cX6_worthOf 192 = .ok (.if_icmp .ne 9, 3) := by decide +kernel
theorem dX6_worthOf_195 : decode cX6_worthOf 195 = .ok (.iload 8, 2) := by decide +kernel
theorem dX6_worthOf_197 : decode cX6_worthOf 197 = .ok (.i2l, 1) := by decide +kernel
theorem dX6_worthOf_198 : decode cX6_worthOf 198 = .ok (.goto 33, 3) := by decide +kernel
theorem dX6_worthOf_201 : decode cX6_worthOf 201 = .ok (.iload_n 3, 1) := by decide +kernel
theorem dX6_worthOf_202 : decode cX6_worthOf 202 = .ok (.iconst 4, 1) := by decide +kernel
theorem dX6_worthOf_203 : decode cX6_worthOf 203 = .ok (.if_icmp .ne 9, 3) := by decide +kernel
theorem dX6_worthOf_206 : decode cX6_worthOf 206 = .ok (.iload 7, 2) := by decide +kernel
theorem dX6_worthOf_208 : decode cX6_worthOf 208 = .ok (.i2l, 1) := by decide +kernel
theorem dX6_worthOf_209 : decode cX6_worthOf 209 = .ok (.goto 22, 3) := by decide +kernel
theorem dX6_worthOf_212 : decode cX6_worthOf 212 = .ok (.iload 4, 2) := by decide +kernel
theorem dX6_worthOf_214 : decode cX6_worthOf 214 = .ok (.ifCond .ne 7, 3) := by decide +kernel
theorem dX6_worthOf_217 : decode cX6_worthOf 217 = .ok (.lconst 0, 1) := by decide +kernel
theorem dX6_worthOf_218 : decode cX6_worthOf 218 = .ok (.goto 13, 3) := by decide +kernel
theorem dX6_worthOf_221 : decode cX6_worthOf 221 = .ok (.fload 10, 2) := by decide +kernel
theorem dX6_worthOf_223 : decode cX6_worthOf 223 = .ok (.iload 4, 2) := by decide +kernel
theorem dX6_worthOf_225 : decode cX6_worthOf 225 = .ok (.i2f, 1) := by decide +kernel
theorem dX6_worthOf_226 : decode cX6_worthOf 226 = .ok (.fdiv, 1) := by decide +kernel
theorem dX6_worthOf_227 : decode cX6_worthOf 227 = .ok (.invokestatic 151, 3) := by decide +kernel
theorem dX6_worthOf_230 : decode cX6_worthOf 230 = .ok (.i2l, 1) := by decide +kernel
theorem dX6_worthOf_231 : decode cX6_worthOf 231 = .ok (.lreturn, 1) := by decide +kernel
theorem dX6_worthNow_0 : decode cX6_worthNow 0 = .ok (.aload_n 0, 1) := by decide +kernel
theorem dX6_worthNow_1 : decode cX6_worthNow 1 = .ok (.iload_n 1, 1) := by decide +kernel
theorem dX6_worthNow_2 : decode cX6_worthNow 2 = .ok (.iload_n 2, 1) := by decide +kernel
theorem dX6_worthNow_3 : decode cX6_worthNow 3 = .ok (.aload_n 0, 1) := by decide +kernel
theorem dX6_worthNow_4 : decode cX6_worthNow 4 = .ok (.getfield 24, 3) := by decide +kernel
theorem dX6_worthNow_7 : decode cX6_worthNow 7 = .ok (.iload_n 2, 1) := by decide +kernel
theorem dX6_worthNow_8 : decode cX6_worthNow 8 = .ok (.iaload, 1) := by decide +kernel
theorem dX6_worthNow_9 : decode cX6_worthNow 9 = .ok (.invokevirtual 157, 3) := by decide +kernel
theorem dX6_worthNow_12 : decode cX6_worthNow 12 = .ok (.lreturn, 1) := by decide +kernel
theorem dX6_worth_0 : decode cX6_worth 0 = .ok (.iload_n 1, 1) := by decide +kernel
theorem dX6_worth_1 : decode cX6_worth 1 = .ok (.invokestatic 131, 3) := by decide +kernel
theorem dX6_worth_4 : decode cX6_worth 4 = .ok (.ifCond .eq 24, 3) := by decide +kernel
theorem dX6_worth_7 : decode cX6_worth 7 = .ok (.iload_n 2, 1) := by decide +kernel
theorem dX6_worth_8 : decode cX6_worth 8 = .ok (.iload_n 3, 1) := by decide +kernel
theorem dX6_worth_9 : decode cX6_worth 9 = .ok (.invokestatic 135, 3) := by decide +kernel
theorem dX6_worth_12 : decode cX6_worth 12 = .ok (.ifCond .eq 16, 3) := by decide +kernel
theorem dX6_worth_15 : decode cX6_worth 15 = .ok (.aload_n 0, 1) := by decide +kernel
theorem dX6_worth_16 : decode cX6_worth 16 = .ok (.iload_n 1, 1) := by decide +kernel
theorem dX6_worth_17 : decode cX6_worth 17 = .ok (.iconst 4, 1) := by decide +kernel
theorem dX6_worth_18 : decode cX6_worth 18 = .ok (.iload_n 2, 1) := by decide +kernel
theorem dX6_worth_19 : decode cX6_worth 19 = .ok (.imul, 1) := by decide +kernel
theorem dX6_worth_20 : decode cX6_worth 20 = .ok (.iload_n 3, 1) := by decide +kernel
theorem dX6_worth_21 : decode cX6_worth 21 = .ok (.iadd, 1) := by decide +kernel
theorem dX6_worth_22 : decode cX6_worth 22 = .ok (.invokevirtual 161, 3) := by decide +kernel
theorem dX6_worth_25 : decode cX6_worth 25 = .ok (.goto 8, 3) := by decide +kernel
theorem dX6_worth_28 : decode cX6_worth 28 = .ok (.bipush (-2), 2) := by decide +kernel
theorem dX6_worth_30 : decode cX6_worth 30 = .ok (.invokestatic 165, 3) := by decide +kernel
theorem dX6_worth_33 : decode cX6_worth 33 = .ok (.lreturn, 1) := by decide +kernel
theorem dX6_stable_0 : decode cX6_stable 0 = .ok (.aload_n 0, 1) := by decide +kernel
theorem dX6_stable_1 : decode cX6_stable 1 = .ok (.getfield 27, 3) := by decide +kernel
theorem dX6_stable_4 : decode cX6_stable 4 = .ok (.iload_n 1, 1) := by decide +kernel
theorem dX6_stable_5 : decode cX6_stable 5 = .ok (.aaload, 1) := by decide +kernel
theorem dX6_stable_6 : decode cX6_stable 6 = .ok (.iload_n 2, 1) := by decide +kernel
theorem dX6_stable_7 : decode cX6_stable 7 = .ok (.iaload, 1) := by decide +kernel
theorem dX6_stable_8 : decode cX6_stable 8 = .ok (.istore_n 3, 1) := by decide +kernel
theorem dX6_stable_9 : decode cX6_stable 9 = .ok (.iconst 0, 1) := by decide +kernel
theorem dX6_stable_10 : decode cX6_stable 10 = .ok (.istore 4, 2) := by decide +kernel
theorem dX6_stable_12 : decode cX6_stable 12 = .ok (.iload 4, 2) := by decide +kernel
theorem dX6_stable_14 : decode cX6_stable 14 = .ok (.iconst 4, 1) := by decide +kernel
theorem dX6_stable_15 : decode cX6_stable 15 = .ok (.if_icmp .ge 31, 3) := by decide +kernel
theorem dX6_stable_18 : decode cX6_stable 18 = .ok (.iload 4, 2) := by decide +kernel
theorem dX6_stable_20 : decode cX6_stable 20 = .ok (.iload_n 1, 1) := by decide +kernel
theorem dX6_stable_21 : decode cX6_stable 21 = .ok (.if_icmp .eq 19, 3) := by decide +kernel
theorem dX6_stable_24 : decode cX6_stable 24 = .ok (.iload_n 3, 1) := by decide +kernel
theorem dX6_stable_25 : decode cX6_stable 25 = .ok (.aload_n 0, 1) := by decide +kernel
theorem dX6_stable_26 : decode cX6_stable 26 = .ok (.getfield 33, 3) := by decide +kernel
theorem dX6_stable_29 : decode cX6_stable 29 = .ok (.iconst 4, 1) := by decide +kernel
theorem dX6_stable_30 : decode cX6_stable 30 = .ok (.iload_n 1, 1) := by decide +kernel
theorem dX6_stable_31 : decode cX6_stable 31 = .ok (.imul, 1) := by decide +kernel
theorem dX6_stable_32 : decode cX6_stable 32 = .ok (.iload 4, 2) := by decide +kernel
theorem dX6_stable_34 : decode cX6_stable 34 = .ok (.iadd, 1) := by decide +kernel
theorem dX6_stable_35 : decode cX6_stable 35 = .ok (.aaload, 1) := by decide +kernel
theorem dX6_stable_36 : decode cX6_stable 36 = .ok (.iload_n 2, 1) := by decide +kernel
theorem dX6_stable_37 : decode cX6_stable 37 = .ok (.iaload, 1) := by decide +kernel
theorem dX6_stable_38 : decode cX6_stable 38 = .ok (.iand, 1) := by decide +kernel
theorem dX6_stable_39 : decode cX6_stable 39 = .ok (.istore_n 3, 1) := by decide +kernel
theorem dX6_stable_40 : decode cX6_stable 40 = .ok (.iinc 4 1, 3) := by decide +kernel
theorem dX6_stable_43 : decode cX6_stable 43 = .ok (.goto (-31), 3) := by decide +kernel
theorem dX6_stable_46 : decode cX6_stable 46 = .ok (.iload_n 3, 1) := by decide +kernel
theorem dX6_stable_47 : decode cX6_stable 47 = .ok (.ireturn, 1) := by decide +kernel
theorem dX6_tags_0 : decode cX6_tags 0 = .ok (.aload_n 0, 1) := by decide +kernel
theorem dX6_tags_1 : decode cX6_tags 1 = .ok (.getfield 27, 3) := by decide +kernel
theorem dX6_tags_4 : decode cX6_tags 4 = .ok (.iload_n 1, 1) := by decide +kernel
theorem dX6_tags_5 : decode cX6_tags 5 = .ok (.aaload, 1) := by decide +kernel
theorem dX6_tags_6 : decode cX6_tags 6 = .ok (.iload_n 2, 1) := by decide +kernel
theorem dX6_tags_7 : decode cX6_tags 7 = .ok (.iaload, 1) := by decide +kernel
theorem dX6_tags_8 : decode cX6_tags 8 = .ok (.aload_n 0, 1) := by decide +kernel
theorem dX6_tags_9 : decode cX6_tags 9 = .ok (.getfield 30, 3) := by decide +kernel
theorem dX6_tags_12 : decode cX6_tags 12 = .ok (.iload_n 1, 1) := by decide +kernel
theorem dX6_tags_13 : decode cX6_tags 13 = .ok (.aaload, 1) := by decide +kernel
theorem dX6_tags_14 : decode cX6_tags 14 = .ok (.iload_n 2, 1) := by decide +kernel
theorem dX6_tags_15 : decode cX6_tags 15 = .ok (.iaload, 1) := by decide +kernel
theorem dX6_tags_16 : decode cX6_tags 16 = .ok (.iconst (-1), 1) := by decide +kernel
theorem dX6_tags_17 : decode cX6_tags 17 = .ok (.ixor, 1) := by decide +kernel
theorem dX6_tags_18 : decode cX6_tags 18 = .ok (.iand, 1) := by decide +kernel
theorem dX6_tags_19 : decode cX6_tags 19 = .ok (.aload_n 0, 1) := by decide +kernel
theorem dX6_tags_20 : decode cX6_tags 20 = .ok (.iload_n 1, 1) := by decide +kernel
theorem dX6_tags_21 : decode cX6_tags 21 = .ok (.iload_n 2, 1) := by decide +kernel
theorem dX6_tags_22 : decode cX6_tags 22 = .ok (.invokevirtual 169, 3) := by decide +kernel
theorem dX6_tags_25 : decode cX6_tags 25 = .ok (.iconst (-1), 1) := by decide +kernel
theorem dX6_tags_26 : decode cX6_tags 26 = .ok (.ixor, 1) := by decide +kernel
theorem dX6_tags_27 : decode cX6_tags 27 = .ok (.iand, 1) := by decide +kernel
theorem dX6_tags_28 : decode cX6_tags 28 = .ok (.ireturn, 1) := by decide +kernel
theorem dX6_told_0 : decode cX6_told 0 = .ok (.iload_n 1, 1) := by decide +kernel
theorem dX6_told_1 : decode cX6_told 1 = .ok (.invokestatic 131, 3) := by decide +kernel
theorem dX6_told_4 : decode cX6_told 4 = .ok (.ifCond .eq 36, 3) := by decide +kernel
theorem dX6_told_7 : decode cX6_told 7 = .ok (.iload_n 2, 1) := by decide +kernel
theorem dX6_told_8 : decode cX6_told 8 = .ok (.invokestatic 131, 3) := by decide +kernel
theorem dX6_told_11 : decode cX6_told 11 = .ok (.ifCond .eq 29, 3) := by decide +kernel
theorem dX6_told_14 : decode cX6_told 14 = .ok (.iload_n 3, 1) := by decide +kernel
theorem dX6_told_15 : decode cX6_told 15 = .ok (.i2l, 1) := by decide +kernel
theorem dX6_told_16 : decode cX6_told 16 = .ok (.lconst 0, 1) := by decide +kernel
theorem dX6_told_17 : decode cX6_told 17 = .ok (.ldc2_w 84, 3) := by decide +kernel
theorem dX6_told_20 : decode cX6_told 20 = .ok (.invokestatic 86, 3) := by decide +kernel
theorem dX6_told_23 : decode cX6_told 23 = .ok (.ifCond .ne 20, 3) := by decide +kernel
theorem dX6_told_26 : decode cX6_told 26 = .ok (.iload_n 3, 1) := by decide +kernel
theorem dX6_told_27 : decode cX6_told 27 = .ok (.i2l, 1) := by decide +kernel
theorem dX6_told_28 : decode cX6_told 28 = .ok (.ldc2_w 172, 3) := by decide +kernel
theorem dX6_told_31 : decode cX6_told 31 = .ok (.ldc2_w 174, 3) := by decide +kernel
theorem dX6_told_34 : decode cX6_told 34 = .ok (.invokestatic 86, 3) := by decide +kernel
theorem dX6_told_37 : decode cX6_told 37 = .ok (.ifCond .ne 6, 3) := by decide +kernel
theorem dX6_told_40 : decode cX6_told 40 = .ok (.bipush (-2), 2) := by decide +kernel
theorem dX6_told_42 : decode cX6_told 42 = .ok (.ireturn, 1) := by decide +kernel
theorem dX6_told_43 : decode cX6_told 43 = .ok (.iload_n 3, 1) := by decide +kernel
theorem dX6_told_44 : decode cX6_told 44 = .ok (.bipush 10, 2) := by decide +kernel
theorem dX6_told_46 : decode cX6_told 46 = .ok (.if_icmp .lt 38, 3) := by decide +kernel
theorem dX6_told_49 : decode cX6_told 49 = .ok (.iload_n 2, 1) := by decide +kernel
theorem dX6_told_50 : decode cX6_told 50 = .ok (.iload_n 1, 1) := by decide +kernel
theorem dX6_told_51 : decode cX6_told 51 = .ok (.if_icmp .ne 17, 3) := by decide +kernel
theorem dX6_told_54 : decode cX6_told 54 = .ok (.aload_n 0, 1) := by decide +kernel
theorem dX6_told_55 : decode cX6_told 55 = .ok (.getfield 27, 3) := by decide +kernel
theorem dX6_told_58 : decode cX6_told 58 = .ok (.iload_n 1, 1) := by decide +kernel
theorem dX6_told_59 : decode cX6_told 59 = .ok (.aaload, 1) := by decide +kernel
theorem dX6_told_60 : decode cX6_told 60 = .ok (.iload_n 3, 1) := by decide +kernel
theorem dX6_told_61 : decode cX6_told 61 = .ok (.bipush 10, 2) := by decide +kernel
theorem dX6_told_63 : decode cX6_told 63 = .ok (.isub, 1) := by decide +kernel
theorem dX6_told_64 : decode cX6_told 64 = .ok (.iaload, 1) := by decide +kernel
theorem dX6_told_65 : decode cX6_told 65 = .ok (.goto 18, 3) := by decide +kernel
theorem dX6_told_68 : decode cX6_told 68 = .ok (.aload_n 0, 1) := by decide +kernel
theorem dX6_told_69 : decode cX6_told 69 = .ok (.getfield 33, 3) := by decide +kernel
theorem dX6_told_72 : decode cX6_told 72 = .ok (.iconst 4, 1) := by decide +kernel
theorem dX6_told_73 : decode cX6_told 73 = .ok (.iload_n 1, 1) := by decide +kernel
theorem dX6_told_74 : decode cX6_told 74 = .ok (.imul, 1) := by decide +kernel
theorem dX6_told_75 : decode cX6_told 75 = .ok (.iload_n 2, 1) := by decide +kernel
theorem dX6_told_76 : decode cX6_told 76 = .ok (.iadd, 1) := by decide +kernel
theorem dX6_told_77 : decode cX6_told 77 = .ok (.aaload, 1) := by decide +kernel
theorem dX6_told_78 : decode cX6_told 78 = .ok (.iload_n 3, 1) := by decide +kernel
theorem dX6_told_79 : decode cX6_told 79 = .ok (.bipush 10, 2) := by decide +kernel
theorem dX6_told_81 : decode cX6_told 81 = .ok (.isub, 1) := by decide +kernel
theorem dX6_told_82 : decode cX6_told 82 = .ok (.iaload, 1) := by decide +kernel
theorem dX6_told_83 : decode cX6_told 83 = .ok (.ireturn, 1) := by decide +kernel
theorem dX6_told_84 : decode cX6_told 84 = .ok (.iload_n 3, 1) := by decide +kernel
theorem dX6_told_85 : decode cX6_told 85 = .ok (.ifCond .ne 14, 3) := by decide +kernel
theorem dX6_told_88 : decode cX6_told 88 = .ok (.aload_n 0, 1) := by decide +kernel
theorem dX6_told_89 : decode cX6_told 89 = .ok (.getfield 27, 3) := by decide +kernel
theorem dX6_told_92 : decode cX6_told 92 = .ok (.iload_n 1, 1) := by decide +kernel
theorem dX6_told_93 : decode cX6_told 93 = .ok (.aaload, 1) := by decide +kernel
theorem dX6_told_94 : decode cX6_told 94 = .ok (.iload_n 2, 1) := by decide +kernel
theorem dX6_told_95 : decode cX6_told 95 = .ok (.iaload, 1) := by decide +kernel
theorem dX6_told_96 : decode cX6_told 96 = .ok (.goto 39, 3) := by decide +kernel
theorem dX6_told_99 : decode cX6_told 99 = .ok (.iload_n 3, 1) := by decide +kernel
theorem dX6_told_100 : decode cX6_told 100 = .ok (.iconst 1, 1) := by decide +kernel
theorem dX6_told_101 : decode cX6_told 101 = .ok (.if_icmp .ne 14, 3) := by decide +kernel
theorem dX6_told_104 : decode cX6_told 104 = .ok (.aload_n 0, 1) := by decide +kernel
theorem dX6_told_105 : decode cX6_told 105 = .ok (.getfield 30, 3) := by decide +kernel
theorem dX6_told_108 : decode cX6_told 108 = .ok (.iload_n 1, 1) := by decide +kernel
theorem dX6_told_109 : decode cX6_told 109 = .ok (.aaload, 1) := by decide +kernel
theorem dX6_told_110 : decode cX6_told 110 = .ok (.iload_n 2, 1) := by decide +kernel
theorem dX6_told_111 : decode cX6_told 111 = .ok (.iaload, 1) := by decide +kernel
theorem dX6_told_112 : decode cX6_told 112 = .ok (.goto 23, 3) := by decide +kernel
theorem dX6_told_115 : decode cX6_told 115 = .ok (.iload_n 3, 1) := by decide +kernel
theorem dX6_told_116 : decode cX6_told 116 = .ok (.iconst 2, 1) := by decide +kernel
theorem dX6_told_117 : decode cX6_told 117 = .ok (.if_icmp .ne 12, 3) := by decide +kernel
theorem dX6_told_120 : decode cX6_told 120 = .ok (.aload_n 0, 1) := by decide +kernel
theorem dX6_told_121 : decode cX6_told 121 = .ok (.iload_n 1, 1) := by decide +kernel
theorem dX6_told_122 : decode cX6_told 122 = .ok (.iload_n 2, 1) := by decide +kernel
theorem dX6_told_123 : decode cX6_told 123 = .ok (.invokevirtual 169, 3) := by decide +kernel
theorem dX6_told_126 : decode cX6_told 126 = .ok (.goto 9, 3) := by decide +kernel
theorem dX6_told_129 : decode cX6_told 129 = .ok (.aload_n 0, 1) := by decide +kernel
theorem dX6_told_130 : decode cX6_told 130 = .ok (.iload_n 1, 1) := by decide +kernel
theorem dX6_told_131 : decode cX6_told 131 = .ok (.iload_n 2, 1) := by decide +kernel
theorem dX6_told_132 : decode cX6_told 132 = .ok (.invokevirtual 176, 3) := by decide +kernel
theorem dX6_told_135 : decode cX6_told 135 = .ok (.ireturn, 1) := by decide +kernel
theorem dX6_dot_0 : decode cX6_dot 0 = .ok (.iload_n 3, 1) := by decide +kernel
theorem dX6_dot_1 : decode cX6_dot 1 = .ok (.i2l, 1) := by decide +kernel
theorem dX6_dot_2 : decode cX6_dot 2 = .ok (.lconst 0, 1) := by decide +kernel
theorem dX6_dot_3 : decode cX6_dot 3 = .ok (.ldc2_w 90, 3) := by decide +kernel
theorem dX6_dot_6 : decode cX6_dot 6 = .ok (.invokestatic 86, 3) := by decide +kernel
theorem dX6_dot_9 : decode cX6_dot 9 = .ok (.ifCond .ne 6, 3) := by decide +kernel
theorem dX6_dot_12 : decode cX6_dot 12 = .ok (.bipush (-2), 2) := by decide +kernel
theorem dX6_dot_14 : decode cX6_dot 14 = .ok (.ireturn, 1) := by decide +kernel
theorem dX6_dot_15 : decode cX6_dot 15 = .ok (.iload_n 1, 1) := by decide +kernel
theorem dX6_dot_16 : decode cX6_dot 16 = .ok (.invokestatic 131, 3) := by decide +kernel
theorem dX6_dot_19 : decode cX6_dot 19 = .ok (.ifCond .eq 21, 3) := by decide +kernel
theorem dX6_dot_22 : decode cX6_dot 22 = .ok (.iload_n 2, 1) := by decide +kernel
theorem dX6_dot_23 : decode cX6_dot 23 = .ok (.i2l, 1) := by decide +kernel
theorem dX6_dot_24 : decode cX6_dot 24 = .ok (.lconst 0, 1) := by decide +kernel
theorem dX6_dot_25 : decode cX6_dot 25 = .ok (.aload_n 0, 1) := by decide +kernel
theorem dX6_dot_26 : decode cX6_dot 26 = .ok (.getfield 9, 3) := by decide +kernel
theorem dX6_dot_29 : decode cX6_dot 29 = .ok (.iload_n 1, 1) := by decide +kernel
theorem dX6_dot_30 : decode cX6_dot 30 = .ok (.iaload, 1) := by decide +kernel
theorem dX6_dot_31 : decode cX6_dot 31 = .ok (.iconst 1, 1) := by decide +kernel
theorem dX6_dot_32 : decode cX6_dot 32 = .ok (.isub, 1) := by decide +kernel
theorem dX6_dot_33 : decode cX6_dot 33 = .ok (.i2l, 1) := by decide +kernel
theorem dX6_dot_34 : decode cX6_dot 34 = .ok (.invokestatic 86, 3) := by decide +kernel
theorem dX6_dot_37 : decode cX6_dot 37 = .ok (.ifCond .ne 6, 3) := by decide +kernel
theorem dX6_dot_40 : decode cX6_dot 40 = .ok (.bipush (-12), 2) := by decide +kernel
theorem dX6_dot_42 : decode cX6_dot 42 = .ok (.ireturn, 1) := by decide +kernel
theorem dX6_dot_43 : decode cX6_dot 43 = .ok (.aload_n 0, 1) := by decide +kernel
theorem dX6_dot_44 : decode cX6_dot 44 = .ok (.getfield 21, 3) := by decide +kernel
theorem dX6_dot_47 : decode cX6_dot 47 = .ok (.iload_n 1, 1) := by decide +kernel
theorem dX6_dot_48 : decode cX6_dot 48 = .ok (.aaload, 1) := by decide +kernel
theorem dX6_dot_49 : decode cX6_dot 49 = .ok (.iload_n 2, 1) := by decide +kernel
theorem dX6_dot_50 : decode cX6_dot 50 = .ok (.iaload, 1) := by decide +kernel
theorem dX6_dot_51 : decode cX6_dot 51 = .ok (.istore 4, 2) := by decide +kernel
theorem dX6_dot_53 : decode cX6_dot 53 = .ok (.iload_n 3, 1) := by decide +kernel
theorem dX6_dot_54 : decode cX6_dot 54 = .ok (.ifCond .ne 14, 3) := by decide +kernel
theorem dX6_dot_57 : decode cX6_dot 57 = .ok (.aload_n 0, 1) := by decide +kernel
theorem dX6_dot_58 : decode cX6_dot 58 = .ok (.getfield 15, 3) := by decide +kernel
theorem dX6_dot_61 : decode cX6_dot 61 = .ok (.iload_n 1, 1) := by decide +kernel
theorem dX6_dot_62 : decode cX6_dot 62 = .ok (.aaload, 1) := by decide +kernel
theorem dX6_dot_63 : decode cX6_dot 63 = .ok (.iload_n 2, 1) := by decide +kernel
theorem dX6_dot_64 : decode cX6_dot 64 = .ok (.iaload, 1) := by decide +kernel
theorem dX6_dot_65 : decode cX6_dot 65 = .ok (.goto 31, 3) := by decide +kernel
theorem dX6_dot_68 : decode cX6_dot 68 = .ok (.iload_n 3, 1) := by decide +kernel
theorem dX6_dot_69 : decode cX6_dot 69 = .ok (.iconst 1, 1) := by decide +kernel
theorem dX6_dot_70 : decode cX6_dot 70 = .ok (.if_icmp .ne 14, 3) := by decide +kernel
theorem dX6_dot_73 : decode cX6_dot 73 = .ok (.aload_n 0, 1) := by decide +kernel
theorem dX6_dot_74 : decode cX6_dot 74 = .ok (.getfield 18, 3) := by decide +kernel
theorem dX6_dot_77 : decode cX6_dot 77 = .ok (.iload_n 1, 1) := by decide +kernel
theorem dX6_dot_78 : decode cX6_dot 78 = .ok (.aaload, 1) := by decide +kernel
theorem dX6_dot_79 : decode cX6_dot 79 = .ok (.iload_n 2, 1) := by decide +kernel
theorem dX6_dot_80 : decode cX6_dot 80 = .ok (.iaload, 1) := by decide +kernel
theorem dX6_dot_81 : decode cX6_dot 81 = .ok (.goto 15, 3) := by decide +kernel
theorem dX6_dot_84 : decode cX6_dot 84 = .ok (.bipush 10, 2) := by decide +kernel
theorem dX6_dot_86 : decode cX6_dot 86 = .ok (.iload 4, 2) := by decide +kernel
theorem dX6_dot_88 : decode cX6_dot 88 = .ok (.iconst 4, 1) := by decide +kernel
theorem dX6_dot_89 : decode cX6_dot 89 = .ok (.idiv, 1) := by decide +kernel
theorem dX6_dot_90 : decode cX6_dot 90 = .ok (.imul, 1) := by decide +kernel
theorem dX6_dot_91 : decode cX6_dot 91 = .ok (.iload 4, 2) := by decide +kernel
theorem dX6_dot_93 : decode cX6_dot 93 = .ok (.iconst 4, 1) := by decide +kernel
theorem dX6_dot_94 : decode cX6_dot 94 = .ok (.irem, 1) := by decide +kernel
theorem dX6_dot_95 : decode cX6_dot 95 = .ok (.iadd, 1) := by decide +kernel
theorem dX6_dot_96 : decode cX6_dot 96 = .ok (.ireturn, 1) := by decide +kernel
theorem dX6_has_0 : decode cX6_has 0 = .ok (.iload_n 1, 1) := by decide +kernel
theorem dX6_has_1 : decode cX6_has 1 = .ok (.invokestatic 131, 3) := by decide +kernel
theorem dX6_has_4 : decode cX6_has 4 = .ok (.ifCond .eq 11, 3) := by decide +kernel
theorem dX6_has_7 : decode cX6_has 7 = .ok (.iload_n 2, 1) := by decide +kernel
theorem dX6_has_8 : decode cX6_has 8 = .ok (.iload_n 3, 1) := by decide +kernel
theorem dX6_has_9 : decode cX6_has 9 = .ok (.invokestatic 135, 3) := by decide +kernel
theorem dX6_has_12 : decode cX6_has 12 = .ok (.ifCond .ne 6, 3) := by decide +kernel
theorem dX6_has_15 : decode cX6_has 15 = .ok (.bipush (-2), 2) := by decide +kernel
theorem dX6_has_17 : decode cX6_has 17 = .ok (.ireturn, 1) := by decide +kernel
theorem dX6_has_18 : decode cX6_has 18 = .ok (.aload_n 0, 1) := by decide +kernel
theorem dX6_has_19 : decode cX6_has 19 = .ok (.iload_n 1, 1) := by decide +kernel
theorem dX6_has_20 : decode cX6_has 20 = .ok (.iload_n 2, 1) := by decide +kernel
theorem dX6_has_21 : decode cX6_has 21 = .ok (.iconst 4, 1) := by decide +kernel
theorem dX6_has_22 : decode cX6_has 22 = .ok (.iload_n 2, 1) := by decide +kernel
theorem dX6_has_23 : decode cX6_has 23 = .ok (.imul, 1) := by decide +kernel
theorem dX6_has_24 : decode cX6_has 24 = .ok (.iload_n 3, 1) := by decide +kernel
theorem dX6_has_25 : decode cX6_has 25 = .ok (.iadd, 1) := by decide +kernel
theorem dX6_has_26 : decode cX6_has 26 = .ok (.iconst 2, 1) := by decide +kernel
theorem dX6_has_27 : decode cX6_has 27 = .ok (.iload 4, 2) := by decide +kernel
theorem dX6_has_29 : decode cX6_has 29 = .ok (.invokevirtual 139, 3) := by decide +kernel
theorem dX6_has_32 : decode cX6_has 32 = .ok (.ireturn, 1) := by decide +kernel
theorem dX6_handOn_0 : decode cX6_handOn 0 = .ok (.aload_n 0, 1) := by decide +kernel
theorem dX6_handOn_1 : decode cX6_handOn 1 = .ok (.getfield 36, 3) := by decide +kernel
theorem dX6_handOn_4 : decode cX6_handOn 4 = .ok (.iload_n 2, 1) := by decide +kernel
theorem dX6_handOn_5 : decode cX6_handOn 5 = .ok (.aload_n 0, 1) := by decide +kernel
theorem dX6_handOn_6 : decode cX6_handOn 6 = .ok (.getfield 36, 3) := by decide +kernel
theorem dX6_handOn_9 : decode cX6_handOn 9 = .ok (.iload_n 1, 1) := by decide +kernel
theorem dX6_handOn_10 : decode cX6_handOn 10 = .ok (.iaload, 1) := by decide +kernel
theorem dX6_handOn_11 : decode cX6_handOn 11 = .ok (.iastore, 1) := by decide +kernel
theorem dX6_handOn_12 : decode cX6_handOn 12 = .ok (.aload_n 0, 1) := by decide +kernel
theorem dX6_handOn_13 : decode cX6_handOn 13 = .ok (.getfield 39, 3) := by decide +kernel
theorem dX6_handOn_16 : decode cX6_handOn 16 = .ok (.iload_n 2, 1) := by decide +kernel
theorem dX6_handOn_17 : decode cX6_handOn 17 = .ok (.aload_n 0, 1) := by decide +kernel
theorem dX6_handOn_18 : decode cX6_handOn 18 = .ok (.getfield 39, 3) := by decide +kernel
theorem dX6_handOn_21 : decode cX6_handOn 21 = .ok (.iload_n 1, 1) := by decide +kernel
theorem dX6_handOn_22 : decode cX6_handOn 22 = .ok (.iaload, 1) := by decide +kernel
theorem dX6_handOn_23 : decode cX6_handOn 23 = .ok (.iastore, 1) := by decide +kernel
theorem dX6_handOn_24 : decode cX6_handOn 24 = .ok (.aload_n 0, 1) := by decide +kernel
theorem dX6_handOn_25 : decode cX6_handOn 25 = .ok (.bipush 20, 2) := by decide +kernel
theorem dX6_handOn_27 : decode cX6_handOn 27 = .ok (.iload_n 1, 1) := by decide +kernel
theorem dX6_handOn_28 : decode cX6_handOn 28 = .ok (.iadd, 1) := by decide +kernel
theorem dX6_handOn_29 : decode cX6_handOn 29 = .ok (.bipush 20, 2) := by decide +kernel
theorem dX6_handOn_31 : decode cX6_handOn 31 = .ok (.iload_n 2, 1) := by decide +kernel
theorem dX6_handOn_32 : decode cX6_handOn 32 = .ok (.iadd, 1) := by decide +kernel
theorem dX6_handOn_33 : decode cX6_handOn 33 = .ok (.invokevirtual 110, 3) := by decide +kernel
theorem dX6_handOn_36 : decode cX6_handOn 36 = .ok (.aload_n 0, 1) := by decide +kernel
theorem dX6_handOn_37 : decode cX6_handOn 37 = .ok (.getfield 42, 3) := by decide +kernel
theorem dX6_handOn_40 : decode cX6_handOn 40 = .ok (.iload_n 1, 1) := by decide +kernel
theorem dX6_handOn_41 : decode cX6_handOn 41 = .ok (.aaload, 1) := by decide +kernel
theorem dX6_handOn_42 : decode cX6_handOn 42 = .ok (.iconst 0, 1) := by decide +kernel
theorem dX6_handOn_43 : decode cX6_handOn 43 = .ok (.aload_n 0, 1) := by decide +kernel
theorem dX6_handOn_44 : decode cX6_handOn 44 = .ok (.getfield 42, 3) := by decide +kernel
theorem dX6_handOn_47 : decode cX6_handOn 47 = .ok (.iload_n 2, 1) := by decide +kernel
theorem dX6_handOn_48 : decode cX6_handOn 48 = .ok (.aaload, 1) := by decide +kernel
theorem dX6_handOn_49 : decode cX6_handOn 49 = .ok (.iconst 0, 1) := by decide +kernel
theorem dX6_handOn_50 : decode cX6_handOn 50 = .ok (.iconst 4, 1) := by decide +kernel
theorem dX6_handOn_51 : decode cX6_handOn 51 = .ok (.invokestatic 98, 3) := by decide +kernel
theorem dX6_handOn_54 : decode cX6_handOn 54 = .ok (.return_, 1) := by decide +kernel
theorem dX6_send_0 : decode cX6_send 0 = .ok (.iload_n 1, 1) := by decide +kernel
theorem dX6_send_1 : decode cX6_send 1 = .ok (.invokestatic 131, 3) := by decide +kernel
theorem dX6_send_4 : decode cX6_send 4 = .ok (.ifCond .eq 25, 3) := by decide +kernel
theorem dX6_send_7 : decode cX6_send 7 = .ok (.iload_n 2, 1) := by decide +kernel
theorem dX6_send_8 : decode cX6_send 8 = .ok (.invokestatic 131, 3) := by decide +kernel
theorem dX6_send_11 : decode cX6_send 11 = .ok (.ifCond .eq 18, 3) := by decide +kernel
theorem dX6_send_14 : decode cX6_send 14 = .ok (.iload_n 1, 1) := by decide +kernel
theorem dX6_send_15 : decode cX6_send 15 = .ok (.iload_n 2, 1) := by decide +kernel
theorem dX6_send_16 : decode cX6_send 16 = .ok (.if_icmp .eq 13, 3) := by decide +kernel
theorem dX6_send_19 : decode cX6_send 19 = .ok (.iload_n 3, 1) := by decide +kernel
theorem dX6_send_20 : decode cX6_send 20 = .ok (.i2l, 1) := by decide +kernel
theorem dX6_send_21 : decode cX6_send 21 = .ok (.lconst 0, 1) := by decide +kernel
theorem dX6_send_22 : decode cX6_send 22 = .ok (.lconst 1, 1) := by decide +kernel
theorem dX6_send_23 : decode cX6_send 23 = .ok (.invokestatic 86, 3) := by decide +kernel
theorem dX6_send_26 : decode cX6_send 26 = .ok (.ifCond .ne 6, 3) := by decide +kernel
theorem dX6_send_29 : decode cX6_send 29 = .ok (.bipush (-2), 2) := by decide +kernel
theorem dX6_send_31 : decode cX6_send 31 = .ok (.ireturn, 1) := by decide +kernel
theorem dX6_send_32 : decode cX6_send 32 = .ok (.aload_n 0, 1) := by decide +kernel
theorem dX6_send_33 : decode cX6_send 33 = .ok (.getfield 92, 3) := by decide +kernel
theorem dX6_send_36 : decode cX6_send 36 = .ok (.bipush 6, 2) := by decide +kernel
theorem dX6_send_38 : decode cX6_send 38 = .ok (.if_icmp .ne 6, 3) := by decide +kernel
theorem dX6_send_41 : decode cX6_send 41 = .ok (.bipush (-4), 2) := by decide +kernel
theorem dX6_send_43 : decode cX6_send 43 = .ok (.ireturn, 1) := by decide +kernel
theorem dX6_send_44 : decode cX6_send 44 = .ok (.aload_n 0, 1) := by decide +kernel
theorem dX6_send_45 : decode cX6_send 45 = .ok (.getfield 36, 3) := by decide +kernel
theorem dX6_send_48 : decode cX6_send 48 = .ok (.aload_n 0, 1) := by decide +kernel
theorem dX6_send_49 : decode cX6_send 49 = .ok (.getfield 92, 3) := by decide +kernel
theorem dX6_send_52 : decode cX6_send 52 = .ok (.iload_n 1, 1) := by decide +kernel
theorem dX6_send_53 : decode cX6_send 53 = .ok (.iastore, 1) := by decide +kernel
theorem dX6_send_54 : decode cX6_send 54 = .ok (.aload_n 0, 1) := by decide +kernel
theorem dX6_send_55 : decode cX6_send 55 = .ok (.getfield 39, 3) := by decide +kernel
theorem dX6_send_58 : decode cX6_send 58 = .ok (.aload_n 0, 1) := by decide +kernel
theorem dX6_send_59 : decode cX6_send 59 = .ok (.getfield 92, 3) := by decide +kernel
theorem dX6_send_62 : decode cX6_send 62 = .ok (.iload_n 2, 1) := by decide +kernel
theorem dX6_send_63 : decode cX6_send 63 = .ok (.iastore, 1) := by decide +kernel
theorem dX6_send_64 : decode cX6_send 64 = .ok (.iconst 4, 1) := by decide +kernel
theorem dX6_send_65 : decode cX6_send 65 = .ok (.iconst 4, 1) := by decide +kernel
theorem dX6_send_66 : decode cX6_send 66 = .ok (.iload_n 1, 1) := by decide +kernel
theorem dX6_send_67 : decode cX6_send 67 = .ok (.imul, 1) := by decide +kernel
theorem dX6_send_68 : decode cX6_send 68 = .ok (.iadd, 1) := by decide +kernel
theorem dX6_send_69 : decode cX6_send 69 = .ok (.iload_n 2, 1) := by decide +kernel
theorem dX6_send_70 : decode cX6_send 70 = .ok (.iadd, 1) := by decide +kernel
theorem dX6_send_71 : decode cX6_send 71 = .ok (.istore 4, 2) := by decide +kernel
theorem dX6_send_73 : decode cX6_send 73 = .ok (.aload_n 0, 1) := by decide +kernel
theorem dX6_send_74 : decode cX6_send 74 = .ok (.iload_n 3, 1) := by decide +kernel
theorem dX6_send_75 : decode cX6_send 75 = .ok (.ifCond .ne 7, 3) := by decide +kernel
theorem dX6_send_78 : decode cX6_send 78 = .ok (.iload_n 1, 1) := by decide +kernel
theorem dX6_send_79 : decode cX6_send 79 = .ok (.goto 5, 3) := by decide +kernel
theorem dX6_send_82 : decode cX6_send 82 = .ok (.iload 4, 2) := by decide +kernel
theorem dX6_send_84 : decode cX6_send 84 = .ok (.bipush 20, 2) := by decide +kernel
theorem dX6_send_86 : decode cX6_send 86 = .ok (.aload_n 0, 1) := by decide +kernel
theorem dX6_send_87 : decode cX6_send 87 = .ok (.getfield 92, 3) := by decide +kernel
theorem dX6_send_90 : decode cX6_send 90 = .ok (.iadd, 1) := by decide +kernel
theorem dX6_send_91 : decode cX6_send 91 = .ok (.invokevirtual 110, 3) := by decide +kernel
theorem dX6_send_94 : decode cX6_send 94 = .ok (.iload_n 3, 1) := by decide +kernel
theorem dX6_send_95 : decode cX6_send 95 = .ok (.iconst 1, 1) := by decide +kernel
theorem dX6_send_96 : decode cX6_send 96 = .ok (.if_icmp .ne 9, 3) := by decide +kernel
theorem dX6_send_99 : decode cX6_send 99 = .ok (.aload_n 0, 1) := by decide +kernel
theorem dX6_send_100 : decode cX6_send 100 = .ok (.iload 4, 2) := by decide +kernel
theorem dX6_send_102 : decode cX6_send 102 = .ok (.invokevirtual 117, 3) := by decide +kernel
theorem dX6_send_105 : decode cX6_send 105 = .ok (.aload_n 0, 1) := by decide +kernel
theorem dX6_send_106 : decode cX6_send 106 = .ok (.getfield 27, 3) := by decide +kernel
theorem dX6_send_109 : decode cX6_send 109 = .ok (.iload_n 1, 1) := by decide +kernel
theorem dX6_send_110 : decode cX6_send 110 = .ok (.aaload, 1) := by decide +kernel
theorem dX6_send_111 : decode cX6_send 111 = .ok (.iconst 0, 1) := by decide +kernel
theorem dX6_send_112 : decode cX6_send 112 = .ok (.aload_n 0, 1) := by decide +kernel
theorem dX6_send_113 : decode cX6_send 113 = .ok (.getfield 42, 3) := by decide +kernel
theorem dX6_send_116 : decode cX6_send 116 = .ok (.aload_n 0, 1) := by decide +kernel
theorem dX6_send_117 : decode cX6_send 117 = .ok (.getfield 92, 3) := by decide +kernel
theorem dX6_send_120 : decode cX6_send 120 = .ok (.aaload, 1) := by decide +kernel
theorem dX6_send_121 : decode cX6_send 121 = .ok (.iconst 0, 1) := by decide +kernel
theorem dX6_send_122 : decode cX6_send 122 = .ok (.iconst 4, 1) := by decide +kernel
theorem dX6_send_123 : decode cX6_send 123 = .ok (.invokestatic 98, 3) := by decide +kernel
theorem dX6_send_126 : decode cX6_send 126 = .ok (.aload_n 0, 1) := by decide +kernel
theorem dX6_send_127 : decode cX6_send 127 = .ok (.dup, 1) := by decide +kernel
theorem dX6_send_128 : decode cX6_send 128 = .ok (.getfield 92, 3) := by decide +kernel
theorem dX6_send_131 : decode cX6_send 131 = .ok (.iconst 1, 1) := by decide +kernel
theorem dX6_send_132 : decode cX6_send 132 = .ok (.iadd, 1) := by decide +kernel
theorem dX6_send_133 : decode cX6_send 133 = .ok (.putfield 92, 3) := by decide +kernel
theorem dX6_send_136 : decode cX6_send 136 = .ok (.aload_n 0, 1) := by decide +kernel
theorem dX6_send_137 : decode cX6_send 137 = .ok (.getfield 92, 3) := by decide +kernel
theorem dX6_send_140 : decode cX6_send 140 = .ok (.iconst 1, 1) := by decide +kernel
theorem dX6_send_141 : decode cX6_send 141 = .ok (.isub, 1) := by decide +kernel
theorem dX6_send_142 : decode cX6_send 142 = .ok (.ireturn, 1) := by decide +kernel
theorem dX6_goesAway_0 : decode cX6_goesAway 0 = .ok (.iload_n 1, 1) := by decide +kernel
theorem dX6_goesAway_1 : decode cX6_goesAway 1 = .ok (.iconst 1, 1) := by decide +kernel
theorem dX6_goesAway_2 : decode cX6_goesAway 2 = .ok (.iadd, 1) := by decide +kernel
theorem dX6_goesAway_3 : decode cX6_goesAway 3 = .ok (.istore_n 2, 1) := by decide +kernel
theorem dX6_goesAway_4 : decode cX6_goesAway 4 = .ok (.iload_n 2, 1) := by decide +kernel
theorem dX6_goesAway_5 : decode cX6_goesAway 5 = .ok (.aload_n 0, 1) := by decide +kernel
theorem dX6_goesAway_6 : decode cX6_goesAway 6 = .ok (.getfield 92, 3) := by decide +kernel
theorem dX6_goesAway_9 : decode cX6_goesAway 9 = .ok (.if_icmp .ge 17, 3) := by decide +kernel
theorem dX6_goesAway_12 : decode cX6_goesAway 12 = .ok (.aload_n 0, 1) := by decide +kernel
theorem dX6_goesAway_13 : decode cX6_goesAway 13 = .ok (.iload_n 2, 1) := by decide +kernel
theorem dX6_goesAway_14 : decode cX6_goesAway 14 = .ok (.iload_n 2, 1) := by decide +kernel
theorem dX6_goesAway_15 : decode cX6_goesAway 15 = .ok (.iconst 1, 1) := by decide +kernel
theorem dX6_goesAway_16 : decode cX6_goesAway 16 = .ok (.isub, 1) := by decide +kernel
theorem dX6_goesAway_17 : decode cX6_goesAway 17 = .ok (.invokevirtual 179, 3) := by decide +kernel
theorem dX6_goesAway_20 : decode cX6_goesAway 20 = .ok (.iinc 2 1, 3) := by decide +kernel
theorem dX6_goesAway_23 : decode cX6_goesAway 23 = .ok (.goto (-19), 3) := by decide +kernel
theorem dX6_goesAway_26 : decode cX6_goesAway 26 = .ok (.aload_n 0, 1) := by decide +kernel
theorem dX6_goesAway_27 : decode cX6_goesAway 27 = .ok (.dup, 1) := by decide +kernel
theorem dX6_goesAway_28 : decode cX6_goesAway 28 = .ok (.getfield 92, 3) := by decide +kernel
theorem dX6_goesAway_31 : decode cX6_goesAway 31 = .ok (.iconst 1, 1) := by decide +kernel
theorem dX6_goesAway_32 : decode cX6_goesAway 32 = .ok (.isub, 1) := by decide +kernel
theorem dX6_goesAway_33 : decode cX6_goesAway 33 = .ok (.putfield 92, 3) := by decide +kernel
theorem dX6_goesAway_36 : decode cX6_goesAway 36 = .ok (.return_, 1) := by decide +kernel
theorem dX6_come_0 : decode cX6_come 0 = .ok (.aload_n 0, 1) := by decide +kernel
theorem dX6_come_1 : decode cX6_come 1 = .ok (.iload_n 1, 1) := by decide +kernel
theorem dX6_come_2 : decode cX6_come 2 = .ok (.invokevirtual 182, 3) := by decide +kernel
theorem dX6_come_5 : decode cX6_come 5 = .ok (.ifCond .ne 6, 3) := by decide +kernel
theorem dX6_come_8 : decode cX6_come 8 = .ok (.bipush (-2), 2) := by decide +kernel
theorem dX6_come_10 : decode cX6_come 10 = .ok (.ireturn, 1) := by decide +kernel
theorem dX6_come_11 : decode cX6_come 11 = .ok (.aload_n 0, 1) := by decide +kernel
theorem dX6_come_12 : decode cX6_come 12 = .ok (.getfield 39, 3) := by decide +kernel
theorem dX6_come_15 : decode cX6_come 15 = .ok (.iload_n 1, 1) := by decide +kernel
theorem dX6_come_16 : decode cX6_come 16 = .ok (.iaload, 1) := by decide +kernel
theorem dX6_come_17 : decode cX6_come 17 = .ok (.istore_n 2, 1) := by decide +kernel
theorem dX6_come_18 : decode cX6_come 18 = .ok (.aload_n 0, 1) := by decide +kernel
theorem dX6_come_19 : decode cX6_come 19 = .ok (.aload_n 0, 1) := by decide +kernel
theorem dX6_come_20 : decode cX6_come 20 = .ok (.getfield 27, 3) := by decide +kernel
theorem dX6_come_23 : decode cX6_come 23 = .ok (.iload_n 2, 1) := by decide +kernel
theorem dX6_come_24 : decode cX6_come 24 = .ok (.aaload, 1) := by decide +kernel
theorem dX6_come_25 : decode cX6_come 25 = .ok (.invokevirtual 185, 3) := by decide +kernel
theorem dX6_come_28 : decode cX6_come 28 = .ok (.istore_n 3, 1) := by decide +kernel
theorem dX6_come_29 : decode cX6_come 29 = .ok (.aload_n 0, 1) := by decide +kernel
theorem dX6_come_30 : decode cX6_come 30 = .ok (.iload_n 2, 1) := by decide +kernel
theorem dX6_come_31 : decode cX6_come 31 = .ok (.bipush 20, 2) := by decide +kernel
theorem dX6_come_33 : decode cX6_come 33 = .ok (.iload_n 1, 1) := by decide +kernel
theorem dX6_come_34 : decode cX6_come 34 = .ok (.iadd, 1) := by decide +kernel
theorem dX6_come_35 : decode cX6_come 35 = .ok (.invokevirtual 114, 3) := by decide +kernel
theorem dX6_come_38 : decode cX6_come 38 = .ok (.iconst 0, 1) := by decide +kernel
theorem dX6_come_39 : decode cX6_come 39 = .ok (.istore 4, 2) := by decide +kernel
theorem dX6_come_41 : decode cX6_come 41 = .ok (.iload 4, 2) := by decide +kernel
theorem dX6_come_43 : decode cX6_come 43 = .ok (.iconst 4, 1) := by decide +kernel
theorem dX6_come_44 : decode cX6_come 44 = .ok (.if_icmp .ge 39, 3) := by decide +kernel
theorem dX6_come_47 : decode cX6_come 47 = .ok (.aload_n 0, 1) := by decide +kernel
theorem dX6_come_48 : decode cX6_come 48 = .ok (.getfield 33, 3) := by decide +kernel
theorem dX6_come_51 : decode cX6_come 51 = .ok (.iconst 4, 1) := by decide +kernel
theorem dX6_come_52 : decode cX6_come 52 = .ok (.iload_n 2, 1) := by decide +kernel
theorem dX6_come_53 : decode cX6_come 53 = .ok (.imul, 1) := by decide +kernel
theorem dX6_come_54 : decode cX6_come 54 = .ok (.aload_n 0, 1) := by decide +kernel
theorem dX6_come_55 : decode cX6_come 55 = .ok (.getfield 36, 3) := by decide +kernel
theorem dX6_come_58 : decode cX6_come 58 = .ok (.iload_n 1, 1) := by decide +kernel
theorem dX6_come_59 : decode cX6_come 59 = .ok (.iaload, 1) := by decide +kernel
theorem dX6_come_60 : decode cX6_come 60 = .ok (.iadd, 1) := by decide +kernel
theorem dX6_come_61 : decode cX6_come 61 = .ok (.aaload, 1) := by decide +kernel
theorem dX6_come_62 : decode cX6_come 62 = .ok (.iload 4, 2) := by decide +kernel
theorem dX6_come_64 : decode cX6_come 64 = .ok (.dup2, 1) := by decide +kernel
theorem dX6_come_65 : decode cX6_come 65 = .ok (.iaload, 1) := by decide +kernel
theorem dX6_come_66 : decode cX6_come 66 = .ok (.aload_n 0, 1) := by decide +kernel
theorem dX6_come_67 : decode cX6_come 67 = .ok (.getfield 42, 3) := by decide +kernel
theorem dX6_come_70 : decode cX6_come 70 = .ok (.iload_n 1, 1) := by decide +kernel
theorem dX6_come_71 : decode cX6_come 71 = .ok (.aaload, 1) := by decide +kernel
theorem dX6_come_72 : decode cX6_come 72 = .ok (.iload 4, 2) := by decide +kernel
theorem dX6_come_74 : decode cX6_come 74 = .ok (.iaload, 1) := by decide +kernel
theorem dX6_come_75 : decode cX6_come 75 = .ok (.ior, 1) := by decide +kernel
theorem dX6_come_76 : decode cX6_come 76 = .ok (.iastore, 1) := by decide +kernel
theorem dX6_come_77 : decode cX6_come 77 = .ok (.iinc 4 1, 3) := by decide +kernel
theorem dX6_come_80 : decode cX6_come 80 = .ok (.goto (-39), 3) := by decide +kernel
theorem dX6_come_83 : decode cX6_come 83 = .ok (.aload_n 0, 1) := by decide +kernel
theorem dX6_come_84 : decode cX6_come 84 = .ok (.iload_n 1, 1) := by decide +kernel
theorem dX6_come_85 : decode cX6_come 85 = .ok (.invokevirtual 189, 3) := by decide +kernel
theorem dX6_come_88 : decode cX6_come 88 = .ok (.aload_n 0, 1) := by decide +kernel
theorem dX6_come_89 : decode cX6_come 89 = .ok (.aload_n 0, 1) := by decide +kernel
theorem dX6_come_90 : decode cX6_come 90 = .ok (.getfield 27, 3) := by decide +kernel
theorem dX6_come_93 : decode cX6_come 93 = .ok (.iload_n 2, 1) := by decide +kernel
theorem dX6_come_94 : decode cX6_come 94 = .ok (.aaload, 1) := by decide +kernel
theorem dX6_come_95 : decode cX6_come 95 = .ok (.invokevirtual 185, 3) := by decide +kernel
theorem dX6_come_98 : decode cX6_come 98 = .ok (.iload_n 3, 1) := by decide +kernel
theorem dX6_come_99 : decode cX6_come 99 = .ok (.isub, 1) := by decide +kernel
theorem dX6_come_100 : decode cX6_come 100 = .ok (.ireturn, 1) := by decide +kernel
theorem dX6_lose_0 : decode cX6_lose 0 = .ok (.aload_n 0, 1) := by decide +kernel
theorem dX6_lose_1 : decode cX6_lose 1 = .ok (.iload_n 1, 1) := by decide +kernel
theorem dX6_lose_2 : decode cX6_lose 2 = .ok (.invokevirtual 182, 3) := by decide +kernel
theorem dX6_lose_5 : decode cX6_lose 5 = .ok (.ifCond .ne 6, 3) := by decide +kernel
theorem dX6_lose_8 : decode cX6_lose 8 = .ok (.bipush (-2), 2) := by decide +kernel
theorem dX6_lose_10 : decode cX6_lose 10 = .ok (.ireturn, 1) := by decide +kernel
theorem dX6_lose_11 : decode cX6_lose 11 = .ok (.aload_n 0, 1) := by decide +kernel
theorem dX6_lose_12 : decode cX6_lose 12 = .ok (.iload_n 1, 1) := by decide +kernel
theorem dX6_lose_13 : decode cX6_lose 13 = .ok (.invokevirtual 189, 3) := by decide +kernel
theorem dX6_lose_16 : decode cX6_lose 16 = .ok (.iconst 1, 1) := by decide +kernel
theorem dX6_lose_17 : decode cX6_lose 17 = .ok (.ireturn, 1) := by decide +kernel
theorem dX6_twice_0 : decode cX6_twice 0 = .ok (.aload_n 0, 1) := by decide +kernel
theorem dX6_twice_1 : decode cX6_twice 1 = .ok (.iload_n 1, 1) := by decide +kernel
theorem dX6_twice_2 : decode cX6_twice 2 = .ok (.invokevirtual 182, 3) := by decide +kernel
theorem dX6_twice_5 : decode cX6_twice 5 = .ok (.ifCond .ne 6, 3) := by decide +kernel
theorem dX6_twice_8 : decode cX6_twice 8 = .ok (.bipush (-2), 2) := by decide +kernel
theorem dX6_twice_10 : decode cX6_twice 10 = .ok (.ireturn, 1) := by decide +kernel
theorem dX6_twice_11 : decode cX6_twice 11 = .ok (.aload_n 0, 1) := by decide +kernel
theorem dX6_twice_12 : decode cX6_twice 12 = .ok (.getfield 92, 3) := by decide +kernel
theorem dX6_twice_15 : decode cX6_twice 15 = .ok (.bipush 6, 2) := by decide +kernel
theorem dX6_twice_17 : decode cX6_twice 17 = .ok (.if_icmp .ne 6, 3) := by decide +kernel
theorem dX6_twice_20 : decode cX6_twice 20 = .ok (.bipush (-4), 2) := by decide +kernel
theorem dX6_twice_22 : decode cX6_twice 22 = .ok (.ireturn, 1) := by decide +kernel
theorem dX6_twice_23 : decode cX6_twice 23 = .ok (.aload_n 0, 1) := by decide +kernel
theorem dX6_twice_24 : decode cX6_twice 24 = .ok (.iload_n 1, 1) := by decide +kernel
theorem dX6_twice_25 : decode cX6_twice 25 = .ok (.aload_n 0, 1) := by decide +kernel
theorem dX6_twice_26 : decode cX6_twice 26 = .ok (.getfield 92, 3) := by decide +kernel
theorem dX6_twice_29 : decode cX6_twice 29 = .ok (.invokevirtual 179, 3) := by decide +kernel
theorem dX6_twice_32 : decode cX6_twice 32 = .ok (.aload_n 0, 1) := by decide +kernel
theorem dX6_twice_33 : decode cX6_twice 33 = .ok (.dup, 1) := by decide +kernel
theorem dX6_twice_34 : decode cX6_twice 34 = .ok (.getfield 92, 3) := by decide +kernel
theorem dX6_twice_37 : decode cX6_twice 37 = .ok (.iconst 1, 1) := by decide +kernel
theorem dX6_twice_38 : decode cX6_twice 38 = .ok (.iadd, 1) := by decide +kernel
theorem dX6_twice_39 : decode cX6_twice 39 = .ok (.putfield 92, 3) := by decide +kernel
theorem dX6_twice_42 : decode cX6_twice 42 = .ok (.aload_n 0, 1) := by decide +kernel
theorem dX6_twice_43 : decode cX6_twice 43 = .ok (.getfield 92, 3) := by decide +kernel
theorem dX6_twice_46 : decode cX6_twice 46 = .ok (.iconst 1, 1) := by decide +kernel
theorem dX6_twice_47 : decode cX6_twice 47 = .ok (.isub, 1) := by decide +kernel
theorem dX6_twice_48 : decode cX6_twice 48 = .ok (.ireturn, 1) := by decide +kernel
theorem dX6_letter_0 : decode cX6_letter 0 = .ok (.aload_n 0, 1) := by decide +kernel
theorem dX6_letter_1 : decode cX6_letter 1 = .ok (.iload_n 1, 1) := by decide +kernel
theorem dX6_letter_2 : decode cX6_letter 2 = .ok (.invokevirtual 182, 3) := by decide +kernel
theorem dX6_letter_5 : decode cX6_letter 5 = .ok (.ifCond .eq 15, 3) := by decide +kernel
theorem dX6_letter_8 : decode cX6_letter 8 = .ok (.iload_n 2, 1) := by decide +kernel
theorem dX6_letter_9 : decode cX6_letter 9 = .ok (.i2l, 1) := by decide +kernel
theorem dX6_letter_10 : decode cX6_letter 10 = .ok (.lconst 0, 1) := by decide +kernel
theorem dX6_letter_11 : decode cX6_letter 11 = .ok (.ldc2_w 84, 3) := by decide +kernel
theorem dX6_letter_14 : decode cX6_letter 14 = .ok (.invokestatic 86, 3) := by decide +kernel
theorem dX6_letter_17 : decode cX6_letter 17 = .ok (.ifCond .ne 6, 3) := by decide +kernel
theorem dX6_letter_20 : decode cX6_letter 20 = .ok (.bipush (-2), 2) := by decide +kernel
theorem dX6_letter_22 : decode cX6_letter 22 = .ok (.ireturn, 1) := by decide +kernel
theorem dX6_letter_23 : decode cX6_letter 23 = .ok (.iload_n 2, 1) := by decide +kernel
theorem dX6_letter_24 : decode cX6_letter 24 = .ok (.ifCond .ne 12, 3) := by decide +kernel
theorem dX6_letter_27 : decode cX6_letter 27 = .ok (.aload_n 0, 1) := by decide +kernel
theorem dX6_letter_28 : decode cX6_letter 28 = .ok (.getfield 36, 3) := by decide +kernel
theorem dX6_letter_31 : decode cX6_letter 31 = .ok (.iload_n 1, 1) := by decide +kernel
theorem dX6_letter_32 : decode cX6_letter 32 = .ok (.iaload, 1) := by decide +kernel
theorem dX6_letter_33 : decode cX6_letter 33 = .ok (.goto 47, 3) := by decide +kernel
theorem dX6_letter_36 : decode cX6_letter 36 = .ok (.iload_n 2, 1) := by decide +kernel
theorem dX6_letter_37 : decode cX6_letter 37 = .ok (.iconst 1, 1) := by decide +kernel
theorem dX6_letter_38 : decode cX6_letter 38 = .ok (.if_icmp .ne 12, 3) := by decide +kernel
theorem dX6_letter_41 : decode cX6_letter 41 = .ok (.aload_n 0, 1) := by decide +kernel
theorem dX6_letter_42 : decode cX6_letter 42 = .ok (.getfield 39, 3) := by decide +kernel
theorem dX6_letter_45 : decode cX6_letter 45 = .ok (.iload_n 1, 1) := by decide +kernel
theorem dX6_letter_46 : decode cX6_letter 46 = .ok (.iaload, 1) := by decide +kernel
theorem dX6_letter_47 : decode cX6_letter 47 = .ok (.goto 33, 3) := by decide +kernel
theorem dX6_letter_50 : decode cX6_letter 50 = .ok (.aload_n 0, 1) := by decide +kernel
theorem dX6_letter_51 : decode cX6_letter 51 = .ok (.iload_n 2, 1) := by decide +kernel
theorem dX6_letter_52 : decode cX6_letter 52 = .ok (.iconst 2, 1) := by decide +kernel
theorem dX6_letter_53 : decode cX6_letter 53 = .ok (.if_icmp .ne 15, 3) := by decide +kernel
theorem dX6_letter_56 : decode cX6_letter 56 = .ok (.aload_n 0, 1) := by decide +kernel
theorem dX6_letter_57 : decode cX6_letter 57 = .ok (.getfield 27, 3) := by decide +kernel
theorem dX6_letter_60 : decode cX6_letter 60 = .ok (.bipush 20, 2) := by decide +kernel
theorem dX6_letter_62 : decode cX6_letter 62 = .ok (.iload_n 1, 1) := by decide +kernel
theorem dX6_letter_63 : decode cX6_letter 63 = .ok (.iadd, 1) := by decide +kernel
theorem dX6_letter_64 : decode cX6_letter 64 = .ok (.aaload, 1) := by decide +kernel
theorem dX6_letter_65 : decode cX6_letter 65 = .ok (.goto 12, 3) := by decide +kernel
theorem dX6_letter_68 : decode cX6_letter 68 = .ok (.aload_n 0, 1) := by decide +kernel
theorem dX6_letter_69 : decode cX6_letter 69 = .ok (.getfield 30, 3) := by decide +kernel
theorem dX6_letter_72 : decode cX6_letter 72 = .ok (.bipush 20, 2) := by decide +kernel
theorem dX6_letter_74 : decode cX6_letter 74 = .ok (.iload_n 1, 1) := by decide +kernel
theorem dX6_letter_75 : decode cX6_letter 75 = .ok (.iadd, 1) := by decide +kernel
theorem dX6_letter_76 : decode cX6_letter 76 = .ok (.aaload, 1) := by decide +kernel
theorem dX6_letter_77 : decode cX6_letter 77 = .ok (.invokevirtual 185, 3) := by decide +kernel
theorem dX6_letter_80 : decode cX6_letter 80 = .ok (.ireturn, 1) := by decide +kernel
theorem dX6_met_0 : decode cX6_met 0 = .ok (.iload_n 1, 1) := by decide +kernel
theorem dX6_met_1 : decode cX6_met 1 = .ok (.iload_n 2, 1) := by decide +kernel
theorem dX6_met_2 : decode cX6_met 2 = .ok (.invokestatic 135, 3) := by decide +kernel
theorem dX6_met_5 : decode cX6_met 5 = .ok (.ifCond .ne 9, 3) := by decide +kernel
theorem dX6_met_8 : decode cX6_met 8 = .ok (.bipush (-2), 2) := by decide +kernel
theorem dX6_met_10 : decode cX6_met 10 = .ok (.invokestatic 165, 3) := by decide +kernel
theorem dX6_met_13 : decode cX6_met 13 = .ok (.lreturn, 1) := by decide +kernel
theorem dX6_met_14 : decode cX6_met 14 = .ok (.aload_n 0, 1) := by decide +kernel
theorem dX6_met_15 : decode cX6_met 15 = .ok (.invokevirtual 192, 3) := by decide +kernel
theorem dX6_met_18 : decode cX6_met 18 = .ok (.aload_n 0, 1) := by decide +kernel
theorem dX6_met_19 : decode cX6_met 19 = .ok (.bipush 26, 2) := by decide +kernel
theorem dX6_met_21 : decode cX6_met 21 = .ok (.iconst 4, 1) := by decide +kernel
theorem dX6_met_22 : decode cX6_met 22 = .ok (.iload_n 1, 1) := by decide +kernel
theorem dX6_met_23 : decode cX6_met 23 = .ok (.imul, 1) := by decide +kernel
theorem dX6_met_24 : decode cX6_met 24 = .ok (.iload_n 2, 1) := by decide +kernel
theorem dX6_met_25 : decode cX6_met 25 = .ok (.iadd, 1) := by decide +kernel
theorem dX6_met_26 : decode cX6_met 26 = .ok (.invokevirtual 161, 3) := by decide +kernel
theorem dX6_met_29 : decode cX6_met 29 = .ok (.lreturn, 1) := by decide +kernel
theorem dX6_isAhead_0 : decode cX6_isAhead 0 = .ok (.aload_n 0, 1) := by decide +kernel
theorem dX6_isAhead_1 : decode cX6_isAhead 1 = .ok (.iload_n 1, 1) := by decide +kernel
theorem dX6_isAhead_2 : decode cX6_isAhead 2 = .ok (.bipush 28, 2) := by decide +kernel
theorem dX6_isAhead_4 : decode cX6_isAhead 4 = .ok (.invokevirtual 110, 3) := by decide +kernel
theorem dX6_isAhead_7 : decode cX6_isAhead 7 = .ok (.aload_n 0, 1) := by decide +kernel
theorem dX6_isAhead_8 : decode cX6_isAhead 8 = .ok (.bipush 28, 2) := by decide +kernel
theorem dX6_isAhead_10 : decode cX6_isAhead 10 = .ok (.iload_n 2, 1) := by decide +kernel
theorem dX6_isAhead_11 : decode cX6_isAhead 11 = .ok (.invokevirtual 114, 3) := by decide +kernel
theorem dX6_isAhead_14 : decode cX6_isAhead 14 = .ok (.aload_n 0, 1) := by decide +kernel
theorem dX6_isAhead_15 : decode cX6_isAhead 15 = .ok (.bipush 28, 2) := by decide +kernel
theorem dX6_isAhead_17 : decode cX6_isAhead 17 = .ok (.iload_n 1, 1) := by decide +kernel
theorem dX6_isAhead_18 : decode cX6_isAhead 18 = .ok (.invokevirtual 195, 3) := by decide +kernel
theorem dX6_isAhead_21 : decode cX6_isAhead 21 = .ok (.ireturn, 1) := by decide +kernel
theorem dX6_unlike_0 : decode cX6_unlike 0 = .ok (.iconst 0, 1) := by decide +kernel
theorem dX6_unlike_1 : decode cX6_unlike 1 = .ok (.istore_n 3, 1) := by decide +kernel
theorem dX6_unlike_2 : decode cX6_unlike 2 = .ok (.iconst 0, 1) := by decide +kernel
theorem dX6_unlike_3 : decode cX6_unlike 3 = .ok (.istore 4, 2) := by decide +kernel
theorem dX6_unlike_5 : decode cX6_unlike 5 = .ok (.iload 4, 2) := by decide +kernel
theorem dX6_unlike_7 : decode cX6_unlike 7 = .ok (.iconst 4, 1) := by decide +kernel
theorem dX6_unlike_8 : decode cX6_unlike 8 = .ok (.if_icmp .ge 24, 3) := by decide +kernel
theorem dX6_unlike_11 : decode cX6_unlike 11 = .ok (.iload_n 3, 1) := by decide +kernel
theorem dX6_unlike_12 : decode cX6_unlike 12 = .ok (.aload_n 1, 1) := by decide +kernel
theorem dX6_unlike_13 : decode cX6_unlike 13 = .ok (.iload 4, 2) := by decide +kernel
theorem dX6_unlike_15 : decode cX6_unlike 15 = .ok (.iaload, 1) := by decide +kernel
theorem dX6_unlike_16 : decode cX6_unlike 16 = .ok (.aload_n 2, 1) := by decide +kernel
theorem dX6_unlike_17 : decode cX6_unlike 17 = .ok (.iload 4, 2) := by decide +kernel
theorem dX6_unlike_19 : decode cX6_unlike 19 = .ok (.iaload, 1) := by decide +kernel
theorem dX6_unlike_20 : decode cX6_unlike 20 = .ok (.ixor, 1) := by decide +kernel
theorem dX6_unlike_21 : decode cX6_unlike 21 = .ok (.invokestatic 104, 3) := by decide +kernel
theorem dX6_unlike_24 : decode cX6_unlike 24 = .ok (.iadd, 1) := by decide +kernel
theorem dX6_unlike_25 : decode cX6_unlike 25 = .ok (.istore_n 3, 1) := by decide +kernel
theorem dX6_unlike_26 : decode cX6_unlike 26 = .ok (.iinc 4 1, 3) := by decide +kernel
theorem dX6_unlike_29 : decode cX6_unlike 29 = .ok (.goto (-24), 3) := by decide +kernel
theorem dX6_unlike_32 : decode cX6_unlike 32 = .ok (.iload_n 3, 1) := by decide +kernel
theorem dX6_unlike_33 : decode cX6_unlike 33 = .ok (.ireturn, 1) := by decide +kernel
theorem dX6_apart_0 : decode cX6_apart 0 = .ok (.iload_n 1, 1) := by decide +kernel
theorem dX6_apart_1 : decode cX6_apart 1 = .ok (.invokestatic 131, 3) := by decide +kernel
theorem dX6_apart_4 : decode cX6_apart 4 = .ok (.ifCond .eq 22, 3) := by decide +kernel
theorem dX6_apart_7 : decode cX6_apart 7 = .ok (.iload_n 2, 1) := by decide +kernel
theorem dX6_apart_8 : decode cX6_apart 8 = .ok (.invokestatic 131, 3) := by decide +kernel
theorem dX6_apart_11 : decode cX6_apart 11 = .ok (.ifCond .eq 15, 3) := by decide +kernel
theorem dX6_apart_14 : decode cX6_apart 14 = .ok (.iload_n 3, 1) := by decide +kernel
theorem dX6_apart_15 : decode cX6_apart 15 = .ok (.i2l, 1) := by decide +kernel
theorem dX6_apart_16 : decode cX6_apart 16 = .ok (.lconst 0, 1) := by decide +kernel
theorem dX6_apart_17 : decode cX6_apart 17 = .ok (.ldc2_w 84, 3) := by decide +kernel
theorem dX6_apart_20 : decode cX6_apart 20 = .ok (.invokestatic 86, 3) := by decide +kernel
theorem dX6_apart_23 : decode cX6_apart 23 = .ok (.ifCond .ne 6, 3) := by decide +kernel
theorem dX6_apart_26 : decode cX6_apart 26 = .ok (.bipush (-2), 2) := by decide +kernel
theorem dX6_apart_28 : decode cX6_apart 28 = .ok (.ireturn, 1) := by decide +kernel
theorem dX6_apart_29 : decode cX6_apart 29 = .ok (.iload_n 3, 1) := by decide +kernel
theorem dX6_apart_30 : decode cX6_apart 30 = .ok (.ifCond .ne 18, 3) := by decide +kernel
theorem dX6_apart_33 : decode cX6_apart 33 = .ok (.aload_n 0, 1) := by decide +kernel
theorem dX6_apart_34 : decode cX6_apart 34 = .ok (.iload_n 1, 1) := by decide +kernel
theorem dX6_apart_35 : decode cX6_apart 35 = .ok (.iload_n 2, 1) := by decide +kernel
theorem dX6_apart_36 : decode cX6_apart 36 = .ok (.invokevirtual 198, 3) := by decide +kernel
theorem dX6_apart_39 : decode cX6_apart 39 = .ok (.ifCond .eq 7, 3) := by decide +kernel
theorem dX6_apart_42 : decode cX6_apart 42 = .ok (.iconst 1, 1) := by decide +kernel
theorem dX6_apart_43 : decode cX6_apart 43 = .ok (.goto 4, 3) := by decide +kernel
theorem dX6_apart_46 : decode cX6_apart 46 = .ok (.iconst 0, 1) := by decide +kernel
theorem dX6_apart_47 : decode cX6_apart 47 = .ok (.ireturn, 1) := by decide +kernel
theorem dX6_apart_48 : decode cX6_apart 48 = .ok (.iload_n 3, 1) := by decide +kernel
theorem dX6_apart_49 : decode cX6_apart 49 = .ok (.iconst 1, 1) := by decide +kernel
theorem dX6_apart_50 : decode cX6_apart 50 = .ok (.if_icmp .ne 27, 3) := by decide +kernel
theorem dX6_apart_53 : decode cX6_apart 53 = .ok (.aload_n 0, 1) := by decide +kernel
theorem dX6_apart_54 : decode cX6_apart 54 = .ok (.iload_n 1, 1) := by decide +kernel
theorem dX6_apart_55 : decode cX6_apart 55 = .ok (.iload_n 2, 1) := by decide +kernel
theorem dX6_apart_56 : decode cX6_apart 56 = .ok (.invokevirtual 198, 3) := by decide +kernel
theorem dX6_apart_59 : decode cX6_apart 59 = .ok (.ifCond .eq 16, 3) := by decide +kernel
theorem dX6_apart_62 : decode cX6_apart 62 = .ok (.aload_n 0, 1) := by decide +kernel
theorem dX6_apart_63 : decode cX6_apart 63 = .ok (.iload_n 2, 1) := by decide +kernel
theorem dX6_apart_64 : decode cX6_apart 64 = .ok (.iload_n 1, 1) := by decide +kernel
theorem dX6_apart_65 : decode cX6_apart 65 = .ok (.invokevirtual 198, 3) := by decide +kernel
theorem dX6_apart_68 : decode cX6_apart 68 = .ok (.ifCond .eq 7, 3) := by decide +kernel
theorem dX6_apart_71 : decode cX6_apart 71 = .ok (.iconst 1, 1) := by decide +kernel
theorem dX6_apart_72 : decode cX6_apart 72 = .ok (.goto 4, 3) := by decide +kernel
theorem dX6_apart_75 : decode cX6_apart 75 = .ok (.iconst 0, 1) := by decide +kernel
theorem dX6_apart_76 : decode cX6_apart 76 = .ok (.ireturn, 1) := by decide +kernel
theorem dX6_apart_77 : decode cX6_apart 77 = .ok (.iload_n 3, 1) := by decide +kernel
theorem dX6_apart_78 : decode cX6_apart 78 = .ok (.iconst 2, 1) := by decide +kernel
theorem dX6_apart_79 : decode cX6_apart 79 = .ok (.if_icmp .ne 22, 3) := by decide +kernel
theorem dX6_apart_82 : decode cX6_apart 82 = .ok (.aload_n 0, 1) := by decide +kernel
theorem dX6_apart_83 : decode cX6_apart 83 = .ok (.aload_n 0, 1) := by decide +kernel
theorem dX6_apart_84 : decode cX6_apart 84 = .ok (.getfield 27, 3) := by decide +kernel
theorem dX6_apart_87 : decode cX6_apart 87 = .ok (.iload_n 1, 1) := by decide +kernel
theorem dX6_apart_88 : decode cX6_apart 88 = .ok (.aaload, 1) := by decide +kernel
theorem dX6_apart_89 : decode cX6_apart 89 = .ok (.aload_n 0, 1) := by decide +kernel
theorem dX6_apart_90 : decode cX6_apart 90 = .ok (.getfield 27, 3) := by decide +kernel
theorem dX6_apart_93 : decode cX6_apart 93 = .ok (.iload_n 2, 1) := by decide +kernel
theorem dX6_apart_94 : decode cX6_apart 94 = .ok (.aaload, 1) := by decide +kernel
theorem dX6_apart_95 : decode cX6_apart 95 = .ok (.invokevirtual 201, 3) := by decide +kernel
theorem dX6_apart_98 : decode cX6_apart 98 = .ok (.goto 19, 3) := by decide +kernel
theorem dX6_apart_101 : decode cX6_apart 101 = .ok (.aload_n 0, 1) := by decide +kernel
theorem dX6_apart_102 : decode cX6_apart 102 = .ok (.aload_n 0, 1) := by decide +kernel
theorem dX6_apart_103 : decode cX6_apart 103 = .ok (.getfield 30, 3) := by decide +kernel
theorem dX6_apart_106 : decode cX6_apart 106 = .ok (.iload_n 1, 1) := by decide +kernel
theorem dX6_apart_107 : decode cX6_apart 107 = .ok (.aaload, 1) := by decide +kernel
theorem dX6_apart_108 : decode cX6_apart 108 = .ok (.aload_n 0, 1) := by decide +kernel
theorem dX6_apart_109 : decode cX6_apart 109 = .ok (.getfield 30, 3) := by decide +kernel
theorem dX6_apart_112 : decode cX6_apart 112 = .ok (.iload_n 2, 1) := by decide +kernel
theorem dX6_apart_113 : decode cX6_apart 113 = .ok (.aaload, 1) := by decide +kernel
theorem dX6_apart_114 : decode cX6_apart 114 = .ok (.invokevirtual 201, 3) := by decide +kernel
theorem dX6_apart_117 : decode cX6_apart 117 = .ok (.ireturn, 1) := by decide +kernel
theorem dX6_isByLetters_0 : decode cX6_isByLetters 0 = .ok (.aload_n 0, 1) := by decide +kernel
theorem dX6_isByLetters_1 : decode cX6_isByLetters 1 = .ok (.iload_n 1, 1) := by decide +kernel
theorem dX6_isByLetters_2 : decode cX6_isByLetters 2 = .ok (.bipush 28, 2) := by decide +kernel
theorem dX6_isByLetters_4 : decode cX6_isByLetters 4 = .ok (.invokevirtual 110, 3) := by decide +kernel
theorem dX6_isByLetters_7 : decode cX6_isByLetters 7 = .ok (.iconst 0, 1) := by decide +kernel
theorem dX6_isByLetters_8 : decode cX6_isByLetters 8 = .ok (.istore 6, 2) := by decide +kernel
theorem dX6_isByLetters_10 : decode cX6_isByLetters 10 = .ok (.iload 6, 2) := by decide +kernel
theorem dX6_isByLetters_12 : decode cX6_isByLetters 12 = .ok (.aload_n 0, 1) := by decide +kernel
theorem dX6_isByLetters_13 : decode cX6_isByLetters 13 = .ok (.getfield 92, 3) := by decide +kernel
theorem dX6_isByLetters_16 : decode cX6_isByLetters 16 = .ok (.if_icmp .ge 31, 3) := by decide +kernel
theorem dX6_isByLetters_19 : decode cX6_isByLetters 19 = .ok (.iload 5, 2) := by decide +kernel
theorem dX6_isByLetters_21 : decode cX6_isByLetters 21 = .ok (.iload 6, 2) := by decide +kernel
theorem dX6_isByLetters_23 : decode cX6_isByLetters 23 = .ok (.ishr, 1) := by decide +kernel
