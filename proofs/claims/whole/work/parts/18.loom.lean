/-! 18.loom -/
theorem d_TR_set_0 : decode b_TR_set 0 = .ok (.aload_n 0, 1) := by decide +kernel
theorem d_TR_set_1 : decode b_TR_set 1 = .ok (.iload_n 1, 1) := by decide +kernel
theorem d_TR_set_2 : decode b_TR_set 2 = .ok (.putfield 7, 3) := by decide +kernel
theorem d_TR_set_5 : decode b_TR_set 5 = .ok (.aload_n 0, 1) := by decide +kernel
theorem d_TR_set_6 : decode b_TR_set 6 = .ok (.iload_n 2, 1) := by decide +kernel
theorem d_TR_set_7 : decode b_TR_set 7 = .ok (.putfield 13, 3) := by decide +kernel
theorem d_TR_set_10 : decode b_TR_set 10 = .ok (.aload_n 0, 1) := by decide +kernel
theorem d_TR_set_11 : decode b_TR_set 11 = .ok (.iload_n 3, 1) := by decide +kernel
theorem d_TR_set_12 : decode b_TR_set 12 = .ok (.putfield 17, 3) := by decide +kernel
theorem d_TR_set_15 : decode b_TR_set 15 = .ok (.return_, 1) := by decide +kernel
theorem d_TR_fits_0 : decode b_TR_fits 0 = .ok (.aload_n 0, 1) := by decide +kernel
theorem d_TR_fits_1 : decode b_TR_fits 1 = .ok (.getfield 13, 3) := by decide +kernel
theorem d_TR_fits_4 : decode b_TR_fits 4 = .ok (.ifCond .eq 14, 3) := by decide +kernel
theorem d_TR_fits_7 : decode b_TR_fits 7 = .ok (.aload_n 0, 1) := by decide +kernel
theorem d_TR_fits_8 : decode b_TR_fits 8 = .ok (.getfield 13, 3) := by decide +kernel
theorem d_TR_fits_11 : decode b_TR_fits 11 = .ok (.aload_n 1, 1) := by decide +kernel
theorem d_TR_fits_12 : decode b_TR_fits 12 = .ok (.getfield 20, 3) := by decide +kernel
theorem d_TR_fits_15 : decode b_TR_fits 15 = .ok (.if_icmp .ne 26, 3) := by decide +kernel
theorem d_TR_fits_18 : decode b_TR_fits 18 = .ok (.aload_n 0, 1) := by decide +kernel
theorem d_TR_fits_19 : decode b_TR_fits 19 = .ok (.getfield 17, 3) := by decide +kernel
theorem d_TR_fits_22 : decode b_TR_fits 22 = .ok (.iconst (-1), 1) := by decide +kernel
theorem d_TR_fits_23 : decode b_TR_fits 23 = .ok (.if_icmp .eq 14, 3) := by decide +kernel
theorem d_TR_fits_26 : decode b_TR_fits 26 = .ok (.aload_n 0, 1) := by decide +kernel
theorem d_TR_fits_27 : decode b_TR_fits 27 = .ok (.getfield 17, 3) := by decide +kernel
theorem d_TR_fits_30 : decode b_TR_fits 30 = .ok (.aload_n 1, 1) := by decide +kernel
theorem d_TR_fits_31 : decode b_TR_fits 31 = .ok (.getfield 25, 3) := by decide +kernel
theorem d_TR_fits_34 : decode b_TR_fits 34 = .ok (.if_icmp .ne 7, 3) := by decide +kernel
theorem d_TR_fits_37 : decode b_TR_fits 37 = .ok (.iconst 1, 1) := by decide +kernel
theorem d_TR_fits_38 : decode b_TR_fits 38 = .ok (.goto 4, 3) := by decide +kernel
theorem d_TR_fits_41 : decode b_TR_fits 41 = .ok (.iconst 0, 1) := by decide +kernel
theorem d_TR_fits_42 : decode b_TR_fits 42 = .ok (.ireturn, 1) := by decide +kernel
theorem d_LM_addLeader_0 : decode b_LM_addLeader 0 = .ok (.iload_n 1, 1) := by decide +kernel
theorem d_LM_addLeader_1 : decode b_LM_addLeader 1 = .ok (.ifCond .lt 19, 3) := by decide +kernel
theorem d_LM_addLeader_4 : decode b_LM_addLeader 4 = .ok (.iload_n 1, 1) := by decide +kernel
theorem d_LM_addLeader_5 : decode b_LM_addLeader 5 = .ok (.aload_n 0, 1) := by decide +kernel
theorem d_LM_addLeader_6 : decode b_LM_addLeader 6 = .ok (.getfield 36, 3) := by decide +kernel
theorem d_LM_addLeader_9 : decode b_LM_addLeader 9 = .ok (.arraylength, 1) := by decide +kernel
theorem d_LM_addLeader_10 : decode b_LM_addLeader 10 = .ok (.if_icmp .ge 10, 3) := by decide +kernel
theorem d_LM_addLeader_13 : decode b_LM_addLeader 13 = .ok (.aload_n 0, 1) := by decide +kernel
theorem d_LM_addLeader_14 : decode b_LM_addLeader 14 = .ok (.getfield 36, 3) := by decide +kernel
theorem d_LM_addLeader_17 : decode b_LM_addLeader 17 = .ok (.iload_n 1, 1) := by decide +kernel
theorem d_LM_addLeader_18 : decode b_LM_addLeader 18 = .ok (.iconst 1, 1) := by decide +kernel
theorem d_LM_addLeader_19 : decode b_LM_addLeader 19 = .ok (.iastore, 1) := by decide +kernel
theorem d_LM_addLeader_20 : decode b_LM_addLeader 20 = .ok (.return_, 1) := by decide +kernel
theorem d_LM_findLeaders_0 : decode b_LM_findLeaders 0 = .ok (.aload_n 0, 1) := by decide +kernel
theorem d_LM_findLeaders_1 : decode b_LM_findLeaders 1 = .ok (.getfield 36, 3) := by decide +kernel
theorem d_LM_findLeaders_4 : decode b_LM_findLeaders 4 = .ok (.iconst 0, 1) := by decide +kernel
theorem d_LM_findLeaders_5 : decode b_LM_findLeaders 5 = .ok (.invokestatic 100, 3) := by decide +kernel
theorem d_LM_findLeaders_8 : decode b_LM_findLeaders 8 = .ok (.aload_n 0, 1) := by decide +kernel
theorem d_LM_findLeaders_9 : decode b_LM_findLeaders 9 = .ok (.getfield 36, 3) := by decide +kernel
theorem d_LM_findLeaders_12 : decode b_LM_findLeaders 12 = .ok (.iconst 0, 1) := by decide +kernel
theorem d_LM_findLeaders_13 : decode b_LM_findLeaders 13 = .ok (.iconst 1, 1) := by decide +kernel
theorem d_LM_findLeaders_14 : decode b_LM_findLeaders 14 = .ok (.iastore, 1) := by decide +kernel
theorem d_LM_findLeaders_15 : decode b_LM_findLeaders 15 = .ok (.iconst 0, 1) := by decide +kernel
theorem d_LM_findLeaders_16 : decode b_LM_findLeaders 16 = .ok (.istore_n 1, 1) := by decide +kernel
theorem d_LM_findLeaders_17 : decode b_LM_findLeaders 17 = .ok (.iload_n 1, 1) := by decide +kernel
theorem d_LM_findLeaders_18 : decode b_LM_findLeaders 18 = .ok (.aload_n 0, 1) := by decide +kernel
theorem d_LM_findLeaders_19 : decode b_LM_findLeaders 19 = .ok (.getfield 14, 3) := by decide +kernel
theorem d_LM_findLeaders_22 : decode b_LM_findLeaders 22 = .ok (.getfield 66, 3) := by decide +kernel
theorem d_LM_findLeaders_25 : decode b_LM_findLeaders 25 = .ok (.if_icmp .ge 76, 3) := by decide +kernel
theorem d_LM_findLeaders_28 : decode b_LM_findLeaders 28 = .ok (.aload_n 0, 1) := by decide +kernel
theorem d_LM_findLeaders_29 : decode b_LM_findLeaders 29 = .ok (.getfield 14, 3) := by decide +kernel
theorem d_LM_findLeaders_32 : decode b_LM_findLeaders 32 = .ok (.iload_n 1, 1) := by decide +kernel
theorem d_LM_findLeaders_33 : decode b_LM_findLeaders 33 = .ok (.invokevirtual 87, 3) := by decide +kernel
theorem d_LM_findLeaders_36 : decode b_LM_findLeaders 36 = .ok (.ifCond .ne 6, 3) := by decide +kernel
theorem d_LM_findLeaders_39 : decode b_LM_findLeaders 39 = .ok (.goto 56, 3) := by decide +kernel
theorem d_LM_findLeaders_42 : decode b_LM_findLeaders 42 = .ok (.aload_n 0, 1) := by decide +kernel
theorem d_LM_findLeaders_43 : decode b_LM_findLeaders 43 = .ok (.getfield 14, 3) := by decide +kernel
theorem d_LM_findLeaders_46 : decode b_LM_findLeaders 46 = .ok (.iload_n 1, 1) := by decide +kernel
theorem d_LM_findLeaders_47 : decode b_LM_findLeaders 47 = .ok (.invokevirtual 91, 3) := by decide +kernel
theorem d_LM_findLeaders_50 : decode b_LM_findLeaders 50 = .ok (.istore_n 2, 1) := by decide +kernel
theorem d_LM_findLeaders_51 : decode b_LM_findLeaders 51 = .ok (.iload_n 2, 1) := by decide +kernel
theorem d_LM_findLeaders_52 : decode b_LM_findLeaders 52 = .ok (.invokestatic 106, 3) := by decide +kernel
theorem d_LM_findLeaders_55 : decode b_LM_findLeaders 55 = .ok (.istore_n 3, 1) := by decide +kernel
theorem d_LM_findLeaders_56 : decode b_LM_findLeaders 56 = .ok (.iload_n 3, 1) := by decide +kernel
theorem d_LM_findLeaders_57 : decode b_LM_findLeaders 57 = .ok (.ifCond .eq 17, 3) := by decide +kernel
theorem d_LM_findLeaders_60 : decode b_LM_findLeaders 60 = .ok (.aload_n 0, 1) := by decide +kernel
theorem d_LM_findLeaders_61 : decode b_LM_findLeaders 61 = .ok (.iload_n 1, 1) := by decide +kernel
theorem d_LM_findLeaders_62 : decode b_LM_findLeaders 62 = .ok (.aload_n 0, 1) := by decide +kernel
theorem d_LM_findLeaders_63 : decode b_LM_findLeaders 63 = .ok (.getfield 14, 3) := by decide +kernel
theorem d_LM_findLeaders_66 : decode b_LM_findLeaders 66 = .ok (.iload_n 1, 1) := by decide +kernel
theorem d_LM_findLeaders_67 : decode b_LM_findLeaders 67 = .ok (.invokevirtual 109, 3) := by decide +kernel
theorem d_LM_findLeaders_70 : decode b_LM_findLeaders 70 = .ok (.iadd, 1) := by decide +kernel
theorem d_LM_findLeaders_71 : decode b_LM_findLeaders 71 = .ok (.invokevirtual 112, 3) := by decide +kernel
theorem d_LM_findLeaders_74 : decode b_LM_findLeaders 74 = .ok (.iload_n 3, 1) := by decide +kernel
theorem d_LM_findLeaders_75 : decode b_LM_findLeaders 75 = .ok (.ifCond .ne 10, 3) := by decide +kernel
theorem d_LM_findLeaders_78 : decode b_LM_findLeaders 78 = .ok (.iload_n 2, 1) := by decide +kernel
theorem d_LM_findLeaders_79 : decode b_LM_findLeaders 79 = .ok (.invokestatic 115, 3) := by decide +kernel
theorem d_LM_findLeaders_82 : decode b_LM_findLeaders 82 = .ok (.ifCond .ne 13, 3) := by decide +kernel
theorem d_LM_findLeaders_85 : decode b_LM_findLeaders 85 = .ok (.aload_n 0, 1) := by decide +kernel
theorem d_LM_findLeaders_86 : decode b_LM_findLeaders 86 = .ok (.iload_n 1, 1) := by decide +kernel
theorem d_LM_findLeaders_87 : decode b_LM_findLeaders 87 = .ok (.iload_n 2, 1) := by decide +kernel
theorem d_LM_findLeaders_88 : decode b_LM_findLeaders 88 = .ok (.invokestatic 118, 3) := by decide +kernel
theorem d_LM_findLeaders_91 : decode b_LM_findLeaders 91 = .ok (.iadd, 1) := by decide +kernel
theorem d_LM_findLeaders_92 : decode b_LM_findLeaders 92 = .ok (.invokevirtual 112, 3) := by decide +kernel
theorem d_LM_findLeaders_95 : decode b_LM_findLeaders 95 = .ok (.iinc 1 1, 3) := by decide +kernel
theorem d_LM_findLeaders_98 : decode b_LM_findLeaders 98 = .ok (.goto (-81), 3) := by decide +kernel
theorem d_LM_findLeaders_101 : decode b_LM_findLeaders 101 = .ok (.iconst 0, 1) := by decide +kernel
theorem d_LM_findLeaders_102 : decode b_LM_findLeaders 102 = .ok (.istore_n 1, 1) := by decide +kernel
theorem d_LM_findLeaders_103 : decode b_LM_findLeaders 103 = .ok (.iload_n 1, 1) := by decide +kernel
theorem d_LM_findLeaders_104 : decode b_LM_findLeaders 104 = .ok (.aload_n 0, 1) := by decide +kernel
theorem d_LM_findLeaders_105 : decode b_LM_findLeaders 105 = .ok (.getfield 14, 3) := by decide +kernel
theorem d_LM_findLeaders_108 : decode b_LM_findLeaders 108 = .ok (.getfield 57, 3) := by decide +kernel
theorem d_LM_findLeaders_111 : decode b_LM_findLeaders 111 = .ok (.if_icmp .ge 22, 3) := by decide +kernel
theorem d_LM_findLeaders_114 : decode b_LM_findLeaders 114 = .ok (.aload_n 0, 1) := by decide +kernel
theorem d_LM_findLeaders_115 : decode b_LM_findLeaders 115 = .ok (.aload_n 0, 1) := by decide +kernel
theorem d_LM_findLeaders_116 : decode b_LM_findLeaders 116 = .ok (.getfield 14, 3) := by decide +kernel
theorem d_LM_findLeaders_119 : decode b_LM_findLeaders 119 = .ok (.iload_n 1, 1) := by decide +kernel
theorem d_LM_findLeaders_120 : decode b_LM_findLeaders 120 = .ok (.iconst 2, 1) := by decide +kernel
theorem d_LM_findLeaders_121 : decode b_LM_findLeaders 121 = .ok (.invokevirtual 121, 3) := by decide +kernel
theorem d_LM_findLeaders_124 : decode b_LM_findLeaders 124 = .ok (.invokevirtual 112, 3) := by decide +kernel
theorem d_LM_findLeaders_127 : decode b_LM_findLeaders 127 = .ok (.iinc 1 1, 3) := by decide +kernel
theorem d_LM_findLeaders_130 : decode b_LM_findLeaders 130 = .ok (.goto (-27), 3) := by decide +kernel
theorem d_LM_findLeaders_133 : decode b_LM_findLeaders 133 = .ok (.return_, 1) := by decide +kernel
theorem d_LM_addItem_0 : decode b_LM_addItem 0 = .ok (.aload_n 0, 1) := by decide +kernel
theorem d_LM_addItem_1 : decode b_LM_addItem 1 = .ok (.getfield 43, 3) := by decide +kernel
theorem d_LM_addItem_4 : decode b_LM_addItem 4 = .ok (.sipush 243, 3) := by decide +kernel
theorem d_LM_addItem_7 : decode b_LM_addItem 7 = .ok (.if_icmp .lt 4, 3) := by decide +kernel
theorem d_LM_addItem_10 : decode b_LM_addItem 10 = .ok (.return_, 1) := by decide +kernel
theorem d_LM_addItem_11 : decode b_LM_addItem 11 = .ok (.aload_n 0, 1) := by decide +kernel
theorem d_LM_addItem_12 : decode b_LM_addItem 12 = .ok (.getfield 20, 3) := by decide +kernel
theorem d_LM_addItem_15 : decode b_LM_addItem 15 = .ok (.aload_n 0, 1) := by decide +kernel
theorem d_LM_addItem_16 : decode b_LM_addItem 16 = .ok (.getfield 43, 3) := by decide +kernel
theorem d_LM_addItem_19 : decode b_LM_addItem 19 = .ok (.iload_n 1, 1) := by decide +kernel
theorem d_LM_addItem_20 : decode b_LM_addItem 20 = .ok (.iastore, 1) := by decide +kernel
theorem d_LM_addItem_21 : decode b_LM_addItem 21 = .ok (.aload_n 0, 1) := by decide +kernel
theorem d_LM_addItem_22 : decode b_LM_addItem 22 = .ok (.getfield 24, 3) := by decide +kernel
theorem d_LM_addItem_25 : decode b_LM_addItem 25 = .ok (.aload_n 0, 1) := by decide +kernel
theorem d_LM_addItem_26 : decode b_LM_addItem 26 = .ok (.getfield 43, 3) := by decide +kernel
theorem d_LM_addItem_29 : decode b_LM_addItem 29 = .ok (.iload_n 2, 1) := by decide +kernel
theorem d_LM_addItem_30 : decode b_LM_addItem 30 = .ok (.iastore, 1) := by decide +kernel
theorem d_LM_addItem_31 : decode b_LM_addItem 31 = .ok (.aload_n 0, 1) := by decide +kernel
theorem d_LM_addItem_32 : decode b_LM_addItem 32 = .ok (.getfield 27, 3) := by decide +kernel
theorem d_LM_addItem_35 : decode b_LM_addItem 35 = .ok (.aload_n 0, 1) := by decide +kernel
theorem d_LM_addItem_36 : decode b_LM_addItem 36 = .ok (.getfield 43, 3) := by decide +kernel
theorem d_LM_addItem_39 : decode b_LM_addItem 39 = .ok (.iload_n 3, 1) := by decide +kernel
theorem d_LM_addItem_40 : decode b_LM_addItem 40 = .ok (.iastore, 1) := by decide +kernel
theorem d_LM_addItem_41 : decode b_LM_addItem 41 = .ok (.aload_n 0, 1) := by decide +kernel
theorem d_LM_addItem_42 : decode b_LM_addItem 42 = .ok (.dup, 1) := by decide +kernel
theorem d_LM_addItem_43 : decode b_LM_addItem 43 = .ok (.getfield 43, 3) := by decide +kernel
theorem d_LM_addItem_46 : decode b_LM_addItem 46 = .ok (.iconst 1, 1) := by decide +kernel
theorem d_LM_addItem_47 : decode b_LM_addItem 47 = .ok (.iadd, 1) := by decide +kernel
theorem d_LM_addItem_48 : decode b_LM_addItem 48 = .ok (.putfield 43, 3) := by decide +kernel
theorem d_LM_addItem_51 : decode b_LM_addItem 51 = .ok (.return_, 1) := by decide +kernel
theorem d_LM_addOldItem_0 : decode b_LM_addOldItem 0 = .ok (.aload_n 0, 1) := by decide +kernel
theorem d_LM_addOldItem_1 : decode b_LM_addOldItem 1 = .ok (.getfield 14, 3) := by decide +kernel
theorem d_LM_addOldItem_4 : decode b_LM_addOldItem 4 = .ok (.iload_n 1, 1) := by decide +kernel
theorem d_LM_addOldItem_5 : decode b_LM_addOldItem 5 = .ok (.invokevirtual 91, 3) := by decide +kernel
theorem d_LM_addOldItem_8 : decode b_LM_addOldItem 8 = .ok (.istore_n 2, 1) := by decide +kernel
theorem d_LM_addOldItem_9 : decode b_LM_addOldItem 9 = .ok (.aload_n 0, 1) := by decide +kernel
theorem d_LM_addOldItem_10 : decode b_LM_addOldItem 10 = .ok (.iload_n 2, 1) := by decide +kernel
theorem d_LM_addOldItem_11 : decode b_LM_addOldItem 11 = .ok (.iload_n 2, 1) := by decide +kernel
theorem d_LM_addOldItem_12 : decode b_LM_addOldItem 12 = .ok (.invokestatic 106, 3) := by decide +kernel
theorem d_LM_addOldItem_15 : decode b_LM_addOldItem 15 = .ok (.ifCond .eq 16, 3) := by decide +kernel
theorem d_LM_addOldItem_18 : decode b_LM_addOldItem 18 = .ok (.iload_n 1, 1) := by decide +kernel
theorem d_LM_addOldItem_19 : decode b_LM_addOldItem 19 = .ok (.aload_n 0, 1) := by decide +kernel
theorem d_LM_addOldItem_20 : decode b_LM_addOldItem 20 = .ok (.getfield 14, 3) := by decide +kernel
theorem d_LM_addOldItem_23 : decode b_LM_addOldItem 23 = .ok (.iload_n 1, 1) := by decide +kernel
theorem d_LM_addOldItem_24 : decode b_LM_addOldItem 24 = .ok (.invokevirtual 109, 3) := by decide +kernel
theorem d_LM_addOldItem_27 : decode b_LM_addOldItem 27 = .ok (.iadd, 1) := by decide +kernel
theorem d_LM_addOldItem_28 : decode b_LM_addOldItem 28 = .ok (.goto 4, 3) := by decide +kernel
theorem d_LM_addOldItem_31 : decode b_LM_addOldItem 31 = .ok (.iconst 0, 1) := by decide +kernel
theorem d_LM_addOldItem_32 : decode b_LM_addOldItem 32 = .ok (.iload_n 1, 1) := by decide +kernel
theorem d_LM_addOldItem_33 : decode b_LM_addOldItem 33 = .ok (.invokevirtual 83, 3) := by decide +kernel
theorem d_LM_addOldItem_36 : decode b_LM_addOldItem 36 = .ok (.return_, 1) := by decide +kernel
theorem d_LM_planCover_0 : decode b_LM_planCover 0 = .ok (.aload_n 0, 1) := by decide +kernel
theorem d_LM_planCover_1 : decode b_LM_planCover 1 = .ok (.invokevirtual 97, 3) := by decide +kernel
theorem d_LM_planCover_4 : decode b_LM_planCover 4 = .ok (.iconst 0, 1) := by decide +kernel
theorem d_LM_planCover_5 : decode b_LM_planCover 5 = .ok (.istore_n 1, 1) := by decide +kernel
theorem d_LM_planCover_6 : decode b_LM_planCover 6 = .ok (.iconst 0, 1) := by decide +kernel
theorem d_LM_planCover_7 : decode b_LM_planCover 7 = .ok (.istore_n 2, 1) := by decide +kernel
theorem d_LM_planCover_8 : decode b_LM_planCover 8 = .ok (.iload_n 2, 1) := by decide +kernel
theorem d_LM_planCover_9 : decode b_LM_planCover 9 = .ok (.aload_n 0, 1) := by decide +kernel
theorem d_LM_planCover_10 : decode b_LM_planCover 10 = .ok (.getfield 14, 3) := by decide +kernel
theorem d_LM_planCover_13 : decode b_LM_planCover 13 = .ok (.getfield 66, 3) := by decide +kernel
theorem d_LM_planCover_16 : decode b_LM_planCover 16 = .ok (.if_icmp .ge 58, 3) := by decide +kernel
theorem d_LM_planCover_19 : decode b_LM_planCover 19 = .ok (.aload_n 0, 1) := by decide +kernel
theorem d_LM_planCover_20 : decode b_LM_planCover 20 = .ok (.getfield 14, 3) := by decide +kernel
theorem d_LM_planCover_23 : decode b_LM_planCover 23 = .ok (.iload_n 2, 1) := by decide +kernel
theorem d_LM_planCover_24 : decode b_LM_planCover 24 = .ok (.invokevirtual 87, 3) := by decide +kernel
theorem d_LM_planCover_27 : decode b_LM_planCover 27 = .ok (.ifCond .ne 6, 3) := by decide +kernel
theorem d_LM_planCover_30 : decode b_LM_planCover 30 = .ok (.goto 38, 3) := by decide +kernel
theorem d_LM_planCover_33 : decode b_LM_planCover 33 = .ok (.aload_n 0, 1) := by decide +kernel
theorem d_LM_planCover_34 : decode b_LM_planCover 34 = .ok (.getfield 33, 3) := by decide +kernel
theorem d_LM_planCover_37 : decode b_LM_planCover 37 = .ok (.iload_n 2, 1) := by decide +kernel
theorem d_LM_planCover_38 : decode b_LM_planCover 38 = .ok (.aload_n 0, 1) := by decide +kernel
theorem d_LM_planCover_39 : decode b_LM_planCover 39 = .ok (.getfield 43, 3) := by decide +kernel
theorem d_LM_planCover_42 : decode b_LM_planCover 42 = .ok (.iastore, 1) := by decide +kernel
theorem d_LM_planCover_43 : decode b_LM_planCover 43 = .ok (.aload_n 0, 1) := by decide +kernel
theorem d_LM_planCover_44 : decode b_LM_planCover 44 = .ok (.getfield 36, 3) := by decide +kernel
theorem d_LM_planCover_47 : decode b_LM_planCover 47 = .ok (.iload_n 2, 1) := by decide +kernel
theorem d_LM_planCover_48 : decode b_LM_planCover 48 = .ok (.iaload, 1) := by decide +kernel
theorem d_LM_planCover_49 : decode b_LM_planCover 49 = .ok (.ifCond .eq 14, 3) := by decide +kernel
theorem d_LM_planCover_52 : decode b_LM_planCover 52 = .ok (.aload_n 0, 1) := by decide +kernel
theorem d_LM_planCover_53 : decode b_LM_planCover 53 = .ok (.bipush 31, 2) := by decide +kernel
theorem d_LM_planCover_55 : decode b_LM_planCover 55 = .ok (.iload_n 1, 1) := by decide +kernel
theorem d_LM_planCover_56 : decode b_LM_planCover 56 = .ok (.iconst (-1), 1) := by decide +kernel
theorem d_LM_planCover_57 : decode b_LM_planCover 57 = .ok (.invokevirtual 83, 3) := by decide +kernel
theorem d_LM_planCover_60 : decode b_LM_planCover 60 = .ok (.iinc 1 1, 3) := by decide +kernel
theorem d_LM_planCover_63 : decode b_LM_planCover 63 = .ok (.aload_n 0, 1) := by decide +kernel
theorem d_LM_planCover_64 : decode b_LM_planCover 64 = .ok (.iload_n 2, 1) := by decide +kernel
theorem d_LM_planCover_65 : decode b_LM_planCover 65 = .ok (.invokevirtual 94, 3) := by decide +kernel
theorem d_LM_planCover_68 : decode b_LM_planCover 68 = .ok (.iinc 2 1, 3) := by decide +kernel
theorem d_LM_planCover_71 : decode b_LM_planCover 71 = .ok (.goto (-63), 3) := by decide +kernel
theorem d_LM_planCover_74 : decode b_LM_planCover 74 = .ok (.aload_n 0, 1) := by decide +kernel
theorem d_LM_planCover_75 : decode b_LM_planCover 75 = .ok (.getfield 33, 3) := by decide +kernel
theorem d_LM_planCover_78 : decode b_LM_planCover 78 = .ok (.aload_n 0, 1) := by decide +kernel
theorem d_LM_planCover_79 : decode b_LM_planCover 79 = .ok (.getfield 14, 3) := by decide +kernel
theorem d_LM_planCover_82 : decode b_LM_planCover 82 = .ok (.getfield 66, 3) := by decide +kernel
theorem d_LM_planCover_85 : decode b_LM_planCover 85 = .ok (.aload_n 0, 1) := by decide +kernel
theorem d_LM_planCover_86 : decode b_LM_planCover 86 = .ok (.getfield 43, 3) := by decide +kernel
theorem d_LM_planCover_89 : decode b_LM_planCover 89 = .ok (.iastore, 1) := by decide +kernel
theorem d_LM_planCover_90 : decode b_LM_planCover 90 = .ok (.return_, 1) := by decide +kernel
theorem d_LM_planTrace_0 : decode b_LM_planTrace 0 = .ok (.aload_n 0, 1) := by decide +kernel
theorem d_LM_planTrace_1 : decode b_LM_planTrace 1 = .ok (.bipush 30, 2) := by decide +kernel
theorem d_LM_planTrace_3 : decode b_LM_planTrace 3 = .ok (.iconst 3, 1) := by decide +kernel
theorem d_LM_planTrace_4 : decode b_LM_planTrace 4 = .ok (.iload_n 1, 1) := by decide +kernel
theorem d_LM_planTrace_5 : decode b_LM_planTrace 5 = .ok (.imul, 1) := by decide +kernel
theorem d_LM_planTrace_6 : decode b_LM_planTrace 6 = .ok (.iconst (-1), 1) := by decide +kernel
theorem d_LM_planTrace_7 : decode b_LM_planTrace 7 = .ok (.invokevirtual 83, 3) := by decide +kernel
theorem d_LM_planTrace_10 : decode b_LM_planTrace 10 = .ok (.iconst 0, 1) := by decide +kernel
theorem d_LM_planTrace_11 : decode b_LM_planTrace 11 = .ok (.istore_n 2, 1) := by decide +kernel
theorem d_LM_planTrace_12 : decode b_LM_planTrace 12 = .ok (.iload_n 2, 1) := by decide +kernel
theorem d_LM_planTrace_13 : decode b_LM_planTrace 13 = .ok (.aload_n 0, 1) := by decide +kernel
theorem d_LM_planTrace_14 : decode b_LM_planTrace 14 = .ok (.getfield 14, 3) := by decide +kernel
theorem d_LM_planTrace_17 : decode b_LM_planTrace 17 = .ok (.getfield 66, 3) := by decide +kernel
theorem d_LM_planTrace_20 : decode b_LM_planTrace 20 = .ok (.if_icmp .ge 63, 3) := by decide +kernel
theorem d_LM_planTrace_23 : decode b_LM_planTrace 23 = .ok (.aload_n 0, 1) := by decide +kernel
theorem d_LM_planTrace_24 : decode b_LM_planTrace 24 = .ok (.getfield 14, 3) := by decide +kernel
theorem d_LM_planTrace_27 : decode b_LM_planTrace 27 = .ok (.iload_n 2, 1) := by decide +kernel
theorem d_LM_planTrace_28 : decode b_LM_planTrace 28 = .ok (.invokevirtual 87, 3) := by decide +kernel
theorem d_LM_planTrace_31 : decode b_LM_planTrace 31 = .ok (.ifCond .ne 6, 3) := by decide +kernel
theorem d_LM_planTrace_34 : decode b_LM_planTrace 34 = .ok (.goto 43, 3) := by decide +kernel
theorem d_LM_planTrace_37 : decode b_LM_planTrace 37 = .ok (.aload_n 0, 1) := by decide +kernel
theorem d_LM_planTrace_38 : decode b_LM_planTrace 38 = .ok (.getfield 33, 3) := by decide +kernel
theorem d_LM_planTrace_41 : decode b_LM_planTrace 41 = .ok (.iload_n 2, 1) := by decide +kernel
theorem d_LM_planTrace_42 : decode b_LM_planTrace 42 = .ok (.aload_n 0, 1) := by decide +kernel
theorem d_LM_planTrace_43 : decode b_LM_planTrace 43 = .ok (.getfield 43, 3) := by decide +kernel
theorem d_LM_planTrace_46 : decode b_LM_planTrace 46 = .ok (.iastore, 1) := by decide +kernel
theorem d_LM_planTrace_47 : decode b_LM_planTrace 47 = .ok (.aload_n 0, 1) := by decide +kernel
theorem d_LM_planTrace_48 : decode b_LM_planTrace 48 = .ok (.getfield 14, 3) := by decide +kernel
theorem d_LM_planTrace_51 : decode b_LM_planTrace 51 = .ok (.iload_n 2, 1) := by decide +kernel
theorem d_LM_planTrace_52 : decode b_LM_planTrace 52 = .ok (.invokevirtual 91, 3) := by decide +kernel
theorem d_LM_planTrace_55 : decode b_LM_planTrace 55 = .ok (.bipush 14, 2) := by decide +kernel
theorem d_LM_planTrace_57 : decode b_LM_planTrace 57 = .ok (.if_icmp .ne 15, 3) := by decide +kernel
theorem d_LM_planTrace_60 : decode b_LM_planTrace 60 = .ok (.aload_n 0, 1) := by decide +kernel
theorem d_LM_planTrace_61 : decode b_LM_planTrace 61 = .ok (.bipush 30, 2) := by decide +kernel
theorem d_LM_planTrace_63 : decode b_LM_planTrace 63 = .ok (.iconst 3, 1) := by decide +kernel
theorem d_LM_planTrace_64 : decode b_LM_planTrace 64 = .ok (.iload_n 1, 1) := by decide +kernel
theorem d_LM_planTrace_65 : decode b_LM_planTrace 65 = .ok (.imul, 1) := by decide +kernel
theorem d_LM_planTrace_66 : decode b_LM_planTrace 66 = .ok (.iconst 1, 1) := by decide +kernel
theorem d_LM_planTrace_67 : decode b_LM_planTrace 67 = .ok (.iadd, 1) := by decide +kernel
theorem d_LM_planTrace_68 : decode b_LM_planTrace 68 = .ok (.iconst (-1), 1) := by decide +kernel
theorem d_LM_planTrace_69 : decode b_LM_planTrace 69 = .ok (.invokevirtual 83, 3) := by decide +kernel
theorem d_LM_planTrace_72 : decode b_LM_planTrace 72 = .ok (.aload_n 0, 1) := by decide +kernel
theorem d_LM_planTrace_73 : decode b_LM_planTrace 73 = .ok (.iload_n 2, 1) := by decide +kernel
theorem d_LM_planTrace_74 : decode b_LM_planTrace 74 = .ok (.invokevirtual 94, 3) := by decide +kernel
theorem d_LM_planTrace_77 : decode b_LM_planTrace 77 = .ok (.iinc 2 1, 3) := by decide +kernel
theorem d_LM_planTrace_80 : decode b_LM_planTrace 80 = .ok (.goto (-68), 3) := by decide +kernel
theorem d_LM_planTrace_83 : decode b_LM_planTrace 83 = .ok (.aload_n 0, 1) := by decide +kernel
theorem d_LM_planTrace_84 : decode b_LM_planTrace 84 = .ok (.getfield 33, 3) := by decide +kernel
theorem d_LM_planTrace_87 : decode b_LM_planTrace 87 = .ok (.aload_n 0, 1) := by decide +kernel
theorem d_LM_planTrace_88 : decode b_LM_planTrace 88 = .ok (.getfield 14, 3) := by decide +kernel
theorem d_LM_planTrace_91 : decode b_LM_planTrace 91 = .ok (.getfield 66, 3) := by decide +kernel
theorem d_LM_planTrace_94 : decode b_LM_planTrace 94 = .ok (.aload_n 0, 1) := by decide +kernel
theorem d_LM_planTrace_95 : decode b_LM_planTrace 95 = .ok (.getfield 43, 3) := by decide +kernel
theorem d_LM_planTrace_98 : decode b_LM_planTrace 98 = .ok (.iastore, 1) := by decide +kernel
theorem d_LM_planTrace_99 : decode b_LM_planTrace 99 = .ok (.aload_n 0, 1) := by decide +kernel
theorem d_LM_planTrace_100 : decode b_LM_planTrace 100 = .ok (.bipush 30, 2) := by decide +kernel
theorem d_LM_planTrace_102 : decode b_LM_planTrace 102 = .ok (.iconst 3, 1) := by decide +kernel
theorem d_LM_planTrace_103 : decode b_LM_planTrace 103 = .ok (.iload_n 1, 1) := by decide +kernel
theorem d_LM_planTrace_104 : decode b_LM_planTrace 104 = .ok (.imul, 1) := by decide +kernel
theorem d_LM_planTrace_105 : decode b_LM_planTrace 105 = .ok (.iconst 2, 1) := by decide +kernel
theorem d_LM_planTrace_106 : decode b_LM_planTrace 106 = .ok (.iadd, 1) := by decide +kernel
theorem d_LM_planTrace_107 : decode b_LM_planTrace 107 = .ok (.iconst (-1), 1) := by decide +kernel
theorem d_LM_planTrace_108 : decode b_LM_planTrace 108 = .ok (.invokevirtual 83, 3) := by decide +kernel
theorem d_LM_planTrace_111 : decode b_LM_planTrace 111 = .ok (.aload_n 0, 1) := by decide +kernel
theorem d_LM_planTrace_112 : decode b_LM_planTrace 112 = .ok (.bipush 32, 2) := by decide +kernel
theorem d_LM_planTrace_114 : decode b_LM_planTrace 114 = .ok (.iconst 0, 1) := by decide +kernel
theorem d_LM_planTrace_115 : decode b_LM_planTrace 115 = .ok (.iconst (-1), 1) := by decide +kernel
theorem d_LM_planTrace_116 : decode b_LM_planTrace 116 = .ok (.invokevirtual 83, 3) := by decide +kernel
theorem d_LM_planTrace_119 : decode b_LM_planTrace 119 = .ok (.return_, 1) := by decide +kernel
theorem d_LM_countPlaces_0 : decode b_LM_countPlaces 0 = .ok (.aload_n 0, 1) := by decide +kernel
theorem d_LM_countPlaces_1 : decode b_LM_countPlaces 1 = .ok (.getfield 30, 3) := by decide +kernel
theorem d_LM_countPlaces_4 : decode b_LM_countPlaces 4 = .ok (.iconst 0, 1) := by decide +kernel
theorem d_LM_countPlaces_5 : decode b_LM_countPlaces 5 = .ok (.iconst 0, 1) := by decide +kernel
theorem d_LM_countPlaces_6 : decode b_LM_countPlaces 6 = .ok (.iastore, 1) := by decide +kernel
theorem d_LM_countPlaces_7 : decode b_LM_countPlaces 7 = .ok (.iconst 0, 1) := by decide +kernel
theorem d_LM_countPlaces_8 : decode b_LM_countPlaces 8 = .ok (.istore_n 1, 1) := by decide +kernel
theorem d_LM_countPlaces_9 : decode b_LM_countPlaces 9 = .ok (.iload_n 1, 1) := by decide +kernel
theorem d_LM_countPlaces_10 : decode b_LM_countPlaces 10 = .ok (.aload_n 0, 1) := by decide +kernel
theorem d_LM_countPlaces_11 : decode b_LM_countPlaces 11 = .ok (.getfield 43, 3) := by decide +kernel
theorem d_LM_countPlaces_14 : decode b_LM_countPlaces 14 = .ok (.if_icmp .ge 33, 3) := by decide +kernel
theorem d_LM_countPlaces_17 : decode b_LM_countPlaces 17 = .ok (.aload_n 0, 1) := by decide +kernel
theorem d_LM_countPlaces_18 : decode b_LM_countPlaces 18 = .ok (.getfield 30, 3) := by decide +kernel
theorem d_LM_countPlaces_21 : decode b_LM_countPlaces 21 = .ok (.iload_n 1, 1) := by decide +kernel
theorem d_LM_countPlaces_22 : decode b_LM_countPlaces 22 = .ok (.iconst 1, 1) := by decide +kernel
theorem d_LM_countPlaces_23 : decode b_LM_countPlaces 23 = .ok (.iadd, 1) := by decide +kernel
theorem d_LM_countPlaces_24 : decode b_LM_countPlaces 24 = .ok (.aload_n 0, 1) := by decide +kernel
theorem d_LM_countPlaces_25 : decode b_LM_countPlaces 25 = .ok (.getfield 30, 3) := by decide +kernel
theorem d_LM_countPlaces_28 : decode b_LM_countPlaces 28 = .ok (.iload_n 1, 1) := by decide +kernel
theorem d_LM_countPlaces_29 : decode b_LM_countPlaces 29 = .ok (.iaload, 1) := by decide +kernel
theorem d_LM_countPlaces_30 : decode b_LM_countPlaces 30 = .ok (.aload_n 0, 1) := by decide +kernel
theorem d_LM_countPlaces_31 : decode b_LM_countPlaces 31 = .ok (.getfield 20, 3) := by decide +kernel
theorem d_LM_countPlaces_34 : decode b_LM_countPlaces 34 = .ok (.iload_n 1, 1) := by decide +kernel
theorem d_LM_countPlaces_35 : decode b_LM_countPlaces 35 = .ok (.iaload, 1) := by decide +kernel
theorem d_LM_countPlaces_36 : decode b_LM_countPlaces 36 = .ok (.invokestatic 118, 3) := by decide +kernel
theorem d_LM_countPlaces_39 : decode b_LM_countPlaces 39 = .ok (.iadd, 1) := by decide +kernel
theorem d_LM_countPlaces_40 : decode b_LM_countPlaces 40 = .ok (.iastore, 1) := by decide +kernel
theorem d_LM_countPlaces_41 : decode b_LM_countPlaces 41 = .ok (.iinc 1 1, 3) := by decide +kernel
theorem d_LM_countPlaces_44 : decode b_LM_countPlaces 44 = .ok (.goto (-35), 3) := by decide +kernel
theorem d_LM_countPlaces_47 : decode b_LM_countPlaces 47 = .ok (.return_, 1) := by decide +kernel
theorem d_LM_newPlace_0 : decode b_LM_newPlace 0 = .ok (.iload_n 1, 1) := by decide +kernel
theorem d_LM_newPlace_1 : decode b_LM_newPlace 1 = .ok (.ifCond .lt 26, 3) := by decide +kernel
theorem d_LM_newPlace_4 : decode b_LM_newPlace 4 = .ok (.iload_n 1, 1) := by decide +kernel
theorem d_LM_newPlace_5 : decode b_LM_newPlace 5 = .ok (.aload_n 0, 1) := by decide +kernel
theorem d_LM_newPlace_6 : decode b_LM_newPlace 6 = .ok (.getfield 33, 3) := by decide +kernel
theorem d_LM_newPlace_9 : decode b_LM_newPlace 9 = .ok (.arraylength, 1) := by decide +kernel
theorem d_LM_newPlace_10 : decode b_LM_newPlace 10 = .ok (.if_icmp .ge 17, 3) := by decide +kernel
theorem d_LM_newPlace_13 : decode b_LM_newPlace 13 = .ok (.aload_n 0, 1) := by decide +kernel
theorem d_LM_newPlace_14 : decode b_LM_newPlace 14 = .ok (.getfield 30, 3) := by decide +kernel
theorem d_LM_newPlace_17 : decode b_LM_newPlace 17 = .ok (.aload_n 0, 1) := by decide +kernel
theorem d_LM_newPlace_18 : decode b_LM_newPlace 18 = .ok (.getfield 33, 3) := by decide +kernel
theorem d_LM_newPlace_21 : decode b_LM_newPlace 21 = .ok (.iload_n 1, 1) := by decide +kernel
theorem d_LM_newPlace_22 : decode b_LM_newPlace 22 = .ok (.iaload, 1) := by decide +kernel
theorem d_LM_newPlace_23 : decode b_LM_newPlace 23 = .ok (.iaload, 1) := by decide +kernel
theorem d_LM_newPlace_24 : decode b_LM_newPlace 24 = .ok (.goto 4, 3) := by decide +kernel
theorem d_LM_newPlace_27 : decode b_LM_newPlace 27 = .ok (.iconst 0, 1) := by decide +kernel
theorem d_LM_newPlace_28 : decode b_LM_newPlace 28 = .ok (.ireturn, 1) := by decide +kernel
theorem d_LM_newWay_0 : decode b_LM_newWay 0 = .ok (.aload_n 0, 1) := by decide +kernel
theorem d_LM_newWay_1 : decode b_LM_newWay 1 = .ok (.aload_n 0, 1) := by decide +kernel
theorem d_LM_newWay_2 : decode b_LM_newWay 2 = .ok (.getfield 24, 3) := by decide +kernel
theorem d_LM_newWay_5 : decode b_LM_newWay 5 = .ok (.iload_n 1, 1) := by decide +kernel
theorem d_LM_newWay_6 : decode b_LM_newWay 6 = .ok (.iaload, 1) := by decide +kernel
theorem d_LM_newWay_7 : decode b_LM_newWay 7 = .ok (.invokevirtual 69, 3) := by decide +kernel
theorem d_LM_newWay_10 : decode b_LM_newWay 10 = .ok (.aload_n 0, 1) := by decide +kernel
theorem d_LM_newWay_11 : decode b_LM_newWay 11 = .ok (.getfield 30, 3) := by decide +kernel
theorem d_LM_newWay_14 : decode b_LM_newWay 14 = .ok (.iload_n 1, 1) := by decide +kernel
theorem d_LM_newWay_15 : decode b_LM_newWay 15 = .ok (.iaload, 1) := by decide +kernel
theorem d_LM_newWay_16 : decode b_LM_newWay 16 = .ok (.isub, 1) := by decide +kernel
theorem d_LM_newWay_17 : decode b_LM_newWay 17 = .ok (.ireturn, 1) := by decide +kernel
theorem d_LM_widenWhereNeeded_0 : decode b_LM_widenWhereNeeded 0 = .ok (.iconst 0, 1) := by decide +kernel
theorem d_LM_widenWhereNeeded_1 : decode b_LM_widenWhereNeeded 1 = .ok (.istore_n 1, 1) := by decide +kernel
theorem d_LM_widenWhereNeeded_2 : decode b_LM_widenWhereNeeded 2 = .ok (.iconst 0, 1) := by decide +kernel
theorem d_LM_widenWhereNeeded_3 : decode b_LM_widenWhereNeeded 3 = .ok (.istore_n 2, 1) := by decide +kernel
theorem d_LM_widenWhereNeeded_4 : decode b_LM_widenWhereNeeded 4 = .ok (.iload_n 2, 1) := by decide +kernel
theorem d_LM_widenWhereNeeded_5 : decode b_LM_widenWhereNeeded 5 = .ok (.aload_n 0, 1) := by decide +kernel
theorem d_LM_widenWhereNeeded_6 : decode b_LM_widenWhereNeeded 6 = .ok (.getfield 43, 3) := by decide +kernel
theorem d_LM_widenWhereNeeded_9 : decode b_LM_widenWhereNeeded 9 = .ok (.if_icmp .ge 45, 3) := by decide +kernel
theorem d_LM_widenWhereNeeded_12 : decode b_LM_widenWhereNeeded 12 = .ok (.aload_n 0, 1) := by decide +kernel
theorem d_LM_widenWhereNeeded_13 : decode b_LM_widenWhereNeeded 13 = .ok (.getfield 20, 3) := by decide +kernel
theorem d_LM_widenWhereNeeded_16 : decode b_LM_widenWhereNeeded 16 = .ok (.iload_n 2, 1) := by decide +kernel
theorem d_LM_widenWhereNeeded_17 : decode b_LM_widenWhereNeeded 17 = .ok (.iaload, 1) := by decide +kernel
theorem d_LM_widenWhereNeeded_18 : decode b_LM_widenWhereNeeded 18 = .ok (.invokestatic 131, 3) := by decide +kernel
theorem d_LM_widenWhereNeeded_21 : decode b_LM_widenWhereNeeded 21 = .ok (.ifCond .eq 27, 3) := by decide +kernel
theorem d_LM_widenWhereNeeded_24 : decode b_LM_widenWhereNeeded 24 = .ok (.aload_n 0, 1) := by decide +kernel
theorem d_LM_widenWhereNeeded_25 : decode b_LM_widenWhereNeeded 25 = .ok (.iload_n 2, 1) := by decide +kernel
theorem d_LM_widenWhereNeeded_26 : decode b_LM_widenWhereNeeded 26 = .ok (.invokevirtual 134, 3) := by decide +kernel
theorem d_LM_widenWhereNeeded_29 : decode b_LM_widenWhereNeeded 29 = .ok (.invokestatic 137, 3) := by decide +kernel
theorem d_LM_widenWhereNeeded_32 : decode b_LM_widenWhereNeeded 32 = .ok (.ifCond .ne 16, 3) := by decide +kernel
theorem d_LM_widenWhereNeeded_35 : decode b_LM_widenWhereNeeded 35 = .ok (.aload_n 0, 1) := by decide +kernel
theorem d_LM_widenWhereNeeded_36 : decode b_LM_widenWhereNeeded 36 = .ok (.getfield 20, 3) := by decide +kernel
theorem d_LM_widenWhereNeeded_39 : decode b_LM_widenWhereNeeded 39 = .ok (.iload_n 2, 1) := by decide +kernel
theorem d_LM_widenWhereNeeded_40 : decode b_LM_widenWhereNeeded 40 = .ok (.dup2, 1) := by decide +kernel
theorem d_LM_widenWhereNeeded_41 : decode b_LM_widenWhereNeeded 41 = .ok (.iaload, 1) := by decide +kernel
theorem d_LM_widenWhereNeeded_42 : decode b_LM_widenWhereNeeded 42 = .ok (.bipush 10, 2) := by decide +kernel
theorem d_LM_widenWhereNeeded_44 : decode b_LM_widenWhereNeeded 44 = .ok (.iadd, 1) := by decide +kernel
theorem d_LM_widenWhereNeeded_45 : decode b_LM_widenWhereNeeded 45 = .ok (.iastore, 1) := by decide +kernel
theorem d_LM_widenWhereNeeded_46 : decode b_LM_widenWhereNeeded 46 = .ok (.iconst 1, 1) := by decide +kernel
theorem d_LM_widenWhereNeeded_47 : decode b_LM_widenWhereNeeded 47 = .ok (.istore_n 1, 1) := by decide +kernel
theorem d_LM_widenWhereNeeded_48 : decode b_LM_widenWhereNeeded 48 = .ok (.iinc 2 1, 3) := by decide +kernel
theorem d_LM_widenWhereNeeded_51 : decode b_LM_widenWhereNeeded 51 = .ok (.goto (-47), 3) := by decide +kernel
theorem d_LM_widenWhereNeeded_54 : decode b_LM_widenWhereNeeded 54 = .ok (.iload_n 1, 1) := by decide +kernel
theorem d_LM_widenWhereNeeded_55 : decode b_LM_widenWhereNeeded 55 = .ok (.ireturn, 1) := by decide +kernel
theorem d_LM_layOut_0 : decode b_LM_layOut 0 = .ok (.aload_n 0, 1) := by decide +kernel
theorem d_LM_layOut_1 : decode b_LM_layOut 1 = .ok (.invokevirtual 125, 3) := by decide +kernel
theorem d_LM_layOut_4 : decode b_LM_layOut 4 = .ok (.iconst 0, 1) := by decide +kernel
theorem d_LM_layOut_5 : decode b_LM_layOut 5 = .ok (.istore_n 1, 1) := by decide +kernel
theorem d_LM_layOut_6 : decode b_LM_layOut 6 = .ok (.iload_n 1, 1) := by decide +kernel
theorem d_LM_layOut_7 : decode b_LM_layOut 7 = .ok (.sipush 243, 3) := by decide +kernel
theorem d_LM_layOut_10 : decode b_LM_layOut 10 = .ok (.if_icmp .ge 20, 3) := by decide +kernel
theorem d_LM_layOut_13 : decode b_LM_layOut 13 = .ok (.aload_n 0, 1) := by decide +kernel
theorem d_LM_layOut_14 : decode b_LM_layOut 14 = .ok (.invokevirtual 128, 3) := by decide +kernel
theorem d_LM_layOut_17 : decode b_LM_layOut 17 = .ok (.ifCond .eq 13, 3) := by decide +kernel
theorem d_LM_layOut_20 : decode b_LM_layOut 20 = .ok (.aload_n 0, 1) := by decide +kernel
theorem d_LM_layOut_21 : decode b_LM_layOut 21 = .ok (.invokevirtual 125, 3) := by decide +kernel
theorem d_LM_layOut_24 : decode b_LM_layOut 24 = .ok (.iinc 1 1, 3) := by decide +kernel
theorem d_LM_layOut_27 : decode b_LM_layOut 27 = .ok (.goto (-21), 3) := by decide +kernel
theorem d_LM_layOut_30 : decode b_LM_layOut 30 = .ok (.return_, 1) := by decide +kernel
theorem d_LM_writeWay_0 : decode b_LM_writeWay 0 = .ok (.aload_n 0, 1) := by decide +kernel
theorem d_LM_writeWay_1 : decode b_LM_writeWay 1 = .ok (.getfield 30, 3) := by decide +kernel
theorem d_LM_writeWay_4 : decode b_LM_writeWay 4 = .ok (.iload_n 2, 1) := by decide +kernel
theorem d_LM_writeWay_5 : decode b_LM_writeWay 5 = .ok (.iaload, 1) := by decide +kernel
theorem d_LM_writeWay_6 : decode b_LM_writeWay 6 = .ok (.istore_n 3, 1) := by decide +kernel
theorem d_LM_writeWay_7 : decode b_LM_writeWay 7 = .ok (.aload_n 0, 1) := by decide +kernel
theorem d_LM_writeWay_8 : decode b_LM_writeWay 8 = .ok (.iload_n 2, 1) := by decide +kernel
theorem d_LM_writeWay_9 : decode b_LM_writeWay 9 = .ok (.invokevirtual 134, 3) := by decide +kernel
theorem d_LM_writeWay_12 : decode b_LM_writeWay 12 = .ok (.istore 4, 2) := by decide +kernel
theorem d_LM_writeWay_14 : decode b_LM_writeWay 14 = .ok (.aload_n 0, 1) := by decide +kernel
theorem d_LM_writeWay_15 : decode b_LM_writeWay 15 = .ok (.getfield 20, 3) := by decide +kernel
theorem d_LM_writeWay_18 : decode b_LM_writeWay 18 = .ok (.iload_n 2, 1) := by decide +kernel
theorem d_LM_writeWay_19 : decode b_LM_writeWay 19 = .ok (.iaload, 1) := by decide +kernel
theorem d_LM_writeWay_20 : decode b_LM_writeWay 20 = .ok (.invokestatic 153, 3) := by decide +kernel
theorem d_LM_writeWay_23 : decode b_LM_writeWay 23 = .ok (.ifCond .eq 37, 3) := by decide +kernel
theorem d_LM_writeWay_26 : decode b_LM_writeWay 26 = .ok (.aload_n 1, 1) := by decide +kernel
theorem d_LM_writeWay_27 : decode b_LM_writeWay 27 = .ok (.getfield 140, 3) := by decide +kernel
theorem d_LM_writeWay_30 : decode b_LM_writeWay 30 = .ok (.iload_n 3, 1) := by decide +kernel
theorem d_LM_writeWay_31 : decode b_LM_writeWay 31 = .ok (.iconst 1, 1) := by decide +kernel
theorem d_LM_writeWay_32 : decode b_LM_writeWay 32 = .ok (.iadd, 1) := by decide +kernel
theorem d_LM_writeWay_33 : decode b_LM_writeWay 33 = .ok (.iload 4, 2) := by decide +kernel
theorem d_LM_writeWay_35 : decode b_LM_writeWay 35 = .ok (.bipush 8, 2) := by decide +kernel
theorem d_LM_writeWay_37 : decode b_LM_writeWay 37 = .ok (.ishr, 1) := by decide +kernel
theorem d_LM_writeWay_38 : decode b_LM_writeWay 38 = .ok (.sipush 255, 3) := by decide +kernel
theorem d_LM_writeWay_41 : decode b_LM_writeWay 41 = .ok (.iand, 1) := by decide +kernel
theorem d_LM_writeWay_42 : decode b_LM_writeWay 42 = .ok (.iastore, 1) := by decide +kernel
theorem d_LM_writeWay_43 : decode b_LM_writeWay 43 = .ok (.aload_n 1, 1) := by decide +kernel
theorem d_LM_writeWay_44 : decode b_LM_writeWay 44 = .ok (.getfield 140, 3) := by decide +kernel
theorem d_LM_writeWay_47 : decode b_LM_writeWay 47 = .ok (.iload_n 3, 1) := by decide +kernel
theorem d_LM_writeWay_48 : decode b_LM_writeWay 48 = .ok (.iconst 2, 1) := by decide +kernel
theorem d_LM_writeWay_49 : decode b_LM_writeWay 49 = .ok (.iadd, 1) := by decide +kernel
theorem d_LM_writeWay_50 : decode b_LM_writeWay 50 = .ok (.iload 4, 2) := by decide +kernel
theorem d_LM_writeWay_52 : decode b_LM_writeWay 52 = .ok (.sipush 255, 3) := by decide +kernel
theorem d_LM_writeWay_55 : decode b_LM_writeWay 55 = .ok (.iand, 1) := by decide +kernel
theorem d_LM_writeWay_56 : decode b_LM_writeWay 56 = .ok (.iastore, 1) := by decide +kernel
theorem d_LM_writeWay_57 : decode b_LM_writeWay 57 = .ok (.goto 17, 3) := by decide +kernel
theorem d_LM_writeWay_60 : decode b_LM_writeWay 60 = .ok (.aload_n 1, 1) := by decide +kernel
theorem d_LM_writeWay_61 : decode b_LM_writeWay 61 = .ok (.getfield 140, 3) := by decide +kernel
theorem d_LM_writeWay_64 : decode b_LM_writeWay 64 = .ok (.iload_n 3, 1) := by decide +kernel
theorem d_LM_writeWay_65 : decode b_LM_writeWay 65 = .ok (.iconst 1, 1) := by decide +kernel
theorem d_LM_writeWay_66 : decode b_LM_writeWay 66 = .ok (.iadd, 1) := by decide +kernel
theorem d_LM_writeWay_67 : decode b_LM_writeWay 67 = .ok (.iload 4, 2) := by decide +kernel
theorem d_LM_writeWay_69 : decode b_LM_writeWay 69 = .ok (.sipush 255, 3) := by decide +kernel
theorem d_LM_writeWay_72 : decode b_LM_writeWay 72 = .ok (.iand, 1) := by decide +kernel
theorem d_LM_writeWay_73 : decode b_LM_writeWay 73 = .ok (.iastore, 1) := by decide +kernel
theorem d_LM_writeWay_74 : decode b_LM_writeWay 74 = .ok (.return_, 1) := by decide +kernel
theorem d_LM_writeNumber_0 : decode b_LM_writeNumber 0 = .ok (.aload_n 0, 1) := by decide +kernel
theorem d_LM_writeNumber_1 : decode b_LM_writeNumber 1 = .ok (.getfield 20, 3) := by decide +kernel
theorem d_LM_writeNumber_4 : decode b_LM_writeNumber 4 = .ok (.iload_n 2, 1) := by decide +kernel
theorem d_LM_writeNumber_5 : decode b_LM_writeNumber 5 = .ok (.iaload, 1) := by decide +kernel
theorem d_LM_writeNumber_6 : decode b_LM_writeNumber 6 = .ok (.invokestatic 118, 3) := by decide +kernel
theorem d_LM_writeNumber_9 : decode b_LM_writeNumber 9 = .ok (.iconst 2, 1) := by decide +kernel
theorem d_LM_writeNumber_10 : decode b_LM_writeNumber 10 = .ok (.if_icmp .ne 22, 3) := by decide +kernel
theorem d_LM_writeNumber_13 : decode b_LM_writeNumber 13 = .ok (.aload_n 1, 1) := by decide +kernel
theorem d_LM_writeNumber_14 : decode b_LM_writeNumber 14 = .ok (.getfield 140, 3) := by decide +kernel
theorem d_LM_writeNumber_17 : decode b_LM_writeNumber 17 = .ok (.aload_n 0, 1) := by decide +kernel
theorem d_LM_writeNumber_18 : decode b_LM_writeNumber 18 = .ok (.getfield 30, 3) := by decide +kernel
theorem d_LM_writeNumber_21 : decode b_LM_writeNumber 21 = .ok (.iload_n 2, 1) := by decide +kernel
theorem d_LM_writeNumber_22 : decode b_LM_writeNumber 22 = .ok (.iaload, 1) := by decide +kernel
theorem d_LM_writeNumber_23 : decode b_LM_writeNumber 23 = .ok (.iconst 1, 1) := by decide +kernel
theorem d_LM_writeNumber_24 : decode b_LM_writeNumber 24 = .ok (.iadd, 1) := by decide +kernel
theorem d_LM_writeNumber_25 : decode b_LM_writeNumber 25 = .ok (.aload_n 0, 1) := by decide +kernel
theorem d_LM_writeNumber_26 : decode b_LM_writeNumber 26 = .ok (.getfield 24, 3) := by decide +kernel
theorem d_LM_writeNumber_29 : decode b_LM_writeNumber 29 = .ok (.iload_n 2, 1) := by decide +kernel
theorem d_LM_writeNumber_30 : decode b_LM_writeNumber 30 = .ok (.iaload, 1) := by decide +kernel
theorem d_LM_writeNumber_31 : decode b_LM_writeNumber 31 = .ok (.iastore, 1) := by decide +kernel
theorem d_LM_writeNumber_32 : decode b_LM_writeNumber 32 = .ok (.return_, 1) := by decide +kernel
theorem d_LM_copyNumbers_0 : decode b_LM_copyNumbers 0 = .ok (.iconst 1, 1) := by decide +kernel
theorem d_LM_copyNumbers_1 : decode b_LM_copyNumbers 1 = .ok (.istore_n 3, 1) := by decide +kernel
theorem d_LM_copyNumbers_2 : decode b_LM_copyNumbers 2 = .ok (.iload_n 3, 1) := by decide +kernel
theorem d_LM_copyNumbers_3 : decode b_LM_copyNumbers 3 = .ok (.aload_n 0, 1) := by decide +kernel
theorem d_LM_copyNumbers_4 : decode b_LM_copyNumbers 4 = .ok (.getfield 20, 3) := by decide +kernel
theorem d_LM_copyNumbers_7 : decode b_LM_copyNumbers 7 = .ok (.iload_n 2, 1) := by decide +kernel
theorem d_LM_copyNumbers_8 : decode b_LM_copyNumbers 8 = .ok (.iaload, 1) := by decide +kernel
theorem d_LM_copyNumbers_9 : decode b_LM_copyNumbers 9 = .ok (.invokestatic 118, 3) := by decide +kernel
theorem d_LM_copyNumbers_12 : decode b_LM_copyNumbers 12 = .ok (.if_icmp .ge 37, 3) := by decide +kernel
theorem d_LM_copyNumbers_15 : decode b_LM_copyNumbers 15 = .ok (.aload_n 1, 1) := by decide +kernel
theorem d_LM_copyNumbers_16 : decode b_LM_copyNumbers 16 = .ok (.getfield 140, 3) := by decide +kernel
theorem d_LM_copyNumbers_19 : decode b_LM_copyNumbers 19 = .ok (.aload_n 0, 1) := by decide +kernel
theorem d_LM_copyNumbers_20 : decode b_LM_copyNumbers 20 = .ok (.getfield 30, 3) := by decide +kernel
theorem d_LM_copyNumbers_23 : decode b_LM_copyNumbers 23 = .ok (.iload_n 2, 1) := by decide +kernel
theorem d_LM_copyNumbers_24 : decode b_LM_copyNumbers 24 = .ok (.iaload, 1) := by decide +kernel
theorem d_LM_copyNumbers_25 : decode b_LM_copyNumbers 25 = .ok (.iload_n 3, 1) := by decide +kernel
theorem d_LM_copyNumbers_26 : decode b_LM_copyNumbers 26 = .ok (.iadd, 1) := by decide +kernel
theorem d_LM_copyNumbers_27 : decode b_LM_copyNumbers 27 = .ok (.aload_n 0, 1) := by decide +kernel
theorem d_LM_copyNumbers_28 : decode b_LM_copyNumbers 28 = .ok (.getfield 14, 3) := by decide +kernel
theorem d_LM_copyNumbers_31 : decode b_LM_copyNumbers 31 = .ok (.aload_n 0, 1) := by decide +kernel
theorem d_LM_copyNumbers_32 : decode b_LM_copyNumbers 32 = .ok (.getfield 27, 3) := by decide +kernel
theorem d_LM_copyNumbers_35 : decode b_LM_copyNumbers 35 = .ok (.iload_n 2, 1) := by decide +kernel
theorem d_LM_copyNumbers_36 : decode b_LM_copyNumbers 36 = .ok (.iaload, 1) := by decide +kernel
theorem d_LM_copyNumbers_37 : decode b_LM_copyNumbers 37 = .ok (.iload_n 3, 1) := by decide +kernel
theorem d_LM_copyNumbers_38 : decode b_LM_copyNumbers 38 = .ok (.iadd, 1) := by decide +kernel
theorem d_LM_copyNumbers_39 : decode b_LM_copyNumbers 39 = .ok (.invokevirtual 91, 3) := by decide +kernel
theorem d_LM_copyNumbers_42 : decode b_LM_copyNumbers 42 = .ok (.iastore, 1) := by decide +kernel
theorem d_LM_copyNumbers_43 : decode b_LM_copyNumbers 43 = .ok (.iinc 3 1, 3) := by decide +kernel
theorem d_LM_copyNumbers_46 : decode b_LM_copyNumbers 46 = .ok (.goto (-44), 3) := by decide +kernel
theorem d_LM_copyNumbers_49 : decode b_LM_copyNumbers 49 = .ok (.return_, 1) := by decide +kernel
theorem d_LM_writeCode_0 : decode b_LM_writeCode 0 = .ok (.aload_n 1, 1) := by decide +kernel
theorem d_LM_writeCode_1 : decode b_LM_writeCode 1 = .ok (.aload_n 0, 1) := by decide +kernel
theorem d_LM_writeCode_2 : decode b_LM_writeCode 2 = .ok (.getfield 30, 3) := by decide +kernel
theorem d_LM_writeCode_5 : decode b_LM_writeCode 5 = .ok (.aload_n 0, 1) := by decide +kernel
theorem d_LM_writeCode_6 : decode b_LM_writeCode 6 = .ok (.getfield 43, 3) := by decide +kernel
theorem d_LM_writeCode_9 : decode b_LM_writeCode 9 = .ok (.iaload, 1) := by decide +kernel
theorem d_LM_writeCode_10 : decode b_LM_writeCode 10 = .ok (.putfield 66, 3) := by decide +kernel
theorem d_LM_writeCode_13 : decode b_LM_writeCode 13 = .ok (.iconst 0, 1) := by decide +kernel
theorem d_LM_writeCode_14 : decode b_LM_writeCode 14 = .ok (.istore_n 2, 1) := by decide +kernel
theorem d_LM_writeCode_15 : decode b_LM_writeCode 15 = .ok (.iload_n 2, 1) := by decide +kernel
theorem d_LM_writeCode_16 : decode b_LM_writeCode 16 = .ok (.aload_n 0, 1) := by decide +kernel
theorem d_LM_writeCode_17 : decode b_LM_writeCode 17 = .ok (.getfield 43, 3) := by decide +kernel
theorem d_LM_writeCode_20 : decode b_LM_writeCode 20 = .ok (.if_icmp .ge 72, 3) := by decide +kernel
theorem d_LM_writeCode_23 : decode b_LM_writeCode 23 = .ok (.aload_n 1, 1) := by decide +kernel
theorem d_LM_writeCode_24 : decode b_LM_writeCode 24 = .ok (.getfield 140, 3) := by decide +kernel
theorem d_LM_writeCode_27 : decode b_LM_writeCode 27 = .ok (.aload_n 0, 1) := by decide +kernel
theorem d_LM_writeCode_28 : decode b_LM_writeCode 28 = .ok (.getfield 30, 3) := by decide +kernel
theorem d_LM_writeCode_31 : decode b_LM_writeCode 31 = .ok (.iload_n 2, 1) := by decide +kernel
theorem d_LM_writeCode_32 : decode b_LM_writeCode 32 = .ok (.iaload, 1) := by decide +kernel
theorem d_LM_writeCode_33 : decode b_LM_writeCode 33 = .ok (.aload_n 0, 1) := by decide +kernel
theorem d_LM_writeCode_34 : decode b_LM_writeCode 34 = .ok (.getfield 20, 3) := by decide +kernel
theorem d_LM_writeCode_37 : decode b_LM_writeCode 37 = .ok (.iload_n 2, 1) := by decide +kernel
theorem d_LM_writeCode_38 : decode b_LM_writeCode 38 = .ok (.iaload, 1) := by decide +kernel
theorem d_LM_writeCode_39 : decode b_LM_writeCode 39 = .ok (.iastore, 1) := by decide +kernel
theorem d_LM_writeCode_40 : decode b_LM_writeCode 40 = .ok (.aload_n 0, 1) := by decide +kernel
theorem d_LM_writeCode_41 : decode b_LM_writeCode 41 = .ok (.getfield 20, 3) := by decide +kernel
theorem d_LM_writeCode_44 : decode b_LM_writeCode 44 = .ok (.iload_n 2, 1) := by decide +kernel
theorem d_LM_writeCode_45 : decode b_LM_writeCode 45 = .ok (.iaload, 1) := by decide +kernel
theorem d_LM_writeCode_46 : decode b_LM_writeCode 46 = .ok (.invokestatic 106, 3) := by decide +kernel
theorem d_LM_writeCode_49 : decode b_LM_writeCode 49 = .ok (.ifCond .eq 12, 3) := by decide +kernel
theorem d_LM_writeCode_52 : decode b_LM_writeCode 52 = .ok (.aload_n 0, 1) := by decide +kernel
theorem d_LM_writeCode_53 : decode b_LM_writeCode 53 = .ok (.aload_n 1, 1) := by decide +kernel
theorem d_LM_writeCode_54 : decode b_LM_writeCode 54 = .ok (.iload_n 2, 1) := by decide +kernel
theorem d_LM_writeCode_55 : decode b_LM_writeCode 55 = .ok (.invokevirtual 143, 3) := by decide +kernel
theorem d_LM_writeCode_58 : decode b_LM_writeCode 58 = .ok (.goto 28, 3) := by decide +kernel
theorem d_LM_writeCode_61 : decode b_LM_writeCode 61 = .ok (.aload_n 0, 1) := by decide +kernel
theorem d_LM_writeCode_62 : decode b_LM_writeCode 62 = .ok (.getfield 27, 3) := by decide +kernel
theorem d_LM_writeCode_65 : decode b_LM_writeCode 65 = .ok (.iload_n 2, 1) := by decide +kernel
theorem d_LM_writeCode_66 : decode b_LM_writeCode 66 = .ok (.iaload, 1) := by decide +kernel
theorem d_LM_writeCode_67 : decode b_LM_writeCode 67 = .ok (.iconst (-1), 1) := by decide +kernel
theorem d_LM_writeCode_68 : decode b_LM_writeCode 68 = .ok (.if_icmp .ne 12, 3) := by decide +kernel
theorem d_LM_writeCode_71 : decode b_LM_writeCode 71 = .ok (.aload_n 0, 1) := by decide +kernel
theorem d_LM_writeCode_72 : decode b_LM_writeCode 72 = .ok (.aload_n 1, 1) := by decide +kernel
theorem d_LM_writeCode_73 : decode b_LM_writeCode 73 = .ok (.iload_n 2, 1) := by decide +kernel
theorem d_LM_writeCode_74 : decode b_LM_writeCode 74 = .ok (.invokevirtual 147, 3) := by decide +kernel
theorem d_LM_writeCode_77 : decode b_LM_writeCode 77 = .ok (.goto 9, 3) := by decide +kernel
theorem d_LM_writeCode_80 : decode b_LM_writeCode 80 = .ok (.aload_n 0, 1) := by decide +kernel
theorem d_LM_writeCode_81 : decode b_LM_writeCode 81 = .ok (.aload_n 1, 1) := by decide +kernel
theorem d_LM_writeCode_82 : decode b_LM_writeCode 82 = .ok (.iload_n 2, 1) := by decide +kernel
theorem d_LM_writeCode_83 : decode b_LM_writeCode 83 = .ok (.invokevirtual 150, 3) := by decide +kernel
theorem d_LM_writeCode_86 : decode b_LM_writeCode 86 = .ok (.iinc 2 1, 3) := by decide +kernel
theorem d_LM_writeCode_89 : decode b_LM_writeCode 89 = .ok (.goto (-74), 3) := by decide +kernel
theorem d_LM_writeCode_92 : decode b_LM_writeCode 92 = .ok (.return_, 1) := by decide +kernel
theorem d_LM_writeHandlers_0 : decode b_LM_writeHandlers 0 = .ok (.aload_n 1, 1) := by decide +kernel
theorem d_LM_writeHandlers_1 : decode b_LM_writeHandlers 1 = .ok (.iconst 0, 1) := by decide +kernel
theorem d_LM_writeHandlers_2 : decode b_LM_writeHandlers 2 = .ok (.putfield 57, 3) := by decide +kernel
theorem d_LM_writeHandlers_5 : decode b_LM_writeHandlers 5 = .ok (.iconst 0, 1) := by decide +kernel
theorem d_LM_writeHandlers_6 : decode b_LM_writeHandlers 6 = .ok (.istore_n 2, 1) := by decide +kernel
theorem d_LM_writeHandlers_7 : decode b_LM_writeHandlers 7 = .ok (.iload_n 2, 1) := by decide +kernel
theorem d_LM_writeHandlers_8 : decode b_LM_writeHandlers 8 = .ok (.aload_n 0, 1) := by decide +kernel
theorem d_LM_writeHandlers_9 : decode b_LM_writeHandlers 9 = .ok (.getfield 14, 3) := by decide +kernel
theorem d_LM_writeHandlers_12 : decode b_LM_writeHandlers 12 = .ok (.getfield 57, 3) := by decide +kernel
theorem d_LM_writeHandlers_15 : decode b_LM_writeHandlers 15 = .ok (.if_icmp .ge 67, 3) := by decide +kernel
theorem d_LM_writeHandlers_18 : decode b_LM_writeHandlers 18 = .ok (.aload_n 0, 1) := by decide +kernel
theorem d_LM_writeHandlers_19 : decode b_LM_writeHandlers 19 = .ok (.aload_n 0, 1) := by decide +kernel
theorem d_LM_writeHandlers_20 : decode b_LM_writeHandlers 20 = .ok (.getfield 14, 3) := by decide +kernel
theorem d_LM_writeHandlers_23 : decode b_LM_writeHandlers 23 = .ok (.iload_n 2, 1) := by decide +kernel
theorem d_LM_writeHandlers_24 : decode b_LM_writeHandlers 24 = .ok (.iconst 0, 1) := by decide +kernel
theorem d_LM_writeHandlers_25 : decode b_LM_writeHandlers 25 = .ok (.invokevirtual 121, 3) := by decide +kernel
theorem d_LM_writeHandlers_28 : decode b_LM_writeHandlers 28 = .ok (.invokevirtual 69, 3) := by decide +kernel
theorem d_LM_writeHandlers_31 : decode b_LM_writeHandlers 31 = .ok (.istore_n 3, 1) := by decide +kernel
theorem d_LM_writeHandlers_32 : decode b_LM_writeHandlers 32 = .ok (.aload_n 0, 1) := by decide +kernel
theorem d_LM_writeHandlers_33 : decode b_LM_writeHandlers 33 = .ok (.aload_n 0, 1) := by decide +kernel
theorem d_LM_writeHandlers_34 : decode b_LM_writeHandlers 34 = .ok (.getfield 14, 3) := by decide +kernel
theorem d_LM_writeHandlers_37 : decode b_LM_writeHandlers 37 = .ok (.iload_n 2, 1) := by decide +kernel
theorem d_LM_writeHandlers_38 : decode b_LM_writeHandlers 38 = .ok (.iconst 1, 1) := by decide +kernel
theorem d_LM_writeHandlers_39 : decode b_LM_writeHandlers 39 = .ok (.invokevirtual 121, 3) := by decide +kernel
theorem d_LM_writeHandlers_42 : decode b_LM_writeHandlers 42 = .ok (.invokevirtual 69, 3) := by decide +kernel
theorem d_LM_writeHandlers_45 : decode b_LM_writeHandlers 45 = .ok (.istore 4, 2) := by decide +kernel
theorem d_LM_writeHandlers_47 : decode b_LM_writeHandlers 47 = .ok (.aload_n 1, 1) := by decide +kernel
theorem d_LM_writeHandlers_48 : decode b_LM_writeHandlers 48 = .ok (.iload_n 3, 1) := by decide +kernel
theorem d_LM_writeHandlers_49 : decode b_LM_writeHandlers 49 = .ok (.iload 4, 2) := by decide +kernel
theorem d_LM_writeHandlers_51 : decode b_LM_writeHandlers 51 = .ok (.aload_n 0, 1) := by decide +kernel
theorem d_LM_writeHandlers_52 : decode b_LM_writeHandlers 52 = .ok (.aload_n 0, 1) := by decide +kernel
theorem d_LM_writeHandlers_53 : decode b_LM_writeHandlers 53 = .ok (.getfield 14, 3) := by decide +kernel
theorem d_LM_writeHandlers_56 : decode b_LM_writeHandlers 56 = .ok (.iload_n 2, 1) := by decide +kernel
theorem d_LM_writeHandlers_57 : decode b_LM_writeHandlers 57 = .ok (.iconst 2, 1) := by decide +kernel
theorem d_LM_writeHandlers_58 : decode b_LM_writeHandlers 58 = .ok (.invokevirtual 121, 3) := by decide +kernel
theorem d_LM_writeHandlers_61 : decode b_LM_writeHandlers 61 = .ok (.invokevirtual 69, 3) := by decide +kernel
theorem d_LM_writeHandlers_64 : decode b_LM_writeHandlers 64 = .ok (.aload_n 0, 1) := by decide +kernel
theorem d_LM_writeHandlers_65 : decode b_LM_writeHandlers 65 = .ok (.getfield 14, 3) := by decide +kernel
theorem d_LM_writeHandlers_68 : decode b_LM_writeHandlers 68 = .ok (.iload_n 2, 1) := by decide +kernel
theorem d_LM_writeHandlers_69 : decode b_LM_writeHandlers 69 = .ok (.iconst 3, 1) := by decide +kernel
theorem d_LM_writeHandlers_70 : decode b_LM_writeHandlers 70 = .ok (.invokevirtual 121, 3) := by decide +kernel
theorem d_LM_writeHandlers_73 : decode b_LM_writeHandlers 73 = .ok (.invokevirtual 73, 3) := by decide +kernel
theorem d_LM_writeHandlers_76 : decode b_LM_writeHandlers 76 = .ok (.iinc 2 1, 3) := by decide +kernel
theorem d_LM_writeHandlers_79 : decode b_LM_writeHandlers 79 = .ok (.goto (-72), 3) := by decide +kernel
theorem d_LM_writeHandlers_82 : decode b_LM_writeHandlers 82 = .ok (.return_, 1) := by decide +kernel
theorem d_LM_transform_0 : decode b_LM_transform 0 = .ok (.aload_n 0, 1) := by decide +kernel
theorem d_LM_transform_1 : decode b_LM_transform 1 = .ok (.getfield 14, 3) := by decide +kernel
theorem d_LM_transform_4 : decode b_LM_transform 4 = .ok (.aload_n 1, 1) := by decide +kernel
theorem d_LM_transform_5 : decode b_LM_transform 5 = .ok (.invokevirtual 39, 3) := by decide +kernel
theorem d_LM_transform_8 : decode b_LM_transform 8 = .ok (.aload_n 0, 1) := by decide +kernel
theorem d_LM_transform_9 : decode b_LM_transform 9 = .ok (.iconst 0, 1) := by decide +kernel
theorem d_LM_transform_10 : decode b_LM_transform 10 = .ok (.putfield 43, 3) := by decide +kernel
theorem d_LM_transform_13 : decode b_LM_transform 13 = .ok (.iload_n 2, 1) := by decide +kernel
theorem d_LM_transform_14 : decode b_LM_transform 14 = .ok (.ifCond .eq 10, 3) := by decide +kernel
theorem d_LM_transform_17 : decode b_LM_transform 17 = .ok (.aload_n 0, 1) := by decide +kernel
theorem d_LM_transform_18 : decode b_LM_transform 18 = .ok (.invokevirtual 47, 3) := by decide +kernel
theorem d_LM_transform_21 : decode b_LM_transform 21 = .ok (.goto 8, 3) := by decide +kernel
theorem d_LM_transform_24 : decode b_LM_transform 24 = .ok (.aload_n 0, 1) := by decide +kernel
theorem d_LM_transform_25 : decode b_LM_transform 25 = .ok (.iload_n 3, 1) := by decide +kernel
theorem d_LM_transform_26 : decode b_LM_transform 26 = .ok (.invokevirtual 50, 3) := by decide +kernel
theorem d_LM_transform_29 : decode b_LM_transform 29 = .ok (.aload_n 0, 1) := by decide +kernel
theorem d_LM_transform_30 : decode b_LM_transform 30 = .ok (.invokevirtual 54, 3) := by decide +kernel
theorem d_LM_transform_33 : decode b_LM_transform 33 = .ok (.iload_n 2, 1) := by decide +kernel
theorem d_LM_transform_34 : decode b_LM_transform 34 = .ok (.ifCond .eq 13, 3) := by decide +kernel
theorem d_LM_transform_37 : decode b_LM_transform 37 = .ok (.aload_n 0, 1) := by decide +kernel
theorem d_LM_transform_38 : decode b_LM_transform 38 = .ok (.getfield 14, 3) := by decide +kernel
theorem d_LM_transform_41 : decode b_LM_transform 41 = .ok (.getfield 57, 3) := by decide +kernel
theorem d_LM_transform_44 : decode b_LM_transform 44 = .ok (.goto 12, 3) := by decide +kernel
theorem d_LM_transform_47 : decode b_LM_transform 47 = .ok (.aload_n 0, 1) := by decide +kernel
theorem d_LM_transform_48 : decode b_LM_transform 48 = .ok (.getfield 14, 3) := by decide +kernel
theorem d_LM_transform_51 : decode b_LM_transform 51 = .ok (.getfield 57, 3) := by decide +kernel
theorem d_LM_transform_54 : decode b_LM_transform 54 = .ok (.iconst 1, 1) := by decide +kernel
theorem d_LM_transform_55 : decode b_LM_transform 55 = .ok (.iadd, 1) := by decide +kernel
theorem d_LM_transform_56 : decode b_LM_transform 56 = .ok (.istore 4, 2) := by decide +kernel
theorem d_LM_transform_58 : decode b_LM_transform 58 = .ok (.aload_n 0, 1) := by decide +kernel
theorem d_LM_transform_59 : decode b_LM_transform 59 = .ok (.getfield 30, 3) := by decide +kernel
theorem d_LM_transform_62 : decode b_LM_transform 62 = .ok (.aload_n 0, 1) := by decide +kernel
theorem d_LM_transform_63 : decode b_LM_transform 63 = .ok (.getfield 43, 3) := by decide +kernel
theorem d_LM_transform_66 : decode b_LM_transform 66 = .ok (.iaload, 1) := by decide +kernel
theorem d_LM_transform_67 : decode b_LM_transform 67 = .ok (.bipush 120, 2) := by decide +kernel
theorem d_LM_transform_69 : decode b_LM_transform 69 = .ok (.if_icmp .gt 9, 3) := by decide +kernel
theorem d_LM_transform_72 : decode b_LM_transform 72 = .ok (.iload 4, 2) := by decide +kernel
theorem d_LM_transform_74 : decode b_LM_transform 74 = .ok (.iconst 5, 1) := by decide +kernel
theorem d_LM_transform_75 : decode b_LM_transform 75 = .ok (.if_icmp .le 5, 3) := by decide +kernel
theorem d_LM_transform_78 : decode b_LM_transform 78 = .ok (.iconst 0, 1) := by decide +kernel
theorem d_LM_transform_79 : decode b_LM_transform 79 = .ok (.ireturn, 1) := by decide +kernel
theorem d_LM_transform_80 : decode b_LM_transform 80 = .ok (.aload_n 0, 1) := by decide +kernel
theorem d_LM_transform_81 : decode b_LM_transform 81 = .ok (.aload_n 1, 1) := by decide +kernel
theorem d_LM_transform_82 : decode b_LM_transform 82 = .ok (.invokevirtual 60, 3) := by decide +kernel
theorem d_LM_transform_85 : decode b_LM_transform 85 = .ok (.aload_n 0, 1) := by decide +kernel
theorem d_LM_transform_86 : decode b_LM_transform 86 = .ok (.aload_n 1, 1) := by decide +kernel
theorem d_LM_transform_87 : decode b_LM_transform 87 = .ok (.invokevirtual 63, 3) := by decide +kernel
theorem d_LM_transform_90 : decode b_LM_transform 90 = .ok (.iload_n 2, 1) := by decide +kernel
theorem d_LM_transform_91 : decode b_LM_transform 91 = .ok (.ifCond .ne 26, 3) := by decide +kernel
theorem d_LM_transform_94 : decode b_LM_transform 94 = .ok (.aload_n 0, 1) := by decide +kernel
theorem d_LM_transform_95 : decode b_LM_transform 95 = .ok (.aload_n 0, 1) := by decide +kernel
theorem d_LM_transform_96 : decode b_LM_transform 96 = .ok (.getfield 14, 3) := by decide +kernel
theorem d_LM_transform_99 : decode b_LM_transform 99 = .ok (.getfield 66, 3) := by decide +kernel
theorem d_LM_transform_102 : decode b_LM_transform 102 = .ok (.invokevirtual 69, 3) := by decide +kernel
theorem d_LM_transform_105 : decode b_LM_transform 105 = .ok (.istore 5, 2) := by decide +kernel
theorem d_LM_transform_107 : decode b_LM_transform 107 = .ok (.aload_n 1, 1) := by decide +kernel
theorem d_LM_transform_108 : decode b_LM_transform 108 = .ok (.iconst 0, 1) := by decide +kernel
theorem d_LM_transform_109 : decode b_LM_transform 109 = .ok (.iload 5, 2) := by decide +kernel
theorem d_LM_transform_111 : decode b_LM_transform 111 = .ok (.iload 5, 2) := by decide +kernel
theorem d_LM_transform_113 : decode b_LM_transform 113 = .ok (.iconst 0, 1) := by decide +kernel
theorem d_LM_transform_114 : decode b_LM_transform 114 = .ok (.invokevirtual 73, 3) := by decide +kernel
theorem d_LM_transform_117 : decode b_LM_transform 117 = .ok (.aload_n 1, 1) := by decide +kernel
theorem d_LM_transform_118 : decode b_LM_transform 118 = .ok (.invokevirtual 77, 3) := by decide +kernel
theorem d_LM_transform_121 : decode b_LM_transform 121 = .ok (.pop, 1) := by decide +kernel
theorem d_LM_transform_122 : decode b_LM_transform 122 = .ok (.iconst 1, 1) := by decide +kernel
theorem d_LM_transform_123 : decode b_LM_transform 123 = .ok (.ireturn, 1) := by decide +kernel
def f_TR_set (fu : Nat) (s0 : xw_S) (t0 : Nat) (p1 : Int) (p2 : Int) (p3 : Int) : Option xw_S :=
 xw_grd ((p1 = 0 ∨ p1 = 1)) (xw_let (xw_st s0 (21 + t0) 0 p1) (fun s1 => xw_let (xw_st s1 (21 + t0) 1 p2) (fun s4 => xw_let (xw_st s4 (21 + t0) 2 p3) (fun s6 => some s6))))
set_option maxRecDepth 100000 in
set_option maxHeartbeats 4000000 in
theorem c_TR_set (l : Launch) (D : va_G) (A : Nat → Prop) (ad : Nat → Nat) (cs : Nat → ClassId) (Z : va_W) (tt : Nat → Nat) (fu : Nat) (s0 sZ : xw_S) (t0 : Nat) (hb_t0 : t0 < 3) (p1 : Int) (p2 : Int) (p3 : Int) (h : f_TR_set fu s0 t0 p1 p2 p3 = some sZ) : Met l y_TR_set w_TR_set ({ frames := 0, cells := 0, slots := 0, locals := 0 }) (va_Pc [.ref (ad (21 + t0)), .int (xw_i p1), .int (xw_i p2), .int (xw_i p3)] (xw_H D vwCl A kdC 100 ad cs Z tt s0)) (va_Qv (fun u => u = sZ) (xw_H D vwCl A kdC 100 ad cs Z tt) A) 0 0 A := by
  refine Met.ofW (cc := b_TR_set) (maxL := 4) (ret := none) (by decide) rfl ?_
  intro p e s m args below meth c s₁ B hml hv
  obtain ⟨rfl, hP, hK, hD, hX⟩ := hv
  have hx := B.exec
  have hb := B.bytes
  have hr := B.returns
  have hts0 := atoms_spec (ws := w_TR_set) B.pre
  have hts := fun w (hw : w ∈ wAll) => hts0 w (List.mem_cons_of_mem _ hw)
  have hown : s.vm.findClass "AdviceWeaver$Transformer" = some m.cls := findClass_of_methodNamed B.named
  have hlk := B.notSynchronized
  clear hts0 B
  have hS : va_S A s.heap s.heap [] := va_S.rf
  have hl := lv_entry [.ref (ad (21 + t0)), .int (xw_i p1), .int (xw_i p2), .int (xw_i p3)] (n := 4) (Nat.le_of_ble_eq_true rfl)
  rw [lg_entry_eq]
  generalize (lg_sl [.ref (ad (21 + t0)), .int (xw_i p1), .int (xw_i p2), .int (xw_i p3)] ++ List.replicate (4 - (lg_sl [.ref (ad (21 + t0)), .int (xw_i p1), .int (xw_i p2), .int (xw_i p3)]).length) Slot.unset).toArray = ls at hl ⊢
  have hl : lv_has ls 4 [(0, .ref (ad (21 + t0))), (1, .int (xw_i p1)), (2, .int (xw_i p2)), (3, .int (xw_i p3))] := hl
  unfold f_TR_set at h
  refine lv_aload_n hx hb d_TR_set_0 rfl (lv_at hl 0 rfl) ?_
  refine lv_iload_n hx hb d_TR_set_1 rfl (lv_at hl 1 rfl) ?_
  obtain ⟨hg3, h⟩ := xw_grdI h
  refine xw_putB (C := "AdviceWeaver$Transformer") (T := T_TR) hx hb hts hin_TR ty_TR ty_TR_ok nm_TR hown hK hP hD hS (by omega) (kc_Tr t0 (by omega)) (by decide) rfl 0 (by decide) (hts _ hw_177) (fun _ h9 => h9) rfl (by decide +kernel) rfl d_TR_set_2 hg3 (fun s1 e2 H locs hP hS => ?_)
  replace h := xw_letI e2 h
  refine lv_aload_n hx hb d_TR_set_5 rfl (lv_at hl 0 rfl) ?_
  refine lv_iload_n hx hb d_TR_set_6 rfl (lv_at hl 2 rfl) ?_
  refine xw_putI (C := "AdviceWeaver$Transformer") (T := T_TR) hx hb hts hin_TR ty_TR ty_TR_ok nm_TR hown hK hP hD hS (by omega) (kc_Tr t0 (by omega)) (by decide) rfl 1 (by decide) (hts _ hw_178) (fun _ h9 => h9) rfl (by decide +kernel) rfl d_TR_set_7 (fun s4 e5 H locs hP hS => ?_)
  replace h := xw_letI e5 h
  refine lv_aload_n hx hb d_TR_set_10 rfl (lv_at hl 0 rfl) ?_
  refine lv_iload_n hx hb d_TR_set_11 rfl (lv_at hl 3 rfl) ?_
  refine xw_putI (C := "AdviceWeaver$Transformer") (T := T_TR) hx hb hts hin_TR ty_TR ty_TR_ok nm_TR hown hK hP hD hS (by omega) (kc_Tr t0 (by omega)) (by decide) rfl 2 (by decide) (hts _ hw_179) (fun _ h9 => h9) rfl (by decide +kernel) rfl d_TR_set_12 (fun s6 e7 H locs hP hS => ?_)
  replace h := xw_letI e7 h
  exact xw_vretE hx hb hr hlk hP hK hD hX hS h d_TR_set_15
def f_TR_fits (fu : Nat) (s0 : xw_S) (t0 : Nat) (b1 : Nat) : Option (xw_S × Int) :=
 xw_jn (fun (s5 : xw_S) => xw_jn (fun (s10 : xw_S) => some (s10, 1))
 (fun (j37 : xw_S → Option (xw_S × Int)) => xw_grd (xw_r (s5.1 (21 + t0) 2)) (xw_if (s5.1 (21 + t0) 2 = -1) (j37 s5)
 (xw_grd (xw_r (s5.1 (48 + 4 * b1) 5)) (xw_if (s5.1 (21 + t0) 2 = s5.1 (48 + 4 * b1) 5) (j37 s5)
 (some (s5, 0)))))))
 (fun (j18 : xw_S → Option (xw_S × Int)) => xw_grd (xw_r (s0.1 (21 + t0) 1)) (xw_if (s0.1 (21 + t0) 1 = 0) (j18 s0)
 (xw_grd (xw_r (s0.1 (48 + 4 * b1) 4)) (xw_if (s0.1 (21 + t0) 1 = s0.1 (48 + 4 * b1) 4) (j18 s0)
 (some (s0, 0))))))
set_option maxRecDepth 100000 in
set_option maxHeartbeats 4000000 in
theorem c_TR_fits (l : Launch) (D : va_G) (A : Nat → Prop) (ad : Nat → Nat) (cs : Nat → ClassId) (Z : va_W) (tt : Nat → Nat) (fu : Nat) (s0 sZ : xw_S) (t0 : Nat) (hb_t0 : t0 < 3) (b1 : Nat) (hb_b1 : b1 < 13) (r0 : Int) (h : f_TR_fits fu s0 t0 b1 = some (sZ, r0)) : Met l y_TR_fits w_TR_fits ({ frames := 0, cells := 0, slots := 0, locals := 0 }) (va_Pc [.ref (ad (21 + t0)), .ref (ad (48 + 4 * b1))] (xw_H D vwCl A kdC 100 ad cs Z tt s0)) (va_Qi (fun r u => r = xw_i r0 ∧ u = sZ) (xw_H D vwCl A kdC 100 ad cs Z tt) A) 0 0 A := by
  refine Met.ofW (cc := b_TR_fits) (maxL := 2) (ret := (some .boolean)) (by decide) rfl ?_
  intro p e s m args below meth c s₁ B hml hv
  obtain ⟨rfl, hP, hK, hD, hX⟩ := hv
  have hx := B.exec
  have hb := B.bytes
  have hr := B.returns
  have hts0 := atoms_spec (ws := w_TR_fits) B.pre
  have hts := fun w (hw : w ∈ wAll) => hts0 w (List.mem_cons_of_mem _ hw)
  have hown : s.vm.findClass "AdviceWeaver$Transformer" = some m.cls := findClass_of_methodNamed B.named
  have hlk := B.notSynchronized
  clear hts0 B
  have hS : va_S A s.heap s.heap [] := va_S.rf
  have hl := lv_entry [.ref (ad (21 + t0)), .ref (ad (48 + 4 * b1))] (n := 2) (Nat.le_of_ble_eq_true rfl)
  rw [lg_entry_eq]
  generalize (lg_sl [.ref (ad (21 + t0)), .ref (ad (48 + 4 * b1))] ++ List.replicate (2 - (lg_sl [.ref (ad (21 + t0)), .ref (ad (48 + 4 * b1))]).length) Slot.unset).toArray = ls at hl ⊢
  have hl : lv_has ls 2 [(0, .ref (ad (21 + t0))), (1, .ref (ad (48 + 4 * b1)))] := hl
  unfold f_TR_fits at h
  refine lv_aload_n hx hb d_TR_fits_0 rfl (lv_at hl 0 rfl) ?_
  refine xw_getI (C := "AdviceWeaver$Transformer") (T := T_TR) hx hb hts hin_TR hown hK hP (by omega) (kc_Tr t0 (by omega)) (by decide) rfl 1 (by decide) (hts _ hw_178) (fun _ h9 => h9) rfl d_TR_fits_1 ?_
  refine xw_jnI (fun j => ∀ (sq : xw_S), j sq = some (sZ, r0) → ∀ (H : Heap) (locs : List Loc) (ls : Array Slot), va_P D vwCl (xw_ws kdC 100 ad cs Z sq) H → va_S A s.heap H locs → lv_has ls 2 [(0, .ref (ad (21 + t0))), (1, .ref (ad (48 + 4 * b1)))] → W p l e (headSpec w_TR_fits ({ frames := 0, cells := 0, slots := 0, locals := 0 })).room s m [.ref (ad (21 + t0)), .ref (ad (48 + 4 * b1))].toArray below meth c H locs 0 0 (MQ below (va_Qi (fun r u => r = xw_i r0 ∧ u = sZ) (xw_H D vwCl A kdC 100 ad cs Z tt) A) [.ref (ad (21 + t0)), .ref (ad (48 + 4 * b1))].toArray s 0 0 A) (F0 m 18 ls [])) h ?_ ?_
  · intro s5 h H locs ls hP hS hl
    refine lv_aload_n hx hb d_TR_fits_18 rfl (lv_at hl 0 rfl) ?_
    refine xw_getI (C := "AdviceWeaver$Transformer") (T := T_TR) hx hb hts hin_TR hown hK hP (by omega) (kc_Tr t0 (by omega)) (by decide) rfl 2 (by decide) (hts _ hw_179) (fun _ h9 => h9) rfl d_TR_fits_19 ?_
    refine lv_iconst (v := xw_i (-1)) hx hb d_TR_fits_22 rfl ?_
    refine xw_jnI (fun j => ∀ (sq : xw_S), j sq = some (sZ, r0) → ∀ (H : Heap) (locs : List Loc) (ls : Array Slot), va_P D vwCl (xw_ws kdC 100 ad cs Z sq) H → va_S A s.heap H locs → lv_has ls 2 [] → W p l e (headSpec w_TR_fits ({ frames := 0, cells := 0, slots := 0, locals := 0 })).room s m [.ref (ad (21 + t0)), .ref (ad (48 + 4 * b1))].toArray below meth c H locs 0 0 (MQ below (va_Qi (fun r u => r = xw_i r0 ∧ u = sZ) (xw_H D vwCl A kdC 100 ad cs Z tt) A) [.ref (ad (21 + t0)), .ref (ad (48 + 4 * b1))].toArray s 0 0 A) (F0 m 37 ls [])) h ?_ ?_
    · intro s10 h H locs ls hP hS hl
      refine lv_iconst (v := xw_i 1) hx hb d_TR_fits_37 rfl ?_
      refine lv_goto (tgt := 42) hx hb d_TR_fits_38 (by decide) ?_
      exact xw_zretE hx hb hr hlk hP hK hD hX hS h (by decide) d_TR_fits_42
    · intro j37 hj37 h
      obtain ⟨hg6, h⟩ := xw_grdI h
      refine xw_icmp_eq (tgt := 37) hx hb hg6 (by decide) d_TR_fits_23 (by decide) (fun hc7 => ?_) (fun hc7 => ?_)
      · replace h := xw_ifT hc7 h
        exact hj37 s5 h _ _ _ hP hS (lv_sub hl [] rfl)
      · replace h := xw_ifF hc7 h
        refine lv_aload_n hx hb d_TR_fits_26 rfl (lv_at hl 0 rfl) ?_
        refine xw_getI (C := "AdviceWeaver$Transformer") (T := T_TR) hx hb hts hin_TR hown hK hP (by omega) (kc_Tr t0 (by omega)) (by decide) rfl 2 (by decide) (hts _ hw_179) (fun _ h9 => h9) rfl d_TR_fits_27 ?_
        refine lv_aload_n hx hb d_TR_fits_30 rfl (lv_at hl 1 rfl) ?_
        refine xw_getI (C := "AdviceWeaver$Body") (T := T_B) hx hb hts hin_B hown hK hP (by omega) (kc_Body b1 (by omega)) (by decide) rfl 5 (by decide) (hts _ hw_188) (fun _ h9 => h9) rfl d_TR_fits_31 ?_
        obtain ⟨hg8, h⟩ := xw_grdI h
        refine xw_icmp_ne (tgt := 41) hx hb hg6 hg8 d_TR_fits_34 (by decide) (fun hc9 => ?_) (fun hc9 => ?_)
        · replace h := xw_ifF hc9 h
          refine lv_iconst (v := xw_i 0) hx hb d_TR_fits_41 rfl ?_
          exact xw_zretE hx hb hr hlk hP hK hD hX hS h (by decide) d_TR_fits_42
        · replace h := xw_ifT hc9 h
          exact hj37 s5 h _ _ _ hP hS (lv_sub hl [] rfl)
  · intro j18 hj18 h
    obtain ⟨hg1, h⟩ := xw_grdI h
    refine xw_if_eq (tgt := 18) hx hb hg1 d_TR_fits_4 (by decide) (fun hc2 => ?_) (fun hc2 => ?_)
    · replace h := xw_ifT hc2 h
      exact hj18 s0 h _ _ _ hP hS (lv_sub hl [0, 1] rfl)
    · replace h := xw_ifF hc2 h
      refine lv_aload_n hx hb d_TR_fits_7 rfl (lv_at hl 0 rfl) ?_
      refine xw_getI (C := "AdviceWeaver$Transformer") (T := T_TR) hx hb hts hin_TR hown hK hP (by omega) (kc_Tr t0 (by omega)) (by decide) rfl 1 (by decide) (hts _ hw_178) (fun _ h9 => h9) rfl d_TR_fits_8 ?_
      refine lv_aload_n hx hb d_TR_fits_11 rfl (lv_at hl 1 rfl) ?_
      refine xw_getI (C := "AdviceWeaver$Body") (T := T_B) hx hb hts hin_B hown hK hP (by omega) (kc_Body b1 (by omega)) (by decide) rfl 4 (by decide) (hts _ hw_187) (fun _ h9 => h9) rfl d_TR_fits_12 ?_
      obtain ⟨hg3, h⟩ := xw_grdI h
      refine xw_icmp_ne (tgt := 41) hx hb hg1 hg3 d_TR_fits_15 (by decide) (fun hc4 => ?_) (fun hc4 => ?_)
      · replace h := xw_ifF hc4 h
        refine lv_iconst (v := xw_i 0) hx hb d_TR_fits_41 rfl ?_
        exact xw_zretE hx hb hr hlk hP hK hD hX hS h (by decide) d_TR_fits_42
      · replace h := xw_ifT hc4 h
        exact hj18 s0 h _ _ _ hP hS (lv_sub hl [0, 1] rfl)
def f_LM_addLeader (fu : Nat) (s0 : xw_S) (p1 : Int) : Option xw_S :=
 xw_grd (xw_r p1) (xw_if (p1 < 0) (some s0)
 (xw_if (121 ≤ p1) (some s0)
 (xw_grd ((0 ≤ p1 ∧ p1 < ((121 : Nat) : Int))) (xw_let (xw_st s0 16 (p1).toNat 1) (fun s5 => some s5)))))
set_option maxRecDepth 100000 in
set_option maxHeartbeats 4000000 in
theorem c_LM_addLeader (l : Launch) (D : va_G) (A : Nat → Prop) (ad : Nat → Nat) (cs : Nat → ClassId) (Z : va_W) (tt : Nat → Nat) (fu : Nat) (s0 sZ : xw_S) (p1 : Int) (h : f_LM_addLeader fu s0 p1 = some sZ) : Met l y_LM_addLeader w_LM_addLeader ({ frames := 0, cells := 0, slots := 0, locals := 0 }) (va_Pc [.ref (ad 10), .int (xw_i p1)] (xw_H D vwCl A kdC 100 ad cs Z tt s0)) (va_Qv (fun u => u = sZ) (xw_H D vwCl A kdC 100 ad cs Z tt) A) 0 0 A := by
  refine Met.ofW (cc := b_LM_addLeader) (maxL := 2) (ret := none) (by decide) rfl ?_
  intro p e s m args below meth c s₁ B hml hv
  obtain ⟨rfl, hP, hK, hD, hX⟩ := hv
  have hx := B.exec
  have hb := B.bytes
  have hr := B.returns
  have hts0 := atoms_spec (ws := w_LM_addLeader) B.pre
  have hts := fun w (hw : w ∈ wAll) => hts0 w (List.mem_cons_of_mem _ hw)
  have hown : s.vm.findClass "AdviceWeaver$Loom" = some m.cls := findClass_of_methodNamed B.named
  have hlk := B.notSynchronized
  clear hts0 B
  have hS : va_S A s.heap s.heap [] := va_S.rf
  have hl := lv_entry [.ref (ad 10), .int (xw_i p1)] (n := 2) (Nat.le_of_ble_eq_true rfl)
  rw [lg_entry_eq]
  generalize (lg_sl [.ref (ad 10), .int (xw_i p1)] ++ List.replicate (2 - (lg_sl [.ref (ad 10), .int (xw_i p1)]).length) Slot.unset).toArray = ls at hl ⊢
  have hl : lv_has ls 2 [(0, .ref (ad 10)), (1, .int (xw_i p1))] := hl
  unfold f_LM_addLeader at h
  refine lv_iload_n hx hb d_LM_addLeader_0 rfl (lv_at hl 1 rfl) ?_
  obtain ⟨hg1, h⟩ := xw_grdI h
  refine xw_if_lt (tgt := 20) hx hb hg1 d_LM_addLeader_1 (by decide) (fun hc2 => ?_) (fun hc2 => ?_)
  · replace h := xw_ifT hc2 h
    exact xw_vretE hx hb hr hlk hP hK hD hX hS h d_LM_addLeader_20
  · replace h := xw_ifF hc2 h
    refine lv_iload_n hx hb d_LM_addLeader_4 rfl (lv_at hl 1 rfl) ?_
    refine lv_aload_n hx hb d_LM_addLeader_5 rfl (lv_at hl 0 rfl) ?_
    refine xw_getR (C := "AdviceWeaver$Loom") (T := T_LM) hx hb hts hin_LM hown hK hP (by decide) kc_Loom (by decide) rfl 6 (by decide) (hts _ hw_189) (fun _ h9 => h9) rfl d_LM_addLeader_6 ?_
    refine xw_alenI hx hb hK hP (by decide) kc_leaders d_LM_addLeader_9 ?_
    refine xw_icmp_ge (tgt := 20) hx hb hg1 (by decide) d_LM_addLeader_10 (by decide) (fun hc3 => ?_) (fun hc3 => ?_)
    · replace h := xw_ifT hc3 h
      exact xw_vretE hx hb hr hlk hP hK hD hX hS h d_LM_addLeader_20
    · replace h := xw_ifF hc3 h
      refine lv_aload_n hx hb d_LM_addLeader_13 rfl (lv_at hl 0 rfl) ?_
      refine xw_getR (C := "AdviceWeaver$Loom") (T := T_LM) hx hb hts hin_LM hown hK hP (by decide) kc_Loom (by decide) rfl 6 (by decide) (hts _ hw_189) (fun _ h9 => h9) rfl d_LM_addLeader_14 ?_
      refine lv_iload_n hx hb d_LM_addLeader_17 rfl (lv_at hl 1 rfl) ?_
      refine lv_iconst (v := xw_i 1) hx hb d_LM_addLeader_18 rfl ?_
      obtain ⟨hg4, h⟩ := xw_grdI h
      refine xw_iast hx hb hK hP hD hS (by decide) kc_leaders (by decide) hg4 d_LM_addLeader_19 (fun s5 e6 H locs hP hS => ?_)
      replace h := xw_letI e6 h
      exact xw_vretE hx hb hr hlk hP hK hD hX hS h d_LM_addLeader_20
def lp_LM_findLeaders_17 (fu : Nat) (k101 : xw_S → Option xw_S) : Nat → xw_S → Int → Option xw_S
  | 0, _, _ => none
  | n + 1, s6, i1_17 =>
    xw_grd (xw_r i1_17 ∧ xw_r (s6.1 (48 + 4 * 12) 8)) (xw_if (s6.1 (48 + 4 * 12) 8 ≤ i1_17) (k101 s6)
     (xw_bn2 (f_B_begins fu s6 12 i1_17) (fun s9 r11 => xw_jn (fun (s43 : xw_S) (i1_95 : Int) => xw_let (i1_95 + 1) (fun v44 => lp_LM_findLeaders_17 fu k101 n s43 v44))
     (fun (j95 : xw_S → Int → Option xw_S) => xw_grd (xw_r r11) (xw_if (r11 = 0) (j95 s9 i1_17)
     (xw_bn2 (f_B_byteAt fu s9 12 i1_17) (fun s14 r16 => xw_bn2 (f_OP_isBranch fu s14 r16) (fun s17 r19 => xw_jn (fun (s28 : xw_S) (i1_74 : Int) (i2_74 : Int) (i3_74 : Int) => xw_jn (fun (s36 : xw_S) (i1_85 : Int) (i2_85 : Int) => xw_bn2 (f_OP_size fu s36 i2_85) (fun s37 r39 => xw_bnd (f_LM_addLeader fu s37 (i1_85 + r39)) (fun s40 => j95 s40 i1_85)))
     (fun (j85 : xw_S → Int → Int → Option xw_S) => xw_grd (xw_r i3_74) (xw_if (i3_74 = 0) (xw_bn2 (f_OP_goesOn fu s28 i2_74) (fun s31 r33 => xw_grd (xw_r r33) (xw_if (r33 = 0) (j85 s31 i1_74 i2_74)
     (j95 s31 i1_74))))
     (j85 s28 i1_74 i2_74))))
     (fun (j74 : xw_S → Int → Int → Int → Option xw_S) => xw_grd (xw_r r19) (xw_if (r19 = 0) (j74 s17 i1_17 r16 r19)
     (xw_bn2 (f_B_wayAt fu s17 12 i1_17) (fun s22 r24 => xw_bnd (f_LM_addLeader fu s22 (i1_17 + r24)) (fun s25 => j74 s25 i1_17 r16 r19)))))))))))))
def lp_LM_findLeaders_103 (fu : Nat) (k133 : xw_S → Option xw_S) : Nat → xw_S → Int → Option xw_S
  | 0, _, _ => none
  | n + 1, s47, i1_103 =>
    xw_grd (xw_r i1_103 ∧ xw_r (s47.1 (48 + 4 * 12) 9)) (xw_if (s47.1 (48 + 4 * 12) 9 ≤ i1_103) (k133 s47)
     (xw_bn2 (f_B_part fu s47 12 i1_103 2) (fun s50 r52 => xw_bnd (f_LM_addLeader fu s50 r52) (fun s53 => xw_let (i1_103 + 1) (fun v56 => lp_LM_findLeaders_103 fu k133 n s53 v56)))))
def f_LM_findLeaders (fu : Nat) (s0 : xw_S) : Option xw_S :=
 xw_bnd (f_AR_fill fu s0 16 121 0) (fun s1 => xw_let (xw_st s1 16 (0 : Int).toNat 1) (fun s4 => xw_jn (fun (s46 : xw_S) => xw_jn (fun (s58 : xw_S) => some s58)
 (fun (k133 : xw_S → Option xw_S) => lp_LM_findLeaders_103 fu k133 fu s46 0))
 (fun (k101 : xw_S → Option xw_S) => lp_LM_findLeaders_17 fu k101 fu s4 0)))
set_option maxRecDepth 100000 in
set_option maxHeartbeats 4000000 in
theorem c_LM_findLeaders (l : Launch) (D : va_G) (A : Nat → Prop) (ad : Nat → Nat) (cs : Nat → ClassId) (Z : va_W) (tt : Nat → Nat) (fu : Nat) (s0 sZ : xw_S) (h : f_LM_findLeaders fu s0 = some sZ) : Met l y_LM_findLeaders w_LM_findLeaders ({ frames := 2, cells := 0, slots := 0, locals := 43 }) (va_Pc [.ref (ad 10)] (xw_H D vwCl A kdC 100 ad cs Z tt s0)) (va_Qv (fun u => u = sZ) (xw_H D vwCl A kdC 100 ad cs Z tt) A) 0 0 A := by
  refine Met.ofW (cc := b_LM_findLeaders) (maxL := 4) (ret := none) (by decide) rfl ?_
  intro p e s m args below meth c s₁ B hml hv
  obtain ⟨rfl, hP, hK, hD, hX⟩ := hv
  have hx := B.exec
  have hb := B.bytes
  have hr := B.returns
  have hts0 := atoms_spec (ws := w_LM_findLeaders) B.pre
  have hts := fun w (hw : w ∈ wAll) => hts0 w (List.mem_cons_of_mem _ hw)
  have hown : s.vm.findClass "AdviceWeaver$Loom" = some m.cls := findClass_of_methodNamed B.named
  have hlk := B.notSynchronized
  clear hts0 B
  have hS : va_S A s.heap s.heap [] := va_S.rf
  have hl := lv_entry [.ref (ad 10)] (n := 4) (Nat.le_of_ble_eq_true rfl)
  rw [lg_entry_eq]
  generalize (lg_sl [.ref (ad 10)] ++ List.replicate (4 - (lg_sl [.ref (ad 10)]).length) Slot.unset).toArray = ls at hl ⊢
  have hl : lv_has ls 4 [(0, .ref (ad 10))] := hl
  have hlp17 : ∀ (k101 : xw_S → Option xw_S) (hk101 : ∀ (sq : xw_S), k101 sq = some sZ → ∀ (H : Heap) (locs : List Loc) (ls : Array Slot), va_P D vwCl (xw_ws kdC 100 ad cs Z sq) H → va_S A s.heap H locs → lv_has ls 4 [(0, .ref (ad 10))] → W p l e (headSpec w_LM_findLeaders ({ frames := 2, cells := 0, slots := 0, locals := 43 })).room s m [.ref (ad 10)].toArray below meth c H locs 0 0 (MQ below (va_Qv (fun u => u = sZ) (xw_H D vwCl A kdC 100 ad cs Z tt) A) [.ref (ad 10)].toArray s 0 0 A) (F0 m 101 ls [])) (n : Nat), ∀ (sq : xw_S) (i1_17 : Int), lp_LM_findLeaders_17 fu k101 n sq i1_17 = some sZ → ∀ (H : Heap) (locs : List Loc) (ls : Array Slot), va_P D vwCl (xw_ws kdC 100 ad cs Z sq) H → va_S A s.heap H locs → lv_has ls 4 [(0, .ref (ad 10)), (1, .int (xw_i i1_17))] → W p l e (headSpec w_LM_findLeaders ({ frames := 2, cells := 0, slots := 0, locals := 43 })).room s m [.ref (ad 10)].toArray below meth c H locs 0 0 (MQ below (va_Qv (fun u => u = sZ) (xw_H D vwCl A kdC 100 ad cs Z tt) A) [.ref (ad 10)].toArray s 0 0 A) (F0 m 17 ls []) := by
    intro k101 hk101 n
    induction n with
    | zero =>
      intro sq i1_17 h
      cases (show (none : Option xw_S) = some sZ from h)
    | succ n ih17 =>
      intro s6 i1_17 h H locs ls hP hS hl
      unfold lp_LM_findLeaders_17 at h
      refine lv_iload_n hx hb d_LM_findLeaders_17 rfl (lv_at hl 1 rfl) ?_
      refine lv_aload_n hx hb d_LM_findLeaders_18 rfl (lv_at hl 0 rfl) ?_
      refine xw_getR (C := "AdviceWeaver$Loom") (T := T_LM) hx hb hts hin_LM hown hK hP (by decide) kc_Loom (by decide) rfl 0 (by decide) (hts _ hw_194) (fun _ h9 => h9) rfl d_LM_findLeaders_19 ?_
      refine xw_getI (C := "AdviceWeaver$Body") (T := T_B) hx hb hts hin_B hown hK hP (by omega) (kc_Body 12 (by omega)) (by decide) rfl 8 (by decide) (hts _ hw_195) (fun _ h9 => h9) rfl d_LM_findLeaders_22 ?_
      obtain ⟨hg7, h⟩ := xw_grdI h
      refine xw_icmp_ge (tgt := 101) hx hb hg7.1 hg7.2 d_LM_findLeaders_25 (by decide) (fun hc8 => ?_) (fun hc8 => ?_)
      · replace h := xw_ifT hc8 h
        exact hk101 s6 h _ _ _ hP hS (lv_sub hl [0] rfl)
      · replace h := xw_ifF hc8 h
        refine lv_aload_n hx hb d_LM_findLeaders_28 rfl (lv_at hl 0 rfl) ?_
        refine xw_getR (C := "AdviceWeaver$Loom") (T := T_LM) hx hb hts hin_LM hown hK hP (by decide) kc_Loom (by decide) rfl 0 (by decide) (hts _ hw_194) (fun _ h9 => h9) rfl d_LM_findLeaders_29 ?_
        refine lv_iload_n hx hb d_LM_findLeaders_32 rfl (lv_at hl 1 rfl) ?_
        obtain ⟨s9, r11, hc10, h⟩ := xw_bn2I h
        refine xw_callVi (C := "AdviceWeaver$Body") (T := T_B) ⟨hx, hb, hml, hown, hts⟩ (c_B_begins l D A ad cs Z tt fu s6 s9 12 (by omega) i1_17 r11 hc10) (cwV 1 hts (gd_V hw_196 hw_76 hw_77 hw_25 hw_78) rfl rfl rfl (by decide +kernel) ⟨Nat.le_of_ble_eq_true rfl, Nat.le_of_ble_eq_true rfl⟩) hP hK hD hX hS (by omega) (kc_Body 12 (by omega)) (by decide) rfl rfl hl.1 rfl (Nat.le_of_ble_eq_true rfl) d_LM_findLeaders_33 (fun H locs hP hS => ?_)
        refine xw_jnI (fun j => ∀ (sq : xw_S) (i1_95 : Int), j sq i1_95 = some sZ → ∀ (H : Heap) (locs : List Loc) (ls : Array Slot), va_P D vwCl (xw_ws kdC 100 ad cs Z sq) H → va_S A s.heap H locs → lv_has ls 4 [(0, .ref (ad 10)), (1, .int (xw_i i1_95))] → W p l e (headSpec w_LM_findLeaders ({ frames := 2, cells := 0, slots := 0, locals := 43 })).room s m [.ref (ad 10)].toArray below meth c H locs 0 0 (MQ below (va_Qv (fun u => u = sZ) (xw_H D vwCl A kdC 100 ad cs Z tt) A) [.ref (ad 10)].toArray s 0 0 A) (F0 m 95 ls [])) h ?_ ?_
        · intro s43 i1_95 h H locs ls hP hS hl
          obtain ⟨v44, e45⟩ : ∃ z, z = i1_95 + 1 := ⟨_, rfl⟩
          replace h := xw_letI e45 h
          refine xw_iinc (lv' := [(1, .int (xw_i v44)), (0, .ref (ad 10))]) hx hb d_LM_findLeaders_95 hl (k := 1) rfl (by decide) (by rw [e45]; rfl) (fun ls hl => ?_)
          refine lv_goto (tgt := 17) hx hb d_LM_findLeaders_98 (by decide) ?_
          exact ih17 s43 v44 h _ _ _ hP hS (lv_sub hl [1, 0] rfl)
        · intro j95 hj95 h
          obtain ⟨hg12, h⟩ := xw_grdI h
          refine xw_if_ne (tgt := 42) hx hb hg12 d_LM_findLeaders_36 (by decide) (fun hc13 => ?_) (fun hc13 => ?_)
          · replace h := xw_ifF hc13 h
            refine lv_aload_n hx hb d_LM_findLeaders_42 rfl (lv_at hl 0 rfl) ?_
            refine xw_getR (C := "AdviceWeaver$Loom") (T := T_LM) hx hb hts hin_LM hown hK hP (by decide) kc_Loom (by decide) rfl 0 (by decide) (hts _ hw_194) (fun _ h9 => h9) rfl d_LM_findLeaders_43 ?_
            refine lv_iload_n hx hb d_LM_findLeaders_46 rfl (lv_at hl 1 rfl) ?_
            obtain ⟨s14, r16, hc15, h⟩ := xw_bn2I h
            refine xw_callVi (C := "AdviceWeaver$Body") (T := T_B) ⟨hx, hb, hml, hown, hts⟩ (c_B_byteAt l D A ad cs Z tt fu s9 s14 12 (by omega) i1_17 r16 hc15) (cwV 1 hts (gd_V hw_197 hw_57 hw_58 hw_25 hw_59) rfl rfl rfl (by decide +kernel) ⟨Nat.le_of_ble_eq_true rfl, Nat.le_of_ble_eq_true rfl⟩) hP hK hD hX hS (by omega) (kc_Body 12 (by omega)) (by decide) rfl rfl hl.1 rfl (Nat.le_of_ble_eq_true rfl) d_LM_findLeaders_47 (fun H locs hP hS => ?_)
            refine lv_istore_n hx hb d_LM_findLeaders_50 rfl hl (by decide) rfl (fun ls hl => ?_)
            refine lv_iload_n hx hb d_LM_findLeaders_51 rfl (lv_at hl 0 rfl) ?_
            obtain ⟨s17, r19, hc18, h⟩ := xw_bn2I h
            refine xw_callSi ⟨hx, hb, hml, hown, hts⟩ (c_OP_isBranch l D A ad cs Z tt fu s14 s17 r16 r19 hc18) (va_cwS 1 hts (gd_S hw_198 hw_65 hw_48 hw_66) rfl rfl rfl (by decide +kernel) ⟨Nat.le_of_ble_eq_true rfl, Nat.le_of_ble_eq_true rfl⟩) hP hK hD hX hS rfl hl.1 rfl (Nat.le_of_ble_eq_true rfl) d_LM_findLeaders_52 (fun H locs hP hS => ?_)
            refine lv_istore_n hx hb d_LM_findLeaders_55 rfl hl (by decide) rfl (fun ls hl => ?_)
            refine lv_iload_n hx hb d_LM_findLeaders_56 rfl (lv_at hl 0 rfl) ?_
            refine xw_jnI (fun j => ∀ (sq : xw_S) (i1_74 : Int) (i2_74 : Int) (i3_74 : Int), j sq i1_74 i2_74 i3_74 = some sZ → ∀ (H : Heap) (locs : List Loc) (ls : Array Slot), va_P D vwCl (xw_ws kdC 100 ad cs Z sq) H → va_S A s.heap H locs → lv_has ls 4 [(0, .ref (ad 10)), (1, .int (xw_i i1_74)), (2, .int (xw_i i2_74)), (3, .int (xw_i i3_74))] → W p l e (headSpec w_LM_findLeaders ({ frames := 2, cells := 0, slots := 0, locals := 43 })).room s m [.ref (ad 10)].toArray below meth c H locs 0 0 (MQ below (va_Qv (fun u => u = sZ) (xw_H D vwCl A kdC 100 ad cs Z tt) A) [.ref (ad 10)].toArray s 0 0 A) (F0 m 74 ls [])) h ?_ ?_
            · intro s28 i1_74 i2_74 i3_74 h H locs ls hP hS hl
              refine lv_iload_n hx hb d_LM_findLeaders_74 rfl (lv_at hl 3 rfl) ?_
              refine xw_jnI (fun j => ∀ (sq : xw_S) (i1_85 : Int) (i2_85 : Int), j sq i1_85 i2_85 = some sZ → ∀ (H : Heap) (locs : List Loc) (ls : Array Slot), va_P D vwCl (xw_ws kdC 100 ad cs Z sq) H → va_S A s.heap H locs → lv_has ls 4 [(0, .ref (ad 10)), (1, .int (xw_i i1_85)), (2, .int (xw_i i2_85))] → W p l e (headSpec w_LM_findLeaders ({ frames := 2, cells := 0, slots := 0, locals := 43 })).room s m [.ref (ad 10)].toArray below meth c H locs 0 0 (MQ below (va_Qv (fun u => u = sZ) (xw_H D vwCl A kdC 100 ad cs Z tt) A) [.ref (ad 10)].toArray s 0 0 A) (F0 m 85 ls [])) h ?_ ?_
              · intro s36 i1_85 i2_85 h H locs ls hP hS hl
                refine lv_aload_n hx hb d_LM_findLeaders_85 rfl (lv_at hl 0 rfl) ?_
                refine lv_iload_n hx hb d_LM_findLeaders_86 rfl (lv_at hl 1 rfl) ?_
                refine lv_iload_n hx hb d_LM_findLeaders_87 rfl (lv_at hl 2 rfl) ?_
                obtain ⟨s37, r39, hc38, h⟩ := xw_bn2I h
                refine xw_callSi ⟨hx, hb, hml, hown, hts⟩ (c_OP_size l D A ad cs Z tt fu s36 s37 i2_85 r39 hc38) (va_cwS 1 hts (gd_S hw_206 hw_47 hw_48 hw_49) rfl rfl rfl (by decide +kernel) ⟨Nat.le_of_ble_eq_true rfl, Nat.le_of_ble_eq_true rfl⟩) hP hK hD hX hS rfl hl.1 rfl (Nat.le_of_ble_eq_true rfl) d_LM_findLeaders_88 (fun H locs hP hS => ?_)
                refine xw_iadd hx hb d_LM_findLeaders_91 ?_
                obtain ⟨s40, hc41, h⟩ := xw_bndI h
                refine xw_callVv (C := "AdviceWeaver$Loom") (T := T_LM) ⟨hx, hb, hml, hown, hts⟩ (c_LM_addLeader l D A ad cs Z tt fu s37 s40 (i1_85 + r39) hc41) (cwV 1 hts (gd_V hw_200 hw_201 hw_202 hw_203 hw_204) rfl rfl rfl (by decide +kernel) ⟨Nat.le_of_ble_eq_true rfl, Nat.le_of_ble_eq_true rfl⟩) hP hK hD hX hS (by decide) kc_Loom (by decide) rfl rfl hl.1 rfl (Nat.le_of_ble_eq_true rfl) d_LM_findLeaders_92 (fun H locs hP hS => ?_)
                exact hj95 s40 i1_85 h _ _ _ hP hS (lv_sub hl [0, 1] rfl)
              · intro j85 hj85 h
                obtain ⟨hg29, h⟩ := xw_grdI h
                refine xw_if_ne (tgt := 85) hx hb hg29 d_LM_findLeaders_75 (by decide) (fun hc30 => ?_) (fun hc30 => ?_)
                · replace h := xw_ifF hc30 h
                  exact hj85 s28 i1_74 i2_74 h _ _ _ hP hS (lv_sub hl [0, 1, 2] rfl)
                · replace h := xw_ifT hc30 h
                  refine lv_iload_n hx hb d_LM_findLeaders_78 rfl (lv_at hl 2 rfl) ?_
                  obtain ⟨s31, r33, hc32, h⟩ := xw_bn2I h
                  refine xw_callSi ⟨hx, hb, hml, hown, hts⟩ (c_OP_goesOn l D A ad cs Z tt fu s28 s31 i2_74 r33 hc32) (va_cwS 1 hts (gd_S hw_205 hw_115 hw_48 hw_116) rfl rfl rfl (by decide +kernel) ⟨Nat.le_of_ble_eq_true rfl, Nat.le_of_ble_eq_true rfl⟩) hP hK hD hX hS rfl hl.1 rfl (Nat.le_of_ble_eq_true rfl) d_LM_findLeaders_79 (fun H locs hP hS => ?_)
                  obtain ⟨hg34, h⟩ := xw_grdI h
                  refine xw_if_ne (tgt := 95) hx hb hg34 d_LM_findLeaders_82 (by decide) (fun hc35 => ?_) (fun hc35 => ?_)
                  · replace h := xw_ifF hc35 h
                    exact hj95 s31 i1_74 h _ _ _ hP hS (lv_sub hl [0, 1] rfl)
                  · replace h := xw_ifT hc35 h
                    exact hj85 s31 i1_74 i2_74 h _ _ _ hP hS (lv_sub hl [0, 1, 2] rfl)
            · intro j74 hj74 h
              obtain ⟨hg20, h⟩ := xw_grdI h
              refine xw_if_eq (tgt := 74) hx hb hg20 d_LM_findLeaders_57 (by decide) (fun hc21 => ?_) (fun hc21 => ?_)
              · replace h := xw_ifT hc21 h
                exact hj74 s17 i1_17 r16 r19 h _ _ _ hP hS (lv_sub hl [2, 3, 1, 0] rfl)
              · replace h := xw_ifF hc21 h
                refine lv_aload_n hx hb d_LM_findLeaders_60 rfl (lv_at hl 2 rfl) ?_
                refine lv_iload_n hx hb d_LM_findLeaders_61 rfl (lv_at hl 3 rfl) ?_
                refine lv_aload_n hx hb d_LM_findLeaders_62 rfl (lv_at hl 2 rfl) ?_
                refine xw_getR (C := "AdviceWeaver$Loom") (T := T_LM) hx hb hts hin_LM hown hK hP (by decide) kc_Loom (by decide) rfl 0 (by decide) (hts _ hw_194) (fun _ h9 => h9) rfl d_LM_findLeaders_63 ?_
                refine lv_iload_n hx hb d_LM_findLeaders_66 rfl (lv_at hl 3 rfl) ?_
                obtain ⟨s22, r24, hc23, h⟩ := xw_bn2I h
                refine xw_callVi (C := "AdviceWeaver$Body") (T := T_B) ⟨hx, hb, hml, hown, hts⟩ (c_B_wayAt l D A ad cs Z tt fu s17 s22 12 (by omega) i1_17 r24 hc23) (cwV 1 hts (gd_V hw_199 hw_72 hw_73 hw_25 hw_74) rfl rfl rfl (by decide +kernel) ⟨Nat.le_of_ble_eq_true rfl, Nat.le_of_ble_eq_true rfl⟩) hP hK hD hX hS (by omega) (kc_Body 12 (by omega)) (by decide) rfl rfl hl.1 rfl (Nat.le_of_ble_eq_true rfl) d_LM_findLeaders_67 (fun H locs hP hS => ?_)
                refine xw_iadd hx hb d_LM_findLeaders_70 ?_
                obtain ⟨s25, hc26, h⟩ := xw_bndI h
                refine xw_callVv (C := "AdviceWeaver$Loom") (T := T_LM) ⟨hx, hb, hml, hown, hts⟩ (c_LM_addLeader l D A ad cs Z tt fu s22 s25 (i1_17 + r24) hc26) (cwV 1 hts (gd_V hw_200 hw_201 hw_202 hw_203 hw_204) rfl rfl rfl (by decide +kernel) ⟨Nat.le_of_ble_eq_true rfl, Nat.le_of_ble_eq_true rfl⟩) hP hK hD hX hS (by decide) kc_Loom (by decide) rfl rfl hl.1 rfl (Nat.le_of_ble_eq_true rfl) d_LM_findLeaders_71 (fun H locs hP hS => ?_)
                exact hj74 s25 i1_17 r16 r19 h _ _ _ hP hS (lv_sub hl [2, 3, 1, 0] rfl)
          · replace h := xw_ifT hc13 h
            refine lv_goto (tgt := 95) hx hb d_LM_findLeaders_39 (by decide) ?_
            exact hj95 s9 i1_17 h _ _ _ hP hS (lv_sub hl [0, 1] rfl)
  have hlp103 : ∀ (k133 : xw_S → Option xw_S) (hk133 : ∀ (sq : xw_S), k133 sq = some sZ → ∀ (H : Heap) (locs : List Loc) (ls : Array Slot), va_P D vwCl (xw_ws kdC 100 ad cs Z sq) H → va_S A s.heap H locs → lv_has ls 4 [] → W p l e (headSpec w_LM_findLeaders ({ frames := 2, cells := 0, slots := 0, locals := 43 })).room s m [.ref (ad 10)].toArray below meth c H locs 0 0 (MQ below (va_Qv (fun u => u = sZ) (xw_H D vwCl A kdC 100 ad cs Z tt) A) [.ref (ad 10)].toArray s 0 0 A) (F0 m 133 ls [])) (n : Nat), ∀ (sq : xw_S) (i1_103 : Int), lp_LM_findLeaders_103 fu k133 n sq i1_103 = some sZ → ∀ (H : Heap) (locs : List Loc) (ls : Array Slot), va_P D vwCl (xw_ws kdC 100 ad cs Z sq) H → va_S A s.heap H locs → lv_has ls 4 [(0, .ref (ad 10)), (1, .int (xw_i i1_103))] → W p l e (headSpec w_LM_findLeaders ({ frames := 2, cells := 0, slots := 0, locals := 43 })).room s m [.ref (ad 10)].toArray below meth c H locs 0 0 (MQ below (va_Qv (fun u => u = sZ) (xw_H D vwCl A kdC 100 ad cs Z tt) A) [.ref (ad 10)].toArray s 0 0 A) (F0 m 103 ls []) := by
    intro k133 hk133 n
    induction n with
    | zero =>
      intro sq i1_103 h
      cases (show (none : Option xw_S) = some sZ from h)
    | succ n ih103 =>
      intro s47 i1_103 h H locs ls hP hS hl
      unfold lp_LM_findLeaders_103 at h
      refine lv_iload_n hx hb d_LM_findLeaders_103 rfl (lv_at hl 1 rfl) ?_
      refine lv_aload_n hx hb d_LM_findLeaders_104 rfl (lv_at hl 0 rfl) ?_
      refine xw_getR (C := "AdviceWeaver$Loom") (T := T_LM) hx hb hts hin_LM hown hK hP (by decide) kc_Loom (by decide) rfl 0 (by decide) (hts _ hw_194) (fun _ h9 => h9) rfl d_LM_findLeaders_105 ?_
      refine xw_getI (C := "AdviceWeaver$Body") (T := T_B) hx hb hts hin_B hown hK hP (by omega) (kc_Body 12 (by omega)) (by decide) rfl 9 (by decide) (hts _ hw_207) (fun _ h9 => h9) rfl d_LM_findLeaders_108 ?_
      obtain ⟨hg48, h⟩ := xw_grdI h
      refine xw_icmp_ge (tgt := 133) hx hb hg48.1 hg48.2 d_LM_findLeaders_111 (by decide) (fun hc49 => ?_) (fun hc49 => ?_)
      · replace h := xw_ifT hc49 h
        exact hk133 s47 h _ _ _ hP hS (lv_sub hl [] rfl)
      · replace h := xw_ifF hc49 h
        refine lv_aload_n hx hb d_LM_findLeaders_114 rfl (lv_at hl 0 rfl) ?_
        refine lv_aload_n hx hb d_LM_findLeaders_115 rfl (lv_at hl 0 rfl) ?_
        refine xw_getR (C := "AdviceWeaver$Loom") (T := T_LM) hx hb hts hin_LM hown hK hP (by decide) kc_Loom (by decide) rfl 0 (by decide) (hts _ hw_194) (fun _ h9 => h9) rfl d_LM_findLeaders_116 ?_
        refine lv_iload_n hx hb d_LM_findLeaders_119 rfl (lv_at hl 1 rfl) ?_
        refine lv_iconst (v := xw_i 2) hx hb d_LM_findLeaders_120 rfl ?_
        obtain ⟨s50, r52, hc51, h⟩ := xw_bn2I h
        refine xw_callVi (C := "AdviceWeaver$Body") (T := T_B) ⟨hx, hb, hml, hown, hts⟩ (c_B_part l D A ad cs Z tt fu s47 s50 12 (by omega) i1_103 2 r52 hc51) (cwV 2 hts (gd_V hw_208 hw_91 hw_92 hw_25 hw_93) rfl rfl rfl (by decide +kernel) ⟨Nat.le_of_ble_eq_true rfl, Nat.le_of_ble_eq_true rfl⟩) hP hK hD hX hS (by omega) (kc_Body 12 (by omega)) (by decide) rfl rfl hl.1 rfl (Nat.le_of_ble_eq_true rfl) d_LM_findLeaders_121 (fun H locs hP hS => ?_)
        obtain ⟨s53, hc54, h⟩ := xw_bndI h
        refine xw_callVv (C := "AdviceWeaver$Loom") (T := T_LM) ⟨hx, hb, hml, hown, hts⟩ (c_LM_addLeader l D A ad cs Z tt fu s50 s53 r52 hc54) (cwV 1 hts (gd_V hw_200 hw_201 hw_202 hw_203 hw_204) rfl rfl rfl (by decide +kernel) ⟨Nat.le_of_ble_eq_true rfl, Nat.le_of_ble_eq_true rfl⟩) hP hK hD hX hS (by decide) kc_Loom (by decide) rfl rfl hl.1 rfl (Nat.le_of_ble_eq_true rfl) d_LM_findLeaders_124 (fun H locs hP hS => ?_)
        obtain ⟨v56, e57⟩ : ∃ z, z = i1_103 + 1 := ⟨_, rfl⟩
        replace h := xw_letI e57 h
        refine xw_iinc (lv' := [(1, .int (xw_i v56)), (0, .ref (ad 10))]) hx hb d_LM_findLeaders_127 hl (k := 1) rfl (by decide) (by rw [e57]; rfl) (fun ls hl => ?_)
        refine lv_goto (tgt := 103) hx hb d_LM_findLeaders_130 (by decide) ?_
        exact ih103 s53 v56 h _ _ _ hP hS (lv_sub hl [1, 0] rfl)
  unfold f_LM_findLeaders at h
  refine lv_aload_n hx hb d_LM_findLeaders_0 rfl (lv_at hl 0 rfl) ?_
  refine xw_getR (C := "AdviceWeaver$Loom") (T := T_LM) hx hb hts hin_LM hown hK hP (by decide) kc_Loom (by decide) rfl 6 (by decide) (hts _ hw_189) (fun _ h9 => h9) rfl d_LM_findLeaders_1 ?_
  refine lv_iconst (v := xw_i 0) hx hb d_LM_findLeaders_4 rfl ?_
  obtain ⟨s1, hc2, h⟩ := xw_bndI h
  refine xw_callSv ⟨hx, hb, hml, hown, hts⟩ (c_AR_fill l D A ad cs Z tt fu s0 s1 16 (by decide) 121 ⟨kc_leaders, (by decide)⟩ 0 hc2) (va_cwS 2 hts (gd_S hw_190 hw_191 hw_192 hw_193) rfl rfl rfl (by decide +kernel) ⟨Nat.le_of_ble_eq_true rfl, Nat.le_of_ble_eq_true rfl⟩) hP hK hD hX hS rfl hl.1 rfl (Nat.le_of_ble_eq_true rfl) d_LM_findLeaders_5 (fun H locs hP hS => ?_)
  refine lv_aload_n hx hb d_LM_findLeaders_8 rfl (lv_at hl 0 rfl) ?_
  refine xw_getR (C := "AdviceWeaver$Loom") (T := T_LM) hx hb hts hin_LM hown hK hP (by decide) kc_Loom (by decide) rfl 6 (by decide) (hts _ hw_189) (fun _ h9 => h9) rfl d_LM_findLeaders_9 ?_
  refine lv_iconst (v := xw_i 0) hx hb d_LM_findLeaders_12 rfl ?_
  refine lv_iconst (v := xw_i 1) hx hb d_LM_findLeaders_13 rfl ?_
  refine xw_iast hx hb hK hP hD hS (by decide) kc_leaders (by decide) (by decide) d_LM_findLeaders_14 (fun s4 e5 H locs hP hS => ?_)
  replace h := xw_letI e5 h
  refine lv_iconst (v := xw_i 0) hx hb d_LM_findLeaders_15 rfl ?_
  refine lv_istore_n hx hb d_LM_findLeaders_16 rfl hl (by decide) rfl (fun ls hl => ?_)
  refine xw_jnI (fun j => ∀ (sq : xw_S), j sq = some sZ → ∀ (H : Heap) (locs : List Loc) (ls : Array Slot), va_P D vwCl (xw_ws kdC 100 ad cs Z sq) H → va_S A s.heap H locs → lv_has ls 4 [(0, .ref (ad 10))] → W p l e (headSpec w_LM_findLeaders ({ frames := 2, cells := 0, slots := 0, locals := 43 })).room s m [.ref (ad 10)].toArray below meth c H locs 0 0 (MQ below (va_Qv (fun u => u = sZ) (xw_H D vwCl A kdC 100 ad cs Z tt) A) [.ref (ad 10)].toArray s 0 0 A) (F0 m 101 ls [])) h ?_ ?_
  · intro s46 h H locs ls hP hS hl
    refine lv_iconst (v := xw_i 0) hx hb d_LM_findLeaders_101 rfl ?_
    refine lv_istore_n hx hb d_LM_findLeaders_102 rfl hl (by decide) rfl (fun ls hl => ?_)
    refine xw_jnI (fun j => ∀ (sq : xw_S), j sq = some sZ → ∀ (H : Heap) (locs : List Loc) (ls : Array Slot), va_P D vwCl (xw_ws kdC 100 ad cs Z sq) H → va_S A s.heap H locs → lv_has ls 4 [] → W p l e (headSpec w_LM_findLeaders ({ frames := 2, cells := 0, slots := 0, locals := 43 })).room s m [.ref (ad 10)].toArray below meth c H locs 0 0 (MQ below (va_Qv (fun u => u = sZ) (xw_H D vwCl A kdC 100 ad cs Z tt) A) [.ref (ad 10)].toArray s 0 0 A) (F0 m 133 ls [])) h ?_ ?_
    · intro s58 h H locs ls hP hS hl
      exact xw_vretE hx hb hr hlk hP hK hD hX hS h d_LM_findLeaders_133
    · intro k133 hk133 h
      exact hlp103 k133 hk133 fu s46 0 h _ _ _ hP hS (lv_sub hl [1, 0] rfl)
  · intro k101 hk101 h
    exact hlp17 k101 hk101 fu s4 0 h _ _ _ hP hS (lv_sub hl [1, 0] rfl)
def f_LM_addItem (fu : Nat) (s0 : xw_S) (p1 : Int) (p2 : Int) (p3 : Int) : Option xw_S :=
 xw_grd (xw_r (s0.1 10 7)) (xw_if (s0.1 10 7 < 243) (xw_grd ((0 ≤ s0.1 10 7 ∧ s0.1 10 7 < ((243 : Nat) : Int))) (xw_let (xw_st s0 11 (s0.1 10 7).toNat p1) (fun s4 => xw_grd ((0 ≤ s4.1 10 7 ∧ s4.1 10 7 < ((243 : Nat) : Int))) (xw_let (xw_st s4 12 (s4.1 10 7).toNat p2) (fun s7 => xw_grd ((0 ≤ s7.1 10 7 ∧ s7.1 10 7 < ((243 : Nat) : Int))) (xw_let (xw_st s7 13 (s7.1 10 7).toNat p3) (fun s10 => xw_let (xw_st s10 10 7 ((s10.1 10 7) + 1)) (fun s12 => some s12))))))))
 (some s0))
set_option maxRecDepth 100000 in
set_option maxHeartbeats 4000000 in
theorem c_LM_addItem (l : Launch) (D : va_G) (A : Nat → Prop) (ad : Nat → Nat) (cs : Nat → ClassId) (Z : va_W) (tt : Nat → Nat) (fu : Nat) (s0 sZ : xw_S) (p1 : Int) (p2 : Int) (p3 : Int) (h : f_LM_addItem fu s0 p1 p2 p3 = some sZ) : Met l y_LM_addItem w_LM_addItem ({ frames := 0, cells := 0, slots := 0, locals := 0 }) (va_Pc [.ref (ad 10), .int (xw_i p1), .int (xw_i p2), .int (xw_i p3)] (xw_H D vwCl A kdC 100 ad cs Z tt s0)) (va_Qv (fun u => u = sZ) (xw_H D vwCl A kdC 100 ad cs Z tt) A) 0 0 A := by
  refine Met.ofW (cc := b_LM_addItem) (maxL := 4) (ret := none) (by decide) rfl ?_
  intro p e s m args below meth c s₁ B hml hv
  obtain ⟨rfl, hP, hK, hD, hX⟩ := hv
  have hx := B.exec
  have hb := B.bytes
  have hr := B.returns
  have hts0 := atoms_spec (ws := w_LM_addItem) B.pre
  have hts := fun w (hw : w ∈ wAll) => hts0 w (List.mem_cons_of_mem _ hw)
  have hown : s.vm.findClass "AdviceWeaver$Loom" = some m.cls := findClass_of_methodNamed B.named
  have hlk := B.notSynchronized
  clear hts0 B
  have hS : va_S A s.heap s.heap [] := va_S.rf
  have hl := lv_entry [.ref (ad 10), .int (xw_i p1), .int (xw_i p2), .int (xw_i p3)] (n := 4) (Nat.le_of_ble_eq_true rfl)
  rw [lg_entry_eq]
  generalize (lg_sl [.ref (ad 10), .int (xw_i p1), .int (xw_i p2), .int (xw_i p3)] ++ List.replicate (4 - (lg_sl [.ref (ad 10), .int (xw_i p1), .int (xw_i p2), .int (xw_i p3)]).length) Slot.unset).toArray = ls at hl ⊢
  have hl : lv_has ls 4 [(0, .ref (ad 10)), (1, .int (xw_i p1)), (2, .int (xw_i p2)), (3, .int (xw_i p3))] := hl
  unfold f_LM_addItem at h
  refine lv_aload_n hx hb d_LM_addItem_0 rfl (lv_at hl 0 rfl) ?_
  refine xw_getI (C := "AdviceWeaver$Loom") (T := T_LM) hx hb hts hin_LM hown hK hP (by decide) kc_Loom (by decide) rfl 7 (by decide) (hts _ hw_209) (fun _ h9 => h9) rfl d_LM_addItem_1 ?_
  refine lv_sipush (v := xw_i 243) hx hb d_LM_addItem_4 (by decide) ?_
  obtain ⟨hg1, h⟩ := xw_grdI h
  refine xw_icmp_lt (tgt := 11) hx hb hg1 (by decide) d_LM_addItem_7 (by decide) (fun hc2 => ?_) (fun hc2 => ?_)
  · replace h := xw_ifT hc2 h
    refine lv_aload_n hx hb d_LM_addItem_11 rfl (lv_at hl 0 rfl) ?_
    refine xw_getR (C := "AdviceWeaver$Loom") (T := T_LM) hx hb hts hin_LM hown hK hP (by decide) kc_Loom (by decide) rfl 1 (by decide) (hts _ hw_210) (fun _ h9 => h9) rfl d_LM_addItem_12 ?_
    refine lv_aload_n hx hb d_LM_addItem_15 rfl (lv_at hl 0 rfl) ?_
    refine xw_getI (C := "AdviceWeaver$Loom") (T := T_LM) hx hb hts hin_LM hown hK hP (by decide) kc_Loom (by decide) rfl 7 (by decide) (hts _ hw_209) (fun _ h9 => h9) rfl d_LM_addItem_16 ?_
    refine lv_iload_n hx hb d_LM_addItem_19 rfl (lv_at hl 1 rfl) ?_
    obtain ⟨hg3, h⟩ := xw_grdI h
    refine xw_iast hx hb hK hP hD hS (by decide) kc_ops (by decide) hg3 d_LM_addItem_20 (fun s4 e5 H locs hP hS => ?_)
    replace h := xw_letI e5 h
    refine lv_aload_n hx hb d_LM_addItem_21 rfl (lv_at hl 0 rfl) ?_
    refine xw_getR (C := "AdviceWeaver$Loom") (T := T_LM) hx hb hts hin_LM hown hK hP (by decide) kc_Loom (by decide) rfl 2 (by decide) (hts _ hw_211) (fun _ h9 => h9) rfl d_LM_addItem_22 ?_
    refine lv_aload_n hx hb d_LM_addItem_25 rfl (lv_at hl 0 rfl) ?_
    refine xw_getI (C := "AdviceWeaver$Loom") (T := T_LM) hx hb hts hin_LM hown hK hP (by decide) kc_Loom (by decide) rfl 7 (by decide) (hts _ hw_209) (fun _ h9 => h9) rfl d_LM_addItem_26 ?_
    refine lv_iload_n hx hb d_LM_addItem_29 rfl (lv_at hl 2 rfl) ?_
    obtain ⟨hg6, h⟩ := xw_grdI h
    refine xw_iast hx hb hK hP hD hS (by decide) kc_numbers (by decide) hg6 d_LM_addItem_30 (fun s7 e8 H locs hP hS => ?_)
    replace h := xw_letI e8 h
    refine lv_aload_n hx hb d_LM_addItem_31 rfl (lv_at hl 0 rfl) ?_
    refine xw_getR (C := "AdviceWeaver$Loom") (T := T_LM) hx hb hts hin_LM hown hK hP (by decide) kc_Loom (by decide) rfl 3 (by decide) (hts _ hw_212) (fun _ h9 => h9) rfl d_LM_addItem_32 ?_
    refine lv_aload_n hx hb d_LM_addItem_35 rfl (lv_at hl 0 rfl) ?_
    refine xw_getI (C := "AdviceWeaver$Loom") (T := T_LM) hx hb hts hin_LM hown hK hP (by decide) kc_Loom (by decide) rfl 7 (by decide) (hts _ hw_209) (fun _ h9 => h9) rfl d_LM_addItem_36 ?_
    refine lv_iload_n hx hb d_LM_addItem_39 rfl (lv_at hl 3 rfl) ?_
    obtain ⟨hg9, h⟩ := xw_grdI h
    refine xw_iast hx hb hK hP hD hS (by decide) kc_sources (by decide) hg9 d_LM_addItem_40 (fun s10 e11 H locs hP hS => ?_)
    replace h := xw_letI e11 h
    refine lv_aload_n hx hb d_LM_addItem_41 rfl (lv_at hl 0 rfl) ?_
    refine lv_dup hx hb d_LM_addItem_42 rfl ?_
    refine xw_getI (C := "AdviceWeaver$Loom") (T := T_LM) hx hb hts hin_LM hown hK hP (by decide) kc_Loom (by decide) rfl 7 (by decide) (hts _ hw_209) (fun _ h9 => h9) rfl d_LM_addItem_43 ?_
    refine lv_iconst (v := xw_i 1) hx hb d_LM_addItem_46 rfl ?_
    refine xw_iadd hx hb d_LM_addItem_47 ?_
    refine xw_putI (C := "AdviceWeaver$Loom") (T := T_LM) hx hb hts hin_LM ty_LM ty_LM_ok nm_LM hown hK hP hD hS (by decide) kc_Loom (by decide) rfl 7 (by decide) (hts _ hw_209) (fun _ h9 => h9) rfl (by decide +kernel) rfl d_LM_addItem_48 (fun s12 e13 H locs hP hS => ?_)
    replace h := xw_letI e13 h
    exact xw_vretE hx hb hr hlk hP hK hD hX hS h d_LM_addItem_51
  · replace h := xw_ifF hc2 h
    exact xw_vretE hx hb hr hlk hP hK hD hX hS h d_LM_addItem_10
def f_LM_addOldItem (fu : Nat) (s0 : xw_S) (p1 : Int) : Option xw_S :=
 xw_bn2 (f_B_byteAt fu s0 12 p1) (fun s1 r3 => xw_bn2 (f_OP_isBranch fu s1 r3) (fun s4 r6 => xw_jn (fun (s12 : xw_S) (t0_32 : Int) (t1_32 : Int) => xw_bnd (f_LM_addItem fu s12 t1_32 t0_32 p1) (fun s13 => some s13))
 (fun (j32 : xw_S → Int → Int → Option xw_S) => xw_grd (xw_r r6) (xw_if (r6 = 0) (j32 s4 0 r3)
 (xw_bn2 (f_B_wayAt fu s4 12 p1) (fun s9 r11 => j32 s9 (p1 + r11) r3))))))
set_option maxRecDepth 100000 in
set_option maxHeartbeats 4000000 in
theorem c_LM_addOldItem (l : Launch) (D : va_G) (A : Nat → Prop) (ad : Nat → Nat) (cs : Nat → ClassId) (Z : va_W) (tt : Nat → Nat) (fu : Nat) (s0 sZ : xw_S) (p1 : Int) (h : f_LM_addOldItem fu s0 p1 = some sZ) : Met l y_LM_addOldItem w_LM_addOldItem ({ frames := 2, cells := 0, slots := 0, locals := 43 }) (va_Pc [.ref (ad 10), .int (xw_i p1)] (xw_H D vwCl A kdC 100 ad cs Z tt s0)) (va_Qv (fun u => u = sZ) (xw_H D vwCl A kdC 100 ad cs Z tt) A) 0 0 A := by
  refine Met.ofW (cc := b_LM_addOldItem) (maxL := 3) (ret := none) (by decide) rfl ?_
  intro p e s m args below meth c s₁ B hml hv
  obtain ⟨rfl, hP, hK, hD, hX⟩ := hv
  have hx := B.exec
  have hb := B.bytes
  have hr := B.returns
  have hts0 := atoms_spec (ws := w_LM_addOldItem) B.pre
  have hts := fun w (hw : w ∈ wAll) => hts0 w (List.mem_cons_of_mem _ hw)
  have hown : s.vm.findClass "AdviceWeaver$Loom" = some m.cls := findClass_of_methodNamed B.named
  have hlk := B.notSynchronized
  clear hts0 B
  have hS : va_S A s.heap s.heap [] := va_S.rf
  have hl := lv_entry [.ref (ad 10), .int (xw_i p1)] (n := 3) (Nat.le_of_ble_eq_true rfl)
  rw [lg_entry_eq]
  generalize (lg_sl [.ref (ad 10), .int (xw_i p1)] ++ List.replicate (3 - (lg_sl [.ref (ad 10), .int (xw_i p1)]).length) Slot.unset).toArray = ls at hl ⊢
  have hl : lv_has ls 3 [(0, .ref (ad 10)), (1, .int (xw_i p1))] := hl
  unfold f_LM_addOldItem at h
  refine lv_aload_n hx hb d_LM_addOldItem_0 rfl (lv_at hl 0 rfl) ?_
  refine xw_getR (C := "AdviceWeaver$Loom") (T := T_LM) hx hb hts hin_LM hown hK hP (by decide) kc_Loom (by decide) rfl 0 (by decide) (hts _ hw_194) (fun _ h9 => h9) rfl d_LM_addOldItem_1 ?_
  refine lv_iload_n hx hb d_LM_addOldItem_4 rfl (lv_at hl 1 rfl) ?_
  obtain ⟨s1, r3, hc2, h⟩ := xw_bn2I h
  refine xw_callVi (C := "AdviceWeaver$Body") (T := T_B) ⟨hx, hb, hml, hown, hts⟩ (c_B_byteAt l D A ad cs Z tt fu s0 s1 12 (by omega) p1 r3 hc2) (cwV 1 hts (gd_V hw_197 hw_57 hw_58 hw_25 hw_59) rfl rfl rfl (by decide +kernel) ⟨Nat.le_of_ble_eq_true rfl, Nat.le_of_ble_eq_true rfl⟩) hP hK hD hX hS (by omega) (kc_Body 12 (by omega)) (by decide) rfl rfl hl.1 rfl (Nat.le_of_ble_eq_true rfl) d_LM_addOldItem_5 (fun H locs hP hS => ?_)
  refine lv_istore_n hx hb d_LM_addOldItem_8 rfl hl (by decide) rfl (fun ls hl => ?_)
  refine lv_aload_n hx hb d_LM_addOldItem_9 rfl (lv_at hl 1 rfl) ?_
  refine lv_iload_n hx hb d_LM_addOldItem_10 rfl (lv_at hl 0 rfl) ?_
  refine lv_iload_n hx hb d_LM_addOldItem_11 rfl (lv_at hl 0 rfl) ?_
  obtain ⟨s4, r6, hc5, h⟩ := xw_bn2I h
  refine xw_callSi ⟨hx, hb, hml, hown, hts⟩ (c_OP_isBranch l D A ad cs Z tt fu s1 s4 r3 r6 hc5) (va_cwS 1 hts (gd_S hw_198 hw_65 hw_48 hw_66) rfl rfl rfl (by decide +kernel) ⟨Nat.le_of_ble_eq_true rfl, Nat.le_of_ble_eq_true rfl⟩) hP hK hD hX hS rfl hl.1 rfl (Nat.le_of_ble_eq_true rfl) d_LM_addOldItem_12 (fun H locs hP hS => ?_)
  refine xw_jnI (fun j => ∀ (sq : xw_S) (t0_32 : Int) (t1_32 : Int), j sq t0_32 t1_32 = some sZ → ∀ (H : Heap) (locs : List Loc) (ls : Array Slot), va_P D vwCl (xw_ws kdC 100 ad cs Z sq) H → va_S A s.heap H locs → lv_has ls 3 [(1, .int (xw_i p1))] → W p l e (headSpec w_LM_addOldItem ({ frames := 2, cells := 0, slots := 0, locals := 43 })).room s m [.ref (ad 10), .int (xw_i p1)].toArray below meth c H locs 0 0 (MQ below (va_Qv (fun u => u = sZ) (xw_H D vwCl A kdC 100 ad cs Z tt) A) [.ref (ad 10), .int (xw_i p1)].toArray s 0 0 A) (F0 m 32 ls [.int (xw_i t0_32), .int (xw_i t1_32), .ref (ad 10)])) h ?_ ?_
  · intro s12 t0_32 t1_32 h H locs ls hP hS hl
    refine lv_iload_n hx hb d_LM_addOldItem_32 rfl (lv_at hl 0 rfl) ?_
    obtain ⟨s13, hc14, h⟩ := xw_bndI h
    refine xw_callVv (C := "AdviceWeaver$Loom") (T := T_LM) ⟨hx, hb, hml, hown, hts⟩ (c_LM_addItem l D A ad cs Z tt fu s12 s13 t1_32 t0_32 p1 hc14) (cwV 3 hts (gd_V hw_213 hw_214 hw_215 hw_203 hw_216) rfl rfl rfl (by decide +kernel) ⟨Nat.le_of_ble_eq_true rfl, Nat.le_of_ble_eq_true rfl⟩) hP hK hD hX hS (by decide) kc_Loom (by decide) rfl rfl hl.1 rfl (Nat.le_of_ble_eq_true rfl) d_LM_addOldItem_33 (fun H locs hP hS => ?_)
    exact xw_vretE hx hb hr hlk hP hK hD hX hS h d_LM_addOldItem_36
  · intro j32 hj32 h
    obtain ⟨hg7, h⟩ := xw_grdI h
    refine xw_if_eq (tgt := 31) hx hb hg7 d_LM_addOldItem_15 (by decide) (fun hc8 => ?_) (fun hc8 => ?_)
    · replace h := xw_ifT hc8 h
      refine lv_iconst (v := xw_i 0) hx hb d_LM_addOldItem_31 rfl ?_
      exact hj32 s4 0 r3 h _ _ _ hP hS (lv_sub hl [2] rfl)
    · replace h := xw_ifF hc8 h
      refine lv_iload_n hx hb d_LM_addOldItem_18 rfl (lv_at hl 2 rfl) ?_
      refine lv_aload_n hx hb d_LM_addOldItem_19 rfl (lv_at hl 1 rfl) ?_
      refine xw_getR (C := "AdviceWeaver$Loom") (T := T_LM) hx hb hts hin_LM hown hK hP (by decide) kc_Loom (by decide) rfl 0 (by decide) (hts _ hw_194) (fun _ h9 => h9) rfl d_LM_addOldItem_20 ?_
      refine lv_iload_n hx hb d_LM_addOldItem_23 rfl (lv_at hl 2 rfl) ?_
      obtain ⟨s9, r11, hc10, h⟩ := xw_bn2I h
      refine xw_callVi (C := "AdviceWeaver$Body") (T := T_B) ⟨hx, hb, hml, hown, hts⟩ (c_B_wayAt l D A ad cs Z tt fu s4 s9 12 (by omega) p1 r11 hc10) (cwV 1 hts (gd_V hw_199 hw_72 hw_73 hw_25 hw_74) rfl rfl rfl (by decide +kernel) ⟨Nat.le_of_ble_eq_true rfl, Nat.le_of_ble_eq_true rfl⟩) hP hK hD hX hS (by omega) (kc_Body 12 (by omega)) (by decide) rfl rfl hl.1 rfl (Nat.le_of_ble_eq_true rfl) d_LM_addOldItem_24 (fun H locs hP hS => ?_)
      refine xw_iadd hx hb d_LM_addOldItem_27 ?_
      refine lv_goto (tgt := 32) hx hb d_LM_addOldItem_28 (by decide) ?_
      exact hj32 s9 (p1 + r11) r3 h _ _ _ hP hS (lv_sub hl [2] rfl)
def lp_LM_planCover_8 (fu : Nat) (k74 : xw_S → Option xw_S) : Nat → xw_S → Int → Int → Option xw_S
  | 0, _, _, _ => none
  | n + 1, s4, i1_8, i2_8 =>
    xw_grd (xw_r i2_8 ∧ xw_r (s4.1 (48 + 4 * 12) 8)) (xw_if (s4.1 (48 + 4 * 12) 8 ≤ i2_8) (k74 s4)
     (xw_bn2 (f_B_begins fu s4 12 i2_8) (fun s7 r9 => xw_jn (fun (s26 : xw_S) (i1_68 : Int) (i2_68 : Int) => xw_let (i2_68 + 1) (fun v27 => lp_LM_planCover_8 fu k74 n s26 i1_68 v27))
     (fun (j68 : xw_S → Int → Int → Option xw_S) => xw_grd (xw_r r9) (xw_if (r9 = 0) (j68 s7 i1_8 i2_8)
     (xw_grd ((0 ≤ i2_8 ∧ i2_8 < ((121 : Nat) : Int))) (xw_let (xw_st s7 15 (i2_8).toNat (s7.1 10 7)) (fun s13 => xw_jn (fun (s22 : xw_S) (i1_63 : Int) (i2_63 : Int) => xw_bnd (f_LM_addOldItem fu s22 i2_63) (fun s23 => j68 s23 i1_63 i2_63))
     (fun (j63 : xw_S → Int → Int → Option xw_S) => xw_grd (xw_r (s13.1 16 (i2_8).toNat)) (xw_if (s13.1 16 (i2_8).toNat = 0) (j63 s13 i1_8 i2_8)
     (xw_bnd (f_LM_addItem fu s13 31 i1_8 (-1)) (fun s17 => xw_let (i1_8 + 1) (fun v20 => j63 s17 v20 i2_8)))))))))))))
def f_LM_planCover (fu : Nat) (s0 : xw_S) : Option xw_S :=
 xw_bnd (f_LM_findLeaders fu s0) (fun s1 => xw_jn (fun (s29 : xw_S) => xw_grd ((0 ≤ s29.1 (48 + 4 * 12) 8 ∧ s29.1 (48 + 4 * 12) 8 < ((121 : Nat) : Int))) (xw_let (xw_st s29 15 (s29.1 (48 + 4 * 12) 8).toNat (s29.1 10 7)) (fun s31 => some s31)))
 (fun (k74 : xw_S → Option xw_S) => lp_LM_planCover_8 fu k74 fu s1 0 0))
set_option maxRecDepth 100000 in
set_option maxHeartbeats 4000000 in
theorem c_LM_planCover (l : Launch) (D : va_G) (A : Nat → Prop) (ad : Nat → Nat) (cs : Nat → ClassId) (Z : va_W) (tt : Nat → Nat) (fu : Nat) (s0 sZ : xw_S) (h : f_LM_planCover fu s0 = some sZ) : Met l y_LM_planCover w_LM_planCover ({ frames := 3, cells := 0, slots := 0, locals := 66 }) (va_Pc [.ref (ad 10)] (xw_H D vwCl A kdC 100 ad cs Z tt s0)) (va_Qv (fun u => u = sZ) (xw_H D vwCl A kdC 100 ad cs Z tt) A) 0 0 A := by
  refine Met.ofW (cc := b_LM_planCover) (maxL := 3) (ret := none) (by decide) rfl ?_
  intro p e s m args below meth c s₁ B hml hv
  obtain ⟨rfl, hP, hK, hD, hX⟩ := hv
  have hx := B.exec
  have hb := B.bytes
  have hr := B.returns
  have hts0 := atoms_spec (ws := w_LM_planCover) B.pre
  have hts := fun w (hw : w ∈ wAll) => hts0 w (List.mem_cons_of_mem _ hw)
  have hown : s.vm.findClass "AdviceWeaver$Loom" = some m.cls := findClass_of_methodNamed B.named
  have hlk := B.notSynchronized
  clear hts0 B
  have hS : va_S A s.heap s.heap [] := va_S.rf
  have hl := lv_entry [.ref (ad 10)] (n := 3) (Nat.le_of_ble_eq_true rfl)
  rw [lg_entry_eq]
  generalize (lg_sl [.ref (ad 10)] ++ List.replicate (3 - (lg_sl [.ref (ad 10)]).length) Slot.unset).toArray = ls at hl ⊢
  have hl : lv_has ls 3 [(0, .ref (ad 10))] := hl
  have hlp8 : ∀ (k74 : xw_S → Option xw_S) (hk74 : ∀ (sq : xw_S), k74 sq = some sZ → ∀ (H : Heap) (locs : List Loc) (ls : Array Slot), va_P D vwCl (xw_ws kdC 100 ad cs Z sq) H → va_S A s.heap H locs → lv_has ls 3 [(0, .ref (ad 10))] → W p l e (headSpec w_LM_planCover ({ frames := 3, cells := 0, slots := 0, locals := 66 })).room s m [.ref (ad 10)].toArray below meth c H locs 0 0 (MQ below (va_Qv (fun u => u = sZ) (xw_H D vwCl A kdC 100 ad cs Z tt) A) [.ref (ad 10)].toArray s 0 0 A) (F0 m 74 ls [])) (n : Nat), ∀ (sq : xw_S) (i1_8 : Int) (i2_8 : Int), lp_LM_planCover_8 fu k74 n sq i1_8 i2_8 = some sZ → ∀ (H : Heap) (locs : List Loc) (ls : Array Slot), va_P D vwCl (xw_ws kdC 100 ad cs Z sq) H → va_S A s.heap H locs → lv_has ls 3 [(0, .ref (ad 10)), (1, .int (xw_i i1_8)), (2, .int (xw_i i2_8))] → W p l e (headSpec w_LM_planCover ({ frames := 3, cells := 0, slots := 0, locals := 66 })).room s m [.ref (ad 10)].toArray below meth c H locs 0 0 (MQ below (va_Qv (fun u => u = sZ) (xw_H D vwCl A kdC 100 ad cs Z tt) A) [.ref (ad 10)].toArray s 0 0 A) (F0 m 8 ls []) := by
    intro k74 hk74 n
    induction n with
    | zero =>
      intro sq i1_8 i2_8 h
      cases (show (none : Option xw_S) = some sZ from h)
    | succ n ih8 =>
      intro s4 i1_8 i2_8 h H locs ls hP hS hl
      unfold lp_LM_planCover_8 at h
      refine lv_iload_n hx hb d_LM_planCover_8 rfl (lv_at hl 2 rfl) ?_
      refine lv_aload_n hx hb d_LM_planCover_9 rfl (lv_at hl 0 rfl) ?_
      refine xw_getR (C := "AdviceWeaver$Loom") (T := T_LM) hx hb hts hin_LM hown hK hP (by decide) kc_Loom (by decide) rfl 0 (by decide) (hts _ hw_194) (fun _ h9 => h9) rfl d_LM_planCover_10 ?_
      refine xw_getI (C := "AdviceWeaver$Body") (T := T_B) hx hb hts hin_B hown hK hP (by omega) (kc_Body 12 (by omega)) (by decide) rfl 8 (by decide) (hts _ hw_195) (fun _ h9 => h9) rfl d_LM_planCover_13 ?_
      obtain ⟨hg5, h⟩ := xw_grdI h
      refine xw_icmp_ge (tgt := 74) hx hb hg5.1 hg5.2 d_LM_planCover_16 (by decide) (fun hc6 => ?_) (fun hc6 => ?_)
      · replace h := xw_ifT hc6 h
        exact hk74 s4 h _ _ _ hP hS (lv_sub hl [0] rfl)
      · replace h := xw_ifF hc6 h
        refine lv_aload_n hx hb d_LM_planCover_19 rfl (lv_at hl 0 rfl) ?_
        refine xw_getR (C := "AdviceWeaver$Loom") (T := T_LM) hx hb hts hin_LM hown hK hP (by decide) kc_Loom (by decide) rfl 0 (by decide) (hts _ hw_194) (fun _ h9 => h9) rfl d_LM_planCover_20 ?_
        refine lv_iload_n hx hb d_LM_planCover_23 rfl (lv_at hl 2 rfl) ?_
        obtain ⟨s7, r9, hc8, h⟩ := xw_bn2I h
        refine xw_callVi (C := "AdviceWeaver$Body") (T := T_B) ⟨hx, hb, hml, hown, hts⟩ (c_B_begins l D A ad cs Z tt fu s4 s7 12 (by omega) i2_8 r9 hc8) (cwV 1 hts (gd_V hw_196 hw_76 hw_77 hw_25 hw_78) rfl rfl rfl (by decide +kernel) ⟨Nat.le_of_ble_eq_true rfl, Nat.le_of_ble_eq_true rfl⟩) hP hK hD hX hS (by omega) (kc_Body 12 (by omega)) (by decide) rfl rfl hl.1 rfl (Nat.le_of_ble_eq_true rfl) d_LM_planCover_24 (fun H locs hP hS => ?_)
        refine xw_jnI (fun j => ∀ (sq : xw_S) (i1_68 : Int) (i2_68 : Int), j sq i1_68 i2_68 = some sZ → ∀ (H : Heap) (locs : List Loc) (ls : Array Slot), va_P D vwCl (xw_ws kdC 100 ad cs Z sq) H → va_S A s.heap H locs → lv_has ls 3 [(0, .ref (ad 10)), (1, .int (xw_i i1_68)), (2, .int (xw_i i2_68))] → W p l e (headSpec w_LM_planCover ({ frames := 3, cells := 0, slots := 0, locals := 66 })).room s m [.ref (ad 10)].toArray below meth c H locs 0 0 (MQ below (va_Qv (fun u => u = sZ) (xw_H D vwCl A kdC 100 ad cs Z tt) A) [.ref (ad 10)].toArray s 0 0 A) (F0 m 68 ls [])) h ?_ ?_
        · intro s26 i1_68 i2_68 h H locs ls hP hS hl
          obtain ⟨v27, e28⟩ : ∃ z, z = i2_68 + 1 := ⟨_, rfl⟩
          replace h := xw_letI e28 h
          refine xw_iinc (lv' := [(2, .int (xw_i v27)), (0, .ref (ad 10)), (1, .int (xw_i i1_68))]) hx hb d_LM_planCover_68 hl (k := 2) rfl (by decide) (by rw [e28]; rfl) (fun ls hl => ?_)
          refine lv_goto (tgt := 8) hx hb d_LM_planCover_71 (by decide) ?_
          exact ih8 s26 i1_68 v27 h _ _ _ hP hS (lv_sub hl [1, 2, 0] rfl)
        · intro j68 hj68 h
          obtain ⟨hg10, h⟩ := xw_grdI h
          refine xw_if_ne (tgt := 33) hx hb hg10 d_LM_planCover_27 (by decide) (fun hc11 => ?_) (fun hc11 => ?_)
          · replace h := xw_ifF hc11 h
            refine lv_aload_n hx hb d_LM_planCover_33 rfl (lv_at hl 0 rfl) ?_
            refine xw_getR (C := "AdviceWeaver$Loom") (T := T_LM) hx hb hts hin_LM hown hK hP (by decide) kc_Loom (by decide) rfl 5 (by decide) (hts _ hw_221) (fun _ h9 => h9) rfl d_LM_planCover_34 ?_
            refine lv_iload_n hx hb d_LM_planCover_37 rfl (lv_at hl 2 rfl) ?_
            refine lv_aload_n hx hb d_LM_planCover_38 rfl (lv_at hl 0 rfl) ?_
            refine xw_getI (C := "AdviceWeaver$Loom") (T := T_LM) hx hb hts hin_LM hown hK hP (by decide) kc_Loom (by decide) rfl 7 (by decide) (hts _ hw_209) (fun _ h9 => h9) rfl d_LM_planCover_39 ?_
            obtain ⟨hg12, h⟩ := xw_grdI h
            refine xw_iast hx hb hK hP hD hS (by decide) kc_leads (by decide) hg12 d_LM_planCover_42 (fun s13 e14 H locs hP hS => ?_)
            replace h := xw_letI e14 h
            refine lv_aload_n hx hb d_LM_planCover_43 rfl (lv_at hl 0 rfl) ?_
            refine xw_getR (C := "AdviceWeaver$Loom") (T := T_LM) hx hb hts hin_LM hown hK hP (by decide) kc_Loom (by decide) rfl 6 (by decide) (hts _ hw_189) (fun _ h9 => h9) rfl d_LM_planCover_44 ?_
            refine lv_iload_n hx hb d_LM_planCover_47 rfl (lv_at hl 2 rfl) ?_
            refine xw_iald hx hb hK hP (by decide) kc_leaders (by decide) hg12 d_LM_planCover_48 ?_
            refine xw_jnI (fun j => ∀ (sq : xw_S) (i1_63 : Int) (i2_63 : Int), j sq i1_63 i2_63 = some sZ → ∀ (H : Heap) (locs : List Loc) (ls : Array Slot), va_P D vwCl (xw_ws kdC 100 ad cs Z sq) H → va_S A s.heap H locs → lv_has ls 3 [(0, .ref (ad 10)), (1, .int (xw_i i1_63)), (2, .int (xw_i i2_63))] → W p l e (headSpec w_LM_planCover ({ frames := 3, cells := 0, slots := 0, locals := 66 })).room s m [.ref (ad 10)].toArray below meth c H locs 0 0 (MQ below (va_Qv (fun u => u = sZ) (xw_H D vwCl A kdC 100 ad cs Z tt) A) [.ref (ad 10)].toArray s 0 0 A) (F0 m 63 ls [])) h ?_ ?_
            · intro s22 i1_63 i2_63 h H locs ls hP hS hl
              refine lv_aload_n hx hb d_LM_planCover_63 rfl (lv_at hl 0 rfl) ?_
              refine lv_iload_n hx hb d_LM_planCover_64 rfl (lv_at hl 2 rfl) ?_
              obtain ⟨s23, hc24, h⟩ := xw_bndI h
              refine xw_callVv (C := "AdviceWeaver$Loom") (T := T_LM) ⟨hx, hb, hml, hown, hts⟩ (c_LM_addOldItem l D A ad cs Z tt fu s22 s23 i2_63 hc24) (cwV 1 hts (gd_V hw_222 hw_223 hw_224 hw_203 hw_225) rfl rfl rfl (by decide +kernel) ⟨Nat.le_of_ble_eq_true rfl, Nat.le_of_ble_eq_true rfl⟩) hP hK hD hX hS (by decide) kc_Loom (by decide) rfl rfl hl.1 rfl (Nat.le_of_ble_eq_true rfl) d_LM_planCover_65 (fun H locs hP hS => ?_)
              exact hj68 s23 i1_63 i2_63 h _ _ _ hP hS (lv_sub hl [0, 1, 2] rfl)
            · intro j63 hj63 h
              obtain ⟨hg15, h⟩ := xw_grdI h
              refine xw_if_eq (tgt := 63) hx hb hg15 d_LM_planCover_49 (by decide) (fun hc16 => ?_) (fun hc16 => ?_)
              · replace h := xw_ifT hc16 h
                exact hj63 s13 i1_8 i2_8 h _ _ _ hP hS (lv_sub hl [0, 1, 2] rfl)
              · replace h := xw_ifF hc16 h
                refine lv_aload_n hx hb d_LM_planCover_52 rfl (lv_at hl 0 rfl) ?_
                refine lv_bipush (v := xw_i 31) hx hb d_LM_planCover_53 (by decide) ?_
                refine lv_iload_n hx hb d_LM_planCover_55 rfl (lv_at hl 1 rfl) ?_
                refine lv_iconst (v := xw_i (-1)) hx hb d_LM_planCover_56 rfl ?_
                obtain ⟨s17, hc18, h⟩ := xw_bndI h
                refine xw_callVv (C := "AdviceWeaver$Loom") (T := T_LM) ⟨hx, hb, hml, hown, hts⟩ (c_LM_addItem l D A ad cs Z tt fu s13 s17 31 i1_8 (-1) hc18) (cwV 3 hts (gd_V hw_213 hw_214 hw_215 hw_203 hw_216) rfl rfl rfl (by decide +kernel) ⟨Nat.le_of_ble_eq_true rfl, Nat.le_of_ble_eq_true rfl⟩) hP hK hD hX hS (by decide) kc_Loom (by decide) rfl rfl hl.1 rfl (Nat.le_of_ble_eq_true rfl) d_LM_planCover_57 (fun H locs hP hS => ?_)
                obtain ⟨v20, e21⟩ : ∃ z, z = i1_8 + 1 := ⟨_, rfl⟩
                replace h := xw_letI e21 h
                refine xw_iinc (lv' := [(1, .int (xw_i v20)), (0, .ref (ad 10)), (2, .int (xw_i i2_8))]) hx hb d_LM_planCover_60 hl (k := 1) rfl (by decide) (by rw [e21]; rfl) (fun ls hl => ?_)
                exact hj63 s17 v20 i2_8 h _ _ _ hP hS (lv_sub hl [1, 0, 2] rfl)
          · replace h := xw_ifT hc11 h
            refine lv_goto (tgt := 68) hx hb d_LM_planCover_30 (by decide) ?_
            exact hj68 s7 i1_8 i2_8 h _ _ _ hP hS (lv_sub hl [0, 1, 2] rfl)
  unfold f_LM_planCover at h
  refine lv_aload_n hx hb d_LM_planCover_0 rfl (lv_at hl 0 rfl) ?_
  obtain ⟨s1, hc2, h⟩ := xw_bndI h
  refine xw_callVv (C := "AdviceWeaver$Loom") (T := T_LM) ⟨hx, hb, hml, hown, hts⟩ (c_LM_findLeaders l D A ad cs Z tt fu s0 s1 hc2) (cwV 0 hts (gd_V hw_217 hw_218 hw_219 hw_203 hw_220) rfl rfl rfl (by decide +kernel) ⟨Nat.le_of_ble_eq_true rfl, Nat.le_of_ble_eq_true rfl⟩) hP hK hD hX hS (by decide) kc_Loom (by decide) rfl rfl hl.1 rfl (Nat.le_of_ble_eq_true rfl) d_LM_planCover_1 (fun H locs hP hS => ?_)
  refine lv_iconst (v := xw_i 0) hx hb d_LM_planCover_4 rfl ?_
  refine lv_istore_n hx hb d_LM_planCover_5 rfl hl (by decide) rfl (fun ls hl => ?_)
  refine lv_iconst (v := xw_i 0) hx hb d_LM_planCover_6 rfl ?_
  refine lv_istore_n hx hb d_LM_planCover_7 rfl hl (by decide) rfl (fun ls hl => ?_)
  refine xw_jnI (fun j => ∀ (sq : xw_S), j sq = some sZ → ∀ (H : Heap) (locs : List Loc) (ls : Array Slot), va_P D vwCl (xw_ws kdC 100 ad cs Z sq) H → va_S A s.heap H locs → lv_has ls 3 [(0, .ref (ad 10))] → W p l e (headSpec w_LM_planCover ({ frames := 3, cells := 0, slots := 0, locals := 66 })).room s m [.ref (ad 10)].toArray below meth c H locs 0 0 (MQ below (va_Qv (fun u => u = sZ) (xw_H D vwCl A kdC 100 ad cs Z tt) A) [.ref (ad 10)].toArray s 0 0 A) (F0 m 74 ls [])) h ?_ ?_
  · intro s29 h H locs ls hP hS hl
    refine lv_aload_n hx hb d_LM_planCover_74 rfl (lv_at hl 0 rfl) ?_
    refine xw_getR (C := "AdviceWeaver$Loom") (T := T_LM) hx hb hts hin_LM hown hK hP (by decide) kc_Loom (by decide) rfl 5 (by decide) (hts _ hw_221) (fun _ h9 => h9) rfl d_LM_planCover_75 ?_
    refine lv_aload_n hx hb d_LM_planCover_78 rfl (lv_at hl 0 rfl) ?_
    refine xw_getR (C := "AdviceWeaver$Loom") (T := T_LM) hx hb hts hin_LM hown hK hP (by decide) kc_Loom (by decide) rfl 0 (by decide) (hts _ hw_194) (fun _ h9 => h9) rfl d_LM_planCover_79 ?_
    refine xw_getI (C := "AdviceWeaver$Body") (T := T_B) hx hb hts hin_B hown hK hP (by omega) (kc_Body 12 (by omega)) (by decide) rfl 8 (by decide) (hts _ hw_195) (fun _ h9 => h9) rfl d_LM_planCover_82 ?_
    refine lv_aload_n hx hb d_LM_planCover_85 rfl (lv_at hl 0 rfl) ?_
    refine xw_getI (C := "AdviceWeaver$Loom") (T := T_LM) hx hb hts hin_LM hown hK hP (by decide) kc_Loom (by decide) rfl 7 (by decide) (hts _ hw_209) (fun _ h9 => h9) rfl d_LM_planCover_86 ?_
    obtain ⟨hg30, h⟩ := xw_grdI h
    refine xw_iast hx hb hK hP hD hS (by decide) kc_leads (by decide) hg30 d_LM_planCover_89 (fun s31 e32 H locs hP hS => ?_)
    replace h := xw_letI e32 h
    exact xw_vretE hx hb hr hlk hP hK hD hX hS h d_LM_planCover_90
  · intro k74 hk74 h
    exact hlp8 k74 hk74 fu s1 0 0 h _ _ _ hP hS (lv_sub hl [2, 1, 0] rfl)
def lp_LM_planTrace_12 (fu : Nat) (c1_12 : Int) (k83 : xw_S → Option xw_S) : Nat → xw_S → Int → Option xw_S
  | 0, _, _ => none
  | n + 1, s4, i2_12 =>
    xw_grd (xw_r i2_12 ∧ xw_r (s4.1 (48 + 4 * 12) 8)) (xw_if (s4.1 (48 + 4 * 12) 8 ≤ i2_12) (k83 s4)
     (xw_bn2 (f_B_begins fu s4 12 i2_12) (fun s7 r9 => xw_jn (fun (s27 : xw_S) (i2_77 : Int) => xw_let (i2_77 + 1) (fun v28 => lp_LM_planTrace_12 fu c1_12 k83 n s27 v28))
     (fun (j77 : xw_S → Int → Option xw_S) => xw_grd (xw_r r9) (xw_if (r9 = 0) (j77 s7 i2_12)
     (xw_grd ((0 ≤ i2_12 ∧ i2_12 < ((121 : Nat) : Int))) (xw_let (xw_st s7 15 (i2_12).toNat (s7.1 10 7)) (fun s13 => xw_bn2 (f_B_byteAt fu s13 12 i2_12) (fun s15 r17 => xw_jn (fun (s23 : xw_S) (i2_72 : Int) => xw_bnd (f_LM_addOldItem fu s23 i2_72) (fun s24 => j77 s24 i2_72))
     (fun (j72 : xw_S → Int → Option xw_S) => xw_grd (xw_r r17) (xw_if (r17 = 14) (xw_bnd (f_LM_addItem fu s15 30 ((3 * c1_12) + 1) (-1)) (fun s20 => j72 s20 i2_12))
     (j72 s15 i2_12))))))))))))
def f_LM_planTrace (fu : Nat) (s0 : xw_S) (p1 : Int) : Option xw_S :=
 xw_bnd (f_LM_addItem fu s0 30 (3 * p1) (-1)) (fun s1 => xw_jn (fun (s30 : xw_S) => xw_grd ((0 ≤ s30.1 (48 + 4 * 12) 8 ∧ s30.1 (48 + 4 * 12) 8 < ((121 : Nat) : Int))) (xw_let (xw_st s30 15 (s30.1 (48 + 4 * 12) 8).toNat (s30.1 10 7)) (fun s32 => xw_bnd (f_LM_addItem fu s32 30 ((3 * p1) + 2) (-1)) (fun s34 => xw_bnd (f_LM_addItem fu s34 32 0 (-1)) (fun s37 => some s37)))))
 (fun (k83 : xw_S → Option xw_S) => lp_LM_planTrace_12 fu p1 k83 fu s1 0))
set_option maxRecDepth 100000 in
set_option maxHeartbeats 4000000 in
theorem c_LM_planTrace (l : Launch) (D : va_G) (A : Nat → Prop) (ad : Nat → Nat) (cs : Nat → ClassId) (Z : va_W) (tt : Nat → Nat) (fu : Nat) (s0 sZ : xw_S) (p1 : Int) (h : f_LM_planTrace fu s0 p1 = some sZ) : Met l y_LM_planTrace w_LM_planTrace ({ frames := 3, cells := 0, slots := 0, locals := 65 }) (va_Pc [.ref (ad 10), .int (xw_i p1)] (xw_H D vwCl A kdC 100 ad cs Z tt s0)) (va_Qv (fun u => u = sZ) (xw_H D vwCl A kdC 100 ad cs Z tt) A) 0 0 A := by
  refine Met.ofW (cc := b_LM_planTrace) (maxL := 3) (ret := none) (by decide) rfl ?_
  intro p e s m args below meth c s₁ B hml hv
  obtain ⟨rfl, hP, hK, hD, hX⟩ := hv
  have hx := B.exec
  have hb := B.bytes
  have hr := B.returns
  have hts0 := atoms_spec (ws := w_LM_planTrace) B.pre
  have hts := fun w (hw : w ∈ wAll) => hts0 w (List.mem_cons_of_mem _ hw)
  have hown : s.vm.findClass "AdviceWeaver$Loom" = some m.cls := findClass_of_methodNamed B.named
  have hlk := B.notSynchronized
  clear hts0 B
  have hS : va_S A s.heap s.heap [] := va_S.rf
  have hl := lv_entry [.ref (ad 10), .int (xw_i p1)] (n := 3) (Nat.le_of_ble_eq_true rfl)
  rw [lg_entry_eq]
  generalize (lg_sl [.ref (ad 10), .int (xw_i p1)] ++ List.replicate (3 - (lg_sl [.ref (ad 10), .int (xw_i p1)]).length) Slot.unset).toArray = ls at hl ⊢
  have hl : lv_has ls 3 [(0, .ref (ad 10)), (1, .int (xw_i p1))] := hl
  have hlp12 : ∀ (c1_12 : Int) (k83 : xw_S → Option xw_S) (hk83 : ∀ (sq : xw_S), k83 sq = some sZ → ∀ (H : Heap) (locs : List Loc) (ls : Array Slot), va_P D vwCl (xw_ws kdC 100 ad cs Z sq) H → va_S A s.heap H locs → lv_has ls 3 [(0, .ref (ad 10)), (1, .int (xw_i c1_12))] → W p l e (headSpec w_LM_planTrace ({ frames := 3, cells := 0, slots := 0, locals := 65 })).room s m [.ref (ad 10), .int (xw_i p1)].toArray below meth c H locs 0 0 (MQ below (va_Qv (fun u => u = sZ) (xw_H D vwCl A kdC 100 ad cs Z tt) A) [.ref (ad 10), .int (xw_i p1)].toArray s 0 0 A) (F0 m 83 ls [])) (n : Nat), ∀ (sq : xw_S) (i2_12 : Int), lp_LM_planTrace_12 fu c1_12 k83 n sq i2_12 = some sZ → ∀ (H : Heap) (locs : List Loc) (ls : Array Slot), va_P D vwCl (xw_ws kdC 100 ad cs Z sq) H → va_S A s.heap H locs → lv_has ls 3 [(0, .ref (ad 10)), (1, .int (xw_i c1_12)), (2, .int (xw_i i2_12))] → W p l e (headSpec w_LM_planTrace ({ frames := 3, cells := 0, slots := 0, locals := 65 })).room s m [.ref (ad 10), .int (xw_i p1)].toArray below meth c H locs 0 0 (MQ below (va_Qv (fun u => u = sZ) (xw_H D vwCl A kdC 100 ad cs Z tt) A) [.ref (ad 10), .int (xw_i p1)].toArray s 0 0 A) (F0 m 12 ls []) := by
    intro c1_12 k83 hk83 n
    induction n with
    | zero =>
      intro sq i2_12 h
      cases (show (none : Option xw_S) = some sZ from h)
    | succ n ih12 =>
      intro s4 i2_12 h H locs ls hP hS hl
      unfold lp_LM_planTrace_12 at h
      refine lv_iload_n hx hb d_LM_planTrace_12 rfl (lv_at hl 2 rfl) ?_
      refine lv_aload_n hx hb d_LM_planTrace_13 rfl (lv_at hl 0 rfl) ?_
      refine xw_getR (C := "AdviceWeaver$Loom") (T := T_LM) hx hb hts hin_LM hown hK hP (by decide) kc_Loom (by decide) rfl 0 (by decide) (hts _ hw_194) (fun _ h9 => h9) rfl d_LM_planTrace_14 ?_
      refine xw_getI (C := "AdviceWeaver$Body") (T := T_B) hx hb hts hin_B hown hK hP (by omega) (kc_Body 12 (by omega)) (by decide) rfl 8 (by decide) (hts _ hw_195) (fun _ h9 => h9) rfl d_LM_planTrace_17 ?_
      obtain ⟨hg5, h⟩ := xw_grdI h
      refine xw_icmp_ge (tgt := 83) hx hb hg5.1 hg5.2 d_LM_planTrace_20 (by decide) (fun hc6 => ?_) (fun hc6 => ?_)
      · replace h := xw_ifT hc6 h
        exact hk83 s4 h _ _ _ hP hS (lv_sub hl [0, 1] rfl)
      · replace h := xw_ifF hc6 h
        refine lv_aload_n hx hb d_LM_planTrace_23 rfl (lv_at hl 0 rfl) ?_
        refine xw_getR (C := "AdviceWeaver$Loom") (T := T_LM) hx hb hts hin_LM hown hK hP (by decide) kc_Loom (by decide) rfl 0 (by decide) (hts _ hw_194) (fun _ h9 => h9) rfl d_LM_planTrace_24 ?_
        refine lv_iload_n hx hb d_LM_planTrace_27 rfl (lv_at hl 2 rfl) ?_
        obtain ⟨s7, r9, hc8, h⟩ := xw_bn2I h
        refine xw_callVi (C := "AdviceWeaver$Body") (T := T_B) ⟨hx, hb, hml, hown, hts⟩ (c_B_begins l D A ad cs Z tt fu s4 s7 12 (by omega) i2_12 r9 hc8) (cwV 1 hts (gd_V hw_196 hw_76 hw_77 hw_25 hw_78) rfl rfl rfl (by decide +kernel) ⟨Nat.le_of_ble_eq_true rfl, Nat.le_of_ble_eq_true rfl⟩) hP hK hD hX hS (by omega) (kc_Body 12 (by omega)) (by decide) rfl rfl hl.1 rfl (Nat.le_of_ble_eq_true rfl) d_LM_planTrace_28 (fun H locs hP hS => ?_)
        refine xw_jnI (fun j => ∀ (sq : xw_S) (i2_77 : Int), j sq i2_77 = some sZ → ∀ (H : Heap) (locs : List Loc) (ls : Array Slot), va_P D vwCl (xw_ws kdC 100 ad cs Z sq) H → va_S A s.heap H locs → lv_has ls 3 [(0, .ref (ad 10)), (1, .int (xw_i c1_12)), (2, .int (xw_i i2_77))] → W p l e (headSpec w_LM_planTrace ({ frames := 3, cells := 0, slots := 0, locals := 65 })).room s m [.ref (ad 10), .int (xw_i p1)].toArray below meth c H locs 0 0 (MQ below (va_Qv (fun u => u = sZ) (xw_H D vwCl A kdC 100 ad cs Z tt) A) [.ref (ad 10), .int (xw_i p1)].toArray s 0 0 A) (F0 m 77 ls [])) h ?_ ?_
        · intro s27 i2_77 h H locs ls hP hS hl
          obtain ⟨v28, e29⟩ : ∃ z, z = i2_77 + 1 := ⟨_, rfl⟩
          replace h := xw_letI e29 h
          refine xw_iinc (lv' := [(2, .int (xw_i v28)), (0, .ref (ad 10)), (1, .int (xw_i c1_12))]) hx hb d_LM_planTrace_77 hl (k := 2) rfl (by decide) (by rw [e29]; rfl) (fun ls hl => ?_)
          refine lv_goto (tgt := 12) hx hb d_LM_planTrace_80 (by decide) ?_
          exact ih12 s27 v28 h _ _ _ hP hS (lv_sub hl [1, 2, 0] rfl)
        · intro j77 hj77 h
          obtain ⟨hg10, h⟩ := xw_grdI h
          refine xw_if_ne (tgt := 37) hx hb hg10 d_LM_planTrace_31 (by decide) (fun hc11 => ?_) (fun hc11 => ?_)
          · replace h := xw_ifF hc11 h
            refine lv_aload_n hx hb d_LM_planTrace_37 rfl (lv_at hl 0 rfl) ?_
            refine xw_getR (C := "AdviceWeaver$Loom") (T := T_LM) hx hb hts hin_LM hown hK hP (by decide) kc_Loom (by decide) rfl 5 (by decide) (hts _ hw_221) (fun _ h9 => h9) rfl d_LM_planTrace_38 ?_
            refine lv_iload_n hx hb d_LM_planTrace_41 rfl (lv_at hl 2 rfl) ?_
            refine lv_aload_n hx hb d_LM_planTrace_42 rfl (lv_at hl 0 rfl) ?_
            refine xw_getI (C := "AdviceWeaver$Loom") (T := T_LM) hx hb hts hin_LM hown hK hP (by decide) kc_Loom (by decide) rfl 7 (by decide) (hts _ hw_209) (fun _ h9 => h9) rfl d_LM_planTrace_43 ?_
            obtain ⟨hg12, h⟩ := xw_grdI h
            refine xw_iast hx hb hK hP hD hS (by decide) kc_leads (by decide) hg12 d_LM_planTrace_46 (fun s13 e14 H locs hP hS => ?_)
            replace h := xw_letI e14 h
            refine lv_aload_n hx hb d_LM_planTrace_47 rfl (lv_at hl 0 rfl) ?_
            refine xw_getR (C := "AdviceWeaver$Loom") (T := T_LM) hx hb hts hin_LM hown hK hP (by decide) kc_Loom (by decide) rfl 0 (by decide) (hts _ hw_194) (fun _ h9 => h9) rfl d_LM_planTrace_48 ?_
            refine lv_iload_n hx hb d_LM_planTrace_51 rfl (lv_at hl 2 rfl) ?_
            obtain ⟨s15, r17, hc16, h⟩ := xw_bn2I h
            refine xw_callVi (C := "AdviceWeaver$Body") (T := T_B) ⟨hx, hb, hml, hown, hts⟩ (c_B_byteAt l D A ad cs Z tt fu s13 s15 12 (by omega) i2_12 r17 hc16) (cwV 1 hts (gd_V hw_197 hw_57 hw_58 hw_25 hw_59) rfl rfl rfl (by decide +kernel) ⟨Nat.le_of_ble_eq_true rfl, Nat.le_of_ble_eq_true rfl⟩) hP hK hD hX hS (by omega) (kc_Body 12 (by omega)) (by decide) rfl rfl hl.1 rfl (Nat.le_of_ble_eq_true rfl) d_LM_planTrace_52 (fun H locs hP hS => ?_)
            refine lv_bipush (v := xw_i 14) hx hb d_LM_planTrace_55 (by decide) ?_
            refine xw_jnI (fun j => ∀ (sq : xw_S) (i2_72 : Int), j sq i2_72 = some sZ → ∀ (H : Heap) (locs : List Loc) (ls : Array Slot), va_P D vwCl (xw_ws kdC 100 ad cs Z sq) H → va_S A s.heap H locs → lv_has ls 3 [(0, .ref (ad 10)), (1, .int (xw_i c1_12)), (2, .int (xw_i i2_72))] → W p l e (headSpec w_LM_planTrace ({ frames := 3, cells := 0, slots := 0, locals := 65 })).room s m [.ref (ad 10), .int (xw_i p1)].toArray below meth c H locs 0 0 (MQ below (va_Qv (fun u => u = sZ) (xw_H D vwCl A kdC 100 ad cs Z tt) A) [.ref (ad 10), .int (xw_i p1)].toArray s 0 0 A) (F0 m 72 ls [])) h ?_ ?_
            · intro s23 i2_72 h H locs ls hP hS hl
              refine lv_aload_n hx hb d_LM_planTrace_72 rfl (lv_at hl 0 rfl) ?_
              refine lv_iload_n hx hb d_LM_planTrace_73 rfl (lv_at hl 2 rfl) ?_
              obtain ⟨s24, hc25, h⟩ := xw_bndI h
              refine xw_callVv (C := "AdviceWeaver$Loom") (T := T_LM) ⟨hx, hb, hml, hown, hts⟩ (c_LM_addOldItem l D A ad cs Z tt fu s23 s24 i2_72 hc25) (cwV 1 hts (gd_V hw_222 hw_223 hw_224 hw_203 hw_225) rfl rfl rfl (by decide +kernel) ⟨Nat.le_of_ble_eq_true rfl, Nat.le_of_ble_eq_true rfl⟩) hP hK hD hX hS (by decide) kc_Loom (by decide) rfl rfl hl.1 rfl (Nat.le_of_ble_eq_true rfl) d_LM_planTrace_74 (fun H locs hP hS => ?_)
              exact hj77 s24 i2_72 h _ _ _ hP hS (lv_sub hl [0, 1, 2] rfl)
            · intro j72 hj72 h
              obtain ⟨hg18, h⟩ := xw_grdI h
              refine xw_icmp_ne (tgt := 72) hx hb hg18 (by decide) d_LM_planTrace_57 (by decide) (fun hc19 => ?_) (fun hc19 => ?_)
              · replace h := xw_ifF hc19 h
                exact hj72 s15 i2_12 h _ _ _ hP hS (lv_sub hl [0, 1, 2] rfl)
              · replace h := xw_ifT hc19 h
                refine lv_aload_n hx hb d_LM_planTrace_60 rfl (lv_at hl 0 rfl) ?_
                refine lv_bipush (v := xw_i 30) hx hb d_LM_planTrace_61 (by decide) ?_
                refine lv_iconst (v := xw_i 3) hx hb d_LM_planTrace_63 rfl ?_
                refine lv_iload_n hx hb d_LM_planTrace_64 rfl (lv_at hl 1 rfl) ?_
                refine xw_imul hx hb d_LM_planTrace_65 ?_
                refine lv_iconst (v := xw_i 1) hx hb d_LM_planTrace_66 rfl ?_
                refine xw_iadd hx hb d_LM_planTrace_67 ?_
                refine lv_iconst (v := xw_i (-1)) hx hb d_LM_planTrace_68 rfl ?_
                obtain ⟨s20, hc21, h⟩ := xw_bndI h
                refine xw_callVv (C := "AdviceWeaver$Loom") (T := T_LM) ⟨hx, hb, hml, hown, hts⟩ (c_LM_addItem l D A ad cs Z tt fu s15 s20 30 ((3 * c1_12) + 1) (-1) hc21) (cwV 3 hts (gd_V hw_213 hw_214 hw_215 hw_203 hw_216) rfl rfl rfl (by decide +kernel) ⟨Nat.le_of_ble_eq_true rfl, Nat.le_of_ble_eq_true rfl⟩) hP hK hD hX hS (by decide) kc_Loom (by decide) rfl rfl hl.1 rfl (Nat.le_of_ble_eq_true rfl) d_LM_planTrace_69 (fun H locs hP hS => ?_)
                exact hj72 s20 i2_12 h _ _ _ hP hS (lv_sub hl [0, 1, 2] rfl)
          · replace h := xw_ifT hc11 h
            refine lv_goto (tgt := 77) hx hb d_LM_planTrace_34 (by decide) ?_
            exact hj77 s7 i2_12 h _ _ _ hP hS (lv_sub hl [0, 1, 2] rfl)
  unfold f_LM_planTrace at h
  refine lv_aload_n hx hb d_LM_planTrace_0 rfl (lv_at hl 0 rfl) ?_
  refine lv_bipush (v := xw_i 30) hx hb d_LM_planTrace_1 (by decide) ?_
  refine lv_iconst (v := xw_i 3) hx hb d_LM_planTrace_3 rfl ?_
  refine lv_iload_n hx hb d_LM_planTrace_4 rfl (lv_at hl 1 rfl) ?_
  refine xw_imul hx hb d_LM_planTrace_5 ?_
  refine lv_iconst (v := xw_i (-1)) hx hb d_LM_planTrace_6 rfl ?_
  obtain ⟨s1, hc2, h⟩ := xw_bndI h
  refine xw_callVv (C := "AdviceWeaver$Loom") (T := T_LM) ⟨hx, hb, hml, hown, hts⟩ (c_LM_addItem l D A ad cs Z tt fu s0 s1 30 (3 * p1) (-1) hc2) (cwV 3 hts (gd_V hw_213 hw_214 hw_215 hw_203 hw_216) rfl rfl rfl (by decide +kernel) ⟨Nat.le_of_ble_eq_true rfl, Nat.le_of_ble_eq_true rfl⟩) hP hK hD hX hS (by decide) kc_Loom (by decide) rfl rfl hl.1 rfl (Nat.le_of_ble_eq_true rfl) d_LM_planTrace_7 (fun H locs hP hS => ?_)
  refine lv_iconst (v := xw_i 0) hx hb d_LM_planTrace_10 rfl ?_
  refine lv_istore_n hx hb d_LM_planTrace_11 rfl hl (by decide) rfl (fun ls hl => ?_)
  refine xw_jnI (fun j => ∀ (sq : xw_S), j sq = some sZ → ∀ (H : Heap) (locs : List Loc) (ls : Array Slot), va_P D vwCl (xw_ws kdC 100 ad cs Z sq) H → va_S A s.heap H locs → lv_has ls 3 [(0, .ref (ad 10)), (1, .int (xw_i p1))] → W p l e (headSpec w_LM_planTrace ({ frames := 3, cells := 0, slots := 0, locals := 65 })).room s m [.ref (ad 10), .int (xw_i p1)].toArray below meth c H locs 0 0 (MQ below (va_Qv (fun u => u = sZ) (xw_H D vwCl A kdC 100 ad cs Z tt) A) [.ref (ad 10), .int (xw_i p1)].toArray s 0 0 A) (F0 m 83 ls [])) h ?_ ?_
  · intro s30 h H locs ls hP hS hl
    refine lv_aload_n hx hb d_LM_planTrace_83 rfl (lv_at hl 0 rfl) ?_
    refine xw_getR (C := "AdviceWeaver$Loom") (T := T_LM) hx hb hts hin_LM hown hK hP (by decide) kc_Loom (by decide) rfl 5 (by decide) (hts _ hw_221) (fun _ h9 => h9) rfl d_LM_planTrace_84 ?_
    refine lv_aload_n hx hb d_LM_planTrace_87 rfl (lv_at hl 0 rfl) ?_
    refine xw_getR (C := "AdviceWeaver$Loom") (T := T_LM) hx hb hts hin_LM hown hK hP (by decide) kc_Loom (by decide) rfl 0 (by decide) (hts _ hw_194) (fun _ h9 => h9) rfl d_LM_planTrace_88 ?_
    refine xw_getI (C := "AdviceWeaver$Body") (T := T_B) hx hb hts hin_B hown hK hP (by omega) (kc_Body 12 (by omega)) (by decide) rfl 8 (by decide) (hts _ hw_195) (fun _ h9 => h9) rfl d_LM_planTrace_91 ?_
    refine lv_aload_n hx hb d_LM_planTrace_94 rfl (lv_at hl 0 rfl) ?_
    refine xw_getI (C := "AdviceWeaver$Loom") (T := T_LM) hx hb hts hin_LM hown hK hP (by decide) kc_Loom (by decide) rfl 7 (by decide) (hts _ hw_209) (fun _ h9 => h9) rfl d_LM_planTrace_95 ?_
    obtain ⟨hg31, h⟩ := xw_grdI h
    refine xw_iast hx hb hK hP hD hS (by decide) kc_leads (by decide) hg31 d_LM_planTrace_98 (fun s32 e33 H locs hP hS => ?_)
    replace h := xw_letI e33 h
    refine lv_aload_n hx hb d_LM_planTrace_99 rfl (lv_at hl 0 rfl) ?_
    refine lv_bipush (v := xw_i 30) hx hb d_LM_planTrace_100 (by decide) ?_
    refine lv_iconst (v := xw_i 3) hx hb d_LM_planTrace_102 rfl ?_
    refine lv_iload_n hx hb d_LM_planTrace_103 rfl (lv_at hl 1 rfl) ?_
    refine xw_imul hx hb d_LM_planTrace_104 ?_
    refine lv_iconst (v := xw_i 2) hx hb d_LM_planTrace_105 rfl ?_
    refine xw_iadd hx hb d_LM_planTrace_106 ?_
    refine lv_iconst (v := xw_i (-1)) hx hb d_LM_planTrace_107 rfl ?_
    obtain ⟨s34, hc35, h⟩ := xw_bndI h
    refine xw_callVv (C := "AdviceWeaver$Loom") (T := T_LM) ⟨hx, hb, hml, hown, hts⟩ (c_LM_addItem l D A ad cs Z tt fu s32 s34 30 ((3 * p1) + 2) (-1) hc35) (cwV 3 hts (gd_V hw_213 hw_214 hw_215 hw_203 hw_216) rfl rfl rfl (by decide +kernel) ⟨Nat.le_of_ble_eq_true rfl, Nat.le_of_ble_eq_true rfl⟩) hP hK hD hX hS (by decide) kc_Loom (by decide) rfl rfl hl.1 rfl (Nat.le_of_ble_eq_true rfl) d_LM_planTrace_108 (fun H locs hP hS => ?_)
    refine lv_aload_n hx hb d_LM_planTrace_111 rfl (lv_at hl 0 rfl) ?_
    refine lv_bipush (v := xw_i 32) hx hb d_LM_planTrace_112 (by decide) ?_
    refine lv_iconst (v := xw_i 0) hx hb d_LM_planTrace_114 rfl ?_
    refine lv_iconst (v := xw_i (-1)) hx hb d_LM_planTrace_115 rfl ?_
    obtain ⟨s37, hc38, h⟩ := xw_bndI h
    refine xw_callVv (C := "AdviceWeaver$Loom") (T := T_LM) ⟨hx, hb, hml, hown, hts⟩ (c_LM_addItem l D A ad cs Z tt fu s34 s37 32 0 (-1) hc38) (cwV 3 hts (gd_V hw_213 hw_214 hw_215 hw_203 hw_216) rfl rfl rfl (by decide +kernel) ⟨Nat.le_of_ble_eq_true rfl, Nat.le_of_ble_eq_true rfl⟩) hP hK hD hX hS (by decide) kc_Loom (by decide) rfl rfl hl.1 rfl (Nat.le_of_ble_eq_true rfl) d_LM_planTrace_116 (fun H locs hP hS => ?_)
    exact xw_vretE hx hb hr hlk hP hK hD hX hS h d_LM_planTrace_119
  · intro k83 hk83 h
    exact hlp12 p1 k83 hk83 fu s1 0 h _ _ _ hP hS (lv_sub hl [1, 2, 0] rfl)
def lp_LM_countPlaces_9 (fu : Nat) (k47 : xw_S → Option xw_S) : Nat → xw_S → Int → Option xw_S
  | 0, _, _ => none
  | n + 1, s3, i1_9 =>
    xw_grd (xw_r i1_9 ∧ xw_r (s3.1 10 7)) (xw_if (s3.1 10 7 ≤ i1_9) (k47 s3)
     (xw_grd ((0 ≤ i1_9 ∧ i1_9 < ((244 : Nat) : Int))) (xw_grd ((0 ≤ i1_9 ∧ i1_9 < ((243 : Nat) : Int))) (xw_bn2 (f_OP_size fu s3 (s3.1 11 (i1_9).toNat)) (fun s8 r10 => xw_grd ((0 ≤ i1_9 + 1 ∧ i1_9 + 1 < ((244 : Nat) : Int))) (xw_let (xw_st s8 14 (i1_9 + 1).toNat ((s3.1 14 (i1_9).toNat) + r10)) (fun s12 => xw_let (i1_9 + 1) (fun v14 => lp_LM_countPlaces_9 fu k47 n s12 v14))))))))
def f_LM_countPlaces (fu : Nat) (s0 : xw_S) : Option xw_S :=
 xw_let (xw_st s0 14 (0 : Int).toNat 0) (fun s1 => xw_jn (fun (s16 : xw_S) => some s16)
 (fun (k47 : xw_S → Option xw_S) => lp_LM_countPlaces_9 fu k47 fu s1 0))
set_option maxRecDepth 100000 in
set_option maxHeartbeats 4000000 in
theorem c_LM_countPlaces (l : Launch) (D : va_G) (A : Nat → Prop) (ad : Nat → Nat) (cs : Nat → ClassId) (Z : va_W) (tt : Nat → Nat) (fu : Nat) (s0 sZ : xw_S) (h : f_LM_countPlaces fu s0 = some sZ) : Met l y_LM_countPlaces w_LM_countPlaces ({ frames := 1, cells := 0, slots := 0, locals := 20 }) (va_Pc [.ref (ad 10)] (xw_H D vwCl A kdC 100 ad cs Z tt s0)) (va_Qv (fun u => u = sZ) (xw_H D vwCl A kdC 100 ad cs Z tt) A) 0 0 A := by
  refine Met.ofW (cc := b_LM_countPlaces) (maxL := 2) (ret := none) (by decide) rfl ?_
  intro p e s m args below meth c s₁ B hml hv
  obtain ⟨rfl, hP, hK, hD, hX⟩ := hv
  have hx := B.exec
  have hb := B.bytes
  have hr := B.returns
  have hts0 := atoms_spec (ws := w_LM_countPlaces) B.pre
  have hts := fun w (hw : w ∈ wAll) => hts0 w (List.mem_cons_of_mem _ hw)
  have hown : s.vm.findClass "AdviceWeaver$Loom" = some m.cls := findClass_of_methodNamed B.named
  have hlk := B.notSynchronized
  clear hts0 B
  have hS : va_S A s.heap s.heap [] := va_S.rf
  have hl := lv_entry [.ref (ad 10)] (n := 2) (Nat.le_of_ble_eq_true rfl)
  rw [lg_entry_eq]
  generalize (lg_sl [.ref (ad 10)] ++ List.replicate (2 - (lg_sl [.ref (ad 10)]).length) Slot.unset).toArray = ls at hl ⊢
  have hl : lv_has ls 2 [(0, .ref (ad 10))] := hl
  have hlp9 : ∀ (k47 : xw_S → Option xw_S) (hk47 : ∀ (sq : xw_S), k47 sq = some sZ → ∀ (H : Heap) (locs : List Loc) (ls : Array Slot), va_P D vwCl (xw_ws kdC 100 ad cs Z sq) H → va_S A s.heap H locs → lv_has ls 2 [] → W p l e (headSpec w_LM_countPlaces ({ frames := 1, cells := 0, slots := 0, locals := 20 })).room s m [.ref (ad 10)].toArray below meth c H locs 0 0 (MQ below (va_Qv (fun u => u = sZ) (xw_H D vwCl A kdC 100 ad cs Z tt) A) [.ref (ad 10)].toArray s 0 0 A) (F0 m 47 ls [])) (n : Nat), ∀ (sq : xw_S) (i1_9 : Int), lp_LM_countPlaces_9 fu k47 n sq i1_9 = some sZ → ∀ (H : Heap) (locs : List Loc) (ls : Array Slot), va_P D vwCl (xw_ws kdC 100 ad cs Z sq) H → va_S A s.heap H locs → lv_has ls 2 [(0, .ref (ad 10)), (1, .int (xw_i i1_9))] → W p l e (headSpec w_LM_countPlaces ({ frames := 1, cells := 0, slots := 0, locals := 20 })).room s m [.ref (ad 10)].toArray below meth c H locs 0 0 (MQ below (va_Qv (fun u => u = sZ) (xw_H D vwCl A kdC 100 ad cs Z tt) A) [.ref (ad 10)].toArray s 0 0 A) (F0 m 9 ls []) := by
    intro k47 hk47 n
    induction n with
    | zero =>
      intro sq i1_9 h
      cases (show (none : Option xw_S) = some sZ from h)
    | succ n ih9 =>
      intro s3 i1_9 h H locs ls hP hS hl
      unfold lp_LM_countPlaces_9 at h
      refine lv_iload_n hx hb d_LM_countPlaces_9 rfl (lv_at hl 1 rfl) ?_
      refine lv_aload_n hx hb d_LM_countPlaces_10 rfl (lv_at hl 0 rfl) ?_
      refine xw_getI (C := "AdviceWeaver$Loom") (T := T_LM) hx hb hts hin_LM hown hK hP (by decide) kc_Loom (by decide) rfl 7 (by decide) (hts _ hw_209) (fun _ h9 => h9) rfl d_LM_countPlaces_11 ?_
      obtain ⟨hg4, h⟩ := xw_grdI h
      refine xw_icmp_ge (tgt := 47) hx hb hg4.1 hg4.2 d_LM_countPlaces_14 (by decide) (fun hc5 => ?_) (fun hc5 => ?_)
      · replace h := xw_ifT hc5 h
        exact hk47 s3 h _ _ _ hP hS (lv_sub hl [] rfl)
      · replace h := xw_ifF hc5 h
        refine lv_aload_n hx hb d_LM_countPlaces_17 rfl (lv_at hl 0 rfl) ?_
        refine xw_getR (C := "AdviceWeaver$Loom") (T := T_LM) hx hb hts hin_LM hown hK hP (by decide) kc_Loom (by decide) rfl 4 (by decide) (hts _ hw_226) (fun _ h9 => h9) rfl d_LM_countPlaces_18 ?_
        refine lv_iload_n hx hb d_LM_countPlaces_21 rfl (lv_at hl 1 rfl) ?_
        refine lv_iconst (v := xw_i 1) hx hb d_LM_countPlaces_22 rfl ?_
        refine xw_iadd hx hb d_LM_countPlaces_23 ?_
        refine lv_aload_n hx hb d_LM_countPlaces_24 rfl (lv_at hl 0 rfl) ?_
        refine xw_getR (C := "AdviceWeaver$Loom") (T := T_LM) hx hb hts hin_LM hown hK hP (by decide) kc_Loom (by decide) rfl 4 (by decide) (hts _ hw_226) (fun _ h9 => h9) rfl d_LM_countPlaces_25 ?_
        refine lv_iload_n hx hb d_LM_countPlaces_28 rfl (lv_at hl 1 rfl) ?_
        obtain ⟨hg6, h⟩ := xw_grdI h
        refine xw_iald hx hb hK hP (by decide) kc_places (by decide) hg6 d_LM_countPlaces_29 ?_
        refine lv_aload_n hx hb d_LM_countPlaces_30 rfl (lv_at hl 0 rfl) ?_
        refine xw_getR (C := "AdviceWeaver$Loom") (T := T_LM) hx hb hts hin_LM hown hK hP (by decide) kc_Loom (by decide) rfl 1 (by decide) (hts _ hw_210) (fun _ h9 => h9) rfl d_LM_countPlaces_31 ?_
        refine lv_iload_n hx hb d_LM_countPlaces_34 rfl (lv_at hl 1 rfl) ?_
        obtain ⟨hg7, h⟩ := xw_grdI h
        refine xw_iald hx hb hK hP (by decide) kc_ops (by decide) hg7 d_LM_countPlaces_35 ?_
        obtain ⟨s8, r10, hc9, h⟩ := xw_bn2I h
        refine xw_callSi ⟨hx, hb, hml, hown, hts⟩ (c_OP_size l D A ad cs Z tt fu s3 s8 (s3.1 11 (i1_9).toNat) r10 hc9) (va_cwS 1 hts (gd_S hw_206 hw_47 hw_48 hw_49) rfl rfl rfl (by decide +kernel) ⟨Nat.le_of_ble_eq_true rfl, Nat.le_of_ble_eq_true rfl⟩) hP hK hD hX hS rfl hl.1 rfl (Nat.le_of_ble_eq_true rfl) d_LM_countPlaces_36 (fun H locs hP hS => ?_)
        refine xw_iadd hx hb d_LM_countPlaces_39 ?_
        obtain ⟨hg11, h⟩ := xw_grdI h
        refine xw_iast hx hb hK hP hD hS (by decide) kc_places (by decide) hg11 d_LM_countPlaces_40 (fun s12 e13 H locs hP hS => ?_)
        replace h := xw_letI e13 h
        obtain ⟨v14, e15⟩ : ∃ z, z = i1_9 + 1 := ⟨_, rfl⟩
        replace h := xw_letI e15 h
        refine xw_iinc (lv' := [(1, .int (xw_i v14)), (0, .ref (ad 10))]) hx hb d_LM_countPlaces_41 hl (k := 1) rfl (by decide) (by rw [e15]; rfl) (fun ls hl => ?_)
        refine lv_goto (tgt := 9) hx hb d_LM_countPlaces_44 (by decide) ?_
        exact ih9 s12 v14 h _ _ _ hP hS (lv_sub hl [1, 0] rfl)
  unfold f_LM_countPlaces at h
  refine lv_aload_n hx hb d_LM_countPlaces_0 rfl (lv_at hl 0 rfl) ?_
  refine xw_getR (C := "AdviceWeaver$Loom") (T := T_LM) hx hb hts hin_LM hown hK hP (by decide) kc_Loom (by decide) rfl 4 (by decide) (hts _ hw_226) (fun _ h9 => h9) rfl d_LM_countPlaces_1 ?_
  refine lv_iconst (v := xw_i 0) hx hb d_LM_countPlaces_4 rfl ?_
  refine lv_iconst (v := xw_i 0) hx hb d_LM_countPlaces_5 rfl ?_
  refine xw_iast hx hb hK hP hD hS (by decide) kc_places (by decide) (by decide) d_LM_countPlaces_6 (fun s1 e2 H locs hP hS => ?_)
  replace h := xw_letI e2 h
  refine lv_iconst (v := xw_i 0) hx hb d_LM_countPlaces_7 rfl ?_
  refine lv_istore_n hx hb d_LM_countPlaces_8 rfl hl (by decide) rfl (fun ls hl => ?_)
  refine xw_jnI (fun j => ∀ (sq : xw_S), j sq = some sZ → ∀ (H : Heap) (locs : List Loc) (ls : Array Slot), va_P D vwCl (xw_ws kdC 100 ad cs Z sq) H → va_S A s.heap H locs → lv_has ls 2 [] → W p l e (headSpec w_LM_countPlaces ({ frames := 1, cells := 0, slots := 0, locals := 20 })).room s m [.ref (ad 10)].toArray below meth c H locs 0 0 (MQ below (va_Qv (fun u => u = sZ) (xw_H D vwCl A kdC 100 ad cs Z tt) A) [.ref (ad 10)].toArray s 0 0 A) (F0 m 47 ls [])) h ?_ ?_
  · intro s16 h H locs ls hP hS hl
    exact xw_vretE hx hb hr hlk hP hK hD hX hS h d_LM_countPlaces_47
  · intro k47 hk47 h
    exact hlp9 k47 hk47 fu s1 0 h _ _ _ hP hS (lv_sub hl [1, 0] rfl)
def f_LM_newPlace (fu : Nat) (s0 : xw_S) (p1 : Int) : Option (xw_S × Int) :=
 xw_grd (xw_r p1) (xw_if (p1 < 0) (some (s0, 0))
 (xw_if (121 ≤ p1) (some (s0, 0))
 (xw_grd ((0 ≤ p1 ∧ p1 < ((121 : Nat) : Int))) (xw_grd ((0 ≤ s0.1 15 (p1).toNat ∧ s0.1 15 (p1).toNat < ((244 : Nat) : Int))) (some (s0, s0.1 14 (s0.1 15 (p1).toNat).toNat))))))
set_option maxRecDepth 100000 in
set_option maxHeartbeats 4000000 in
theorem c_LM_newPlace (l : Launch) (D : va_G) (A : Nat → Prop) (ad : Nat → Nat) (cs : Nat → ClassId) (Z : va_W) (tt : Nat → Nat) (fu : Nat) (s0 sZ : xw_S) (p1 : Int) (r0 : Int) (h : f_LM_newPlace fu s0 p1 = some (sZ, r0)) : Met l y_LM_newPlace w_LM_newPlace ({ frames := 0, cells := 0, slots := 0, locals := 0 }) (va_Pc [.ref (ad 10), .int (xw_i p1)] (xw_H D vwCl A kdC 100 ad cs Z tt s0)) (va_Qi (fun r u => r = xw_i r0 ∧ u = sZ) (xw_H D vwCl A kdC 100 ad cs Z tt) A) 0 0 A := by
  refine Met.ofW (cc := b_LM_newPlace) (maxL := 2) (ret := (some .int)) (by decide) rfl ?_
  intro p e s m args below meth c s₁ B hml hv
  obtain ⟨rfl, hP, hK, hD, hX⟩ := hv
  have hx := B.exec
  have hb := B.bytes
  have hr := B.returns
  have hts0 := atoms_spec (ws := w_LM_newPlace) B.pre
  have hts := fun w (hw : w ∈ wAll) => hts0 w (List.mem_cons_of_mem _ hw)
  have hown : s.vm.findClass "AdviceWeaver$Loom" = some m.cls := findClass_of_methodNamed B.named
  have hlk := B.notSynchronized
  clear hts0 B
  have hS : va_S A s.heap s.heap [] := va_S.rf
  have hl := lv_entry [.ref (ad 10), .int (xw_i p1)] (n := 2) (Nat.le_of_ble_eq_true rfl)
  rw [lg_entry_eq]
  generalize (lg_sl [.ref (ad 10), .int (xw_i p1)] ++ List.replicate (2 - (lg_sl [.ref (ad 10), .int (xw_i p1)]).length) Slot.unset).toArray = ls at hl ⊢
  have hl : lv_has ls 2 [(0, .ref (ad 10)), (1, .int (xw_i p1))] := hl
  unfold f_LM_newPlace at h
  refine lv_iload_n hx hb d_LM_newPlace_0 rfl (lv_at hl 1 rfl) ?_
  obtain ⟨hg1, h⟩ := xw_grdI h
  refine xw_if_lt (tgt := 27) hx hb hg1 d_LM_newPlace_1 (by decide) (fun hc2 => ?_) (fun hc2 => ?_)
  · replace h := xw_ifT hc2 h
    refine lv_iconst (v := xw_i 0) hx hb d_LM_newPlace_27 rfl ?_
    exact xw_iretE hx hb hr hlk hP hK hD hX hS h d_LM_newPlace_28
  · replace h := xw_ifF hc2 h
    refine lv_iload_n hx hb d_LM_newPlace_4 rfl (lv_at hl 1 rfl) ?_
    refine lv_aload_n hx hb d_LM_newPlace_5 rfl (lv_at hl 0 rfl) ?_
    refine xw_getR (C := "AdviceWeaver$Loom") (T := T_LM) hx hb hts hin_LM hown hK hP (by decide) kc_Loom (by decide) rfl 5 (by decide) (hts _ hw_221) (fun _ h9 => h9) rfl d_LM_newPlace_6 ?_
    refine xw_alenI hx hb hK hP (by decide) kc_leads d_LM_newPlace_9 ?_
    refine xw_icmp_ge (tgt := 27) hx hb hg1 (by decide) d_LM_newPlace_10 (by decide) (fun hc3 => ?_) (fun hc3 => ?_)
    · replace h := xw_ifT hc3 h
      refine lv_iconst (v := xw_i 0) hx hb d_LM_newPlace_27 rfl ?_
      exact xw_iretE hx hb hr hlk hP hK hD hX hS h d_LM_newPlace_28
    · replace h := xw_ifF hc3 h
      refine lv_aload_n hx hb d_LM_newPlace_13 rfl (lv_at hl 0 rfl) ?_
      refine xw_getR (C := "AdviceWeaver$Loom") (T := T_LM) hx hb hts hin_LM hown hK hP (by decide) kc_Loom (by decide) rfl 4 (by decide) (hts _ hw_226) (fun _ h9 => h9) rfl d_LM_newPlace_14 ?_
      refine lv_aload_n hx hb d_LM_newPlace_17 rfl (lv_at hl 0 rfl) ?_
      refine xw_getR (C := "AdviceWeaver$Loom") (T := T_LM) hx hb hts hin_LM hown hK hP (by decide) kc_Loom (by decide) rfl 5 (by decide) (hts _ hw_221) (fun _ h9 => h9) rfl d_LM_newPlace_18 ?_
      refine lv_iload_n hx hb d_LM_newPlace_21 rfl (lv_at hl 1 rfl) ?_
      obtain ⟨hg4, h⟩ := xw_grdI h
      refine xw_iald hx hb hK hP (by decide) kc_leads (by decide) hg4 d_LM_newPlace_22 ?_
      obtain ⟨hg5, h⟩ := xw_grdI h
      refine xw_iald hx hb hK hP (by decide) kc_places (by decide) hg5 d_LM_newPlace_23 ?_
      refine lv_goto (tgt := 28) hx hb d_LM_newPlace_24 (by decide) ?_
      exact xw_iretE hx hb hr hlk hP hK hD hX hS h d_LM_newPlace_28
def f_LM_newWay (fu : Nat) (s0 : xw_S) (p1 : Int) : Option (xw_S × Int) :=
 xw_grd ((0 ≤ p1 ∧ p1 < ((243 : Nat) : Int))) (xw_bn2 (f_LM_newPlace fu s0 (s0.1 12 (p1).toNat)) (fun s2 r4 => xw_grd ((0 ≤ p1 ∧ p1 < ((244 : Nat) : Int))) (some (s2, r4 - (s2.1 14 (p1).toNat)))))
set_option maxRecDepth 100000 in
set_option maxHeartbeats 4000000 in
theorem c_LM_newWay (l : Launch) (D : va_G) (A : Nat → Prop) (ad : Nat → Nat) (cs : Nat → ClassId) (Z : va_W) (tt : Nat → Nat) (fu : Nat) (s0 sZ : xw_S) (p1 : Int) (r0 : Int) (h : f_LM_newWay fu s0 p1 = some (sZ, r0)) : Met l y_LM_newWay w_LM_newWay ({ frames := 1, cells := 0, slots := 0, locals := 21 }) (va_Pc [.ref (ad 10), .int (xw_i p1)] (xw_H D vwCl A kdC 100 ad cs Z tt s0)) (va_Qi (fun r u => r = xw_i r0 ∧ u = sZ) (xw_H D vwCl A kdC 100 ad cs Z tt) A) 0 0 A := by
  refine Met.ofW (cc := b_LM_newWay) (maxL := 2) (ret := (some .int)) (by decide) rfl ?_
  intro p e s m args below meth c s₁ B hml hv
  obtain ⟨rfl, hP, hK, hD, hX⟩ := hv
  have hx := B.exec
  have hb := B.bytes
  have hr := B.returns
  have hts0 := atoms_spec (ws := w_LM_newWay) B.pre
  have hts := fun w (hw : w ∈ wAll) => hts0 w (List.mem_cons_of_mem _ hw)
  have hown : s.vm.findClass "AdviceWeaver$Loom" = some m.cls := findClass_of_methodNamed B.named
  have hlk := B.notSynchronized
  clear hts0 B
  have hS : va_S A s.heap s.heap [] := va_S.rf
  have hl := lv_entry [.ref (ad 10), .int (xw_i p1)] (n := 2) (Nat.le_of_ble_eq_true rfl)
  rw [lg_entry_eq]
  generalize (lg_sl [.ref (ad 10), .int (xw_i p1)] ++ List.replicate (2 - (lg_sl [.ref (ad 10), .int (xw_i p1)]).length) Slot.unset).toArray = ls at hl ⊢
  have hl : lv_has ls 2 [(0, .ref (ad 10)), (1, .int (xw_i p1))] := hl
  unfold f_LM_newWay at h
  refine lv_aload_n hx hb d_LM_newWay_0 rfl (lv_at hl 0 rfl) ?_
  refine lv_aload_n hx hb d_LM_newWay_1 rfl (lv_at hl 0 rfl) ?_
  refine xw_getR (C := "AdviceWeaver$Loom") (T := T_LM) hx hb hts hin_LM hown hK hP (by decide) kc_Loom (by decide) rfl 2 (by decide) (hts _ hw_211) (fun _ h9 => h9) rfl d_LM_newWay_2 ?_
  refine lv_iload_n hx hb d_LM_newWay_5 rfl (lv_at hl 1 rfl) ?_
  obtain ⟨hg1, h⟩ := xw_grdI h
  refine xw_iald hx hb hK hP (by decide) kc_numbers (by decide) hg1 d_LM_newWay_6 ?_
  obtain ⟨s2, r4, hc3, h⟩ := xw_bn2I h
  refine xw_callVi (C := "AdviceWeaver$Loom") (T := T_LM) ⟨hx, hb, hml, hown, hts⟩ (c_LM_newPlace l D A ad cs Z tt fu s0 s2 (s0.1 12 (p1).toNat) r4 hc3) (cwV 1 hts (gd_V hw_227 hw_228 hw_229 hw_203 hw_230) rfl rfl rfl (by decide +kernel) ⟨Nat.le_of_ble_eq_true rfl, Nat.le_of_ble_eq_true rfl⟩) hP hK hD hX hS (by decide) kc_Loom (by decide) rfl rfl hl.1 rfl (Nat.le_of_ble_eq_true rfl) d_LM_newWay_7 (fun H locs hP hS => ?_)
  refine lv_aload_n hx hb d_LM_newWay_10 rfl (lv_at hl 0 rfl) ?_
  refine xw_getR (C := "AdviceWeaver$Loom") (T := T_LM) hx hb hts hin_LM hown hK hP (by decide) kc_Loom (by decide) rfl 4 (by decide) (hts _ hw_226) (fun _ h9 => h9) rfl d_LM_newWay_11 ?_
  refine lv_iload_n hx hb d_LM_newWay_14 rfl (lv_at hl 1 rfl) ?_
  obtain ⟨hg5, h⟩ := xw_grdI h
  refine xw_iald hx hb hK hP (by decide) kc_places (by decide) hg5 d_LM_newWay_15 ?_
  refine xw_isub hx hb d_LM_newWay_16 ?_
  exact xw_iretE hx hb hr hlk hP hK hD hX hS h d_LM_newWay_17
def lp_LM_widenWhereNeeded_4 (fu : Nat) (k54 : xw_S → Int → Option (xw_S × Int)) : Nat → xw_S → Int → Int → Option (xw_S × Int)
  | 0, _, _, _ => none
  | n + 1, s1, i1_4, i2_4 =>
    xw_grd (xw_r i2_4 ∧ xw_r (s1.1 10 7)) (xw_if (s1.1 10 7 ≤ i2_4) (k54 s1 i1_4)
     (xw_grd ((0 ≤ i2_4 ∧ i2_4 < ((243 : Nat) : Int))) (xw_bn2 (f_OP_isShortBranch fu s1 (s1.1 11 (i2_4).toNat)) (fun s5 r7 => xw_jn (fun (s20 : xw_S) (i1_48 : Int) (i2_48 : Int) => xw_let (i2_48 + 1) (fun v21 => lp_LM_widenWhereNeeded_4 fu k54 n s20 i1_48 v21))
     (fun (j48 : xw_S → Int → Int → Option (xw_S × Int)) => xw_grd (xw_r r7) (xw_if (r7 = 0) (j48 s5 i1_4 i2_4)
     (xw_bn2 (f_LM_newWay fu s5 i2_4) (fun s10 r12 => xw_bn2 (f_OP_isShortWay fu s10 r12) (fun s13 r15 => xw_grd (xw_r r15) (xw_if (r15 = 0) (xw_let (xw_st s13 11 (i2_4).toNat ((s13.1 11 (i2_4).toNat) + 10)) (fun s18 => j48 s18 1 i2_4))
     (j48 s13 i1_4 i2_4)))))))))))
def f_LM_widenWhereNeeded (fu : Nat) (s0 : xw_S) : Option (xw_S × Int) :=
 xw_jn (fun (s23 : xw_S) (i1_54 : Int) => xw_grd ((i1_54 = 0 ∨ i1_54 = 1)) (some (s23, i1_54)))
 (fun (k54 : xw_S → Int → Option (xw_S × Int)) => lp_LM_widenWhereNeeded_4 fu k54 fu s0 0 0)
set_option maxRecDepth 100000 in
set_option maxHeartbeats 4000000 in
theorem c_LM_widenWhereNeeded (l : Launch) (D : va_G) (A : Nat → Prop) (ad : Nat → Nat) (cs : Nat → ClassId) (Z : va_W) (tt : Nat → Nat) (fu : Nat) (s0 sZ : xw_S) (r0 : Int) (h : f_LM_widenWhereNeeded fu s0 = some (sZ, r0)) : Met l y_LM_widenWhereNeeded w_LM_widenWhereNeeded ({ frames := 2, cells := 0, slots := 0, locals := 42 }) (va_Pc [.ref (ad 10)] (xw_H D vwCl A kdC 100 ad cs Z tt s0)) (va_Qi (fun r u => r = xw_i r0 ∧ u = sZ) (xw_H D vwCl A kdC 100 ad cs Z tt) A) 0 0 A := by
  refine Met.ofW (cc := b_LM_widenWhereNeeded) (maxL := 3) (ret := (some .boolean)) (by decide) rfl ?_
  intro p e s m args below meth c s₁ B hml hv
  obtain ⟨rfl, hP, hK, hD, hX⟩ := hv
  have hx := B.exec
  have hb := B.bytes
  have hr := B.returns
  have hts0 := atoms_spec (ws := w_LM_widenWhereNeeded) B.pre
  have hts := fun w (hw : w ∈ wAll) => hts0 w (List.mem_cons_of_mem _ hw)
  have hown : s.vm.findClass "AdviceWeaver$Loom" = some m.cls := findClass_of_methodNamed B.named
  have hlk := B.notSynchronized
  clear hts0 B
  have hS : va_S A s.heap s.heap [] := va_S.rf
  have hl := lv_entry [.ref (ad 10)] (n := 3) (Nat.le_of_ble_eq_true rfl)
  rw [lg_entry_eq]
  generalize (lg_sl [.ref (ad 10)] ++ List.replicate (3 - (lg_sl [.ref (ad 10)]).length) Slot.unset).toArray = ls at hl ⊢
  have hl : lv_has ls 3 [(0, .ref (ad 10))] := hl
  have hlp4 : ∀ (k54 : xw_S → Int → Option (xw_S × Int)) (hk54 : ∀ (sq : xw_S) (i1_54 : Int), k54 sq i1_54 = some (sZ, r0) → ∀ (H : Heap) (locs : List Loc) (ls : Array Slot), va_P D vwCl (xw_ws kdC 100 ad cs Z sq) H → va_S A s.heap H locs → lv_has ls 3 [(1, .int (xw_i i1_54))] → W p l e (headSpec w_LM_widenWhereNeeded ({ frames := 2, cells := 0, slots := 0, locals := 42 })).room s m [.ref (ad 10)].toArray below meth c H locs 0 0 (MQ below (va_Qi (fun r u => r = xw_i r0 ∧ u = sZ) (xw_H D vwCl A kdC 100 ad cs Z tt) A) [.ref (ad 10)].toArray s 0 0 A) (F0 m 54 ls [])) (n : Nat), ∀ (sq : xw_S) (i1_4 : Int) (i2_4 : Int), lp_LM_widenWhereNeeded_4 fu k54 n sq i1_4 i2_4 = some (sZ, r0) → ∀ (H : Heap) (locs : List Loc) (ls : Array Slot), va_P D vwCl (xw_ws kdC 100 ad cs Z sq) H → va_S A s.heap H locs → lv_has ls 3 [(0, .ref (ad 10)), (1, .int (xw_i i1_4)), (2, .int (xw_i i2_4))] → W p l e (headSpec w_LM_widenWhereNeeded ({ frames := 2, cells := 0, slots := 0, locals := 42 })).room s m [.ref (ad 10)].toArray below meth c H locs 0 0 (MQ below (va_Qi (fun r u => r = xw_i r0 ∧ u = sZ) (xw_H D vwCl A kdC 100 ad cs Z tt) A) [.ref (ad 10)].toArray s 0 0 A) (F0 m 4 ls []) := by
    intro k54 hk54 n
    induction n with
    | zero =>
      intro sq i1_4 i2_4 h
      cases (show (none : Option (xw_S × Int)) = some (sZ, r0) from h)
    | succ n ih4 =>
      intro s1 i1_4 i2_4 h H locs ls hP hS hl
      unfold lp_LM_widenWhereNeeded_4 at h
      refine lv_iload_n hx hb d_LM_widenWhereNeeded_4 rfl (lv_at hl 2 rfl) ?_
      refine lv_aload_n hx hb d_LM_widenWhereNeeded_5 rfl (lv_at hl 0 rfl) ?_
      refine xw_getI (C := "AdviceWeaver$Loom") (T := T_LM) hx hb hts hin_LM hown hK hP (by decide) kc_Loom (by decide) rfl 7 (by decide) (hts _ hw_209) (fun _ h9 => h9) rfl d_LM_widenWhereNeeded_6 ?_
      obtain ⟨hg2, h⟩ := xw_grdI h
      refine xw_icmp_ge (tgt := 54) hx hb hg2.1 hg2.2 d_LM_widenWhereNeeded_9 (by decide) (fun hc3 => ?_) (fun hc3 => ?_)
      · replace h := xw_ifT hc3 h
        exact hk54 s1 i1_4 h _ _ _ hP hS (lv_sub hl [1] rfl)
      · replace h := xw_ifF hc3 h
        refine lv_aload_n hx hb d_LM_widenWhereNeeded_12 rfl (lv_at hl 0 rfl) ?_
        refine xw_getR (C := "AdviceWeaver$Loom") (T := T_LM) hx hb hts hin_LM hown hK hP (by decide) kc_Loom (by decide) rfl 1 (by decide) (hts _ hw_210) (fun _ h9 => h9) rfl d_LM_widenWhereNeeded_13 ?_
        refine lv_iload_n hx hb d_LM_widenWhereNeeded_16 rfl (lv_at hl 2 rfl) ?_
        obtain ⟨hg4, h⟩ := xw_grdI h
        refine xw_iald hx hb hK hP (by decide) kc_ops (by decide) hg4 d_LM_widenWhereNeeded_17 ?_
        obtain ⟨s5, r7, hc6, h⟩ := xw_bn2I h
        refine xw_callSi ⟨hx, hb, hml, hown, hts⟩ (c_OP_isShortBranch l D A ad cs Z tt fu s1 s5 (s1.1 11 (i2_4).toNat) r7 hc6) (va_cwS 1 hts (gd_S hw_231 hw_51 hw_48 hw_52) rfl rfl rfl (by decide +kernel) ⟨Nat.le_of_ble_eq_true rfl, Nat.le_of_ble_eq_true rfl⟩) hP hK hD hX hS rfl hl.1 rfl (Nat.le_of_ble_eq_true rfl) d_LM_widenWhereNeeded_18 (fun H locs hP hS => ?_)
        refine xw_jnI (fun j => ∀ (sq : xw_S) (i1_48 : Int) (i2_48 : Int), j sq i1_48 i2_48 = some (sZ, r0) → ∀ (H : Heap) (locs : List Loc) (ls : Array Slot), va_P D vwCl (xw_ws kdC 100 ad cs Z sq) H → va_S A s.heap H locs → lv_has ls 3 [(0, .ref (ad 10)), (1, .int (xw_i i1_48)), (2, .int (xw_i i2_48))] → W p l e (headSpec w_LM_widenWhereNeeded ({ frames := 2, cells := 0, slots := 0, locals := 42 })).room s m [.ref (ad 10)].toArray below meth c H locs 0 0 (MQ below (va_Qi (fun r u => r = xw_i r0 ∧ u = sZ) (xw_H D vwCl A kdC 100 ad cs Z tt) A) [.ref (ad 10)].toArray s 0 0 A) (F0 m 48 ls [])) h ?_ ?_
        · intro s20 i1_48 i2_48 h H locs ls hP hS hl
          obtain ⟨v21, e22⟩ : ∃ z, z = i2_48 + 1 := ⟨_, rfl⟩
          replace h := xw_letI e22 h
          refine xw_iinc (lv' := [(2, .int (xw_i v21)), (0, .ref (ad 10)), (1, .int (xw_i i1_48))]) hx hb d_LM_widenWhereNeeded_48 hl (k := 2) rfl (by decide) (by rw [e22]; rfl) (fun ls hl => ?_)
          refine lv_goto (tgt := 4) hx hb d_LM_widenWhereNeeded_51 (by decide) ?_
          exact ih4 s20 i1_48 v21 h _ _ _ hP hS (lv_sub hl [1, 2, 0] rfl)
        · intro j48 hj48 h
          obtain ⟨hg8, h⟩ := xw_grdI h
          refine xw_if_eq (tgt := 48) hx hb hg8 d_LM_widenWhereNeeded_21 (by decide) (fun hc9 => ?_) (fun hc9 => ?_)
          · replace h := xw_ifT hc9 h
            exact hj48 s5 i1_4 i2_4 h _ _ _ hP hS (lv_sub hl [0, 1, 2] rfl)
          · replace h := xw_ifF hc9 h
            refine lv_aload_n hx hb d_LM_widenWhereNeeded_24 rfl (lv_at hl 0 rfl) ?_
            refine lv_iload_n hx hb d_LM_widenWhereNeeded_25 rfl (lv_at hl 2 rfl) ?_
            obtain ⟨s10, r12, hc11, h⟩ := xw_bn2I h
            refine xw_callVi (C := "AdviceWeaver$Loom") (T := T_LM) ⟨hx, hb, hml, hown, hts⟩ (c_LM_newWay l D A ad cs Z tt fu s5 s10 i2_4 r12 hc11) (cwV 1 hts (gd_V hw_232 hw_233 hw_234 hw_203 hw_235) rfl rfl rfl (by decide +kernel) ⟨Nat.le_of_ble_eq_true rfl, Nat.le_of_ble_eq_true rfl⟩) hP hK hD hX hS (by decide) kc_Loom (by decide) rfl rfl hl.1 rfl (Nat.le_of_ble_eq_true rfl) d_LM_widenWhereNeeded_26 (fun H locs hP hS => ?_)
            obtain ⟨s13, r15, hc14, h⟩ := xw_bn2I h
            refine xw_callSi ⟨hx, hb, hml, hown, hts⟩ (c_OP_isShortWay l D A ad cs Z tt fu s10 s13 r12 r15 hc14) (va_cwS 1 hts (gd_S hw_236 hw_80 hw_48 hw_81) rfl rfl rfl (by decide +kernel) ⟨Nat.le_of_ble_eq_true rfl, Nat.le_of_ble_eq_true rfl⟩) hP hK hD hX hS rfl hl.1 rfl (Nat.le_of_ble_eq_true rfl) d_LM_widenWhereNeeded_29 (fun H locs hP hS => ?_)
            obtain ⟨hg16, h⟩ := xw_grdI h
            refine xw_if_ne (tgt := 48) hx hb hg16 d_LM_widenWhereNeeded_32 (by decide) (fun hc17 => ?_) (fun hc17 => ?_)
            · replace h := xw_ifF hc17 h
              exact hj48 s13 i1_4 i2_4 h _ _ _ hP hS (lv_sub hl [0, 1, 2] rfl)
            · replace h := xw_ifT hc17 h
              refine lv_aload_n hx hb d_LM_widenWhereNeeded_35 rfl (lv_at hl 0 rfl) ?_
              refine xw_getR (C := "AdviceWeaver$Loom") (T := T_LM) hx hb hts hin_LM hown hK hP (by decide) kc_Loom (by decide) rfl 1 (by decide) (hts _ hw_210) (fun _ h9 => h9) rfl d_LM_widenWhereNeeded_36 ?_
              refine lv_iload_n hx hb d_LM_widenWhereNeeded_39 rfl (lv_at hl 2 rfl) ?_
              refine lv_dup2_11 hx hb d_LM_widenWhereNeeded_40 rfl rfl ?_
              refine xw_iald hx hb hK hP (by decide) kc_ops (by decide) hg4 d_LM_widenWhereNeeded_41 ?_
              refine lv_bipush (v := xw_i 10) hx hb d_LM_widenWhereNeeded_42 (by decide) ?_
              refine xw_iadd hx hb d_LM_widenWhereNeeded_44 ?_
              refine xw_iast hx hb hK hP hD hS (by decide) kc_ops (by decide) hg4 d_LM_widenWhereNeeded_45 (fun s18 e19 H locs hP hS => ?_)
              replace h := xw_letI e19 h
              refine lv_iconst (v := xw_i 1) hx hb d_LM_widenWhereNeeded_46 rfl ?_
              refine lv_istore_n hx hb d_LM_widenWhereNeeded_47 rfl hl (by decide) rfl (fun ls hl => ?_)
              exact hj48 s18 1 i2_4 h _ _ _ hP hS (lv_sub hl [1, 0, 2] rfl)
  unfold f_LM_widenWhereNeeded at h
  refine lv_iconst (v := xw_i 0) hx hb d_LM_widenWhereNeeded_0 rfl ?_
  refine lv_istore_n hx hb d_LM_widenWhereNeeded_1 rfl hl (by decide) rfl (fun ls hl => ?_)
  refine lv_iconst (v := xw_i 0) hx hb d_LM_widenWhereNeeded_2 rfl ?_
  refine lv_istore_n hx hb d_LM_widenWhereNeeded_3 rfl hl (by decide) rfl (fun ls hl => ?_)
  refine xw_jnI (fun j => ∀ (sq : xw_S) (i1_54 : Int), j sq i1_54 = some (sZ, r0) → ∀ (H : Heap) (locs : List Loc) (ls : Array Slot), va_P D vwCl (xw_ws kdC 100 ad cs Z sq) H → va_S A s.heap H locs → lv_has ls 3 [(1, .int (xw_i i1_54))] → W p l e (headSpec w_LM_widenWhereNeeded ({ frames := 2, cells := 0, slots := 0, locals := 42 })).room s m [.ref (ad 10)].toArray below meth c H locs 0 0 (MQ below (va_Qi (fun r u => r = xw_i r0 ∧ u = sZ) (xw_H D vwCl A kdC 100 ad cs Z tt) A) [.ref (ad 10)].toArray s 0 0 A) (F0 m 54 ls [])) h ?_ ?_
  · intro s23 i1_54 h H locs ls hP hS hl
    refine lv_iload_n hx hb d_LM_widenWhereNeeded_54 rfl (lv_at hl 0 rfl) ?_
    obtain ⟨hg24, h⟩ := xw_grdI h
    exact xw_zretE hx hb hr hlk hP hK hD hX hS h hg24 d_LM_widenWhereNeeded_55
  · intro k54 hk54 h
    exact hlp4 k54 hk54 fu s0 0 0 h _ _ _ hP hS (lv_sub hl [2, 1, 0] rfl)
def lp_LM_layOut_6 (fu : Nat) (k30 : xw_S → Option xw_S) : Nat → xw_S → Int → Option xw_S
  | 0, _, _ => none
  | n + 1, s4, i1_6 =>
    xw_grd (xw_r i1_6) (xw_if (243 ≤ i1_6) (k30 s4)
     (xw_bn2 (f_LM_widenWhereNeeded fu s4) (fun s7 r9 => xw_grd (xw_r r9) (xw_if (r9 = 0) (k30 s7)
     (xw_bnd (f_LM_countPlaces fu s7) (fun s12 => xw_let (i1_6 + 1) (fun v15 => lp_LM_layOut_6 fu k30 n s12 v15)))))))
def f_LM_layOut (fu : Nat) (s0 : xw_S) : Option xw_S :=
 xw_bnd (f_LM_countPlaces fu s0) (fun s1 => xw_jn (fun (s17 : xw_S) => some s17)
 (fun (k30 : xw_S → Option xw_S) => lp_LM_layOut_6 fu k30 fu s1 0))
set_option maxRecDepth 100000 in
set_option maxHeartbeats 4000000 in
theorem c_LM_layOut (l : Launch) (D : va_G) (A : Nat → Prop) (ad : Nat → Nat) (cs : Nat → ClassId) (Z : va_W) (tt : Nat → Nat) (fu : Nat) (s0 sZ : xw_S) (h : f_LM_layOut fu s0 = some sZ) : Met l y_LM_layOut w_LM_layOut ({ frames := 3, cells := 0, slots := 0, locals := 64 }) (va_Pc [.ref (ad 10)] (xw_H D vwCl A kdC 100 ad cs Z tt s0)) (va_Qv (fun u => u = sZ) (xw_H D vwCl A kdC 100 ad cs Z tt) A) 0 0 A := by
  refine Met.ofW (cc := b_LM_layOut) (maxL := 2) (ret := none) (by decide) rfl ?_
  intro p e s m args below meth c s₁ B hml hv
  obtain ⟨rfl, hP, hK, hD, hX⟩ := hv
  have hx := B.exec
  have hb := B.bytes
  have hr := B.returns
  have hts0 := atoms_spec (ws := w_LM_layOut) B.pre
  have hts := fun w (hw : w ∈ wAll) => hts0 w (List.mem_cons_of_mem _ hw)
  have hown : s.vm.findClass "AdviceWeaver$Loom" = some m.cls := findClass_of_methodNamed B.named
  have hlk := B.notSynchronized
  clear hts0 B
  have hS : va_S A s.heap s.heap [] := va_S.rf
  have hl := lv_entry [.ref (ad 10)] (n := 2) (Nat.le_of_ble_eq_true rfl)
  rw [lg_entry_eq]
  generalize (lg_sl [.ref (ad 10)] ++ List.replicate (2 - (lg_sl [.ref (ad 10)]).length) Slot.unset).toArray = ls at hl ⊢
  have hl : lv_has ls 2 [(0, .ref (ad 10))] := hl
  have hlp6 : ∀ (k30 : xw_S → Option xw_S) (hk30 : ∀ (sq : xw_S), k30 sq = some sZ → ∀ (H : Heap) (locs : List Loc) (ls : Array Slot), va_P D vwCl (xw_ws kdC 100 ad cs Z sq) H → va_S A s.heap H locs → lv_has ls 2 [] → W p l e (headSpec w_LM_layOut ({ frames := 3, cells := 0, slots := 0, locals := 64 })).room s m [.ref (ad 10)].toArray below meth c H locs 0 0 (MQ below (va_Qv (fun u => u = sZ) (xw_H D vwCl A kdC 100 ad cs Z tt) A) [.ref (ad 10)].toArray s 0 0 A) (F0 m 30 ls [])) (n : Nat), ∀ (sq : xw_S) (i1_6 : Int), lp_LM_layOut_6 fu k30 n sq i1_6 = some sZ → ∀ (H : Heap) (locs : List Loc) (ls : Array Slot), va_P D vwCl (xw_ws kdC 100 ad cs Z sq) H → va_S A s.heap H locs → lv_has ls 2 [(0, .ref (ad 10)), (1, .int (xw_i i1_6))] → W p l e (headSpec w_LM_layOut ({ frames := 3, cells := 0, slots := 0, locals := 64 })).room s m [.ref (ad 10)].toArray below meth c H locs 0 0 (MQ below (va_Qv (fun u => u = sZ) (xw_H D vwCl A kdC 100 ad cs Z tt) A) [.ref (ad 10)].toArray s 0 0 A) (F0 m 6 ls []) := by
    intro k30 hk30 n
    induction n with
    | zero =>
      intro sq i1_6 h
      cases (show (none : Option xw_S) = some sZ from h)
    | succ n ih6 =>
      intro s4 i1_6 h H locs ls hP hS hl
      unfold lp_LM_layOut_6 at h
      refine lv_iload_n hx hb d_LM_layOut_6 rfl (lv_at hl 1 rfl) ?_
      refine lv_sipush (v := xw_i 243) hx hb d_LM_layOut_7 (by decide) ?_
      obtain ⟨hg5, h⟩ := xw_grdI h
      refine xw_icmp_ge (tgt := 30) hx hb hg5 (by decide) d_LM_layOut_10 (by decide) (fun hc6 => ?_) (fun hc6 => ?_)
      · replace h := xw_ifT hc6 h
        exact hk30 s4 h _ _ _ hP hS (lv_sub hl [] rfl)
      · replace h := xw_ifF hc6 h
        refine lv_aload_n hx hb d_LM_layOut_13 rfl (lv_at hl 0 rfl) ?_
        obtain ⟨s7, r9, hc8, h⟩ := xw_bn2I h
        refine xw_callVi (C := "AdviceWeaver$Loom") (T := T_LM) ⟨hx, hb, hml, hown, hts⟩ (c_LM_widenWhereNeeded l D A ad cs Z tt fu s4 s7 r9 hc8) (cwV 0 hts (gd_V hw_241 hw_242 hw_243 hw_203 hw_244) rfl rfl rfl (by decide +kernel) ⟨Nat.le_of_ble_eq_true rfl, Nat.le_of_ble_eq_true rfl⟩) hP hK hD hX hS (by decide) kc_Loom (by decide) rfl rfl hl.1 rfl (Nat.le_of_ble_eq_true rfl) d_LM_layOut_14 (fun H locs hP hS => ?_)
        obtain ⟨hg10, h⟩ := xw_grdI h
        refine xw_if_eq (tgt := 30) hx hb hg10 d_LM_layOut_17 (by decide) (fun hc11 => ?_) (fun hc11 => ?_)
        · replace h := xw_ifT hc11 h
          exact hk30 s7 h _ _ _ hP hS (lv_sub hl [] rfl)
        · replace h := xw_ifF hc11 h
          refine lv_aload_n hx hb d_LM_layOut_20 rfl (lv_at hl 0 rfl) ?_
          obtain ⟨s12, hc13, h⟩ := xw_bndI h
          refine xw_callVv (C := "AdviceWeaver$Loom") (T := T_LM) ⟨hx, hb, hml, hown, hts⟩ (c_LM_countPlaces l D A ad cs Z tt fu s7 s12 hc13) (cwV 0 hts (gd_V hw_237 hw_238 hw_239 hw_203 hw_240) rfl rfl rfl (by decide +kernel) ⟨Nat.le_of_ble_eq_true rfl, Nat.le_of_ble_eq_true rfl⟩) hP hK hD hX hS (by decide) kc_Loom (by decide) rfl rfl hl.1 rfl (Nat.le_of_ble_eq_true rfl) d_LM_layOut_21 (fun H locs hP hS => ?_)
          obtain ⟨v15, e16⟩ : ∃ z, z = i1_6 + 1 := ⟨_, rfl⟩
          replace h := xw_letI e16 h
          refine xw_iinc (lv' := [(1, .int (xw_i v15)), (0, .ref (ad 10))]) hx hb d_LM_layOut_24 hl (k := 1) rfl (by decide) (by rw [e16]; rfl) (fun ls hl => ?_)
          refine lv_goto (tgt := 6) hx hb d_LM_layOut_27 (by decide) ?_
          exact ih6 s12 v15 h _ _ _ hP hS (lv_sub hl [1, 0] rfl)
  unfold f_LM_layOut at h
  refine lv_aload_n hx hb d_LM_layOut_0 rfl (lv_at hl 0 rfl) ?_
  obtain ⟨s1, hc2, h⟩ := xw_bndI h
  refine xw_callVv (C := "AdviceWeaver$Loom") (T := T_LM) ⟨hx, hb, hml, hown, hts⟩ (c_LM_countPlaces l D A ad cs Z tt fu s0 s1 hc2) (cwV 0 hts (gd_V hw_237 hw_238 hw_239 hw_203 hw_240) rfl rfl rfl (by decide +kernel) ⟨Nat.le_of_ble_eq_true rfl, Nat.le_of_ble_eq_true rfl⟩) hP hK hD hX hS (by decide) kc_Loom (by decide) rfl rfl hl.1 rfl (Nat.le_of_ble_eq_true rfl) d_LM_layOut_1 (fun H locs hP hS => ?_)
  refine lv_iconst (v := xw_i 0) hx hb d_LM_layOut_4 rfl ?_
  refine lv_istore_n hx hb d_LM_layOut_5 rfl hl (by decide) rfl (fun ls hl => ?_)
  refine xw_jnI (fun j => ∀ (sq : xw_S), j sq = some sZ → ∀ (H : Heap) (locs : List Loc) (ls : Array Slot), va_P D vwCl (xw_ws kdC 100 ad cs Z sq) H → va_S A s.heap H locs → lv_has ls 2 [] → W p l e (headSpec w_LM_layOut ({ frames := 3, cells := 0, slots := 0, locals := 64 })).room s m [.ref (ad 10)].toArray below meth c H locs 0 0 (MQ below (va_Qv (fun u => u = sZ) (xw_H D vwCl A kdC 100 ad cs Z tt) A) [.ref (ad 10)].toArray s 0 0 A) (F0 m 30 ls [])) h ?_ ?_
  · intro s17 h H locs ls hP hS hl
    exact xw_vretE hx hb hr hlk hP hK hD hX hS h d_LM_layOut_30
  · intro k30 hk30 h
    exact hlp6 k30 hk30 fu s1 0 h _ _ _ hP hS (lv_sub hl [1, 0] rfl)
def f_LM_writeWay (fu : Nat) (s0 : xw_S) (b1 : Nat) (p2 : Int) : Option xw_S :=
 xw_grd ((0 ≤ p2 ∧ p2 < ((244 : Nat) : Int))) (xw_let (s0.1 14 (p2).toNat) (fun v2 => xw_bn2 (f_LM_newWay fu s0 p2) (fun s4 r6 => xw_grd ((0 ≤ p2 ∧ p2 < ((243 : Nat) : Int))) (xw_bn2 (f_OP_isWideBranch fu s4 (s4.1 11 (p2).toNat)) (fun s8 r10 => xw_grd (xw_r r10) (xw_if (r10 = 0) (xw_grd ((0 ≤ v2 + 1 ∧ v2 + 1 < ((xb_cap b1 : Nat) : Int))) (xw_let (xw_st s8 (49 + 4 * b1) (v2 + 1).toNat (xw_an r6 255)) (fun s14 => some s14)))
 (xw_grd ((0 ≤ v2 + 1 ∧ v2 + 1 < ((xb_cap b1 : Nat) : Int))) (xw_let (xw_st s8 (49 + 4 * b1) (v2 + 1).toNat (xw_an (xw_hr r6 8) 255)) (fun s17 => xw_grd ((0 ≤ v2 + 2 ∧ v2 + 2 < ((xb_cap b1 : Nat) : Int))) (xw_let (xw_st s17 (49 + 4 * b1) (v2 + 2).toNat (xw_an r6 255)) (fun s20 => some s20)))))))))))
set_option maxRecDepth 100000 in
set_option maxHeartbeats 4000000 in
theorem c_LM_writeWay (l : Launch) (D : va_G) (A : Nat → Prop) (ad : Nat → Nat) (cs : Nat → ClassId) (Z : va_W) (tt : Nat → Nat) (fu : Nat) (s0 sZ : xw_S) (b1 : Nat) (hb_b1 : b1 < 13) (p2 : Int) (h : f_LM_writeWay fu s0 b1 p2 = some sZ) : Met l y_LM_writeWay w_LM_writeWay ({ frames := 2, cells := 0, slots := 0, locals := 42 }) (va_Pc [.ref (ad 10), .ref (ad (48 + 4 * b1)), .int (xw_i p2)] (xw_H D vwCl A kdC 100 ad cs Z tt s0)) (va_Qv (fun u => u = sZ) (xw_H D vwCl A kdC 100 ad cs Z tt) A) 0 0 A := by
  refine Met.ofW (cc := b_LM_writeWay) (maxL := 5) (ret := none) (by decide) rfl ?_
  intro p e s m args below meth c s₁ B hml hv
  obtain ⟨rfl, hP, hK, hD, hX⟩ := hv
  have hx := B.exec
  have hb := B.bytes
  have hr := B.returns
  have hts0 := atoms_spec (ws := w_LM_writeWay) B.pre
  have hts := fun w (hw : w ∈ wAll) => hts0 w (List.mem_cons_of_mem _ hw)
  have hown : s.vm.findClass "AdviceWeaver$Loom" = some m.cls := findClass_of_methodNamed B.named
  have hlk := B.notSynchronized
  clear hts0 B
  have hS : va_S A s.heap s.heap [] := va_S.rf
  have hl := lv_entry [.ref (ad 10), .ref (ad (48 + 4 * b1)), .int (xw_i p2)] (n := 5) (Nat.le_of_ble_eq_true rfl)
  rw [lg_entry_eq]
  generalize (lg_sl [.ref (ad 10), .ref (ad (48 + 4 * b1)), .int (xw_i p2)] ++ List.replicate (5 - (lg_sl [.ref (ad 10), .ref (ad (48 + 4 * b1)), .int (xw_i p2)]).length) Slot.unset).toArray = ls at hl ⊢
  have hl : lv_has ls 5 [(0, .ref (ad 10)), (1, .ref (ad (48 + 4 * b1))), (2, .int (xw_i p2))] := hl
  unfold f_LM_writeWay at h
  refine lv_aload_n hx hb d_LM_writeWay_0 rfl (lv_at hl 0 rfl) ?_
  refine xw_getR (C := "AdviceWeaver$Loom") (T := T_LM) hx hb hts hin_LM hown hK hP (by decide) kc_Loom (by decide) rfl 4 (by decide) (hts _ hw_226) (fun _ h9 => h9) rfl d_LM_writeWay_1 ?_
  refine lv_iload_n hx hb d_LM_writeWay_4 rfl (lv_at hl 2 rfl) ?_
  obtain ⟨hg1, h⟩ := xw_grdI h
  refine xw_iald hx hb hK hP (by decide) kc_places (by decide) hg1 d_LM_writeWay_5 ?_
  refine xw_topi (fun v2 e3 => ?_)
  replace h := xw_letI e3 h
  refine lv_istore_n hx hb d_LM_writeWay_6 rfl hl (by decide) rfl (fun ls hl => ?_)
  refine lv_aload_n hx hb d_LM_writeWay_7 rfl (lv_at hl 1 rfl) ?_
  refine lv_iload_n hx hb d_LM_writeWay_8 rfl (lv_at hl 3 rfl) ?_
  obtain ⟨s4, r6, hc5, h⟩ := xw_bn2I h
  refine xw_callVi (C := "AdviceWeaver$Loom") (T := T_LM) ⟨hx, hb, hml, hown, hts⟩ (c_LM_newWay l D A ad cs Z tt fu s0 s4 p2 r6 hc5) (cwV 1 hts (gd_V hw_232 hw_233 hw_234 hw_203 hw_235) rfl rfl rfl (by decide +kernel) ⟨Nat.le_of_ble_eq_true rfl, Nat.le_of_ble_eq_true rfl⟩) hP hK hD hX hS (by decide) kc_Loom (by decide) rfl rfl hl.1 rfl (Nat.le_of_ble_eq_true rfl) d_LM_writeWay_9 (fun H locs hP hS => ?_)
  refine lv_istore hx hb d_LM_writeWay_12 hl (by decide) rfl (fun ls hl => ?_)
  refine lv_aload_n hx hb d_LM_writeWay_14 rfl (lv_at hl 2 rfl) ?_
  refine xw_getR (C := "AdviceWeaver$Loom") (T := T_LM) hx hb hts hin_LM hown hK hP (by decide) kc_Loom (by decide) rfl 1 (by decide) (hts _ hw_210) (fun _ h9 => h9) rfl d_LM_writeWay_15 ?_
  refine lv_iload_n hx hb d_LM_writeWay_18 rfl (lv_at hl 4 rfl) ?_
  obtain ⟨hg7, h⟩ := xw_grdI h
  refine xw_iald hx hb hK hP (by decide) kc_ops (by decide) hg7 d_LM_writeWay_19 ?_
  obtain ⟨s8, r10, hc9, h⟩ := xw_bn2I h
  refine xw_callSi ⟨hx, hb, hml, hown, hts⟩ (c_OP_isWideBranch l D A ad cs Z tt fu s4 s8 (s4.1 11 (p2).toNat) r10 hc9) (va_cwS 1 hts (gd_S hw_245 hw_54 hw_48 hw_55) rfl rfl rfl (by decide +kernel) ⟨Nat.le_of_ble_eq_true rfl, Nat.le_of_ble_eq_true rfl⟩) hP hK hD hX hS rfl hl.1 rfl (Nat.le_of_ble_eq_true rfl) d_LM_writeWay_20 (fun H locs hP hS => ?_)
  obtain ⟨hg11, h⟩ := xw_grdI h
  refine xw_if_eq (tgt := 60) hx hb hg11 d_LM_writeWay_23 (by decide) (fun hc12 => ?_) (fun hc12 => ?_)
  · replace h := xw_ifT hc12 h
    refine lv_aload_n hx hb d_LM_writeWay_60 rfl (lv_at hl 3 rfl) ?_
    refine xw_getR (C := "AdviceWeaver$Body") (T := T_B) hx hb hts hin_B hown hK hP (by omega) (kc_Body b1 (by omega)) (by decide) rfl 0 (by decide) (hts _ hw_246) (fun _ h9 => h9) rfl d_LM_writeWay_61 ?_
    refine lv_iload_n hx hb d_LM_writeWay_64 rfl (lv_at hl 1 rfl) ?_
    refine lv_iconst (v := xw_i 1) hx hb d_LM_writeWay_65 rfl ?_
    refine xw_iadd hx hb d_LM_writeWay_66 ?_
    refine lv_iload hx hb d_LM_writeWay_67 (lv_at hl 0 rfl) ?_
    refine lv_sipush (v := xw_i 255) hx hb d_LM_writeWay_69 (by decide) ?_
    refine xw_iand hx hb d_LM_writeWay_72 ?_
    obtain ⟨hg13, h⟩ := xw_grdI h
    refine xw_iast hx hb hK hP hD hS (by omega) (kc_bcode b1 (by omega)) (xb_capL _) hg13 d_LM_writeWay_73 (fun s14 e15 H locs hP hS => ?_)
    replace h := xw_letI e15 h
    exact xw_vretE hx hb hr hlk hP hK hD hX hS h d_LM_writeWay_74
  · replace h := xw_ifF hc12 h
    refine lv_aload_n hx hb d_LM_writeWay_26 rfl (lv_at hl 3 rfl) ?_
    refine xw_getR (C := "AdviceWeaver$Body") (T := T_B) hx hb hts hin_B hown hK hP (by omega) (kc_Body b1 (by omega)) (by decide) rfl 0 (by decide) (hts _ hw_246) (fun _ h9 => h9) rfl d_LM_writeWay_27 ?_
    refine lv_iload_n hx hb d_LM_writeWay_30 rfl (lv_at hl 1 rfl) ?_
    refine lv_iconst (v := xw_i 1) hx hb d_LM_writeWay_31 rfl ?_
    refine xw_iadd hx hb d_LM_writeWay_32 ?_
    refine lv_iload hx hb d_LM_writeWay_33 (lv_at hl 0 rfl) ?_
    refine lv_bipush (v := xw_i 8) hx hb d_LM_writeWay_35 (by decide) ?_
    refine xw_ishr hx hb d_LM_writeWay_37 ?_
    refine lv_sipush (v := xw_i 255) hx hb d_LM_writeWay_38 (by decide) ?_
    refine xw_iand hx hb d_LM_writeWay_41 ?_
    obtain ⟨hg16, h⟩ := xw_grdI h
    refine xw_iast hx hb hK hP hD hS (by omega) (kc_bcode b1 (by omega)) (xb_capL _) hg16 d_LM_writeWay_42 (fun s17 e18 H locs hP hS => ?_)
    replace h := xw_letI e18 h
    refine lv_aload_n hx hb d_LM_writeWay_43 rfl (lv_at hl 3 rfl) ?_
    refine xw_getR (C := "AdviceWeaver$Body") (T := T_B) hx hb hts hin_B hown hK hP (by omega) (kc_Body b1 (by omega)) (by decide) rfl 0 (by decide) (hts _ hw_246) (fun _ h9 => h9) rfl d_LM_writeWay_44 ?_
    refine lv_iload_n hx hb d_LM_writeWay_47 rfl (lv_at hl 1 rfl) ?_
    refine lv_iconst (v := xw_i 2) hx hb d_LM_writeWay_48 rfl ?_
    refine xw_iadd hx hb d_LM_writeWay_49 ?_
    refine lv_iload hx hb d_LM_writeWay_50 (lv_at hl 0 rfl) ?_
    refine lv_sipush (v := xw_i 255) hx hb d_LM_writeWay_52 (by decide) ?_
    refine xw_iand hx hb d_LM_writeWay_55 ?_
    obtain ⟨hg19, h⟩ := xw_grdI h
    refine xw_iast hx hb hK hP hD hS (by omega) (kc_bcode b1 (by omega)) (xb_capL _) hg19 d_LM_writeWay_56 (fun s20 e21 H locs hP hS => ?_)
    replace h := xw_letI e21 h
    refine lv_goto (tgt := 74) hx hb d_LM_writeWay_57 (by decide) ?_
    exact xw_vretE hx hb hr hlk hP hK hD hX hS h d_LM_writeWay_74
def f_LM_writeNumber (fu : Nat) (s0 : xw_S) (b1 : Nat) (p2 : Int) : Option xw_S :=
 xw_grd ((0 ≤ p2 ∧ p2 < ((243 : Nat) : Int))) (xw_bn2 (f_OP_size fu s0 (s0.1 11 (p2).toNat)) (fun s2 r4 => xw_grd (xw_r r4) (xw_if (r4 = 2) (xw_grd ((0 ≤ p2 ∧ p2 < ((244 : Nat) : Int))) (xw_grd ((0 ≤ (s2.1 14 (p2).toNat) + 1 ∧ (s2.1 14 (p2).toNat) + 1 < ((xb_cap b1 : Nat) : Int))) (xw_let (xw_st s2 (49 + 4 * b1) ((s2.1 14 (p2).toNat) + 1).toNat (s2.1 12 (p2).toNat)) (fun s9 => some s9))))
 (some s2))))
set_option maxRecDepth 100000 in
set_option maxHeartbeats 4000000 in
theorem c_LM_writeNumber (l : Launch) (D : va_G) (A : Nat → Prop) (ad : Nat → Nat) (cs : Nat → ClassId) (Z : va_W) (tt : Nat → Nat) (fu : Nat) (s0 sZ : xw_S) (b1 : Nat) (hb_b1 : b1 < 13) (p2 : Int) (h : f_LM_writeNumber fu s0 b1 p2 = some sZ) : Met l y_LM_writeNumber w_LM_writeNumber ({ frames := 1, cells := 0, slots := 0, locals := 20 }) (va_Pc [.ref (ad 10), .ref (ad (48 + 4 * b1)), .int (xw_i p2)] (xw_H D vwCl A kdC 100 ad cs Z tt s0)) (va_Qv (fun u => u = sZ) (xw_H D vwCl A kdC 100 ad cs Z tt) A) 0 0 A := by
  refine Met.ofW (cc := b_LM_writeNumber) (maxL := 3) (ret := none) (by decide) rfl ?_
  intro p e s m args below meth c s₁ B hml hv
  obtain ⟨rfl, hP, hK, hD, hX⟩ := hv
  have hx := B.exec
  have hb := B.bytes
  have hr := B.returns
  have hts0 := atoms_spec (ws := w_LM_writeNumber) B.pre
  have hts := fun w (hw : w ∈ wAll) => hts0 w (List.mem_cons_of_mem _ hw)
  have hown : s.vm.findClass "AdviceWeaver$Loom" = some m.cls := findClass_of_methodNamed B.named
  have hlk := B.notSynchronized
  clear hts0 B
  have hS : va_S A s.heap s.heap [] := va_S.rf
  have hl := lv_entry [.ref (ad 10), .ref (ad (48 + 4 * b1)), .int (xw_i p2)] (n := 3) (Nat.le_of_ble_eq_true rfl)
  rw [lg_entry_eq]
  generalize (lg_sl [.ref (ad 10), .ref (ad (48 + 4 * b1)), .int (xw_i p2)] ++ List.replicate (3 - (lg_sl [.ref (ad 10), .ref (ad (48 + 4 * b1)), .int (xw_i p2)]).length) Slot.unset).toArray = ls at hl ⊢
  have hl : lv_has ls 3 [(0, .ref (ad 10)), (1, .ref (ad (48 + 4 * b1))), (2, .int (xw_i p2))] := hl
  unfold f_LM_writeNumber at h
  refine lv_aload_n hx hb d_LM_writeNumber_0 rfl (lv_at hl 0 rfl) ?_
  refine xw_getR (C := "AdviceWeaver$Loom") (T := T_LM) hx hb hts hin_LM hown hK hP (by decide) kc_Loom (by decide) rfl 1 (by decide) (hts _ hw_210) (fun _ h9 => h9) rfl d_LM_writeNumber_1 ?_
  refine lv_iload_n hx hb d_LM_writeNumber_4 rfl (lv_at hl 2 rfl) ?_
  obtain ⟨hg1, h⟩ := xw_grdI h
  refine xw_iald hx hb hK hP (by decide) kc_ops (by decide) hg1 d_LM_writeNumber_5 ?_
  obtain ⟨s2, r4, hc3, h⟩ := xw_bn2I h
  refine xw_callSi ⟨hx, hb, hml, hown, hts⟩ (c_OP_size l D A ad cs Z tt fu s0 s2 (s0.1 11 (p2).toNat) r4 hc3) (va_cwS 1 hts (gd_S hw_206 hw_47 hw_48 hw_49) rfl rfl rfl (by decide +kernel) ⟨Nat.le_of_ble_eq_true rfl, Nat.le_of_ble_eq_true rfl⟩) hP hK hD hX hS rfl hl.1 rfl (Nat.le_of_ble_eq_true rfl) d_LM_writeNumber_6 (fun H locs hP hS => ?_)
  refine lv_iconst (v := xw_i 2) hx hb d_LM_writeNumber_9 rfl ?_
  obtain ⟨hg5, h⟩ := xw_grdI h
  refine xw_icmp_ne (tgt := 32) hx hb hg5 (by decide) d_LM_writeNumber_10 (by decide) (fun hc6 => ?_) (fun hc6 => ?_)
  · replace h := xw_ifF hc6 h
    exact xw_vretE hx hb hr hlk hP hK hD hX hS h d_LM_writeNumber_32
  · replace h := xw_ifT hc6 h
    refine lv_aload_n hx hb d_LM_writeNumber_13 rfl (lv_at hl 1 rfl) ?_
    refine xw_getR (C := "AdviceWeaver$Body") (T := T_B) hx hb hts hin_B hown hK hP (by omega) (kc_Body b1 (by omega)) (by decide) rfl 0 (by decide) (hts _ hw_246) (fun _ h9 => h9) rfl d_LM_writeNumber_14 ?_
    refine lv_aload_n hx hb d_LM_writeNumber_17 rfl (lv_at hl 0 rfl) ?_
    refine xw_getR (C := "AdviceWeaver$Loom") (T := T_LM) hx hb hts hin_LM hown hK hP (by decide) kc_Loom (by decide) rfl 4 (by decide) (hts _ hw_226) (fun _ h9 => h9) rfl d_LM_writeNumber_18 ?_
    refine lv_iload_n hx hb d_LM_writeNumber_21 rfl (lv_at hl 2 rfl) ?_
    obtain ⟨hg7, h⟩ := xw_grdI h
    refine xw_iald hx hb hK hP (by decide) kc_places (by decide) hg7 d_LM_writeNumber_22 ?_
    refine lv_iconst (v := xw_i 1) hx hb d_LM_writeNumber_23 rfl ?_
    refine xw_iadd hx hb d_LM_writeNumber_24 ?_
    refine lv_aload_n hx hb d_LM_writeNumber_25 rfl (lv_at hl 0 rfl) ?_
    refine xw_getR (C := "AdviceWeaver$Loom") (T := T_LM) hx hb hts hin_LM hown hK hP (by decide) kc_Loom (by decide) rfl 2 (by decide) (hts _ hw_211) (fun _ h9 => h9) rfl d_LM_writeNumber_26 ?_
    refine lv_iload_n hx hb d_LM_writeNumber_29 rfl (lv_at hl 2 rfl) ?_
    refine xw_iald hx hb hK hP (by decide) kc_numbers (by decide) hg1 d_LM_writeNumber_30 ?_
    obtain ⟨hg8, h⟩ := xw_grdI h
    refine xw_iast hx hb hK hP hD hS (by omega) (kc_bcode b1 (by omega)) (xb_capL _) hg8 d_LM_writeNumber_31 (fun s9 e10 H locs hP hS => ?_)
    replace h := xw_letI e10 h
    exact xw_vretE hx hb hr hlk hP hK hD hX hS h d_LM_writeNumber_32
def lp_LM_copyNumbers_2 (fu : Nat) (b1 : Nat) (c2_2 : Int) (k49 : xw_S → Option xw_S) : Nat → xw_S → Int → Option xw_S
  | 0, _, _ => none
  | n + 1, s1, i3_2 =>
    xw_grd ((0 ≤ c2_2 ∧ c2_2 < ((243 : Nat) : Int))) (xw_bn2 (f_OP_size fu s1 (s1.1 11 (c2_2).toNat)) (fun s3 r5 => xw_grd (xw_r i3_2 ∧ xw_r r5) (xw_if (r5 ≤ i3_2) (k49 s3)
     (xw_grd ((0 ≤ c2_2 ∧ c2_2 < ((244 : Nat) : Int))) (xw_bn2 (f_B_byteAt fu s3 12 ((s3.1 13 (c2_2).toNat) + i3_2)) (fun s9 r11 => xw_grd ((0 ≤ (s3.1 14 (c2_2).toNat) + i3_2 ∧ (s3.1 14 (c2_2).toNat) + i3_2 < ((xb_cap b1 : Nat) : Int))) (xw_let (xw_st s9 (49 + 4 * b1) ((s3.1 14 (c2_2).toNat) + i3_2).toNat r11) (fun s13 => xw_let (i3_2 + 1) (fun v15 => lp_LM_copyNumbers_2 fu b1 c2_2 k49 n s13 v15)))))))))
def f_LM_copyNumbers (fu : Nat) (s0 : xw_S) (b1 : Nat) (p2 : Int) : Option xw_S :=
 xw_jn (fun (s17 : xw_S) => some s17)
 (fun (k49 : xw_S → Option xw_S) => lp_LM_copyNumbers_2 fu b1 p2 k49 fu s0 1)
set_option maxRecDepth 100000 in
set_option maxHeartbeats 4000000 in
theorem c_LM_copyNumbers (l : Launch) (D : va_G) (A : Nat → Prop) (ad : Nat → Nat) (cs : Nat → ClassId) (Z : va_W) (tt : Nat → Nat) (fu : Nat) (s0 sZ : xw_S) (b1 : Nat) (hb_b1 : b1 < 13) (p2 : Int) (h : f_LM_copyNumbers fu s0 b1 p2 = some sZ) : Met l y_LM_copyNumbers w_LM_copyNumbers ({ frames := 1, cells := 0, slots := 0, locals := 21 }) (va_Pc [.ref (ad 10), .ref (ad (48 + 4 * b1)), .int (xw_i p2)] (xw_H D vwCl A kdC 100 ad cs Z tt s0)) (va_Qv (fun u => u = sZ) (xw_H D vwCl A kdC 100 ad cs Z tt) A) 0 0 A := by
  refine Met.ofW (cc := b_LM_copyNumbers) (maxL := 4) (ret := none) (by decide) rfl ?_
  intro p e s m args below meth c s₁ B hml hv
  obtain ⟨rfl, hP, hK, hD, hX⟩ := hv
  have hx := B.exec
  have hb := B.bytes
  have hr := B.returns
  have hts0 := atoms_spec (ws := w_LM_copyNumbers) B.pre
  have hts := fun w (hw : w ∈ wAll) => hts0 w (List.mem_cons_of_mem _ hw)
  have hown : s.vm.findClass "AdviceWeaver$Loom" = some m.cls := findClass_of_methodNamed B.named
  have hlk := B.notSynchronized
  clear hts0 B
  have hS : va_S A s.heap s.heap [] := va_S.rf
  have hl := lv_entry [.ref (ad 10), .ref (ad (48 + 4 * b1)), .int (xw_i p2)] (n := 4) (Nat.le_of_ble_eq_true rfl)
  rw [lg_entry_eq]
  generalize (lg_sl [.ref (ad 10), .ref (ad (48 + 4 * b1)), .int (xw_i p2)] ++ List.replicate (4 - (lg_sl [.ref (ad 10), .ref (ad (48 + 4 * b1)), .int (xw_i p2)]).length) Slot.unset).toArray = ls at hl ⊢
  have hl : lv_has ls 4 [(0, .ref (ad 10)), (1, .ref (ad (48 + 4 * b1))), (2, .int (xw_i p2))] := hl
  have hlp2 : ∀ (c2_2 : Int) (k49 : xw_S → Option xw_S) (hk49 : ∀ (sq : xw_S), k49 sq = some sZ → ∀ (H : Heap) (locs : List Loc) (ls : Array Slot), va_P D vwCl (xw_ws kdC 100 ad cs Z sq) H → va_S A s.heap H locs → lv_has ls 4 [] → W p l e (headSpec w_LM_copyNumbers ({ frames := 1, cells := 0, slots := 0, locals := 21 })).room s m [.ref (ad 10), .ref (ad (48 + 4 * b1)), .int (xw_i p2)].toArray below meth c H locs 0 0 (MQ below (va_Qv (fun u => u = sZ) (xw_H D vwCl A kdC 100 ad cs Z tt) A) [.ref (ad 10), .ref (ad (48 + 4 * b1)), .int (xw_i p2)].toArray s 0 0 A) (F0 m 49 ls [])) (n : Nat), ∀ (sq : xw_S) (i3_2 : Int), lp_LM_copyNumbers_2 fu b1 c2_2 k49 n sq i3_2 = some sZ → ∀ (H : Heap) (locs : List Loc) (ls : Array Slot), va_P D vwCl (xw_ws kdC 100 ad cs Z sq) H → va_S A s.heap H locs → lv_has ls 4 [(0, .ref (ad 10)), (1, .ref (ad (48 + 4 * b1))), (2, .int (xw_i c2_2)), (3, .int (xw_i i3_2))] → W p l e (headSpec w_LM_copyNumbers ({ frames := 1, cells := 0, slots := 0, locals := 21 })).room s m [.ref (ad 10), .ref (ad (48 + 4 * b1)), .int (xw_i p2)].toArray below meth c H locs 0 0 (MQ below (va_Qv (fun u => u = sZ) (xw_H D vwCl A kdC 100 ad cs Z tt) A) [.ref (ad 10), .ref (ad (48 + 4 * b1)), .int (xw_i p2)].toArray s 0 0 A) (F0 m 2 ls []) := by
    intro c2_2 k49 hk49 n
    induction n with
    | zero =>
      intro sq i3_2 h
      cases (show (none : Option xw_S) = some sZ from h)
    | succ n ih2 =>
      intro s1 i3_2 h H locs ls hP hS hl
      unfold lp_LM_copyNumbers_2 at h
      refine lv_iload_n hx hb d_LM_copyNumbers_2 rfl (lv_at hl 3 rfl) ?_
      refine lv_aload_n hx hb d_LM_copyNumbers_3 rfl (lv_at hl 0 rfl) ?_
      refine xw_getR (C := "AdviceWeaver$Loom") (T := T_LM) hx hb hts hin_LM hown hK hP (by decide) kc_Loom (by decide) rfl 1 (by decide) (hts _ hw_210) (fun _ h9 => h9) rfl d_LM_copyNumbers_4 ?_
      refine lv_iload_n hx hb d_LM_copyNumbers_7 rfl (lv_at hl 2 rfl) ?_
      obtain ⟨hg2, h⟩ := xw_grdI h
      refine xw_iald hx hb hK hP (by decide) kc_ops (by decide) hg2 d_LM_copyNumbers_8 ?_
      obtain ⟨s3, r5, hc4, h⟩ := xw_bn2I h
      refine xw_callSi ⟨hx, hb, hml, hown, hts⟩ (c_OP_size l D A ad cs Z tt fu s1 s3 (s1.1 11 (c2_2).toNat) r5 hc4) (va_cwS 1 hts (gd_S hw_206 hw_47 hw_48 hw_49) rfl rfl rfl (by decide +kernel) ⟨Nat.le_of_ble_eq_true rfl, Nat.le_of_ble_eq_true rfl⟩) hP hK hD hX hS rfl hl.1 rfl (Nat.le_of_ble_eq_true rfl) d_LM_copyNumbers_9 (fun H locs hP hS => ?_)
      obtain ⟨hg6, h⟩ := xw_grdI h
      refine xw_icmp_ge (tgt := 49) hx hb hg6.1 hg6.2 d_LM_copyNumbers_12 (by decide) (fun hc7 => ?_) (fun hc7 => ?_)
      · replace h := xw_ifT hc7 h
        exact hk49 s3 h _ _ _ hP hS (lv_sub hl [] rfl)
      · replace h := xw_ifF hc7 h
        refine lv_aload_n hx hb d_LM_copyNumbers_15 rfl (lv_at hl 1 rfl) ?_
        refine xw_getR (C := "AdviceWeaver$Body") (T := T_B) hx hb hts hin_B hown hK hP (by omega) (kc_Body b1 (by omega)) (by decide) rfl 0 (by decide) (hts _ hw_246) (fun _ h9 => h9) rfl d_LM_copyNumbers_16 ?_
        refine lv_aload_n hx hb d_LM_copyNumbers_19 rfl (lv_at hl 0 rfl) ?_
        refine xw_getR (C := "AdviceWeaver$Loom") (T := T_LM) hx hb hts hin_LM hown hK hP (by decide) kc_Loom (by decide) rfl 4 (by decide) (hts _ hw_226) (fun _ h9 => h9) rfl d_LM_copyNumbers_20 ?_
        refine lv_iload_n hx hb d_LM_copyNumbers_23 rfl (lv_at hl 2 rfl) ?_
        obtain ⟨hg8, h⟩ := xw_grdI h
        refine xw_iald hx hb hK hP (by decide) kc_places (by decide) hg8 d_LM_copyNumbers_24 ?_
        refine lv_iload_n hx hb d_LM_copyNumbers_25 rfl (lv_at hl 3 rfl) ?_
        refine xw_iadd hx hb d_LM_copyNumbers_26 ?_
        refine lv_aload_n hx hb d_LM_copyNumbers_27 rfl (lv_at hl 0 rfl) ?_
        refine xw_getR (C := "AdviceWeaver$Loom") (T := T_LM) hx hb hts hin_LM hown hK hP (by decide) kc_Loom (by decide) rfl 0 (by decide) (hts _ hw_194) (fun _ h9 => h9) rfl d_LM_copyNumbers_28 ?_
        refine lv_aload_n hx hb d_LM_copyNumbers_31 rfl (lv_at hl 0 rfl) ?_
        refine xw_getR (C := "AdviceWeaver$Loom") (T := T_LM) hx hb hts hin_LM hown hK hP (by decide) kc_Loom (by decide) rfl 3 (by decide) (hts _ hw_212) (fun _ h9 => h9) rfl d_LM_copyNumbers_32 ?_
        refine lv_iload_n hx hb d_LM_copyNumbers_35 rfl (lv_at hl 2 rfl) ?_
        refine xw_iald hx hb hK hP (by decide) kc_sources (by decide) hg2 d_LM_copyNumbers_36 ?_
        refine lv_iload_n hx hb d_LM_copyNumbers_37 rfl (lv_at hl 3 rfl) ?_
        refine xw_iadd hx hb d_LM_copyNumbers_38 ?_
        obtain ⟨s9, r11, hc10, h⟩ := xw_bn2I h
        refine xw_callVi (C := "AdviceWeaver$Body") (T := T_B) ⟨hx, hb, hml, hown, hts⟩ (c_B_byteAt l D A ad cs Z tt fu s3 s9 12 (by omega) ((s3.1 13 (c2_2).toNat) + i3_2) r11 hc10) (cwV 1 hts (gd_V hw_197 hw_57 hw_58 hw_25 hw_59) rfl rfl rfl (by decide +kernel) ⟨Nat.le_of_ble_eq_true rfl, Nat.le_of_ble_eq_true rfl⟩) hP hK hD hX hS (by omega) (kc_Body 12 (by omega)) (by decide) rfl rfl hl.1 rfl (Nat.le_of_ble_eq_true rfl) d_LM_copyNumbers_39 (fun H locs hP hS => ?_)
        obtain ⟨hg12, h⟩ := xw_grdI h
        refine xw_iast hx hb hK hP hD hS (by omega) (kc_bcode b1 (by omega)) (xb_capL _) hg12 d_LM_copyNumbers_42 (fun s13 e14 H locs hP hS => ?_)
        replace h := xw_letI e14 h
        obtain ⟨v15, e16⟩ : ∃ z, z = i3_2 + 1 := ⟨_, rfl⟩
        replace h := xw_letI e16 h
        refine xw_iinc (lv' := [(3, .int (xw_i v15)), (0, .ref (ad 10)), (1, .ref (ad (48 + 4 * b1))), (2, .int (xw_i c2_2))]) hx hb d_LM_copyNumbers_43 hl (k := 3) rfl (by decide) (by rw [e16]; rfl) (fun ls hl => ?_)
        refine lv_goto (tgt := 2) hx hb d_LM_copyNumbers_46 (by decide) ?_
        exact ih2 s13 v15 h _ _ _ hP hS (lv_sub hl [1, 2, 3, 0] rfl)
  unfold f_LM_copyNumbers at h
  refine lv_iconst (v := xw_i 1) hx hb d_LM_copyNumbers_0 rfl ?_
  refine lv_istore_n hx hb d_LM_copyNumbers_1 rfl hl (by decide) rfl (fun ls hl => ?_)
  refine xw_jnI (fun j => ∀ (sq : xw_S), j sq = some sZ → ∀ (H : Heap) (locs : List Loc) (ls : Array Slot), va_P D vwCl (xw_ws kdC 100 ad cs Z sq) H → va_S A s.heap H locs → lv_has ls 4 [] → W p l e (headSpec w_LM_copyNumbers ({ frames := 1, cells := 0, slots := 0, locals := 21 })).room s m [.ref (ad 10), .ref (ad (48 + 4 * b1)), .int (xw_i p2)].toArray below meth c H locs 0 0 (MQ below (va_Qv (fun u => u = sZ) (xw_H D vwCl A kdC 100 ad cs Z tt) A) [.ref (ad 10), .ref (ad (48 + 4 * b1)), .int (xw_i p2)].toArray s 0 0 A) (F0 m 49 ls [])) h ?_ ?_
  · intro s17 h H locs ls hP hS hl
    exact xw_vretE hx hb hr hlk hP hK hD hX hS h d_LM_copyNumbers_49
  · intro k49 hk49 h
    exact hlp2 p2 k49 hk49 fu s0 1 h _ _ _ hP hS (lv_sub hl [1, 2, 3, 0] rfl)
def lp_LM_writeCode_15 (fu : Nat) (b1 : Nat) (k92 : xw_S → Option xw_S) : Nat → xw_S → Int → Option xw_S
  | 0, _, _ => none
  | n + 1, s4, i2_15 =>
    xw_grd (xw_r i2_15 ∧ xw_r (s4.1 10 7)) (xw_if (s4.1 10 7 ≤ i2_15) (k92 s4)
     (xw_grd ((0 ≤ i2_15 ∧ i2_15 < ((244 : Nat) : Int))) (xw_grd ((0 ≤ i2_15 ∧ i2_15 < ((243 : Nat) : Int))) (xw_grd ((0 ≤ s4.1 14 (i2_15).toNat ∧ s4.1 14 (i2_15).toNat < ((xb_cap b1 : Nat) : Int))) (xw_let (xw_st s4 (49 + 4 * b1) (s4.1 14 (i2_15).toNat).toNat (s4.1 11 (i2_15).toNat)) (fun s10 => xw_bn2 (f_OP_isBranch fu s10 (s10.1 11 (i2_15).toNat)) (fun s12 r14 => xw_jn (fun (s28 : xw_S) (i2_86 : Int) => xw_let (i2_86 + 1) (fun v29 => lp_LM_writeCode_15 fu b1 k92 n s28 v29))
     (fun (j86 : xw_S → Int → Option xw_S) => xw_grd (xw_r r14) (xw_if (r14 = 0) (xw_grd (xw_r (s12.1 13 (i2_15).toNat)) (xw_if (s12.1 13 (i2_15).toNat = -1) (xw_bnd (f_LM_writeNumber fu s12 b1 i2_15) (fun s22 => j86 s22 i2_15))
     (xw_bnd (f_LM_copyNumbers fu s12 b1 i2_15) (fun s19 => j86 s19 i2_15))))
     (xw_bnd (f_LM_writeWay fu s12 b1 i2_15) (fun s25 => j86 s25 i2_15)))))))))))
def f_LM_writeCode (fu : Nat) (s0 : xw_S) (b1 : Nat) : Option xw_S :=
 xw_grd ((0 ≤ s0.1 10 7 ∧ s0.1 10 7 < ((244 : Nat) : Int))) (xw_let (xw_st s0 (48 + 4 * b1) 8 (s0.1 14 (s0.1 10 7).toNat)) (fun s2 => xw_jn (fun (s31 : xw_S) => some s31)
 (fun (k92 : xw_S → Option xw_S) => lp_LM_writeCode_15 fu b1 k92 fu s2 0)))
set_option maxRecDepth 100000 in
set_option maxHeartbeats 4000000 in
theorem c_LM_writeCode (l : Launch) (D : va_G) (A : Nat → Prop) (ad : Nat → Nat) (cs : Nat → ClassId) (Z : va_W) (tt : Nat → Nat) (fu : Nat) (s0 sZ : xw_S) (b1 : Nat) (hb_b1 : b1 < 13) (h : f_LM_writeCode fu s0 b1 = some sZ) : Met l y_LM_writeCode w_LM_writeCode ({ frames := 3, cells := 0, slots := 0, locals := 66 }) (va_Pc [.ref (ad 10), .ref (ad (48 + 4 * b1))] (xw_H D vwCl A kdC 100 ad cs Z tt s0)) (va_Qv (fun u => u = sZ) (xw_H D vwCl A kdC 100 ad cs Z tt) A) 0 0 A := by
  refine Met.ofW (cc := b_LM_writeCode) (maxL := 3) (ret := none) (by decide) rfl ?_
  intro p e s m args below meth c s₁ B hml hv
  obtain ⟨rfl, hP, hK, hD, hX⟩ := hv
  have hx := B.exec
  have hb := B.bytes
  have hr := B.returns
  have hts0 := atoms_spec (ws := w_LM_writeCode) B.pre
  have hts := fun w (hw : w ∈ wAll) => hts0 w (List.mem_cons_of_mem _ hw)
  have hown : s.vm.findClass "AdviceWeaver$Loom" = some m.cls := findClass_of_methodNamed B.named
  have hlk := B.notSynchronized
  clear hts0 B
  have hS : va_S A s.heap s.heap [] := va_S.rf
  have hl := lv_entry [.ref (ad 10), .ref (ad (48 + 4 * b1))] (n := 3) (Nat.le_of_ble_eq_true rfl)
  rw [lg_entry_eq]
  generalize (lg_sl [.ref (ad 10), .ref (ad (48 + 4 * b1))] ++ List.replicate (3 - (lg_sl [.ref (ad 10), .ref (ad (48 + 4 * b1))]).length) Slot.unset).toArray = ls at hl ⊢
  have hl : lv_has ls 3 [(0, .ref (ad 10)), (1, .ref (ad (48 + 4 * b1)))] := hl
  have hlp15 : ∀ (k92 : xw_S → Option xw_S) (hk92 : ∀ (sq : xw_S), k92 sq = some sZ → ∀ (H : Heap) (locs : List Loc) (ls : Array Slot), va_P D vwCl (xw_ws kdC 100 ad cs Z sq) H → va_S A s.heap H locs → lv_has ls 3 [] → W p l e (headSpec w_LM_writeCode ({ frames := 3, cells := 0, slots := 0, locals := 66 })).room s m [.ref (ad 10), .ref (ad (48 + 4 * b1))].toArray below meth c H locs 0 0 (MQ below (va_Qv (fun u => u = sZ) (xw_H D vwCl A kdC 100 ad cs Z tt) A) [.ref (ad 10), .ref (ad (48 + 4 * b1))].toArray s 0 0 A) (F0 m 92 ls [])) (n : Nat), ∀ (sq : xw_S) (i2_15 : Int), lp_LM_writeCode_15 fu b1 k92 n sq i2_15 = some sZ → ∀ (H : Heap) (locs : List Loc) (ls : Array Slot), va_P D vwCl (xw_ws kdC 100 ad cs Z sq) H → va_S A s.heap H locs → lv_has ls 3 [(0, .ref (ad 10)), (1, .ref (ad (48 + 4 * b1))), (2, .int (xw_i i2_15))] → W p l e (headSpec w_LM_writeCode ({ frames := 3, cells := 0, slots := 0, locals := 66 })).room s m [.ref (ad 10), .ref (ad (48 + 4 * b1))].toArray below meth c H locs 0 0 (MQ below (va_Qv (fun u => u = sZ) (xw_H D vwCl A kdC 100 ad cs Z tt) A) [.ref (ad 10), .ref (ad (48 + 4 * b1))].toArray s 0 0 A) (F0 m 15 ls []) := by
    intro k92 hk92 n
    induction n with
    | zero =>
      intro sq i2_15 h
      cases (show (none : Option xw_S) = some sZ from h)
    | succ n ih15 =>
      intro s4 i2_15 h H locs ls hP hS hl
      unfold lp_LM_writeCode_15 at h
      refine lv_iload_n hx hb d_LM_writeCode_15 rfl (lv_at hl 2 rfl) ?_
      refine lv_aload_n hx hb d_LM_writeCode_16 rfl (lv_at hl 0 rfl) ?_
      refine xw_getI (C := "AdviceWeaver$Loom") (T := T_LM) hx hb hts hin_LM hown hK hP (by decide) kc_Loom (by decide) rfl 7 (by decide) (hts _ hw_209) (fun _ h9 => h9) rfl d_LM_writeCode_17 ?_
      obtain ⟨hg5, h⟩ := xw_grdI h
      refine xw_icmp_ge (tgt := 92) hx hb hg5.1 hg5.2 d_LM_writeCode_20 (by decide) (fun hc6 => ?_) (fun hc6 => ?_)
      · replace h := xw_ifT hc6 h
        exact hk92 s4 h _ _ _ hP hS (lv_sub hl [] rfl)
      · replace h := xw_ifF hc6 h
        refine lv_aload_n hx hb d_LM_writeCode_23 rfl (lv_at hl 1 rfl) ?_
        refine xw_getR (C := "AdviceWeaver$Body") (T := T_B) hx hb hts hin_B hown hK hP (by omega) (kc_Body b1 (by omega)) (by decide) rfl 0 (by decide) (hts _ hw_246) (fun _ h9 => h9) rfl d_LM_writeCode_24 ?_
        refine lv_aload_n hx hb d_LM_writeCode_27 rfl (lv_at hl 0 rfl) ?_
        refine xw_getR (C := "AdviceWeaver$Loom") (T := T_LM) hx hb hts hin_LM hown hK hP (by decide) kc_Loom (by decide) rfl 4 (by decide) (hts _ hw_226) (fun _ h9 => h9) rfl d_LM_writeCode_28 ?_
        refine lv_iload_n hx hb d_LM_writeCode_31 rfl (lv_at hl 2 rfl) ?_
        obtain ⟨hg7, h⟩ := xw_grdI h
        refine xw_iald hx hb hK hP (by decide) kc_places (by decide) hg7 d_LM_writeCode_32 ?_
        refine lv_aload_n hx hb d_LM_writeCode_33 rfl (lv_at hl 0 rfl) ?_
        refine xw_getR (C := "AdviceWeaver$Loom") (T := T_LM) hx hb hts hin_LM hown hK hP (by decide) kc_Loom (by decide) rfl 1 (by decide) (hts _ hw_210) (fun _ h9 => h9) rfl d_LM_writeCode_34 ?_
        refine lv_iload_n hx hb d_LM_writeCode_37 rfl (lv_at hl 2 rfl) ?_
        obtain ⟨hg8, h⟩ := xw_grdI h
        refine xw_iald hx hb hK hP (by decide) kc_ops (by decide) hg8 d_LM_writeCode_38 ?_
        obtain ⟨hg9, h⟩ := xw_grdI h
        refine xw_iast hx hb hK hP hD hS (by omega) (kc_bcode b1 (by omega)) (xb_capL _) hg9 d_LM_writeCode_39 (fun s10 e11 H locs hP hS => ?_)
        replace h := xw_letI e11 h
        refine lv_aload_n hx hb d_LM_writeCode_40 rfl (lv_at hl 0 rfl) ?_
        refine xw_getR (C := "AdviceWeaver$Loom") (T := T_LM) hx hb hts hin_LM hown hK hP (by decide) kc_Loom (by decide) rfl 1 (by decide) (hts _ hw_210) (fun _ h9 => h9) rfl d_LM_writeCode_41 ?_
        refine lv_iload_n hx hb d_LM_writeCode_44 rfl (lv_at hl 2 rfl) ?_
        refine xw_iald hx hb hK hP (by decide) kc_ops (by decide) hg8 d_LM_writeCode_45 ?_
        obtain ⟨s12, r14, hc13, h⟩ := xw_bn2I h
        refine xw_callSi ⟨hx, hb, hml, hown, hts⟩ (c_OP_isBranch l D A ad cs Z tt fu s10 s12 (s10.1 11 (i2_15).toNat) r14 hc13) (va_cwS 1 hts (gd_S hw_198 hw_65 hw_48 hw_66) rfl rfl rfl (by decide +kernel) ⟨Nat.le_of_ble_eq_true rfl, Nat.le_of_ble_eq_true rfl⟩) hP hK hD hX hS rfl hl.1 rfl (Nat.le_of_ble_eq_true rfl) d_LM_writeCode_46 (fun H locs hP hS => ?_)
        refine xw_jnI (fun j => ∀ (sq : xw_S) (i2_86 : Int), j sq i2_86 = some sZ → ∀ (H : Heap) (locs : List Loc) (ls : Array Slot), va_P D vwCl (xw_ws kdC 100 ad cs Z sq) H → va_S A s.heap H locs → lv_has ls 3 [(0, .ref (ad 10)), (1, .ref (ad (48 + 4 * b1))), (2, .int (xw_i i2_86))] → W p l e (headSpec w_LM_writeCode ({ frames := 3, cells := 0, slots := 0, locals := 66 })).room s m [.ref (ad 10), .ref (ad (48 + 4 * b1))].toArray below meth c H locs 0 0 (MQ below (va_Qv (fun u => u = sZ) (xw_H D vwCl A kdC 100 ad cs Z tt) A) [.ref (ad 10), .ref (ad (48 + 4 * b1))].toArray s 0 0 A) (F0 m 86 ls [])) h ?_ ?_
        · intro s28 i2_86 h H locs ls hP hS hl
          obtain ⟨v29, e30⟩ : ∃ z, z = i2_86 + 1 := ⟨_, rfl⟩
          replace h := xw_letI e30 h
          refine xw_iinc (lv' := [(2, .int (xw_i v29)), (0, .ref (ad 10)), (1, .ref (ad (48 + 4 * b1)))]) hx hb d_LM_writeCode_86 hl (k := 2) rfl (by decide) (by rw [e30]; rfl) (fun ls hl => ?_)
          refine lv_goto (tgt := 15) hx hb d_LM_writeCode_89 (by decide) ?_
          exact ih15 s28 v29 h _ _ _ hP hS (lv_sub hl [1, 2, 0] rfl)
        · intro j86 hj86 h
          obtain ⟨hg15, h⟩ := xw_grdI h
          refine xw_if_eq (tgt := 61) hx hb hg15 d_LM_writeCode_49 (by decide) (fun hc16 => ?_) (fun hc16 => ?_)
          · replace h := xw_ifT hc16 h
            refine lv_aload_n hx hb d_LM_writeCode_61 rfl (lv_at hl 0 rfl) ?_
            refine xw_getR (C := "AdviceWeaver$Loom") (T := T_LM) hx hb hts hin_LM hown hK hP (by decide) kc_Loom (by decide) rfl 3 (by decide) (hts _ hw_212) (fun _ h9 => h9) rfl d_LM_writeCode_62 ?_
            refine lv_iload_n hx hb d_LM_writeCode_65 rfl (lv_at hl 2 rfl) ?_
            refine xw_iald hx hb hK hP (by decide) kc_sources (by decide) hg8 d_LM_writeCode_66 ?_
            refine lv_iconst (v := xw_i (-1)) hx hb d_LM_writeCode_67 rfl ?_
            obtain ⟨hg17, h⟩ := xw_grdI h
            refine xw_icmp_ne (tgt := 80) hx hb hg17 (by decide) d_LM_writeCode_68 (by decide) (fun hc18 => ?_) (fun hc18 => ?_)
            · replace h := xw_ifF hc18 h
              refine lv_aload_n hx hb d_LM_writeCode_80 rfl (lv_at hl 0 rfl) ?_
              refine lv_aload_n hx hb d_LM_writeCode_81 rfl (lv_at hl 1 rfl) ?_
              refine lv_iload_n hx hb d_LM_writeCode_82 rfl (lv_at hl 2 rfl) ?_
              obtain ⟨s19, hc20, h⟩ := xw_bndI h
              refine xw_callVv (C := "AdviceWeaver$Loom") (T := T_LM) ⟨hx, hb, hml, hown, hts⟩ (c_LM_copyNumbers l D A ad cs Z tt fu s12 s19 b1 (by omega) i2_15 hc20) (cwV 2 hts (gd_V hw_247 hw_248 hw_249 hw_203 hw_250) rfl rfl rfl (by decide +kernel) ⟨Nat.le_of_ble_eq_true rfl, Nat.le_of_ble_eq_true rfl⟩) hP hK hD hX hS (by decide) kc_Loom (by decide) rfl rfl hl.1 rfl (Nat.le_of_ble_eq_true rfl) d_LM_writeCode_83 (fun H locs hP hS => ?_)
              exact hj86 s19 i2_15 h _ _ _ hP hS (lv_sub hl [0, 1, 2] rfl)
            · replace h := xw_ifT hc18 h
              refine lv_aload_n hx hb d_LM_writeCode_71 rfl (lv_at hl 0 rfl) ?_
              refine lv_aload_n hx hb d_LM_writeCode_72 rfl (lv_at hl 1 rfl) ?_
              refine lv_iload_n hx hb d_LM_writeCode_73 rfl (lv_at hl 2 rfl) ?_
              obtain ⟨s22, hc23, h⟩ := xw_bndI h
              refine xw_callVv (C := "AdviceWeaver$Loom") (T := T_LM) ⟨hx, hb, hml, hown, hts⟩ (c_LM_writeNumber l D A ad cs Z tt fu s12 s22 b1 (by omega) i2_15 hc23) (cwV 2 hts (gd_V hw_251 hw_252 hw_253 hw_203 hw_254) rfl rfl rfl (by decide +kernel) ⟨Nat.le_of_ble_eq_true rfl, Nat.le_of_ble_eq_true rfl⟩) hP hK hD hX hS (by decide) kc_Loom (by decide) rfl rfl hl.1 rfl (Nat.le_of_ble_eq_true rfl) d_LM_writeCode_74 (fun H locs hP hS => ?_)
              refine lv_goto (tgt := 86) hx hb d_LM_writeCode_77 (by decide) ?_
              exact hj86 s22 i2_15 h _ _ _ hP hS (lv_sub hl [0, 1, 2] rfl)
          · replace h := xw_ifF hc16 h
            refine lv_aload_n hx hb d_LM_writeCode_52 rfl (lv_at hl 0 rfl) ?_
            refine lv_aload_n hx hb d_LM_writeCode_53 rfl (lv_at hl 1 rfl) ?_
            refine lv_iload_n hx hb d_LM_writeCode_54 rfl (lv_at hl 2 rfl) ?_
            obtain ⟨s25, hc26, h⟩ := xw_bndI h
            refine xw_callVv (C := "AdviceWeaver$Loom") (T := T_LM) ⟨hx, hb, hml, hown, hts⟩ (c_LM_writeWay l D A ad cs Z tt fu s12 s25 b1 (by omega) i2_15 hc26) (cwV 2 hts (gd_V hw_255 hw_256 hw_257 hw_203 hw_258) rfl rfl rfl (by decide +kernel) ⟨Nat.le_of_ble_eq_true rfl, Nat.le_of_ble_eq_true rfl⟩) hP hK hD hX hS (by decide) kc_Loom (by decide) rfl rfl hl.1 rfl (Nat.le_of_ble_eq_true rfl) d_LM_writeCode_55 (fun H locs hP hS => ?_)
            refine lv_goto (tgt := 86) hx hb d_LM_writeCode_58 (by decide) ?_
            exact hj86 s25 i2_15 h _ _ _ hP hS (lv_sub hl [0, 1, 2] rfl)
  unfold f_LM_writeCode at h
  refine lv_aload_n hx hb d_LM_writeCode_0 rfl (lv_at hl 1 rfl) ?_
  refine lv_aload_n hx hb d_LM_writeCode_1 rfl (lv_at hl 0 rfl) ?_
  refine xw_getR (C := "AdviceWeaver$Loom") (T := T_LM) hx hb hts hin_LM hown hK hP (by decide) kc_Loom (by decide) rfl 4 (by decide) (hts _ hw_226) (fun _ h9 => h9) rfl d_LM_writeCode_2 ?_
  refine lv_aload_n hx hb d_LM_writeCode_5 rfl (lv_at hl 0 rfl) ?_
  refine xw_getI (C := "AdviceWeaver$Loom") (T := T_LM) hx hb hts hin_LM hown hK hP (by decide) kc_Loom (by decide) rfl 7 (by decide) (hts _ hw_209) (fun _ h9 => h9) rfl d_LM_writeCode_6 ?_
  obtain ⟨hg1, h⟩ := xw_grdI h
  refine xw_iald hx hb hK hP (by decide) kc_places (by decide) hg1 d_LM_writeCode_9 ?_
  refine xw_putI (C := "AdviceWeaver$Body") (T := T_B) hx hb hts hin_B ty_B ty_B_ok nm_B hown hK hP hD hS (by omega) (kc_Body b1 (by omega)) (by decide) rfl 8 (by decide) (hts _ hw_195) (fun _ h9 => h9) rfl (by decide +kernel) rfl d_LM_writeCode_10 (fun s2 e3 H locs hP hS => ?_)
  replace h := xw_letI e3 h
  refine lv_iconst (v := xw_i 0) hx hb d_LM_writeCode_13 rfl ?_
  refine lv_istore_n hx hb d_LM_writeCode_14 rfl hl (by decide) rfl (fun ls hl => ?_)
  refine xw_jnI (fun j => ∀ (sq : xw_S), j sq = some sZ → ∀ (H : Heap) (locs : List Loc) (ls : Array Slot), va_P D vwCl (xw_ws kdC 100 ad cs Z sq) H → va_S A s.heap H locs → lv_has ls 3 [] → W p l e (headSpec w_LM_writeCode ({ frames := 3, cells := 0, slots := 0, locals := 66 })).room s m [.ref (ad 10), .ref (ad (48 + 4 * b1))].toArray below meth c H locs 0 0 (MQ below (va_Qv (fun u => u = sZ) (xw_H D vwCl A kdC 100 ad cs Z tt) A) [.ref (ad 10), .ref (ad (48 + 4 * b1))].toArray s 0 0 A) (F0 m 92 ls [])) h ?_ ?_
  · intro s31 h H locs ls hP hS hl
    exact xw_vretE hx hb hr hlk hP hK hD hX hS h d_LM_writeCode_92
  · intro k92 hk92 h
    exact hlp15 k92 hk92 fu s2 0 h _ _ _ hP hS (lv_sub hl [1, 2, 0] rfl)
def lp_LM_writeHandlers_7 (fu : Nat) (b1 : Nat) (k82 : xw_S → Option xw_S) : Nat → xw_S → Int → Option xw_S
  | 0, _, _ => none
  | n + 1, s3, i2_7 =>
    xw_grd (xw_r i2_7 ∧ xw_r (s3.1 (48 + 4 * 12) 9)) (xw_if (s3.1 (48 + 4 * 12) 9 ≤ i2_7) (k82 s3)
     (xw_bn2 (f_B_part fu s3 12 i2_7 0) (fun s6 r8 => xw_bn2 (f_LM_newPlace fu s6 r8) (fun s9 r11 => xw_bn2 (f_B_part fu s9 12 i2_7 1) (fun s12 r14 => xw_bn2 (f_LM_newPlace fu s12 r14) (fun s15 r17 => xw_bn2 (f_B_part fu s15 12 i2_7 2) (fun s18 r20 => xw_bn2 (f_LM_newPlace fu s18 r20) (fun s21 r23 => xw_bn2 (f_B_part fu s21 12 i2_7 3) (fun s24 r26 => xw_bnd (f_B_addHandler fu s24 b1 r11 r17 r23 r26) (fun s27 => xw_let (i2_7 + 1) (fun v30 => lp_LM_writeHandlers_7 fu b1 k82 n s27 v30)))))))))))
def f_LM_writeHandlers (fu : Nat) (s0 : xw_S) (b1 : Nat) : Option xw_S :=
 xw_let (xw_st s0 (48 + 4 * b1) 9 0) (fun s1 => xw_jn (fun (s32 : xw_S) => some s32)
 (fun (k82 : xw_S → Option xw_S) => lp_LM_writeHandlers_7 fu b1 k82 fu s1 0))
set_option maxRecDepth 100000 in
set_option maxHeartbeats 4000000 in
theorem c_LM_writeHandlers (l : Launch) (D : va_G) (A : Nat → Prop) (ad : Nat → Nat) (cs : Nat → ClassId) (Z : va_W) (tt : Nat → Nat) (fu : Nat) (s0 sZ : xw_S) (b1 : Nat) (hb_b1 : b1 < 13) (h : f_LM_writeHandlers fu s0 b1 = some sZ) : Met l y_LM_writeHandlers w_LM_writeHandlers ({ frames := 1, cells := 0, slots := 0, locals := 25 }) (va_Pc [.ref (ad 10), .ref (ad (48 + 4 * b1))] (xw_H D vwCl A kdC 100 ad cs Z tt s0)) (va_Qv (fun u => u = sZ) (xw_H D vwCl A kdC 100 ad cs Z tt) A) 0 0 A := by
  refine Met.ofW (cc := b_LM_writeHandlers) (maxL := 5) (ret := none) (by decide) rfl ?_
  intro p e s m args below meth c s₁ B hml hv
  obtain ⟨rfl, hP, hK, hD, hX⟩ := hv
  have hx := B.exec
  have hb := B.bytes
  have hr := B.returns
  have hts0 := atoms_spec (ws := w_LM_writeHandlers) B.pre
  have hts := fun w (hw : w ∈ wAll) => hts0 w (List.mem_cons_of_mem _ hw)
  have hown : s.vm.findClass "AdviceWeaver$Loom" = some m.cls := findClass_of_methodNamed B.named
  have hlk := B.notSynchronized
  clear hts0 B
  have hS : va_S A s.heap s.heap [] := va_S.rf
  have hl := lv_entry [.ref (ad 10), .ref (ad (48 + 4 * b1))] (n := 5) (Nat.le_of_ble_eq_true rfl)
  rw [lg_entry_eq]
  generalize (lg_sl [.ref (ad 10), .ref (ad (48 + 4 * b1))] ++ List.replicate (5 - (lg_sl [.ref (ad 10), .ref (ad (48 + 4 * b1))]).length) Slot.unset).toArray = ls at hl ⊢
  have hl : lv_has ls 5 [(0, .ref (ad 10)), (1, .ref (ad (48 + 4 * b1)))] := hl
  have hlp7 : ∀ (k82 : xw_S → Option xw_S) (hk82 : ∀ (sq : xw_S), k82 sq = some sZ → ∀ (H : Heap) (locs : List Loc) (ls : Array Slot), va_P D vwCl (xw_ws kdC 100 ad cs Z sq) H → va_S A s.heap H locs → lv_has ls 5 [] → W p l e (headSpec w_LM_writeHandlers ({ frames := 1, cells := 0, slots := 0, locals := 25 })).room s m [.ref (ad 10), .ref (ad (48 + 4 * b1))].toArray below meth c H locs 0 0 (MQ below (va_Qv (fun u => u = sZ) (xw_H D vwCl A kdC 100 ad cs Z tt) A) [.ref (ad 10), .ref (ad (48 + 4 * b1))].toArray s 0 0 A) (F0 m 82 ls [])) (n : Nat), ∀ (sq : xw_S) (i2_7 : Int), lp_LM_writeHandlers_7 fu b1 k82 n sq i2_7 = some sZ → ∀ (H : Heap) (locs : List Loc) (ls : Array Slot), va_P D vwCl (xw_ws kdC 100 ad cs Z sq) H → va_S A s.heap H locs → lv_has ls 5 [(0, .ref (ad 10)), (1, .ref (ad (48 + 4 * b1))), (2, .int (xw_i i2_7))] → W p l e (headSpec w_LM_writeHandlers ({ frames := 1, cells := 0, slots := 0, locals := 25 })).room s m [.ref (ad 10), .ref (ad (48 + 4 * b1))].toArray below meth c H locs 0 0 (MQ below (va_Qv (fun u => u = sZ) (xw_H D vwCl A kdC 100 ad cs Z tt) A) [.ref (ad 10), .ref (ad (48 + 4 * b1))].toArray s 0 0 A) (F0 m 7 ls []) := by
    intro k82 hk82 n
    induction n with
    | zero =>
      intro sq i2_7 h
      cases (show (none : Option xw_S) = some sZ from h)
    | succ n ih7 =>
      intro s3 i2_7 h H locs ls hP hS hl
      unfold lp_LM_writeHandlers_7 at h
      refine lv_iload_n hx hb d_LM_writeHandlers_7 rfl (lv_at hl 2 rfl) ?_
      refine lv_aload_n hx hb d_LM_writeHandlers_8 rfl (lv_at hl 0 rfl) ?_
      refine xw_getR (C := "AdviceWeaver$Loom") (T := T_LM) hx hb hts hin_LM hown hK hP (by decide) kc_Loom (by decide) rfl 0 (by decide) (hts _ hw_194) (fun _ h9 => h9) rfl d_LM_writeHandlers_9 ?_
      refine xw_getI (C := "AdviceWeaver$Body") (T := T_B) hx hb hts hin_B hown hK hP (by omega) (kc_Body 12 (by omega)) (by decide) rfl 9 (by decide) (hts _ hw_207) (fun _ h9 => h9) rfl d_LM_writeHandlers_12 ?_
      obtain ⟨hg4, h⟩ := xw_grdI h
      refine xw_icmp_ge (tgt := 82) hx hb hg4.1 hg4.2 d_LM_writeHandlers_15 (by decide) (fun hc5 => ?_) (fun hc5 => ?_)
      · replace h := xw_ifT hc5 h
        exact hk82 s3 h _ _ _ hP hS (lv_sub hl [] rfl)
      · replace h := xw_ifF hc5 h
        refine lv_aload_n hx hb d_LM_writeHandlers_18 rfl (lv_at hl 0 rfl) ?_
        refine lv_aload_n hx hb d_LM_writeHandlers_19 rfl (lv_at hl 0 rfl) ?_
        refine xw_getR (C := "AdviceWeaver$Loom") (T := T_LM) hx hb hts hin_LM hown hK hP (by decide) kc_Loom (by decide) rfl 0 (by decide) (hts _ hw_194) (fun _ h9 => h9) rfl d_LM_writeHandlers_20 ?_
        refine lv_iload_n hx hb d_LM_writeHandlers_23 rfl (lv_at hl 2 rfl) ?_
        refine lv_iconst (v := xw_i 0) hx hb d_LM_writeHandlers_24 rfl ?_
        obtain ⟨s6, r8, hc7, h⟩ := xw_bn2I h
        refine xw_callVi (C := "AdviceWeaver$Body") (T := T_B) ⟨hx, hb, hml, hown, hts⟩ (c_B_part l D A ad cs Z tt fu s3 s6 12 (by omega) i2_7 0 r8 hc7) (cwV 2 hts (gd_V hw_208 hw_91 hw_92 hw_25 hw_93) rfl rfl rfl (by decide +kernel) ⟨Nat.le_of_ble_eq_true rfl, Nat.le_of_ble_eq_true rfl⟩) hP hK hD hX hS (by omega) (kc_Body 12 (by omega)) (by decide) rfl rfl hl.1 rfl (Nat.le_of_ble_eq_true rfl) d_LM_writeHandlers_25 (fun H locs hP hS => ?_)
        obtain ⟨s9, r11, hc10, h⟩ := xw_bn2I h
        refine xw_callVi (C := "AdviceWeaver$Loom") (T := T_LM) ⟨hx, hb, hml, hown, hts⟩ (c_LM_newPlace l D A ad cs Z tt fu s6 s9 r8 r11 hc10) (cwV 1 hts (gd_V hw_227 hw_228 hw_229 hw_203 hw_230) rfl rfl rfl (by decide +kernel) ⟨Nat.le_of_ble_eq_true rfl, Nat.le_of_ble_eq_true rfl⟩) hP hK hD hX hS (by decide) kc_Loom (by decide) rfl rfl hl.1 rfl (Nat.le_of_ble_eq_true rfl) d_LM_writeHandlers_28 (fun H locs hP hS => ?_)
        refine lv_istore_n hx hb d_LM_writeHandlers_31 rfl hl (by decide) rfl (fun ls hl => ?_)
        refine lv_aload_n hx hb d_LM_writeHandlers_32 rfl (lv_at hl 1 rfl) ?_
        refine lv_aload_n hx hb d_LM_writeHandlers_33 rfl (lv_at hl 1 rfl) ?_
        refine xw_getR (C := "AdviceWeaver$Loom") (T := T_LM) hx hb hts hin_LM hown hK hP (by decide) kc_Loom (by decide) rfl 0 (by decide) (hts _ hw_194) (fun _ h9 => h9) rfl d_LM_writeHandlers_34 ?_
        refine lv_iload_n hx hb d_LM_writeHandlers_37 rfl (lv_at hl 3 rfl) ?_
        refine lv_iconst (v := xw_i 1) hx hb d_LM_writeHandlers_38 rfl ?_
        obtain ⟨s12, r14, hc13, h⟩ := xw_bn2I h
        refine xw_callVi (C := "AdviceWeaver$Body") (T := T_B) ⟨hx, hb, hml, hown, hts⟩ (c_B_part l D A ad cs Z tt fu s9 s12 12 (by omega) i2_7 1 r14 hc13) (cwV 2 hts (gd_V hw_208 hw_91 hw_92 hw_25 hw_93) rfl rfl rfl (by decide +kernel) ⟨Nat.le_of_ble_eq_true rfl, Nat.le_of_ble_eq_true rfl⟩) hP hK hD hX hS (by omega) (kc_Body 12 (by omega)) (by decide) rfl rfl hl.1 rfl (Nat.le_of_ble_eq_true rfl) d_LM_writeHandlers_39 (fun H locs hP hS => ?_)
        obtain ⟨s15, r17, hc16, h⟩ := xw_bn2I h
        refine xw_callVi (C := "AdviceWeaver$Loom") (T := T_LM) ⟨hx, hb, hml, hown, hts⟩ (c_LM_newPlace l D A ad cs Z tt fu s12 s15 r14 r17 hc16) (cwV 1 hts (gd_V hw_227 hw_228 hw_229 hw_203 hw_230) rfl rfl rfl (by decide +kernel) ⟨Nat.le_of_ble_eq_true rfl, Nat.le_of_ble_eq_true rfl⟩) hP hK hD hX hS (by decide) kc_Loom (by decide) rfl rfl hl.1 rfl (Nat.le_of_ble_eq_true rfl) d_LM_writeHandlers_42 (fun H locs hP hS => ?_)
        refine lv_istore hx hb d_LM_writeHandlers_45 hl (by decide) rfl (fun ls hl => ?_)
        refine lv_aload_n hx hb d_LM_writeHandlers_47 rfl (lv_at hl 3 rfl) ?_
        refine lv_iload_n hx hb d_LM_writeHandlers_48 rfl (lv_at hl 1 rfl) ?_
        refine lv_iload hx hb d_LM_writeHandlers_49 (lv_at hl 0 rfl) ?_
        refine lv_aload_n hx hb d_LM_writeHandlers_51 rfl (lv_at hl 2 rfl) ?_
        refine lv_aload_n hx hb d_LM_writeHandlers_52 rfl (lv_at hl 2 rfl) ?_
        refine xw_getR (C := "AdviceWeaver$Loom") (T := T_LM) hx hb hts hin_LM hown hK hP (by decide) kc_Loom (by decide) rfl 0 (by decide) (hts _ hw_194) (fun _ h9 => h9) rfl d_LM_writeHandlers_53 ?_
        refine lv_iload_n hx hb d_LM_writeHandlers_56 rfl (lv_at hl 4 rfl) ?_
        refine lv_iconst (v := xw_i 2) hx hb d_LM_writeHandlers_57 rfl ?_
        obtain ⟨s18, r20, hc19, h⟩ := xw_bn2I h
        refine xw_callVi (C := "AdviceWeaver$Body") (T := T_B) ⟨hx, hb, hml, hown, hts⟩ (c_B_part l D A ad cs Z tt fu s15 s18 12 (by omega) i2_7 2 r20 hc19) (cwV 2 hts (gd_V hw_208 hw_91 hw_92 hw_25 hw_93) rfl rfl rfl (by decide +kernel) ⟨Nat.le_of_ble_eq_true rfl, Nat.le_of_ble_eq_true rfl⟩) hP hK hD hX hS (by omega) (kc_Body 12 (by omega)) (by decide) rfl rfl hl.1 rfl (Nat.le_of_ble_eq_true rfl) d_LM_writeHandlers_58 (fun H locs hP hS => ?_)
        obtain ⟨s21, r23, hc22, h⟩ := xw_bn2I h
        refine xw_callVi (C := "AdviceWeaver$Loom") (T := T_LM) ⟨hx, hb, hml, hown, hts⟩ (c_LM_newPlace l D A ad cs Z tt fu s18 s21 r20 r23 hc22) (cwV 1 hts (gd_V hw_227 hw_228 hw_229 hw_203 hw_230) rfl rfl rfl (by decide +kernel) ⟨Nat.le_of_ble_eq_true rfl, Nat.le_of_ble_eq_true rfl⟩) hP hK hD hX hS (by decide) kc_Loom (by decide) rfl rfl hl.1 rfl (Nat.le_of_ble_eq_true rfl) d_LM_writeHandlers_61 (fun H locs hP hS => ?_)
        refine lv_aload_n hx hb d_LM_writeHandlers_64 rfl (lv_at hl 2 rfl) ?_
        refine xw_getR (C := "AdviceWeaver$Loom") (T := T_LM) hx hb hts hin_LM hown hK hP (by decide) kc_Loom (by decide) rfl 0 (by decide) (hts _ hw_194) (fun _ h9 => h9) rfl d_LM_writeHandlers_65 ?_
        refine lv_iload_n hx hb d_LM_writeHandlers_68 rfl (lv_at hl 4 rfl) ?_
        refine lv_iconst (v := xw_i 3) hx hb d_LM_writeHandlers_69 rfl ?_
        obtain ⟨s24, r26, hc25, h⟩ := xw_bn2I h
        refine xw_callVi (C := "AdviceWeaver$Body") (T := T_B) ⟨hx, hb, hml, hown, hts⟩ (c_B_part l D A ad cs Z tt fu s21 s24 12 (by omega) i2_7 3 r26 hc25) (cwV 2 hts (gd_V hw_208 hw_91 hw_92 hw_25 hw_93) rfl rfl rfl (by decide +kernel) ⟨Nat.le_of_ble_eq_true rfl, Nat.le_of_ble_eq_true rfl⟩) hP hK hD hX hS (by omega) (kc_Body 12 (by omega)) (by decide) rfl rfl hl.1 rfl (Nat.le_of_ble_eq_true rfl) d_LM_writeHandlers_70 (fun H locs hP hS => ?_)
        obtain ⟨s27, hc28, h⟩ := xw_bndI h
        refine xw_callVv (C := "AdviceWeaver$Body") (T := T_B) ⟨hx, hb, hml, hown, hts⟩ (c_B_addHandler l D A ad cs Z tt fu s24 s27 b1 (by omega) r11 r17 r23 r26 hc28) (cwV 4 hts (gd_V hw_259 hw_23 hw_24 hw_25 hw_26) rfl rfl rfl (by decide +kernel) ⟨Nat.le_of_ble_eq_true rfl, Nat.le_of_ble_eq_true rfl⟩) hP hK hD hX hS (by omega) (kc_Body b1 (by omega)) (by decide) rfl rfl hl.1 rfl (Nat.le_of_ble_eq_true rfl) d_LM_writeHandlers_73 (fun H locs hP hS => ?_)
        obtain ⟨v30, e31⟩ : ∃ z, z = i2_7 + 1 := ⟨_, rfl⟩
        replace h := xw_letI e31 h
        refine xw_iinc (lv' := [(2, .int (xw_i v30)), (4, .int (xw_i r17)), (3, .int (xw_i r11)), (0, .ref (ad 10)), (1, .ref (ad (48 + 4 * b1)))]) hx hb d_LM_writeHandlers_76 hl (k := 4) rfl (by decide) (by rw [e31]; rfl) (fun ls hl => ?_)
        refine lv_goto (tgt := 7) hx hb d_LM_writeHandlers_79 (by decide) ?_
        exact ih7 s27 v30 h _ _ _ hP hS (lv_sub hl [3, 4, 0] rfl)
  unfold f_LM_writeHandlers at h
  refine lv_aload_n hx hb d_LM_writeHandlers_0 rfl (lv_at hl 1 rfl) ?_
  refine lv_iconst (v := xw_i 0) hx hb d_LM_writeHandlers_1 rfl ?_
  refine xw_putI (C := "AdviceWeaver$Body") (T := T_B) hx hb hts hin_B ty_B ty_B_ok nm_B hown hK hP hD hS (by omega) (kc_Body b1 (by omega)) (by decide) rfl 9 (by decide) (hts _ hw_207) (fun _ h9 => h9) rfl (by decide +kernel) rfl d_LM_writeHandlers_2 (fun s1 e2 H locs hP hS => ?_)
  replace h := xw_letI e2 h
  refine lv_iconst (v := xw_i 0) hx hb d_LM_writeHandlers_5 rfl ?_
  refine lv_istore_n hx hb d_LM_writeHandlers_6 rfl hl (by decide) rfl (fun ls hl => ?_)
  refine xw_jnI (fun j => ∀ (sq : xw_S), j sq = some sZ → ∀ (H : Heap) (locs : List Loc) (ls : Array Slot), va_P D vwCl (xw_ws kdC 100 ad cs Z sq) H → va_S A s.heap H locs → lv_has ls 5 [] → W p l e (headSpec w_LM_writeHandlers ({ frames := 1, cells := 0, slots := 0, locals := 25 })).room s m [.ref (ad 10), .ref (ad (48 + 4 * b1))].toArray below meth c H locs 0 0 (MQ below (va_Qv (fun u => u = sZ) (xw_H D vwCl A kdC 100 ad cs Z tt) A) [.ref (ad 10), .ref (ad (48 + 4 * b1))].toArray s 0 0 A) (F0 m 82 ls [])) h ?_ ?_
  · intro s32 h H locs ls hP hS hl
    exact xw_vretE hx hb hr hlk hP hK hD hX hS h d_LM_writeHandlers_82
  · intro k82 hk82 h
    exact hlp7 k82 hk82 fu s1 0 h _ _ _ hP hS (lv_sub hl [1, 2, 0] rfl)
def f_LM_transform (fu : Nat) (s0 : xw_S) (b1 : Nat) (p2 : Int) (p3 : Int) : Option (xw_S × Int) :=
 xw_bnd (f_B_become fu s0 12 b1) (fun s1 => xw_let (xw_st s1 10 7 0) (fun s4 => xw_jn (fun (s14 : xw_S) => xw_bnd (f_LM_layOut fu s14) (fun s15 => xw_jn (fun (s20 : xw_S) (t0_56 : Int) => xw_grd ((0 ≤ s20.1 10 7 ∧ s20.1 10 7 < ((244 : Nat) : Int))) (xw_grd (xw_r (s20.1 14 (s20.1 10 7).toNat)) (xw_if (120 < s20.1 14 (s20.1 10 7).toNat) (some (s20, 0))
 (xw_grd (xw_r t0_56) (xw_if (t0_56 ≤ 5) (xw_bnd (f_LM_writeCode fu s20 b1) (fun s26 => xw_bnd (f_LM_writeHandlers fu s26 b1) (fun s29 => xw_jn (fun (s40 : xw_S) => xw_bn2 (f_B_findInstructions fu s40 b1) (fun s41 r43 => some (s41, 1)))
 (fun (j117 : xw_S → Option (xw_S × Int)) => xw_grd (xw_r p2) (xw_if (p2 = 0) (xw_bn2 (f_LM_newPlace fu s29 (s29.1 (48 + 4 * 12) 8)) (fun s34 r36 => xw_bnd (f_B_addHandler fu s34 b1 0 r36 r36 0) (fun s37 => j117 s37)))
 (j117 s29))))))
 (some (s20, 0)))))))
 (fun (j56 : xw_S → Int → Option (xw_S × Int)) => xw_grd (xw_r p2) (xw_if (p2 = 0) (j56 s15 ((s15.1 (48 + 4 * 12) 9) + 1))
 (j56 s15 (s15.1 (48 + 4 * 12) 9))))))
 (fun (j29 : xw_S → Option (xw_S × Int)) => xw_grd (xw_r p2) (xw_if (p2 = 0) (xw_bnd (f_LM_planTrace fu s4 p3) (fun s8 => j29 s8))
 (xw_bnd (f_LM_planCover fu s4) (fun s11 => j29 s11))))))
set_option maxRecDepth 100000 in
set_option maxHeartbeats 4000000 in
theorem c_LM_transform (l : Launch) (D : va_G) (A : Nat → Prop) (ad : Nat → Nat) (cs : Nat → ClassId) (Z : va_W) (tt : Nat → Nat) (fu : Nat) (s0 sZ : xw_S) (b1 : Nat) (hb_b1 : b1 < 13) (p2 : Int) (p3 : Int) (r0 : Int) (h : f_LM_transform fu s0 b1 p2 p3 = some (sZ, r0)) : Met l y_LM_transform w_LM_transform ({ frames := 4, cells := 0, slots := 0, locals := 88 }) (va_Pc [.ref (ad 10), .ref (ad (48 + 4 * b1)), .int (xw_i p2), .int (xw_i p3)] (xw_H D vwCl A kdC 100 ad cs Z tt s0)) (va_Qi (fun r u => r = xw_i r0 ∧ u = sZ) (xw_H D vwCl A kdC 100 ad cs Z tt) A) 0 0 A := by
  refine Met.ofW (cc := b_LM_transform) (maxL := 6) (ret := (some .boolean)) (by decide) rfl ?_
  intro p e s m args below meth c s₁ B hml hv
  obtain ⟨rfl, hP, hK, hD, hX⟩ := hv
  have hx := B.exec
  have hb := B.bytes
  have hr := B.returns
  have hts0 := atoms_spec (ws := w_LM_transform) B.pre
  have hts := fun w (hw : w ∈ wAll) => hts0 w (List.mem_cons_of_mem _ hw)
  have hown : s.vm.findClass "AdviceWeaver$Loom" = some m.cls := findClass_of_methodNamed B.named
  have hlk := B.notSynchronized
  clear hts0 B
  have hS : va_S A s.heap s.heap [] := va_S.rf
  have hl := lv_entry [.ref (ad 10), .ref (ad (48 + 4 * b1)), .int (xw_i p2), .int (xw_i p3)] (n := 6) (Nat.le_of_ble_eq_true rfl)
  rw [lg_entry_eq]
  generalize (lg_sl [.ref (ad 10), .ref (ad (48 + 4 * b1)), .int (xw_i p2), .int (xw_i p3)] ++ List.replicate (6 - (lg_sl [.ref (ad 10), .ref (ad (48 + 4 * b1)), .int (xw_i p2), .int (xw_i p3)]).length) Slot.unset).toArray = ls at hl ⊢
  have hl : lv_has ls 6 [(0, .ref (ad 10)), (1, .ref (ad (48 + 4 * b1))), (2, .int (xw_i p2)), (3, .int (xw_i p3))] := hl
  unfold f_LM_transform at h
  refine lv_aload_n hx hb d_LM_transform_0 rfl (lv_at hl 0 rfl) ?_
  refine xw_getR (C := "AdviceWeaver$Loom") (T := T_LM) hx hb hts hin_LM hown hK hP (by decide) kc_Loom (by decide) rfl 0 (by decide) (hts _ hw_194) (fun _ h9 => h9) rfl d_LM_transform_1 ?_
  refine lv_aload_n hx hb d_LM_transform_4 rfl (lv_at hl 1 rfl) ?_
  obtain ⟨s1, hc2, h⟩ := xw_bndI h
  refine xw_callVv (C := "AdviceWeaver$Body") (T := T_B) ⟨hx, hb, hml, hown, hts⟩ (c_B_become l D A ad cs Z tt fu s0 s1 12 (by omega) b1 (by omega) hc2) (cwV 1 hts (gd_V hw_260 hw_167 hw_168 hw_25 hw_169) rfl rfl rfl (by decide +kernel) ⟨Nat.le_of_ble_eq_true rfl, Nat.le_of_ble_eq_true rfl⟩) hP hK hD hX hS (by omega) (kc_Body 12 (by omega)) (by decide) rfl rfl hl.1 rfl (Nat.le_of_ble_eq_true rfl) d_LM_transform_5 (fun H locs hP hS => ?_)
  refine lv_aload_n hx hb d_LM_transform_8 rfl (lv_at hl 0 rfl) ?_
  refine lv_iconst (v := xw_i 0) hx hb d_LM_transform_9 rfl ?_
  refine xw_putI (C := "AdviceWeaver$Loom") (T := T_LM) hx hb hts hin_LM ty_LM ty_LM_ok nm_LM hown hK hP hD hS (by decide) kc_Loom (by decide) rfl 7 (by decide) (hts _ hw_209) (fun _ h9 => h9) rfl (by decide +kernel) rfl d_LM_transform_10 (fun s4 e5 H locs hP hS => ?_)
  replace h := xw_letI e5 h
  refine lv_iload_n hx hb d_LM_transform_13 rfl (lv_at hl 2 rfl) ?_
  refine xw_jnI (fun j => ∀ (sq : xw_S), j sq = some (sZ, r0) → ∀ (H : Heap) (locs : List Loc) (ls : Array Slot), va_P D vwCl (xw_ws kdC 100 ad cs Z sq) H → va_S A s.heap H locs → lv_has ls 6 [(0, .ref (ad 10)), (1, .ref (ad (48 + 4 * b1))), (2, .int (xw_i p2))] → W p l e (headSpec w_LM_transform ({ frames := 4, cells := 0, slots := 0, locals := 88 })).room s m [.ref (ad 10), .ref (ad (48 + 4 * b1)), .int (xw_i p2), .int (xw_i p3)].toArray below meth c H locs 0 0 (MQ below (va_Qi (fun r u => r = xw_i r0 ∧ u = sZ) (xw_H D vwCl A kdC 100 ad cs Z tt) A) [.ref (ad 10), .ref (ad (48 + 4 * b1)), .int (xw_i p2), .int (xw_i p3)].toArray s 0 0 A) (F0 m 29 ls [])) h ?_ ?_
  · intro s14 h H locs ls hP hS hl
    refine lv_aload_n hx hb d_LM_transform_29 rfl (lv_at hl 0 rfl) ?_
    obtain ⟨s15, hc16, h⟩ := xw_bndI h
    refine xw_callVv (C := "AdviceWeaver$Loom") (T := T_LM) ⟨hx, hb, hml, hown, hts⟩ (c_LM_layOut l D A ad cs Z tt fu s14 s15 hc16) (cwV 0 hts (gd_V hw_269 hw_270 hw_271 hw_203 hw_272) rfl rfl rfl (by decide +kernel) ⟨Nat.le_of_ble_eq_true rfl, Nat.le_of_ble_eq_true rfl⟩) hP hK hD hX hS (by decide) kc_Loom (by decide) rfl rfl hl.1 rfl (Nat.le_of_ble_eq_true rfl) d_LM_transform_30 (fun H locs hP hS => ?_)
    refine lv_iload_n hx hb d_LM_transform_33 rfl (lv_at hl 2 rfl) ?_
    refine xw_jnI (fun j => ∀ (sq : xw_S) (t0_56 : Int), j sq t0_56 = some (sZ, r0) → ∀ (H : Heap) (locs : List Loc) (ls : Array Slot), va_P D vwCl (xw_ws kdC 100 ad cs Z sq) H → va_S A s.heap H locs → lv_has ls 6 [(0, .ref (ad 10)), (1, .ref (ad (48 + 4 * b1))), (2, .int (xw_i p2))] → W p l e (headSpec w_LM_transform ({ frames := 4, cells := 0, slots := 0, locals := 88 })).room s m [.ref (ad 10), .ref (ad (48 + 4 * b1)), .int (xw_i p2), .int (xw_i p3)].toArray below meth c H locs 0 0 (MQ below (va_Qi (fun r u => r = xw_i r0 ∧ u = sZ) (xw_H D vwCl A kdC 100 ad cs Z tt) A) [.ref (ad 10), .ref (ad (48 + 4 * b1)), .int (xw_i p2), .int (xw_i p3)].toArray s 0 0 A) (F0 m 56 ls [.int (xw_i t0_56)])) h ?_ ?_
    · intro s20 t0_56 h H locs ls hP hS hl
      refine lv_istore hx hb d_LM_transform_56 hl (by decide) rfl (fun ls hl => ?_)
      refine lv_aload_n hx hb d_LM_transform_58 rfl (lv_at hl 1 rfl) ?_
      refine xw_getR (C := "AdviceWeaver$Loom") (T := T_LM) hx hb hts hin_LM hown hK hP (by decide) kc_Loom (by decide) rfl 4 (by decide) (hts _ hw_226) (fun _ h9 => h9) rfl d_LM_transform_59 ?_
      refine lv_aload_n hx hb d_LM_transform_62 rfl (lv_at hl 1 rfl) ?_
      refine xw_getI (C := "AdviceWeaver$Loom") (T := T_LM) hx hb hts hin_LM hown hK hP (by decide) kc_Loom (by decide) rfl 7 (by decide) (hts _ hw_209) (fun _ h9 => h9) rfl d_LM_transform_63 ?_
      obtain ⟨hg21, h⟩ := xw_grdI h
      refine xw_iald hx hb hK hP (by decide) kc_places (by decide) hg21 d_LM_transform_66 ?_
      refine lv_bipush (v := xw_i 120) hx hb d_LM_transform_67 (by decide) ?_
      obtain ⟨hg22, h⟩ := xw_grdI h
      refine xw_icmp_gt (tgt := 78) hx hb hg22 (by decide) d_LM_transform_69 (by decide) (fun hc23 => ?_) (fun hc23 => ?_)
      · replace h := xw_ifT hc23 h
        refine lv_iconst (v := xw_i 0) hx hb d_LM_transform_78 rfl ?_
        exact xw_zretE hx hb hr hlk hP hK hD hX hS h (by decide) d_LM_transform_79
      · replace h := xw_ifF hc23 h
        refine lv_iload hx hb d_LM_transform_72 (lv_at hl 0 rfl) ?_
        refine lv_iconst (v := xw_i 5) hx hb d_LM_transform_74 rfl ?_
        obtain ⟨hg24, h⟩ := xw_grdI h
        refine xw_icmp_le (tgt := 80) hx hb hg24 (by decide) d_LM_transform_75 (by decide) (fun hc25 => ?_) (fun hc25 => ?_)
        · replace h := xw_ifT hc25 h
          refine lv_aload_n hx hb d_LM_transform_80 rfl (lv_at hl 1 rfl) ?_
          refine lv_aload_n hx hb d_LM_transform_81 rfl (lv_at hl 2 rfl) ?_
          obtain ⟨s26, hc27, h⟩ := xw_bndI h
          refine xw_callVv (C := "AdviceWeaver$Loom") (T := T_LM) ⟨hx, hb, hml, hown, hts⟩ (c_LM_writeCode l D A ad cs Z tt fu s20 s26 b1 (by omega) hc27) (cwV 1 hts (gd_V hw_273 hw_274 hw_275 hw_203 hw_276) rfl rfl rfl (by decide +kernel) ⟨Nat.le_of_ble_eq_true rfl, Nat.le_of_ble_eq_true rfl⟩) hP hK hD hX hS (by decide) kc_Loom (by decide) rfl rfl hl.1 rfl (Nat.le_of_ble_eq_true rfl) d_LM_transform_82 (fun H locs hP hS => ?_)
          refine lv_aload_n hx hb d_LM_transform_85 rfl (lv_at hl 1 rfl) ?_
          refine lv_aload_n hx hb d_LM_transform_86 rfl (lv_at hl 2 rfl) ?_
          obtain ⟨s29, hc30, h⟩ := xw_bndI h
          refine xw_callVv (C := "AdviceWeaver$Loom") (T := T_LM) ⟨hx, hb, hml, hown, hts⟩ (c_LM_writeHandlers l D A ad cs Z tt fu s26 s29 b1 (by omega) hc30) (cwV 1 hts (gd_V hw_277 hw_278 hw_279 hw_203 hw_280) rfl rfl rfl (by decide +kernel) ⟨Nat.le_of_ble_eq_true rfl, Nat.le_of_ble_eq_true rfl⟩) hP hK hD hX hS (by decide) kc_Loom (by decide) rfl rfl hl.1 rfl (Nat.le_of_ble_eq_true rfl) d_LM_transform_87 (fun H locs hP hS => ?_)
          refine lv_iload_n hx hb d_LM_transform_90 rfl (lv_at hl 3 rfl) ?_
          refine xw_jnI (fun j => ∀ (sq : xw_S), j sq = some (sZ, r0) → ∀ (H : Heap) (locs : List Loc) (ls : Array Slot), va_P D vwCl (xw_ws kdC 100 ad cs Z sq) H → va_S A s.heap H locs → lv_has ls 6 [(1, .ref (ad (48 + 4 * b1)))] → W p l e (headSpec w_LM_transform ({ frames := 4, cells := 0, slots := 0, locals := 88 })).room s m [.ref (ad 10), .ref (ad (48 + 4 * b1)), .int (xw_i p2), .int (xw_i p3)].toArray below meth c H locs 0 0 (MQ below (va_Qi (fun r u => r = xw_i r0 ∧ u = sZ) (xw_H D vwCl A kdC 100 ad cs Z tt) A) [.ref (ad 10), .ref (ad (48 + 4 * b1)), .int (xw_i p2), .int (xw_i p3)].toArray s 0 0 A) (F0 m 117 ls [])) h ?_ ?_
          · intro s40 h H locs ls hP hS hl
            refine lv_aload_n hx hb d_LM_transform_117 rfl (lv_at hl 0 rfl) ?_
            obtain ⟨s41, r43, hc42, h⟩ := xw_bn2I h
            refine xw_callVi (C := "AdviceWeaver$Body") (T := T_B) ⟨hx, hb, hml, hown, hts⟩ (c_B_findInstructions l D A ad cs Z tt fu s40 s41 b1 (by omega) r43 hc42) (cwV 0 hts (gd_V hw_281 hw_83 hw_84 hw_25 hw_85) rfl rfl rfl (by decide +kernel) ⟨Nat.le_of_ble_eq_true rfl, Nat.le_of_ble_eq_true rfl⟩) hP hK hD hX hS (by omega) (kc_Body b1 (by omega)) (by decide) rfl rfl hl.1 rfl (Nat.le_of_ble_eq_true rfl) d_LM_transform_118 (fun H locs hP hS => ?_)
            refine lv_pop hx hb d_LM_transform_121 rfl ?_
            refine lv_iconst (v := xw_i 1) hx hb d_LM_transform_122 rfl ?_
            exact xw_zretE hx hb hr hlk hP hK hD hX hS h (by decide) d_LM_transform_123
          · intro j117 hj117 h
            obtain ⟨hg32, h⟩ := xw_grdI h
            refine xw_if_ne (tgt := 117) hx hb hg32 d_LM_transform_91 (by decide) (fun hc33 => ?_) (fun hc33 => ?_)
            · replace h := xw_ifF hc33 h
              exact hj117 s29 h _ _ _ hP hS (lv_sub hl [2] rfl)
            · replace h := xw_ifT hc33 h
              refine lv_aload_n hx hb d_LM_transform_94 rfl (lv_at hl 1 rfl) ?_
              refine lv_aload_n hx hb d_LM_transform_95 rfl (lv_at hl 1 rfl) ?_
              refine xw_getR (C := "AdviceWeaver$Loom") (T := T_LM) hx hb hts hin_LM hown hK hP (by decide) kc_Loom (by decide) rfl 0 (by decide) (hts _ hw_194) (fun _ h9 => h9) rfl d_LM_transform_96 ?_
              refine xw_getI (C := "AdviceWeaver$Body") (T := T_B) hx hb hts hin_B hown hK hP (by omega) (kc_Body 12 (by omega)) (by decide) rfl 8 (by decide) (hts _ hw_195) (fun _ h9 => h9) rfl d_LM_transform_99 ?_
              obtain ⟨s34, r36, hc35, h⟩ := xw_bn2I h
              refine xw_callVi (C := "AdviceWeaver$Loom") (T := T_LM) ⟨hx, hb, hml, hown, hts⟩ (c_LM_newPlace l D A ad cs Z tt fu s29 s34 (s29.1 (48 + 4 * 12) 8) r36 hc35) (cwV 1 hts (gd_V hw_227 hw_228 hw_229 hw_203 hw_230) rfl rfl rfl (by decide +kernel) ⟨Nat.le_of_ble_eq_true rfl, Nat.le_of_ble_eq_true rfl⟩) hP hK hD hX hS (by decide) kc_Loom (by decide) rfl rfl hl.1 rfl (Nat.le_of_ble_eq_true rfl) d_LM_transform_102 (fun H locs hP hS => ?_)
              refine lv_istore hx hb d_LM_transform_105 hl (by decide) rfl (fun ls hl => ?_)
              refine lv_aload_n hx hb d_LM_transform_107 rfl (lv_at hl 3 rfl) ?_
              refine lv_iconst (v := xw_i 0) hx hb d_LM_transform_108 rfl ?_
              refine lv_iload hx hb d_LM_transform_109 (lv_at hl 0 rfl) ?_
              refine lv_iload hx hb d_LM_transform_111 (lv_at hl 0 rfl) ?_
              refine lv_iconst (v := xw_i 0) hx hb d_LM_transform_113 rfl ?_
              obtain ⟨s37, hc38, h⟩ := xw_bndI h
              refine xw_callVv (C := "AdviceWeaver$Body") (T := T_B) ⟨hx, hb, hml, hown, hts⟩ (c_B_addHandler l D A ad cs Z tt fu s34 s37 b1 (by omega) 0 r36 r36 0 hc38) (cwV 4 hts (gd_V hw_259 hw_23 hw_24 hw_25 hw_26) rfl rfl rfl (by decide +kernel) ⟨Nat.le_of_ble_eq_true rfl, Nat.le_of_ble_eq_true rfl⟩) hP hK hD hX hS (by omega) (kc_Body b1 (by omega)) (by decide) rfl rfl hl.1 rfl (Nat.le_of_ble_eq_true rfl) d_LM_transform_114 (fun H locs hP hS => ?_)
              exact hj117 s37 h _ _ _ hP hS (lv_sub hl [3] rfl)
        · replace h := xw_ifF hc25 h
          refine lv_iconst (v := xw_i 0) hx hb d_LM_transform_78 rfl ?_
          exact xw_zretE hx hb hr hlk hP hK hD hX hS h (by decide) d_LM_transform_79
    · intro j56 hj56 h
      obtain ⟨hg18, h⟩ := xw_grdI h
      refine xw_if_eq (tgt := 47) hx hb hg18 d_LM_transform_34 (by decide) (fun hc19 => ?_) (fun hc19 => ?_)
      · replace h := xw_ifT hc19 h
        refine lv_aload_n hx hb d_LM_transform_47 rfl (lv_at hl 0 rfl) ?_
        refine xw_getR (C := "AdviceWeaver$Loom") (T := T_LM) hx hb hts hin_LM hown hK hP (by decide) kc_Loom (by decide) rfl 0 (by decide) (hts _ hw_194) (fun _ h9 => h9) rfl d_LM_transform_48 ?_
        refine xw_getI (C := "AdviceWeaver$Body") (T := T_B) hx hb hts hin_B hown hK hP (by omega) (kc_Body 12 (by omega)) (by decide) rfl 9 (by decide) (hts _ hw_207) (fun _ h9 => h9) rfl d_LM_transform_51 ?_
        refine lv_iconst (v := xw_i 1) hx hb d_LM_transform_54 rfl ?_
        refine xw_iadd hx hb d_LM_transform_55 ?_
        exact hj56 s15 ((s15.1 (48 + 4 * 12) 9) + 1) h _ _ _ hP hS (lv_sub hl [0, 1, 2] rfl)
      · replace h := xw_ifF hc19 h
        refine lv_aload_n hx hb d_LM_transform_37 rfl (lv_at hl 0 rfl) ?_
        refine xw_getR (C := "AdviceWeaver$Loom") (T := T_LM) hx hb hts hin_LM hown hK hP (by decide) kc_Loom (by decide) rfl 0 (by decide) (hts _ hw_194) (fun _ h9 => h9) rfl d_LM_transform_38 ?_
        refine xw_getI (C := "AdviceWeaver$Body") (T := T_B) hx hb hts hin_B hown hK hP (by omega) (kc_Body 12 (by omega)) (by decide) rfl 9 (by decide) (hts _ hw_207) (fun _ h9 => h9) rfl d_LM_transform_41 ?_
        refine lv_goto (tgt := 56) hx hb d_LM_transform_44 (by decide) ?_
        exact hj56 s15 (s15.1 (48 + 4 * 12) 9) h _ _ _ hP hS (lv_sub hl [0, 1, 2] rfl)
  · intro j29 hj29 h
    obtain ⟨hg6, h⟩ := xw_grdI h
    refine xw_if_eq (tgt := 24) hx hb hg6 d_LM_transform_14 (by decide) (fun hc7 => ?_) (fun hc7 => ?_)
    · replace h := xw_ifT hc7 h
      refine lv_aload_n hx hb d_LM_transform_24 rfl (lv_at hl 0 rfl) ?_
      refine lv_iload_n hx hb d_LM_transform_25 rfl (lv_at hl 3 rfl) ?_
      obtain ⟨s8, hc9, h⟩ := xw_bndI h
      refine xw_callVv (C := "AdviceWeaver$Loom") (T := T_LM) ⟨hx, hb, hml, hown, hts⟩ (c_LM_planTrace l D A ad cs Z tt fu s4 s8 p3 hc9) (cwV 1 hts (gd_V hw_261 hw_262 hw_263 hw_203 hw_264) rfl rfl rfl (by decide +kernel) ⟨Nat.le_of_ble_eq_true rfl, Nat.le_of_ble_eq_true rfl⟩) hP hK hD hX hS (by decide) kc_Loom (by decide) rfl rfl hl.1 rfl (Nat.le_of_ble_eq_true rfl) d_LM_transform_26 (fun H locs hP hS => ?_)
      exact hj29 s8 h _ _ _ hP hS (lv_sub hl [0, 1, 2] rfl)
    · replace h := xw_ifF hc7 h
      refine lv_aload_n hx hb d_LM_transform_17 rfl (lv_at hl 0 rfl) ?_
      obtain ⟨s11, hc12, h⟩ := xw_bndI h
      refine xw_callVv (C := "AdviceWeaver$Loom") (T := T_LM) ⟨hx, hb, hml, hown, hts⟩ (c_LM_planCover l D A ad cs Z tt fu s4 s11 hc12) (cwV 0 hts (gd_V hw_265 hw_266 hw_267 hw_203 hw_268) rfl rfl rfl (by decide +kernel) ⟨Nat.le_of_ble_eq_true rfl, Nat.le_of_ble_eq_true rfl⟩) hP hK hD hX hS (by decide) kc_Loom (by decide) rfl rfl hl.1 rfl (Nat.le_of_ble_eq_true rfl) d_LM_transform_18 (fun H locs hP hS => ?_)
      refine lv_goto (tgt := 29) hx hb d_LM_transform_21 (by decide) ?_
      exact hj29 s11 h _ _ _ hP hS (lv_sub hl [0, 1, 2] rfl)
