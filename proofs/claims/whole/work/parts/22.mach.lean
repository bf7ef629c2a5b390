/-! 22.mach -/
theorem d_MC_end_0 : decode b_MC_end 0 = .ok (.aload_n 0, 1) := by decide +kernel
theorem d_MC_end_1 : decode b_MC_end 1 = .ok (.iload_n 1, 1) := by decide +kernel
theorem d_MC_end_2 : decode b_MC_end 2 = .ok (.putfield 41, 3) := by decide +kernel
theorem d_MC_end_5 : decode b_MC_end 5 = .ok (.aload_n 0, 1) := by decide +kernel
theorem d_MC_end_6 : decode b_MC_end 6 = .ok (.iload_n 2, 1) := by decide +kernel
theorem d_MC_end_7 : decode b_MC_end 7 = .ok (.putfield 61, 3) := by decide +kernel
theorem d_MC_end_10 : decode b_MC_end 10 = .ok (.return_, 1) := by decide +kernel
theorem d_MC_enter_0 : decode b_MC_enter 0 = .ok (.aload_n 0, 1) := by decide +kernel
theorem d_MC_enter_1 : decode b_MC_enter 1 = .ok (.getfield 53, 3) := by decide +kernel
theorem d_MC_enter_4 : decode b_MC_enter 4 = .ok (.bipush 8, 2) := by decide +kernel
theorem d_MC_enter_6 : decode b_MC_enter 6 = .ok (.if_icmp .lt 10, 3) := by decide +kernel
theorem d_MC_enter_9 : decode b_MC_enter 9 = .ok (.aload_n 0, 1) := by decide +kernel
theorem d_MC_enter_10 : decode b_MC_enter 10 = .ok (.iconst 3, 1) := by decide +kernel
theorem d_MC_enter_11 : decode b_MC_enter 11 = .ok (.iconst 0, 1) := by decide +kernel
theorem d_MC_enter_12 : decode b_MC_enter 12 = .ok (.invokevirtual 80, 3) := by decide +kernel
theorem d_MC_enter_15 : decode b_MC_enter 15 = .ok (.return_, 1) := by decide +kernel
theorem d_MC_enter_16 : decode b_MC_enter 16 = .ok (.aload_n 3, 1) := by decide +kernel
theorem d_MC_enter_17 : decode b_MC_enter 17 = .ok (.iload_n 2, 1) := by decide +kernel
theorem d_MC_enter_18 : decode b_MC_enter 18 = .ok (.aaload, 1) := by decide +kernel
theorem d_MC_enter_19 : decode b_MC_enter 19 = .ok (.getfield 44, 3) := by decide +kernel
theorem d_MC_enter_22 : decode b_MC_enter 22 = .ok (.istore 4, 2) := by decide +kernel
theorem d_MC_enter_24 : decode b_MC_enter 24 = .ok (.iload 4, 2) := by decide +kernel
theorem d_MC_enter_26 : decode b_MC_enter 26 = .ok (.iconst 1, 1) := by decide +kernel
theorem d_MC_enter_27 : decode b_MC_enter 27 = .ok (.if_icmp .le 10, 3) := by decide +kernel
theorem d_MC_enter_30 : decode b_MC_enter 30 = .ok (.aload_n 1, 1) := by decide +kernel
theorem d_MC_enter_31 : decode b_MC_enter 31 = .ok (.invokevirtual 88, 3) := by decide +kernel
theorem d_MC_enter_34 : decode b_MC_enter 34 = .ok (.goto 4, 3) := by decide +kernel
theorem d_MC_enter_37 : decode b_MC_enter 37 = .ok (.iconst 0, 1) := by decide +kernel
theorem d_MC_enter_38 : decode b_MC_enter 38 = .ok (.istore 5, 2) := by decide +kernel
theorem d_MC_enter_40 : decode b_MC_enter 40 = .ok (.iload 4, 2) := by decide +kernel
theorem d_MC_enter_42 : decode b_MC_enter 42 = .ok (.ifCond .le 10, 3) := by decide +kernel
theorem d_MC_enter_45 : decode b_MC_enter 45 = .ok (.aload_n 1, 1) := by decide +kernel
theorem d_MC_enter_46 : decode b_MC_enter 46 = .ok (.invokevirtual 88, 3) := by decide +kernel
theorem d_MC_enter_49 : decode b_MC_enter 49 = .ok (.goto 4, 3) := by decide +kernel
theorem d_MC_enter_52 : decode b_MC_enter 52 = .ok (.iconst 0, 1) := by decide +kernel
theorem d_MC_enter_53 : decode b_MC_enter 53 = .ok (.istore 6, 2) := by decide +kernel
theorem d_MC_enter_55 : decode b_MC_enter 55 = .ok (.aload_n 0, 1) := by decide +kernel
theorem d_MC_enter_56 : decode b_MC_enter 56 = .ok (.getfield 13, 3) := by decide +kernel
theorem d_MC_enter_59 : decode b_MC_enter 59 = .ok (.aload_n 0, 1) := by decide +kernel
theorem d_MC_enter_60 : decode b_MC_enter 60 = .ok (.getfield 53, 3) := by decide +kernel
theorem d_MC_enter_63 : decode b_MC_enter 63 = .ok (.aaload, 1) := by decide +kernel
theorem d_MC_enter_64 : decode b_MC_enter 64 = .ok (.iload_n 2, 1) := by decide +kernel
theorem d_MC_enter_65 : decode b_MC_enter 65 = .ok (.iload 4, 2) := by decide +kernel
theorem d_MC_enter_67 : decode b_MC_enter 67 = .ok (.iload 6, 2) := by decide +kernel
theorem d_MC_enter_69 : decode b_MC_enter 69 = .ok (.iload 5, 2) := by decide +kernel
theorem d_MC_enter_71 : decode b_MC_enter 71 = .ok (.invokevirtual 49, 3) := by decide +kernel
theorem d_MC_enter_74 : decode b_MC_enter 74 = .ok (.aload_n 0, 1) := by decide +kernel
theorem d_MC_enter_75 : decode b_MC_enter 75 = .ok (.dup, 1) := by decide +kernel
theorem d_MC_enter_76 : decode b_MC_enter 76 = .ok (.getfield 53, 3) := by decide +kernel
theorem d_MC_enter_79 : decode b_MC_enter 79 = .ok (.iconst 1, 1) := by decide +kernel
theorem d_MC_enter_80 : decode b_MC_enter 80 = .ok (.iadd, 1) := by decide +kernel
theorem d_MC_enter_81 : decode b_MC_enter 81 = .ok (.putfield 53, 3) := by decide +kernel
theorem d_MC_enter_84 : decode b_MC_enter 84 = .ok (.return_, 1) := by decide +kernel
theorem d_MC_giveBack_0 : decode b_MC_giveBack 0 = .ok (.aload_n 0, 1) := by decide +kernel
theorem d_MC_giveBack_1 : decode b_MC_giveBack 1 = .ok (.dup, 1) := by decide +kernel
theorem d_MC_giveBack_2 : decode b_MC_giveBack 2 = .ok (.getfield 53, 3) := by decide +kernel
theorem d_MC_giveBack_5 : decode b_MC_giveBack 5 = .ok (.iconst 1, 1) := by decide +kernel
theorem d_MC_giveBack_6 : decode b_MC_giveBack 6 = .ok (.isub, 1) := by decide +kernel
theorem d_MC_giveBack_7 : decode b_MC_giveBack 7 = .ok (.putfield 53, 3) := by decide +kernel
theorem d_MC_giveBack_10 : decode b_MC_giveBack 10 = .ok (.aload_n 0, 1) := by decide +kernel
theorem d_MC_giveBack_11 : decode b_MC_giveBack 11 = .ok (.getfield 53, 3) := by decide +kernel
theorem d_MC_giveBack_14 : decode b_MC_giveBack 14 = .ok (.ifCond .ne 10, 3) := by decide +kernel
theorem d_MC_giveBack_17 : decode b_MC_giveBack 17 = .ok (.aload_n 0, 1) := by decide +kernel
theorem d_MC_giveBack_18 : decode b_MC_giveBack 18 = .ok (.iconst 0, 1) := by decide +kernel
theorem d_MC_giveBack_19 : decode b_MC_giveBack 19 = .ok (.iload_n 1, 1) := by decide +kernel
theorem d_MC_giveBack_20 : decode b_MC_giveBack 20 = .ok (.invokevirtual 80, 3) := by decide +kernel
theorem d_MC_giveBack_23 : decode b_MC_giveBack 23 = .ok (.return_, 1) := by decide +kernel
theorem d_MC_giveBack_24 : decode b_MC_giveBack 24 = .ok (.aload_n 0, 1) := by decide +kernel
theorem d_MC_giveBack_25 : decode b_MC_giveBack 25 = .ok (.getfield 13, 3) := by decide +kernel
theorem d_MC_giveBack_28 : decode b_MC_giveBack 28 = .ok (.aload_n 0, 1) := by decide +kernel
theorem d_MC_giveBack_29 : decode b_MC_giveBack 29 = .ok (.getfield 53, 3) := by decide +kernel
theorem d_MC_giveBack_32 : decode b_MC_giveBack 32 = .ok (.iconst 1, 1) := by decide +kernel
theorem d_MC_giveBack_33 : decode b_MC_giveBack 33 = .ok (.isub, 1) := by decide +kernel
theorem d_MC_giveBack_34 : decode b_MC_giveBack 34 = .ok (.aaload, 1) := by decide +kernel
theorem d_MC_giveBack_35 : decode b_MC_giveBack 35 = .ok (.astore_n 2, 1) := by decide +kernel
theorem d_MC_giveBack_36 : decode b_MC_giveBack 36 = .ok (.aload_n 2, 1) := by decide +kernel
theorem d_MC_giveBack_37 : decode b_MC_giveBack 37 = .ok (.iload_n 1, 1) := by decide +kernel
theorem d_MC_giveBack_38 : decode b_MC_giveBack 38 = .ok (.invokevirtual 108, 3) := by decide +kernel
theorem d_MC_giveBack_41 : decode b_MC_giveBack 41 = .ok (.aload_n 2, 1) := by decide +kernel
theorem d_MC_giveBack_42 : decode b_MC_giveBack 42 = .ok (.dup, 1) := by decide +kernel
theorem d_MC_giveBack_43 : decode b_MC_giveBack 43 = .ok (.getfield 67, 3) := by decide +kernel
theorem d_MC_giveBack_46 : decode b_MC_giveBack 46 = .ok (.bipush 13, 2) := by decide +kernel
theorem d_MC_giveBack_48 : decode b_MC_giveBack 48 = .ok (.invokestatic 111, 3) := by decide +kernel
theorem d_MC_giveBack_51 : decode b_MC_giveBack 51 = .ok (.iadd, 1) := by decide +kernel
theorem d_MC_giveBack_52 : decode b_MC_giveBack 52 = .ok (.putfield 67, 3) := by decide +kernel
theorem d_MC_giveBack_55 : decode b_MC_giveBack 55 = .ok (.return_, 1) := by decide +kernel
theorem d_MC_raise_0 : decode b_MC_raise 0 = .ok (.aload_n 0, 1) := by decide +kernel
theorem d_MC_raise_1 : decode b_MC_raise 1 = .ok (.getfield 53, 3) := by decide +kernel
theorem d_MC_raise_4 : decode b_MC_raise 4 = .ok (.ifCond .le 58, 3) := by decide +kernel
theorem d_MC_raise_7 : decode b_MC_raise 7 = .ok (.aload_n 0, 1) := by decide +kernel
theorem d_MC_raise_8 : decode b_MC_raise 8 = .ok (.getfield 13, 3) := by decide +kernel
theorem d_MC_raise_11 : decode b_MC_raise 11 = .ok (.aload_n 0, 1) := by decide +kernel
theorem d_MC_raise_12 : decode b_MC_raise 12 = .ok (.getfield 53, 3) := by decide +kernel
theorem d_MC_raise_15 : decode b_MC_raise 15 = .ok (.iconst 1, 1) := by decide +kernel
theorem d_MC_raise_16 : decode b_MC_raise 16 = .ok (.isub, 1) := by decide +kernel
theorem d_MC_raise_17 : decode b_MC_raise 17 = .ok (.aaload, 1) := by decide +kernel
theorem d_MC_raise_18 : decode b_MC_raise 18 = .ok (.astore_n 3, 1) := by decide +kernel
theorem d_MC_raise_19 : decode b_MC_raise 19 = .ok (.aload_n 2, 1) := by decide +kernel
theorem d_MC_raise_20 : decode b_MC_raise 20 = .ok (.aload_n 3, 1) := by decide +kernel
theorem d_MC_raise_21 : decode b_MC_raise 21 = .ok (.getfield 64, 3) := by decide +kernel
theorem d_MC_raise_24 : decode b_MC_raise 24 = .ok (.aaload, 1) := by decide +kernel
theorem d_MC_raise_25 : decode b_MC_raise 25 = .ok (.aload_n 3, 1) := by decide +kernel
theorem d_MC_raise_26 : decode b_MC_raise 26 = .ok (.getfield 67, 3) := by decide +kernel
theorem d_MC_raise_29 : decode b_MC_raise 29 = .ok (.iload_n 1, 1) := by decide +kernel
theorem d_MC_raise_30 : decode b_MC_raise 30 = .ok (.invokevirtual 114, 3) := by decide +kernel
theorem d_MC_raise_33 : decode b_MC_raise 33 = .ok (.istore 4, 2) := by decide +kernel
theorem d_MC_raise_35 : decode b_MC_raise 35 = .ok (.iload 4, 2) := by decide +kernel
theorem d_MC_raise_37 : decode b_MC_raise 37 = .ok (.iconst (-1), 1) := by decide +kernel
theorem d_MC_raise_38 : decode b_MC_raise 38 = .ok (.if_icmp .eq 11, 3) := by decide +kernel
theorem d_MC_raise_41 : decode b_MC_raise 41 = .ok (.aload_n 3, 1) := by decide +kernel
theorem d_MC_raise_42 : decode b_MC_raise 42 = .ok (.iload_n 1, 1) := by decide +kernel
theorem d_MC_raise_43 : decode b_MC_raise 43 = .ok (.iload 4, 2) := by decide +kernel
theorem d_MC_raise_45 : decode b_MC_raise 45 = .ok (.invokevirtual 118, 3) := by decide +kernel
theorem d_MC_raise_48 : decode b_MC_raise 48 = .ok (.return_, 1) := by decide +kernel
theorem d_MC_raise_49 : decode b_MC_raise 49 = .ok (.aload_n 0, 1) := by decide +kernel
theorem d_MC_raise_50 : decode b_MC_raise 50 = .ok (.dup, 1) := by decide +kernel
theorem d_MC_raise_51 : decode b_MC_raise 51 = .ok (.getfield 53, 3) := by decide +kernel
theorem d_MC_raise_54 : decode b_MC_raise 54 = .ok (.iconst 1, 1) := by decide +kernel
theorem d_MC_raise_55 : decode b_MC_raise 55 = .ok (.isub, 1) := by decide +kernel
theorem d_MC_raise_56 : decode b_MC_raise 56 = .ok (.putfield 53, 3) := by decide +kernel
theorem d_MC_raise_59 : decode b_MC_raise 59 = .ok (.goto (-59), 3) := by decide +kernel
theorem d_MC_raise_62 : decode b_MC_raise 62 = .ok (.aload_n 0, 1) := by decide +kernel
theorem d_MC_raise_63 : decode b_MC_raise 63 = .ok (.iconst 1, 1) := by decide +kernel
theorem d_MC_raise_64 : decode b_MC_raise 64 = .ok (.iload_n 1, 1) := by decide +kernel
theorem d_MC_raise_65 : decode b_MC_raise 65 = .ok (.invokevirtual 80, 3) := by decide +kernel
theorem d_MC_raise_68 : decode b_MC_raise 68 = .ok (.return_, 1) := by decide +kernel
theorem d_MC_divide_0 : decode b_MC_divide 0 = .ok (.aload_n 1, 1) := by decide +kernel
theorem d_MC_divide_1 : decode b_MC_divide 1 = .ok (.invokevirtual 88, 3) := by decide +kernel
theorem d_MC_divide_4 : decode b_MC_divide 4 = .ok (.istore_n 3, 1) := by decide +kernel
theorem d_MC_divide_5 : decode b_MC_divide 5 = .ok (.aload_n 1, 1) := by decide +kernel
theorem d_MC_divide_6 : decode b_MC_divide 6 = .ok (.invokevirtual 88, 3) := by decide +kernel
theorem d_MC_divide_9 : decode b_MC_divide 9 = .ok (.istore 4, 2) := by decide +kernel
theorem d_MC_divide_11 : decode b_MC_divide 11 = .ok (.iload_n 3, 1) := by decide +kernel
theorem d_MC_divide_12 : decode b_MC_divide 12 = .ok (.ifCond .ne 10, 3) := by decide +kernel
theorem d_MC_divide_15 : decode b_MC_divide 15 = .ok (.aload_n 0, 1) := by decide +kernel
theorem d_MC_divide_16 : decode b_MC_divide 16 = .ok (.iconst 1, 1) := by decide +kernel
theorem d_MC_divide_17 : decode b_MC_divide 17 = .ok (.aload_n 2, 1) := by decide +kernel
theorem d_MC_divide_18 : decode b_MC_divide 18 = .ok (.invokevirtual 96, 3) := by decide +kernel
theorem d_MC_divide_21 : decode b_MC_divide 21 = .ok (.return_, 1) := by decide +kernel
theorem d_MC_divide_22 : decode b_MC_divide 22 = .ok (.aload_n 1, 1) := by decide +kernel
theorem d_MC_divide_23 : decode b_MC_divide 23 = .ok (.iload 4, 2) := by decide +kernel
theorem d_MC_divide_25 : decode b_MC_divide 25 = .ok (.iload_n 3, 1) := by decide +kernel
theorem d_MC_divide_26 : decode b_MC_divide 26 = .ok (.idiv, 1) := by decide +kernel
theorem d_MC_divide_27 : decode b_MC_divide 27 = .ok (.invokevirtual 108, 3) := by decide +kernel
theorem d_MC_divide_30 : decode b_MC_divide 30 = .ok (.aload_n 1, 1) := by decide +kernel
theorem d_MC_divide_31 : decode b_MC_divide 31 = .ok (.dup, 1) := by decide +kernel
theorem d_MC_divide_32 : decode b_MC_divide 32 = .ok (.getfield 67, 3) := by decide +kernel
theorem d_MC_divide_35 : decode b_MC_divide 35 = .ok (.bipush 7, 2) := by decide +kernel
theorem d_MC_divide_37 : decode b_MC_divide 37 = .ok (.invokestatic 111, 3) := by decide +kernel
theorem d_MC_divide_40 : decode b_MC_divide 40 = .ok (.iadd, 1) := by decide +kernel
theorem d_MC_divide_41 : decode b_MC_divide 41 = .ok (.putfield 67, 3) := by decide +kernel
theorem d_MC_divide_44 : decode b_MC_divide 44 = .ok (.return_, 1) := by decide +kernel
theorem d_MC_calculate_0 : decode b_MC_calculate 0 = .ok (.aload_n 1, 1) := by decide +kernel
theorem d_MC_calculate_1 : decode b_MC_calculate 1 = .ok (.invokevirtual 88, 3) := by decide +kernel
theorem d_MC_calculate_4 : decode b_MC_calculate 4 = .ok (.istore_n 3, 1) := by decide +kernel
theorem d_MC_calculate_5 : decode b_MC_calculate 5 = .ok (.aload_n 1, 1) := by decide +kernel
theorem d_MC_calculate_6 : decode b_MC_calculate 6 = .ok (.invokevirtual 88, 3) := by decide +kernel
theorem d_MC_calculate_9 : decode b_MC_calculate 9 = .ok (.istore 4, 2) := by decide +kernel
theorem d_MC_calculate_11 : decode b_MC_calculate 11 = .ok (.iload_n 2, 1) := by decide +kernel
theorem d_MC_calculate_12 : decode b_MC_calculate 12 = .ok (.iconst 4, 1) := by decide +kernel
theorem d_MC_calculate_13 : decode b_MC_calculate 13 = .ok (.if_icmp .ne 14, 3) := by decide +kernel
theorem d_MC_calculate_16 : decode b_MC_calculate 16 = .ok (.aload_n 1, 1) := by decide +kernel
theorem d_MC_calculate_17 : decode b_MC_calculate 17 = .ok (.iload 4, 2) := by decide +kernel
theorem d_MC_calculate_19 : decode b_MC_calculate 19 = .ok (.iload_n 3, 1) := by decide +kernel
theorem d_MC_calculate_20 : decode b_MC_calculate 20 = .ok (.iadd, 1) := by decide +kernel
theorem d_MC_calculate_21 : decode b_MC_calculate 21 = .ok (.invokevirtual 108, 3) := by decide +kernel
theorem d_MC_calculate_24 : decode b_MC_calculate 24 = .ok (.goto 27, 3) := by decide +kernel
theorem d_MC_calculate_27 : decode b_MC_calculate 27 = .ok (.iload_n 2, 1) := by decide +kernel
theorem d_MC_calculate_28 : decode b_MC_calculate 28 = .ok (.iconst 5, 1) := by decide +kernel
theorem d_MC_calculate_29 : decode b_MC_calculate 29 = .ok (.if_icmp .ne 14, 3) := by decide +kernel
theorem d_MC_calculate_32 : decode b_MC_calculate 32 = .ok (.aload_n 1, 1) := by decide +kernel
theorem d_MC_calculate_33 : decode b_MC_calculate 33 = .ok (.iload 4, 2) := by decide +kernel
theorem d_MC_calculate_35 : decode b_MC_calculate 35 = .ok (.iload_n 3, 1) := by decide +kernel
theorem d_MC_calculate_36 : decode b_MC_calculate 36 = .ok (.isub, 1) := by decide +kernel
theorem d_MC_calculate_37 : decode b_MC_calculate 37 = .ok (.invokevirtual 108, 3) := by decide +kernel
theorem d_MC_calculate_40 : decode b_MC_calculate 40 = .ok (.goto 11, 3) := by decide +kernel
theorem d_MC_calculate_43 : decode b_MC_calculate 43 = .ok (.aload_n 1, 1) := by decide +kernel
theorem d_MC_calculate_44 : decode b_MC_calculate 44 = .ok (.iload 4, 2) := by decide +kernel
theorem d_MC_calculate_46 : decode b_MC_calculate 46 = .ok (.iload_n 3, 1) := by decide +kernel
theorem d_MC_calculate_47 : decode b_MC_calculate 47 = .ok (.imul, 1) := by decide +kernel
theorem d_MC_calculate_48 : decode b_MC_calculate 48 = .ok (.invokevirtual 108, 3) := by decide +kernel
theorem d_MC_calculate_51 : decode b_MC_calculate 51 = .ok (.return_, 1) := by decide +kernel
theorem d_MC_noteMark_0 : decode b_MC_noteMark 0 = .ok (.aload_n 0, 1) := by decide +kernel
theorem d_MC_noteMark_1 : decode b_MC_noteMark 1 = .ok (.getfield 32, 3) := by decide +kernel
theorem d_MC_noteMark_4 : decode b_MC_noteMark 4 = .ok (.bipush 100, 2) := by decide +kernel
theorem d_MC_noteMark_6 : decode b_MC_noteMark 6 = .ok (.if_icmp .ge 18, 3) := by decide +kernel
theorem d_MC_noteMark_9 : decode b_MC_noteMark 9 = .ok (.aload_n 0, 1) := by decide +kernel
theorem d_MC_noteMark_10 : decode b_MC_noteMark 10 = .ok (.getfield 17, 3) := by decide +kernel
theorem d_MC_noteMark_13 : decode b_MC_noteMark 13 = .ok (.aload_n 0, 1) := by decide +kernel
theorem d_MC_noteMark_14 : decode b_MC_noteMark 14 = .ok (.getfield 32, 3) := by decide +kernel
theorem d_MC_noteMark_17 : decode b_MC_noteMark 17 = .ok (.bipush 16, 2) := by decide +kernel
theorem d_MC_noteMark_19 : decode b_MC_noteMark 19 = .ok (.iload_n 1, 1) := by decide +kernel
theorem d_MC_noteMark_20 : decode b_MC_noteMark 20 = .ok (.imul, 1) := by decide +kernel
theorem d_MC_noteMark_21 : decode b_MC_noteMark 21 = .ok (.iload_n 2, 1) := by decide +kernel
theorem d_MC_noteMark_22 : decode b_MC_noteMark 22 = .ok (.iadd, 1) := by decide +kernel
theorem d_MC_noteMark_23 : decode b_MC_noteMark 23 = .ok (.iastore, 1) := by decide +kernel
theorem d_MC_noteMark_24 : decode b_MC_noteMark 24 = .ok (.aload_n 0, 1) := by decide +kernel
theorem d_MC_noteMark_25 : decode b_MC_noteMark 25 = .ok (.dup, 1) := by decide +kernel
theorem d_MC_noteMark_26 : decode b_MC_noteMark 26 = .ok (.getfield 32, 3) := by decide +kernel
theorem d_MC_noteMark_29 : decode b_MC_noteMark 29 = .ok (.iconst 1, 1) := by decide +kernel
theorem d_MC_noteMark_30 : decode b_MC_noteMark 30 = .ok (.iadd, 1) := by decide +kernel
theorem d_MC_noteMark_31 : decode b_MC_noteMark 31 = .ok (.putfield 32, 3) := by decide +kernel
theorem d_MC_noteMark_34 : decode b_MC_noteMark 34 = .ok (.return_, 1) := by decide +kernel
theorem d_MC_noteProbe_0 : decode b_MC_noteProbe 0 = .ok (.iload_n 2, 1) := by decide +kernel
theorem d_MC_noteProbe_1 : decode b_MC_noteProbe 1 = .ok (.bipush 40, 2) := by decide +kernel
theorem d_MC_noteProbe_3 : decode b_MC_noteProbe 3 = .ok (.if_icmp .ge 18, 3) := by decide +kernel
theorem d_MC_noteProbe_6 : decode b_MC_noteProbe 6 = .ok (.aload_n 0, 1) := by decide +kernel
theorem d_MC_noteProbe_7 : decode b_MC_noteProbe 7 = .ok (.getfield 21, 3) := by decide +kernel
theorem d_MC_noteProbe_10 : decode b_MC_noteProbe 10 = .ok (.iload_n 1, 1) := by decide +kernel
theorem d_MC_noteProbe_11 : decode b_MC_noteProbe 11 = .ok (.bipush 40, 2) := by decide +kernel
theorem d_MC_noteProbe_13 : decode b_MC_noteProbe 13 = .ok (.imul, 1) := by decide +kernel
theorem d_MC_noteProbe_14 : decode b_MC_noteProbe 14 = .ok (.iload_n 2, 1) := by decide +kernel
theorem d_MC_noteProbe_15 : decode b_MC_noteProbe 15 = .ok (.iadd, 1) := by decide +kernel
theorem d_MC_noteProbe_16 : decode b_MC_noteProbe 16 = .ok (.dup2, 1) := by decide +kernel
theorem d_MC_noteProbe_17 : decode b_MC_noteProbe 17 = .ok (.iaload, 1) := by decide +kernel
theorem d_MC_noteProbe_18 : decode b_MC_noteProbe 18 = .ok (.iconst 1, 1) := by decide +kernel
theorem d_MC_noteProbe_19 : decode b_MC_noteProbe 19 = .ok (.iadd, 1) := by decide +kernel
theorem d_MC_noteProbe_20 : decode b_MC_noteProbe 20 = .ok (.iastore, 1) := by decide +kernel
theorem d_MC_noteProbe_21 : decode b_MC_noteProbe 21 = .ok (.return_, 1) := by decide +kernel
theorem d_MC_move_0 : decode b_MC_move 0 = .ok (.aload_n 2, 1) := by decide +kernel
theorem d_MC_move_1 : decode b_MC_move 1 = .ok (.aload_n 1, 1) := by decide +kernel
theorem d_MC_move_2 : decode b_MC_move 2 = .ok (.getfield 67, 3) := by decide +kernel
theorem d_MC_move_5 : decode b_MC_move 5 = .ok (.iconst 1, 1) := by decide +kernel
theorem d_MC_move_6 : decode b_MC_move 6 = .ok (.iadd, 1) := by decide +kernel
theorem d_MC_move_7 : decode b_MC_move 7 = .ok (.invokevirtual 70, 3) := by decide +kernel
theorem d_MC_move_10 : decode b_MC_move 10 = .ok (.istore 4, 2) := by decide +kernel
theorem d_MC_move_12 : decode b_MC_move 12 = .ok (.iload_n 3, 1) := by decide +kernel
theorem d_MC_move_13 : decode b_MC_move 13 = .ok (.tableswitch 161 1 16 #[79, 91, 104, 161, 161, 161, 161, 146, 153, 161, 161, 161, 161, 161, 161, 117], 79) := by decide +kernel
theorem d_MC_move_92 : decode b_MC_move 92 = .ok (.aload_n 1, 1) := by decide +kernel
theorem d_MC_move_93 : decode b_MC_move 93 = .ok (.iload 4, 2) := by decide +kernel
theorem d_MC_move_95 : decode b_MC_move 95 = .ok (.invokestatic 138, 3) := by decide +kernel
theorem d_MC_move_98 : decode b_MC_move 98 = .ok (.invokevirtual 108, 3) := by decide +kernel
theorem d_MC_move_101 : decode b_MC_move 101 = .ok (.goto 73, 3) := by decide +kernel
theorem d_MC_move_104 : decode b_MC_move 104 = .ok (.aload_n 1, 1) := by decide +kernel
theorem d_MC_move_105 : decode b_MC_move 105 = .ok (.aload_n 1, 1) := by decide +kernel
theorem d_MC_move_106 : decode b_MC_move 106 = .ok (.iload 4, 2) := by decide +kernel
theorem d_MC_move_108 : decode b_MC_move 108 = .ok (.invokevirtual 141, 3) := by decide +kernel
theorem d_MC_move_111 : decode b_MC_move 111 = .ok (.invokevirtual 108, 3) := by decide +kernel
theorem d_MC_move_114 : decode b_MC_move 114 = .ok (.goto 60, 3) := by decide +kernel
theorem d_MC_move_117 : decode b_MC_move 117 = .ok (.aload_n 1, 1) := by decide +kernel
theorem d_MC_move_118 : decode b_MC_move 118 = .ok (.iload 4, 2) := by decide +kernel
theorem d_MC_move_120 : decode b_MC_move 120 = .ok (.aload_n 1, 1) := by decide +kernel
theorem d_MC_move_121 : decode b_MC_move 121 = .ok (.invokevirtual 88, 3) := by decide +kernel
theorem d_MC_move_124 : decode b_MC_move 124 = .ok (.invokevirtual 144, 3) := by decide +kernel
theorem d_MC_move_127 : decode b_MC_move 127 = .ok (.goto 47, 3) := by decide +kernel
theorem d_MC_move_130 : decode b_MC_move 130 = .ok (.aload_n 1, 1) := by decide +kernel
theorem d_MC_move_131 : decode b_MC_move 131 = .ok (.iload 4, 2) := by decide +kernel
theorem d_MC_move_133 : decode b_MC_move 133 = .ok (.aload_n 1, 1) := by decide +kernel
theorem d_MC_move_134 : decode b_MC_move 134 = .ok (.iload 4, 2) := by decide +kernel
theorem d_MC_move_136 : decode b_MC_move 136 = .ok (.invokevirtual 141, 3) := by decide +kernel
theorem d_MC_move_139 : decode b_MC_move 139 = .ok (.aload_n 2, 1) := by decide +kernel
theorem d_MC_move_140 : decode b_MC_move 140 = .ok (.aload_n 1, 1) := by decide +kernel
theorem d_MC_move_141 : decode b_MC_move 141 = .ok (.getfield 67, 3) := by decide +kernel
theorem d_MC_move_144 : decode b_MC_move 144 = .ok (.iconst 2, 1) := by decide +kernel
theorem d_MC_move_145 : decode b_MC_move 145 = .ok (.iadd, 1) := by decide +kernel
theorem d_MC_move_146 : decode b_MC_move 146 = .ok (.invokevirtual 70, 3) := by decide +kernel
theorem d_MC_move_149 : decode b_MC_move 149 = .ok (.invokestatic 138, 3) := by decide +kernel
theorem d_MC_move_152 : decode b_MC_move 152 = .ok (.iadd, 1) := by decide +kernel
theorem d_MC_move_153 : decode b_MC_move 153 = .ok (.invokevirtual 144, 3) := by decide +kernel
theorem d_MC_move_156 : decode b_MC_move 156 = .ok (.goto 18, 3) := by decide +kernel
theorem d_MC_move_159 : decode b_MC_move 159 = .ok (.aload_n 1, 1) := by decide +kernel
theorem d_MC_move_160 : decode b_MC_move 160 = .ok (.invokevirtual 147, 3) := by decide +kernel
theorem d_MC_move_163 : decode b_MC_move 163 = .ok (.goto 11, 3) := by decide +kernel
theorem d_MC_move_166 : decode b_MC_move 166 = .ok (.aload_n 1, 1) := by decide +kernel
theorem d_MC_move_167 : decode b_MC_move 167 = .ok (.invokevirtual 88, 3) := by decide +kernel
theorem d_MC_move_170 : decode b_MC_move 170 = .ok (.pop, 1) := by decide +kernel
theorem d_MC_move_171 : decode b_MC_move 171 = .ok (.goto 3, 3) := by decide +kernel
theorem d_MC_move_174 : decode b_MC_move 174 = .ok (.return_, 1) := by decide +kernel
theorem d_MC_wayOn_0 : decode b_MC_wayOn 0 = .ok (.iconst 0, 1) := by decide +kernel
theorem d_MC_wayOn_1 : decode b_MC_wayOn 1 = .ok (.istore 4, 2) := by decide +kernel
theorem d_MC_wayOn_3 : decode b_MC_wayOn 3 = .ok (.iload_n 3, 1) := by decide +kernel
theorem d_MC_wayOn_4 : decode b_MC_wayOn 4 = .ok (.tableswitch 219 4 31 #[168, 168, 168, 219, 219, 219, 128, 134, 151, 219, 219, 219, 219, 219, 219, 219, 128, 134, 151, 219, 219, 219, 219, 219, 219, 219, 177, 198], 128) := by decide +kernel
theorem d_MC_wayOn_132 : decode b_MC_wayOn 132 = .ok (.iconst 1, 1) := by decide +kernel
theorem d_MC_wayOn_133 : decode b_MC_wayOn 133 = .ok (.istore 4, 2) := by decide +kernel
theorem d_MC_wayOn_135 : decode b_MC_wayOn 135 = .ok (.goto 95, 3) := by decide +kernel
theorem d_MC_wayOn_138 : decode b_MC_wayOn 138 = .ok (.aload_n 1, 1) := by decide +kernel
theorem d_MC_wayOn_139 : decode b_MC_wayOn 139 = .ok (.invokevirtual 88, 3) := by decide +kernel
theorem d_MC_wayOn_142 : decode b_MC_wayOn 142 = .ok (.ifCond .ne 7, 3) := by decide +kernel
theorem d_MC_wayOn_145 : decode b_MC_wayOn 145 = .ok (.iconst 1, 1) := by decide +kernel
theorem d_MC_wayOn_146 : decode b_MC_wayOn 146 = .ok (.goto 4, 3) := by decide +kernel
theorem d_MC_wayOn_149 : decode b_MC_wayOn 149 = .ok (.iconst 0, 1) := by decide +kernel
theorem d_MC_wayOn_150 : decode b_MC_wayOn 150 = .ok (.istore 4, 2) := by decide +kernel
theorem d_MC_wayOn_152 : decode b_MC_wayOn 152 = .ok (.goto 78, 3) := by decide +kernel
theorem d_MC_wayOn_155 : decode b_MC_wayOn 155 = .ok (.aload_n 1, 1) := by decide +kernel
theorem d_MC_wayOn_156 : decode b_MC_wayOn 156 = .ok (.invokevirtual 88, 3) := by decide +kernel
theorem d_MC_wayOn_159 : decode b_MC_wayOn 159 = .ok (.ifCond .ge 7, 3) := by decide +kernel
theorem d_MC_wayOn_162 : decode b_MC_wayOn 162 = .ok (.iconst 1, 1) := by decide +kernel
theorem d_MC_wayOn_163 : decode b_MC_wayOn 163 = .ok (.goto 4, 3) := by decide +kernel
theorem d_MC_wayOn_166 : decode b_MC_wayOn 166 = .ok (.iconst 0, 1) := by decide +kernel
theorem d_MC_wayOn_167 : decode b_MC_wayOn 167 = .ok (.istore 4, 2) := by decide +kernel
theorem d_MC_wayOn_169 : decode b_MC_wayOn 169 = .ok (.goto 61, 3) := by decide +kernel
theorem d_MC_wayOn_172 : decode b_MC_wayOn 172 = .ok (.aload_n 0, 1) := by decide +kernel
theorem d_MC_wayOn_173 : decode b_MC_wayOn 173 = .ok (.aload_n 1, 1) := by decide +kernel
theorem d_MC_wayOn_174 : decode b_MC_wayOn 174 = .ok (.iload_n 3, 1) := by decide +kernel
theorem d_MC_wayOn_175 : decode b_MC_wayOn 175 = .ok (.invokevirtual 121, 3) := by decide +kernel
theorem d_MC_wayOn_178 : decode b_MC_wayOn 178 = .ok (.goto 52, 3) := by decide +kernel
theorem d_MC_wayOn_181 : decode b_MC_wayOn 181 = .ok (.aload_n 0, 1) := by decide +kernel
theorem d_MC_wayOn_182 : decode b_MC_wayOn 182 = .ok (.aload_n 1, 1) := by decide +kernel
theorem d_MC_wayOn_183 : decode b_MC_wayOn 183 = .ok (.getfield 64, 3) := by decide +kernel
theorem d_MC_wayOn_186 : decode b_MC_wayOn 186 = .ok (.aload_n 2, 1) := by decide +kernel
theorem d_MC_wayOn_187 : decode b_MC_wayOn 187 = .ok (.aload_n 1, 1) := by decide +kernel
theorem d_MC_wayOn_188 : decode b_MC_wayOn 188 = .ok (.getfield 67, 3) := by decide +kernel
theorem d_MC_wayOn_191 : decode b_MC_wayOn 191 = .ok (.iconst 1, 1) := by decide +kernel
theorem d_MC_wayOn_192 : decode b_MC_wayOn 192 = .ok (.iadd, 1) := by decide +kernel
theorem d_MC_wayOn_193 : decode b_MC_wayOn 193 = .ok (.invokevirtual 70, 3) := by decide +kernel
theorem d_MC_wayOn_196 : decode b_MC_wayOn 196 = .ok (.invokevirtual 125, 3) := by decide +kernel
theorem d_MC_wayOn_199 : decode b_MC_wayOn 199 = .ok (.goto 31, 3) := by decide +kernel
theorem d_MC_wayOn_202 : decode b_MC_wayOn 202 = .ok (.aload_n 0, 1) := by decide +kernel
theorem d_MC_wayOn_203 : decode b_MC_wayOn 203 = .ok (.aload_n 1, 1) := by decide +kernel
theorem d_MC_wayOn_204 : decode b_MC_wayOn 204 = .ok (.getfield 64, 3) := by decide +kernel
theorem d_MC_wayOn_207 : decode b_MC_wayOn 207 = .ok (.aload_n 2, 1) := by decide +kernel
theorem d_MC_wayOn_208 : decode b_MC_wayOn 208 = .ok (.aload_n 1, 1) := by decide +kernel
theorem d_MC_wayOn_209 : decode b_MC_wayOn 209 = .ok (.getfield 67, 3) := by decide +kernel
theorem d_MC_wayOn_212 : decode b_MC_wayOn 212 = .ok (.iconst 1, 1) := by decide +kernel
theorem d_MC_wayOn_213 : decode b_MC_wayOn 213 = .ok (.iadd, 1) := by decide +kernel
theorem d_MC_wayOn_214 : decode b_MC_wayOn 214 = .ok (.invokevirtual 70, 3) := by decide +kernel
theorem d_MC_wayOn_217 : decode b_MC_wayOn 217 = .ok (.invokevirtual 128, 3) := by decide +kernel
theorem d_MC_wayOn_220 : decode b_MC_wayOn 220 = .ok (.goto 10, 3) := by decide +kernel
theorem d_MC_wayOn_223 : decode b_MC_wayOn 223 = .ok (.aload_n 0, 1) := by decide +kernel
theorem d_MC_wayOn_224 : decode b_MC_wayOn 224 = .ok (.aload_n 1, 1) := by decide +kernel
theorem d_MC_wayOn_225 : decode b_MC_wayOn 225 = .ok (.aload_n 2, 1) := by decide +kernel
theorem d_MC_wayOn_226 : decode b_MC_wayOn 226 = .ok (.iload_n 3, 1) := by decide +kernel
theorem d_MC_wayOn_227 : decode b_MC_wayOn 227 = .ok (.invokevirtual 131, 3) := by decide +kernel
theorem d_MC_wayOn_230 : decode b_MC_wayOn 230 = .ok (.iload 4, 2) := by decide +kernel
theorem d_MC_wayOn_232 : decode b_MC_wayOn 232 = .ok (.ifCond .eq 14, 3) := by decide +kernel
theorem d_MC_wayOn_235 : decode b_MC_wayOn 235 = .ok (.aload_n 2, 1) := by decide +kernel
theorem d_MC_wayOn_236 : decode b_MC_wayOn 236 = .ok (.aload_n 1, 1) := by decide +kernel
theorem d_MC_wayOn_237 : decode b_MC_wayOn 237 = .ok (.getfield 67, 3) := by decide +kernel
theorem d_MC_wayOn_240 : decode b_MC_wayOn 240 = .ok (.invokevirtual 135, 3) := by decide +kernel
theorem d_MC_wayOn_243 : decode b_MC_wayOn 243 = .ok (.goto 7, 3) := by decide +kernel
theorem d_MC_wayOn_246 : decode b_MC_wayOn 246 = .ok (.iload_n 3, 1) := by decide +kernel
theorem d_MC_wayOn_247 : decode b_MC_wayOn 247 = .ok (.invokestatic 111, 3) := by decide +kernel
theorem d_MC_wayOn_250 : decode b_MC_wayOn 250 = .ok (.ireturn, 1) := by decide +kernel
theorem d_MC_advance_0 : decode b_MC_advance 0 = .ok (.aload_n 0, 1) := by decide +kernel
theorem d_MC_advance_1 : decode b_MC_advance 1 = .ok (.getfield 13, 3) := by decide +kernel
theorem d_MC_advance_4 : decode b_MC_advance 4 = .ok (.aload_n 0, 1) := by decide +kernel
theorem d_MC_advance_5 : decode b_MC_advance 5 = .ok (.getfield 53, 3) := by decide +kernel
theorem d_MC_advance_8 : decode b_MC_advance 8 = .ok (.iconst 1, 1) := by decide +kernel
theorem d_MC_advance_9 : decode b_MC_advance 9 = .ok (.isub, 1) := by decide +kernel
theorem d_MC_advance_10 : decode b_MC_advance 10 = .ok (.aaload, 1) := by decide +kernel
theorem d_MC_advance_11 : decode b_MC_advance 11 = .ok (.astore_n 2, 1) := by decide +kernel
theorem d_MC_advance_12 : decode b_MC_advance 12 = .ok (.aload_n 1, 1) := by decide +kernel
theorem d_MC_advance_13 : decode b_MC_advance 13 = .ok (.aload_n 2, 1) := by decide +kernel
theorem d_MC_advance_14 : decode b_MC_advance 14 = .ok (.getfield 64, 3) := by decide +kernel
theorem d_MC_advance_17 : decode b_MC_advance 17 = .ok (.aaload, 1) := by decide +kernel
theorem d_MC_advance_18 : decode b_MC_advance 18 = .ok (.astore_n 3, 1) := by decide +kernel
theorem d_MC_advance_19 : decode b_MC_advance 19 = .ok (.aload_n 3, 1) := by decide +kernel
theorem d_MC_advance_20 : decode b_MC_advance 20 = .ok (.aload_n 2, 1) := by decide +kernel
theorem d_MC_advance_21 : decode b_MC_advance 21 = .ok (.getfield 67, 3) := by decide +kernel
theorem d_MC_advance_24 : decode b_MC_advance 24 = .ok (.invokevirtual 70, 3) := by decide +kernel
theorem d_MC_advance_27 : decode b_MC_advance 27 = .ok (.istore 4, 2) := by decide +kernel
theorem d_MC_advance_29 : decode b_MC_advance 29 = .ok (.iload 4, 2) := by decide +kernel
theorem d_MC_advance_31 : decode b_MC_advance 31 = .ok (.invokestatic 74, 3) := by decide +kernel
theorem d_MC_advance_34 : decode b_MC_advance 34 = .ok (.ifCond .ne 31, 3) := by decide +kernel
theorem d_MC_advance_37 : decode b_MC_advance 37 = .ok (.aload_n 0, 1) := by decide +kernel
theorem d_MC_advance_38 : decode b_MC_advance 38 = .ok (.getfield 29, 3) := by decide +kernel
theorem d_MC_advance_41 : decode b_MC_advance 41 = .ok (.aload_n 0, 1) := by decide +kernel
theorem d_MC_advance_42 : decode b_MC_advance 42 = .ok (.getfield 25, 3) := by decide +kernel
theorem d_MC_advance_45 : decode b_MC_advance 45 = .ok (.if_icmp .lt 10, 3) := by decide +kernel
theorem d_MC_advance_48 : decode b_MC_advance 48 = .ok (.aload_n 0, 1) := by decide +kernel
theorem d_MC_advance_49 : decode b_MC_advance 49 = .ok (.iconst 2, 1) := by decide +kernel
theorem d_MC_advance_50 : decode b_MC_advance 50 = .ok (.iconst 0, 1) := by decide +kernel
theorem d_MC_advance_51 : decode b_MC_advance 51 = .ok (.invokevirtual 80, 3) := by decide +kernel
theorem d_MC_advance_54 : decode b_MC_advance 54 = .ok (.return_, 1) := by decide +kernel
theorem d_MC_advance_55 : decode b_MC_advance 55 = .ok (.aload_n 0, 1) := by decide +kernel
theorem d_MC_advance_56 : decode b_MC_advance 56 = .ok (.dup, 1) := by decide +kernel
theorem d_MC_advance_57 : decode b_MC_advance 57 = .ok (.getfield 29, 3) := by decide +kernel
theorem d_MC_advance_60 : decode b_MC_advance 60 = .ok (.iconst 1, 1) := by decide +kernel
theorem d_MC_advance_61 : decode b_MC_advance 61 = .ok (.iadd, 1) := by decide +kernel
theorem d_MC_advance_62 : decode b_MC_advance 62 = .ok (.putfield 29, 3) := by decide +kernel
theorem d_MC_advance_65 : decode b_MC_advance 65 = .ok (.iload 4, 2) := by decide +kernel
theorem d_MC_advance_67 : decode b_MC_advance 67 = .ok (.lookupswitch 100 #[(7, 91), (13, 49), (14, 68), (15, 79), (32, 79)], 49) := by decide +kernel
theorem d_MC_advance_116 : decode b_MC_advance 116 = .ok (.aload_n 0, 1) := by decide +kernel
theorem d_MC_advance_117 : decode b_MC_advance 117 = .ok (.aload_n 2, 1) := by decide +kernel
theorem d_MC_advance_118 : decode b_MC_advance 118 = .ok (.aload_n 3, 1) := by decide +kernel
theorem d_MC_advance_119 : decode b_MC_advance 119 = .ok (.aload_n 2, 1) := by decide +kernel
theorem d_MC_advance_120 : decode b_MC_advance 120 = .ok (.getfield 67, 3) := by decide +kernel
theorem d_MC_advance_123 : decode b_MC_advance 123 = .ok (.iconst 1, 1) := by decide +kernel
theorem d_MC_advance_124 : decode b_MC_advance 124 = .ok (.iadd, 1) := by decide +kernel
theorem d_MC_advance_125 : decode b_MC_advance 125 = .ok (.invokevirtual 70, 3) := by decide +kernel
theorem d_MC_advance_128 : decode b_MC_advance 128 = .ok (.aload_n 1, 1) := by decide +kernel
theorem d_MC_advance_129 : decode b_MC_advance 129 = .ok (.invokevirtual 84, 3) := by decide +kernel
theorem d_MC_advance_132 : decode b_MC_advance 132 = .ok (.goto 52, 3) := by decide +kernel
theorem d_MC_advance_135 : decode b_MC_advance 135 = .ok (.aload_n 0, 1) := by decide +kernel
theorem d_MC_advance_136 : decode b_MC_advance 136 = .ok (.aload_n 2, 1) := by decide +kernel
theorem d_MC_advance_137 : decode b_MC_advance 137 = .ok (.invokevirtual 88, 3) := by decide +kernel
theorem d_MC_advance_140 : decode b_MC_advance 140 = .ok (.invokevirtual 92, 3) := by decide +kernel
theorem d_MC_advance_143 : decode b_MC_advance 143 = .ok (.goto 41, 3) := by decide +kernel
theorem d_MC_advance_146 : decode b_MC_advance 146 = .ok (.aload_n 0, 1) := by decide +kernel
theorem d_MC_advance_147 : decode b_MC_advance 147 = .ok (.aload_n 2, 1) := by decide +kernel
theorem d_MC_advance_148 : decode b_MC_advance 148 = .ok (.invokevirtual 88, 3) := by decide +kernel
theorem d_MC_advance_151 : decode b_MC_advance 151 = .ok (.aload_n 1, 1) := by decide +kernel
theorem d_MC_advance_152 : decode b_MC_advance 152 = .ok (.invokevirtual 96, 3) := by decide +kernel
theorem d_MC_advance_155 : decode b_MC_advance 155 = .ok (.goto 29, 3) := by decide +kernel
theorem d_MC_advance_158 : decode b_MC_advance 158 = .ok (.aload_n 0, 1) := by decide +kernel
theorem d_MC_advance_159 : decode b_MC_advance 159 = .ok (.aload_n 2, 1) := by decide +kernel
theorem d_MC_advance_160 : decode b_MC_advance 160 = .ok (.aload_n 1, 1) := by decide +kernel
theorem d_MC_advance_161 : decode b_MC_advance 161 = .ok (.invokevirtual 100, 3) := by decide +kernel
theorem d_MC_advance_164 : decode b_MC_advance 164 = .ok (.goto 20, 3) := by decide +kernel
theorem d_MC_advance_167 : decode b_MC_advance 167 = .ok (.aload_n 2, 1) := by decide +kernel
theorem d_MC_advance_168 : decode b_MC_advance 168 = .ok (.dup, 1) := by decide +kernel
theorem d_MC_advance_169 : decode b_MC_advance 169 = .ok (.getfield 67, 3) := by decide +kernel
theorem d_MC_advance_172 : decode b_MC_advance 172 = .ok (.aload_n 0, 1) := by decide +kernel
theorem d_MC_advance_173 : decode b_MC_advance 173 = .ok (.aload_n 2, 1) := by decide +kernel
theorem d_MC_advance_174 : decode b_MC_advance 174 = .ok (.aload_n 3, 1) := by decide +kernel
theorem d_MC_advance_175 : decode b_MC_advance 175 = .ok (.iload 4, 2) := by decide +kernel
theorem d_MC_advance_177 : decode b_MC_advance 177 = .ok (.invokevirtual 104, 3) := by decide +kernel
theorem d_MC_advance_180 : decode b_MC_advance 180 = .ok (.iadd, 1) := by decide +kernel
theorem d_MC_advance_181 : decode b_MC_advance 181 = .ok (.putfield 67, 3) := by decide +kernel
theorem d_MC_advance_184 : decode b_MC_advance 184 = .ok (.return_, 1) := by decide +kernel
theorem d_MC_execute_0 : decode b_MC_execute 0 = .ok (.aload_n 0, 1) := by decide +kernel
theorem d_MC_execute_1 : decode b_MC_execute 1 = .ok (.iload 5, 2) := by decide +kernel
theorem d_MC_execute_3 : decode b_MC_execute 3 = .ok (.putfield 25, 3) := by decide +kernel
theorem d_MC_execute_6 : decode b_MC_execute 6 = .ok (.aload_n 0, 1) := by decide +kernel
theorem d_MC_execute_7 : decode b_MC_execute 7 = .ok (.iconst 0, 1) := by decide +kernel
theorem d_MC_execute_8 : decode b_MC_execute 8 = .ok (.putfield 29, 3) := by decide +kernel
theorem d_MC_execute_11 : decode b_MC_execute 11 = .ok (.aload_n 0, 1) := by decide +kernel
theorem d_MC_execute_12 : decode b_MC_execute 12 = .ok (.iconst 0, 1) := by decide +kernel
theorem d_MC_execute_13 : decode b_MC_execute 13 = .ok (.putfield 32, 3) := by decide +kernel
theorem d_MC_execute_16 : decode b_MC_execute 16 = .ok (.aload_n 0, 1) := by decide +kernel
theorem d_MC_execute_17 : decode b_MC_execute 17 = .ok (.getfield 21, 3) := by decide +kernel
theorem d_MC_execute_20 : decode b_MC_execute 20 = .ok (.iconst 0, 1) := by decide +kernel
theorem d_MC_execute_21 : decode b_MC_execute 21 = .ok (.invokestatic 35, 3) := by decide +kernel
theorem d_MC_execute_24 : decode b_MC_execute 24 = .ok (.aload_n 0, 1) := by decide +kernel
theorem d_MC_execute_25 : decode b_MC_execute 25 = .ok (.iconst (-1), 1) := by decide +kernel
theorem d_MC_execute_26 : decode b_MC_execute 26 = .ok (.putfield 41, 3) := by decide +kernel
theorem d_MC_execute_29 : decode b_MC_execute 29 = .ok (.aload_n 0, 1) := by decide +kernel
theorem d_MC_execute_30 : decode b_MC_execute 30 = .ok (.getfield 13, 3) := by decide +kernel
theorem d_MC_execute_33 : decode b_MC_execute 33 = .ok (.iconst 0, 1) := by decide +kernel
theorem d_MC_execute_34 : decode b_MC_execute 34 = .ok (.aaload, 1) := by decide +kernel
theorem d_MC_execute_35 : decode b_MC_execute 35 = .ok (.iload_n 2, 1) := by decide +kernel
theorem d_MC_execute_36 : decode b_MC_execute 36 = .ok (.aload_n 1, 1) := by decide +kernel
theorem d_MC_execute_37 : decode b_MC_execute 37 = .ok (.iload_n 2, 1) := by decide +kernel
theorem d_MC_execute_38 : decode b_MC_execute 38 = .ok (.aaload, 1) := by decide +kernel
theorem d_MC_execute_39 : decode b_MC_execute 39 = .ok (.getfield 44, 3) := by decide +kernel
theorem d_MC_execute_42 : decode b_MC_execute 42 = .ok (.iload_n 3, 1) := by decide +kernel
theorem d_MC_execute_43 : decode b_MC_execute 43 = .ok (.iload 4, 2) := by decide +kernel
theorem d_MC_execute_45 : decode b_MC_execute 45 = .ok (.invokevirtual 49, 3) := by decide +kernel
theorem d_MC_execute_48 : decode b_MC_execute 48 = .ok (.aload_n 0, 1) := by decide +kernel
theorem d_MC_execute_49 : decode b_MC_execute 49 = .ok (.iconst 1, 1) := by decide +kernel
theorem d_MC_execute_50 : decode b_MC_execute 50 = .ok (.putfield 53, 3) := by decide +kernel
theorem d_MC_execute_53 : decode b_MC_execute 53 = .ok (.iconst 0, 1) := by decide +kernel
theorem d_MC_execute_54 : decode b_MC_execute 54 = .ok (.istore 6, 2) := by decide +kernel
theorem d_MC_execute_56 : decode b_MC_execute 56 = .ok (.iload 6, 2) := by decide +kernel
theorem d_MC_execute_58 : decode b_MC_execute 58 = .ok (.ldc 56, 2) := by decide +kernel
theorem d_MC_execute_60 : decode b_MC_execute 60 = .ok (.if_icmp .ge 22, 3) := by decide +kernel
theorem d_MC_execute_63 : decode b_MC_execute 63 = .ok (.aload_n 0, 1) := by decide +kernel
theorem d_MC_execute_64 : decode b_MC_execute 64 = .ok (.getfield 41, 3) := by decide +kernel
theorem d_MC_execute_67 : decode b_MC_execute 67 = .ok (.iconst (-1), 1) := by decide +kernel
theorem d_MC_execute_68 : decode b_MC_execute 68 = .ok (.if_icmp .ne 14, 3) := by decide +kernel
theorem d_MC_execute_71 : decode b_MC_execute 71 = .ok (.aload_n 0, 1) := by decide +kernel
theorem d_MC_execute_72 : decode b_MC_execute 72 = .ok (.aload_n 1, 1) := by decide +kernel
theorem d_MC_execute_73 : decode b_MC_execute 73 = .ok (.invokevirtual 57, 3) := by decide +kernel
theorem d_MC_execute_76 : decode b_MC_execute 76 = .ok (.iinc 6 1, 3) := by decide +kernel
theorem d_MC_execute_79 : decode b_MC_execute 79 = .ok (.goto (-23), 3) := by decide +kernel
theorem d_MC_execute_82 : decode b_MC_execute 82 = .ok (.aload_n 0, 1) := by decide +kernel
theorem d_MC_execute_83 : decode b_MC_execute 83 = .ok (.getfield 41, 3) := by decide +kernel
theorem d_MC_execute_86 : decode b_MC_execute 86 = .ok (.ireturn, 1) := by decide +kernel
theorem d_MC_markAt_0 : decode b_MC_markAt 0 = .ok (.iload_n 1, 1) := by decide +kernel
theorem d_MC_markAt_1 : decode b_MC_markAt 1 = .ok (.ifCond .lt 26, 3) := by decide +kernel
theorem d_MC_markAt_4 : decode b_MC_markAt 4 = .ok (.iload_n 1, 1) := by decide +kernel
theorem d_MC_markAt_5 : decode b_MC_markAt 5 = .ok (.aload_n 0, 1) := by decide +kernel
theorem d_MC_markAt_6 : decode b_MC_markAt 6 = .ok (.getfield 32, 3) := by decide +kernel
theorem d_MC_markAt_9 : decode b_MC_markAt 9 = .ok (.if_icmp .ge 18, 3) := by decide +kernel
theorem d_MC_markAt_12 : decode b_MC_markAt 12 = .ok (.iload_n 1, 1) := by decide +kernel
theorem d_MC_markAt_13 : decode b_MC_markAt 13 = .ok (.bipush 100, 2) := by decide +kernel
theorem d_MC_markAt_15 : decode b_MC_markAt 15 = .ok (.if_icmp .ge 12, 3) := by decide +kernel
theorem d_MC_markAt_18 : decode b_MC_markAt 18 = .ok (.aload_n 0, 1) := by decide +kernel
theorem d_MC_markAt_19 : decode b_MC_markAt 19 = .ok (.getfield 17, 3) := by decide +kernel
theorem d_MC_markAt_22 : decode b_MC_markAt 22 = .ok (.iload_n 1, 1) := by decide +kernel
theorem d_MC_markAt_23 : decode b_MC_markAt 23 = .ok (.iaload, 1) := by decide +kernel
theorem d_MC_markAt_24 : decode b_MC_markAt 24 = .ok (.goto 4, 3) := by decide +kernel
theorem d_MC_markAt_27 : decode b_MC_markAt 27 = .ok (.iconst (-1), 1) := by decide +kernel
theorem d_MC_markAt_28 : decode b_MC_markAt 28 = .ok (.ireturn, 1) := by decide +kernel
theorem d_MC_probesAt_0 : decode b_MC_probesAt 0 = .ok (.iload_n 1, 1) := by decide +kernel
theorem d_MC_probesAt_1 : decode b_MC_probesAt 1 = .ok (.ifCond .lt 18, 3) := by decide +kernel
theorem d_MC_probesAt_4 : decode b_MC_probesAt 4 = .ok (.iload_n 1, 1) := by decide +kernel
theorem d_MC_probesAt_5 : decode b_MC_probesAt 5 = .ok (.iconst 4, 1) := by decide +kernel
theorem d_MC_probesAt_6 : decode b_MC_probesAt 6 = .ok (.if_icmp .ge 13, 3) := by decide +kernel
theorem d_MC_probesAt_9 : decode b_MC_probesAt 9 = .ok (.iload_n 2, 1) := by decide +kernel
theorem d_MC_probesAt_10 : decode b_MC_probesAt 10 = .ok (.ifCond .lt 9, 3) := by decide +kernel
theorem d_MC_probesAt_13 : decode b_MC_probesAt 13 = .ok (.iload_n 2, 1) := by decide +kernel
theorem d_MC_probesAt_14 : decode b_MC_probesAt 14 = .ok (.bipush 40, 2) := by decide +kernel
theorem d_MC_probesAt_16 : decode b_MC_probesAt 16 = .ok (.if_icmp .lt 5, 3) := by decide +kernel
theorem d_MC_probesAt_19 : decode b_MC_probesAt 19 = .ok (.iconst 0, 1) := by decide +kernel
theorem d_MC_probesAt_20 : decode b_MC_probesAt 20 = .ok (.ireturn, 1) := by decide +kernel
theorem d_MC_probesAt_21 : decode b_MC_probesAt 21 = .ok (.aload_n 0, 1) := by decide +kernel
theorem d_MC_probesAt_22 : decode b_MC_probesAt 22 = .ok (.getfield 21, 3) := by decide +kernel
theorem d_MC_probesAt_25 : decode b_MC_probesAt 25 = .ok (.iload_n 1, 1) := by decide +kernel
theorem d_MC_probesAt_26 : decode b_MC_probesAt 26 = .ok (.bipush 40, 2) := by decide +kernel
theorem d_MC_probesAt_28 : decode b_MC_probesAt 28 = .ok (.imul, 1) := by decide +kernel
theorem d_MC_probesAt_29 : decode b_MC_probesAt 29 = .ok (.iload_n 2, 1) := by decide +kernel
theorem d_MC_probesAt_30 : decode b_MC_probesAt 30 = .ok (.iadd, 1) := by decide +kernel
theorem d_MC_probesAt_31 : decode b_MC_probesAt 31 = .ok (.iaload, 1) := by decide +kernel
theorem d_MC_probesAt_32 : decode b_MC_probesAt 32 = .ok (.ireturn, 1) := by decide +kernel
def f_MC_end (fu : Nat) (s0 : xw_S) (p1 : Int) (p2 : Int) : Option xw_S :=
 xw_let (xw_st s0 17 5 p1) (fun s1 => xw_let (xw_st s1 17 6 p2) (fun s3 => some s3))
set_option maxRecDepth 100000 in
set_option maxHeartbeats 4000000 in
theorem c_MC_end (l : Launch) (D : va_G) (A : Nat → Prop) (ad : Nat → Nat) (cs : Nat → ClassId) (Z : va_W) (tt : Nat → Nat) (fu : Nat) (s0 sZ : xw_S) (p1 : Int) (p2 : Int) (h : f_MC_end fu s0 p1 p2 = some sZ) : Met l y_MC_end w_MC_end ({ frames := 0, cells := 0, slots := 0, locals := 0 }) (va_Pc [.ref (ad 17), .int (xw_i p1), .int (xw_i p2)] (xw_H D vwCl A kdC 100 ad cs Z tt s0)) (va_Qv (fun u => u = sZ) (xw_H D vwCl A kdC 100 ad cs Z tt) A) 0 0 A := by
  refine Met.ofW (cc := b_MC_end) (maxL := 3) (ret := none) (by decide) rfl ?_
  intro p e s m args below meth c s₁ B hml hv
  obtain ⟨rfl, hP, hK, hD, hX⟩ := hv
  have hx := B.exec
  have hb := B.bytes
  have hr := B.returns
  have hts0 := atoms_spec (ws := w_MC_end) B.pre
  have hts := fun w (hw : w ∈ wAll) => hts0 w (List.mem_cons_of_mem _ hw)
  have hown : s.vm.findClass "AdviceWeaver$Machine" = some m.cls := findClass_of_methodNamed B.named
  have hlk := B.notSynchronized
  clear hts0 B
  have hS : va_S A s.heap s.heap [] := va_S.rf
  have hl := lv_entry [.ref (ad 17), .int (xw_i p1), .int (xw_i p2)] (n := 3) (Nat.le_of_ble_eq_true rfl)
  rw [lg_entry_eq]
  generalize (lg_sl [.ref (ad 17), .int (xw_i p1), .int (xw_i p2)] ++ List.replicate (3 - (lg_sl [.ref (ad 17), .int (xw_i p1), .int (xw_i p2)]).length) Slot.unset).toArray = ls at hl ⊢
  have hl : lv_has ls 3 [(0, .ref (ad 17)), (1, .int (xw_i p1)), (2, .int (xw_i p2))] := hl
  unfold f_MC_end at h
  refine lv_aload_n hx hb d_MC_end_0 rfl (lv_at hl 0 rfl) ?_
  refine lv_iload_n hx hb d_MC_end_1 rfl (lv_at hl 1 rfl) ?_
  refine xw_putI (C := "AdviceWeaver$Machine") (T := T_MC) hx hb hts hin_MC ty_MC ty_MC_ok nm_MC hown hK hP hD hS (by decide) kc_Mach (by decide) rfl 5 (by decide) (hts _ hw_302) (fun _ h9 => h9) rfl (by decide +kernel) rfl d_MC_end_2 (fun s1 e2 H locs hP hS => ?_)
  replace h := xw_letI e2 h
  refine lv_aload_n hx hb d_MC_end_5 rfl (lv_at hl 0 rfl) ?_
  refine lv_iload_n hx hb d_MC_end_6 rfl (lv_at hl 2 rfl) ?_
  refine xw_putI (C := "AdviceWeaver$Machine") (T := T_MC) hx hb hts hin_MC ty_MC ty_MC_ok nm_MC hown hK hP hD hS (by decide) kc_Mach (by decide) rfl 6 (by decide) (hts _ hw_303) (fun _ h9 => h9) rfl (by decide +kernel) rfl d_MC_end_7 (fun s3 e4 H locs hP hS => ?_)
  replace h := xw_letI e4 h
  exact xw_vretE hx hb hr hlk hP hK hD hX hS h d_MC_end_10
def f_MC_enter (fu : Nat) (s0 : xw_S) (f1 : Nat) (p2 : Int) (a3 : Nat) : Option xw_S :=
 xw_grd (xw_r (s0.1 17 3)) (xw_if (s0.1 17 3 < 8) (xw_grd ((0 ≤ p2 ∧ p2 < ((4 : Nat) : Int))) (xw_let (s0.1 (48 + 4 * (4 * a3 + (p2).toNat)) 5) (fun v4 => xw_jn (fun (s11 : xw_S) (i4_38 : Int) (t0_38 : Int) => xw_jn (fun (s17 : xw_S) (i4_53 : Int) (i5_53 : Int) (t0_53 : Int) => xw_grd ((0 ≤ s17.1 17 3 ∧ s17.1 17 3 < ((8 : Nat) : Int))) (xw_bnd (f_FR_begin fu s17 ((s17.1 17 3).toNat) p2 i4_53 t0_53 i5_53) (fun s19 => xw_let (xw_st s19 17 3 ((s19.1 17 3) + 1)) (fun s22 => some s22))))
 (fun (j53 : xw_S → Int → Int → Int → Option xw_S) => xw_grd (xw_r i4_38) (xw_if (i4_38 ≤ 0) (j53 s11 i4_38 t0_38 0)
 (xw_bn2 (f_FR_pop fu s11 f1) (fun s14 r16 => j53 s14 i4_38 t0_38 r16)))))
 (fun (j38 : xw_S → Int → Int → Option xw_S) => xw_grd (xw_r v4) (xw_if (v4 ≤ 1) (j38 s0 v4 0)
 (xw_bn2 (f_FR_pop fu s0 f1) (fun s8 r10 => j38 s8 v4 r10)))))))
 (xw_bnd (f_MC_end fu s0 3 0) (fun s24 => some s24)))
set_option maxRecDepth 100000 in
set_option maxHeartbeats 4000000 in
theorem c_MC_enter (l : Launch) (D : va_G) (A : Nat → Prop) (ad : Nat → Nat) (cs : Nat → ClassId) (Z : va_W) (tt : Nat → Nat) (fu : Nat) (s0 sZ : xw_S) (f1 : Nat) (hb_f1 : f1 < 8) (p2 : Int) (a3 : Nat) (hb_a3 : a3 < 3) (h : f_MC_enter fu s0 f1 p2 a3 = some sZ) : Met l y_MC_enter w_MC_enter ({ frames := 2, cells := 0, slots := 0, locals := 47 }) (va_Pc [.ref (ad 17), .ref (ad (24 + 3 * f1)), .int (xw_i p2), .ref (ad (3 + a3))] (xw_H D vwCl A kdC 100 ad cs Z tt s0)) (va_Qv (fun u => u = sZ) (xw_H D vwCl A kdC 100 ad cs Z tt) A) 0 0 A := by
  refine Met.ofW (cc := b_MC_enter) (maxL := 7) (ret := none) (by decide) rfl ?_
  intro p e s m args below meth c s₁ B hml hv
  obtain ⟨rfl, hP, hK, hD, hX⟩ := hv
  have hx := B.exec
  have hb := B.bytes
  have hr := B.returns
  have hts0 := atoms_spec (ws := w_MC_enter) B.pre
  have hts := fun w (hw : w ∈ wAll) => hts0 w (List.mem_cons_of_mem _ hw)
  have hown : s.vm.findClass "AdviceWeaver$Machine" = some m.cls := findClass_of_methodNamed B.named
  have hlk := B.notSynchronized
  clear hts0 B
  have hS : va_S A s.heap s.heap [] := va_S.rf
  have hl := lv_entry [.ref (ad 17), .ref (ad (24 + 3 * f1)), .int (xw_i p2), .ref (ad (3 + a3))] (n := 7) (Nat.le_of_ble_eq_true rfl)
  rw [lg_entry_eq]
  generalize (lg_sl [.ref (ad 17), .ref (ad (24 + 3 * f1)), .int (xw_i p2), .ref (ad (3 + a3))] ++ List.replicate (7 - (lg_sl [.ref (ad 17), .ref (ad (24 + 3 * f1)), .int (xw_i p2), .ref (ad (3 + a3))]).length) Slot.unset).toArray = ls at hl ⊢
  have hl : lv_has ls 7 [(0, .ref (ad 17)), (1, .ref (ad (24 + 3 * f1))), (2, .int (xw_i p2)), (3, .ref (ad (3 + a3)))] := hl
  unfold f_MC_enter at h
  refine lv_aload_n hx hb d_MC_enter_0 rfl (lv_at hl 0 rfl) ?_
  refine xw_getI (C := "AdviceWeaver$Machine") (T := T_MC) hx hb hts hin_MC hown hK hP (by decide) kc_Mach (by decide) rfl 3 (by decide) (hts _ hw_305) (fun _ h9 => h9) rfl d_MC_enter_1 ?_
  refine lv_bipush (v := xw_i 8) hx hb d_MC_enter_4 (by decide) ?_
  obtain ⟨hg1, h⟩ := xw_grdI h
  refine xw_icmp_lt (tgt := 16) hx hb hg1 (by decide) d_MC_enter_6 (by decide) (fun hc2 => ?_) (fun hc2 => ?_)
  · replace h := xw_ifT hc2 h
    refine lv_aload_n hx hb d_MC_enter_16 rfl (lv_at hl 3 rfl) ?_
    refine lv_iload_n hx hb d_MC_enter_17 rfl (lv_at hl 2 rfl) ?_
    obtain ⟨hg3, h⟩ := xw_grdI h
    refine xw_aald23 (r := 48 + 4 * (4 * a3 + (p2).toNat)) hx hb hK hP (by omega) (kc_BodyArr a3 (by omega)) (by decide) hg3 (kc_BodyArrE a3 _ (by omega) (by omega)) d_MC_enter_18 ?_
    refine xw_getI (C := "AdviceWeaver$Body") (T := T_B) hx hb hts hin_B hown hK hP (by omega) (kc_Body (4 * a3 + (p2).toNat) (by omega)) (by decide) rfl 5 (by decide) (hts _ hw_306) (fun _ h9 => h9) rfl d_MC_enter_19 ?_
    refine xw_topi (fun v4 e5 => ?_)
    replace h := xw_letI e5 h
    refine lv_istore hx hb d_MC_enter_22 hl (by decide) rfl (fun ls hl => ?_)
    refine lv_iload hx hb d_MC_enter_24 (lv_at hl 0 rfl) ?_
    refine lv_iconst (v := xw_i 1) hx hb d_MC_enter_26 rfl ?_
    refine xw_jnI (fun j => ∀ (sq : xw_S) (i4_38 : Int) (t0_38 : Int), j sq i4_38 t0_38 = some sZ → ∀ (H : Heap) (locs : List Loc) (ls : Array Slot), va_P D vwCl (xw_ws kdC 100 ad cs Z sq) H → va_S A s.heap H locs → lv_has ls 7 [(0, .ref (ad 17)), (1, .ref (ad (24 + 3 * f1))), (2, .int (xw_i p2)), (4, .int (xw_i i4_38))] → W p l e (headSpec w_MC_enter ({ frames := 2, cells := 0, slots := 0, locals := 47 })).room s m [.ref (ad 17), .ref (ad (24 + 3 * f1)), .int (xw_i p2), .ref (ad (3 + a3))].toArray below meth c H locs 0 0 (MQ below (va_Qv (fun u => u = sZ) (xw_H D vwCl A kdC 100 ad cs Z tt) A) [.ref (ad 17), .ref (ad (24 + 3 * f1)), .int (xw_i p2), .ref (ad (3 + a3))].toArray s 0 0 A) (F0 m 38 ls [.int (xw_i t0_38)])) h ?_ ?_
    · intro s11 i4_38 t0_38 h H locs ls hP hS hl
      refine lv_istore hx hb d_MC_enter_38 hl (by decide) rfl (fun ls hl => ?_)
      refine lv_iload hx hb d_MC_enter_40 (lv_at hl 4 rfl) ?_
      refine xw_jnI (fun j => ∀ (sq : xw_S) (i4_53 : Int) (i5_53 : Int) (t0_53 : Int), j sq i4_53 i5_53 t0_53 = some sZ → ∀ (H : Heap) (locs : List Loc) (ls : Array Slot), va_P D vwCl (xw_ws kdC 100 ad cs Z sq) H → va_S A s.heap H locs → lv_has ls 7 [(0, .ref (ad 17)), (2, .int (xw_i p2)), (4, .int (xw_i i4_53)), (5, .int (xw_i i5_53))] → W p l e (headSpec w_MC_enter ({ frames := 2, cells := 0, slots := 0, locals := 47 })).room s m [.ref (ad 17), .ref (ad (24 + 3 * f1)), .int (xw_i p2), .ref (ad (3 + a3))].toArray below meth c H locs 0 0 (MQ below (va_Qv (fun u => u = sZ) (xw_H D vwCl A kdC 100 ad cs Z tt) A) [.ref (ad 17), .ref (ad (24 + 3 * f1)), .int (xw_i p2), .ref (ad (3 + a3))].toArray s 0 0 A) (F0 m 53 ls [.int (xw_i t0_53)])) h ?_ ?_
      · intro s17 i4_53 i5_53 t0_53 h H locs ls hP hS hl
        refine lv_istore hx hb d_MC_enter_53 hl (by decide) rfl (fun ls hl => ?_)
        refine lv_aload_n hx hb d_MC_enter_55 rfl (lv_at hl 1 rfl) ?_
        refine xw_getR (C := "AdviceWeaver$Machine") (T := T_MC) hx hb hts hin_MC hown hK hP (by decide) kc_Mach (by decide) rfl 0 (by decide) (hts _ hw_312) (fun _ h9 => h9) rfl d_MC_enter_56 ?_
        refine lv_aload_n hx hb d_MC_enter_59 rfl (lv_at hl 1 rfl) ?_
        refine xw_getI (C := "AdviceWeaver$Machine") (T := T_MC) hx hb hts hin_MC hown hK hP (by decide) kc_Mach (by decide) rfl 3 (by decide) (hts _ hw_305) (fun _ h9 => h9) rfl d_MC_enter_60 ?_
        obtain ⟨hg18, h⟩ := xw_grdI h
        refine xw_aald25 (r := 24 + 3 * ((s17.1 17 3).toNat)) hx hb hK hP (by decide) kc_FrameArr (by decide) hg18 (kc_FrameArrE _ (by omega)) d_MC_enter_63 ?_
        refine lv_iload_n hx hb d_MC_enter_64 rfl (lv_at hl 2 rfl) ?_
        refine lv_iload hx hb d_MC_enter_65 (lv_at hl 3 rfl) ?_
        refine lv_iload hx hb d_MC_enter_67 (lv_at hl 0 rfl) ?_
        refine lv_iload hx hb d_MC_enter_69 (lv_at hl 4 rfl) ?_
        obtain ⟨s19, hc20, h⟩ := xw_bndI h
        refine xw_callVv (C := "AdviceWeaver$Frame") (T := T_FR) ⟨hx, hb, hml, hown, hts⟩ (c_FR_begin l D A ad cs Z tt fu s17 s19 ((s17.1 17 3).toNat) (by omega) p2 i4_53 t0_53 i5_53 hc20) (cwV 4 hts (gd_V hw_313 hw_314 hw_315 hw_310 hw_316) rfl rfl rfl (by decide +kernel) ⟨Nat.le_of_ble_eq_true rfl, Nat.le_of_ble_eq_true rfl⟩) hP hK hD hX hS (by omega) (kc_Frame ((s17.1 17 3).toNat) (by omega)) (by decide) rfl rfl hl.1 rfl (Nat.le_of_ble_eq_true rfl) d_MC_enter_71 (fun H locs hP hS => ?_)
        refine lv_aload_n hx hb d_MC_enter_74 rfl (lv_at hl 1 rfl) ?_
        refine lv_dup hx hb d_MC_enter_75 rfl ?_
        refine xw_getI (C := "AdviceWeaver$Machine") (T := T_MC) hx hb hts hin_MC hown hK hP (by decide) kc_Mach (by decide) rfl 3 (by decide) (hts _ hw_305) (fun _ h9 => h9) rfl d_MC_enter_76 ?_
        refine lv_iconst (v := xw_i 1) hx hb d_MC_enter_79 rfl ?_
        refine xw_iadd hx hb d_MC_enter_80 ?_
        refine xw_putI (C := "AdviceWeaver$Machine") (T := T_MC) hx hb hts hin_MC ty_MC ty_MC_ok nm_MC hown hK hP hD hS (by decide) kc_Mach (by decide) rfl 3 (by decide) (hts _ hw_305) (fun _ h9 => h9) rfl (by decide +kernel) rfl d_MC_enter_81 (fun s22 e23 H locs hP hS => ?_)
        replace h := xw_letI e23 h
        exact xw_vretE hx hb hr hlk hP hK hD hX hS h d_MC_enter_84
      · intro j53 hj53 h
        obtain ⟨hg12, h⟩ := xw_grdI h
        refine xw_if_le (tgt := 52) hx hb hg12 d_MC_enter_42 (by decide) (fun hc13 => ?_) (fun hc13 => ?_)
        · replace h := xw_ifT hc13 h
          refine lv_iconst (v := xw_i 0) hx hb d_MC_enter_52 rfl ?_
          exact hj53 s11 i4_38 t0_38 0 h _ _ _ hP hS (lv_sub hl [1, 3, 4, 0] rfl)
        · replace h := xw_ifF hc13 h
          refine lv_aload_n hx hb d_MC_enter_45 rfl (lv_at hl 2 rfl) ?_
          obtain ⟨s14, r16, hc15, h⟩ := xw_bn2I h
          refine xw_callVi (C := "AdviceWeaver$Frame") (T := T_FR) ⟨hx, hb, hml, hown, hts⟩ (c_FR_pop l D A ad cs Z tt fu s11 s14 f1 (by omega) r16 hc15) (cwV 0 hts (gd_V hw_307 hw_308 hw_309 hw_310 hw_311) rfl rfl rfl (by decide +kernel) ⟨Nat.le_of_ble_eq_true rfl, Nat.le_of_ble_eq_true rfl⟩) hP hK hD hX hS (by omega) (kc_Frame f1 (by omega)) (by decide) rfl rfl hl.1 rfl (Nat.le_of_ble_eq_true rfl) d_MC_enter_46 (fun H locs hP hS => ?_)
          refine lv_goto (tgt := 53) hx hb d_MC_enter_49 (by decide) ?_
          exact hj53 s14 i4_38 t0_38 r16 h _ _ _ hP hS (lv_sub hl [1, 3, 4, 0] rfl)
    · intro j38 hj38 h
      obtain ⟨hg6, h⟩ := xw_grdI h
      refine xw_icmp_le (tgt := 37) hx hb hg6 (by decide) d_MC_enter_27 (by decide) (fun hc7 => ?_) (fun hc7 => ?_)
      · replace h := xw_ifT hc7 h
        refine lv_iconst (v := xw_i 0) hx hb d_MC_enter_37 rfl ?_
        exact hj38 s0 v4 0 h _ _ _ hP hS (lv_sub hl [1, 2, 3, 0] rfl)
      · replace h := xw_ifF hc7 h
        refine lv_aload_n hx hb d_MC_enter_30 rfl (lv_at hl 2 rfl) ?_
        obtain ⟨s8, r10, hc9, h⟩ := xw_bn2I h
        refine xw_callVi (C := "AdviceWeaver$Frame") (T := T_FR) ⟨hx, hb, hml, hown, hts⟩ (c_FR_pop l D A ad cs Z tt fu s0 s8 f1 (by omega) r10 hc9) (cwV 0 hts (gd_V hw_307 hw_308 hw_309 hw_310 hw_311) rfl rfl rfl (by decide +kernel) ⟨Nat.le_of_ble_eq_true rfl, Nat.le_of_ble_eq_true rfl⟩) hP hK hD hX hS (by omega) (kc_Frame f1 (by omega)) (by decide) rfl rfl hl.1 rfl (Nat.le_of_ble_eq_true rfl) d_MC_enter_31 (fun H locs hP hS => ?_)
        refine lv_goto (tgt := 38) hx hb d_MC_enter_34 (by decide) ?_
        exact hj38 s8 v4 r10 h _ _ _ hP hS (lv_sub hl [1, 2, 3, 0] rfl)
  · replace h := xw_ifF hc2 h
    refine lv_aload_n hx hb d_MC_enter_9 rfl (lv_at hl 0 rfl) ?_
    refine lv_iconst (v := xw_i 3) hx hb d_MC_enter_10 rfl ?_
    refine lv_iconst (v := xw_i 0) hx hb d_MC_enter_11 rfl ?_
    obtain ⟨s24, hc25, h⟩ := xw_bndI h
    refine xw_callVv (C := "AdviceWeaver$Machine") (T := T_MC) ⟨hx, hb, hml, hown, hts⟩ (c_MC_end l D A ad cs Z tt fu s0 s24 3 0 hc25) (cwV 2 hts (gd_V hw_317 hw_318 hw_319 hw_320 hw_321) rfl rfl rfl (by decide +kernel) ⟨Nat.le_of_ble_eq_true rfl, Nat.le_of_ble_eq_true rfl⟩) hP hK hD hX hS (by decide) kc_Mach (by decide) rfl rfl hl.1 rfl (Nat.le_of_ble_eq_true rfl) d_MC_enter_12 (fun H locs hP hS => ?_)
    exact xw_vretE hx hb hr hlk hP hK hD hX hS h d_MC_enter_15
def f_MC_giveBack (fu : Nat) (s0 : xw_S) (p1 : Int) : Option xw_S :=
 xw_let (xw_st s0 17 3 ((s0.1 17 3) - 1)) (fun s1 => xw_grd (xw_r (s1.1 17 3)) (xw_if (s1.1 17 3 = 0) (xw_bnd (f_MC_end fu s1 0 p1) (fun s14 => some s14))
 (xw_grd ((0 ≤ (s1.1 17 3) - 1 ∧ (s1.1 17 3) - 1 < ((8 : Nat) : Int))) (xw_bnd (f_FR_push fu s1 (((s1.1 17 3) - 1).toNat) p1) (fun s6 => xw_bn2 (f_OP_size fu s6 13) (fun s9 r11 => xw_let (xw_st s9 (24 + 3 * (((s1.1 17 3) - 1).toNat)) 4 ((s6.1 (24 + 3 * (((s1.1 17 3) - 1).toNat)) 4) + r11)) (fun s12 => some s12)))))))
set_option maxRecDepth 100000 in
set_option maxHeartbeats 4000000 in
theorem c_MC_giveBack (l : Launch) (D : va_G) (A : Nat → Prop) (ad : Nat → Nat) (cs : Nat → ClassId) (Z : va_W) (tt : Nat → Nat) (fu : Nat) (s0 sZ : xw_S) (p1 : Int) (h : f_MC_giveBack fu s0 p1 = some sZ) : Met l y_MC_giveBack w_MC_giveBack ({ frames := 1, cells := 0, slots := 0, locals := 22 }) (va_Pc [.ref (ad 17), .int (xw_i p1)] (xw_H D vwCl A kdC 100 ad cs Z tt s0)) (va_Qv (fun u => u = sZ) (xw_H D vwCl A kdC 100 ad cs Z tt) A) 0 0 A := by
  refine Met.ofW (cc := b_MC_giveBack) (maxL := 3) (ret := none) (by decide) rfl ?_
  intro p e s m args below meth c s₁ B hml hv
  obtain ⟨rfl, hP, hK, hD, hX⟩ := hv
  have hx := B.exec
  have hb := B.bytes
  have hr := B.returns
  have hts0 := atoms_spec (ws := w_MC_giveBack) B.pre
  have hts := fun w (hw : w ∈ wAll) => hts0 w (List.mem_cons_of_mem _ hw)
  have hown : s.vm.findClass "AdviceWeaver$Machine" = some m.cls := findClass_of_methodNamed B.named
  have hlk := B.notSynchronized
  clear hts0 B
  have hS : va_S A s.heap s.heap [] := va_S.rf
  have hl := lv_entry [.ref (ad 17), .int (xw_i p1)] (n := 3) (Nat.le_of_ble_eq_true rfl)
  rw [lg_entry_eq]
  generalize (lg_sl [.ref (ad 17), .int (xw_i p1)] ++ List.replicate (3 - (lg_sl [.ref (ad 17), .int (xw_i p1)]).length) Slot.unset).toArray = ls at hl ⊢
  have hl : lv_has ls 3 [(0, .ref (ad 17)), (1, .int (xw_i p1))] := hl
  unfold f_MC_giveBack at h
  refine lv_aload_n hx hb d_MC_giveBack_0 rfl (lv_at hl 0 rfl) ?_
  refine lv_dup hx hb d_MC_giveBack_1 rfl ?_
  refine xw_getI (C := "AdviceWeaver$Machine") (T := T_MC) hx hb hts hin_MC hown hK hP (by decide) kc_Mach (by decide) rfl 3 (by decide) (hts _ hw_305) (fun _ h9 => h9) rfl d_MC_giveBack_2 ?_
  refine lv_iconst (v := xw_i 1) hx hb d_MC_giveBack_5 rfl ?_
  refine xw_isub hx hb d_MC_giveBack_6 ?_
  refine xw_putI (C := "AdviceWeaver$Machine") (T := T_MC) hx hb hts hin_MC ty_MC ty_MC_ok nm_MC hown hK hP hD hS (by decide) kc_Mach (by decide) rfl 3 (by decide) (hts _ hw_305) (fun _ h9 => h9) rfl (by decide +kernel) rfl d_MC_giveBack_7 (fun s1 e2 H locs hP hS => ?_)
  replace h := xw_letI e2 h
  refine lv_aload_n hx hb d_MC_giveBack_10 rfl (lv_at hl 0 rfl) ?_
  refine xw_getI (C := "AdviceWeaver$Machine") (T := T_MC) hx hb hts hin_MC hown hK hP (by decide) kc_Mach (by decide) rfl 3 (by decide) (hts _ hw_305) (fun _ h9 => h9) rfl d_MC_giveBack_11 ?_
  obtain ⟨hg3, h⟩ := xw_grdI h
  refine xw_if_ne (tgt := 24) hx hb hg3 d_MC_giveBack_14 (by decide) (fun hc4 => ?_) (fun hc4 => ?_)
  · replace h := xw_ifF hc4 h
    refine lv_aload_n hx hb d_MC_giveBack_24 rfl (lv_at hl 0 rfl) ?_
    refine xw_getR (C := "AdviceWeaver$Machine") (T := T_MC) hx hb hts hin_MC hown hK hP (by decide) kc_Mach (by decide) rfl 0 (by decide) (hts _ hw_312) (fun _ h9 => h9) rfl d_MC_giveBack_25 ?_
    refine lv_aload_n hx hb d_MC_giveBack_28 rfl (lv_at hl 0 rfl) ?_
    refine xw_getI (C := "AdviceWeaver$Machine") (T := T_MC) hx hb hts hin_MC hown hK hP (by decide) kc_Mach (by decide) rfl 3 (by decide) (hts _ hw_305) (fun _ h9 => h9) rfl d_MC_giveBack_29 ?_
    refine lv_iconst (v := xw_i 1) hx hb d_MC_giveBack_32 rfl ?_
    refine xw_isub hx hb d_MC_giveBack_33 ?_
    obtain ⟨hg5, h⟩ := xw_grdI h
    refine xw_aald25 (r := 24 + 3 * (((s1.1 17 3) - 1).toNat)) hx hb hK hP (by decide) kc_FrameArr (by decide) hg5 (kc_FrameArrE _ (by omega)) d_MC_giveBack_34 ?_
    refine lv_astore_n hx hb d_MC_giveBack_35 rfl hl (by decide) rfl (fun ls hl => ?_)
    refine lv_aload_n hx hb d_MC_giveBack_36 rfl (lv_at hl 0 rfl) ?_
    refine lv_iload_n hx hb d_MC_giveBack_37 rfl (lv_at hl 2 rfl) ?_
    obtain ⟨s6, hc7, h⟩ := xw_bndI h
    refine xw_callVv (C := "AdviceWeaver$Frame") (T := T_FR) ⟨hx, hb, hml, hown, hts⟩ (c_FR_push l D A ad cs Z tt fu s1 s6 (((s1.1 17 3) - 1).toNat) (by omega) p1 hc7) (cwV 1 hts (gd_V hw_322 hw_323 hw_324 hw_310 hw_325) rfl rfl rfl (by decide +kernel) ⟨Nat.le_of_ble_eq_true rfl, Nat.le_of_ble_eq_true rfl⟩) hP hK hD hX hS (by omega) (kc_Frame (((s1.1 17 3) - 1).toNat) (by omega)) (by decide) rfl rfl hl.1 rfl (Nat.le_of_ble_eq_true rfl) d_MC_giveBack_38 (fun H locs hP hS => ?_)
    refine lv_aload_n hx hb d_MC_giveBack_41 rfl (lv_at hl 0 rfl) ?_
    refine lv_dup hx hb d_MC_giveBack_42 rfl ?_
    refine xw_getI (C := "AdviceWeaver$Frame") (T := T_FR) hx hb hts hin_FR hown hK hP (by omega) (kc_Frame (((s1.1 17 3) - 1).toNat) (by omega)) (by decide) rfl 4 (by decide) (hts _ hw_326) (fun _ h9 => h9) rfl d_MC_giveBack_43 ?_
    refine lv_bipush (v := xw_i 13) hx hb d_MC_giveBack_46 (by decide) ?_
    obtain ⟨s9, r11, hc10, h⟩ := xw_bn2I h
    refine xw_callSi ⟨hx, hb, hml, hown, hts⟩ (c_OP_size l D A ad cs Z tt fu s6 s9 13 r11 hc10) (va_cwS 1 hts (gd_S hw_327 hw_47 hw_48 hw_49) rfl rfl rfl (by decide +kernel) ⟨Nat.le_of_ble_eq_true rfl, Nat.le_of_ble_eq_true rfl⟩) hP hK hD hX hS rfl hl.1 rfl (Nat.le_of_ble_eq_true rfl) d_MC_giveBack_48 (fun H locs hP hS => ?_)
    refine xw_iadd hx hb d_MC_giveBack_51 ?_
    refine xw_putI (C := "AdviceWeaver$Frame") (T := T_FR) hx hb hts hin_FR ty_FR ty_FR_ok nm_FR hown hK hP hD hS (by omega) (kc_Frame (((s1.1 17 3) - 1).toNat) (by omega)) (by decide) rfl 4 (by decide) (hts _ hw_326) (fun _ h9 => h9) rfl (by decide +kernel) rfl d_MC_giveBack_52 (fun s12 e13 H locs hP hS => ?_)
    replace h := xw_letI e13 h
    exact xw_vretE hx hb hr hlk hP hK hD hX hS h d_MC_giveBack_55
  · replace h := xw_ifT hc4 h
    refine lv_aload_n hx hb d_MC_giveBack_17 rfl (lv_at hl 0 rfl) ?_
    refine lv_iconst (v := xw_i 0) hx hb d_MC_giveBack_18 rfl ?_
    refine lv_iload_n hx hb d_MC_giveBack_19 rfl (lv_at hl 1 rfl) ?_
    obtain ⟨s14, hc15, h⟩ := xw_bndI h
    refine xw_callVv (C := "AdviceWeaver$Machine") (T := T_MC) ⟨hx, hb, hml, hown, hts⟩ (c_MC_end l D A ad cs Z tt fu s1 s14 0 p1 hc15) (cwV 2 hts (gd_V hw_317 hw_318 hw_319 hw_320 hw_321) rfl rfl rfl (by decide +kernel) ⟨Nat.le_of_ble_eq_true rfl, Nat.le_of_ble_eq_true rfl⟩) hP hK hD hX hS (by decide) kc_Mach (by decide) rfl rfl hl.1 rfl (Nat.le_of_ble_eq_true rfl) d_MC_giveBack_20 (fun H locs hP hS => ?_)
    exact xw_vretE hx hb hr hlk hP hK hD hX hS h d_MC_giveBack_23
def lp_MC_raise_0 (fu : Nat) (a2 : Nat) (c1_0 : Int) (k41 : xw_S → Nat → Int → Option xw_S) (k62 : xw_S → Option xw_S) : Nat → xw_S → Option xw_S
  | 0, _ => none
  | n + 1, s1 =>
    xw_grd (xw_r (s1.1 17 3)) (xw_if (s1.1 17 3 ≤ 0) (k62 s1)
     (xw_grd ((0 ≤ (s1.1 17 3) - 1 ∧ (s1.1 17 3) - 1 < ((8 : Nat) : Int))) (xw_grd ((0 ≤ s1.1 (24 + 3 * (((s1.1 17 3) - 1).toNat)) 3 ∧ s1.1 (24 + 3 * (((s1.1 17 3) - 1).toNat)) 3 < ((4 : Nat) : Int))) (xw_bn2 (f_B_catcherOf fu s1 (4 * a2 + (s1.1 (24 + 3 * (((s1.1 17 3) - 1).toNat)) 3).toNat) (s1.1 (24 + 3 * (((s1.1 17 3) - 1).toNat)) 4) c1_0) (fun s6 r8 => xw_grd (xw_r r8) (xw_if (r8 = -1) (xw_let (xw_st s6 17 3 ((s6.1 17 3) - 1)) (fun s11 => lp_MC_raise_0 fu a2 c1_0 k41 k62 n s11))
     (k41 s6 (((s1.1 17 3) - 1).toNat) r8)))))))
def f_MC_raise (fu : Nat) (s0 : xw_S) (p1 : Int) (a2 : Nat) : Option xw_S :=
 xw_jn (fun (s17 : xw_S) => xw_bnd (f_MC_end fu s17 1 p1) (fun s18 => some s18))
 (fun (k62 : xw_S → Option xw_S) => xw_jn (fun (s13 : xw_S) (f3_41 : Nat) (i4_41 : Int) => xw_bnd (f_FR_goOnWith fu s13 f3_41 p1 i4_41) (fun s14 => some s14))
 (fun (k41 : xw_S → Nat → Int → Option xw_S) => lp_MC_raise_0 fu a2 p1 k41 k62 fu s0))
set_option maxRecDepth 100000 in
set_option maxHeartbeats 4000000 in
theorem c_MC_raise (l : Launch) (D : va_G) (A : Nat → Prop) (ad : Nat → Nat) (cs : Nat → ClassId) (Z : va_W) (tt : Nat → Nat) (fu : Nat) (s0 sZ : xw_S) (p1 : Int) (a2 : Nat) (hb_a2 : a2 < 3) (h : f_MC_raise fu s0 p1 a2 = some sZ) : Met l y_MC_raise w_MC_raise ({ frames := 2, cells := 0, slots := 0, locals := 47 }) (va_Pc [.ref (ad 17), .int (xw_i p1), .ref (ad (3 + a2))] (xw_H D vwCl A kdC 100 ad cs Z tt s0)) (va_Qv (fun u => u = sZ) (xw_H D vwCl A kdC 100 ad cs Z tt) A) 0 0 A := by
  refine Met.ofW (cc := b_MC_raise) (maxL := 5) (ret := none) (by decide) rfl ?_
  intro p e s m args below meth c s₁ B hml hv
  obtain ⟨rfl, hP, hK, hD, hX⟩ := hv
  have hx := B.exec
  have hb := B.bytes
  have hr := B.returns
  have hts0 := atoms_spec (ws := w_MC_raise) B.pre
  have hts := fun w (hw : w ∈ wAll) => hts0 w (List.mem_cons_of_mem _ hw)
  have hown : s.vm.findClass "AdviceWeaver$Machine" = some m.cls := findClass_of_methodNamed B.named
  have hlk := B.notSynchronized
  clear hts0 B
  have hS : va_S A s.heap s.heap [] := va_S.rf
  have hl := lv_entry [.ref (ad 17), .int (xw_i p1), .ref (ad (3 + a2))] (n := 5) (Nat.le_of_ble_eq_true rfl)
  rw [lg_entry_eq]
  generalize (lg_sl [.ref (ad 17), .int (xw_i p1), .ref (ad (3 + a2))] ++ List.replicate (5 - (lg_sl [.ref (ad 17), .int (xw_i p1), .ref (ad (3 + a2))]).length) Slot.unset).toArray = ls at hl ⊢
  have hl : lv_has ls 5 [(0, .ref (ad 17)), (1, .int (xw_i p1)), (2, .ref (ad (3 + a2)))] := hl
  have hlp0 : ∀ (c1_0 : Int) (k41 : xw_S → Nat → Int → Option xw_S) (hk41 : ∀ (sq : xw_S) (f3_41 : Nat) (i4_41 : Int), f3_41 < 8 → k41 sq f3_41 i4_41 = some sZ → ∀ (H : Heap) (locs : List Loc) (ls : Array Slot), va_P D vwCl (xw_ws kdC 100 ad cs Z sq) H → va_S A s.heap H locs → lv_has ls 5 [(1, .int (xw_i c1_0)), (3, .ref (ad (24 + 3 * f3_41))), (4, .int (xw_i i4_41))] → W p l e (headSpec w_MC_raise ({ frames := 2, cells := 0, slots := 0, locals := 47 })).room s m [.ref (ad 17), .int (xw_i p1), .ref (ad (3 + a2))].toArray below meth c H locs 0 0 (MQ below (va_Qv (fun u => u = sZ) (xw_H D vwCl A kdC 100 ad cs Z tt) A) [.ref (ad 17), .int (xw_i p1), .ref (ad (3 + a2))].toArray s 0 0 A) (F0 m 41 ls [])) (k62 : xw_S → Option xw_S) (hk62 : ∀ (sq : xw_S), k62 sq = some sZ → ∀ (H : Heap) (locs : List Loc) (ls : Array Slot), va_P D vwCl (xw_ws kdC 100 ad cs Z sq) H → va_S A s.heap H locs → lv_has ls 5 [(0, .ref (ad 17)), (1, .int (xw_i c1_0))] → W p l e (headSpec w_MC_raise ({ frames := 2, cells := 0, slots := 0, locals := 47 })).room s m [.ref (ad 17), .int (xw_i p1), .ref (ad (3 + a2))].toArray below meth c H locs 0 0 (MQ below (va_Qv (fun u => u = sZ) (xw_H D vwCl A kdC 100 ad cs Z tt) A) [.ref (ad 17), .int (xw_i p1), .ref (ad (3 + a2))].toArray s 0 0 A) (F0 m 62 ls [])) (n : Nat), ∀ (sq : xw_S), lp_MC_raise_0 fu a2 c1_0 k41 k62 n sq = some sZ → ∀ (H : Heap) (locs : List Loc) (ls : Array Slot), va_P D vwCl (xw_ws kdC 100 ad cs Z sq) H → va_S A s.heap H locs → lv_has ls 5 [(0, .ref (ad 17)), (1, .int (xw_i c1_0)), (2, .ref (ad (3 + a2)))] → W p l e (headSpec w_MC_raise ({ frames := 2, cells := 0, slots := 0, locals := 47 })).room s m [.ref (ad 17), .int (xw_i p1), .ref (ad (3 + a2))].toArray below meth c H locs 0 0 (MQ below (va_Qv (fun u => u = sZ) (xw_H D vwCl A kdC 100 ad cs Z tt) A) [.ref (ad 17), .int (xw_i p1), .ref (ad (3 + a2))].toArray s 0 0 A) (F0 m 0 ls []) := by
    intro c1_0 k41 hk41 k62 hk62 n
    induction n with
    | zero =>
      intro sq h
      cases (show (none : Option xw_S) = some sZ from h)
    | succ n ih0 =>
      intro s1 h H locs ls hP hS hl
      unfold lp_MC_raise_0 at h
      refine lv_aload_n hx hb d_MC_raise_0 rfl (lv_at hl 0 rfl) ?_
      refine xw_getI (C := "AdviceWeaver$Machine") (T := T_MC) hx hb hts hin_MC hown hK hP (by decide) kc_Mach (by decide) rfl 3 (by decide) (hts _ hw_305) (fun _ h9 => h9) rfl d_MC_raise_1 ?_
      obtain ⟨hg2, h⟩ := xw_grdI h
      refine xw_if_le (tgt := 62) hx hb hg2 d_MC_raise_4 (by decide) (fun hc3 => ?_) (fun hc3 => ?_)
      · replace h := xw_ifT hc3 h
        exact hk62 s1 h _ _ _ hP hS (lv_sub hl [0, 1] rfl)
      · replace h := xw_ifF hc3 h
        refine lv_aload_n hx hb d_MC_raise_7 rfl (lv_at hl 0 rfl) ?_
        refine xw_getR (C := "AdviceWeaver$Machine") (T := T_MC) hx hb hts hin_MC hown hK hP (by decide) kc_Mach (by decide) rfl 0 (by decide) (hts _ hw_312) (fun _ h9 => h9) rfl d_MC_raise_8 ?_
        refine lv_aload_n hx hb d_MC_raise_11 rfl (lv_at hl 0 rfl) ?_
        refine xw_getI (C := "AdviceWeaver$Machine") (T := T_MC) hx hb hts hin_MC hown hK hP (by decide) kc_Mach (by decide) rfl 3 (by decide) (hts _ hw_305) (fun _ h9 => h9) rfl d_MC_raise_12 ?_
        refine lv_iconst (v := xw_i 1) hx hb d_MC_raise_15 rfl ?_
        refine xw_isub hx hb d_MC_raise_16 ?_
        obtain ⟨hg4, h⟩ := xw_grdI h
        refine xw_aald25 (r := 24 + 3 * (((s1.1 17 3) - 1).toNat)) hx hb hK hP (by decide) kc_FrameArr (by decide) hg4 (kc_FrameArrE _ (by omega)) d_MC_raise_17 ?_
        refine lv_astore_n hx hb d_MC_raise_18 rfl hl (by decide) rfl (fun ls hl => ?_)
        refine lv_aload_n hx hb d_MC_raise_19 rfl (lv_at hl 3 rfl) ?_
        refine lv_aload_n hx hb d_MC_raise_20 rfl (lv_at hl 0 rfl) ?_
        refine xw_getI (C := "AdviceWeaver$Frame") (T := T_FR) hx hb hts hin_FR hown hK hP (by omega) (kc_Frame (((s1.1 17 3) - 1).toNat) (by omega)) (by decide) rfl 3 (by decide) (hts _ hw_330) (fun _ h9 => h9) rfl d_MC_raise_21 ?_
        obtain ⟨hg5, h⟩ := xw_grdI h
        refine xw_aald23 (r := 48 + 4 * (4 * a2 + (s1.1 (24 + 3 * (((s1.1 17 3) - 1).toNat)) 3).toNat)) hx hb hK hP (by omega) (kc_BodyArr a2 (by omega)) (by decide) hg5 (kc_BodyArrE a2 _ (by omega) (by omega)) d_MC_raise_24 ?_
        refine lv_aload_n hx hb d_MC_raise_25 rfl (lv_at hl 0 rfl) ?_
        refine xw_getI (C := "AdviceWeaver$Frame") (T := T_FR) hx hb hts hin_FR hown hK hP (by omega) (kc_Frame (((s1.1 17 3) - 1).toNat) (by omega)) (by decide) rfl 4 (by decide) (hts _ hw_326) (fun _ h9 => h9) rfl d_MC_raise_26 ?_
        refine lv_iload_n hx hb d_MC_raise_29 rfl (lv_at hl 2 rfl) ?_
        obtain ⟨s6, r8, hc7, h⟩ := xw_bn2I h
        refine xw_callVi (C := "AdviceWeaver$Body") (T := T_B) ⟨hx, hb, hml, hown, hts⟩ (c_B_catcherOf l D A ad cs Z tt fu s1 s6 (4 * a2 + (s1.1 (24 + 3 * (((s1.1 17 3) - 1).toNat)) 3).toNat) (by omega) (s1.1 (24 + 3 * (((s1.1 17 3) - 1).toNat)) 4) c1_0 r8 hc7) (cwV 2 hts (gd_V hw_331 hw_332 hw_333 hw_25 hw_334) rfl rfl rfl (by decide +kernel) ⟨Nat.le_of_ble_eq_true rfl, Nat.le_of_ble_eq_true rfl⟩) hP hK hD hX hS (by omega) (kc_Body (4 * a2 + (s1.1 (24 + 3 * (((s1.1 17 3) - 1).toNat)) 3).toNat) (by omega)) (by decide) rfl rfl hl.1 rfl (Nat.le_of_ble_eq_true rfl) d_MC_raise_30 (fun H locs hP hS => ?_)
        refine lv_istore hx hb d_MC_raise_33 hl (by decide) rfl (fun ls hl => ?_)
        refine lv_iload hx hb d_MC_raise_35 (lv_at hl 0 rfl) ?_
        refine lv_iconst (v := xw_i (-1)) hx hb d_MC_raise_37 rfl ?_
        obtain ⟨hg9, h⟩ := xw_grdI h
        refine xw_icmp_eq (tgt := 49) hx hb hg9 (by decide) d_MC_raise_38 (by decide) (fun hc10 => ?_) (fun hc10 => ?_)
        · replace h := xw_ifT hc10 h
          refine lv_aload_n hx hb d_MC_raise_49 rfl (lv_at hl 2 rfl) ?_
          refine lv_dup hx hb d_MC_raise_50 rfl ?_
          refine xw_getI (C := "AdviceWeaver$Machine") (T := T_MC) hx hb hts hin_MC hown hK hP (by decide) kc_Mach (by decide) rfl 3 (by decide) (hts _ hw_305) (fun _ h9 => h9) rfl d_MC_raise_51 ?_
          refine lv_iconst (v := xw_i 1) hx hb d_MC_raise_54 rfl ?_
          refine xw_isub hx hb d_MC_raise_55 ?_
          refine xw_putI (C := "AdviceWeaver$Machine") (T := T_MC) hx hb hts hin_MC ty_MC ty_MC_ok nm_MC hown hK hP hD hS (by decide) kc_Mach (by decide) rfl 3 (by decide) (hts _ hw_305) (fun _ h9 => h9) rfl (by decide +kernel) rfl d_MC_raise_56 (fun s11 e12 H locs hP hS => ?_)
          replace h := xw_letI e12 h
          refine lv_goto (tgt := 0) hx hb d_MC_raise_59 (by decide) ?_
          exact ih0 s11 h _ _ _ hP hS (lv_sub hl [2, 3, 4] rfl)
        · replace h := xw_ifF hc10 h
          exact hk41 s6 (((s1.1 17 3) - 1).toNat) r8 (by omega) h _ _ _ hP hS (lv_sub hl [3, 1, 0] rfl)
  unfold f_MC_raise at h
  refine xw_jnI (fun j => ∀ (sq : xw_S), j sq = some sZ → ∀ (H : Heap) (locs : List Loc) (ls : Array Slot), va_P D vwCl (xw_ws kdC 100 ad cs Z sq) H → va_S A s.heap H locs → lv_has ls 5 [(0, .ref (ad 17)), (1, .int (xw_i p1))] → W p l e (headSpec w_MC_raise ({ frames := 2, cells := 0, slots := 0, locals := 47 })).room s m [.ref (ad 17), .int (xw_i p1), .ref (ad (3 + a2))].toArray below meth c H locs 0 0 (MQ below (va_Qv (fun u => u = sZ) (xw_H D vwCl A kdC 100 ad cs Z tt) A) [.ref (ad 17), .int (xw_i p1), .ref (ad (3 + a2))].toArray s 0 0 A) (F0 m 62 ls [])) h ?_ ?_
  · intro s17 h H locs ls hP hS hl
    refine lv_aload_n hx hb d_MC_raise_62 rfl (lv_at hl 0 rfl) ?_
    refine lv_iconst (v := xw_i 1) hx hb d_MC_raise_63 rfl ?_
    refine lv_iload_n hx hb d_MC_raise_64 rfl (lv_at hl 1 rfl) ?_
    obtain ⟨s18, hc19, h⟩ := xw_bndI h
    refine xw_callVv (C := "AdviceWeaver$Machine") (T := T_MC) ⟨hx, hb, hml, hown, hts⟩ (c_MC_end l D A ad cs Z tt fu s17 s18 1 p1 hc19) (cwV 2 hts (gd_V hw_317 hw_318 hw_319 hw_320 hw_321) rfl rfl rfl (by decide +kernel) ⟨Nat.le_of_ble_eq_true rfl, Nat.le_of_ble_eq_true rfl⟩) hP hK hD hX hS (by decide) kc_Mach (by decide) rfl rfl hl.1 rfl (Nat.le_of_ble_eq_true rfl) d_MC_raise_65 (fun H locs hP hS => ?_)
    exact xw_vretE hx hb hr hlk hP hK hD hX hS h d_MC_raise_68
  · intro k62 hk62 h
    refine xw_jnI (fun j => ∀ (sq : xw_S) (f3_41 : Nat) (i4_41 : Int), f3_41 < 8 → j sq f3_41 i4_41 = some sZ → ∀ (H : Heap) (locs : List Loc) (ls : Array Slot), va_P D vwCl (xw_ws kdC 100 ad cs Z sq) H → va_S A s.heap H locs → lv_has ls 5 [(1, .int (xw_i p1)), (3, .ref (ad (24 + 3 * f3_41))), (4, .int (xw_i i4_41))] → W p l e (headSpec w_MC_raise ({ frames := 2, cells := 0, slots := 0, locals := 47 })).room s m [.ref (ad 17), .int (xw_i p1), .ref (ad (3 + a2))].toArray below meth c H locs 0 0 (MQ below (va_Qv (fun u => u = sZ) (xw_H D vwCl A kdC 100 ad cs Z tt) A) [.ref (ad 17), .int (xw_i p1), .ref (ad (3 + a2))].toArray s 0 0 A) (F0 m 41 ls [])) h ?_ ?_
    · intro s13 f3_41 i4_41 hb41_0 h H locs ls hP hS hl
      refine lv_aload_n hx hb d_MC_raise_41 rfl (lv_at hl 1 rfl) ?_
      refine lv_iload_n hx hb d_MC_raise_42 rfl (lv_at hl 0 rfl) ?_
      refine lv_iload hx hb d_MC_raise_43 (lv_at hl 2 rfl) ?_
      obtain ⟨s14, hc15, h⟩ := xw_bndI h
      refine xw_callVv (C := "AdviceWeaver$Frame") (T := T_FR) ⟨hx, hb, hml, hown, hts⟩ (c_FR_goOnWith l D A ad cs Z tt fu s13 s14 f3_41 (by omega) p1 i4_41 hc15) (cwV 2 hts (gd_V hw_335 hw_336 hw_337 hw_310 hw_338) rfl rfl rfl (by decide +kernel) ⟨Nat.le_of_ble_eq_true rfl, Nat.le_of_ble_eq_true rfl⟩) hP hK hD hX hS (by omega) (kc_Frame f3_41 (by omega)) (by decide) rfl rfl hl.1 rfl (Nat.le_of_ble_eq_true rfl) d_MC_raise_45 (fun H locs hP hS => ?_)
      exact xw_vretE hx hb hr hlk hP hK hD hX hS h d_MC_raise_48
    · intro k41 hk41 h
      exact hlp0 p1 k41 hk41 k62 hk62 fu s0 h _ _ _ hP hS (lv_sub hl [0, 1, 2] rfl)
def f_MC_divide (fu : Nat) (s0 : xw_S) (f1 : Nat) (a2 : Nat) : Option xw_S :=
 xw_bn2 (f_FR_pop fu s0 f1) (fun s1 r3 => xw_bn2 (f_FR_pop fu s1 f1) (fun s4 r6 => xw_grd (xw_r r3) (xw_if (r3 = 0) (xw_bnd (f_MC_raise fu s4 1 a2) (fun s18 => some s18))
 (xw_grd (¬ r3 = 0) (xw_bnd (f_FR_push fu s4 f1 (xw_dv r6 r3)) (fun s10 => xw_bn2 (f_OP_size fu s10 7) (fun s13 r15 => xw_let (xw_st s13 (24 + 3 * f1) 4 ((s10.1 (24 + 3 * f1) 4) + r15)) (fun s16 => some s16))))))))
set_option maxRecDepth 100000 in
set_option maxHeartbeats 4000000 in
theorem c_MC_divide (l : Launch) (D : va_G) (A : Nat → Prop) (ad : Nat → Nat) (cs : Nat → ClassId) (Z : va_W) (tt : Nat → Nat) (fu : Nat) (s0 sZ : xw_S) (f1 : Nat) (hb_f1 : f1 < 8) (a2 : Nat) (hb_a2 : a2 < 3) (h : f_MC_divide fu s0 f1 a2 = some sZ) : Met l y_MC_divide w_MC_divide ({ frames := 3, cells := 0, slots := 0, locals := 71 }) (va_Pc [.ref (ad 17), .ref (ad (24 + 3 * f1)), .ref (ad (3 + a2))] (xw_H D vwCl A kdC 100 ad cs Z tt s0)) (va_Qv (fun u => u = sZ) (xw_H D vwCl A kdC 100 ad cs Z tt) A) 0 0 A := by
  refine Met.ofW (cc := b_MC_divide) (maxL := 5) (ret := none) (by decide) rfl ?_
  intro p e s m args below meth c s₁ B hml hv
  obtain ⟨rfl, hP, hK, hD, hX⟩ := hv
  have hx := B.exec
  have hb := B.bytes
  have hr := B.returns
  have hts0 := atoms_spec (ws := w_MC_divide) B.pre
  have hts := fun w (hw : w ∈ wAll) => hts0 w (List.mem_cons_of_mem _ hw)
  have hown : s.vm.findClass "AdviceWeaver$Machine" = some m.cls := findClass_of_methodNamed B.named
  have hlk := B.notSynchronized
  clear hts0 B
  have hS : va_S A s.heap s.heap [] := va_S.rf
  have hl := lv_entry [.ref (ad 17), .ref (ad (24 + 3 * f1)), .ref (ad (3 + a2))] (n := 5) (Nat.le_of_ble_eq_true rfl)
  rw [lg_entry_eq]
  generalize (lg_sl [.ref (ad 17), .ref (ad (24 + 3 * f1)), .ref (ad (3 + a2))] ++ List.replicate (5 - (lg_sl [.ref (ad 17), .ref (ad (24 + 3 * f1)), .ref (ad (3 + a2))]).length) Slot.unset).toArray = ls at hl ⊢
  have hl : lv_has ls 5 [(0, .ref (ad 17)), (1, .ref (ad (24 + 3 * f1))), (2, .ref (ad (3 + a2)))] := hl
  unfold f_MC_divide at h
  refine lv_aload_n hx hb d_MC_divide_0 rfl (lv_at hl 1 rfl) ?_
  obtain ⟨s1, r3, hc2, h⟩ := xw_bn2I h
  refine xw_callVi (C := "AdviceWeaver$Frame") (T := T_FR) ⟨hx, hb, hml, hown, hts⟩ (c_FR_pop l D A ad cs Z tt fu s0 s1 f1 (by omega) r3 hc2) (cwV 0 hts (gd_V hw_307 hw_308 hw_309 hw_310 hw_311) rfl rfl rfl (by decide +kernel) ⟨Nat.le_of_ble_eq_true rfl, Nat.le_of_ble_eq_true rfl⟩) hP hK hD hX hS (by omega) (kc_Frame f1 (by omega)) (by decide) rfl rfl hl.1 rfl (Nat.le_of_ble_eq_true rfl) d_MC_divide_1 (fun H locs hP hS => ?_)
  refine lv_istore_n hx hb d_MC_divide_4 rfl hl (by decide) rfl (fun ls hl => ?_)
  refine lv_aload_n hx hb d_MC_divide_5 rfl (lv_at hl 2 rfl) ?_
  obtain ⟨s4, r6, hc5, h⟩ := xw_bn2I h
  refine xw_callVi (C := "AdviceWeaver$Frame") (T := T_FR) ⟨hx, hb, hml, hown, hts⟩ (c_FR_pop l D A ad cs Z tt fu s1 s4 f1 (by omega) r6 hc5) (cwV 0 hts (gd_V hw_307 hw_308 hw_309 hw_310 hw_311) rfl rfl rfl (by decide +kernel) ⟨Nat.le_of_ble_eq_true rfl, Nat.le_of_ble_eq_true rfl⟩) hP hK hD hX hS (by omega) (kc_Frame f1 (by omega)) (by decide) rfl rfl hl.1 rfl (Nat.le_of_ble_eq_true rfl) d_MC_divide_6 (fun H locs hP hS => ?_)
  refine lv_istore hx hb d_MC_divide_9 hl (by decide) rfl (fun ls hl => ?_)
  refine lv_iload_n hx hb d_MC_divide_11 rfl (lv_at hl 1 rfl) ?_
  obtain ⟨hg7, h⟩ := xw_grdI h
  refine xw_if_ne (tgt := 22) hx hb hg7 d_MC_divide_12 (by decide) (fun hc8 => ?_) (fun hc8 => ?_)
  · replace h := xw_ifF hc8 h
    refine lv_aload_n hx hb d_MC_divide_22 rfl (lv_at hl 3 rfl) ?_
    refine lv_iload hx hb d_MC_divide_23 (lv_at hl 0 rfl) ?_
    refine lv_iload_n hx hb d_MC_divide_25 rfl (lv_at hl 1 rfl) ?_
    obtain ⟨hg9, h⟩ := xw_grdI h
    refine xw_idiv hx hb hg7 hg9 d_MC_divide_26 ?_
    obtain ⟨s10, hc11, h⟩ := xw_bndI h
    refine xw_callVv (C := "AdviceWeaver$Frame") (T := T_FR) ⟨hx, hb, hml, hown, hts⟩ (c_FR_push l D A ad cs Z tt fu s4 s10 f1 (by omega) (xw_dv r6 r3) hc11) (cwV 1 hts (gd_V hw_322 hw_323 hw_324 hw_310 hw_325) rfl rfl rfl (by decide +kernel) ⟨Nat.le_of_ble_eq_true rfl, Nat.le_of_ble_eq_true rfl⟩) hP hK hD hX hS (by omega) (kc_Frame f1 (by omega)) (by decide) rfl rfl hl.1 rfl (Nat.le_of_ble_eq_true rfl) d_MC_divide_27 (fun H locs hP hS => ?_)
    refine lv_aload_n hx hb d_MC_divide_30 rfl (lv_at hl 3 rfl) ?_
    refine lv_dup hx hb d_MC_divide_31 rfl ?_
    refine xw_getI (C := "AdviceWeaver$Frame") (T := T_FR) hx hb hts hin_FR hown hK hP (by omega) (kc_Frame f1 (by omega)) (by decide) rfl 4 (by decide) (hts _ hw_326) (fun _ h9 => h9) rfl d_MC_divide_32 ?_
    refine lv_bipush (v := xw_i 7) hx hb d_MC_divide_35 (by decide) ?_
    obtain ⟨s13, r15, hc14, h⟩ := xw_bn2I h
    refine xw_callSi ⟨hx, hb, hml, hown, hts⟩ (c_OP_size l D A ad cs Z tt fu s10 s13 7 r15 hc14) (va_cwS 1 hts (gd_S hw_327 hw_47 hw_48 hw_49) rfl rfl rfl (by decide +kernel) ⟨Nat.le_of_ble_eq_true rfl, Nat.le_of_ble_eq_true rfl⟩) hP hK hD hX hS rfl hl.1 rfl (Nat.le_of_ble_eq_true rfl) d_MC_divide_37 (fun H locs hP hS => ?_)
    refine xw_iadd hx hb d_MC_divide_40 ?_
    refine xw_putI (C := "AdviceWeaver$Frame") (T := T_FR) hx hb hts hin_FR ty_FR ty_FR_ok nm_FR hown hK hP hD hS (by omega) (kc_Frame f1 (by omega)) (by decide) rfl 4 (by decide) (hts _ hw_326) (fun _ h9 => h9) rfl (by decide +kernel) rfl d_MC_divide_41 (fun s16 e17 H locs hP hS => ?_)
    replace h := xw_letI e17 h
    exact xw_vretE hx hb hr hlk hP hK hD hX hS h d_MC_divide_44
  · replace h := xw_ifT hc8 h
    refine lv_aload_n hx hb d_MC_divide_15 rfl (lv_at hl 2 rfl) ?_
    refine lv_iconst (v := xw_i 1) hx hb d_MC_divide_16 rfl ?_
    refine lv_aload_n hx hb d_MC_divide_17 rfl (lv_at hl 4 rfl) ?_
    obtain ⟨s18, hc19, h⟩ := xw_bndI h
    refine xw_callVv (C := "AdviceWeaver$Machine") (T := T_MC) ⟨hx, hb, hml, hown, hts⟩ (c_MC_raise l D A ad cs Z tt fu s4 s18 1 a2 (by omega) hc19) (cwV 2 hts (gd_V hw_339 hw_340 hw_341 hw_320 hw_342) rfl rfl rfl (by decide +kernel) ⟨Nat.le_of_ble_eq_true rfl, Nat.le_of_ble_eq_true rfl⟩) hP hK hD hX hS (by decide) kc_Mach (by decide) rfl rfl hl.1 rfl (Nat.le_of_ble_eq_true rfl) d_MC_divide_18 (fun H locs hP hS => ?_)
    exact xw_vretE hx hb hr hlk hP hK hD hX hS h d_MC_divide_21
def f_MC_calculate (fu : Nat) (s0 : xw_S) (f1 : Nat) (p2 : Int) : Option xw_S :=
 xw_bn2 (f_FR_pop fu s0 f1) (fun s1 r3 => xw_bn2 (f_FR_pop fu s1 f1) (fun s4 r6 => xw_grd (xw_r p2) (xw_if (p2 = 4) (xw_bnd (f_FR_push fu s4 f1 (xw_wr (r6 + r3))) (fun s16 => some s16))
 (xw_if (p2 = 5) (xw_bnd (f_FR_push fu s4 f1 (xw_wr (r6 - r3))) (fun s13 => some s13))
 (xw_bnd (f_FR_push fu s4 f1 (xw_wr (r6 * r3))) (fun s10 => some s10))))))
set_option maxRecDepth 100000 in
set_option maxHeartbeats 4000000 in
theorem c_MC_calculate (l : Launch) (D : va_G) (A : Nat → Prop) (ad : Nat → Nat) (cs : Nat → ClassId) (Z : va_W) (tt : Nat → Nat) (fu : Nat) (s0 sZ : xw_S) (f1 : Nat) (hb_f1 : f1 < 8) (p2 : Int) (h : f_MC_calculate fu s0 f1 p2 = some sZ) : Met l y_MC_calculate w_MC_calculate ({ frames := 1, cells := 0, slots := 0, locals := 21 }) (va_Pc [.ref (ad 17), .ref (ad (24 + 3 * f1)), .int (xw_i p2)] (xw_H D vwCl A kdC 100 ad cs Z tt s0)) (va_Qv (fun u => u = sZ) (xw_H D vwCl A kdC 100 ad cs Z tt) A) 0 0 A := by
  refine Met.ofW (cc := b_MC_calculate) (maxL := 5) (ret := none) (by decide) rfl ?_
  intro p e s m args below meth c s₁ B hml hv
  obtain ⟨rfl, hP, hK, hD, hX⟩ := hv
  have hx := B.exec
  have hb := B.bytes
  have hr := B.returns
  have hts0 := atoms_spec (ws := w_MC_calculate) B.pre
  have hts := fun w (hw : w ∈ wAll) => hts0 w (List.mem_cons_of_mem _ hw)
  have hown : s.vm.findClass "AdviceWeaver$Machine" = some m.cls := findClass_of_methodNamed B.named
  have hlk := B.notSynchronized
  clear hts0 B
  have hS : va_S A s.heap s.heap [] := va_S.rf
  have hl := lv_entry [.ref (ad 17), .ref (ad (24 + 3 * f1)), .int (xw_i p2)] (n := 5) (Nat.le_of_ble_eq_true rfl)
  rw [lg_entry_eq]
  generalize (lg_sl [.ref (ad 17), .ref (ad (24 + 3 * f1)), .int (xw_i p2)] ++ List.replicate (5 - (lg_sl [.ref (ad 17), .ref (ad (24 + 3 * f1)), .int (xw_i p2)]).length) Slot.unset).toArray = ls at hl ⊢
  have hl : lv_has ls 5 [(0, .ref (ad 17)), (1, .ref (ad (24 + 3 * f1))), (2, .int (xw_i p2))] := hl
  unfold f_MC_calculate at h
  refine lv_aload_n hx hb d_MC_calculate_0 rfl (lv_at hl 1 rfl) ?_
  obtain ⟨s1, r3, hc2, h⟩ := xw_bn2I h
  refine xw_callVi (C := "AdviceWeaver$Frame") (T := T_FR) ⟨hx, hb, hml, hown, hts⟩ (c_FR_pop l D A ad cs Z tt fu s0 s1 f1 (by omega) r3 hc2) (cwV 0 hts (gd_V hw_307 hw_308 hw_309 hw_310 hw_311) rfl rfl rfl (by decide +kernel) ⟨Nat.le_of_ble_eq_true rfl, Nat.le_of_ble_eq_true rfl⟩) hP hK hD hX hS (by omega) (kc_Frame f1 (by omega)) (by decide) rfl rfl hl.1 rfl (Nat.le_of_ble_eq_true rfl) d_MC_calculate_1 (fun H locs hP hS => ?_)
  refine lv_istore_n hx hb d_MC_calculate_4 rfl hl (by decide) rfl (fun ls hl => ?_)
  refine lv_aload_n hx hb d_MC_calculate_5 rfl (lv_at hl 2 rfl) ?_
  obtain ⟨s4, r6, hc5, h⟩ := xw_bn2I h
  refine xw_callVi (C := "AdviceWeaver$Frame") (T := T_FR) ⟨hx, hb, hml, hown, hts⟩ (c_FR_pop l D A ad cs Z tt fu s1 s4 f1 (by omega) r6 hc5) (cwV 0 hts (gd_V hw_307 hw_308 hw_309 hw_310 hw_311) rfl rfl rfl (by decide +kernel) ⟨Nat.le_of_ble_eq_true rfl, Nat.le_of_ble_eq_true rfl⟩) hP hK hD hX hS (by omega) (kc_Frame f1 (by omega)) (by decide) rfl rfl hl.1 rfl (Nat.le_of_ble_eq_true rfl) d_MC_calculate_6 (fun H locs hP hS => ?_)
  refine lv_istore hx hb d_MC_calculate_9 hl (by decide) rfl (fun ls hl => ?_)
  refine lv_iload_n hx hb d_MC_calculate_11 rfl (lv_at hl 4 rfl) ?_
  refine lv_iconst (v := xw_i 4) hx hb d_MC_calculate_12 rfl ?_
  obtain ⟨hg7, h⟩ := xw_grdI h
  refine xw_icmp_ne (tgt := 27) hx hb hg7 (by decide) d_MC_calculate_13 (by decide) (fun hc8 => ?_) (fun hc8 => ?_)
  · replace h := xw_ifF hc8 h
    refine lv_iload_n hx hb d_MC_calculate_27 rfl (lv_at hl 4 rfl) ?_
    refine lv_iconst (v := xw_i 5) hx hb d_MC_calculate_28 rfl ?_
    refine xw_icmp_ne (tgt := 43) hx hb hg7 (by decide) d_MC_calculate_29 (by decide) (fun hc9 => ?_) (fun hc9 => ?_)
    · replace h := xw_ifF hc9 h
      refine lv_aload_n hx hb d_MC_calculate_43 rfl (lv_at hl 3 rfl) ?_
      refine lv_iload hx hb d_MC_calculate_44 (lv_at hl 0 rfl) ?_
      refine lv_iload_n hx hb d_MC_calculate_46 rfl (lv_at hl 1 rfl) ?_
      refine xw_imul hx hb d_MC_calculate_47 ?_
      refine xw_wrap ?_
      obtain ⟨s10, hc11, h⟩ := xw_bndI h
      refine xw_callVv (C := "AdviceWeaver$Frame") (T := T_FR) ⟨hx, hb, hml, hown, hts⟩ (c_FR_push l D A ad cs Z tt fu s4 s10 f1 (by omega) (xw_wr (r6 * r3)) hc11) (cwV 1 hts (gd_V hw_322 hw_323 hw_324 hw_310 hw_325) rfl rfl rfl (by decide +kernel) ⟨Nat.le_of_ble_eq_true rfl, Nat.le_of_ble_eq_true rfl⟩) hP hK hD hX hS (by omega) (kc_Frame f1 (by omega)) (by decide) rfl rfl hl.1 rfl (Nat.le_of_ble_eq_true rfl) d_MC_calculate_48 (fun H locs hP hS => ?_)
      exact xw_vretE hx hb hr hlk hP hK hD hX hS h d_MC_calculate_51
    · replace h := xw_ifT hc9 h
      refine lv_aload_n hx hb d_MC_calculate_32 rfl (lv_at hl 3 rfl) ?_
      refine lv_iload hx hb d_MC_calculate_33 (lv_at hl 0 rfl) ?_
      refine lv_iload_n hx hb d_MC_calculate_35 rfl (lv_at hl 1 rfl) ?_
      refine xw_isub hx hb d_MC_calculate_36 ?_
      refine xw_wrap ?_
      obtain ⟨s13, hc14, h⟩ := xw_bndI h
      refine xw_callVv (C := "AdviceWeaver$Frame") (T := T_FR) ⟨hx, hb, hml, hown, hts⟩ (c_FR_push l D A ad cs Z tt fu s4 s13 f1 (by omega) (xw_wr (r6 - r3)) hc14) (cwV 1 hts (gd_V hw_322 hw_323 hw_324 hw_310 hw_325) rfl rfl rfl (by decide +kernel) ⟨Nat.le_of_ble_eq_true rfl, Nat.le_of_ble_eq_true rfl⟩) hP hK hD hX hS (by omega) (kc_Frame f1 (by omega)) (by decide) rfl rfl hl.1 rfl (Nat.le_of_ble_eq_true rfl) d_MC_calculate_37 (fun H locs hP hS => ?_)
      refine lv_goto (tgt := 51) hx hb d_MC_calculate_40 (by decide) ?_
      exact xw_vretE hx hb hr hlk hP hK hD hX hS h d_MC_calculate_51
  · replace h := xw_ifT hc8 h
    refine lv_aload_n hx hb d_MC_calculate_16 rfl (lv_at hl 3 rfl) ?_
    refine lv_iload hx hb d_MC_calculate_17 (lv_at hl 0 rfl) ?_
    refine lv_iload_n hx hb d_MC_calculate_19 rfl (lv_at hl 1 rfl) ?_
    refine xw_iadd hx hb d_MC_calculate_20 ?_
    refine xw_wrap ?_
    obtain ⟨s16, hc17, h⟩ := xw_bndI h
    refine xw_callVv (C := "AdviceWeaver$Frame") (T := T_FR) ⟨hx, hb, hml, hown, hts⟩ (c_FR_push l D A ad cs Z tt fu s4 s16 f1 (by omega) (xw_wr (r6 + r3)) hc17) (cwV 1 hts (gd_V hw_322 hw_323 hw_324 hw_310 hw_325) rfl rfl rfl (by decide +kernel) ⟨Nat.le_of_ble_eq_true rfl, Nat.le_of_ble_eq_true rfl⟩) hP hK hD hX hS (by omega) (kc_Frame f1 (by omega)) (by decide) rfl rfl hl.1 rfl (Nat.le_of_ble_eq_true rfl) d_MC_calculate_21 (fun H locs hP hS => ?_)
    refine lv_goto (tgt := 51) hx hb d_MC_calculate_24 (by decide) ?_
    exact xw_vretE hx hb hr hlk hP hK hD hX hS h d_MC_calculate_51
def f_MC_noteMark (fu : Nat) (s0 : xw_S) (p1 : Int) (p2 : Int) : Option xw_S :=
 xw_jn (fun (s6 : xw_S) => xw_let (xw_st s6 17 8 ((s6.1 17 8) + 1)) (fun s7 => some s7))
 (fun (j24 : xw_S → Option xw_S) => xw_grd (xw_r (s0.1 17 8)) (xw_if (100 ≤ s0.1 17 8) (j24 s0)
 (xw_grd ((0 ≤ s0.1 17 8 ∧ s0.1 17 8 < ((100 : Nat) : Int))) (xw_let (xw_st s0 19 (s0.1 17 8).toNat ((16 * p1) + p2)) (fun s4 => j24 s4)))))
set_option maxRecDepth 100000 in
set_option maxHeartbeats 4000000 in
theorem c_MC_noteMark (l : Launch) (D : va_G) (A : Nat → Prop) (ad : Nat → Nat) (cs : Nat → ClassId) (Z : va_W) (tt : Nat → Nat) (fu : Nat) (s0 sZ : xw_S) (p1 : Int) (p2 : Int) (h : f_MC_noteMark fu s0 p1 p2 = some sZ) : Met l y_MC_noteMark w_MC_noteMark ({ frames := 0, cells := 0, slots := 0, locals := 0 }) (va_Pc [.ref (ad 17), .int (xw_i p1), .int (xw_i p2)] (xw_H D vwCl A kdC 100 ad cs Z tt s0)) (va_Qv (fun u => u = sZ) (xw_H D vwCl A kdC 100 ad cs Z tt) A) 0 0 A := by
  refine Met.ofW (cc := b_MC_noteMark) (maxL := 3) (ret := none) (by decide) rfl ?_
  intro p e s m args below meth c s₁ B hml hv
  obtain ⟨rfl, hP, hK, hD, hX⟩ := hv
  have hx := B.exec
  have hb := B.bytes
  have hr := B.returns
  have hts0 := atoms_spec (ws := w_MC_noteMark) B.pre
  have hts := fun w (hw : w ∈ wAll) => hts0 w (List.mem_cons_of_mem _ hw)
  have hown : s.vm.findClass "AdviceWeaver$Machine" = some m.cls := findClass_of_methodNamed B.named
  have hlk := B.notSynchronized
  clear hts0 B
  have hS : va_S A s.heap s.heap [] := va_S.rf
  have hl := lv_entry [.ref (ad 17), .int (xw_i p1), .int (xw_i p2)] (n := 3) (Nat.le_of_ble_eq_true rfl)
  rw [lg_entry_eq]
  generalize (lg_sl [.ref (ad 17), .int (xw_i p1), .int (xw_i p2)] ++ List.replicate (3 - (lg_sl [.ref (ad 17), .int (xw_i p1), .int (xw_i p2)]).length) Slot.unset).toArray = ls at hl ⊢
  have hl : lv_has ls 3 [(0, .ref (ad 17)), (1, .int (xw_i p1)), (2, .int (xw_i p2))] := hl
  unfold f_MC_noteMark at h
  refine lv_aload_n hx hb d_MC_noteMark_0 rfl (lv_at hl 0 rfl) ?_
  refine xw_getI (C := "AdviceWeaver$Machine") (T := T_MC) hx hb hts hin_MC hown hK hP (by decide) kc_Mach (by decide) rfl 8 (by decide) (hts _ hw_343) (fun _ h9 => h9) rfl d_MC_noteMark_1 ?_
  refine lv_bipush (v := xw_i 100) hx hb d_MC_noteMark_4 (by decide) ?_
  refine xw_jnI (fun j => ∀ (sq : xw_S), j sq = some sZ → ∀ (H : Heap) (locs : List Loc) (ls : Array Slot), va_P D vwCl (xw_ws kdC 100 ad cs Z sq) H → va_S A s.heap H locs → lv_has ls 3 [(0, .ref (ad 17))] → W p l e (headSpec w_MC_noteMark ({ frames := 0, cells := 0, slots := 0, locals := 0 })).room s m [.ref (ad 17), .int (xw_i p1), .int (xw_i p2)].toArray below meth c H locs 0 0 (MQ below (va_Qv (fun u => u = sZ) (xw_H D vwCl A kdC 100 ad cs Z tt) A) [.ref (ad 17), .int (xw_i p1), .int (xw_i p2)].toArray s 0 0 A) (F0 m 24 ls [])) h ?_ ?_
  · intro s6 h H locs ls hP hS hl
    refine lv_aload_n hx hb d_MC_noteMark_24 rfl (lv_at hl 0 rfl) ?_
    refine lv_dup hx hb d_MC_noteMark_25 rfl ?_
    refine xw_getI (C := "AdviceWeaver$Machine") (T := T_MC) hx hb hts hin_MC hown hK hP (by decide) kc_Mach (by decide) rfl 8 (by decide) (hts _ hw_343) (fun _ h9 => h9) rfl d_MC_noteMark_26 ?_
    refine lv_iconst (v := xw_i 1) hx hb d_MC_noteMark_29 rfl ?_
    refine xw_iadd hx hb d_MC_noteMark_30 ?_
    refine xw_putI (C := "AdviceWeaver$Machine") (T := T_MC) hx hb hts hin_MC ty_MC ty_MC_ok nm_MC hown hK hP hD hS (by decide) kc_Mach (by decide) rfl 8 (by decide) (hts _ hw_343) (fun _ h9 => h9) rfl (by decide +kernel) rfl d_MC_noteMark_31 (fun s7 e8 H locs hP hS => ?_)
    replace h := xw_letI e8 h
    exact xw_vretE hx hb hr hlk hP hK hD hX hS h d_MC_noteMark_34
  · intro j24 hj24 h
    obtain ⟨hg1, h⟩ := xw_grdI h
    refine xw_icmp_ge (tgt := 24) hx hb hg1 (by decide) d_MC_noteMark_6 (by decide) (fun hc2 => ?_) (fun hc2 => ?_)
    · replace h := xw_ifT hc2 h
      exact hj24 s0 h _ _ _ hP hS (lv_sub hl [0] rfl)
    · replace h := xw_ifF hc2 h
      refine lv_aload_n hx hb d_MC_noteMark_9 rfl (lv_at hl 0 rfl) ?_
      refine xw_getR (C := "AdviceWeaver$Machine") (T := T_MC) hx hb hts hin_MC hown hK hP (by decide) kc_Mach (by decide) rfl 1 (by decide) (hts _ hw_344) (fun _ h9 => h9) rfl d_MC_noteMark_10 ?_
      refine lv_aload_n hx hb d_MC_noteMark_13 rfl (lv_at hl 0 rfl) ?_
      refine xw_getI (C := "AdviceWeaver$Machine") (T := T_MC) hx hb hts hin_MC hown hK hP (by decide) kc_Mach (by decide) rfl 8 (by decide) (hts _ hw_343) (fun _ h9 => h9) rfl d_MC_noteMark_14 ?_
      refine lv_bipush (v := xw_i 16) hx hb d_MC_noteMark_17 (by decide) ?_
      refine lv_iload_n hx hb d_MC_noteMark_19 rfl (lv_at hl 1 rfl) ?_
      refine xw_imul hx hb d_MC_noteMark_20 ?_
      refine lv_iload_n hx hb d_MC_noteMark_21 rfl (lv_at hl 2 rfl) ?_
      refine xw_iadd hx hb d_MC_noteMark_22 ?_
      obtain ⟨hg3, h⟩ := xw_grdI h
      refine xw_iast hx hb hK hP hD hS (by decide) kc_kept (by decide) hg3 d_MC_noteMark_23 (fun s4 e5 H locs hP hS => ?_)
      replace h := xw_letI e5 h
      exact hj24 s4 h _ _ _ hP hS (lv_sub hl [0] rfl)
def f_MC_noteProbe (fu : Nat) (s0 : xw_S) (p1 : Int) (p2 : Int) : Option xw_S :=
 xw_grd (xw_r p2) (xw_if (40 ≤ p2) (some s0)
 (xw_grd ((0 ≤ (p1 * 40) + p2 ∧ (p1 * 40) + p2 < ((160 : Nat) : Int))) (xw_let (xw_st s0 20 ((p1 * 40) + p2).toNat ((s0.1 20 ((p1 * 40) + p2).toNat) + 1)) (fun s4 => some s4))))
set_option maxRecDepth 100000 in
set_option maxHeartbeats 4000000 in
theorem c_MC_noteProbe (l : Launch) (D : va_G) (A : Nat → Prop) (ad : Nat → Nat) (cs : Nat → ClassId) (Z : va_W) (tt : Nat → Nat) (fu : Nat) (s0 sZ : xw_S) (p1 : Int) (p2 : Int) (h : f_MC_noteProbe fu s0 p1 p2 = some sZ) : Met l y_MC_noteProbe w_MC_noteProbe ({ frames := 0, cells := 0, slots := 0, locals := 0 }) (va_Pc [.ref (ad 17), .int (xw_i p1), .int (xw_i p2)] (xw_H D vwCl A kdC 100 ad cs Z tt s0)) (va_Qv (fun u => u = sZ) (xw_H D vwCl A kdC 100 ad cs Z tt) A) 0 0 A := by
  refine Met.ofW (cc := b_MC_noteProbe) (maxL := 3) (ret := none) (by decide) rfl ?_
  intro p e s m args below meth c s₁ B hml hv
  obtain ⟨rfl, hP, hK, hD, hX⟩ := hv
  have hx := B.exec
  have hb := B.bytes
  have hr := B.returns
  have hts0 := atoms_spec (ws := w_MC_noteProbe) B.pre
  have hts := fun w (hw : w ∈ wAll) => hts0 w (List.mem_cons_of_mem _ hw)
  have hown : s.vm.findClass "AdviceWeaver$Machine" = some m.cls := findClass_of_methodNamed B.named
  have hlk := B.notSynchronized
  clear hts0 B
  have hS : va_S A s.heap s.heap [] := va_S.rf
  have hl := lv_entry [.ref (ad 17), .int (xw_i p1), .int (xw_i p2)] (n := 3) (Nat.le_of_ble_eq_true rfl)
  rw [lg_entry_eq]
  generalize (lg_sl [.ref (ad 17), .int (xw_i p1), .int (xw_i p2)] ++ List.replicate (3 - (lg_sl [.ref (ad 17), .int (xw_i p1), .int (xw_i p2)]).length) Slot.unset).toArray = ls at hl ⊢
  have hl : lv_has ls 3 [(0, .ref (ad 17)), (1, .int (xw_i p1)), (2, .int (xw_i p2))] := hl
  unfold f_MC_noteProbe at h
  refine lv_iload_n hx hb d_MC_noteProbe_0 rfl (lv_at hl 2 rfl) ?_
  refine lv_bipush (v := xw_i 40) hx hb d_MC_noteProbe_1 (by decide) ?_
  obtain ⟨hg1, h⟩ := xw_grdI h
  refine xw_icmp_ge (tgt := 21) hx hb hg1 (by decide) d_MC_noteProbe_3 (by decide) (fun hc2 => ?_) (fun hc2 => ?_)
  · replace h := xw_ifT hc2 h
    exact xw_vretE hx hb hr hlk hP hK hD hX hS h d_MC_noteProbe_21
  · replace h := xw_ifF hc2 h
    refine lv_aload_n hx hb d_MC_noteProbe_6 rfl (lv_at hl 0 rfl) ?_
    refine xw_getR (C := "AdviceWeaver$Machine") (T := T_MC) hx hb hts hin_MC hown hK hP (by decide) kc_Mach (by decide) rfl 2 (by decide) (hts _ hw_345) (fun _ h9 => h9) rfl d_MC_noteProbe_7 ?_
    refine lv_iload_n hx hb d_MC_noteProbe_10 rfl (lv_at hl 1 rfl) ?_
    refine lv_bipush (v := xw_i 40) hx hb d_MC_noteProbe_11 (by decide) ?_
    refine xw_imul hx hb d_MC_noteProbe_13 ?_
    refine lv_iload_n hx hb d_MC_noteProbe_14 rfl (lv_at hl 2 rfl) ?_
    refine xw_iadd hx hb d_MC_noteProbe_15 ?_
    refine lv_dup2_11 hx hb d_MC_noteProbe_16 rfl rfl ?_
    obtain ⟨hg3, h⟩ := xw_grdI h
    refine xw_iald hx hb hK hP (by decide) kc_probes (by decide) hg3 d_MC_noteProbe_17 ?_
    refine lv_iconst (v := xw_i 1) hx hb d_MC_noteProbe_18 rfl ?_
    refine xw_iadd hx hb d_MC_noteProbe_19 ?_
    refine xw_iast hx hb hK hP hD hS (by decide) kc_probes (by decide) hg3 d_MC_noteProbe_20 (fun s4 e5 H locs hP hS => ?_)
    replace h := xw_letI e5 h
    exact xw_vretE hx hb hr hlk hP hK hD hX hS h d_MC_noteProbe_21
def f_MC_move (fu : Nat) (s0 : xw_S) (f1 : Nat) (b2 : Nat) (p3 : Int) : Option xw_S :=
 xw_bn2 (f_B_byteAt fu s0 b2 ((s0.1 (24 + 3 * f1) 4) + 1)) (fun s1 r3 => xw_grd (xw_r p3) (xw_if (p3 = 1) (xw_bn2 (f_OP_signedByte fu s1 r3) (fun s51 r53 => xw_bnd (f_FR_push fu s51 f1 r53) (fun s54 => some s54)))
 (xw_if (p3 = 2) (xw_bn2 (f_FR_getLocal fu s1 f1 r3) (fun s45 r47 => xw_bnd (f_FR_push fu s45 f1 r47) (fun s48 => some s48)))
 (xw_if (p3 = 3) (xw_bn2 (f_FR_pop fu s1 f1) (fun s39 r41 => xw_bnd (f_FR_setLocal fu s39 f1 r3 r41) (fun s42 => some s42)))
 (xw_if (p3 = 4) (some s1)
 (xw_if (p3 = 5) (some s1)
 (xw_if (p3 = 6) (some s1)
 (xw_if (p3 = 7) (some s1)
 (xw_if (p3 = 8) (xw_bnd (f_FR_doubleTop fu s1 f1) (fun s36 => some s36))
 (xw_if (p3 = 9) (xw_bn2 (f_FR_pop fu s1 f1) (fun s33 r35 => some s33))
 (xw_if (p3 = 10) (some s1)
 (xw_if (p3 = 11) (some s1)
 (xw_if (p3 = 12) (some s1)
 (xw_if (p3 = 13) (some s1)
 (xw_if (p3 = 14) (some s1)
 (xw_if (p3 = 15) (some s1)
 (xw_if (p3 = 16) (xw_bn2 (f_FR_getLocal fu s1 f1 r3) (fun s21 r23 => xw_bn2 (f_B_byteAt fu s21 b2 ((s21.1 (24 + 3 * f1) 4) + 2)) (fun s24 r26 => xw_bn2 (f_OP_signedByte fu s24 r26) (fun s27 r29 => xw_bnd (f_FR_setLocal fu s27 f1 r3 (xw_wr (r23 + r29))) (fun s30 => some s30)))))
 (some s1))))))))))))))))))
set_option maxRecDepth 100000 in
set_option maxHeartbeats 4000000 in
theorem c_MC_move (l : Launch) (D : va_G) (A : Nat → Prop) (ad : Nat → Nat) (cs : Nat → ClassId) (Z : va_W) (tt : Nat → Nat) (fu : Nat) (s0 sZ : xw_S) (f1 : Nat) (hb_f1 : f1 < 8) (b2 : Nat) (hb_b2 : b2 < 13) (p3 : Int) (h : f_MC_move fu s0 f1 b2 p3 = some sZ) : Met l y_MC_move w_MC_move ({ frames := 2, cells := 0, slots := 0, locals := 42 }) (va_Pc [.ref (ad 17), .ref (ad (24 + 3 * f1)), .ref (ad (48 + 4 * b2)), .int (xw_i p3)] (xw_H D vwCl A kdC 100 ad cs Z tt s0)) (va_Qv (fun u => u = sZ) (xw_H D vwCl A kdC 100 ad cs Z tt) A) 0 0 A := by
  refine Met.ofW (cc := b_MC_move) (maxL := 5) (ret := none) (by decide) rfl ?_
  intro p e s m args below meth c s₁ B hml hv
  obtain ⟨rfl, hP, hK, hD, hX⟩ := hv
  have hx := B.exec
  have hb := B.bytes
  have hr := B.returns
  have hts0 := atoms_spec (ws := w_MC_move) B.pre
  have hts := fun w (hw : w ∈ wAll) => hts0 w (List.mem_cons_of_mem _ hw)
  have hown : s.vm.findClass "AdviceWeaver$Machine" = some m.cls := findClass_of_methodNamed B.named
  have hlk := B.notSynchronized
  clear hts0 B
  have hS : va_S A s.heap s.heap [] := va_S.rf
  have hl := lv_entry [.ref (ad 17), .ref (ad (24 + 3 * f1)), .ref (ad (48 + 4 * b2)), .int (xw_i p3)] (n := 5) (Nat.le_of_ble_eq_true rfl)
  rw [lg_entry_eq]
  generalize (lg_sl [.ref (ad 17), .ref (ad (24 + 3 * f1)), .ref (ad (48 + 4 * b2)), .int (xw_i p3)] ++ List.replicate (5 - (lg_sl [.ref (ad 17), .ref (ad (24 + 3 * f1)), .ref (ad (48 + 4 * b2)), .int (xw_i p3)]).length) Slot.unset).toArray = ls at hl ⊢
  have hl : lv_has ls 5 [(0, .ref (ad 17)), (1, .ref (ad (24 + 3 * f1))), (2, .ref (ad (48 + 4 * b2))), (3, .int (xw_i p3))] := hl
  unfold f_MC_move at h
  refine lv_aload_n hx hb d_MC_move_0 rfl (lv_at hl 2 rfl) ?_
  refine lv_aload_n hx hb d_MC_move_1 rfl (lv_at hl 1 rfl) ?_
  refine xw_getI (C := "AdviceWeaver$Frame") (T := T_FR) hx hb hts hin_FR hown hK hP (by omega) (kc_Frame f1 (by omega)) (by decide) rfl 4 (by decide) (hts _ hw_326) (fun _ h9 => h9) rfl d_MC_move_2 ?_
  refine lv_iconst (v := xw_i 1) hx hb d_MC_move_5 rfl ?_
  refine xw_iadd hx hb d_MC_move_6 ?_
  obtain ⟨s1, r3, hc2, h⟩ := xw_bn2I h
  refine xw_callVi (C := "AdviceWeaver$Body") (T := T_B) ⟨hx, hb, hml, hown, hts⟩ (c_B_byteAt l D A ad cs Z tt fu s0 s1 b2 (by omega) ((s0.1 (24 + 3 * f1) 4) + 1) r3 hc2) (cwV 1 hts (gd_V hw_347 hw_57 hw_58 hw_25 hw_59) rfl rfl rfl (by decide +kernel) ⟨Nat.le_of_ble_eq_true rfl, Nat.le_of_ble_eq_true rfl⟩) hP hK hD hX hS (by omega) (kc_Body b2 (by omega)) (by decide) rfl rfl hl.1 rfl (Nat.le_of_ble_eq_true rfl) d_MC_move_7 (fun H locs hP hS => ?_)
  refine lv_istore hx hb d_MC_move_10 hl (by decide) rfl (fun ls hl => ?_)
  refine lv_iload_n hx hb d_MC_move_12 rfl (lv_at hl 4 rfl) ?_
  obtain ⟨hg4, h⟩ := xw_grdI h
  by_cases hc5 : p3 = 1
  · replace h := xw_ifT hc5 h
    refine lv_tableIn (off := 79) (tgt := 92) hx hb d_MC_move_13 (by rw [hc5]; decide) (by rw [hc5]; decide) (by rw [hc5]; decide) (by decide) ?_
    refine lv_aload_n hx hb d_MC_move_92 rfl (lv_at hl 2 rfl) ?_
    refine lv_iload hx hb d_MC_move_93 (lv_at hl 0 rfl) ?_
    obtain ⟨s51, r53, hc52, h⟩ := xw_bn2I h
    refine xw_callSi ⟨hx, hb, hml, hown, hts⟩ (c_OP_signedByte l D A ad cs Z tt fu s1 s51 r3 r53 hc52) (va_cwS 1 hts (gd_S hw_352 hw_61 hw_48 hw_62) rfl rfl rfl (by decide +kernel) ⟨Nat.le_of_ble_eq_true rfl, Nat.le_of_ble_eq_true rfl⟩) hP hK hD hX hS rfl hl.1 rfl (Nat.le_of_ble_eq_true rfl) d_MC_move_95 (fun H locs hP hS => ?_)
    obtain ⟨s54, hc55, h⟩ := xw_bndI h
    refine xw_callVv (C := "AdviceWeaver$Frame") (T := T_FR) ⟨hx, hb, hml, hown, hts⟩ (c_FR_push l D A ad cs Z tt fu s51 s54 f1 (by omega) r53 hc55) (cwV 1 hts (gd_V hw_322 hw_323 hw_324 hw_310 hw_325) rfl rfl rfl (by decide +kernel) ⟨Nat.le_of_ble_eq_true rfl, Nat.le_of_ble_eq_true rfl⟩) hP hK hD hX hS (by omega) (kc_Frame f1 (by omega)) (by decide) rfl rfl hl.1 rfl (Nat.le_of_ble_eq_true rfl) d_MC_move_98 (fun H locs hP hS => ?_)
    refine lv_goto (tgt := 174) hx hb d_MC_move_101 (by decide) ?_
    exact xw_vretE hx hb hr hlk hP hK hD hX hS h d_MC_move_174
  · replace h := xw_ifF hc5 h
    by_cases hc6 : p3 = 2
    · replace h := xw_ifT hc6 h
      refine lv_tableIn (off := 91) (tgt := 104) hx hb d_MC_move_13 (by rw [hc6]; decide) (by rw [hc6]; decide) (by rw [hc6]; decide) (by decide) ?_
      refine lv_aload_n hx hb d_MC_move_104 rfl (lv_at hl 2 rfl) ?_
      refine lv_aload_n hx hb d_MC_move_105 rfl (lv_at hl 2 rfl) ?_
      refine lv_iload hx hb d_MC_move_106 (lv_at hl 0 rfl) ?_
      obtain ⟨s45, r47, hc46, h⟩ := xw_bn2I h
      refine xw_callVi (C := "AdviceWeaver$Frame") (T := T_FR) ⟨hx, hb, hml, hown, hts⟩ (c_FR_getLocal l D A ad cs Z tt fu s1 s45 f1 (by omega) r3 r47 hc46) (cwV 1 hts (gd_V hw_348 hw_349 hw_350 hw_310 hw_351) rfl rfl rfl (by decide +kernel) ⟨Nat.le_of_ble_eq_true rfl, Nat.le_of_ble_eq_true rfl⟩) hP hK hD hX hS (by omega) (kc_Frame f1 (by omega)) (by decide) rfl rfl hl.1 rfl (Nat.le_of_ble_eq_true rfl) d_MC_move_108 (fun H locs hP hS => ?_)
      obtain ⟨s48, hc49, h⟩ := xw_bndI h
      refine xw_callVv (C := "AdviceWeaver$Frame") (T := T_FR) ⟨hx, hb, hml, hown, hts⟩ (c_FR_push l D A ad cs Z tt fu s45 s48 f1 (by omega) r47 hc49) (cwV 1 hts (gd_V hw_322 hw_323 hw_324 hw_310 hw_325) rfl rfl rfl (by decide +kernel) ⟨Nat.le_of_ble_eq_true rfl, Nat.le_of_ble_eq_true rfl⟩) hP hK hD hX hS (by omega) (kc_Frame f1 (by omega)) (by decide) rfl rfl hl.1 rfl (Nat.le_of_ble_eq_true rfl) d_MC_move_111 (fun H locs hP hS => ?_)
      refine lv_goto (tgt := 174) hx hb d_MC_move_114 (by decide) ?_
      exact xw_vretE hx hb hr hlk hP hK hD hX hS h d_MC_move_174
    · replace h := xw_ifF hc6 h
      by_cases hc7 : p3 = 3
      · replace h := xw_ifT hc7 h
        refine lv_tableIn (off := 104) (tgt := 117) hx hb d_MC_move_13 (by rw [hc7]; decide) (by rw [hc7]; decide) (by rw [hc7]; decide) (by decide) ?_
        refine lv_aload_n hx hb d_MC_move_117 rfl (lv_at hl 2 rfl) ?_
        refine lv_iload hx hb d_MC_move_118 (lv_at hl 0 rfl) ?_
        refine lv_aload_n hx hb d_MC_move_120 rfl (lv_at hl 2 rfl) ?_
        obtain ⟨s39, r41, hc40, h⟩ := xw_bn2I h
        refine xw_callVi (C := "AdviceWeaver$Frame") (T := T_FR) ⟨hx, hb, hml, hown, hts⟩ (c_FR_pop l D A ad cs Z tt fu s1 s39 f1 (by omega) r41 hc40) (cwV 0 hts (gd_V hw_307 hw_308 hw_309 hw_310 hw_311) rfl rfl rfl (by decide +kernel) ⟨Nat.le_of_ble_eq_true rfl, Nat.le_of_ble_eq_true rfl⟩) hP hK hD hX hS (by omega) (kc_Frame f1 (by omega)) (by decide) rfl rfl hl.1 rfl (Nat.le_of_ble_eq_true rfl) d_MC_move_121 (fun H locs hP hS => ?_)
        obtain ⟨s42, hc43, h⟩ := xw_bndI h
        refine xw_callVv (C := "AdviceWeaver$Frame") (T := T_FR) ⟨hx, hb, hml, hown, hts⟩ (c_FR_setLocal l D A ad cs Z tt fu s39 s42 f1 (by omega) r3 r41 hc43) (cwV 2 hts (gd_V hw_353 hw_354 hw_355 hw_310 hw_356) rfl rfl rfl (by decide +kernel) ⟨Nat.le_of_ble_eq_true rfl, Nat.le_of_ble_eq_true rfl⟩) hP hK hD hX hS (by omega) (kc_Frame f1 (by omega)) (by decide) rfl rfl hl.1 rfl (Nat.le_of_ble_eq_true rfl) d_MC_move_124 (fun H locs hP hS => ?_)
        refine lv_goto (tgt := 174) hx hb d_MC_move_127 (by decide) ?_
        exact xw_vretE hx hb hr hlk hP hK hD hX hS h d_MC_move_174
      · replace h := xw_ifF hc7 h
        by_cases hc8 : p3 = 4
        · replace h := xw_ifT hc8 h
          refine lv_tableIn (off := 161) (tgt := 174) hx hb d_MC_move_13 (by rw [hc8]; decide) (by rw [hc8]; decide) (by rw [hc8]; decide) (by decide) ?_
          exact xw_vretE hx hb hr hlk hP hK hD hX hS h d_MC_move_174
        · replace h := xw_ifF hc8 h
          by_cases hc9 : p3 = 5
          · replace h := xw_ifT hc9 h
            refine lv_tableIn (off := 161) (tgt := 174) hx hb d_MC_move_13 (by rw [hc9]; decide) (by rw [hc9]; decide) (by rw [hc9]; decide) (by decide) ?_
            exact xw_vretE hx hb hr hlk hP hK hD hX hS h d_MC_move_174
          · replace h := xw_ifF hc9 h
            by_cases hc10 : p3 = 6
            · replace h := xw_ifT hc10 h
              refine lv_tableIn (off := 161) (tgt := 174) hx hb d_MC_move_13 (by rw [hc10]; decide) (by rw [hc10]; decide) (by rw [hc10]; decide) (by decide) ?_
              exact xw_vretE hx hb hr hlk hP hK hD hX hS h d_MC_move_174
            · replace h := xw_ifF hc10 h
              by_cases hc11 : p3 = 7
              · replace h := xw_ifT hc11 h
                refine lv_tableIn (off := 161) (tgt := 174) hx hb d_MC_move_13 (by rw [hc11]; decide) (by rw [hc11]; decide) (by rw [hc11]; decide) (by decide) ?_
                exact xw_vretE hx hb hr hlk hP hK hD hX hS h d_MC_move_174
              · replace h := xw_ifF hc11 h
                by_cases hc12 : p3 = 8
                · replace h := xw_ifT hc12 h
                  refine lv_tableIn (off := 146) (tgt := 159) hx hb d_MC_move_13 (by rw [hc12]; decide) (by rw [hc12]; decide) (by rw [hc12]; decide) (by decide) ?_
                  refine lv_aload_n hx hb d_MC_move_159 rfl (lv_at hl 2 rfl) ?_
                  obtain ⟨s36, hc37, h⟩ := xw_bndI h
                  refine xw_callVv (C := "AdviceWeaver$Frame") (T := T_FR) ⟨hx, hb, hml, hown, hts⟩ (c_FR_doubleTop l D A ad cs Z tt fu s1 s36 f1 (by omega) hc37) (cwV 0 hts (gd_V hw_357 hw_358 hw_359 hw_310 hw_360) rfl rfl rfl (by decide +kernel) ⟨Nat.le_of_ble_eq_true rfl, Nat.le_of_ble_eq_true rfl⟩) hP hK hD hX hS (by omega) (kc_Frame f1 (by omega)) (by decide) rfl rfl hl.1 rfl (Nat.le_of_ble_eq_true rfl) d_MC_move_160 (fun H locs hP hS => ?_)
                  refine lv_goto (tgt := 174) hx hb d_MC_move_163 (by decide) ?_
                  exact xw_vretE hx hb hr hlk hP hK hD hX hS h d_MC_move_174
                · replace h := xw_ifF hc12 h
                  by_cases hc13 : p3 = 9
                  · replace h := xw_ifT hc13 h
                    refine lv_tableIn (off := 153) (tgt := 166) hx hb d_MC_move_13 (by rw [hc13]; decide) (by rw [hc13]; decide) (by rw [hc13]; decide) (by decide) ?_
                    refine lv_aload_n hx hb d_MC_move_166 rfl (lv_at hl 2 rfl) ?_
                    obtain ⟨s33, r35, hc34, h⟩ := xw_bn2I h
                    refine xw_callVi (C := "AdviceWeaver$Frame") (T := T_FR) ⟨hx, hb, hml, hown, hts⟩ (c_FR_pop l D A ad cs Z tt fu s1 s33 f1 (by omega) r35 hc34) (cwV 0 hts (gd_V hw_307 hw_308 hw_309 hw_310 hw_311) rfl rfl rfl (by decide +kernel) ⟨Nat.le_of_ble_eq_true rfl, Nat.le_of_ble_eq_true rfl⟩) hP hK hD hX hS (by omega) (kc_Frame f1 (by omega)) (by decide) rfl rfl hl.1 rfl (Nat.le_of_ble_eq_true rfl) d_MC_move_167 (fun H locs hP hS => ?_)
                    refine lv_pop hx hb d_MC_move_170 rfl ?_
                    refine lv_goto (tgt := 174) hx hb d_MC_move_171 (by decide) ?_
                    exact xw_vretE hx hb hr hlk hP hK hD hX hS h d_MC_move_174
                  · replace h := xw_ifF hc13 h
                    by_cases hc14 : p3 = 10
                    · replace h := xw_ifT hc14 h
                      refine lv_tableIn (off := 161) (tgt := 174) hx hb d_MC_move_13 (by rw [hc14]; decide) (by rw [hc14]; decide) (by rw [hc14]; decide) (by decide) ?_
                      exact xw_vretE hx hb hr hlk hP hK hD hX hS h d_MC_move_174
                    · replace h := xw_ifF hc14 h
                      by_cases hc15 : p3 = 11
                      · replace h := xw_ifT hc15 h
                        refine lv_tableIn (off := 161) (tgt := 174) hx hb d_MC_move_13 (by rw [hc15]; decide) (by rw [hc15]; decide) (by rw [hc15]; decide) (by decide) ?_
                        exact xw_vretE hx hb hr hlk hP hK hD hX hS h d_MC_move_174
                      · replace h := xw_ifF hc15 h
                        by_cases hc16 : p3 = 12
                        · replace h := xw_ifT hc16 h
                          refine lv_tableIn (off := 161) (tgt := 174) hx hb d_MC_move_13 (by rw [hc16]; decide) (by rw [hc16]; decide) (by rw [hc16]; decide) (by decide) ?_
                          exact xw_vretE hx hb hr hlk hP hK hD hX hS h d_MC_move_174
                        · replace h := xw_ifF hc16 h
                          by_cases hc17 : p3 = 13
                          · replace h := xw_ifT hc17 h
                            refine lv_tableIn (off := 161) (tgt := 174) hx hb d_MC_move_13 (by rw [hc17]; decide) (by rw [hc17]; decide) (by rw [hc17]; decide) (by decide) ?_
                            exact xw_vretE hx hb hr hlk hP hK hD hX hS h d_MC_move_174
                          · replace h := xw_ifF hc17 h
                            by_cases hc18 : p3 = 14
                            · replace h := xw_ifT hc18 h
                              refine lv_tableIn (off := 161) (tgt := 174) hx hb d_MC_move_13 (by rw [hc18]; decide) (by rw [hc18]; decide) (by rw [hc18]; decide) (by decide) ?_
                              exact xw_vretE hx hb hr hlk hP hK hD hX hS h d_MC_move_174
                            · replace h := xw_ifF hc18 h
                              by_cases hc19 : p3 = 15
                              · replace h := xw_ifT hc19 h
                                refine lv_tableIn (off := 161) (tgt := 174) hx hb d_MC_move_13 (by rw [hc19]; decide) (by rw [hc19]; decide) (by rw [hc19]; decide) (by decide) ?_
                                exact xw_vretE hx hb hr hlk hP hK hD hX hS h d_MC_move_174
                              · replace h := xw_ifF hc19 h
                                by_cases hc20 : p3 = 16
                                · replace h := xw_ifT hc20 h
                                  refine lv_tableIn (off := 117) (tgt := 130) hx hb d_MC_move_13 (by rw [hc20]; decide) (by rw [hc20]; decide) (by rw [hc20]; decide) (by decide) ?_
                                  refine lv_aload_n hx hb d_MC_move_130 rfl (lv_at hl 2 rfl) ?_
                                  refine lv_iload hx hb d_MC_move_131 (lv_at hl 0 rfl) ?_
                                  refine lv_aload_n hx hb d_MC_move_133 rfl (lv_at hl 2 rfl) ?_
                                  refine lv_iload hx hb d_MC_move_134 (lv_at hl 0 rfl) ?_
                                  obtain ⟨s21, r23, hc22, h⟩ := xw_bn2I h
                                  refine xw_callVi (C := "AdviceWeaver$Frame") (T := T_FR) ⟨hx, hb, hml, hown, hts⟩ (c_FR_getLocal l D A ad cs Z tt fu s1 s21 f1 (by omega) r3 r23 hc22) (cwV 1 hts (gd_V hw_348 hw_349 hw_350 hw_310 hw_351) rfl rfl rfl (by decide +kernel) ⟨Nat.le_of_ble_eq_true rfl, Nat.le_of_ble_eq_true rfl⟩) hP hK hD hX hS (by omega) (kc_Frame f1 (by omega)) (by decide) rfl rfl hl.1 rfl (Nat.le_of_ble_eq_true rfl) d_MC_move_136 (fun H locs hP hS => ?_)
                                  refine lv_aload_n hx hb d_MC_move_139 rfl (lv_at hl 3 rfl) ?_
                                  refine lv_aload_n hx hb d_MC_move_140 rfl (lv_at hl 2 rfl) ?_
                                  refine xw_getI (C := "AdviceWeaver$Frame") (T := T_FR) hx hb hts hin_FR hown hK hP (by omega) (kc_Frame f1 (by omega)) (by decide) rfl 4 (by decide) (hts _ hw_326) (fun _ h9 => h9) rfl d_MC_move_141 ?_
                                  refine lv_iconst (v := xw_i 2) hx hb d_MC_move_144 rfl ?_
                                  refine xw_iadd hx hb d_MC_move_145 ?_
                                  obtain ⟨s24, r26, hc25, h⟩ := xw_bn2I h
                                  refine xw_callVi (C := "AdviceWeaver$Body") (T := T_B) ⟨hx, hb, hml, hown, hts⟩ (c_B_byteAt l D A ad cs Z tt fu s21 s24 b2 (by omega) ((s21.1 (24 + 3 * f1) 4) + 2) r26 hc25) (cwV 1 hts (gd_V hw_347 hw_57 hw_58 hw_25 hw_59) rfl rfl rfl (by decide +kernel) ⟨Nat.le_of_ble_eq_true rfl, Nat.le_of_ble_eq_true rfl⟩) hP hK hD hX hS (by omega) (kc_Body b2 (by omega)) (by decide) rfl rfl hl.1 rfl (Nat.le_of_ble_eq_true rfl) d_MC_move_146 (fun H locs hP hS => ?_)
                                  obtain ⟨s27, r29, hc28, h⟩ := xw_bn2I h
                                  refine xw_callSi ⟨hx, hb, hml, hown, hts⟩ (c_OP_signedByte l D A ad cs Z tt fu s24 s27 r26 r29 hc28) (va_cwS 1 hts (gd_S hw_352 hw_61 hw_48 hw_62) rfl rfl rfl (by decide +kernel) ⟨Nat.le_of_ble_eq_true rfl, Nat.le_of_ble_eq_true rfl⟩) hP hK hD hX hS rfl hl.1 rfl (Nat.le_of_ble_eq_true rfl) d_MC_move_149 (fun H locs hP hS => ?_)
                                  refine xw_iadd hx hb d_MC_move_152 ?_
                                  refine xw_wrap ?_
                                  obtain ⟨s30, hc31, h⟩ := xw_bndI h
                                  refine xw_callVv (C := "AdviceWeaver$Frame") (T := T_FR) ⟨hx, hb, hml, hown, hts⟩ (c_FR_setLocal l D A ad cs Z tt fu s27 s30 f1 (by omega) r3 (xw_wr (r23 + r29)) hc31) (cwV 2 hts (gd_V hw_353 hw_354 hw_355 hw_310 hw_356) rfl rfl rfl (by decide +kernel) ⟨Nat.le_of_ble_eq_true rfl, Nat.le_of_ble_eq_true rfl⟩) hP hK hD hX hS (by omega) (kc_Frame f1 (by omega)) (by decide) rfl rfl hl.1 rfl (Nat.le_of_ble_eq_true rfl) d_MC_move_153 (fun H locs hP hS => ?_)
                                  refine lv_goto (tgt := 174) hx hb d_MC_move_156 (by decide) ?_
                                  exact xw_vretE hx hb hr hlk hP hK hD hX hS h d_MC_move_174
                                · replace h := xw_ifF hc20 h
                                  refine lv_tableOut (tgt := 174) hx hb d_MC_move_13 (by rw [xw_toInt hg4]; omega) (by decide) ?_
                                  exact xw_vretE hx hb hr hlk hP hK hD hX hS h d_MC_move_174
def f_MC_wayOn (fu : Nat) (s0 : xw_S) (f1 : Nat) (b2 : Nat) (p3 : Int) : Option (xw_S × Int) :=
 xw_jn (fun (s129 : xw_S) (i4_230 : Int) => xw_grd (xw_r i4_230) (xw_if (i4_230 = 0) (xw_bn2 (f_OP_size fu s129 p3) (fun s132 r134 => some (s132, r134)))
 (xw_bn2 (f_B_wayAt fu s129 b2 (s129.1 (24 + 3 * f1) 4)) (fun s135 r137 => some (s135, r137)))))
 (fun (j230 : xw_S → Int → Option (xw_S × Int)) => xw_grd (xw_r p3) (xw_if (p3 = 4) (xw_bnd (f_MC_calculate fu s0 f1 p3) (fun s126 => j230 s126 0))
 (xw_if (p3 = 5) (xw_bnd (f_MC_calculate fu s0 f1 p3) (fun s123 => j230 s123 0))
 (xw_if (p3 = 6) (xw_bnd (f_MC_calculate fu s0 f1 p3) (fun s120 => j230 s120 0))
 (xw_if (p3 = 7) (xw_bnd (f_MC_move fu s0 f1 b2 p3) (fun s117 => j230 s117 0))
 (xw_if (p3 = 8) (xw_bnd (f_MC_move fu s0 f1 b2 p3) (fun s114 => j230 s114 0))
 (xw_if (p3 = 9) (xw_bnd (f_MC_move fu s0 f1 b2 p3) (fun s111 => j230 s111 0))
 (xw_if (p3 = 10) (j230 s0 1)
 (xw_if (p3 = 11) (xw_bn2 (f_FR_pop fu s0 f1) (fun s105 r107 => xw_jn (fun (s110 : xw_S) (t0_150 : Int) => j230 s110 t0_150)
 (fun (j150 : xw_S → Int → Option (xw_S × Int)) => xw_grd (xw_r r107) (xw_if (r107 = 0) (j150 s105 1)
 (j150 s105 0)))))
 (xw_if (p3 = 12) (xw_bn2 (f_FR_pop fu s0 f1) (fun s99 r101 => xw_jn (fun (s104 : xw_S) (t0_167 : Int) => j230 s104 t0_167)
 (fun (j167 : xw_S → Int → Option (xw_S × Int)) => xw_grd (xw_r r101) (xw_if (0 ≤ r101) (j167 s99 0)
 (j167 s99 1)))))
 (xw_if (p3 = 13) (xw_bnd (f_MC_move fu s0 f1 b2 p3) (fun s96 => j230 s96 0))
 (xw_if (p3 = 14) (xw_bnd (f_MC_move fu s0 f1 b2 p3) (fun s93 => j230 s93 0))
 (xw_if (p3 = 15) (xw_bnd (f_MC_move fu s0 f1 b2 p3) (fun s90 => j230 s90 0))
 (xw_if (p3 = 16) (xw_bnd (f_MC_move fu s0 f1 b2 p3) (fun s87 => j230 s87 0))
 (xw_if (p3 = 17) (xw_bnd (f_MC_move fu s0 f1 b2 p3) (fun s84 => j230 s84 0))
 (xw_if (p3 = 18) (xw_bnd (f_MC_move fu s0 f1 b2 p3) (fun s81 => j230 s81 0))
 (xw_if (p3 = 19) (xw_bnd (f_MC_move fu s0 f1 b2 p3) (fun s78 => j230 s78 0))
 (xw_if (p3 = 20) (j230 s0 1)
 (xw_if (p3 = 21) (xw_bn2 (f_FR_pop fu s0 f1) (fun s72 r74 => xw_jn (fun (s77 : xw_S) (t0_150 : Int) => j230 s77 t0_150)
 (fun (j150 : xw_S → Int → Option (xw_S × Int)) => xw_grd (xw_r r74) (xw_if (r74 = 0) (j150 s72 1)
 (j150 s72 0)))))
 (xw_if (p3 = 22) (xw_bn2 (f_FR_pop fu s0 f1) (fun s66 r68 => xw_jn (fun (s71 : xw_S) (t0_167 : Int) => j230 s71 t0_167)
 (fun (j167 : xw_S → Int → Option (xw_S × Int)) => xw_grd (xw_r r68) (xw_if (0 ≤ r68) (j167 s66 0)
 (j167 s66 1)))))
 (xw_if (p3 = 23) (xw_bnd (f_MC_move fu s0 f1 b2 p3) (fun s63 => j230 s63 0))
 (xw_if (p3 = 24) (xw_bnd (f_MC_move fu s0 f1 b2 p3) (fun s60 => j230 s60 0))
 (xw_if (p3 = 25) (xw_bnd (f_MC_move fu s0 f1 b2 p3) (fun s57 => j230 s57 0))
 (xw_if (p3 = 26) (xw_bnd (f_MC_move fu s0 f1 b2 p3) (fun s54 => j230 s54 0))
 (xw_if (p3 = 27) (xw_bnd (f_MC_move fu s0 f1 b2 p3) (fun s51 => j230 s51 0))
 (xw_if (p3 = 28) (xw_bnd (f_MC_move fu s0 f1 b2 p3) (fun s48 => j230 s48 0))
 (xw_if (p3 = 29) (xw_bnd (f_MC_move fu s0 f1 b2 p3) (fun s45 => j230 s45 0))
 (xw_if (p3 = 30) (xw_bn2 (f_B_byteAt fu s0 b2 ((s0.1 (24 + 3 * f1) 4) + 1)) (fun s39 r41 => xw_bnd (f_MC_noteMark fu s39 (s0.1 (24 + 3 * f1) 3) r41) (fun s42 => j230 s42 0)))
 (xw_if (p3 = 31) (xw_bn2 (f_B_byteAt fu s0 b2 ((s0.1 (24 + 3 * f1) 4) + 1)) (fun s33 r35 => xw_bnd (f_MC_noteProbe fu s33 (s0.1 (24 + 3 * f1) 3) r35) (fun s36 => j230 s36 0)))
 (xw_bnd (f_MC_move fu s0 f1 b2 p3) (fun s30 => j230 s30 0)))))))))))))))))))))))))))))))
set_option maxRecDepth 100000 in
set_option maxHeartbeats 4000000 in
theorem c_MC_wayOn (l : Launch) (D : va_G) (A : Nat → Prop) (ad : Nat → Nat) (cs : Nat → ClassId) (Z : va_W) (tt : Nat → Nat) (fu : Nat) (s0 sZ : xw_S) (f1 : Nat) (hb_f1 : f1 < 8) (b2 : Nat) (hb_b2 : b2 < 13) (p3 : Int) (r0 : Int) (h : f_MC_wayOn fu s0 f1 b2 p3 = some (sZ, r0)) : Met l y_MC_wayOn w_MC_wayOn ({ frames := 3, cells := 0, slots := 0, locals := 66 }) (va_Pc [.ref (ad 17), .ref (ad (24 + 3 * f1)), .ref (ad (48 + 4 * b2)), .int (xw_i p3)] (xw_H D vwCl A kdC 100 ad cs Z tt s0)) (va_Qi (fun r u => r = xw_i r0 ∧ u = sZ) (xw_H D vwCl A kdC 100 ad cs Z tt) A) 0 0 A := by
  refine Met.ofW (cc := b_MC_wayOn) (maxL := 5) (ret := (some .int)) (by decide) rfl ?_
  intro p e s m args below meth c s₁ B hml hv
  obtain ⟨rfl, hP, hK, hD, hX⟩ := hv
  have hx := B.exec
  have hb := B.bytes
  have hr := B.returns
  have hts0 := atoms_spec (ws := w_MC_wayOn) B.pre
  have hts := fun w (hw : w ∈ wAll) => hts0 w (List.mem_cons_of_mem _ hw)
  have hown : s.vm.findClass "AdviceWeaver$Machine" = some m.cls := findClass_of_methodNamed B.named
  have hlk := B.notSynchronized
  clear hts0 B
  have hS : va_S A s.heap s.heap [] := va_S.rf
  have hl := lv_entry [.ref (ad 17), .ref (ad (24 + 3 * f1)), .ref (ad (48 + 4 * b2)), .int (xw_i p3)] (n := 5) (Nat.le_of_ble_eq_true rfl)
  rw [lg_entry_eq]
  generalize (lg_sl [.ref (ad 17), .ref (ad (24 + 3 * f1)), .ref (ad (48 + 4 * b2)), .int (xw_i p3)] ++ List.replicate (5 - (lg_sl [.ref (ad 17), .ref (ad (24 + 3 * f1)), .ref (ad (48 + 4 * b2)), .int (xw_i p3)]).length) Slot.unset).toArray = ls at hl ⊢
  have hl : lv_has ls 5 [(0, .ref (ad 17)), (1, .ref (ad (24 + 3 * f1))), (2, .ref (ad (48 + 4 * b2))), (3, .int (xw_i p3))] := hl
  unfold f_MC_wayOn at h
  refine lv_iconst (v := xw_i 0) hx hb d_MC_wayOn_0 rfl ?_
  refine lv_istore hx hb d_MC_wayOn_1 hl (by decide) rfl (fun ls hl => ?_)
  refine lv_iload_n hx hb d_MC_wayOn_3 rfl (lv_at hl 4 rfl) ?_
  refine xw_jnI (fun j => ∀ (sq : xw_S) (i4_230 : Int), j sq i4_230 = some (sZ, r0) → ∀ (H : Heap) (locs : List Loc) (ls : Array Slot), va_P D vwCl (xw_ws kdC 100 ad cs Z sq) H → va_S A s.heap H locs → lv_has ls 5 [(1, .ref (ad (24 + 3 * f1))), (2, .ref (ad (48 + 4 * b2))), (3, .int (xw_i p3)), (4, .int (xw_i i4_230))] → W p l e (headSpec w_MC_wayOn ({ frames := 3, cells := 0, slots := 0, locals := 66 })).room s m [.ref (ad 17), .ref (ad (24 + 3 * f1)), .ref (ad (48 + 4 * b2)), .int (xw_i p3)].toArray below meth c H locs 0 0 (MQ below (va_Qi (fun r u => r = xw_i r0 ∧ u = sZ) (xw_H D vwCl A kdC 100 ad cs Z tt) A) [.ref (ad 17), .ref (ad (24 + 3 * f1)), .ref (ad (48 + 4 * b2)), .int (xw_i p3)].toArray s 0 0 A) (F0 m 230 ls [])) h ?_ ?_
  · intro s129 i4_230 h H locs ls hP hS hl
    refine lv_iload hx hb d_MC_wayOn_230 (lv_at hl 3 rfl) ?_
    obtain ⟨hg130, h⟩ := xw_grdI h
    refine xw_if_eq (tgt := 246) hx hb hg130 d_MC_wayOn_232 (by decide) (fun hc131 => ?_) (fun hc131 => ?_)
    · replace h := xw_ifT hc131 h
      refine lv_iload_n hx hb d_MC_wayOn_246 rfl (lv_at hl 2 rfl) ?_
      obtain ⟨s132, r134, hc133, h⟩ := xw_bn2I h
      refine xw_callSi ⟨hx, hb, hml, hown, hts⟩ (c_OP_size l D A ad cs Z tt fu s129 s132 p3 r134 hc133) (va_cwS 1 hts (gd_S hw_327 hw_47 hw_48 hw_49) rfl rfl rfl (by decide +kernel) ⟨Nat.le_of_ble_eq_true rfl, Nat.le_of_ble_eq_true rfl⟩) hP hK hD hX hS rfl hl.1 rfl (Nat.le_of_ble_eq_true rfl) d_MC_wayOn_247 (fun H locs hP hS => ?_)
      exact xw_iretE hx hb hr hlk hP hK hD hX hS h d_MC_wayOn_250
    · replace h := xw_ifF hc131 h
      refine lv_aload_n hx hb d_MC_wayOn_235 rfl (lv_at hl 1 rfl) ?_
      refine lv_aload_n hx hb d_MC_wayOn_236 rfl (lv_at hl 0 rfl) ?_
      refine xw_getI (C := "AdviceWeaver$Frame") (T := T_FR) hx hb hts hin_FR hown hK hP (by omega) (kc_Frame f1 (by omega)) (by decide) rfl 4 (by decide) (hts _ hw_326) (fun _ h9 => h9) rfl d_MC_wayOn_237 ?_
      obtain ⟨s135, r137, hc136, h⟩ := xw_bn2I h
      refine xw_callVi (C := "AdviceWeaver$Body") (T := T_B) ⟨hx, hb, hml, hown, hts⟩ (c_B_wayAt l D A ad cs Z tt fu s129 s135 b2 (by omega) (s129.1 (24 + 3 * f1) 4) r137 hc136) (cwV 1 hts (gd_V hw_377 hw_72 hw_73 hw_25 hw_74) rfl rfl rfl (by decide +kernel) ⟨Nat.le_of_ble_eq_true rfl, Nat.le_of_ble_eq_true rfl⟩) hP hK hD hX hS (by omega) (kc_Body b2 (by omega)) (by decide) rfl rfl hl.1 rfl (Nat.le_of_ble_eq_true rfl) d_MC_wayOn_240 (fun H locs hP hS => ?_)
      refine lv_goto (tgt := 250) hx hb d_MC_wayOn_243 (by decide) ?_
      exact xw_iretE hx hb hr hlk hP hK hD hX hS h d_MC_wayOn_250
  · intro j230 hj230 h
    obtain ⟨hg1, h⟩ := xw_grdI h
    by_cases hc2 : p3 = 4
    · replace h := xw_ifT hc2 h
      refine lv_tableIn (off := 168) (tgt := 172) hx hb d_MC_wayOn_4 (by rw [hc2]; decide) (by rw [hc2]; decide) (by rw [hc2]; decide) (by decide) ?_
      refine lv_aload_n hx hb d_MC_wayOn_172 rfl (lv_at hl 1 rfl) ?_
      refine lv_aload_n hx hb d_MC_wayOn_173 rfl (lv_at hl 2 rfl) ?_
      refine lv_iload_n hx hb d_MC_wayOn_174 rfl (lv_at hl 4 rfl) ?_
      obtain ⟨s126, hc127, h⟩ := xw_bndI h
      refine xw_callVv (C := "AdviceWeaver$Machine") (T := T_MC) ⟨hx, hb, hml, hown, hts⟩ (c_MC_calculate l D A ad cs Z tt fu s0 s126 f1 (by omega) p3 hc127) (cwV 2 hts (gd_V hw_373 hw_374 hw_375 hw_320 hw_376) rfl rfl rfl (by decide +kernel) ⟨Nat.le_of_ble_eq_true rfl, Nat.le_of_ble_eq_true rfl⟩) hP hK hD hX hS (by decide) kc_Mach (by decide) rfl rfl hl.1 rfl (Nat.le_of_ble_eq_true rfl) d_MC_wayOn_175 (fun H locs hP hS => ?_)
      refine lv_goto (tgt := 230) hx hb d_MC_wayOn_178 (by decide) ?_
      exact hj230 s126 0 h _ _ _ hP hS (lv_sub hl [2, 3, 4, 0] rfl)
    · replace h := xw_ifF hc2 h
      by_cases hc3 : p3 = 5
      · replace h := xw_ifT hc3 h
        refine lv_tableIn (off := 168) (tgt := 172) hx hb d_MC_wayOn_4 (by rw [hc3]; decide) (by rw [hc3]; decide) (by rw [hc3]; decide) (by decide) ?_
        refine lv_aload_n hx hb d_MC_wayOn_172 rfl (lv_at hl 1 rfl) ?_
        refine lv_aload_n hx hb d_MC_wayOn_173 rfl (lv_at hl 2 rfl) ?_
        refine lv_iload_n hx hb d_MC_wayOn_174 rfl (lv_at hl 4 rfl) ?_
        obtain ⟨s123, hc124, h⟩ := xw_bndI h
        refine xw_callVv (C := "AdviceWeaver$Machine") (T := T_MC) ⟨hx, hb, hml, hown, hts⟩ (c_MC_calculate l D A ad cs Z tt fu s0 s123 f1 (by omega) p3 hc124) (cwV 2 hts (gd_V hw_373 hw_374 hw_375 hw_320 hw_376) rfl rfl rfl (by decide +kernel) ⟨Nat.le_of_ble_eq_true rfl, Nat.le_of_ble_eq_true rfl⟩) hP hK hD hX hS (by decide) kc_Mach (by decide) rfl rfl hl.1 rfl (Nat.le_of_ble_eq_true rfl) d_MC_wayOn_175 (fun H locs hP hS => ?_)
        refine lv_goto (tgt := 230) hx hb d_MC_wayOn_178 (by decide) ?_
        exact hj230 s123 0 h _ _ _ hP hS (lv_sub hl [2, 3, 4, 0] rfl)
      · replace h := xw_ifF hc3 h
        by_cases hc4 : p3 = 6
        · replace h := xw_ifT hc4 h
          refine lv_tableIn (off := 168) (tgt := 172) hx hb d_MC_wayOn_4 (by rw [hc4]; decide) (by rw [hc4]; decide) (by rw [hc4]; decide) (by decide) ?_
          refine lv_aload_n hx hb d_MC_wayOn_172 rfl (lv_at hl 1 rfl) ?_
          refine lv_aload_n hx hb d_MC_wayOn_173 rfl (lv_at hl 2 rfl) ?_
          refine lv_iload_n hx hb d_MC_wayOn_174 rfl (lv_at hl 4 rfl) ?_
          obtain ⟨s120, hc121, h⟩ := xw_bndI h
          refine xw_callVv (C := "AdviceWeaver$Machine") (T := T_MC) ⟨hx, hb, hml, hown, hts⟩ (c_MC_calculate l D A ad cs Z tt fu s0 s120 f1 (by omega) p3 hc121) (cwV 2 hts (gd_V hw_373 hw_374 hw_375 hw_320 hw_376) rfl rfl rfl (by decide +kernel) ⟨Nat.le_of_ble_eq_true rfl, Nat.le_of_ble_eq_true rfl⟩) hP hK hD hX hS (by decide) kc_Mach (by decide) rfl rfl hl.1 rfl (Nat.le_of_ble_eq_true rfl) d_MC_wayOn_175 (fun H locs hP hS => ?_)
          refine lv_goto (tgt := 230) hx hb d_MC_wayOn_178 (by decide) ?_
          exact hj230 s120 0 h _ _ _ hP hS (lv_sub hl [2, 3, 4, 0] rfl)
        · replace h := xw_ifF hc4 h
          by_cases hc5 : p3 = 7
          · replace h := xw_ifT hc5 h
            refine lv_tableIn (off := 219) (tgt := 223) hx hb d_MC_wayOn_4 (by rw [hc5]; decide) (by rw [hc5]; decide) (by rw [hc5]; decide) (by decide) ?_
            refine lv_aload_n hx hb d_MC_wayOn_223 rfl (lv_at hl 1 rfl) ?_
            refine lv_aload_n hx hb d_MC_wayOn_224 rfl (lv_at hl 2 rfl) ?_
            refine lv_aload_n hx hb d_MC_wayOn_225 rfl (lv_at hl 3 rfl) ?_
            refine lv_iload_n hx hb d_MC_wayOn_226 rfl (lv_at hl 4 rfl) ?_
            obtain ⟨s117, hc118, h⟩ := xw_bndI h
            refine xw_callVv (C := "AdviceWeaver$Machine") (T := T_MC) ⟨hx, hb, hml, hown, hts⟩ (c_MC_move l D A ad cs Z tt fu s0 s117 f1 (by omega) b2 (by omega) p3 hc118) (cwV 3 hts (gd_V hw_361 hw_362 hw_363 hw_320 hw_364) rfl rfl rfl (by decide +kernel) ⟨Nat.le_of_ble_eq_true rfl, Nat.le_of_ble_eq_true rfl⟩) hP hK hD hX hS (by decide) kc_Mach (by decide) rfl rfl hl.1 rfl (Nat.le_of_ble_eq_true rfl) d_MC_wayOn_227 (fun H locs hP hS => ?_)
            exact hj230 s117 0 h _ _ _ hP hS (lv_sub hl [2, 3, 4, 0] rfl)
          · replace h := xw_ifF hc5 h
            by_cases hc6 : p3 = 8
            · replace h := xw_ifT hc6 h
              refine lv_tableIn (off := 219) (tgt := 223) hx hb d_MC_wayOn_4 (by rw [hc6]; decide) (by rw [hc6]; decide) (by rw [hc6]; decide) (by decide) ?_
              refine lv_aload_n hx hb d_MC_wayOn_223 rfl (lv_at hl 1 rfl) ?_
              refine lv_aload_n hx hb d_MC_wayOn_224 rfl (lv_at hl 2 rfl) ?_
              refine lv_aload_n hx hb d_MC_wayOn_225 rfl (lv_at hl 3 rfl) ?_
              refine lv_iload_n hx hb d_MC_wayOn_226 rfl (lv_at hl 4 rfl) ?_
              obtain ⟨s114, hc115, h⟩ := xw_bndI h
              refine xw_callVv (C := "AdviceWeaver$Machine") (T := T_MC) ⟨hx, hb, hml, hown, hts⟩ (c_MC_move l D A ad cs Z tt fu s0 s114 f1 (by omega) b2 (by omega) p3 hc115) (cwV 3 hts (gd_V hw_361 hw_362 hw_363 hw_320 hw_364) rfl rfl rfl (by decide +kernel) ⟨Nat.le_of_ble_eq_true rfl, Nat.le_of_ble_eq_true rfl⟩) hP hK hD hX hS (by decide) kc_Mach (by decide) rfl rfl hl.1 rfl (Nat.le_of_ble_eq_true rfl) d_MC_wayOn_227 (fun H locs hP hS => ?_)
              exact hj230 s114 0 h _ _ _ hP hS (lv_sub hl [2, 3, 4, 0] rfl)
            · replace h := xw_ifF hc6 h
              by_cases hc7 : p3 = 9
              · replace h := xw_ifT hc7 h
                refine lv_tableIn (off := 219) (tgt := 223) hx hb d_MC_wayOn_4 (by rw [hc7]; decide) (by rw [hc7]; decide) (by rw [hc7]; decide) (by decide) ?_
                refine lv_aload_n hx hb d_MC_wayOn_223 rfl (lv_at hl 1 rfl) ?_
                refine lv_aload_n hx hb d_MC_wayOn_224 rfl (lv_at hl 2 rfl) ?_
                refine lv_aload_n hx hb d_MC_wayOn_225 rfl (lv_at hl 3 rfl) ?_
                refine lv_iload_n hx hb d_MC_wayOn_226 rfl (lv_at hl 4 rfl) ?_
                obtain ⟨s111, hc112, h⟩ := xw_bndI h
                refine xw_callVv (C := "AdviceWeaver$Machine") (T := T_MC) ⟨hx, hb, hml, hown, hts⟩ (c_MC_move l D A ad cs Z tt fu s0 s111 f1 (by omega) b2 (by omega) p3 hc112) (cwV 3 hts (gd_V hw_361 hw_362 hw_363 hw_320 hw_364) rfl rfl rfl (by decide +kernel) ⟨Nat.le_of_ble_eq_true rfl, Nat.le_of_ble_eq_true rfl⟩) hP hK hD hX hS (by decide) kc_Mach (by decide) rfl rfl hl.1 rfl (Nat.le_of_ble_eq_true rfl) d_MC_wayOn_227 (fun H locs hP hS => ?_)
                exact hj230 s111 0 h _ _ _ hP hS (lv_sub hl [2, 3, 4, 0] rfl)
              · replace h := xw_ifF hc7 h
                by_cases hc8 : p3 = 10
                · replace h := xw_ifT hc8 h
                  refine lv_tableIn (off := 128) (tgt := 132) hx hb d_MC_wayOn_4 (by rw [hc8]; decide) (by rw [hc8]; decide) (by rw [hc8]; decide) (by decide) ?_
                  refine lv_iconst (v := xw_i 1) hx hb d_MC_wayOn_132 rfl ?_
                  refine lv_istore hx hb d_MC_wayOn_133 hl (by decide) rfl (fun ls hl => ?_)
                  refine lv_goto (tgt := 230) hx hb d_MC_wayOn_135 (by decide) ?_
                  exact hj230 s0 1 h _ _ _ hP hS (lv_sub hl [2, 3, 4, 0] rfl)
                · replace h := xw_ifF hc8 h
                  by_cases hc9 : p3 = 11
                  · replace h := xw_ifT hc9 h
                    refine lv_tableIn (off := 134) (tgt := 138) hx hb d_MC_wayOn_4 (by rw [hc9]; decide) (by rw [hc9]; decide) (by rw [hc9]; decide) (by decide) ?_
                    refine lv_aload_n hx hb d_MC_wayOn_138 rfl (lv_at hl 2 rfl) ?_
                    obtain ⟨s105, r107, hc106, h⟩ := xw_bn2I h
                    refine xw_callVi (C := "AdviceWeaver$Frame") (T := T_FR) ⟨hx, hb, hml, hown, hts⟩ (c_FR_pop l D A ad cs Z tt fu s0 s105 f1 (by omega) r107 hc106) (cwV 0 hts (gd_V hw_307 hw_308 hw_309 hw_310 hw_311) rfl rfl rfl (by decide +kernel) ⟨Nat.le_of_ble_eq_true rfl, Nat.le_of_ble_eq_true rfl⟩) hP hK hD hX hS (by omega) (kc_Frame f1 (by omega)) (by decide) rfl rfl hl.1 rfl (Nat.le_of_ble_eq_true rfl) d_MC_wayOn_139 (fun H locs hP hS => ?_)
                    refine xw_jnI (fun j => ∀ (sq : xw_S) (t0_150 : Int), j sq t0_150 = some (sZ, r0) → ∀ (H : Heap) (locs : List Loc) (ls : Array Slot), va_P D vwCl (xw_ws kdC 100 ad cs Z sq) H → va_S A s.heap H locs → lv_has ls 5 [(1, .ref (ad (24 + 3 * f1))), (2, .ref (ad (48 + 4 * b2))), (3, .int (xw_i p3))] → W p l e (headSpec w_MC_wayOn ({ frames := 3, cells := 0, slots := 0, locals := 66 })).room s m [.ref (ad 17), .ref (ad (24 + 3 * f1)), .ref (ad (48 + 4 * b2)), .int (xw_i p3)].toArray below meth c H locs 0 0 (MQ below (va_Qi (fun r u => r = xw_i r0 ∧ u = sZ) (xw_H D vwCl A kdC 100 ad cs Z tt) A) [.ref (ad 17), .ref (ad (24 + 3 * f1)), .ref (ad (48 + 4 * b2)), .int (xw_i p3)].toArray s 0 0 A) (F0 m 150 ls [.int (xw_i t0_150)])) h ?_ ?_
                    · intro s110 t0_150 h H locs ls hP hS hl
                      refine lv_istore hx hb d_MC_wayOn_150 hl (by decide) rfl (fun ls hl => ?_)
                      refine lv_goto (tgt := 230) hx hb d_MC_wayOn_152 (by decide) ?_
                      exact hj230 s110 t0_150 h _ _ _ hP hS (lv_sub hl [1, 2, 3, 0] rfl)
                    · intro j150 hj150 h
                      obtain ⟨hg108, h⟩ := xw_grdI h
                      refine xw_if_ne (tgt := 149) hx hb hg108 d_MC_wayOn_142 (by decide) (fun hc109 => ?_) (fun hc109 => ?_)
                      · replace h := xw_ifF hc109 h
                        refine lv_iconst (v := xw_i 0) hx hb d_MC_wayOn_149 rfl ?_
                        exact hj150 s105 0 h _ _ _ hP hS (lv_sub hl [2, 3, 4] rfl)
                      · replace h := xw_ifT hc109 h
                        refine lv_iconst (v := xw_i 1) hx hb d_MC_wayOn_145 rfl ?_
                        refine lv_goto (tgt := 150) hx hb d_MC_wayOn_146 (by decide) ?_
                        exact hj150 s105 1 h _ _ _ hP hS (lv_sub hl [2, 3, 4] rfl)
                  · replace h := xw_ifF hc9 h
                    by_cases hc10 : p3 = 12
                    · replace h := xw_ifT hc10 h
                      refine lv_tableIn (off := 151) (tgt := 155) hx hb d_MC_wayOn_4 (by rw [hc10]; decide) (by rw [hc10]; decide) (by rw [hc10]; decide) (by decide) ?_
                      refine lv_aload_n hx hb d_MC_wayOn_155 rfl (lv_at hl 2 rfl) ?_
                      obtain ⟨s99, r101, hc100, h⟩ := xw_bn2I h
                      refine xw_callVi (C := "AdviceWeaver$Frame") (T := T_FR) ⟨hx, hb, hml, hown, hts⟩ (c_FR_pop l D A ad cs Z tt fu s0 s99 f1 (by omega) r101 hc100) (cwV 0 hts (gd_V hw_307 hw_308 hw_309 hw_310 hw_311) rfl rfl rfl (by decide +kernel) ⟨Nat.le_of_ble_eq_true rfl, Nat.le_of_ble_eq_true rfl⟩) hP hK hD hX hS (by omega) (kc_Frame f1 (by omega)) (by decide) rfl rfl hl.1 rfl (Nat.le_of_ble_eq_true rfl) d_MC_wayOn_156 (fun H locs hP hS => ?_)
                      refine xw_jnI (fun j => ∀ (sq : xw_S) (t0_167 : Int), j sq t0_167 = some (sZ, r0) → ∀ (H : Heap) (locs : List Loc) (ls : Array Slot), va_P D vwCl (xw_ws kdC 100 ad cs Z sq) H → va_S A s.heap H locs → lv_has ls 5 [(1, .ref (ad (24 + 3 * f1))), (2, .ref (ad (48 + 4 * b2))), (3, .int (xw_i p3))] → W p l e (headSpec w_MC_wayOn ({ frames := 3, cells := 0, slots := 0, locals := 66 })).room s m [.ref (ad 17), .ref (ad (24 + 3 * f1)), .ref (ad (48 + 4 * b2)), .int (xw_i p3)].toArray below meth c H locs 0 0 (MQ below (va_Qi (fun r u => r = xw_i r0 ∧ u = sZ) (xw_H D vwCl A kdC 100 ad cs Z tt) A) [.ref (ad 17), .ref (ad (24 + 3 * f1)), .ref (ad (48 + 4 * b2)), .int (xw_i p3)].toArray s 0 0 A) (F0 m 167 ls [.int (xw_i t0_167)])) h ?_ ?_
                      · intro s104 t0_167 h H locs ls hP hS hl
                        refine lv_istore hx hb d_MC_wayOn_167 hl (by decide) rfl (fun ls hl => ?_)
                        refine lv_goto (tgt := 230) hx hb d_MC_wayOn_169 (by decide) ?_
                        exact hj230 s104 t0_167 h _ _ _ hP hS (lv_sub hl [1, 2, 3, 0] rfl)
                      · intro j167 hj167 h
                        obtain ⟨hg102, h⟩ := xw_grdI h
                        refine xw_if_ge (tgt := 166) hx hb hg102 d_MC_wayOn_159 (by decide) (fun hc103 => ?_) (fun hc103 => ?_)
                        · replace h := xw_ifT hc103 h
                          refine lv_iconst (v := xw_i 0) hx hb d_MC_wayOn_166 rfl ?_
                          exact hj167 s99 0 h _ _ _ hP hS (lv_sub hl [2, 3, 4] rfl)
                        · replace h := xw_ifF hc103 h
                          refine lv_iconst (v := xw_i 1) hx hb d_MC_wayOn_162 rfl ?_
                          refine lv_goto (tgt := 167) hx hb d_MC_wayOn_163 (by decide) ?_
                          exact hj167 s99 1 h _ _ _ hP hS (lv_sub hl [2, 3, 4] rfl)
                    · replace h := xw_ifF hc10 h
                      by_cases hc11 : p3 = 13
                      · replace h := xw_ifT hc11 h
                        refine lv_tableIn (off := 219) (tgt := 223) hx hb d_MC_wayOn_4 (by rw [hc11]; decide) (by rw [hc11]; decide) (by rw [hc11]; decide) (by decide) ?_
                        refine lv_aload_n hx hb d_MC_wayOn_223 rfl (lv_at hl 1 rfl) ?_
                        refine lv_aload_n hx hb d_MC_wayOn_224 rfl (lv_at hl 2 rfl) ?_
                        refine lv_aload_n hx hb d_MC_wayOn_225 rfl (lv_at hl 3 rfl) ?_
                        refine lv_iload_n hx hb d_MC_wayOn_226 rfl (lv_at hl 4 rfl) ?_
                        obtain ⟨s96, hc97, h⟩ := xw_bndI h
                        refine xw_callVv (C := "AdviceWeaver$Machine") (T := T_MC) ⟨hx, hb, hml, hown, hts⟩ (c_MC_move l D A ad cs Z tt fu s0 s96 f1 (by omega) b2 (by omega) p3 hc97) (cwV 3 hts (gd_V hw_361 hw_362 hw_363 hw_320 hw_364) rfl rfl rfl (by decide +kernel) ⟨Nat.le_of_ble_eq_true rfl, Nat.le_of_ble_eq_true rfl⟩) hP hK hD hX hS (by decide) kc_Mach (by decide) rfl rfl hl.1 rfl (Nat.le_of_ble_eq_true rfl) d_MC_wayOn_227 (fun H locs hP hS => ?_)
                        exact hj230 s96 0 h _ _ _ hP hS (lv_sub hl [2, 3, 4, 0] rfl)
                      · replace h := xw_ifF hc11 h
                        by_cases hc12 : p3 = 14
                        · replace h := xw_ifT hc12 h
                          refine lv_tableIn (off := 219) (tgt := 223) hx hb d_MC_wayOn_4 (by rw [hc12]; decide) (by rw [hc12]; decide) (by rw [hc12]; decide) (by decide) ?_
                          refine lv_aload_n hx hb d_MC_wayOn_223 rfl (lv_at hl 1 rfl) ?_
                          refine lv_aload_n hx hb d_MC_wayOn_224 rfl (lv_at hl 2 rfl) ?_
                          refine lv_aload_n hx hb d_MC_wayOn_225 rfl (lv_at hl 3 rfl) ?_
                          refine lv_iload_n hx hb d_MC_wayOn_226 rfl (lv_at hl 4 rfl) ?_
                          obtain ⟨s93, hc94, h⟩ := xw_bndI h
                          refine xw_callVv (C := "AdviceWeaver$Machine") (T := T_MC) ⟨hx, hb, hml, hown, hts⟩ (c_MC_move l D A ad cs Z tt fu s0 s93 f1 (by omega) b2 (by omega) p3 hc94) (cwV 3 hts (gd_V hw_361 hw_362 hw_363 hw_320 hw_364) rfl rfl rfl (by decide +kernel) ⟨Nat.le_of_ble_eq_true rfl, Nat.le_of_ble_eq_true rfl⟩) hP hK hD hX hS (by decide) kc_Mach (by decide) rfl rfl hl.1 rfl (Nat.le_of_ble_eq_true rfl) d_MC_wayOn_227 (fun H locs hP hS => ?_)
                          exact hj230 s93 0 h _ _ _ hP hS (lv_sub hl [2, 3, 4, 0] rfl)
                        · replace h := xw_ifF hc12 h
                          by_cases hc13 : p3 = 15
                          · replace h := xw_ifT hc13 h
                            refine lv_tableIn (off := 219) (tgt := 223) hx hb d_MC_wayOn_4 (by rw [hc13]; decide) (by rw [hc13]; decide) (by rw [hc13]; decide) (by decide) ?_
                            refine lv_aload_n hx hb d_MC_wayOn_223 rfl (lv_at hl 1 rfl) ?_
                            refine lv_aload_n hx hb d_MC_wayOn_224 rfl (lv_at hl 2 rfl) ?_
                            refine lv_aload_n hx hb d_MC_wayOn_225 rfl (lv_at hl 3 rfl) ?_
                            refine lv_iload_n hx hb d_MC_wayOn_226 rfl (lv_at hl 4 rfl) ?_
                            obtain ⟨s90, hc91, h⟩ := xw_bndI h
                            refine xw_callVv (C := "AdviceWeaver$Machine") (T := T_MC) ⟨hx, hb, hml, hown, hts⟩ (c_MC_move l D A ad cs Z tt fu s0 s90 f1 (by omega) b2 (by omega) p3 hc91) (cwV 3 hts (gd_V hw_361 hw_362 hw_363 hw_320 hw_364) rfl rfl rfl (by decide +kernel) ⟨Nat.le_of_ble_eq_true rfl, Nat.le_of_ble_eq_true rfl⟩) hP hK hD hX hS (by decide) kc_Mach (by decide) rfl rfl hl.1 rfl (Nat.le_of_ble_eq_true rfl) d_MC_wayOn_227 (fun H locs hP hS => ?_)
                            exact hj230 s90 0 h _ _ _ hP hS (lv_sub hl [2, 3, 4, 0] rfl)
                          · replace h := xw_ifF hc13 h
                            by_cases hc14 : p3 = 16
                            · replace h := xw_ifT hc14 h
                              refine lv_tableIn (off := 219) (tgt := 223) hx hb d_MC_wayOn_4 (by rw [hc14]; decide) (by rw [hc14]; decide) (by rw [hc14]; decide) (by decide) ?_
                              refine lv_aload_n hx hb d_MC_wayOn_223 rfl (lv_at hl 1 rfl) ?_
                              refine lv_aload_n hx hb d_MC_wayOn_224 rfl (lv_at hl 2 rfl) ?_
                              refine lv_aload_n hx hb d_MC_wayOn_225 rfl (lv_at hl 3 rfl) ?_
                              refine lv_iload_n hx hb d_MC_wayOn_226 rfl (lv_at hl 4 rfl) ?_
                              obtain ⟨s87, hc88, h⟩ := xw_bndI h
                              refine xw_callVv (C := "AdviceWeaver$Machine") (T := T_MC) ⟨hx, hb, hml, hown, hts⟩ (c_MC_move l D A ad cs Z tt fu s0 s87 f1 (by omega) b2 (by omega) p3 hc88) (cwV 3 hts (gd_V hw_361 hw_362 hw_363 hw_320 hw_364) rfl rfl rfl (by decide +kernel) ⟨Nat.le_of_ble_eq_true rfl, Nat.le_of_ble_eq_true rfl⟩) hP hK hD hX hS (by decide) kc_Mach (by decide) rfl rfl hl.1 rfl (Nat.le_of_ble_eq_true rfl) d_MC_wayOn_227 (fun H locs hP hS => ?_)
                              exact hj230 s87 0 h _ _ _ hP hS (lv_sub hl [2, 3, 4, 0] rfl)
                            · replace h := xw_ifF hc14 h
                              by_cases hc15 : p3 = 17
                              · replace h := xw_ifT hc15 h
                                refine lv_tableIn (off := 219) (tgt := 223) hx hb d_MC_wayOn_4 (by rw [hc15]; decide) (by rw [hc15]; decide) (by rw [hc15]; decide) (by decide) ?_
                                refine lv_aload_n hx hb d_MC_wayOn_223 rfl (lv_at hl 1 rfl) ?_
                                refine lv_aload_n hx hb d_MC_wayOn_224 rfl (lv_at hl 2 rfl) ?_
                                refine lv_aload_n hx hb d_MC_wayOn_225 rfl (lv_at hl 3 rfl) ?_
                                refine lv_iload_n hx hb d_MC_wayOn_226 rfl (lv_at hl 4 rfl) ?_
                                obtain ⟨s84, hc85, h⟩ := xw_bndI h
                                refine xw_callVv (C := "AdviceWeaver$Machine") (T := T_MC) ⟨hx, hb, hml, hown, hts⟩ (c_MC_move l D A ad cs Z tt fu s0 s84 f1 (by omega) b2 (by omega) p3 hc85) (cwV 3 hts (gd_V hw_361 hw_362 hw_363 hw_320 hw_364) rfl rfl rfl (by decide +kernel) ⟨Nat.le_of_ble_eq_true rfl, Nat.le_of_ble_eq_true rfl⟩) hP hK hD hX hS (by decide) kc_Mach (by decide) rfl rfl hl.1 rfl (Nat.le_of_ble_eq_true rfl) d_MC_wayOn_227 (fun H locs hP hS => ?_)
                                exact hj230 s84 0 h _ _ _ hP hS (lv_sub hl [2, 3, 4, 0] rfl)
                              · replace h := xw_ifF hc15 h
                                by_cases hc16 : p3 = 18
                                · replace h := xw_ifT hc16 h
                                  refine lv_tableIn (off := 219) (tgt := 223) hx hb d_MC_wayOn_4 (by rw [hc16]; decide) (by rw [hc16]; decide) (by rw [hc16]; decide) (by decide) ?_
                                  refine lv_aload_n hx hb d_MC_wayOn_223 rfl (lv_at hl 1 rfl) ?_
                                  refine lv_aload_n hx hb d_MC_wayOn_224 rfl (lv_at hl 2 rfl) ?_
                                  refine lv_aload_n hx hb d_MC_wayOn_225 rfl (lv_at hl 3 rfl) ?_
                                  refine lv_iload_n hx hb d_MC_wayOn_226 rfl (lv_at hl 4 rfl) ?_
                                  obtain ⟨s81, hc82, h⟩ := xw_bndI h
                                  refine xw_callVv (C := "AdviceWeaver$Machine") (T := T_MC) ⟨hx, hb, hml, hown, hts⟩ (c_MC_move l D A ad cs Z tt fu s0 s81 f1 (by omega) b2 (by omega) p3 hc82) (cwV 3 hts (gd_V hw_361 hw_362 hw_363 hw_320 hw_364) rfl rfl rfl (by decide +kernel) ⟨Nat.le_of_ble_eq_true rfl, Nat.le_of_ble_eq_true rfl⟩) hP hK hD hX hS (by decide) kc_Mach (by decide) rfl rfl hl.1 rfl (Nat.le_of_ble_eq_true rfl) d_MC_wayOn_227 (fun H locs hP hS => ?_)
                                  exact hj230 s81 0 h _ _ _ hP hS (lv_sub hl [2, 3, 4, 0] rfl)
                                · replace h := xw_ifF hc16 h
                                  by_cases hc17 : p3 = 19
                                  · replace h := xw_ifT hc17 h
                                    refine lv_tableIn (off := 219) (tgt := 223) hx hb d_MC_wayOn_4 (by rw [hc17]; decide) (by rw [hc17]; decide) (by rw [hc17]; decide) (by decide) ?_
                                    refine lv_aload_n hx hb d_MC_wayOn_223 rfl (lv_at hl 1 rfl) ?_
                                    refine lv_aload_n hx hb d_MC_wayOn_224 rfl (lv_at hl 2 rfl) ?_
                                    refine lv_aload_n hx hb d_MC_wayOn_225 rfl (lv_at hl 3 rfl) ?_
                                    refine lv_iload_n hx hb d_MC_wayOn_226 rfl (lv_at hl 4 rfl) ?_
                                    obtain ⟨s78, hc79, h⟩ := xw_bndI h
                                    refine xw_callVv (C := "AdviceWeaver$Machine") (T := T_MC) ⟨hx, hb, hml, hown, hts⟩ (c_MC_move l D A ad cs Z tt fu s0 s78 f1 (by omega) b2 (by omega) p3 hc79) (cwV 3 hts (gd_V hw_361 hw_362 hw_363 hw_320 hw_364) rfl rfl rfl (by decide +kernel) ⟨Nat.le_of_ble_eq_true rfl, Nat.le_of_ble_eq_true rfl⟩) hP hK hD hX hS (by decide) kc_Mach (by decide) rfl rfl hl.1 rfl (Nat.le_of_ble_eq_true rfl) d_MC_wayOn_227 (fun H locs hP hS => ?_)
                                    exact hj230 s78 0 h _ _ _ hP hS (lv_sub hl [2, 3, 4, 0] rfl)
                                  · replace h := xw_ifF hc17 h
                                    by_cases hc18 : p3 = 20
                                    · replace h := xw_ifT hc18 h
                                      refine lv_tableIn (off := 128) (tgt := 132) hx hb d_MC_wayOn_4 (by rw [hc18]; decide) (by rw [hc18]; decide) (by rw [hc18]; decide) (by decide) ?_
                                      refine lv_iconst (v := xw_i 1) hx hb d_MC_wayOn_132 rfl ?_
                                      refine lv_istore hx hb d_MC_wayOn_133 hl (by decide) rfl (fun ls hl => ?_)
                                      refine lv_goto (tgt := 230) hx hb d_MC_wayOn_135 (by decide) ?_
                                      exact hj230 s0 1 h _ _ _ hP hS (lv_sub hl [2, 3, 4, 0] rfl)
                                    · replace h := xw_ifF hc18 h
                                      by_cases hc19 : p3 = 21
                                      · replace h := xw_ifT hc19 h
                                        refine lv_tableIn (off := 134) (tgt := 138) hx hb d_MC_wayOn_4 (by rw [hc19]; decide) (by rw [hc19]; decide) (by rw [hc19]; decide) (by decide) ?_
                                        refine lv_aload_n hx hb d_MC_wayOn_138 rfl (lv_at hl 2 rfl) ?_
                                        obtain ⟨s72, r74, hc73, h⟩ := xw_bn2I h
                                        refine xw_callVi (C := "AdviceWeaver$Frame") (T := T_FR) ⟨hx, hb, hml, hown, hts⟩ (c_FR_pop l D A ad cs Z tt fu s0 s72 f1 (by omega) r74 hc73) (cwV 0 hts (gd_V hw_307 hw_308 hw_309 hw_310 hw_311) rfl rfl rfl (by decide +kernel) ⟨Nat.le_of_ble_eq_true rfl, Nat.le_of_ble_eq_true rfl⟩) hP hK hD hX hS (by omega) (kc_Frame f1 (by omega)) (by decide) rfl rfl hl.1 rfl (Nat.le_of_ble_eq_true rfl) d_MC_wayOn_139 (fun H locs hP hS => ?_)
                                        refine xw_jnI (fun j => ∀ (sq : xw_S) (t0_150 : Int), j sq t0_150 = some (sZ, r0) → ∀ (H : Heap) (locs : List Loc) (ls : Array Slot), va_P D vwCl (xw_ws kdC 100 ad cs Z sq) H → va_S A s.heap H locs → lv_has ls 5 [(1, .ref (ad (24 + 3 * f1))), (2, .ref (ad (48 + 4 * b2))), (3, .int (xw_i p3))] → W p l e (headSpec w_MC_wayOn ({ frames := 3, cells := 0, slots := 0, locals := 66 })).room s m [.ref (ad 17), .ref (ad (24 + 3 * f1)), .ref (ad (48 + 4 * b2)), .int (xw_i p3)].toArray below meth c H locs 0 0 (MQ below (va_Qi (fun r u => r = xw_i r0 ∧ u = sZ) (xw_H D vwCl A kdC 100 ad cs Z tt) A) [.ref (ad 17), .ref (ad (24 + 3 * f1)), .ref (ad (48 + 4 * b2)), .int (xw_i p3)].toArray s 0 0 A) (F0 m 150 ls [.int (xw_i t0_150)])) h ?_ ?_
                                        · intro s77 t0_150 h H locs ls hP hS hl
                                          refine lv_istore hx hb d_MC_wayOn_150 hl (by decide) rfl (fun ls hl => ?_)
                                          refine lv_goto (tgt := 230) hx hb d_MC_wayOn_152 (by decide) ?_
                                          exact hj230 s77 t0_150 h _ _ _ hP hS (lv_sub hl [1, 2, 3, 0] rfl)
                                        · intro j150 hj150 h
                                          obtain ⟨hg75, h⟩ := xw_grdI h
                                          refine xw_if_ne (tgt := 149) hx hb hg75 d_MC_wayOn_142 (by decide) (fun hc76 => ?_) (fun hc76 => ?_)
                                          · replace h := xw_ifF hc76 h
                                            refine lv_iconst (v := xw_i 0) hx hb d_MC_wayOn_149 rfl ?_
                                            exact hj150 s72 0 h _ _ _ hP hS (lv_sub hl [2, 3, 4] rfl)
                                          · replace h := xw_ifT hc76 h
                                            refine lv_iconst (v := xw_i 1) hx hb d_MC_wayOn_145 rfl ?_
                                            refine lv_goto (tgt := 150) hx hb d_MC_wayOn_146 (by decide) ?_
                                            exact hj150 s72 1 h _ _ _ hP hS (lv_sub hl [2, 3, 4] rfl)
                                      · replace h := xw_ifF hc19 h
                                        by_cases hc20 : p3 = 22
                                        · replace h := xw_ifT hc20 h
                                          refine lv_tableIn (off := 151) (tgt := 155) hx hb d_MC_wayOn_4 (by rw [hc20]; decide) (by rw [hc20]; decide) (by rw [hc20]; decide) (by decide) ?_
                                          refine lv_aload_n hx hb d_MC_wayOn_155 rfl (lv_at hl 2 rfl) ?_
                                          obtain ⟨s66, r68, hc67, h⟩ := xw_bn2I h
                                          refine xw_callVi (C := "AdviceWeaver$Frame") (T := T_FR) ⟨hx, hb, hml, hown, hts⟩ (c_FR_pop l D A ad cs Z tt fu s0 s66 f1 (by omega) r68 hc67) (cwV 0 hts (gd_V hw_307 hw_308 hw_309 hw_310 hw_311) rfl rfl rfl (by decide +kernel) ⟨Nat.le_of_ble_eq_true rfl, Nat.le_of_ble_eq_true rfl⟩) hP hK hD hX hS (by omega) (kc_Frame f1 (by omega)) (by decide) rfl rfl hl.1 rfl (Nat.le_of_ble_eq_true rfl) d_MC_wayOn_156 (fun H locs hP hS => ?_)
                                          refine xw_jnI (fun j => ∀ (sq : xw_S) (t0_167 : Int), j sq t0_167 = some (sZ, r0) → ∀ (H : Heap) (locs : List Loc) (ls : Array Slot), va_P D vwCl (xw_ws kdC 100 ad cs Z sq) H → va_S A s.heap H locs → lv_has ls 5 [(1, .ref (ad (24 + 3 * f1))), (2, .ref (ad (48 + 4 * b2))), (3, .int (xw_i p3))] → W p l e (headSpec w_MC_wayOn ({ frames := 3, cells := 0, slots := 0, locals := 66 })).room s m [.ref (ad 17), .ref (ad (24 + 3 * f1)), .ref (ad (48 + 4 * b2)), .int (xw_i p3)].toArray below meth c H locs 0 0 (MQ below (va_Qi (fun r u => r = xw_i r0 ∧ u = sZ) (xw_H D vwCl A kdC 100 ad cs Z tt) A) [.ref (ad 17), .ref (ad (24 + 3 * f1)), .ref (ad (48 + 4 * b2)), .int (xw_i p3)].toArray s 0 0 A) (F0 m 167 ls [.int (xw_i t0_167)])) h ?_ ?_
                                          · intro s71 t0_167 h H locs ls hP hS hl
                                            refine lv_istore hx hb d_MC_wayOn_167 hl (by decide) rfl (fun ls hl => ?_)
                                            refine lv_goto (tgt := 230) hx hb d_MC_wayOn_169 (by decide) ?_
                                            exact hj230 s71 t0_167 h _ _ _ hP hS (lv_sub hl [1, 2, 3, 0] rfl)
                                          · intro j167 hj167 h
                                            obtain ⟨hg69, h⟩ := xw_grdI h
                                            refine xw_if_ge (tgt := 166) hx hb hg69 d_MC_wayOn_159 (by decide) (fun hc70 => ?_) (fun hc70 => ?_)
                                            · replace h := xw_ifT hc70 h
                                              refine lv_iconst (v := xw_i 0) hx hb d_MC_wayOn_166 rfl ?_
                                              exact hj167 s66 0 h _ _ _ hP hS (lv_sub hl [2, 3, 4] rfl)
                                            · replace h := xw_ifF hc70 h
                                              refine lv_iconst (v := xw_i 1) hx hb d_MC_wayOn_162 rfl ?_
                                              refine lv_goto (tgt := 167) hx hb d_MC_wayOn_163 (by decide) ?_
                                              exact hj167 s66 1 h _ _ _ hP hS (lv_sub hl [2, 3, 4] rfl)
                                        · replace h := xw_ifF hc20 h
                                          by_cases hc21 : p3 = 23
                                          · replace h := xw_ifT hc21 h
                                            refine lv_tableIn (off := 219) (tgt := 223) hx hb d_MC_wayOn_4 (by rw [hc21]; decide) (by rw [hc21]; decide) (by rw [hc21]; decide) (by decide) ?_
                                            refine lv_aload_n hx hb d_MC_wayOn_223 rfl (lv_at hl 1 rfl) ?_
                                            refine lv_aload_n hx hb d_MC_wayOn_224 rfl (lv_at hl 2 rfl) ?_
                                            refine lv_aload_n hx hb d_MC_wayOn_225 rfl (lv_at hl 3 rfl) ?_
                                            refine lv_iload_n hx hb d_MC_wayOn_226 rfl (lv_at hl 4 rfl) ?_
                                            obtain ⟨s63, hc64, h⟩ := xw_bndI h
                                            refine xw_callVv (C := "AdviceWeaver$Machine") (T := T_MC) ⟨hx, hb, hml, hown, hts⟩ (c_MC_move l D A ad cs Z tt fu s0 s63 f1 (by omega) b2 (by omega) p3 hc64) (cwV 3 hts (gd_V hw_361 hw_362 hw_363 hw_320 hw_364) rfl rfl rfl (by decide +kernel) ⟨Nat.le_of_ble_eq_true rfl, Nat.le_of_ble_eq_true rfl⟩) hP hK hD hX hS (by decide) kc_Mach (by decide) rfl rfl hl.1 rfl (Nat.le_of_ble_eq_true rfl) d_MC_wayOn_227 (fun H locs hP hS => ?_)
                                            exact hj230 s63 0 h _ _ _ hP hS (lv_sub hl [2, 3, 4, 0] rfl)
                                          · replace h := xw_ifF hc21 h
                                            by_cases hc22 : p3 = 24
                                            · replace h := xw_ifT hc22 h
                                              refine lv_tableIn (off := 219) (tgt := 223) hx hb d_MC_wayOn_4 (by rw [hc22]; decide) (by rw [hc22]; decide) (by rw [hc22]; decide) (by decide) ?_
                                              refine lv_aload_n hx hb d_MC_wayOn_223 rfl (lv_at hl 1 rfl) ?_
                                              refine lv_aload_n hx hb d_MC_wayOn_224 rfl (lv_at hl 2 rfl) ?_
                                              refine lv_aload_n hx hb d_MC_wayOn_225 rfl (lv_at hl 3 rfl) ?_
                                              refine lv_iload_n hx hb d_MC_wayOn_226 rfl (lv_at hl 4 rfl) ?_
                                              obtain ⟨s60, hc61, h⟩ := xw_bndI h
                                              refine xw_callVv (C := "AdviceWeaver$Machine") (T := T_MC) ⟨hx, hb, hml, hown, hts⟩ (c_MC_move l D A ad cs Z tt fu s0 s60 f1 (by omega) b2 (by omega) p3 hc61) (cwV 3 hts (gd_V hw_361 hw_362 hw_363 hw_320 hw_364) rfl rfl rfl (by decide +kernel) ⟨Nat.le_of_ble_eq_true rfl, Nat.le_of_ble_eq_true rfl⟩) hP hK hD hX hS (by decide) kc_Mach (by decide) rfl rfl hl.1 rfl (Nat.le_of_ble_eq_true rfl) d_MC_wayOn_227 (fun H locs hP hS => ?_)
                                              exact hj230 s60 0 h _ _ _ hP hS (lv_sub hl [2, 3, 4, 0] rfl)
                                            · replace h := xw_ifF hc22 h
                                              by_cases hc23 : p3 = 25
                                              · replace h := xw_ifT hc23 h
                                                refine lv_tableIn (off := 219) (tgt := 223) hx hb d_MC_wayOn_4 (by rw [hc23]; decide) (by rw [hc23]; decide) (by rw [hc23]; decide) (by decide) ?_
                                                refine lv_aload_n hx hb d_MC_wayOn_223 rfl (lv_at hl 1 rfl) ?_
                                                refine lv_aload_n hx hb d_MC_wayOn_224 rfl (lv_at hl 2 rfl) ?_
                                                refine lv_aload_n hx hb d_MC_wayOn_225 rfl (lv_at hl 3 rfl) ?_
                                                refine lv_iload_n hx hb d_MC_wayOn_226 rfl (lv_at hl 4 rfl) ?_
                                                obtain ⟨s57, hc58, h⟩ := xw_bndI h
                                                refine xw_callVv (C := "AdviceWeaver$Machine") (T := T_MC) ⟨hx, hb, hml, hown, hts⟩ (c_MC_move l D A ad cs Z tt fu s0 s57 f1 (by omega) b2 (by omega) p3 hc58) (cwV 3 hts (gd_V hw_361 hw_362 hw_363 hw_320 hw_364) rfl rfl rfl (by decide +kernel) ⟨Nat.le_of_ble_eq_true rfl, Nat.le_of_ble_eq_true rfl⟩) hP hK hD hX hS (by decide) kc_Mach (by decide) rfl rfl hl.1 rfl (Nat.le_of_ble_eq_true rfl) d_MC_wayOn_227 (fun H locs hP hS => ?_)
                                                exact hj230 s57 0 h _ _ _ hP hS (lv_sub hl [2, 3, 4, 0] rfl)
                                              · replace h := xw_ifF hc23 h
                                                by_cases hc24 : p3 = 26
                                                · replace h := xw_ifT hc24 h
                                                  refine lv_tableIn (off := 219) (tgt := 223) hx hb d_MC_wayOn_4 (by rw [hc24]; decide) (by rw [hc24]; decide) (by rw [hc24]; decide) (by decide) ?_
                                                  refine lv_aload_n hx hb d_MC_wayOn_223 rfl (lv_at hl 1 rfl) ?_
                                                  refine lv_aload_n hx hb d_MC_wayOn_224 rfl (lv_at hl 2 rfl) ?_
                                                  refine lv_aload_n hx hb d_MC_wayOn_225 rfl (lv_at hl 3 rfl) ?_
                                                  refine lv_iload_n hx hb d_MC_wayOn_226 rfl (lv_at hl 4 rfl) ?_
                                                  obtain ⟨s54, hc55, h⟩ := xw_bndI h
                                                  refine xw_callVv (C := "AdviceWeaver$Machine") (T := T_MC) ⟨hx, hb, hml, hown, hts⟩ (c_MC_move l D A ad cs Z tt fu s0 s54 f1 (by omega) b2 (by omega) p3 hc55) (cwV 3 hts (gd_V hw_361 hw_362 hw_363 hw_320 hw_364) rfl rfl rfl (by decide +kernel) ⟨Nat.le_of_ble_eq_true rfl, Nat.le_of_ble_eq_true rfl⟩) hP hK hD hX hS (by decide) kc_Mach (by decide) rfl rfl hl.1 rfl (Nat.le_of_ble_eq_true rfl) d_MC_wayOn_227 (fun H locs hP hS => ?_)
                                                  exact hj230 s54 0 h _ _ _ hP hS (lv_sub hl [2, 3, 4, 0] rfl)
                                                · replace h := xw_ifF hc24 h
                                                  by_cases hc25 : p3 = 27
                                                  · replace h := xw_ifT hc25 h
                                                    refine lv_tableIn (off := 219) (tgt := 223) hx hb d_MC_wayOn_4 (by rw [hc25]; decide) (by rw [hc25]; decide) (by rw [hc25]; decide) (by decide) ?_
                                                    refine lv_aload_n hx hb d_MC_wayOn_223 rfl (lv_at hl 1 rfl) ?_
                                                    refine lv_aload_n hx hb d_MC_wayOn_224 rfl (lv_at hl 2 rfl) ?_
                                                    refine lv_aload_n hx hb d_MC_wayOn_225 rfl (lv_at hl 3 rfl) ?_
                                                    refine lv_iload_n hx hb d_MC_wayOn_226 rfl (lv_at hl 4 rfl) ?_
                                                    obtain ⟨s51, hc52, h⟩ := xw_bndI h
                                                    refine xw_callVv (C := "AdviceWeaver$Machine") (T := T_MC) ⟨hx, hb, hml, hown, hts⟩ (c_MC_move l D A ad cs Z tt fu s0 s51 f1 (by omega) b2 (by omega) p3 hc52) (cwV 3 hts (gd_V hw_361 hw_362 hw_363 hw_320 hw_364) rfl rfl rfl (by decide +kernel) ⟨Nat.le_of_ble_eq_true rfl, Nat.le_of_ble_eq_true rfl⟩) hP hK hD hX hS (by decide) kc_Mach (by decide) rfl rfl hl.1 rfl (Nat.le_of_ble_eq_true rfl) d_MC_wayOn_227 (fun H locs hP hS => ?_)
                                                    exact hj230 s51 0 h _ _ _ hP hS (lv_sub hl [2, 3, 4, 0] rfl)
                                                  · replace h := xw_ifF hc25 h
                                                    by_cases hc26 : p3 = 28
                                                    · replace h := xw_ifT hc26 h
                                                      refine lv_tableIn (off := 219) (tgt := 223) hx hb d_MC_wayOn_4 (by rw [hc26]; decide) (by rw [hc26]; decide) (by rw [hc26]; decide) (by decide) ?_
                                                      refine lv_aload_n hx hb d_MC_wayOn_223 rfl (lv_at hl 1 rfl) ?_
                                                      refine lv_aload_n hx hb d_MC_wayOn_224 rfl (lv_at hl 2 rfl) ?_
                                                      refine lv_aload_n hx hb d_MC_wayOn_225 rfl (lv_at hl 3 rfl) ?_
                                                      refine lv_iload_n hx hb d_MC_wayOn_226 rfl (lv_at hl 4 rfl) ?_
                                                      obtain ⟨s48, hc49, h⟩ := xw_bndI h
                                                      refine xw_callVv (C := "AdviceWeaver$Machine") (T := T_MC) ⟨hx, hb, hml, hown, hts⟩ (c_MC_move l D A ad cs Z tt fu s0 s48 f1 (by omega) b2 (by omega) p3 hc49) (cwV 3 hts (gd_V hw_361 hw_362 hw_363 hw_320 hw_364) rfl rfl rfl (by decide +kernel) ⟨Nat.le_of_ble_eq_true rfl, Nat.le_of_ble_eq_true rfl⟩) hP hK hD hX hS (by decide) kc_Mach (by decide) rfl rfl hl.1 rfl (Nat.le_of_ble_eq_true rfl) d_MC_wayOn_227 (fun H locs hP hS => ?_)
                                                      exact hj230 s48 0 h _ _ _ hP hS (lv_sub hl [2, 3, 4, 0] rfl)
                                                    · replace h := xw_ifF hc26 h
                                                      by_cases hc27 : p3 = 29
                                                      · replace h := xw_ifT hc27 h
                                                        refine lv_tableIn (off := 219) (tgt := 223) hx hb d_MC_wayOn_4 (by rw [hc27]; decide) (by rw [hc27]; decide) (by rw [hc27]; decide) (by decide) ?_
                                                        refine lv_aload_n hx hb d_MC_wayOn_223 rfl (lv_at hl 1 rfl) ?_
                                                        refine lv_aload_n hx hb d_MC_wayOn_224 rfl (lv_at hl 2 rfl) ?_
                                                        refine lv_aload_n hx hb d_MC_wayOn_225 rfl (lv_at hl 3 rfl) ?_
                                                        refine lv_iload_n hx hb d_MC_wayOn_226 rfl (lv_at hl 4 rfl) ?_
                                                        obtain ⟨s45, hc46, h⟩ := xw_bndI h
                                                        refine xw_callVv (C := "AdviceWeaver$Machine") (T := T_MC) ⟨hx, hb, hml, hown, hts⟩ (c_MC_move l D A ad cs Z tt fu s0 s45 f1 (by omega) b2 (by omega) p3 hc46) (cwV 3 hts (gd_V hw_361 hw_362 hw_363 hw_320 hw_364) rfl rfl rfl (by decide +kernel) ⟨Nat.le_of_ble_eq_true rfl, Nat.le_of_ble_eq_true rfl⟩) hP hK hD hX hS (by decide) kc_Mach (by decide) rfl rfl hl.1 rfl (Nat.le_of_ble_eq_true rfl) d_MC_wayOn_227 (fun H locs hP hS => ?_)
                                                        exact hj230 s45 0 h _ _ _ hP hS (lv_sub hl [2, 3, 4, 0] rfl)
                                                      · replace h := xw_ifF hc27 h
                                                        by_cases hc28 : p3 = 30
                                                        · replace h := xw_ifT hc28 h
                                                          refine lv_tableIn (off := 177) (tgt := 181) hx hb d_MC_wayOn_4 (by rw [hc28]; decide) (by rw [hc28]; decide) (by rw [hc28]; decide) (by decide) ?_
                                                          refine lv_aload_n hx hb d_MC_wayOn_181 rfl (lv_at hl 1 rfl) ?_
                                                          refine lv_aload_n hx hb d_MC_wayOn_182 rfl (lv_at hl 2 rfl) ?_
                                                          refine xw_getI (C := "AdviceWeaver$Frame") (T := T_FR) hx hb hts hin_FR hown hK hP (by omega) (kc_Frame f1 (by omega)) (by decide) rfl 3 (by decide) (hts _ hw_330) (fun _ h9 => h9) rfl d_MC_wayOn_183 ?_
                                                          refine lv_aload_n hx hb d_MC_wayOn_186 rfl (lv_at hl 3 rfl) ?_
                                                          refine lv_aload_n hx hb d_MC_wayOn_187 rfl (lv_at hl 2 rfl) ?_
                                                          refine xw_getI (C := "AdviceWeaver$Frame") (T := T_FR) hx hb hts hin_FR hown hK hP (by omega) (kc_Frame f1 (by omega)) (by decide) rfl 4 (by decide) (hts _ hw_326) (fun _ h9 => h9) rfl d_MC_wayOn_188 ?_
                                                          refine lv_iconst (v := xw_i 1) hx hb d_MC_wayOn_191 rfl ?_
                                                          refine xw_iadd hx hb d_MC_wayOn_192 ?_
                                                          obtain ⟨s39, r41, hc40, h⟩ := xw_bn2I h
                                                          refine xw_callVi (C := "AdviceWeaver$Body") (T := T_B) ⟨hx, hb, hml, hown, hts⟩ (c_B_byteAt l D A ad cs Z tt fu s0 s39 b2 (by omega) ((s0.1 (24 + 3 * f1) 4) + 1) r41 hc40) (cwV 1 hts (gd_V hw_347 hw_57 hw_58 hw_25 hw_59) rfl rfl rfl (by decide +kernel) ⟨Nat.le_of_ble_eq_true rfl, Nat.le_of_ble_eq_true rfl⟩) hP hK hD hX hS (by omega) (kc_Body b2 (by omega)) (by decide) rfl rfl hl.1 rfl (Nat.le_of_ble_eq_true rfl) d_MC_wayOn_193 (fun H locs hP hS => ?_)
                                                          obtain ⟨s42, hc43, h⟩ := xw_bndI h
                                                          refine xw_callVv (C := "AdviceWeaver$Machine") (T := T_MC) ⟨hx, hb, hml, hown, hts⟩ (c_MC_noteMark l D A ad cs Z tt fu s39 s42 (s0.1 (24 + 3 * f1) 3) r41 hc43) (cwV 2 hts (gd_V hw_369 hw_370 hw_371 hw_320 hw_372) rfl rfl rfl (by decide +kernel) ⟨Nat.le_of_ble_eq_true rfl, Nat.le_of_ble_eq_true rfl⟩) hP hK hD hX hS (by decide) kc_Mach (by decide) rfl rfl hl.1 rfl (Nat.le_of_ble_eq_true rfl) d_MC_wayOn_196 (fun H locs hP hS => ?_)
                                                          refine lv_goto (tgt := 230) hx hb d_MC_wayOn_199 (by decide) ?_
                                                          exact hj230 s42 0 h _ _ _ hP hS (lv_sub hl [2, 3, 4, 0] rfl)
                                                        · replace h := xw_ifF hc28 h
                                                          by_cases hc29 : p3 = 31
                                                          · replace h := xw_ifT hc29 h
                                                            refine lv_tableIn (off := 198) (tgt := 202) hx hb d_MC_wayOn_4 (by rw [hc29]; decide) (by rw [hc29]; decide) (by rw [hc29]; decide) (by decide) ?_
                                                            refine lv_aload_n hx hb d_MC_wayOn_202 rfl (lv_at hl 1 rfl) ?_
                                                            refine lv_aload_n hx hb d_MC_wayOn_203 rfl (lv_at hl 2 rfl) ?_
                                                            refine xw_getI (C := "AdviceWeaver$Frame") (T := T_FR) hx hb hts hin_FR hown hK hP (by omega) (kc_Frame f1 (by omega)) (by decide) rfl 3 (by decide) (hts _ hw_330) (fun _ h9 => h9) rfl d_MC_wayOn_204 ?_
                                                            refine lv_aload_n hx hb d_MC_wayOn_207 rfl (lv_at hl 3 rfl) ?_
                                                            refine lv_aload_n hx hb d_MC_wayOn_208 rfl (lv_at hl 2 rfl) ?_
                                                            refine xw_getI (C := "AdviceWeaver$Frame") (T := T_FR) hx hb hts hin_FR hown hK hP (by omega) (kc_Frame f1 (by omega)) (by decide) rfl 4 (by decide) (hts _ hw_326) (fun _ h9 => h9) rfl d_MC_wayOn_209 ?_
                                                            refine lv_iconst (v := xw_i 1) hx hb d_MC_wayOn_212 rfl ?_
                                                            refine xw_iadd hx hb d_MC_wayOn_213 ?_
                                                            obtain ⟨s33, r35, hc34, h⟩ := xw_bn2I h
                                                            refine xw_callVi (C := "AdviceWeaver$Body") (T := T_B) ⟨hx, hb, hml, hown, hts⟩ (c_B_byteAt l D A ad cs Z tt fu s0 s33 b2 (by omega) ((s0.1 (24 + 3 * f1) 4) + 1) r35 hc34) (cwV 1 hts (gd_V hw_347 hw_57 hw_58 hw_25 hw_59) rfl rfl rfl (by decide +kernel) ⟨Nat.le_of_ble_eq_true rfl, Nat.le_of_ble_eq_true rfl⟩) hP hK hD hX hS (by omega) (kc_Body b2 (by omega)) (by decide) rfl rfl hl.1 rfl (Nat.le_of_ble_eq_true rfl) d_MC_wayOn_214 (fun H locs hP hS => ?_)
                                                            obtain ⟨s36, hc37, h⟩ := xw_bndI h
                                                            refine xw_callVv (C := "AdviceWeaver$Machine") (T := T_MC) ⟨hx, hb, hml, hown, hts⟩ (c_MC_noteProbe l D A ad cs Z tt fu s33 s36 (s0.1 (24 + 3 * f1) 3) r35 hc37) (cwV 2 hts (gd_V hw_365 hw_366 hw_367 hw_320 hw_368) rfl rfl rfl (by decide +kernel) ⟨Nat.le_of_ble_eq_true rfl, Nat.le_of_ble_eq_true rfl⟩) hP hK hD hX hS (by decide) kc_Mach (by decide) rfl rfl hl.1 rfl (Nat.le_of_ble_eq_true rfl) d_MC_wayOn_217 (fun H locs hP hS => ?_)
                                                            refine lv_goto (tgt := 230) hx hb d_MC_wayOn_220 (by decide) ?_
                                                            exact hj230 s36 0 h _ _ _ hP hS (lv_sub hl [2, 3, 4, 0] rfl)
                                                          · replace h := xw_ifF hc29 h
                                                            refine lv_tableOut (tgt := 223) hx hb d_MC_wayOn_4 (by rw [xw_toInt hg1]; omega) (by decide) ?_
                                                            refine lv_aload_n hx hb d_MC_wayOn_223 rfl (lv_at hl 1 rfl) ?_
                                                            refine lv_aload_n hx hb d_MC_wayOn_224 rfl (lv_at hl 2 rfl) ?_
                                                            refine lv_aload_n hx hb d_MC_wayOn_225 rfl (lv_at hl 3 rfl) ?_
                                                            refine lv_iload_n hx hb d_MC_wayOn_226 rfl (lv_at hl 4 rfl) ?_
                                                            obtain ⟨s30, hc31, h⟩ := xw_bndI h
                                                            refine xw_callVv (C := "AdviceWeaver$Machine") (T := T_MC) ⟨hx, hb, hml, hown, hts⟩ (c_MC_move l D A ad cs Z tt fu s0 s30 f1 (by omega) b2 (by omega) p3 hc31) (cwV 3 hts (gd_V hw_361 hw_362 hw_363 hw_320 hw_364) rfl rfl rfl (by decide +kernel) ⟨Nat.le_of_ble_eq_true rfl, Nat.le_of_ble_eq_true rfl⟩) hP hK hD hX hS (by decide) kc_Mach (by decide) rfl rfl hl.1 rfl (Nat.le_of_ble_eq_true rfl) d_MC_wayOn_227 (fun H locs hP hS => ?_)
                                                            exact hj230 s30 0 h _ _ _ hP hS (lv_sub hl [2, 3, 4, 0] rfl)
def f_MC_advance (fu : Nat) (s0 : xw_S) (a1 : Nat) : Option xw_S :=
 xw_grd ((0 ≤ (s0.1 17 3) - 1 ∧ (s0.1 17 3) - 1 < ((8 : Nat) : Int))) (xw_grd ((0 ≤ s0.1 (24 + 3 * (((s0.1 17 3) - 1).toNat)) 3 ∧ s0.1 (24 + 3 * (((s0.1 17 3) - 1).toNat)) 3 < ((4 : Nat) : Int))) (xw_bn2 (f_B_byteAt fu s0 (4 * a1 + (s0.1 (24 + 3 * (((s0.1 17 3) - 1).toNat)) 3).toNat) (s0.1 (24 + 3 * (((s0.1 17 3) - 1).toNat)) 4)) (fun s3 r5 => xw_bn2 (f_OP_isWovenOnly fu s3 r5) (fun s6 r8 => xw_jn (fun (s18 : xw_S) (f2_65 : Nat) (f3_65 : Nat) (i4_65 : Int) => xw_grd (xw_r i4_65) (xw_if (i4_65 = 7) (xw_bnd (f_MC_divide fu s18 f2_65 a1) (fun s54 => some s54))
 (xw_if (i4_65 = 13) (xw_bn2 (f_B_byteAt fu s18 f3_65 ((s18.1 (24 + 3 * f2_65) 4) + 1)) (fun s48 r50 => xw_bnd (f_MC_enter fu s48 f2_65 r50 a1) (fun s51 => some s51)))
 (xw_if (i4_65 = 14) (xw_bn2 (f_FR_pop fu s18 f2_65) (fun s42 r44 => xw_bnd (f_MC_giveBack fu s42 r44) (fun s45 => some s45)))
 (xw_if (i4_65 = 15) (xw_bn2 (f_FR_pop fu s18 f2_65) (fun s36 r38 => xw_bnd (f_MC_raise fu s36 r38 a1) (fun s39 => some s39)))
 (xw_if (i4_65 = 32) (xw_bn2 (f_FR_pop fu s18 f2_65) (fun s30 r32 => xw_bnd (f_MC_raise fu s30 r32 a1) (fun s33 => some s33)))
 (xw_bn2 (f_MC_wayOn fu s18 f2_65 f3_65 i4_65) (fun s25 r27 => xw_let (xw_st s25 (24 + 3 * f2_65) 4 ((s18.1 (24 + 3 * f2_65) 4) + r27)) (fun s28 => some s28)))))))))
 (fun (j65 : xw_S → Nat → Nat → Int → Option xw_S) => xw_grd (xw_r r8) (xw_if (r8 = 0) (xw_grd (xw_r (s6.1 17 7) ∧ xw_r (s6.1 17 4)) (xw_if (s6.1 17 7 < s6.1 17 4) (xw_let (xw_st s6 17 7 ((s6.1 17 7) + 1)) (fun s13 => j65 s13 (((s0.1 17 3) - 1).toNat) (4 * a1 + (s0.1 (24 + 3 * (((s0.1 17 3) - 1).toNat)) 3).toNat) r5))
 (xw_bnd (f_MC_end fu s6 2 0) (fun s15 => some s15))))
 (j65 s6 (((s0.1 17 3) - 1).toNat) (4 * a1 + (s0.1 (24 + 3 * (((s0.1 17 3) - 1).toNat)) 3).toNat) r5)))))))
set_option maxRecDepth 100000 in
set_option maxHeartbeats 4000000 in
theorem c_MC_advance (l : Launch) (D : va_G) (A : Nat → Prop) (ad : Nat → Nat) (cs : Nat → ClassId) (Z : va_W) (tt : Nat → Nat) (fu : Nat) (s0 sZ : xw_S) (a1 : Nat) (hb_a1 : a1 < 3) (h : f_MC_advance fu s0 a1 = some sZ) : Met l y_MC_advance w_MC_advance ({ frames := 4, cells := 0, slots := 0, locals := 95 }) (va_Pc [.ref (ad 17), .ref (ad (3 + a1))] (xw_H D vwCl A kdC 100 ad cs Z tt s0)) (va_Qv (fun u => u = sZ) (xw_H D vwCl A kdC 100 ad cs Z tt) A) 0 0 A := by
  refine Met.ofW (cc := b_MC_advance) (maxL := 5) (ret := none) (by decide) rfl ?_
  intro p e s m args below meth c s₁ B hml hv
  obtain ⟨rfl, hP, hK, hD, hX⟩ := hv
  have hx := B.exec
  have hb := B.bytes
  have hr := B.returns
  have hts0 := atoms_spec (ws := w_MC_advance) B.pre
  have hts := fun w (hw : w ∈ wAll) => hts0 w (List.mem_cons_of_mem _ hw)
  have hown : s.vm.findClass "AdviceWeaver$Machine" = some m.cls := findClass_of_methodNamed B.named
  have hlk := B.notSynchronized
  clear hts0 B
  have hS : va_S A s.heap s.heap [] := va_S.rf
  have hl := lv_entry [.ref (ad 17), .ref (ad (3 + a1))] (n := 5) (Nat.le_of_ble_eq_true rfl)
  rw [lg_entry_eq]
  generalize (lg_sl [.ref (ad 17), .ref (ad (3 + a1))] ++ List.replicate (5 - (lg_sl [.ref (ad 17), .ref (ad (3 + a1))]).length) Slot.unset).toArray = ls at hl ⊢
  have hl : lv_has ls 5 [(0, .ref (ad 17)), (1, .ref (ad (3 + a1)))] := hl
  unfold f_MC_advance at h
  refine lv_aload_n hx hb d_MC_advance_0 rfl (lv_at hl 0 rfl) ?_
  refine xw_getR (C := "AdviceWeaver$Machine") (T := T_MC) hx hb hts hin_MC hown hK hP (by decide) kc_Mach (by decide) rfl 0 (by decide) (hts _ hw_312) (fun _ h9 => h9) rfl d_MC_advance_1 ?_
  refine lv_aload_n hx hb d_MC_advance_4 rfl (lv_at hl 0 rfl) ?_
  refine xw_getI (C := "AdviceWeaver$Machine") (T := T_MC) hx hb hts hin_MC hown hK hP (by decide) kc_Mach (by decide) rfl 3 (by decide) (hts _ hw_305) (fun _ h9 => h9) rfl d_MC_advance_5 ?_
  refine lv_iconst (v := xw_i 1) hx hb d_MC_advance_8 rfl ?_
  refine xw_isub hx hb d_MC_advance_9 ?_
  obtain ⟨hg1, h⟩ := xw_grdI h
  refine xw_aald25 (r := 24 + 3 * (((s0.1 17 3) - 1).toNat)) hx hb hK hP (by decide) kc_FrameArr (by decide) hg1 (kc_FrameArrE _ (by omega)) d_MC_advance_10 ?_
  refine lv_astore_n hx hb d_MC_advance_11 rfl hl (by decide) rfl (fun ls hl => ?_)
  refine lv_aload_n hx hb d_MC_advance_12 rfl (lv_at hl 2 rfl) ?_
  refine lv_aload_n hx hb d_MC_advance_13 rfl (lv_at hl 0 rfl) ?_
  refine xw_getI (C := "AdviceWeaver$Frame") (T := T_FR) hx hb hts hin_FR hown hK hP (by omega) (kc_Frame (((s0.1 17 3) - 1).toNat) (by omega)) (by decide) rfl 3 (by decide) (hts _ hw_330) (fun _ h9 => h9) rfl d_MC_advance_14 ?_
  obtain ⟨hg2, h⟩ := xw_grdI h
  refine xw_aald23 (r := 48 + 4 * (4 * a1 + (s0.1 (24 + 3 * (((s0.1 17 3) - 1).toNat)) 3).toNat)) hx hb hK hP (by omega) (kc_BodyArr a1 (by omega)) (by decide) hg2 (kc_BodyArrE a1 _ (by omega) (by omega)) d_MC_advance_17 ?_
  refine lv_astore_n hx hb d_MC_advance_18 rfl hl (by decide) rfl (fun ls hl => ?_)
  refine lv_aload_n hx hb d_MC_advance_19 rfl (lv_at hl 0 rfl) ?_
  refine lv_aload_n hx hb d_MC_advance_20 rfl (lv_at hl 1 rfl) ?_
  refine xw_getI (C := "AdviceWeaver$Frame") (T := T_FR) hx hb hts hin_FR hown hK hP (by omega) (kc_Frame (((s0.1 17 3) - 1).toNat) (by omega)) (by decide) rfl 4 (by decide) (hts _ hw_326) (fun _ h9 => h9) rfl d_MC_advance_21 ?_
  obtain ⟨s3, r5, hc4, h⟩ := xw_bn2I h
  refine xw_callVi (C := "AdviceWeaver$Body") (T := T_B) ⟨hx, hb, hml, hown, hts⟩ (c_B_byteAt l D A ad cs Z tt fu s0 s3 (4 * a1 + (s0.1 (24 + 3 * (((s0.1 17 3) - 1).toNat)) 3).toNat) (by omega) (s0.1 (24 + 3 * (((s0.1 17 3) - 1).toNat)) 4) r5 hc4) (cwV 1 hts (gd_V hw_347 hw_57 hw_58 hw_25 hw_59) rfl rfl rfl (by decide +kernel) ⟨Nat.le_of_ble_eq_true rfl, Nat.le_of_ble_eq_true rfl⟩) hP hK hD hX hS (by omega) (kc_Body (4 * a1 + (s0.1 (24 + 3 * (((s0.1 17 3) - 1).toNat)) 3).toNat) (by omega)) (by decide) rfl rfl hl.1 rfl (Nat.le_of_ble_eq_true rfl) d_MC_advance_24 (fun H locs hP hS => ?_)
  refine lv_istore hx hb d_MC_advance_27 hl (by decide) rfl (fun ls hl => ?_)
  refine lv_iload hx hb d_MC_advance_29 (lv_at hl 0 rfl) ?_
  obtain ⟨s6, r8, hc7, h⟩ := xw_bn2I h
  refine xw_callSi ⟨hx, hb, hml, hown, hts⟩ (c_OP_isWovenOnly l D A ad cs Z tt fu s3 s6 r5 r8 hc7) (va_cwS 1 hts (gd_S hw_378 hw_68 hw_48 hw_69) rfl rfl rfl (by decide +kernel) ⟨Nat.le_of_ble_eq_true rfl, Nat.le_of_ble_eq_true rfl⟩) hP hK hD hX hS rfl hl.1 rfl (Nat.le_of_ble_eq_true rfl) d_MC_advance_31 (fun H locs hP hS => ?_)
  refine xw_jnI (fun j => ∀ (sq : xw_S) (f2_65 : Nat) (f3_65 : Nat) (i4_65 : Int), f2_65 < 8 → f3_65 < 13 → j sq f2_65 f3_65 i4_65 = some sZ → ∀ (H : Heap) (locs : List Loc) (ls : Array Slot), va_P D vwCl (xw_ws kdC 100 ad cs Z sq) H → va_S A s.heap H locs → lv_has ls 5 [(0, .ref (ad 17)), (1, .ref (ad (3 + a1))), (2, .ref (ad (24 + 3 * f2_65))), (3, .ref (ad (48 + 4 * f3_65))), (4, .int (xw_i i4_65))] → W p l e (headSpec w_MC_advance ({ frames := 4, cells := 0, slots := 0, locals := 95 })).room s m [.ref (ad 17), .ref (ad (3 + a1))].toArray below meth c H locs 0 0 (MQ below (va_Qv (fun u => u = sZ) (xw_H D vwCl A kdC 100 ad cs Z tt) A) [.ref (ad 17), .ref (ad (3 + a1))].toArray s 0 0 A) (F0 m 65 ls [])) h ?_ ?_
  · intro s18 f2_65 f3_65 i4_65 hb65_0 hb65_1 h H locs ls hP hS hl
    refine lv_iload hx hb d_MC_advance_65 (lv_at hl 4 rfl) ?_
    obtain ⟨hg19, h⟩ := xw_grdI h
    by_cases hc20 : i4_65 = 7
    · replace h := xw_ifT hc20 h
      refine lv_lookup (off := 91) (tgt := 158) hx hb d_MC_advance_67 (by decide) (by rw [hc20]; decide) (by decide) ?_
      refine lv_aload_n hx hb d_MC_advance_158 rfl (lv_at hl 0 rfl) ?_
      refine lv_aload_n hx hb d_MC_advance_159 rfl (lv_at hl 2 rfl) ?_
      refine lv_aload_n hx hb d_MC_advance_160 rfl (lv_at hl 1 rfl) ?_
      obtain ⟨s54, hc55, h⟩ := xw_bndI h
      refine xw_callVv (C := "AdviceWeaver$Machine") (T := T_MC) ⟨hx, hb, hml, hown, hts⟩ (c_MC_divide l D A ad cs Z tt fu s18 s54 f2_65 (by omega) a1 (by omega) hc55) (cwV 2 hts (gd_V hw_393 hw_394 hw_395 hw_320 hw_396) rfl rfl rfl (by decide +kernel) ⟨Nat.le_of_ble_eq_true rfl, Nat.le_of_ble_eq_true rfl⟩) hP hK hD hX hS (by decide) kc_Mach (by decide) rfl rfl hl.1 rfl (Nat.le_of_ble_eq_true rfl) d_MC_advance_161 (fun H locs hP hS => ?_)
      refine lv_goto (tgt := 184) hx hb d_MC_advance_164 (by decide) ?_
      exact xw_vretE hx hb hr hlk hP hK hD hX hS h d_MC_advance_184
    · replace h := xw_ifF hc20 h
      by_cases hc21 : i4_65 = 13
      · replace h := xw_ifT hc21 h
        refine lv_lookup (off := 49) (tgt := 116) hx hb d_MC_advance_67 (by decide) (by rw [hc21]; decide) (by decide) ?_
        refine lv_aload_n hx hb d_MC_advance_116 rfl (lv_at hl 0 rfl) ?_
        refine lv_aload_n hx hb d_MC_advance_117 rfl (lv_at hl 2 rfl) ?_
        refine lv_aload_n hx hb d_MC_advance_118 rfl (lv_at hl 3 rfl) ?_
        refine lv_aload_n hx hb d_MC_advance_119 rfl (lv_at hl 2 rfl) ?_
        refine xw_getI (C := "AdviceWeaver$Frame") (T := T_FR) hx hb hts hin_FR hown hK hP (by omega) (kc_Frame f2_65 (by omega)) (by decide) rfl 4 (by decide) (hts _ hw_326) (fun _ h9 => h9) rfl d_MC_advance_120 ?_
        refine lv_iconst (v := xw_i 1) hx hb d_MC_advance_123 rfl ?_
        refine xw_iadd hx hb d_MC_advance_124 ?_
        obtain ⟨s48, r50, hc49, h⟩ := xw_bn2I h
        refine xw_callVi (C := "AdviceWeaver$Body") (T := T_B) ⟨hx, hb, hml, hown, hts⟩ (c_B_byteAt l D A ad cs Z tt fu s18 s48 f3_65 (by omega) ((s18.1 (24 + 3 * f2_65) 4) + 1) r50 hc49) (cwV 1 hts (gd_V hw_347 hw_57 hw_58 hw_25 hw_59) rfl rfl rfl (by decide +kernel) ⟨Nat.le_of_ble_eq_true rfl, Nat.le_of_ble_eq_true rfl⟩) hP hK hD hX hS (by omega) (kc_Body f3_65 (by omega)) (by decide) rfl rfl hl.1 rfl (Nat.le_of_ble_eq_true rfl) d_MC_advance_125 (fun H locs hP hS => ?_)
        refine lv_aload_n hx hb d_MC_advance_128 rfl (lv_at hl 1 rfl) ?_
        obtain ⟨s51, hc52, h⟩ := xw_bndI h
        refine xw_callVv (C := "AdviceWeaver$Machine") (T := T_MC) ⟨hx, hb, hml, hown, hts⟩ (c_MC_enter l D A ad cs Z tt fu s48 s51 f2_65 (by omega) r50 a1 (by omega) hc52) (cwV 3 hts (gd_V hw_389 hw_390 hw_391 hw_320 hw_392) rfl rfl rfl (by decide +kernel) ⟨Nat.le_of_ble_eq_true rfl, Nat.le_of_ble_eq_true rfl⟩) hP hK hD hX hS (by decide) kc_Mach (by decide) rfl rfl hl.1 rfl (Nat.le_of_ble_eq_true rfl) d_MC_advance_129 (fun H locs hP hS => ?_)
        refine lv_goto (tgt := 184) hx hb d_MC_advance_132 (by decide) ?_
        exact xw_vretE hx hb hr hlk hP hK hD hX hS h d_MC_advance_184
      · replace h := xw_ifF hc21 h
        by_cases hc22 : i4_65 = 14
        · replace h := xw_ifT hc22 h
          refine lv_lookup (off := 68) (tgt := 135) hx hb d_MC_advance_67 (by decide) (by rw [hc22]; decide) (by decide) ?_
          refine lv_aload_n hx hb d_MC_advance_135 rfl (lv_at hl 0 rfl) ?_
          refine lv_aload_n hx hb d_MC_advance_136 rfl (lv_at hl 2 rfl) ?_
          obtain ⟨s42, r44, hc43, h⟩ := xw_bn2I h
          refine xw_callVi (C := "AdviceWeaver$Frame") (T := T_FR) ⟨hx, hb, hml, hown, hts⟩ (c_FR_pop l D A ad cs Z tt fu s18 s42 f2_65 (by omega) r44 hc43) (cwV 0 hts (gd_V hw_307 hw_308 hw_309 hw_310 hw_311) rfl rfl rfl (by decide +kernel) ⟨Nat.le_of_ble_eq_true rfl, Nat.le_of_ble_eq_true rfl⟩) hP hK hD hX hS (by omega) (kc_Frame f2_65 (by omega)) (by decide) rfl rfl hl.1 rfl (Nat.le_of_ble_eq_true rfl) d_MC_advance_137 (fun H locs hP hS => ?_)
          obtain ⟨s45, hc46, h⟩ := xw_bndI h
          refine xw_callVv (C := "AdviceWeaver$Machine") (T := T_MC) ⟨hx, hb, hml, hown, hts⟩ (c_MC_giveBack l D A ad cs Z tt fu s42 s45 r44 hc46) (cwV 1 hts (gd_V hw_385 hw_386 hw_387 hw_320 hw_388) rfl rfl rfl (by decide +kernel) ⟨Nat.le_of_ble_eq_true rfl, Nat.le_of_ble_eq_true rfl⟩) hP hK hD hX hS (by decide) kc_Mach (by decide) rfl rfl hl.1 rfl (Nat.le_of_ble_eq_true rfl) d_MC_advance_140 (fun H locs hP hS => ?_)
          refine lv_goto (tgt := 184) hx hb d_MC_advance_143 (by decide) ?_
          exact xw_vretE hx hb hr hlk hP hK hD hX hS h d_MC_advance_184
        · replace h := xw_ifF hc22 h
          by_cases hc23 : i4_65 = 15
          · replace h := xw_ifT hc23 h
            refine lv_lookup (off := 79) (tgt := 146) hx hb d_MC_advance_67 (by decide) (by rw [hc23]; decide) (by decide) ?_
            refine lv_aload_n hx hb d_MC_advance_146 rfl (lv_at hl 0 rfl) ?_
            refine lv_aload_n hx hb d_MC_advance_147 rfl (lv_at hl 2 rfl) ?_
            obtain ⟨s36, r38, hc37, h⟩ := xw_bn2I h
            refine xw_callVi (C := "AdviceWeaver$Frame") (T := T_FR) ⟨hx, hb, hml, hown, hts⟩ (c_FR_pop l D A ad cs Z tt fu s18 s36 f2_65 (by omega) r38 hc37) (cwV 0 hts (gd_V hw_307 hw_308 hw_309 hw_310 hw_311) rfl rfl rfl (by decide +kernel) ⟨Nat.le_of_ble_eq_true rfl, Nat.le_of_ble_eq_true rfl⟩) hP hK hD hX hS (by omega) (kc_Frame f2_65 (by omega)) (by decide) rfl rfl hl.1 rfl (Nat.le_of_ble_eq_true rfl) d_MC_advance_148 (fun H locs hP hS => ?_)
            refine lv_aload_n hx hb d_MC_advance_151 rfl (lv_at hl 1 rfl) ?_
            obtain ⟨s39, hc40, h⟩ := xw_bndI h
            refine xw_callVv (C := "AdviceWeaver$Machine") (T := T_MC) ⟨hx, hb, hml, hown, hts⟩ (c_MC_raise l D A ad cs Z tt fu s36 s39 r38 a1 (by omega) hc40) (cwV 2 hts (gd_V hw_339 hw_340 hw_341 hw_320 hw_342) rfl rfl rfl (by decide +kernel) ⟨Nat.le_of_ble_eq_true rfl, Nat.le_of_ble_eq_true rfl⟩) hP hK hD hX hS (by decide) kc_Mach (by decide) rfl rfl hl.1 rfl (Nat.le_of_ble_eq_true rfl) d_MC_advance_152 (fun H locs hP hS => ?_)
            refine lv_goto (tgt := 184) hx hb d_MC_advance_155 (by decide) ?_
            exact xw_vretE hx hb hr hlk hP hK hD hX hS h d_MC_advance_184
          · replace h := xw_ifF hc23 h
            by_cases hc24 : i4_65 = 32
            · replace h := xw_ifT hc24 h
              refine lv_lookup (off := 79) (tgt := 146) hx hb d_MC_advance_67 (by decide) (by rw [hc24]; decide) (by decide) ?_
              refine lv_aload_n hx hb d_MC_advance_146 rfl (lv_at hl 0 rfl) ?_
              refine lv_aload_n hx hb d_MC_advance_147 rfl (lv_at hl 2 rfl) ?_
              obtain ⟨s30, r32, hc31, h⟩ := xw_bn2I h
              refine xw_callVi (C := "AdviceWeaver$Frame") (T := T_FR) ⟨hx, hb, hml, hown, hts⟩ (c_FR_pop l D A ad cs Z tt fu s18 s30 f2_65 (by omega) r32 hc31) (cwV 0 hts (gd_V hw_307 hw_308 hw_309 hw_310 hw_311) rfl rfl rfl (by decide +kernel) ⟨Nat.le_of_ble_eq_true rfl, Nat.le_of_ble_eq_true rfl⟩) hP hK hD hX hS (by omega) (kc_Frame f2_65 (by omega)) (by decide) rfl rfl hl.1 rfl (Nat.le_of_ble_eq_true rfl) d_MC_advance_148 (fun H locs hP hS => ?_)
              refine lv_aload_n hx hb d_MC_advance_151 rfl (lv_at hl 1 rfl) ?_
              obtain ⟨s33, hc34, h⟩ := xw_bndI h
              refine xw_callVv (C := "AdviceWeaver$Machine") (T := T_MC) ⟨hx, hb, hml, hown, hts⟩ (c_MC_raise l D A ad cs Z tt fu s30 s33 r32 a1 (by omega) hc34) (cwV 2 hts (gd_V hw_339 hw_340 hw_341 hw_320 hw_342) rfl rfl rfl (by decide +kernel) ⟨Nat.le_of_ble_eq_true rfl, Nat.le_of_ble_eq_true rfl⟩) hP hK hD hX hS (by decide) kc_Mach (by decide) rfl rfl hl.1 rfl (Nat.le_of_ble_eq_true rfl) d_MC_advance_152 (fun H locs hP hS => ?_)
              refine lv_goto (tgt := 184) hx hb d_MC_advance_155 (by decide) ?_
              exact xw_vretE hx hb hr hlk hP hK hD hX hS h d_MC_advance_184
            · replace h := xw_ifF hc24 h
              refine lv_lookup (off := 100) (tgt := 167) hx hb d_MC_advance_67 (by decide) (by rw [xw_toInt hg19]; simp [Op.lookupswitch.offset_cons, Op.lookupswitch.offset]; rw [if_neg (fun z => hc20 z.symm), if_neg (fun z => hc21 z.symm), if_neg (fun z => hc22 z.symm), if_neg (fun z => hc23 z.symm), if_neg (fun z => hc24 z.symm)]) (by decide) ?_
              refine lv_aload_n hx hb d_MC_advance_167 rfl (lv_at hl 2 rfl) ?_
              refine lv_dup hx hb d_MC_advance_168 rfl ?_
              refine xw_getI (C := "AdviceWeaver$Frame") (T := T_FR) hx hb hts hin_FR hown hK hP (by omega) (kc_Frame f2_65 (by omega)) (by decide) rfl 4 (by decide) (hts _ hw_326) (fun _ h9 => h9) rfl d_MC_advance_169 ?_
              refine lv_aload_n hx hb d_MC_advance_172 rfl (lv_at hl 0 rfl) ?_
              refine lv_aload_n hx hb d_MC_advance_173 rfl (lv_at hl 2 rfl) ?_
              refine lv_aload_n hx hb d_MC_advance_174 rfl (lv_at hl 3 rfl) ?_
              refine lv_iload hx hb d_MC_advance_175 (lv_at hl 4 rfl) ?_
              obtain ⟨s25, r27, hc26, h⟩ := xw_bn2I h
              refine xw_callVi (C := "AdviceWeaver$Machine") (T := T_MC) ⟨hx, hb, hml, hown, hts⟩ (c_MC_wayOn l D A ad cs Z tt fu s18 s25 f2_65 (by omega) f3_65 (by omega) i4_65 r27 hc26) (cwV 3 hts (gd_V hw_381 hw_382 hw_383 hw_320 hw_384) rfl rfl rfl (by decide +kernel) ⟨Nat.le_of_ble_eq_true rfl, Nat.le_of_ble_eq_true rfl⟩) hP hK hD hX hS (by decide) kc_Mach (by decide) rfl rfl hl.1 rfl (Nat.le_of_ble_eq_true rfl) d_MC_advance_177 (fun H locs hP hS => ?_)
              refine xw_iadd hx hb d_MC_advance_180 ?_
              refine xw_putI (C := "AdviceWeaver$Frame") (T := T_FR) hx hb hts hin_FR ty_FR ty_FR_ok nm_FR hown hK hP hD hS (by omega) (kc_Frame f2_65 (by omega)) (by decide) rfl 4 (by decide) (hts _ hw_326) (fun _ h9 => h9) rfl (by decide +kernel) rfl d_MC_advance_181 (fun s28 e29 H locs hP hS => ?_)
              replace h := xw_letI e29 h
              exact xw_vretE hx hb hr hlk hP hK hD hX hS h d_MC_advance_184
  · intro j65 hj65 h
    obtain ⟨hg9, h⟩ := xw_grdI h
    refine xw_if_ne (tgt := 65) hx hb hg9 d_MC_advance_34 (by decide) (fun hc10 => ?_) (fun hc10 => ?_)
    · replace h := xw_ifF hc10 h
      exact hj65 s6 (((s0.1 17 3) - 1).toNat) (4 * a1 + (s0.1 (24 + 3 * (((s0.1 17 3) - 1).toNat)) 3).toNat) r5 (by omega) (by omega) h _ _ _ hP hS (lv_sub hl [3, 4, 2, 1, 0] rfl)
    · replace h := xw_ifT hc10 h
      refine lv_aload_n hx hb d_MC_advance_37 rfl (lv_at hl 3 rfl) ?_
      refine xw_getI (C := "AdviceWeaver$Machine") (T := T_MC) hx hb hts hin_MC hown hK hP (by decide) kc_Mach (by decide) rfl 7 (by decide) (hts _ hw_379) (fun _ h9 => h9) rfl d_MC_advance_38 ?_
      refine lv_aload_n hx hb d_MC_advance_41 rfl (lv_at hl 3 rfl) ?_
      refine xw_getI (C := "AdviceWeaver$Machine") (T := T_MC) hx hb hts hin_MC hown hK hP (by decide) kc_Mach (by decide) rfl 4 (by decide) (hts _ hw_380) (fun _ h9 => h9) rfl d_MC_advance_42 ?_
      obtain ⟨hg11, h⟩ := xw_grdI h
      refine xw_icmp_lt (tgt := 55) hx hb hg11.1 hg11.2 d_MC_advance_45 (by decide) (fun hc12 => ?_) (fun hc12 => ?_)
      · replace h := xw_ifT hc12 h
        refine lv_aload_n hx hb d_MC_advance_55 rfl (lv_at hl 3 rfl) ?_
        refine lv_dup hx hb d_MC_advance_56 rfl ?_
        refine xw_getI (C := "AdviceWeaver$Machine") (T := T_MC) hx hb hts hin_MC hown hK hP (by decide) kc_Mach (by decide) rfl 7 (by decide) (hts _ hw_379) (fun _ h9 => h9) rfl d_MC_advance_57 ?_
        refine lv_iconst (v := xw_i 1) hx hb d_MC_advance_60 rfl ?_
        refine xw_iadd hx hb d_MC_advance_61 ?_
        refine xw_putI (C := "AdviceWeaver$Machine") (T := T_MC) hx hb hts hin_MC ty_MC ty_MC_ok nm_MC hown hK hP hD hS (by decide) kc_Mach (by decide) rfl 7 (by decide) (hts _ hw_379) (fun _ h9 => h9) rfl (by decide +kernel) rfl d_MC_advance_62 (fun s13 e14 H locs hP hS => ?_)
        replace h := xw_letI e14 h
        exact hj65 s13 (((s0.1 17 3) - 1).toNat) (4 * a1 + (s0.1 (24 + 3 * (((s0.1 17 3) - 1).toNat)) 3).toNat) r5 (by omega) (by omega) h _ _ _ hP hS (lv_sub hl [3, 4, 2, 1, 0] rfl)
      · replace h := xw_ifF hc12 h
        refine lv_aload_n hx hb d_MC_advance_48 rfl (lv_at hl 3 rfl) ?_
        refine lv_iconst (v := xw_i 2) hx hb d_MC_advance_49 rfl ?_
        refine lv_iconst (v := xw_i 0) hx hb d_MC_advance_50 rfl ?_
        obtain ⟨s15, hc16, h⟩ := xw_bndI h
        refine xw_callVv (C := "AdviceWeaver$Machine") (T := T_MC) ⟨hx, hb, hml, hown, hts⟩ (c_MC_end l D A ad cs Z tt fu s6 s15 2 0 hc16) (cwV 2 hts (gd_V hw_317 hw_318 hw_319 hw_320 hw_321) rfl rfl rfl (by decide +kernel) ⟨Nat.le_of_ble_eq_true rfl, Nat.le_of_ble_eq_true rfl⟩) hP hK hD hX hS (by decide) kc_Mach (by decide) rfl rfl hl.1 rfl (Nat.le_of_ble_eq_true rfl) d_MC_advance_51 (fun H locs hP hS => ?_)
        exact xw_vretE hx hb hr hlk hP hK hD hX hS h d_MC_advance_54
def lp_MC_execute_56 (fu : Nat) (a1 : Nat) (k82 : xw_S → Option (xw_S × Int)) : Nat → xw_S → Int → Option (xw_S × Int)
  | 0, _, _ => none
  | n + 1, s18, i6_56 =>
    xw_grd (xw_r i6_56) (xw_if (1000000 ≤ i6_56) (k82 s18)
     (xw_grd (xw_r (s18.1 17 5)) (xw_if (s18.1 17 5 = -1) (xw_bnd (f_MC_advance fu s18 a1) (fun s23 => xw_let (i6_56 + 1) (fun v26 => lp_MC_execute_56 fu a1 k82 n s23 v26)))
     (k82 s18))))
def f_MC_execute (fu : Nat) (s0 : xw_S) (a1 : Nat) (p2 : Int) (p3 : Int) (p4 : Int) (p5 : Int) : Option (xw_S × Int) :=
 xw_let (xw_st s0 17 4 p5) (fun s1 => xw_let (xw_st s1 17 7 0) (fun s3 => xw_let (xw_st s3 17 8 0) (fun s5 => xw_bnd (f_AR_fill fu s5 20 160 0) (fun s7 => xw_let (xw_st s7 17 5 (-1)) (fun s10 => xw_grd ((0 ≤ p2 ∧ p2 < ((4 : Nat) : Int))) (xw_bnd (f_FR_begin fu s10 ((0 : Int).toNat) p2 (s10.1 (48 + 4 * (4 * a1 + (p2).toNat)) 5) p3 p4) (fun s13 => xw_let (xw_st s13 17 3 1) (fun s16 => xw_jn (fun (s28 : xw_S) => some (s28, s28.1 17 5))
 (fun (k82 : xw_S → Option (xw_S × Int)) => lp_MC_execute_56 fu a1 k82 fu s16 0)))))))))
set_option maxRecDepth 100000 in
set_option maxHeartbeats 4000000 in
theorem c_MC_execute (l : Launch) (D : va_G) (A : Nat → Prop) (ad : Nat → Nat) (cs : Nat → ClassId) (Z : va_W) (tt : Nat → Nat) (fu : Nat) (s0 sZ : xw_S) (a1 : Nat) (hb_a1 : a1 < 3) (p2 : Int) (p3 : Int) (p4 : Int) (p5 : Int) (r0 : Int) (h : f_MC_execute fu s0 a1 p2 p3 p4 p5 = some (sZ, r0)) : Met l y_MC_execute w_MC_execute ({ frames := 5, cells := 0, slots := 0, locals := 119 }) (va_Pc [.ref (ad 17), .ref (ad (3 + a1)), .int (xw_i p2), .int (xw_i p3), .int (xw_i p4), .int (xw_i p5)] (xw_H D vwCl A kdC 100 ad cs Z tt s0)) (va_Qi (fun r u => r = xw_i r0 ∧ u = sZ) (xw_H D vwCl A kdC 100 ad cs Z tt) A) 0 0 A := by
  refine Met.ofW (cc := b_MC_execute) (maxL := 7) (ret := (some .int)) (by decide) rfl ?_
  intro p e s m args below meth c s₁ B hml hv
  obtain ⟨rfl, hP, hK, hD, hX⟩ := hv
  have hx := B.exec
  have hb := B.bytes
  have hr := B.returns
  have hts0 := atoms_spec (ws := w_MC_execute) B.pre
  have hts := fun w (hw : w ∈ wAll) => hts0 w (List.mem_cons_of_mem _ hw)
  have hown : s.vm.findClass "AdviceWeaver$Machine" = some m.cls := findClass_of_methodNamed B.named
  have hlk := B.notSynchronized
  clear hts0 B
  have hS : va_S A s.heap s.heap [] := va_S.rf
  have hl := lv_entry [.ref (ad 17), .ref (ad (3 + a1)), .int (xw_i p2), .int (xw_i p3), .int (xw_i p4), .int (xw_i p5)] (n := 7) (Nat.le_of_ble_eq_true rfl)
  rw [lg_entry_eq]
  generalize (lg_sl [.ref (ad 17), .ref (ad (3 + a1)), .int (xw_i p2), .int (xw_i p3), .int (xw_i p4), .int (xw_i p5)] ++ List.replicate (7 - (lg_sl [.ref (ad 17), .ref (ad (3 + a1)), .int (xw_i p2), .int (xw_i p3), .int (xw_i p4), .int (xw_i p5)]).length) Slot.unset).toArray = ls at hl ⊢
  have hl : lv_has ls 7 [(0, .ref (ad 17)), (1, .ref (ad (3 + a1))), (2, .int (xw_i p2)), (3, .int (xw_i p3)), (4, .int (xw_i p4)), (5, .int (xw_i p5))] := hl
  have hlp56 : ∀ (k82 : xw_S → Option (xw_S × Int)) (hk82 : ∀ (sq : xw_S), k82 sq = some (sZ, r0) → ∀ (H : Heap) (locs : List Loc) (ls : Array Slot), va_P D vwCl (xw_ws kdC 100 ad cs Z sq) H → va_S A s.heap H locs → lv_has ls 7 [(0, .ref (ad 17))] → W p l e (headSpec w_MC_execute ({ frames := 5, cells := 0, slots := 0, locals := 119 })).room s m [.ref (ad 17), .ref (ad (3 + a1)), .int (xw_i p2), .int (xw_i p3), .int (xw_i p4), .int (xw_i p5)].toArray below meth c H locs 0 0 (MQ below (va_Qi (fun r u => r = xw_i r0 ∧ u = sZ) (xw_H D vwCl A kdC 100 ad cs Z tt) A) [.ref (ad 17), .ref (ad (3 + a1)), .int (xw_i p2), .int (xw_i p3), .int (xw_i p4), .int (xw_i p5)].toArray s 0 0 A) (F0 m 82 ls [])) (n : Nat), ∀ (sq : xw_S) (i6_56 : Int), lp_MC_execute_56 fu a1 k82 n sq i6_56 = some (sZ, r0) → ∀ (H : Heap) (locs : List Loc) (ls : Array Slot), va_P D vwCl (xw_ws kdC 100 ad cs Z sq) H → va_S A s.heap H locs → lv_has ls 7 [(0, .ref (ad 17)), (1, .ref (ad (3 + a1))), (6, .int (xw_i i6_56))] → W p l e (headSpec w_MC_execute ({ frames := 5, cells := 0, slots := 0, locals := 119 })).room s m [.ref (ad 17), .ref (ad (3 + a1)), .int (xw_i p2), .int (xw_i p3), .int (xw_i p4), .int (xw_i p5)].toArray below meth c H locs 0 0 (MQ below (va_Qi (fun r u => r = xw_i r0 ∧ u = sZ) (xw_H D vwCl A kdC 100 ad cs Z tt) A) [.ref (ad 17), .ref (ad (3 + a1)), .int (xw_i p2), .int (xw_i p3), .int (xw_i p4), .int (xw_i p5)].toArray s 0 0 A) (F0 m 56 ls []) := by
    intro k82 hk82 n
    induction n with
    | zero =>
      intro sq i6_56 h
      cases (show (none : Option (xw_S × Int)) = some (sZ, r0) from h)
    | succ n ih56 =>
      intro s18 i6_56 h H locs ls hP hS hl
      unfold lp_MC_execute_56 at h
      refine lv_iload hx hb d_MC_execute_56 (lv_at hl 2 rfl) ?_
      refine lv_ldc (v := xw_i 1000000) hx hb hown (hts _ hw_398) d_MC_execute_58 ?_
      obtain ⟨hg19, h⟩ := xw_grdI h
      refine xw_icmp_ge (tgt := 82) hx hb hg19 (by decide) d_MC_execute_60 (by decide) (fun hc20 => ?_) (fun hc20 => ?_)
      · replace h := xw_ifT hc20 h
        exact hk82 s18 h _ _ _ hP hS (lv_sub hl [0] rfl)
      · replace h := xw_ifF hc20 h
        refine lv_aload_n hx hb d_MC_execute_63 rfl (lv_at hl 0 rfl) ?_
        refine xw_getI (C := "AdviceWeaver$Machine") (T := T_MC) hx hb hts hin_MC hown hK hP (by decide) kc_Mach (by decide) rfl 5 (by decide) (hts _ hw_302) (fun _ h9 => h9) rfl d_MC_execute_64 ?_
        refine lv_iconst (v := xw_i (-1)) hx hb d_MC_execute_67 rfl ?_
        obtain ⟨hg21, h⟩ := xw_grdI h
        refine xw_icmp_ne (tgt := 82) hx hb hg21 (by decide) d_MC_execute_68 (by decide) (fun hc22 => ?_) (fun hc22 => ?_)
        · replace h := xw_ifF hc22 h
          exact hk82 s18 h _ _ _ hP hS (lv_sub hl [0] rfl)
        · replace h := xw_ifT hc22 h
          refine lv_aload_n hx hb d_MC_execute_71 rfl (lv_at hl 0 rfl) ?_
          refine lv_aload_n hx hb d_MC_execute_72 rfl (lv_at hl 1 rfl) ?_
          obtain ⟨s23, hc24, h⟩ := xw_bndI h
          refine xw_callVv (C := "AdviceWeaver$Machine") (T := T_MC) ⟨hx, hb, hml, hown, hts⟩ (c_MC_advance l D A ad cs Z tt fu s18 s23 a1 (by omega) hc24) (cwV 1 hts (gd_V hw_399 hw_400 hw_401 hw_320 hw_402) rfl rfl rfl (by decide +kernel) ⟨Nat.le_of_ble_eq_true rfl, Nat.le_of_ble_eq_true rfl⟩) hP hK hD hX hS (by decide) kc_Mach (by decide) rfl rfl hl.1 rfl (Nat.le_of_ble_eq_true rfl) d_MC_execute_73 (fun H locs hP hS => ?_)
          obtain ⟨v26, e27⟩ : ∃ z, z = i6_56 + 1 := ⟨_, rfl⟩
          replace h := xw_letI e27 h
          refine xw_iinc (lv' := [(6, .int (xw_i v26)), (0, .ref (ad 17)), (1, .ref (ad (3 + a1)))]) hx hb d_MC_execute_76 hl (k := 2) rfl (by decide) (by rw [e27]; rfl) (fun ls hl => ?_)
          refine lv_goto (tgt := 56) hx hb d_MC_execute_79 (by decide) ?_
          exact ih56 s23 v26 h _ _ _ hP hS (lv_sub hl [1, 2, 0] rfl)
  unfold f_MC_execute at h
  refine lv_aload_n hx hb d_MC_execute_0 rfl (lv_at hl 0 rfl) ?_
  refine lv_iload hx hb d_MC_execute_1 (lv_at hl 5 rfl) ?_
  refine xw_putI (C := "AdviceWeaver$Machine") (T := T_MC) hx hb hts hin_MC ty_MC ty_MC_ok nm_MC hown hK hP hD hS (by decide) kc_Mach (by decide) rfl 4 (by decide) (hts _ hw_380) (fun _ h9 => h9) rfl (by decide +kernel) rfl d_MC_execute_3 (fun s1 e2 H locs hP hS => ?_)
  replace h := xw_letI e2 h
  refine lv_aload_n hx hb d_MC_execute_6 rfl (lv_at hl 0 rfl) ?_
  refine lv_iconst (v := xw_i 0) hx hb d_MC_execute_7 rfl ?_
  refine xw_putI (C := "AdviceWeaver$Machine") (T := T_MC) hx hb hts hin_MC ty_MC ty_MC_ok nm_MC hown hK hP hD hS (by decide) kc_Mach (by decide) rfl 7 (by decide) (hts _ hw_379) (fun _ h9 => h9) rfl (by decide +kernel) rfl d_MC_execute_8 (fun s3 e4 H locs hP hS => ?_)
  replace h := xw_letI e4 h
  refine lv_aload_n hx hb d_MC_execute_11 rfl (lv_at hl 0 rfl) ?_
  refine lv_iconst (v := xw_i 0) hx hb d_MC_execute_12 rfl ?_
  refine xw_putI (C := "AdviceWeaver$Machine") (T := T_MC) hx hb hts hin_MC ty_MC ty_MC_ok nm_MC hown hK hP hD hS (by decide) kc_Mach (by decide) rfl 8 (by decide) (hts _ hw_343) (fun _ h9 => h9) rfl (by decide +kernel) rfl d_MC_execute_13 (fun s5 e6 H locs hP hS => ?_)
  replace h := xw_letI e6 h
  refine lv_aload_n hx hb d_MC_execute_16 rfl (lv_at hl 0 rfl) ?_
  refine xw_getR (C := "AdviceWeaver$Machine") (T := T_MC) hx hb hts hin_MC hown hK hP (by decide) kc_Mach (by decide) rfl 2 (by decide) (hts _ hw_345) (fun _ h9 => h9) rfl d_MC_execute_17 ?_
  refine lv_iconst (v := xw_i 0) hx hb d_MC_execute_20 rfl ?_
  obtain ⟨s7, hc8, h⟩ := xw_bndI h
  refine xw_callSv ⟨hx, hb, hml, hown, hts⟩ (c_AR_fill l D A ad cs Z tt fu s5 s7 20 (by decide) 160 ⟨kc_probes, (by decide)⟩ 0 hc8) (va_cwS 2 hts (gd_S hw_397 hw_191 hw_192 hw_193) rfl rfl rfl (by decide +kernel) ⟨Nat.le_of_ble_eq_true rfl, Nat.le_of_ble_eq_true rfl⟩) hP hK hD hX hS rfl hl.1 rfl (Nat.le_of_ble_eq_true rfl) d_MC_execute_21 (fun H locs hP hS => ?_)
  refine lv_aload_n hx hb d_MC_execute_24 rfl (lv_at hl 0 rfl) ?_
  refine lv_iconst (v := xw_i (-1)) hx hb d_MC_execute_25 rfl ?_
  refine xw_putI (C := "AdviceWeaver$Machine") (T := T_MC) hx hb hts hin_MC ty_MC ty_MC_ok nm_MC hown hK hP hD hS (by decide) kc_Mach (by decide) rfl 5 (by decide) (hts _ hw_302) (fun _ h9 => h9) rfl (by decide +kernel) rfl d_MC_execute_26 (fun s10 e11 H locs hP hS => ?_)
  replace h := xw_letI e11 h
  refine lv_aload_n hx hb d_MC_execute_29 rfl (lv_at hl 0 rfl) ?_
  refine xw_getR (C := "AdviceWeaver$Machine") (T := T_MC) hx hb hts hin_MC hown hK hP (by decide) kc_Mach (by decide) rfl 0 (by decide) (hts _ hw_312) (fun _ h9 => h9) rfl d_MC_execute_30 ?_
  refine lv_iconst (v := xw_i 0) hx hb d_MC_execute_33 rfl ?_
  refine xw_aald25 (r := 24 + 3 * ((0 : Int).toNat)) hx hb hK hP (by decide) kc_FrameArr (by decide) (by decide) (kc_FrameArrE _ (by omega)) d_MC_execute_34 ?_
  refine lv_iload_n hx hb d_MC_execute_35 rfl (lv_at hl 2 rfl) ?_
  refine lv_aload_n hx hb d_MC_execute_36 rfl (lv_at hl 1 rfl) ?_
  refine lv_iload_n hx hb d_MC_execute_37 rfl (lv_at hl 2 rfl) ?_
  obtain ⟨hg12, h⟩ := xw_grdI h
  refine xw_aald23 (r := 48 + 4 * (4 * a1 + (p2).toNat)) hx hb hK hP (by omega) (kc_BodyArr a1 (by omega)) (by decide) hg12 (kc_BodyArrE a1 _ (by omega) (by omega)) d_MC_execute_38 ?_
  refine xw_getI (C := "AdviceWeaver$Body") (T := T_B) hx hb hts hin_B hown hK hP (by omega) (kc_Body (4 * a1 + (p2).toNat) (by omega)) (by decide) rfl 5 (by decide) (hts _ hw_306) (fun _ h9 => h9) rfl d_MC_execute_39 ?_
  refine lv_iload_n hx hb d_MC_execute_42 rfl (lv_at hl 3 rfl) ?_
  refine lv_iload hx hb d_MC_execute_43 (lv_at hl 4 rfl) ?_
  obtain ⟨s13, hc14, h⟩ := xw_bndI h
  refine xw_callVv (C := "AdviceWeaver$Frame") (T := T_FR) ⟨hx, hb, hml, hown, hts⟩ (c_FR_begin l D A ad cs Z tt fu s10 s13 ((0 : Int).toNat) (by omega) p2 (s10.1 (48 + 4 * (4 * a1 + (p2).toNat)) 5) p3 p4 hc14) (cwV 4 hts (gd_V hw_313 hw_314 hw_315 hw_310 hw_316) rfl rfl rfl (by decide +kernel) ⟨Nat.le_of_ble_eq_true rfl, Nat.le_of_ble_eq_true rfl⟩) hP hK hD hX hS (by omega) (kc_Frame ((0 : Int).toNat) (by omega)) (by decide) rfl rfl hl.1 rfl (Nat.le_of_ble_eq_true rfl) d_MC_execute_45 (fun H locs hP hS => ?_)
  refine lv_aload_n hx hb d_MC_execute_48 rfl (lv_at hl 0 rfl) ?_
  refine lv_iconst (v := xw_i 1) hx hb d_MC_execute_49 rfl ?_
  refine xw_putI (C := "AdviceWeaver$Machine") (T := T_MC) hx hb hts hin_MC ty_MC ty_MC_ok nm_MC hown hK hP hD hS (by decide) kc_Mach (by decide) rfl 3 (by decide) (hts _ hw_305) (fun _ h9 => h9) rfl (by decide +kernel) rfl d_MC_execute_50 (fun s16 e17 H locs hP hS => ?_)
  replace h := xw_letI e17 h
  refine lv_iconst (v := xw_i 0) hx hb d_MC_execute_53 rfl ?_
  refine lv_istore hx hb d_MC_execute_54 hl (by decide) rfl (fun ls hl => ?_)
  refine xw_jnI (fun j => ∀ (sq : xw_S), j sq = some (sZ, r0) → ∀ (H : Heap) (locs : List Loc) (ls : Array Slot), va_P D vwCl (xw_ws kdC 100 ad cs Z sq) H → va_S A s.heap H locs → lv_has ls 7 [(0, .ref (ad 17))] → W p l e (headSpec w_MC_execute ({ frames := 5, cells := 0, slots := 0, locals := 119 })).room s m [.ref (ad 17), .ref (ad (3 + a1)), .int (xw_i p2), .int (xw_i p3), .int (xw_i p4), .int (xw_i p5)].toArray below meth c H locs 0 0 (MQ below (va_Qi (fun r u => r = xw_i r0 ∧ u = sZ) (xw_H D vwCl A kdC 100 ad cs Z tt) A) [.ref (ad 17), .ref (ad (3 + a1)), .int (xw_i p2), .int (xw_i p3), .int (xw_i p4), .int (xw_i p5)].toArray s 0 0 A) (F0 m 82 ls [])) h ?_ ?_
  · intro s28 h H locs ls hP hS hl
    refine lv_aload_n hx hb d_MC_execute_82 rfl (lv_at hl 0 rfl) ?_
    refine xw_getI (C := "AdviceWeaver$Machine") (T := T_MC) hx hb hts hin_MC hown hK hP (by decide) kc_Mach (by decide) rfl 5 (by decide) (hts _ hw_302) (fun _ h9 => h9) rfl d_MC_execute_83 ?_
    exact xw_iretE hx hb hr hlk hP hK hD hX hS h d_MC_execute_86
  · intro k82 hk82 h
    exact hlp56 k82 hk82 fu s16 0 h _ _ _ hP hS (lv_sub hl [1, 2, 0] rfl)
def f_MC_markAt (fu : Nat) (s0 : xw_S) (p1 : Int) : Option (xw_S × Int) :=
 xw_grd (xw_r p1) (xw_if (p1 < 0) (some (s0, -1))
 (xw_grd (xw_r (s0.1 17 8)) (xw_if (s0.1 17 8 ≤ p1) (some (s0, -1))
 (xw_if (100 ≤ p1) (some (s0, -1))
 (xw_grd ((0 ≤ p1 ∧ p1 < ((100 : Nat) : Int))) (some (s0, s0.1 19 (p1).toNat)))))))
set_option maxRecDepth 100000 in
set_option maxHeartbeats 4000000 in
theorem c_MC_markAt (l : Launch) (D : va_G) (A : Nat → Prop) (ad : Nat → Nat) (cs : Nat → ClassId) (Z : va_W) (tt : Nat → Nat) (fu : Nat) (s0 sZ : xw_S) (p1 : Int) (r0 : Int) (h : f_MC_markAt fu s0 p1 = some (sZ, r0)) : Met l y_MC_markAt w_MC_markAt ({ frames := 0, cells := 0, slots := 0, locals := 0 }) (va_Pc [.ref (ad 17), .int (xw_i p1)] (xw_H D vwCl A kdC 100 ad cs Z tt s0)) (va_Qi (fun r u => r = xw_i r0 ∧ u = sZ) (xw_H D vwCl A kdC 100 ad cs Z tt) A) 0 0 A := by
  refine Met.ofW (cc := b_MC_markAt) (maxL := 2) (ret := (some .int)) (by decide) rfl ?_
  intro p e s m args below meth c s₁ B hml hv
  obtain ⟨rfl, hP, hK, hD, hX⟩ := hv
  have hx := B.exec
  have hb := B.bytes
  have hr := B.returns
  have hts0 := atoms_spec (ws := w_MC_markAt) B.pre
  have hts := fun w (hw : w ∈ wAll) => hts0 w (List.mem_cons_of_mem _ hw)
  have hown : s.vm.findClass "AdviceWeaver$Machine" = some m.cls := findClass_of_methodNamed B.named
  have hlk := B.notSynchronized
  clear hts0 B
  have hS : va_S A s.heap s.heap [] := va_S.rf
  have hl := lv_entry [.ref (ad 17), .int (xw_i p1)] (n := 2) (Nat.le_of_ble_eq_true rfl)
  rw [lg_entry_eq]
  generalize (lg_sl [.ref (ad 17), .int (xw_i p1)] ++ List.replicate (2 - (lg_sl [.ref (ad 17), .int (xw_i p1)]).length) Slot.unset).toArray = ls at hl ⊢
  have hl : lv_has ls 2 [(0, .ref (ad 17)), (1, .int (xw_i p1))] := hl
  unfold f_MC_markAt at h
  refine lv_iload_n hx hb d_MC_markAt_0 rfl (lv_at hl 1 rfl) ?_
  obtain ⟨hg1, h⟩ := xw_grdI h
  refine xw_if_lt (tgt := 27) hx hb hg1 d_MC_markAt_1 (by decide) (fun hc2 => ?_) (fun hc2 => ?_)
  · replace h := xw_ifT hc2 h
    refine lv_iconst (v := xw_i (-1)) hx hb d_MC_markAt_27 rfl ?_
    exact xw_iretE hx hb hr hlk hP hK hD hX hS h d_MC_markAt_28
  · replace h := xw_ifF hc2 h
    refine lv_iload_n hx hb d_MC_markAt_4 rfl (lv_at hl 1 rfl) ?_
    refine lv_aload_n hx hb d_MC_markAt_5 rfl (lv_at hl 0 rfl) ?_
    refine xw_getI (C := "AdviceWeaver$Machine") (T := T_MC) hx hb hts hin_MC hown hK hP (by decide) kc_Mach (by decide) rfl 8 (by decide) (hts _ hw_343) (fun _ h9 => h9) rfl d_MC_markAt_6 ?_
    obtain ⟨hg3, h⟩ := xw_grdI h
    refine xw_icmp_ge (tgt := 27) hx hb hg1 hg3 d_MC_markAt_9 (by decide) (fun hc4 => ?_) (fun hc4 => ?_)
    · replace h := xw_ifT hc4 h
      refine lv_iconst (v := xw_i (-1)) hx hb d_MC_markAt_27 rfl ?_
      exact xw_iretE hx hb hr hlk hP hK hD hX hS h d_MC_markAt_28
    · replace h := xw_ifF hc4 h
      refine lv_iload_n hx hb d_MC_markAt_12 rfl (lv_at hl 1 rfl) ?_
      refine lv_bipush (v := xw_i 100) hx hb d_MC_markAt_13 (by decide) ?_
      refine xw_icmp_ge (tgt := 27) hx hb hg1 (by decide) d_MC_markAt_15 (by decide) (fun hc5 => ?_) (fun hc5 => ?_)
      · replace h := xw_ifT hc5 h
        refine lv_iconst (v := xw_i (-1)) hx hb d_MC_markAt_27 rfl ?_
        exact xw_iretE hx hb hr hlk hP hK hD hX hS h d_MC_markAt_28
      · replace h := xw_ifF hc5 h
        refine lv_aload_n hx hb d_MC_markAt_18 rfl (lv_at hl 0 rfl) ?_
        refine xw_getR (C := "AdviceWeaver$Machine") (T := T_MC) hx hb hts hin_MC hown hK hP (by decide) kc_Mach (by decide) rfl 1 (by decide) (hts _ hw_344) (fun _ h9 => h9) rfl d_MC_markAt_19 ?_
        refine lv_iload_n hx hb d_MC_markAt_22 rfl (lv_at hl 1 rfl) ?_
        obtain ⟨hg6, h⟩ := xw_grdI h
        refine xw_iald hx hb hK hP (by decide) kc_kept (by decide) hg6 d_MC_markAt_23 ?_
        refine lv_goto (tgt := 28) hx hb d_MC_markAt_24 (by decide) ?_
        exact xw_iretE hx hb hr hlk hP hK hD hX hS h d_MC_markAt_28
def f_MC_probesAt (fu : Nat) (s0 : xw_S) (p1 : Int) (p2 : Int) : Option (xw_S × Int) :=
 xw_grd (xw_r p1) (xw_if (p1 < 0) (some (s0, 0))
 (xw_if (4 ≤ p1) (some (s0, 0))
 (xw_grd (xw_r p2) (xw_if (p2 < 0) (some (s0, 0))
 (xw_if (p2 < 40) (xw_grd ((0 ≤ (p1 * 40) + p2 ∧ (p1 * 40) + p2 < ((160 : Nat) : Int))) (some (s0, s0.1 20 ((p1 * 40) + p2).toNat)))
 (some (s0, 0)))))))
set_option maxRecDepth 100000 in
set_option maxHeartbeats 4000000 in
theorem c_MC_probesAt (l : Launch) (D : va_G) (A : Nat → Prop) (ad : Nat → Nat) (cs : Nat → ClassId) (Z : va_W) (tt : Nat → Nat) (fu : Nat) (s0 sZ : xw_S) (p1 : Int) (p2 : Int) (r0 : Int) (h : f_MC_probesAt fu s0 p1 p2 = some (sZ, r0)) : Met l y_MC_probesAt w_MC_probesAt ({ frames := 0, cells := 0, slots := 0, locals := 0 }) (va_Pc [.ref (ad 17), .int (xw_i p1), .int (xw_i p2)] (xw_H D vwCl A kdC 100 ad cs Z tt s0)) (va_Qi (fun r u => r = xw_i r0 ∧ u = sZ) (xw_H D vwCl A kdC 100 ad cs Z tt) A) 0 0 A := by
  refine Met.ofW (cc := b_MC_probesAt) (maxL := 3) (ret := (some .int)) (by decide) rfl ?_
  intro p e s m args below meth c s₁ B hml hv
  obtain ⟨rfl, hP, hK, hD, hX⟩ := hv
  have hx := B.exec
  have hb := B.bytes
  have hr := B.returns
  have hts0 := atoms_spec (ws := w_MC_probesAt) B.pre
  have hts := fun w (hw : w ∈ wAll) => hts0 w (List.mem_cons_of_mem _ hw)
  have hown : s.vm.findClass "AdviceWeaver$Machine" = some m.cls := findClass_of_methodNamed B.named
  have hlk := B.notSynchronized
  clear hts0 B
  have hS : va_S A s.heap s.heap [] := va_S.rf
  have hl := lv_entry [.ref (ad 17), .int (xw_i p1), .int (xw_i p2)] (n := 3) (Nat.le_of_ble_eq_true rfl)
  rw [lg_entry_eq]
  generalize (lg_sl [.ref (ad 17), .int (xw_i p1), .int (xw_i p2)] ++ List.replicate (3 - (lg_sl [.ref (ad 17), .int (xw_i p1), .int (xw_i p2)]).length) Slot.unset).toArray = ls at hl ⊢
  have hl : lv_has ls 3 [(0, .ref (ad 17)), (1, .int (xw_i p1)), (2, .int (xw_i p2))] := hl
  unfold f_MC_probesAt at h
  refine lv_iload_n hx hb d_MC_probesAt_0 rfl (lv_at hl 1 rfl) ?_
  obtain ⟨hg1, h⟩ := xw_grdI h
  refine xw_if_lt (tgt := 19) hx hb hg1 d_MC_probesAt_1 (by decide) (fun hc2 => ?_) (fun hc2 => ?_)
  · replace h := xw_ifT hc2 h
    refine lv_iconst (v := xw_i 0) hx hb d_MC_probesAt_19 rfl ?_
    exact xw_iretE hx hb hr hlk hP hK hD hX hS h d_MC_probesAt_20
  · replace h := xw_ifF hc2 h
    refine lv_iload_n hx hb d_MC_probesAt_4 rfl (lv_at hl 1 rfl) ?_
    refine lv_iconst (v := xw_i 4) hx hb d_MC_probesAt_5 rfl ?_
    refine xw_icmp_ge (tgt := 19) hx hb hg1 (by decide) d_MC_probesAt_6 (by decide) (fun hc3 => ?_) (fun hc3 => ?_)
    · replace h := xw_ifT hc3 h
      refine lv_iconst (v := xw_i 0) hx hb d_MC_probesAt_19 rfl ?_
      exact xw_iretE hx hb hr hlk hP hK hD hX hS h d_MC_probesAt_20
    · replace h := xw_ifF hc3 h
      refine lv_iload_n hx hb d_MC_probesAt_9 rfl (lv_at hl 2 rfl) ?_
      obtain ⟨hg4, h⟩ := xw_grdI h
      refine xw_if_lt (tgt := 19) hx hb hg4 d_MC_probesAt_10 (by decide) (fun hc5 => ?_) (fun hc5 => ?_)
      · replace h := xw_ifT hc5 h
        refine lv_iconst (v := xw_i 0) hx hb d_MC_probesAt_19 rfl ?_
        exact xw_iretE hx hb hr hlk hP hK hD hX hS h d_MC_probesAt_20
      · replace h := xw_ifF hc5 h
        refine lv_iload_n hx hb d_MC_probesAt_13 rfl (lv_at hl 2 rfl) ?_
        refine lv_bipush (v := xw_i 40) hx hb d_MC_probesAt_14 (by decide) ?_
        refine xw_icmp_lt (tgt := 21) hx hb hg4 (by decide) d_MC_probesAt_16 (by decide) (fun hc6 => ?_) (fun hc6 => ?_)
        · replace h := xw_ifT hc6 h
          refine lv_aload_n hx hb d_MC_probesAt_21 rfl (lv_at hl 0 rfl) ?_
          refine xw_getR (C := "AdviceWeaver$Machine") (T := T_MC) hx hb hts hin_MC hown hK hP (by decide) kc_Mach (by decide) rfl 2 (by decide) (hts _ hw_345) (fun _ h9 => h9) rfl d_MC_probesAt_22 ?_
          refine lv_iload_n hx hb d_MC_probesAt_25 rfl (lv_at hl 1 rfl) ?_
          refine lv_bipush (v := xw_i 40) hx hb d_MC_probesAt_26 (by decide) ?_
          refine xw_imul hx hb d_MC_probesAt_28 ?_
          refine lv_iload_n hx hb d_MC_probesAt_29 rfl (lv_at hl 2 rfl) ?_
          refine xw_iadd hx hb d_MC_probesAt_30 ?_
          obtain ⟨hg7, h⟩ := xw_grdI h
          refine xw_iald hx hb hK hP (by decide) kc_probes (by decide) hg7 d_MC_probesAt_31 ?_
          exact xw_iretE hx hb hr hlk hP hK hD hX hS h d_MC_probesAt_32
        · replace h := xw_ifF hc6 h
          refine lv_iconst (v := xw_i 0) hx hb d_MC_probesAt_19 rfl ?_
          exact xw_iretE hx hb hr hlk hP hK hD hX hS h d_MC_probesAt_20
