/-! 12.body -/
theorem d_B_addHandler_0 : decode b_B_addHandler 0 = .ok (.aload_n 0, 1) := by decide +kernel
theorem d_B_addHandler_1 : decode b_B_addHandler 1 = .ok (.getfield 40, 3) := by decide +kernel
theorem d_B_addHandler_4 : decode b_B_addHandler 4 = .ok (.aload_n 0, 1) := by decide +kernel
theorem d_B_addHandler_5 : decode b_B_addHandler 5 = .ok (.getfield 21, 3) := by decide +kernel
theorem d_B_addHandler_8 : decode b_B_addHandler 8 = .ok (.if_icmp .lt 4, 3) := by decide +kernel
theorem d_B_addHandler_11 : decode b_B_addHandler 11 = .ok (.return_, 1) := by decide +kernel
theorem d_B_addHandler_12 : decode b_B_addHandler 12 = .ok (.aload_n 0, 1) := by decide +kernel
theorem d_B_addHandler_13 : decode b_B_addHandler 13 = .ok (.getfield 40, 3) := by decide +kernel
theorem d_B_addHandler_16 : decode b_B_addHandler 16 = .ok (.iconst 4, 1) := by decide +kernel
theorem d_B_addHandler_17 : decode b_B_addHandler 17 = .ok (.imul, 1) := by decide +kernel
theorem d_B_addHandler_18 : decode b_B_addHandler 18 = .ok (.istore 5, 2) := by decide +kernel
theorem d_B_addHandler_20 : decode b_B_addHandler 20 = .ok (.aload_n 0, 1) := by decide +kernel
theorem d_B_addHandler_21 : decode b_B_addHandler 21 = .ok (.getfield 18, 3) := by decide +kernel
theorem d_B_addHandler_24 : decode b_B_addHandler 24 = .ok (.iload 5, 2) := by decide +kernel
theorem d_B_addHandler_26 : decode b_B_addHandler 26 = .ok (.iconst 0, 1) := by decide +kernel
theorem d_B_addHandler_27 : decode b_B_addHandler 27 = .ok (.iadd, 1) := by decide +kernel
theorem d_B_addHandler_28 : decode b_B_addHandler 28 = .ok (.iload_n 1, 1) := by decide +kernel
theorem d_B_addHandler_29 : decode b_B_addHandler 29 = .ok (.iastore, 1) := by decide +kernel
theorem d_B_addHandler_30 : decode b_B_addHandler 30 = .ok (.aload_n 0, 1) := by decide +kernel
theorem d_B_addHandler_31 : decode b_B_addHandler 31 = .ok (.getfield 18, 3) := by decide +kernel
theorem d_B_addHandler_34 : decode b_B_addHandler 34 = .ok (.iload 5, 2) := by decide +kernel
theorem d_B_addHandler_36 : decode b_B_addHandler 36 = .ok (.iconst 1, 1) := by decide +kernel
theorem d_B_addHandler_37 : decode b_B_addHandler 37 = .ok (.iadd, 1) := by decide +kernel
theorem d_B_addHandler_38 : decode b_B_addHandler 38 = .ok (.iload_n 2, 1) := by decide +kernel
theorem d_B_addHandler_39 : decode b_B_addHandler 39 = .ok (.iastore, 1) := by decide +kernel
theorem d_B_addHandler_40 : decode b_B_addHandler 40 = .ok (.aload_n 0, 1) := by decide +kernel
theorem d_B_addHandler_41 : decode b_B_addHandler 41 = .ok (.getfield 18, 3) := by decide +kernel
theorem d_B_addHandler_44 : decode b_B_addHandler 44 = .ok (.iload 5, 2) := by decide +kernel
theorem d_B_addHandler_46 : decode b_B_addHandler 46 = .ok (.iconst 2, 1) := by decide +kernel
theorem d_B_addHandler_47 : decode b_B_addHandler 47 = .ok (.iadd, 1) := by decide +kernel
theorem d_B_addHandler_48 : decode b_B_addHandler 48 = .ok (.iload_n 3, 1) := by decide +kernel
theorem d_B_addHandler_49 : decode b_B_addHandler 49 = .ok (.iastore, 1) := by decide +kernel
theorem d_B_addHandler_50 : decode b_B_addHandler 50 = .ok (.aload_n 0, 1) := by decide +kernel
theorem d_B_addHandler_51 : decode b_B_addHandler 51 = .ok (.getfield 18, 3) := by decide +kernel
theorem d_B_addHandler_54 : decode b_B_addHandler 54 = .ok (.iload 5, 2) := by decide +kernel
theorem d_B_addHandler_56 : decode b_B_addHandler 56 = .ok (.iconst 3, 1) := by decide +kernel
theorem d_B_addHandler_57 : decode b_B_addHandler 57 = .ok (.iadd, 1) := by decide +kernel
theorem d_B_addHandler_58 : decode b_B_addHandler 58 = .ok (.iload 4, 2) := by decide +kernel
theorem d_B_addHandler_60 : decode b_B_addHandler 60 = .ok (.iastore, 1) := by decide +kernel
theorem d_B_addHandler_61 : decode b_B_addHandler 61 = .ok (.aload_n 0, 1) := by decide +kernel
theorem d_B_addHandler_62 : decode b_B_addHandler 62 = .ok (.dup, 1) := by decide +kernel
theorem d_B_addHandler_63 : decode b_B_addHandler 63 = .ok (.getfield 40, 3) := by decide +kernel
theorem d_B_addHandler_66 : decode b_B_addHandler 66 = .ok (.iconst 1, 1) := by decide +kernel
theorem d_B_addHandler_67 : decode b_B_addHandler 67 = .ok (.iadd, 1) := by decide +kernel
theorem d_B_addHandler_68 : decode b_B_addHandler 68 = .ok (.putfield 40, 3) := by decide +kernel
theorem d_B_addHandler_71 : decode b_B_addHandler 71 = .ok (.return_, 1) := by decide +kernel
theorem d_B_findInstructions_0 : decode b_B_findInstructions 0 = .ok (.aload_n 0, 1) := by decide +kernel
theorem d_B_findInstructions_1 : decode b_B_findInstructions 1 = .ok (.iconst 0, 1) := by decide +kernel
theorem d_B_findInstructions_2 : decode b_B_findInstructions 2 = .ok (.putfield 43, 3) := by decide +kernel
theorem d_B_findInstructions_5 : decode b_B_findInstructions 5 = .ok (.iconst 0, 1) := by decide +kernel
theorem d_B_findInstructions_6 : decode b_B_findInstructions 6 = .ok (.istore_n 1, 1) := by decide +kernel
theorem d_B_findInstructions_7 : decode b_B_findInstructions 7 = .ok (.iconst 0, 1) := by decide +kernel
theorem d_B_findInstructions_8 : decode b_B_findInstructions 8 = .ok (.istore_n 2, 1) := by decide +kernel
theorem d_B_findInstructions_9 : decode b_B_findInstructions 9 = .ok (.iload_n 2, 1) := by decide +kernel
theorem d_B_findInstructions_10 : decode b_B_findInstructions 10 = .ok (.aload_n 0, 1) := by decide +kernel
theorem d_B_findInstructions_11 : decode b_B_findInstructions 11 = .ok (.getfield 37, 3) := by decide +kernel
theorem d_B_findInstructions_14 : decode b_B_findInstructions 14 = .ok (.if_icmp .ge 54, 3) := by decide +kernel
theorem d_B_findInstructions_17 : decode b_B_findInstructions 17 = .ok (.iload_n 2, 1) := by decide +kernel
theorem d_B_findInstructions_18 : decode b_B_findInstructions 18 = .ok (.iload_n 1, 1) := by decide +kernel
theorem d_B_findInstructions_19 : decode b_B_findInstructions 19 = .ok (.if_icmp .ne 35, 3) := by decide +kernel
theorem d_B_findInstructions_22 : decode b_B_findInstructions 22 = .ok (.aload_n 0, 1) := by decide +kernel
theorem d_B_findInstructions_23 : decode b_B_findInstructions 23 = .ok (.getfield 15, 3) := by decide +kernel
theorem d_B_findInstructions_26 : decode b_B_findInstructions 26 = .ok (.iload_n 2, 1) := by decide +kernel
theorem d_B_findInstructions_27 : decode b_B_findInstructions 27 = .ok (.iconst (-1), 1) := by decide +kernel
theorem d_B_findInstructions_28 : decode b_B_findInstructions 28 = .ok (.iastore, 1) := by decide +kernel
theorem d_B_findInstructions_29 : decode b_B_findInstructions 29 = .ok (.aload_n 0, 1) := by decide +kernel
theorem d_B_findInstructions_30 : decode b_B_findInstructions 30 = .ok (.dup, 1) := by decide +kernel
theorem d_B_findInstructions_31 : decode b_B_findInstructions 31 = .ok (.getfield 43, 3) := by decide +kernel
theorem d_B_findInstructions_34 : decode b_B_findInstructions 34 = .ok (.iconst 1, 1) := by decide +kernel
theorem d_B_findInstructions_35 : decode b_B_findInstructions 35 = .ok (.iadd, 1) := by decide +kernel
theorem d_B_findInstructions_36 : decode b_B_findInstructions 36 = .ok (.putfield 43, 3) := by decide +kernel
theorem d_B_findInstructions_39 : decode b_B_findInstructions 39 = .ok (.iload_n 2, 1) := by decide +kernel
theorem d_B_findInstructions_40 : decode b_B_findInstructions 40 = .ok (.aload_n 0, 1) := by decide +kernel
theorem d_B_findInstructions_41 : decode b_B_findInstructions 41 = .ok (.getfield 9, 3) := by decide +kernel
theorem d_B_findInstructions_44 : decode b_B_findInstructions 44 = .ok (.iload_n 2, 1) := by decide +kernel
theorem d_B_findInstructions_45 : decode b_B_findInstructions 45 = .ok (.iaload, 1) := by decide +kernel
theorem d_B_findInstructions_46 : decode b_B_findInstructions 46 = .ok (.invokestatic 76, 3) := by decide +kernel
theorem d_B_findInstructions_49 : decode b_B_findInstructions 49 = .ok (.iadd, 1) := by decide +kernel
theorem d_B_findInstructions_50 : decode b_B_findInstructions 50 = .ok (.istore_n 1, 1) := by decide +kernel
theorem d_B_findInstructions_51 : decode b_B_findInstructions 51 = .ok (.goto 11, 3) := by decide +kernel
theorem d_B_findInstructions_54 : decode b_B_findInstructions 54 = .ok (.aload_n 0, 1) := by decide +kernel
theorem d_B_findInstructions_55 : decode b_B_findInstructions 55 = .ok (.getfield 15, 3) := by decide +kernel
theorem d_B_findInstructions_58 : decode b_B_findInstructions 58 = .ok (.iload_n 2, 1) := by decide +kernel
theorem d_B_findInstructions_59 : decode b_B_findInstructions 59 = .ok (.bipush (-2), 2) := by decide +kernel
theorem d_B_findInstructions_61 : decode b_B_findInstructions 61 = .ok (.iastore, 1) := by decide +kernel
theorem d_B_findInstructions_62 : decode b_B_findInstructions 62 = .ok (.iinc 2 1, 3) := by decide +kernel
theorem d_B_findInstructions_65 : decode b_B_findInstructions 65 = .ok (.goto (-56), 3) := by decide +kernel
theorem d_B_findInstructions_68 : decode b_B_findInstructions 68 = .ok (.iload_n 1, 1) := by decide +kernel
theorem d_B_findInstructions_69 : decode b_B_findInstructions 69 = .ok (.aload_n 0, 1) := by decide +kernel
theorem d_B_findInstructions_70 : decode b_B_findInstructions 70 = .ok (.getfield 37, 3) := by decide +kernel
theorem d_B_findInstructions_73 : decode b_B_findInstructions 73 = .ok (.if_icmp .ne 7, 3) := by decide +kernel
theorem d_B_findInstructions_76 : decode b_B_findInstructions 76 = .ok (.iconst 1, 1) := by decide +kernel
theorem d_B_findInstructions_77 : decode b_B_findInstructions 77 = .ok (.goto 4, 3) := by decide +kernel
theorem d_B_findInstructions_80 : decode b_B_findInstructions 80 = .ok (.iconst 0, 1) := by decide +kernel
theorem d_B_findInstructions_81 : decode b_B_findInstructions 81 = .ok (.ireturn, 1) := by decide +kernel
theorem d_B_begins_0 : decode b_B_begins 0 = .ok (.iload_n 1, 1) := by decide +kernel
theorem d_B_begins_1 : decode b_B_begins 1 = .ok (.ifCond .lt 26, 3) := by decide +kernel
theorem d_B_begins_4 : decode b_B_begins 4 = .ok (.iload_n 1, 1) := by decide +kernel
theorem d_B_begins_5 : decode b_B_begins 5 = .ok (.aload_n 0, 1) := by decide +kernel
theorem d_B_begins_6 : decode b_B_begins 6 = .ok (.getfield 37, 3) := by decide +kernel
theorem d_B_begins_9 : decode b_B_begins 9 = .ok (.if_icmp .ge 18, 3) := by decide +kernel
theorem d_B_begins_12 : decode b_B_begins 12 = .ok (.aload_n 0, 1) := by decide +kernel
theorem d_B_begins_13 : decode b_B_begins 13 = .ok (.getfield 15, 3) := by decide +kernel
theorem d_B_begins_16 : decode b_B_begins 16 = .ok (.iload_n 1, 1) := by decide +kernel
theorem d_B_begins_17 : decode b_B_begins 17 = .ok (.iaload, 1) := by decide +kernel
theorem d_B_begins_18 : decode b_B_begins 18 = .ok (.bipush (-2), 2) := by decide +kernel
theorem d_B_begins_20 : decode b_B_begins 20 = .ok (.if_icmp .eq 7, 3) := by decide +kernel
theorem d_B_begins_23 : decode b_B_begins 23 = .ok (.iconst 1, 1) := by decide +kernel
theorem d_B_begins_24 : decode b_B_begins 24 = .ok (.goto 4, 3) := by decide +kernel
theorem d_B_begins_27 : decode b_B_begins 27 = .ok (.iconst 0, 1) := by decide +kernel
theorem d_B_begins_28 : decode b_B_begins 28 = .ok (.ireturn, 1) := by decide +kernel
theorem d_B_byteAt_0 : decode b_B_byteAt 0 = .ok (.iload_n 1, 1) := by decide +kernel
theorem d_B_byteAt_1 : decode b_B_byteAt 1 = .ok (.ifCond .lt 20, 3) := by decide +kernel
theorem d_B_byteAt_4 : decode b_B_byteAt 4 = .ok (.iload_n 1, 1) := by decide +kernel
theorem d_B_byteAt_5 : decode b_B_byteAt 5 = .ok (.aload_n 0, 1) := by decide +kernel
theorem d_B_byteAt_6 : decode b_B_byteAt 6 = .ok (.getfield 37, 3) := by decide +kernel
theorem d_B_byteAt_9 : decode b_B_byteAt 9 = .ok (.if_icmp .ge 12, 3) := by decide +kernel
theorem d_B_byteAt_12 : decode b_B_byteAt 12 = .ok (.aload_n 0, 1) := by decide +kernel
theorem d_B_byteAt_13 : decode b_B_byteAt 13 = .ok (.getfield 9, 3) := by decide +kernel
theorem d_B_byteAt_16 : decode b_B_byteAt 16 = .ok (.iload_n 1, 1) := by decide +kernel
theorem d_B_byteAt_17 : decode b_B_byteAt 17 = .ok (.iaload, 1) := by decide +kernel
theorem d_B_byteAt_18 : decode b_B_byteAt 18 = .ok (.goto 4, 3) := by decide +kernel
theorem d_B_byteAt_21 : decode b_B_byteAt 21 = .ok (.iconst 0, 1) := by decide +kernel
theorem d_B_byteAt_22 : decode b_B_byteAt 22 = .ok (.ireturn, 1) := by decide +kernel
theorem d_B_wayAt_0 : decode b_B_wayAt 0 = .ok (.aload_n 0, 1) := by decide +kernel
theorem d_B_wayAt_1 : decode b_B_wayAt 1 = .ok (.iload_n 1, 1) := by decide +kernel
theorem d_B_wayAt_2 : decode b_B_wayAt 2 = .ok (.iconst 1, 1) := by decide +kernel
theorem d_B_wayAt_3 : decode b_B_wayAt 3 = .ok (.iadd, 1) := by decide +kernel
theorem d_B_wayAt_4 : decode b_B_wayAt 4 = .ok (.invokevirtual 63, 3) := by decide +kernel
theorem d_B_wayAt_7 : decode b_B_wayAt 7 = .ok (.invokestatic 67, 3) := by decide +kernel
theorem d_B_wayAt_10 : decode b_B_wayAt 10 = .ok (.istore_n 2, 1) := by decide +kernel
theorem d_B_wayAt_11 : decode b_B_wayAt 11 = .ok (.aload_n 0, 1) := by decide +kernel
theorem d_B_wayAt_12 : decode b_B_wayAt 12 = .ok (.iload_n 1, 1) := by decide +kernel
theorem d_B_wayAt_13 : decode b_B_wayAt 13 = .ok (.invokevirtual 63, 3) := by decide +kernel
theorem d_B_wayAt_16 : decode b_B_wayAt 16 = .ok (.invokestatic 72, 3) := by decide +kernel
theorem d_B_wayAt_19 : decode b_B_wayAt 19 = .ok (.ifCond .eq 19, 3) := by decide +kernel
theorem d_B_wayAt_22 : decode b_B_wayAt 22 = .ok (.iload_n 2, 1) := by decide +kernel
theorem d_B_wayAt_23 : decode b_B_wayAt 23 = .ok (.sipush 256, 3) := by decide +kernel
theorem d_B_wayAt_26 : decode b_B_wayAt 26 = .ok (.imul, 1) := by decide +kernel
theorem d_B_wayAt_27 : decode b_B_wayAt 27 = .ok (.aload_n 0, 1) := by decide +kernel
theorem d_B_wayAt_28 : decode b_B_wayAt 28 = .ok (.iload_n 1, 1) := by decide +kernel
theorem d_B_wayAt_29 : decode b_B_wayAt 29 = .ok (.iconst 2, 1) := by decide +kernel
theorem d_B_wayAt_30 : decode b_B_wayAt 30 = .ok (.iadd, 1) := by decide +kernel
theorem d_B_wayAt_31 : decode b_B_wayAt 31 = .ok (.invokevirtual 63, 3) := by decide +kernel
theorem d_B_wayAt_34 : decode b_B_wayAt 34 = .ok (.iadd, 1) := by decide +kernel
theorem d_B_wayAt_35 : decode b_B_wayAt 35 = .ok (.goto 4, 3) := by decide +kernel
theorem d_B_wayAt_38 : decode b_B_wayAt 38 = .ok (.iload_n 2, 1) := by decide +kernel
theorem d_B_wayAt_39 : decode b_B_wayAt 39 = .ok (.ireturn, 1) := by decide +kernel
theorem d_B_numbersHold_0 : decode b_B_numbersHold 0 = .ok (.aload_n 0, 1) := by decide +kernel
theorem d_B_numbersHold_1 : decode b_B_numbersHold 1 = .ok (.iload_n 1, 1) := by decide +kernel
theorem d_B_numbersHold_2 : decode b_B_numbersHold 2 = .ok (.invokevirtual 63, 3) := by decide +kernel
theorem d_B_numbersHold_5 : decode b_B_numbersHold 5 = .ok (.istore_n 3, 1) := by decide +kernel
theorem d_B_numbersHold_6 : decode b_B_numbersHold 6 = .ok (.iload_n 3, 1) := by decide +kernel
theorem d_B_numbersHold_7 : decode b_B_numbersHold 7 = .ok (.invokestatic 89, 3) := by decide +kernel
theorem d_B_numbersHold_10 : decode b_B_numbersHold 10 = .ok (.ifCond .eq 42, 3) := by decide +kernel
theorem d_B_numbersHold_13 : decode b_B_numbersHold 13 = .ok (.aload_n 0, 1) := by decide +kernel
theorem d_B_numbersHold_14 : decode b_B_numbersHold 14 = .ok (.iload_n 1, 1) := by decide +kernel
theorem d_B_numbersHold_15 : decode b_B_numbersHold 15 = .ok (.invokevirtual 92, 3) := by decide +kernel
theorem d_B_numbersHold_18 : decode b_B_numbersHold 18 = .ok (.istore 4, 2) := by decide +kernel
theorem d_B_numbersHold_20 : decode b_B_numbersHold 20 = .ok (.aload_n 0, 1) := by decide +kernel
theorem d_B_numbersHold_21 : decode b_B_numbersHold 21 = .ok (.iload_n 1, 1) := by decide +kernel
theorem d_B_numbersHold_22 : decode b_B_numbersHold 22 = .ok (.iload 4, 2) := by decide +kernel
theorem d_B_numbersHold_24 : decode b_B_numbersHold 24 = .ok (.iadd, 1) := by decide +kernel
theorem d_B_numbersHold_25 : decode b_B_numbersHold 25 = .ok (.invokevirtual 83, 3) := by decide +kernel
theorem d_B_numbersHold_28 : decode b_B_numbersHold 28 = .ok (.ifCond .eq 22, 3) := by decide +kernel
theorem d_B_numbersHold_31 : decode b_B_numbersHold 31 = .ok (.iload_n 3, 1) := by decide +kernel
theorem d_B_numbersHold_32 : decode b_B_numbersHold 32 = .ok (.invokestatic 72, 3) := by decide +kernel
theorem d_B_numbersHold_35 : decode b_B_numbersHold 35 = .ok (.ifCond .ne 11, 3) := by decide +kernel
theorem d_B_numbersHold_38 : decode b_B_numbersHold 38 = .ok (.iload 4, 2) := by decide +kernel
theorem d_B_numbersHold_40 : decode b_B_numbersHold 40 = .ok (.invokestatic 95, 3) := by decide +kernel
theorem d_B_numbersHold_43 : decode b_B_numbersHold 43 = .ok (.ifCond .eq 7, 3) := by decide +kernel
theorem d_B_numbersHold_46 : decode b_B_numbersHold 46 = .ok (.iconst 1, 1) := by decide +kernel
theorem d_B_numbersHold_47 : decode b_B_numbersHold 47 = .ok (.goto 4, 3) := by decide +kernel
theorem d_B_numbersHold_50 : decode b_B_numbersHold 50 = .ok (.iconst 0, 1) := by decide +kernel
theorem d_B_numbersHold_51 : decode b_B_numbersHold 51 = .ok (.ireturn, 1) := by decide +kernel
theorem d_B_numbersHold_52 : decode b_B_numbersHold 52 = .ok (.iload_n 3, 1) := by decide +kernel
theorem d_B_numbersHold_53 : decode b_B_numbersHold 53 = .ok (.iconst 2, 1) := by decide +kernel
theorem d_B_numbersHold_54 : decode b_B_numbersHold 54 = .ok (.if_icmp .eq 14, 3) := by decide +kernel
theorem d_B_numbersHold_57 : decode b_B_numbersHold 57 = .ok (.iload_n 3, 1) := by decide +kernel
theorem d_B_numbersHold_58 : decode b_B_numbersHold 58 = .ok (.iconst 3, 1) := by decide +kernel
theorem d_B_numbersHold_59 : decode b_B_numbersHold 59 = .ok (.if_icmp .eq 9, 3) := by decide +kernel
theorem d_B_numbersHold_62 : decode b_B_numbersHold 62 = .ok (.iload_n 3, 1) := by decide +kernel
theorem d_B_numbersHold_63 : decode b_B_numbersHold 63 = .ok (.bipush 16, 2) := by decide +kernel
theorem d_B_numbersHold_65 : decode b_B_numbersHold 65 = .ok (.if_icmp .ne 23, 3) := by decide +kernel
theorem d_B_numbersHold_68 : decode b_B_numbersHold 68 = .ok (.aload_n 0, 1) := by decide +kernel
theorem d_B_numbersHold_69 : decode b_B_numbersHold 69 = .ok (.iload_n 1, 1) := by decide +kernel
theorem d_B_numbersHold_70 : decode b_B_numbersHold 70 = .ok (.iconst 1, 1) := by decide +kernel
theorem d_B_numbersHold_71 : decode b_B_numbersHold 71 = .ok (.iadd, 1) := by decide +kernel
theorem d_B_numbersHold_72 : decode b_B_numbersHold 72 = .ok (.invokevirtual 63, 3) := by decide +kernel
theorem d_B_numbersHold_75 : decode b_B_numbersHold 75 = .ok (.aload_n 0, 1) := by decide +kernel
theorem d_B_numbersHold_76 : decode b_B_numbersHold 76 = .ok (.getfield 31, 3) := by decide +kernel
theorem d_B_numbersHold_79 : decode b_B_numbersHold 79 = .ok (.if_icmp .ge 7, 3) := by decide +kernel
theorem d_B_numbersHold_82 : decode b_B_numbersHold 82 = .ok (.iconst 1, 1) := by decide +kernel
theorem d_B_numbersHold_83 : decode b_B_numbersHold 83 = .ok (.goto 4, 3) := by decide +kernel
theorem d_B_numbersHold_86 : decode b_B_numbersHold 86 = .ok (.iconst 0, 1) := by decide +kernel
theorem d_B_numbersHold_87 : decode b_B_numbersHold 87 = .ok (.ireturn, 1) := by decide +kernel
theorem d_B_numbersHold_88 : decode b_B_numbersHold 88 = .ok (.iload_n 3, 1) := by decide +kernel
theorem d_B_numbersHold_89 : decode b_B_numbersHold 89 = .ok (.bipush 13, 2) := by decide +kernel
theorem d_B_numbersHold_91 : decode b_B_numbersHold 91 = .ok (.if_icmp .ne 20, 3) := by decide +kernel
theorem d_B_numbersHold_94 : decode b_B_numbersHold 94 = .ok (.aload_n 0, 1) := by decide +kernel
theorem d_B_numbersHold_95 : decode b_B_numbersHold 95 = .ok (.iload_n 1, 1) := by decide +kernel
theorem d_B_numbersHold_96 : decode b_B_numbersHold 96 = .ok (.iconst 1, 1) := by decide +kernel
theorem d_B_numbersHold_97 : decode b_B_numbersHold 97 = .ok (.iadd, 1) := by decide +kernel
theorem d_B_numbersHold_98 : decode b_B_numbersHold 98 = .ok (.invokevirtual 63, 3) := by decide +kernel
theorem d_B_numbersHold_101 : decode b_B_numbersHold 101 = .ok (.iload_n 2, 1) := by decide +kernel
theorem d_B_numbersHold_102 : decode b_B_numbersHold 102 = .ok (.if_icmp .ge 7, 3) := by decide +kernel
theorem d_B_numbersHold_105 : decode b_B_numbersHold 105 = .ok (.iconst 1, 1) := by decide +kernel
theorem d_B_numbersHold_106 : decode b_B_numbersHold 106 = .ok (.goto 4, 3) := by decide +kernel
theorem d_B_numbersHold_109 : decode b_B_numbersHold 109 = .ok (.iconst 0, 1) := by decide +kernel
theorem d_B_numbersHold_110 : decode b_B_numbersHold 110 = .ok (.ireturn, 1) := by decide +kernel
theorem d_B_numbersHold_111 : decode b_B_numbersHold 111 = .ok (.iload_n 3, 1) := by decide +kernel
theorem d_B_numbersHold_112 : decode b_B_numbersHold 112 = .ok (.invokestatic 98, 3) := by decide +kernel
theorem d_B_numbersHold_115 : decode b_B_numbersHold 115 = .ok (.ifCond .ne 7, 3) := by decide +kernel
theorem d_B_numbersHold_118 : decode b_B_numbersHold 118 = .ok (.iconst 1, 1) := by decide +kernel
theorem d_B_numbersHold_119 : decode b_B_numbersHold 119 = .ok (.goto 4, 3) := by decide +kernel
theorem d_B_numbersHold_122 : decode b_B_numbersHold 122 = .ok (.iconst 0, 1) := by decide +kernel
theorem d_B_numbersHold_123 : decode b_B_numbersHold 123 = .ok (.ireturn, 1) := by decide +kernel
theorem d_B_part_0 : decode b_B_part 0 = .ok (.aload_n 0, 1) := by decide +kernel
theorem d_B_part_1 : decode b_B_part 1 = .ok (.getfield 18, 3) := by decide +kernel
theorem d_B_part_4 : decode b_B_part 4 = .ok (.iload_n 1, 1) := by decide +kernel
theorem d_B_part_5 : decode b_B_part 5 = .ok (.iconst 4, 1) := by decide +kernel
theorem d_B_part_6 : decode b_B_part 6 = .ok (.imul, 1) := by decide +kernel
theorem d_B_part_7 : decode b_B_part 7 = .ok (.iload_n 2, 1) := by decide +kernel
theorem d_B_part_8 : decode b_B_part 8 = .ok (.iadd, 1) := by decide +kernel
theorem d_B_part_9 : decode b_B_part 9 = .ok (.iaload, 1) := by decide +kernel
theorem d_B_part_10 : decode b_B_part 10 = .ok (.ireturn, 1) := by decide +kernel
theorem d_B_isWellFormed_0 : decode b_B_isWellFormed 0 = .ok (.aload_n 0, 1) := by decide +kernel
theorem d_B_isWellFormed_1 : decode b_B_isWellFormed 1 = .ok (.invokevirtual 79, 3) := by decide +kernel
theorem d_B_isWellFormed_4 : decode b_B_isWellFormed 4 = .ok (.ifCond .ne 5, 3) := by decide +kernel
theorem d_B_isWellFormed_7 : decode b_B_isWellFormed 7 = .ok (.iconst 0, 1) := by decide +kernel
theorem d_B_isWellFormed_8 : decode b_B_isWellFormed 8 = .ok (.ireturn, 1) := by decide +kernel
theorem d_B_isWellFormed_9 : decode b_B_isWellFormed 9 = .ok (.iconst 0, 1) := by decide +kernel
theorem d_B_isWellFormed_10 : decode b_B_isWellFormed 10 = .ok (.istore_n 2, 1) := by decide +kernel
theorem d_B_isWellFormed_11 : decode b_B_isWellFormed 11 = .ok (.iload_n 2, 1) := by decide +kernel
theorem d_B_isWellFormed_12 : decode b_B_isWellFormed 12 = .ok (.aload_n 0, 1) := by decide +kernel
theorem d_B_isWellFormed_13 : decode b_B_isWellFormed 13 = .ok (.getfield 37, 3) := by decide +kernel
theorem d_B_isWellFormed_16 : decode b_B_isWellFormed 16 = .ok (.if_icmp .ge 28, 3) := by decide +kernel
theorem d_B_isWellFormed_19 : decode b_B_isWellFormed 19 = .ok (.aload_n 0, 1) := by decide +kernel
theorem d_B_isWellFormed_20 : decode b_B_isWellFormed 20 = .ok (.iload_n 2, 1) := by decide +kernel
theorem d_B_isWellFormed_21 : decode b_B_isWellFormed 21 = .ok (.invokevirtual 83, 3) := by decide +kernel
theorem d_B_isWellFormed_24 : decode b_B_isWellFormed 24 = .ok (.ifCond .eq 14, 3) := by decide +kernel
theorem d_B_isWellFormed_27 : decode b_B_isWellFormed 27 = .ok (.aload_n 0, 1) := by decide +kernel
theorem d_B_isWellFormed_28 : decode b_B_isWellFormed 28 = .ok (.iload_n 2, 1) := by decide +kernel
theorem d_B_isWellFormed_29 : decode b_B_isWellFormed 29 = .ok (.iload_n 1, 1) := by decide +kernel
theorem d_B_isWellFormed_30 : decode b_B_isWellFormed 30 = .ok (.invokevirtual 86, 3) := by decide +kernel
theorem d_B_isWellFormed_33 : decode b_B_isWellFormed 33 = .ok (.ifCond .ne 5, 3) := by decide +kernel
theorem d_B_isWellFormed_36 : decode b_B_isWellFormed 36 = .ok (.iconst 0, 1) := by decide +kernel
theorem d_B_isWellFormed_37 : decode b_B_isWellFormed 37 = .ok (.ireturn, 1) := by decide +kernel
theorem d_B_isWellFormed_38 : decode b_B_isWellFormed 38 = .ok (.iinc 2 1, 3) := by decide +kernel
theorem d_B_isWellFormed_41 : decode b_B_isWellFormed 41 = .ok (.goto (-30), 3) := by decide +kernel
theorem d_B_isWellFormed_44 : decode b_B_isWellFormed 44 = .ok (.iconst 0, 1) := by decide +kernel
theorem d_B_isWellFormed_45 : decode b_B_isWellFormed 45 = .ok (.istore_n 2, 1) := by decide +kernel
theorem d_B_isWellFormed_46 : decode b_B_isWellFormed 46 = .ok (.iload_n 2, 1) := by decide +kernel
theorem d_B_isWellFormed_47 : decode b_B_isWellFormed 47 = .ok (.aload_n 0, 1) := by decide +kernel
theorem d_B_isWellFormed_48 : decode b_B_isWellFormed 48 = .ok (.getfield 40, 3) := by decide +kernel
theorem d_B_isWellFormed_51 : decode b_B_isWellFormed 51 = .ok (.if_icmp .ge 82, 3) := by decide +kernel
theorem d_B_isWellFormed_54 : decode b_B_isWellFormed 54 = .ok (.aload_n 0, 1) := by decide +kernel
theorem d_B_isWellFormed_55 : decode b_B_isWellFormed 55 = .ok (.iload_n 2, 1) := by decide +kernel
theorem d_B_isWellFormed_56 : decode b_B_isWellFormed 56 = .ok (.iconst 1, 1) := by decide +kernel
theorem d_B_isWellFormed_57 : decode b_B_isWellFormed 57 = .ok (.invokevirtual 55, 3) := by decide +kernel
theorem d_B_isWellFormed_60 : decode b_B_isWellFormed 60 = .ok (.istore_n 3, 1) := by decide +kernel
theorem d_B_isWellFormed_61 : decode b_B_isWellFormed 61 = .ok (.iload_n 3, 1) := by decide +kernel
theorem d_B_isWellFormed_62 : decode b_B_isWellFormed 62 = .ok (.aload_n 0, 1) := by decide +kernel
theorem d_B_isWellFormed_63 : decode b_B_isWellFormed 63 = .ok (.iload_n 2, 1) := by decide +kernel
theorem d_B_isWellFormed_64 : decode b_B_isWellFormed 64 = .ok (.iconst 0, 1) := by decide +kernel
theorem d_B_isWellFormed_65 : decode b_B_isWellFormed 65 = .ok (.invokevirtual 55, 3) := by decide +kernel
theorem d_B_isWellFormed_68 : decode b_B_isWellFormed 68 = .ok (.if_icmp .le 23, 3) := by decide +kernel
theorem d_B_isWellFormed_71 : decode b_B_isWellFormed 71 = .ok (.iload_n 3, 1) := by decide +kernel
theorem d_B_isWellFormed_72 : decode b_B_isWellFormed 72 = .ok (.aload_n 0, 1) := by decide +kernel
theorem d_B_isWellFormed_73 : decode b_B_isWellFormed 73 = .ok (.getfield 37, 3) := by decide +kernel
theorem d_B_isWellFormed_76 : decode b_B_isWellFormed 76 = .ok (.if_icmp .eq 11, 3) := by decide +kernel
theorem d_B_isWellFormed_79 : decode b_B_isWellFormed 79 = .ok (.aload_n 0, 1) := by decide +kernel
theorem d_B_isWellFormed_80 : decode b_B_isWellFormed 80 = .ok (.iload_n 3, 1) := by decide +kernel
theorem d_B_isWellFormed_81 : decode b_B_isWellFormed 81 = .ok (.invokevirtual 83, 3) := by decide +kernel
theorem d_B_isWellFormed_84 : decode b_B_isWellFormed 84 = .ok (.ifCond .eq 7, 3) := by decide +kernel
theorem d_B_isWellFormed_87 : decode b_B_isWellFormed 87 = .ok (.iconst 1, 1) := by decide +kernel
theorem d_B_isWellFormed_88 : decode b_B_isWellFormed 88 = .ok (.goto 4, 3) := by decide +kernel
theorem d_B_isWellFormed_91 : decode b_B_isWellFormed 91 = .ok (.iconst 0, 1) := by decide +kernel
theorem d_B_isWellFormed_92 : decode b_B_isWellFormed 92 = .ok (.istore 4, 2) := by decide +kernel
theorem d_B_isWellFormed_94 : decode b_B_isWellFormed 94 = .ok (.aload_n 0, 1) := by decide +kernel
theorem d_B_isWellFormed_95 : decode b_B_isWellFormed 95 = .ok (.aload_n 0, 1) := by decide +kernel
theorem d_B_isWellFormed_96 : decode b_B_isWellFormed 96 = .ok (.iload_n 2, 1) := by decide +kernel
theorem d_B_isWellFormed_97 : decode b_B_isWellFormed 97 = .ok (.iconst 0, 1) := by decide +kernel
theorem d_B_isWellFormed_98 : decode b_B_isWellFormed 98 = .ok (.invokevirtual 55, 3) := by decide +kernel
theorem d_B_isWellFormed_101 : decode b_B_isWellFormed 101 = .ok (.invokevirtual 83, 3) := by decide +kernel
theorem d_B_isWellFormed_104 : decode b_B_isWellFormed 104 = .ok (.ifCond .eq 21, 3) := by decide +kernel
theorem d_B_isWellFormed_107 : decode b_B_isWellFormed 107 = .ok (.aload_n 0, 1) := by decide +kernel
theorem d_B_isWellFormed_108 : decode b_B_isWellFormed 108 = .ok (.aload_n 0, 1) := by decide +kernel
theorem d_B_isWellFormed_109 : decode b_B_isWellFormed 109 = .ok (.iload_n 2, 1) := by decide +kernel
theorem d_B_isWellFormed_110 : decode b_B_isWellFormed 110 = .ok (.iconst 2, 1) := by decide +kernel
theorem d_B_isWellFormed_111 : decode b_B_isWellFormed 111 = .ok (.invokevirtual 55, 3) := by decide +kernel
theorem d_B_isWellFormed_114 : decode b_B_isWellFormed 114 = .ok (.invokevirtual 83, 3) := by decide +kernel
theorem d_B_isWellFormed_117 : decode b_B_isWellFormed 117 = .ok (.ifCond .eq 8, 3) := by decide +kernel
theorem d_B_isWellFormed_120 : decode b_B_isWellFormed 120 = .ok (.iload 4, 2) := by decide +kernel
theorem d_B_isWellFormed_122 : decode b_B_isWellFormed 122 = .ok (.ifCond .ne 5, 3) := by decide +kernel
theorem d_B_isWellFormed_125 : decode b_B_isWellFormed 125 = .ok (.iconst 0, 1) := by decide +kernel
theorem d_B_isWellFormed_126 : decode b_B_isWellFormed 126 = .ok (.ireturn, 1) := by decide +kernel
theorem d_B_isWellFormed_127 : decode b_B_isWellFormed 127 = .ok (.iinc 2 1, 3) := by decide +kernel
theorem d_B_isWellFormed_130 : decode b_B_isWellFormed 130 = .ok (.goto (-84), 3) := by decide +kernel
theorem d_B_isWellFormed_133 : decode b_B_isWellFormed 133 = .ok (.iconst 1, 1) := by decide +kernel
theorem d_B_isWellFormed_134 : decode b_B_isWellFormed 134 = .ok (.ireturn, 1) := by decide +kernel
theorem d_B_isReached_0 : decode b_B_isReached 0 = .ok (.iload_n 1, 1) := by decide +kernel
theorem d_B_isReached_1 : decode b_B_isReached 1 = .ok (.ifCond .lt 24, 3) := by decide +kernel
theorem d_B_isReached_4 : decode b_B_isReached 4 = .ok (.iload_n 1, 1) := by decide +kernel
theorem d_B_isReached_5 : decode b_B_isReached 5 = .ok (.aload_n 0, 1) := by decide +kernel
theorem d_B_isReached_6 : decode b_B_isReached 6 = .ok (.getfield 37, 3) := by decide +kernel
theorem d_B_isReached_9 : decode b_B_isReached 9 = .ok (.if_icmp .ge 16, 3) := by decide +kernel
theorem d_B_isReached_12 : decode b_B_isReached 12 = .ok (.aload_n 0, 1) := by decide +kernel
theorem d_B_isReached_13 : decode b_B_isReached 13 = .ok (.getfield 15, 3) := by decide +kernel
theorem d_B_isReached_16 : decode b_B_isReached 16 = .ok (.iload_n 1, 1) := by decide +kernel
theorem d_B_isReached_17 : decode b_B_isReached 17 = .ok (.iaload, 1) := by decide +kernel
theorem d_B_isReached_18 : decode b_B_isReached 18 = .ok (.ifCond .lt 7, 3) := by decide +kernel
theorem d_B_isReached_21 : decode b_B_isReached 21 = .ok (.iconst 1, 1) := by decide +kernel
theorem d_B_isReached_22 : decode b_B_isReached 22 = .ok (.goto 4, 3) := by decide +kernel
theorem d_B_isReached_25 : decode b_B_isReached 25 = .ok (.iconst 0, 1) := by decide +kernel
theorem d_B_isReached_26 : decode b_B_isReached 26 = .ok (.ireturn, 1) := by decide +kernel
theorem d_B_covers_0 : decode b_B_covers 0 = .ok (.iload_n 1, 1) := by decide +kernel
theorem d_B_covers_1 : decode b_B_covers 1 = .ok (.iconst 4, 1) := by decide +kernel
theorem d_B_covers_2 : decode b_B_covers 2 = .ok (.imul, 1) := by decide +kernel
theorem d_B_covers_3 : decode b_B_covers 3 = .ok (.istore_n 3, 1) := by decide +kernel
theorem d_B_covers_4 : decode b_B_covers 4 = .ok (.aload_n 0, 1) := by decide +kernel
theorem d_B_covers_5 : decode b_B_covers 5 = .ok (.getfield 18, 3) := by decide +kernel
theorem d_B_covers_8 : decode b_B_covers 8 = .ok (.iload_n 3, 1) := by decide +kernel
theorem d_B_covers_9 : decode b_B_covers 9 = .ok (.iconst 0, 1) := by decide +kernel
theorem d_B_covers_10 : decode b_B_covers 10 = .ok (.iadd, 1) := by decide +kernel
theorem d_B_covers_11 : decode b_B_covers 11 = .ok (.iaload, 1) := by decide +kernel
theorem d_B_covers_12 : decode b_B_covers 12 = .ok (.iload_n 2, 1) := by decide +kernel
theorem d_B_covers_13 : decode b_B_covers 13 = .ok (.if_icmp .gt 19, 3) := by decide +kernel
theorem d_B_covers_16 : decode b_B_covers 16 = .ok (.iload_n 2, 1) := by decide +kernel
theorem d_B_covers_17 : decode b_B_covers 17 = .ok (.aload_n 0, 1) := by decide +kernel
theorem d_B_covers_18 : decode b_B_covers 18 = .ok (.getfield 18, 3) := by decide +kernel
theorem d_B_covers_21 : decode b_B_covers 21 = .ok (.iload_n 3, 1) := by decide +kernel
theorem d_B_covers_22 : decode b_B_covers 22 = .ok (.iconst 1, 1) := by decide +kernel
theorem d_B_covers_23 : decode b_B_covers 23 = .ok (.iadd, 1) := by decide +kernel
theorem d_B_covers_24 : decode b_B_covers 24 = .ok (.iaload, 1) := by decide +kernel
theorem d_B_covers_25 : decode b_B_covers 25 = .ok (.if_icmp .ge 7, 3) := by decide +kernel
theorem d_B_covers_28 : decode b_B_covers 28 = .ok (.iconst 1, 1) := by decide +kernel
theorem d_B_covers_29 : decode b_B_covers 29 = .ok (.goto 4, 3) := by decide +kernel
theorem d_B_covers_32 : decode b_B_covers 32 = .ok (.iconst 0, 1) := by decide +kernel
theorem d_B_covers_33 : decode b_B_covers 33 = .ok (.ireturn, 1) := by decide +kernel
theorem d_B_become_0 : decode b_B_become 0 = .ok (.aload_n 0, 1) := by decide +kernel
theorem d_B_become_1 : decode b_B_become 1 = .ok (.aload_n 1, 1) := by decide +kernel
theorem d_B_become_2 : decode b_B_become 2 = .ok (.getfield 25, 3) := by decide +kernel
theorem d_B_become_5 : decode b_B_become 5 = .ok (.putfield 25, 3) := by decide +kernel
theorem d_B_become_8 : decode b_B_become 8 = .ok (.aload_n 0, 1) := by decide +kernel
theorem d_B_become_9 : decode b_B_become 9 = .ok (.aload_n 1, 1) := by decide +kernel
theorem d_B_become_10 : decode b_B_become 10 = .ok (.getfield 28, 3) := by decide +kernel
theorem d_B_become_13 : decode b_B_become 13 = .ok (.putfield 28, 3) := by decide +kernel
theorem d_B_become_16 : decode b_B_become 16 = .ok (.aload_n 0, 1) := by decide +kernel
theorem d_B_become_17 : decode b_B_become 17 = .ok (.aload_n 1, 1) := by decide +kernel
theorem d_B_become_18 : decode b_B_become 18 = .ok (.getfield 31, 3) := by decide +kernel
theorem d_B_become_21 : decode b_B_become 21 = .ok (.putfield 31, 3) := by decide +kernel
theorem d_B_become_24 : decode b_B_become 24 = .ok (.aload_n 0, 1) := by decide +kernel
theorem d_B_become_25 : decode b_B_become 25 = .ok (.aload_n 1, 1) := by decide +kernel
theorem d_B_become_26 : decode b_B_become 26 = .ok (.getfield 34, 3) := by decide +kernel
theorem d_B_become_29 : decode b_B_become 29 = .ok (.putfield 34, 3) := by decide +kernel
theorem d_B_become_32 : decode b_B_become 32 = .ok (.aload_n 0, 1) := by decide +kernel
theorem d_B_become_33 : decode b_B_become 33 = .ok (.aload_n 1, 1) := by decide +kernel
theorem d_B_become_34 : decode b_B_become 34 = .ok (.getfield 37, 3) := by decide +kernel
theorem d_B_become_37 : decode b_B_become 37 = .ok (.putfield 37, 3) := by decide +kernel
theorem d_B_become_40 : decode b_B_become 40 = .ok (.aload_n 0, 1) := by decide +kernel
theorem d_B_become_41 : decode b_B_become 41 = .ok (.aload_n 1, 1) := by decide +kernel
theorem d_B_become_42 : decode b_B_become 42 = .ok (.getfield 40, 3) := by decide +kernel
theorem d_B_become_45 : decode b_B_become 45 = .ok (.putfield 40, 3) := by decide +kernel
theorem d_B_become_48 : decode b_B_become 48 = .ok (.aload_n 0, 1) := by decide +kernel
theorem d_B_become_49 : decode b_B_become 49 = .ok (.aload_n 1, 1) := by decide +kernel
theorem d_B_become_50 : decode b_B_become 50 = .ok (.getfield 43, 3) := by decide +kernel
theorem d_B_become_53 : decode b_B_become 53 = .ok (.putfield 43, 3) := by decide +kernel
theorem d_B_become_56 : decode b_B_become 56 = .ok (.aload_n 0, 1) := by decide +kernel
theorem d_B_become_57 : decode b_B_become 57 = .ok (.aload_n 1, 1) := by decide +kernel
theorem d_B_become_58 : decode b_B_become 58 = .ok (.getfield 46, 3) := by decide +kernel
theorem d_B_become_61 : decode b_B_become 61 = .ok (.putfield 46, 3) := by decide +kernel
theorem d_B_become_64 : decode b_B_become 64 = .ok (.aload_n 1, 1) := by decide +kernel
theorem d_B_become_65 : decode b_B_become 65 = .ok (.getfield 9, 3) := by decide +kernel
theorem d_B_become_68 : decode b_B_become 68 = .ok (.iconst 0, 1) := by decide +kernel
theorem d_B_become_69 : decode b_B_become 69 = .ok (.aload_n 0, 1) := by decide +kernel
theorem d_B_become_70 : decode b_B_become 70 = .ok (.getfield 9, 3) := by decide +kernel
theorem d_B_become_73 : decode b_B_become 73 = .ok (.iconst 0, 1) := by decide +kernel
theorem d_B_become_74 : decode b_B_become 74 = .ok (.aload_n 0, 1) := by decide +kernel
theorem d_B_become_75 : decode b_B_become 75 = .ok (.getfield 37, 3) := by decide +kernel
theorem d_B_become_78 : decode b_B_become 78 = .ok (.invokestatic 49, 3) := by decide +kernel
theorem d_B_become_81 : decode b_B_become 81 = .ok (.aload_n 1, 1) := by decide +kernel
theorem d_B_become_82 : decode b_B_become 82 = .ok (.getfield 15, 3) := by decide +kernel
theorem d_B_become_85 : decode b_B_become 85 = .ok (.iconst 0, 1) := by decide +kernel
theorem d_B_become_86 : decode b_B_become 86 = .ok (.aload_n 0, 1) := by decide +kernel
theorem d_B_become_87 : decode b_B_become 87 = .ok (.getfield 15, 3) := by decide +kernel
theorem d_B_become_90 : decode b_B_become 90 = .ok (.iconst 0, 1) := by decide +kernel
theorem d_B_become_91 : decode b_B_become 91 = .ok (.aload_n 0, 1) := by decide +kernel
theorem d_B_become_92 : decode b_B_become 92 = .ok (.getfield 37, 3) := by decide +kernel
theorem d_B_become_95 : decode b_B_become 95 = .ok (.invokestatic 49, 3) := by decide +kernel
theorem d_B_become_98 : decode b_B_become 98 = .ok (.aload_n 1, 1) := by decide +kernel
theorem d_B_become_99 : decode b_B_become 99 = .ok (.getfield 18, 3) := by decide +kernel
theorem d_B_become_102 : decode b_B_become 102 = .ok (.iconst 0, 1) := by decide +kernel
theorem d_B_become_103 : decode b_B_become 103 = .ok (.aload_n 0, 1) := by decide +kernel
theorem d_B_become_104 : decode b_B_become 104 = .ok (.getfield 18, 3) := by decide +kernel
theorem d_B_become_107 : decode b_B_become 107 = .ok (.iconst 0, 1) := by decide +kernel
theorem d_B_become_108 : decode b_B_become 108 = .ok (.aload_n 0, 1) := by decide +kernel
theorem d_B_become_109 : decode b_B_become 109 = .ok (.getfield 40, 3) := by decide +kernel
theorem d_B_become_112 : decode b_B_become 112 = .ok (.iconst 4, 1) := by decide +kernel
theorem d_B_become_113 : decode b_B_become 113 = .ok (.imul, 1) := by decide +kernel
theorem d_B_become_114 : decode b_B_become 114 = .ok (.invokestatic 49, 3) := by decide +kernel
theorem d_B_become_117 : decode b_B_become 117 = .ok (.return_, 1) := by decide +kernel
theorem d_B_catcherOf_0 : decode b_B_catcherOf 0 = .ok (.iconst 0, 1) := by decide +kernel
theorem d_B_catcherOf_1 : decode b_B_catcherOf 1 = .ok (.istore_n 3, 1) := by decide +kernel
theorem d_B_catcherOf_2 : decode b_B_catcherOf 2 = .ok (.iload_n 3, 1) := by decide +kernel
theorem d_B_catcherOf_3 : decode b_B_catcherOf 3 = .ok (.aload_n 0, 1) := by decide +kernel
theorem d_B_catcherOf_4 : decode b_B_catcherOf 4 = .ok (.getfield 40, 3) := by decide +kernel
theorem d_B_catcherOf_7 : decode b_B_catcherOf 7 = .ok (.if_icmp .ge 44, 3) := by decide +kernel
theorem d_B_catcherOf_10 : decode b_B_catcherOf 10 = .ok (.aload_n 0, 1) := by decide +kernel
theorem d_B_catcherOf_11 : decode b_B_catcherOf 11 = .ok (.iload_n 3, 1) := by decide +kernel
theorem d_B_catcherOf_12 : decode b_B_catcherOf 12 = .ok (.iconst 3, 1) := by decide +kernel
theorem d_B_catcherOf_13 : decode b_B_catcherOf 13 = .ok (.invokevirtual 55, 3) := by decide +kernel
theorem d_B_catcherOf_16 : decode b_B_catcherOf 16 = .ok (.istore 4, 2) := by decide +kernel
theorem d_B_catcherOf_18 : decode b_B_catcherOf 18 = .ok (.aload_n 0, 1) := by decide +kernel
theorem d_B_catcherOf_19 : decode b_B_catcherOf 19 = .ok (.iload_n 3, 1) := by decide +kernel
theorem d_B_catcherOf_20 : decode b_B_catcherOf 20 = .ok (.iload_n 1, 1) := by decide +kernel
theorem d_B_catcherOf_21 : decode b_B_catcherOf 21 = .ok (.invokevirtual 59, 3) := by decide +kernel
theorem d_B_catcherOf_24 : decode b_B_catcherOf 24 = .ok (.ifCond .eq 21, 3) := by decide +kernel
theorem d_B_catcherOf_27 : decode b_B_catcherOf 27 = .ok (.iload 4, 2) := by decide +kernel
theorem d_B_catcherOf_29 : decode b_B_catcherOf 29 = .ok (.ifCond .eq 9, 3) := by decide +kernel
theorem d_B_catcherOf_32 : decode b_B_catcherOf 32 = .ok (.iload 4, 2) := by decide +kernel
theorem d_B_catcherOf_34 : decode b_B_catcherOf 34 = .ok (.iload_n 2, 1) := by decide +kernel
theorem d_B_catcherOf_35 : decode b_B_catcherOf 35 = .ok (.if_icmp .ne 10, 3) := by decide +kernel
theorem d_B_catcherOf_38 : decode b_B_catcherOf 38 = .ok (.aload_n 0, 1) := by decide +kernel
theorem d_B_catcherOf_39 : decode b_B_catcherOf 39 = .ok (.iload_n 3, 1) := by decide +kernel
theorem d_B_catcherOf_40 : decode b_B_catcherOf 40 = .ok (.iconst 2, 1) := by decide +kernel
theorem d_B_catcherOf_41 : decode b_B_catcherOf 41 = .ok (.invokevirtual 55, 3) := by decide +kernel
theorem d_B_catcherOf_44 : decode b_B_catcherOf 44 = .ok (.ireturn, 1) := by decide +kernel
theorem d_B_catcherOf_45 : decode b_B_catcherOf 45 = .ok (.iinc 3 1, 3) := by decide +kernel
theorem d_B_catcherOf_48 : decode b_B_catcherOf 48 = .ok (.goto (-46), 3) := by decide +kernel
theorem d_B_catcherOf_51 : decode b_B_catcherOf 51 = .ok (.iconst (-1), 1) := by decide +kernel
theorem d_B_catcherOf_52 : decode b_B_catcherOf 52 = .ok (.ireturn, 1) := by decide +kernel
def f_B_addHandler (fu : Nat) (s0 : xw_S) (b0 : Nat) (p1 : Int) (p2 : Int) (p3 : Int) (p4 : Int) : Option xw_S :=
 xw_grd (xw_r (s0.1 (48 + 4 * b0) 9) ∧ xw_r (s0.1 (48 + 4 * b0) 3)) (xw_if (s0.1 (48 + 4 * b0) 9 < s0.1 (48 + 4 * b0) 3) (xw_let ((s0.1 (48 + 4 * b0) 9) * 4) (fun v3 => xw_grd ((0 ≤ v3 + 0 ∧ v3 + 0 < ((xb_hc b0 : Nat) : Int))) (xw_let (xw_st s0 (51 + 4 * b0) (v3 + 0).toNat p1) (fun s6 => xw_grd ((0 ≤ v3 + 1 ∧ v3 + 1 < ((xb_hc b0 : Nat) : Int))) (xw_let (xw_st s6 (51 + 4 * b0) (v3 + 1).toNat p2) (fun s9 => xw_grd ((0 ≤ v3 + 2 ∧ v3 + 2 < ((xb_hc b0 : Nat) : Int))) (xw_let (xw_st s9 (51 + 4 * b0) (v3 + 2).toNat p3) (fun s12 => xw_grd ((0 ≤ v3 + 3 ∧ v3 + 3 < ((xb_hc b0 : Nat) : Int))) (xw_let (xw_st s12 (51 + 4 * b0) (v3 + 3).toNat p4) (fun s15 => xw_let (xw_st s15 (48 + 4 * b0) 9 ((s15.1 (48 + 4 * b0) 9) + 1)) (fun s17 => some s17)))))))))))
 (some s0))
set_option maxRecDepth 100000 in
set_option maxHeartbeats 4000000 in
theorem c_B_addHandler (l : Launch) (D : va_G) (A : Nat → Prop) (ad : Nat → Nat) (cs : Nat → ClassId) (Z : va_W) (tt : Nat → Nat) (fu : Nat) (s0 sZ : xw_S) (b0 : Nat) (hb_b0 : b0 < 13) (p1 : Int) (p2 : Int) (p3 : Int) (p4 : Int) (h : f_B_addHandler fu s0 b0 p1 p2 p3 p4 = some sZ) : Met l y_B_addHandler w_B_addHandler ({ frames := 0, cells := 0, slots := 0, locals := 0 }) (va_Pc [.ref (ad (48 + 4 * b0)), .int (xw_i p1), .int (xw_i p2), .int (xw_i p3), .int (xw_i p4)] (xw_H D vwCl A kdC 100 ad cs Z tt s0)) (va_Qv (fun u => u = sZ) (xw_H D vwCl A kdC 100 ad cs Z tt) A) 0 0 A := by
  refine Met.ofW (cc := b_B_addHandler) (maxL := 6) (ret := none) (by decide) rfl ?_
  intro p e s m args below meth c s₁ B hml hv
  obtain ⟨rfl, hP, hK, hD, hX⟩ := hv
  have hx := B.exec
  have hb := B.bytes
  have hr := B.returns
  have hts0 := atoms_spec (ws := w_B_addHandler) B.pre
  have hts := fun w (hw : w ∈ wAll) => hts0 w (List.mem_cons_of_mem _ hw)
  have hown : s.vm.findClass "AdviceWeaver$Body" = some m.cls := findClass_of_methodNamed B.named
  have hlk := B.notSynchronized
  clear hts0 B
  have hS : va_S A s.heap s.heap [] := va_S.rf
  have hl := lv_entry [.ref (ad (48 + 4 * b0)), .int (xw_i p1), .int (xw_i p2), .int (xw_i p3), .int (xw_i p4)] (n := 6) (Nat.le_of_ble_eq_true rfl)
  rw [lg_entry_eq]
  generalize (lg_sl [.ref (ad (48 + 4 * b0)), .int (xw_i p1), .int (xw_i p2), .int (xw_i p3), .int (xw_i p4)] ++ List.replicate (6 - (lg_sl [.ref (ad (48 + 4 * b0)), .int (xw_i p1), .int (xw_i p2), .int (xw_i p3), .int (xw_i p4)]).length) Slot.unset).toArray = ls at hl ⊢
  have hl : lv_has ls 6 [(0, .ref (ad (48 + 4 * b0))), (1, .int (xw_i p1)), (2, .int (xw_i p2)), (3, .int (xw_i p3)), (4, .int (xw_i p4))] := hl
  unfold f_B_addHandler at h
  refine lv_aload_n hx hb d_B_addHandler_0 rfl (lv_at hl 0 rfl) ?_
  refine xw_getI (C := "AdviceWeaver$Body") (T := T_B) hx hb hts hin_B hown hK hP (by omega) (kc_Body b0 (by omega)) (by decide) rfl 9 (by decide) (hts _ hw_14) (fun _ h9 => h9) rfl d_B_addHandler_1 ?_
  refine lv_aload_n hx hb d_B_addHandler_4 rfl (lv_at hl 0 rfl) ?_
  refine xw_getI (C := "AdviceWeaver$Body") (T := T_B) hx hb hts hin_B hown hK hP (by omega) (kc_Body b0 (by omega)) (by decide) rfl 3 (by decide) (hts _ hw_15) (fun _ h9 => h9) rfl d_B_addHandler_5 ?_
  obtain ⟨hg1, h⟩ := xw_grdI h
  refine xw_icmp_lt (tgt := 12) hx hb hg1.1 hg1.2 d_B_addHandler_8 (by decide) (fun hc2 => ?_) (fun hc2 => ?_)
  · replace h := xw_ifT hc2 h
    refine lv_aload_n hx hb d_B_addHandler_12 rfl (lv_at hl 0 rfl) ?_
    refine xw_getI (C := "AdviceWeaver$Body") (T := T_B) hx hb hts hin_B hown hK hP (by omega) (kc_Body b0 (by omega)) (by decide) rfl 9 (by decide) (hts _ hw_14) (fun _ h9 => h9) rfl d_B_addHandler_13 ?_
    refine lv_iconst (v := xw_i 4) hx hb d_B_addHandler_16 rfl ?_
    refine xw_imul hx hb d_B_addHandler_17 ?_
    refine xw_topi (fun v3 e4 => ?_)
    replace h := xw_letI e4 h
    refine lv_istore hx hb d_B_addHandler_18 hl (by decide) rfl (fun ls hl => ?_)
    refine lv_aload_n hx hb d_B_addHandler_20 rfl (lv_at hl 1 rfl) ?_
    refine xw_getR (C := "AdviceWeaver$Body") (T := T_B) hx hb hts hin_B hown hK hP (by omega) (kc_Body b0 (by omega)) (by decide) rfl 2 (by decide) (hts _ hw_16) (fun _ h9 => h9) rfl d_B_addHandler_21 ?_
    refine lv_iload hx hb d_B_addHandler_24 (lv_at hl 0 rfl) ?_
    refine lv_iconst (v := xw_i 0) hx hb d_B_addHandler_26 rfl ?_
    refine xw_iadd hx hb d_B_addHandler_27 ?_
    refine lv_iload_n hx hb d_B_addHandler_28 rfl (lv_at hl 2 rfl) ?_
    obtain ⟨hg5, h⟩ := xw_grdI h
    refine xw_iast hx hb hK hP hD hS (by omega) (kc_bparts b0 (by omega)) (xb_hcL _) hg5 d_B_addHandler_29 (fun s6 e7 H locs hP hS => ?_)
    replace h := xw_letI e7 h
    refine lv_aload_n hx hb d_B_addHandler_30 rfl (lv_at hl 1 rfl) ?_
    refine xw_getR (C := "AdviceWeaver$Body") (T := T_B) hx hb hts hin_B hown hK hP (by omega) (kc_Body b0 (by omega)) (by decide) rfl 2 (by decide) (hts _ hw_16) (fun _ h9 => h9) rfl d_B_addHandler_31 ?_
    refine lv_iload hx hb d_B_addHandler_34 (lv_at hl 0 rfl) ?_
    refine lv_iconst (v := xw_i 1) hx hb d_B_addHandler_36 rfl ?_
    refine xw_iadd hx hb d_B_addHandler_37 ?_
    refine lv_iload_n hx hb d_B_addHandler_38 rfl (lv_at hl 3 rfl) ?_
    obtain ⟨hg8, h⟩ := xw_grdI h
    refine xw_iast hx hb hK hP hD hS (by omega) (kc_bparts b0 (by omega)) (xb_hcL _) hg8 d_B_addHandler_39 (fun s9 e10 H locs hP hS => ?_)
    replace h := xw_letI e10 h
    refine lv_aload_n hx hb d_B_addHandler_40 rfl (lv_at hl 1 rfl) ?_
    refine xw_getR (C := "AdviceWeaver$Body") (T := T_B) hx hb hts hin_B hown hK hP (by omega) (kc_Body b0 (by omega)) (by decide) rfl 2 (by decide) (hts _ hw_16) (fun _ h9 => h9) rfl d_B_addHandler_41 ?_
    refine lv_iload hx hb d_B_addHandler_44 (lv_at hl 0 rfl) ?_
    refine lv_iconst (v := xw_i 2) hx hb d_B_addHandler_46 rfl ?_
    refine xw_iadd hx hb d_B_addHandler_47 ?_
    refine lv_iload_n hx hb d_B_addHandler_48 rfl (lv_at hl 4 rfl) ?_
    obtain ⟨hg11, h⟩ := xw_grdI h
    refine xw_iast hx hb hK hP hD hS (by omega) (kc_bparts b0 (by omega)) (xb_hcL _) hg11 d_B_addHandler_49 (fun s12 e13 H locs hP hS => ?_)
    replace h := xw_letI e13 h
    refine lv_aload_n hx hb d_B_addHandler_50 rfl (lv_at hl 1 rfl) ?_
    refine xw_getR (C := "AdviceWeaver$Body") (T := T_B) hx hb hts hin_B hown hK hP (by omega) (kc_Body b0 (by omega)) (by decide) rfl 2 (by decide) (hts _ hw_16) (fun _ h9 => h9) rfl d_B_addHandler_51 ?_
    refine lv_iload hx hb d_B_addHandler_54 (lv_at hl 0 rfl) ?_
    refine lv_iconst (v := xw_i 3) hx hb d_B_addHandler_56 rfl ?_
    refine xw_iadd hx hb d_B_addHandler_57 ?_
    refine lv_iload hx hb d_B_addHandler_58 (lv_at hl 5 rfl) ?_
    obtain ⟨hg14, h⟩ := xw_grdI h
    refine xw_iast hx hb hK hP hD hS (by omega) (kc_bparts b0 (by omega)) (xb_hcL _) hg14 d_B_addHandler_60 (fun s15 e16 H locs hP hS => ?_)
    replace h := xw_letI e16 h
    refine lv_aload_n hx hb d_B_addHandler_61 rfl (lv_at hl 1 rfl) ?_
    refine lv_dup hx hb d_B_addHandler_62 rfl ?_
    refine xw_getI (C := "AdviceWeaver$Body") (T := T_B) hx hb hts hin_B hown hK hP (by omega) (kc_Body b0 (by omega)) (by decide) rfl 9 (by decide) (hts _ hw_14) (fun _ h9 => h9) rfl d_B_addHandler_63 ?_
    refine lv_iconst (v := xw_i 1) hx hb d_B_addHandler_66 rfl ?_
    refine xw_iadd hx hb d_B_addHandler_67 ?_
    refine xw_putI (C := "AdviceWeaver$Body") (T := T_B) hx hb hts hin_B ty_B ty_B_ok nm_B hown hK hP hD hS (by omega) (kc_Body b0 (by omega)) (by decide) rfl 9 (by decide) (hts _ hw_14) (fun _ h9 => h9) rfl (by decide +kernel) rfl d_B_addHandler_68 (fun s17 e18 H locs hP hS => ?_)
    replace h := xw_letI e18 h
    exact xw_vretE hx hb hr hlk hP hK hD hX hS h d_B_addHandler_71
  · replace h := xw_ifF hc2 h
    exact xw_vretE hx hb hr hlk hP hK hD hX hS h d_B_addHandler_11
def lp_B_findInstructions_9 (fu : Nat) (b0 : Nat) (k68 : xw_S → Int → Option (xw_S × Int)) : Nat → xw_S → Int → Int → Option (xw_S × Int)
  | 0, _, _, _ => none
  | n + 1, s3, i1_9, i2_9 =>
    xw_grd (xw_r i2_9 ∧ xw_r (s3.1 (48 + 4 * b0) 8)) (xw_if (s3.1 (48 + 4 * b0) 8 ≤ i2_9) (k68 s3 i1_9)
     (xw_jn (fun (s21 : xw_S) (i1_62 : Int) (i2_62 : Int) => xw_let (i2_62 + 1) (fun v22 => lp_B_findInstructions_9 fu b0 k68 n s21 i1_62 v22))
     (fun (j62 : xw_S → Int → Int → Option (xw_S × Int)) => xw_grd (xw_r i1_9) (xw_if (i2_9 = i1_9) (xw_grd ((0 ≤ i2_9 ∧ i2_9 < ((xb_cap b0 : Nat) : Int))) (xw_let (xw_st s3 (50 + 4 * b0) (i2_9).toNat (-1)) (fun s12 => xw_let (xw_st s12 (48 + 4 * b0) 10 ((s12.1 (48 + 4 * b0) 10) + 1)) (fun s14 => xw_bn2 (f_OP_size fu s14 (s14.1 (49 + 4 * b0) (i2_9).toNat)) (fun s16 r18 => xw_let (i2_9 + r18) (fun v19 => j62 s16 v19 i2_9))))))
     (xw_grd ((0 ≤ i2_9 ∧ i2_9 < ((xb_cap b0 : Nat) : Int))) (xw_let (xw_st s3 (50 + 4 * b0) (i2_9).toNat (-2)) (fun s9 => j62 s9 i1_9 i2_9)))))))
def f_B_findInstructions (fu : Nat) (s0 : xw_S) (b0 : Nat) : Option (xw_S × Int) :=
 xw_let (xw_st s0 (48 + 4 * b0) 10 0) (fun s1 => xw_jn (fun (s24 : xw_S) (i1_68 : Int) => xw_grd (xw_r i1_68 ∧ xw_r (s24.1 (48 + 4 * b0) 8)) (xw_if (i1_68 = s24.1 (48 + 4 * b0) 8) (some (s24, 1))
 (some (s24, 0))))
 (fun (k68 : xw_S → Int → Option (xw_S × Int)) => lp_B_findInstructions_9 fu b0 k68 fu s1 0 0))
set_option maxRecDepth 100000 in
set_option maxHeartbeats 4000000 in
theorem c_B_findInstructions (l : Launch) (D : va_G) (A : Nat → Prop) (ad : Nat → Nat) (cs : Nat → ClassId) (Z : va_W) (tt : Nat → Nat) (fu : Nat) (s0 sZ : xw_S) (b0 : Nat) (hb_b0 : b0 < 13) (r0 : Int) (h : f_B_findInstructions fu s0 b0 = some (sZ, r0)) : Met l y_B_findInstructions w_B_findInstructions ({ frames := 1, cells := 0, slots := 0, locals := 20 }) (va_Pc [.ref (ad (48 + 4 * b0))] (xw_H D vwCl A kdC 100 ad cs Z tt s0)) (va_Qi (fun r u => r = xw_i r0 ∧ u = sZ) (xw_H D vwCl A kdC 100 ad cs Z tt) A) 0 0 A := by
  refine Met.ofW (cc := b_B_findInstructions) (maxL := 3) (ret := (some .boolean)) (by decide) rfl ?_
  intro p e s m args below meth c s₁ B hml hv
  obtain ⟨rfl, hP, hK, hD, hX⟩ := hv
  have hx := B.exec
  have hb := B.bytes
  have hr := B.returns
  have hts0 := atoms_spec (ws := w_B_findInstructions) B.pre
  have hts := fun w (hw : w ∈ wAll) => hts0 w (List.mem_cons_of_mem _ hw)
  have hown : s.vm.findClass "AdviceWeaver$Body" = some m.cls := findClass_of_methodNamed B.named
  have hlk := B.notSynchronized
  clear hts0 B
  have hS : va_S A s.heap s.heap [] := va_S.rf
  have hl := lv_entry [.ref (ad (48 + 4 * b0))] (n := 3) (Nat.le_of_ble_eq_true rfl)
  rw [lg_entry_eq]
  generalize (lg_sl [.ref (ad (48 + 4 * b0))] ++ List.replicate (3 - (lg_sl [.ref (ad (48 + 4 * b0))]).length) Slot.unset).toArray = ls at hl ⊢
  have hl : lv_has ls 3 [(0, .ref (ad (48 + 4 * b0)))] := hl
  have hlp9 : ∀ (k68 : xw_S → Int → Option (xw_S × Int)) (hk68 : ∀ (sq : xw_S) (i1_68 : Int), k68 sq i1_68 = some (sZ, r0) → ∀ (H : Heap) (locs : List Loc) (ls : Array Slot), va_P D vwCl (xw_ws kdC 100 ad cs Z sq) H → va_S A s.heap H locs → lv_has ls 3 [(0, .ref (ad (48 + 4 * b0))), (1, .int (xw_i i1_68))] → W p l e (headSpec w_B_findInstructions ({ frames := 1, cells := 0, slots := 0, locals := 20 })).room s m [.ref (ad (48 + 4 * b0))].toArray below meth c H locs 0 0 (MQ below (va_Qi (fun r u => r = xw_i r0 ∧ u = sZ) (xw_H D vwCl A kdC 100 ad cs Z tt) A) [.ref (ad (48 + 4 * b0))].toArray s 0 0 A) (F0 m 68 ls [])) (n : Nat), ∀ (sq : xw_S) (i1_9 : Int) (i2_9 : Int), lp_B_findInstructions_9 fu b0 k68 n sq i1_9 i2_9 = some (sZ, r0) → ∀ (H : Heap) (locs : List Loc) (ls : Array Slot), va_P D vwCl (xw_ws kdC 100 ad cs Z sq) H → va_S A s.heap H locs → lv_has ls 3 [(0, .ref (ad (48 + 4 * b0))), (1, .int (xw_i i1_9)), (2, .int (xw_i i2_9))] → W p l e (headSpec w_B_findInstructions ({ frames := 1, cells := 0, slots := 0, locals := 20 })).room s m [.ref (ad (48 + 4 * b0))].toArray below meth c H locs 0 0 (MQ below (va_Qi (fun r u => r = xw_i r0 ∧ u = sZ) (xw_H D vwCl A kdC 100 ad cs Z tt) A) [.ref (ad (48 + 4 * b0))].toArray s 0 0 A) (F0 m 9 ls []) := by
    intro k68 hk68 n
    induction n with
    | zero =>
      intro sq i1_9 i2_9 h
      cases (show (none : Option (xw_S × Int)) = some (sZ, r0) from h)
    | succ n ih9 =>
      intro s3 i1_9 i2_9 h H locs ls hP hS hl
      unfold lp_B_findInstructions_9 at h
      refine lv_iload_n hx hb d_B_findInstructions_9 rfl (lv_at hl 2 rfl) ?_
      refine lv_aload_n hx hb d_B_findInstructions_10 rfl (lv_at hl 0 rfl) ?_
      refine xw_getI (C := "AdviceWeaver$Body") (T := T_B) hx hb hts hin_B hown hK hP (by omega) (kc_Body b0 (by omega)) (by decide) rfl 8 (by decide) (hts _ hw_43) (fun _ h9 => h9) rfl d_B_findInstructions_11 ?_
      obtain ⟨hg4, h⟩ := xw_grdI h
      refine xw_icmp_ge (tgt := 68) hx hb hg4.1 hg4.2 d_B_findInstructions_14 (by decide) (fun hc5 => ?_) (fun hc5 => ?_)
      · replace h := xw_ifT hc5 h
        exact hk68 s3 i1_9 h _ _ _ hP hS (lv_sub hl [0, 1] rfl)
      · replace h := xw_ifF hc5 h
        refine lv_iload_n hx hb d_B_findInstructions_17 rfl (lv_at hl 2 rfl) ?_
        refine lv_iload_n hx hb d_B_findInstructions_18 rfl (lv_at hl 1 rfl) ?_
        refine xw_jnI (fun j => ∀ (sq : xw_S) (i1_62 : Int) (i2_62 : Int), j sq i1_62 i2_62 = some (sZ, r0) → ∀ (H : Heap) (locs : List Loc) (ls : Array Slot), va_P D vwCl (xw_ws kdC 100 ad cs Z sq) H → va_S A s.heap H locs → lv_has ls 3 [(0, .ref (ad (48 + 4 * b0))), (1, .int (xw_i i1_62)), (2, .int (xw_i i2_62))] → W p l e (headSpec w_B_findInstructions ({ frames := 1, cells := 0, slots := 0, locals := 20 })).room s m [.ref (ad (48 + 4 * b0))].toArray below meth c H locs 0 0 (MQ below (va_Qi (fun r u => r = xw_i r0 ∧ u = sZ) (xw_H D vwCl A kdC 100 ad cs Z tt) A) [.ref (ad (48 + 4 * b0))].toArray s 0 0 A) (F0 m 62 ls [])) h ?_ ?_
        · intro s21 i1_62 i2_62 h H locs ls hP hS hl
          obtain ⟨v22, e23⟩ : ∃ z, z = i2_62 + 1 := ⟨_, rfl⟩
          replace h := xw_letI e23 h
          refine xw_iinc (lv' := [(2, .int (xw_i v22)), (0, .ref (ad (48 + 4 * b0))), (1, .int (xw_i i1_62))]) hx hb d_B_findInstructions_62 hl (k := 2) rfl (by decide) (by rw [e23]; rfl) (fun ls hl => ?_)
          refine lv_goto (tgt := 9) hx hb d_B_findInstructions_65 (by decide) ?_
          exact ih9 s21 i1_62 v22 h _ _ _ hP hS (lv_sub hl [1, 2, 0] rfl)
        · intro j62 hj62 h
          obtain ⟨hg6, h⟩ := xw_grdI h
          refine xw_icmp_ne (tgt := 54) hx hb hg4.1 hg6 d_B_findInstructions_19 (by decide) (fun hc7 => ?_) (fun hc7 => ?_)
          · replace h := xw_ifF hc7 h
            refine lv_aload_n hx hb d_B_findInstructions_54 rfl (lv_at hl 0 rfl) ?_
            refine xw_getR (C := "AdviceWeaver$Body") (T := T_B) hx hb hts hin_B hown hK hP (by omega) (kc_Body b0 (by omega)) (by decide) rfl 1 (by decide) (hts _ hw_44) (fun _ h9 => h9) rfl d_B_findInstructions_55 ?_
            refine lv_iload_n hx hb d_B_findInstructions_58 rfl (lv_at hl 2 rfl) ?_
            refine lv_bipush (v := xw_i (-2)) hx hb d_B_findInstructions_59 (by decide) ?_
            obtain ⟨hg8, h⟩ := xw_grdI h
            refine xw_iast hx hb hK hP hD hS (by omega) (kc_bdepths b0 (by omega)) (xb_capL _) hg8 d_B_findInstructions_61 (fun s9 e10 H locs hP hS => ?_)
            replace h := xw_letI e10 h
            exact hj62 s9 i1_9 i2_9 h _ _ _ hP hS (lv_sub hl [0, 1, 2] rfl)
          · replace h := xw_ifT hc7 h
            refine lv_aload_n hx hb d_B_findInstructions_22 rfl (lv_at hl 0 rfl) ?_
            refine xw_getR (C := "AdviceWeaver$Body") (T := T_B) hx hb hts hin_B hown hK hP (by omega) (kc_Body b0 (by omega)) (by decide) rfl 1 (by decide) (hts _ hw_44) (fun _ h9 => h9) rfl d_B_findInstructions_23 ?_
            refine lv_iload_n hx hb d_B_findInstructions_26 rfl (lv_at hl 2 rfl) ?_
            refine lv_iconst (v := xw_i (-1)) hx hb d_B_findInstructions_27 rfl ?_
            obtain ⟨hg11, h⟩ := xw_grdI h
            refine xw_iast hx hb hK hP hD hS (by omega) (kc_bdepths b0 (by omega)) (xb_capL _) hg11 d_B_findInstructions_28 (fun s12 e13 H locs hP hS => ?_)
            replace h := xw_letI e13 h
            refine lv_aload_n hx hb d_B_findInstructions_29 rfl (lv_at hl 0 rfl) ?_
            refine lv_dup hx hb d_B_findInstructions_30 rfl ?_
            refine xw_getI (C := "AdviceWeaver$Body") (T := T_B) hx hb hts hin_B hown hK hP (by omega) (kc_Body b0 (by omega)) (by decide) rfl 10 (by decide) (hts _ hw_42) (fun _ h9 => h9) rfl d_B_findInstructions_31 ?_
            refine lv_iconst (v := xw_i 1) hx hb d_B_findInstructions_34 rfl ?_
            refine xw_iadd hx hb d_B_findInstructions_35 ?_
            refine xw_putI (C := "AdviceWeaver$Body") (T := T_B) hx hb hts hin_B ty_B ty_B_ok nm_B hown hK hP hD hS (by omega) (kc_Body b0 (by omega)) (by decide) rfl 10 (by decide) (hts _ hw_42) (fun _ h9 => h9) rfl (by decide +kernel) rfl d_B_findInstructions_36 (fun s14 e15 H locs hP hS => ?_)
            replace h := xw_letI e15 h
            refine lv_iload_n hx hb d_B_findInstructions_39 rfl (lv_at hl 2 rfl) ?_
            refine lv_aload_n hx hb d_B_findInstructions_40 rfl (lv_at hl 0 rfl) ?_
            refine xw_getR (C := "AdviceWeaver$Body") (T := T_B) hx hb hts hin_B hown hK hP (by omega) (kc_Body b0 (by omega)) (by decide) rfl 0 (by decide) (hts _ hw_45) (fun _ h9 => h9) rfl d_B_findInstructions_41 ?_
            refine lv_iload_n hx hb d_B_findInstructions_44 rfl (lv_at hl 2 rfl) ?_
            refine xw_iald hx hb hK hP (by omega) (kc_bcode b0 (by omega)) (xb_capL _) hg11 d_B_findInstructions_45 ?_
            obtain ⟨s16, r18, hc17, h⟩ := xw_bn2I h
            refine xw_callSi ⟨hx, hb, hml, hown, hts⟩ (c_OP_size l D A ad cs Z tt fu s14 s16 (s14.1 (49 + 4 * b0) (i2_9).toNat) r18 hc17) (va_cwS 1 hts (gd_S hw_46 hw_47 hw_48 hw_49) rfl rfl rfl (by decide +kernel) ⟨Nat.le_of_ble_eq_true rfl, Nat.le_of_ble_eq_true rfl⟩) hP hK hD hX hS rfl hl.1 rfl (Nat.le_of_ble_eq_true rfl) d_B_findInstructions_46 (fun H locs hP hS => ?_)
            refine xw_iadd hx hb d_B_findInstructions_49 ?_
            refine xw_topi (fun v19 e20 => ?_)
            replace h := xw_letI e20 h
            refine lv_istore_n hx hb d_B_findInstructions_50 rfl hl (by decide) rfl (fun ls hl => ?_)
            refine lv_goto (tgt := 62) hx hb d_B_findInstructions_51 (by decide) ?_
            exact hj62 s16 v19 i2_9 h _ _ _ hP hS (lv_sub hl [1, 0, 2] rfl)
  unfold f_B_findInstructions at h
  refine lv_aload_n hx hb d_B_findInstructions_0 rfl (lv_at hl 0 rfl) ?_
  refine lv_iconst (v := xw_i 0) hx hb d_B_findInstructions_1 rfl ?_
  refine xw_putI (C := "AdviceWeaver$Body") (T := T_B) hx hb hts hin_B ty_B ty_B_ok nm_B hown hK hP hD hS (by omega) (kc_Body b0 (by omega)) (by decide) rfl 10 (by decide) (hts _ hw_42) (fun _ h9 => h9) rfl (by decide +kernel) rfl d_B_findInstructions_2 (fun s1 e2 H locs hP hS => ?_)
  replace h := xw_letI e2 h
  refine lv_iconst (v := xw_i 0) hx hb d_B_findInstructions_5 rfl ?_
  refine lv_istore_n hx hb d_B_findInstructions_6 rfl hl (by decide) rfl (fun ls hl => ?_)
  refine lv_iconst (v := xw_i 0) hx hb d_B_findInstructions_7 rfl ?_
  refine lv_istore_n hx hb d_B_findInstructions_8 rfl hl (by decide) rfl (fun ls hl => ?_)
  refine xw_jnI (fun j => ∀ (sq : xw_S) (i1_68 : Int), j sq i1_68 = some (sZ, r0) → ∀ (H : Heap) (locs : List Loc) (ls : Array Slot), va_P D vwCl (xw_ws kdC 100 ad cs Z sq) H → va_S A s.heap H locs → lv_has ls 3 [(0, .ref (ad (48 + 4 * b0))), (1, .int (xw_i i1_68))] → W p l e (headSpec w_B_findInstructions ({ frames := 1, cells := 0, slots := 0, locals := 20 })).room s m [.ref (ad (48 + 4 * b0))].toArray below meth c H locs 0 0 (MQ below (va_Qi (fun r u => r = xw_i r0 ∧ u = sZ) (xw_H D vwCl A kdC 100 ad cs Z tt) A) [.ref (ad (48 + 4 * b0))].toArray s 0 0 A) (F0 m 68 ls [])) h ?_ ?_
  · intro s24 i1_68 h H locs ls hP hS hl
    refine lv_iload_n hx hb d_B_findInstructions_68 rfl (lv_at hl 1 rfl) ?_
    refine lv_aload_n hx hb d_B_findInstructions_69 rfl (lv_at hl 0 rfl) ?_
    refine xw_getI (C := "AdviceWeaver$Body") (T := T_B) hx hb hts hin_B hown hK hP (by omega) (kc_Body b0 (by omega)) (by decide) rfl 8 (by decide) (hts _ hw_43) (fun _ h9 => h9) rfl d_B_findInstructions_70 ?_
    obtain ⟨hg25, h⟩ := xw_grdI h
    refine xw_icmp_ne (tgt := 80) hx hb hg25.1 hg25.2 d_B_findInstructions_73 (by decide) (fun hc26 => ?_) (fun hc26 => ?_)
    · replace h := xw_ifF hc26 h
      refine lv_iconst (v := xw_i 0) hx hb d_B_findInstructions_80 rfl ?_
      exact xw_zretE hx hb hr hlk hP hK hD hX hS h (by decide) d_B_findInstructions_81
    · replace h := xw_ifT hc26 h
      refine lv_iconst (v := xw_i 1) hx hb d_B_findInstructions_76 rfl ?_
      refine lv_goto (tgt := 81) hx hb d_B_findInstructions_77 (by decide) ?_
      exact xw_zretE hx hb hr hlk hP hK hD hX hS h (by decide) d_B_findInstructions_81
  · intro k68 hk68 h
    exact hlp9 k68 hk68 fu s1 0 0 h _ _ _ hP hS (lv_sub hl [2, 1, 0] rfl)
def f_B_begins (fu : Nat) (s0 : xw_S) (b0 : Nat) (p1 : Int) : Option (xw_S × Int) :=
 xw_grd (xw_r p1) (xw_if (p1 < 0) (some (s0, 0))
 (xw_grd (xw_r (s0.1 (48 + 4 * b0) 8)) (xw_if (s0.1 (48 + 4 * b0) 8 ≤ p1) (some (s0, 0))
 (xw_grd ((0 ≤ p1 ∧ p1 < ((xb_cap b0 : Nat) : Int))) (xw_grd (xw_r (s0.1 (50 + 4 * b0) (p1).toNat)) (xw_if (s0.1 (50 + 4 * b0) (p1).toNat = -2) (some (s0, 0))
 (some (s0, 1))))))))
set_option maxRecDepth 100000 in
set_option maxHeartbeats 4000000 in
theorem c_B_begins (l : Launch) (D : va_G) (A : Nat → Prop) (ad : Nat → Nat) (cs : Nat → ClassId) (Z : va_W) (tt : Nat → Nat) (fu : Nat) (s0 sZ : xw_S) (b0 : Nat) (hb_b0 : b0 < 13) (p1 : Int) (r0 : Int) (h : f_B_begins fu s0 b0 p1 = some (sZ, r0)) : Met l y_B_begins w_B_begins ({ frames := 0, cells := 0, slots := 0, locals := 0 }) (va_Pc [.ref (ad (48 + 4 * b0)), .int (xw_i p1)] (xw_H D vwCl A kdC 100 ad cs Z tt s0)) (va_Qi (fun r u => r = xw_i r0 ∧ u = sZ) (xw_H D vwCl A kdC 100 ad cs Z tt) A) 0 0 A := by
  refine Met.ofW (cc := b_B_begins) (maxL := 2) (ret := (some .boolean)) (by decide) rfl ?_
  intro p e s m args below meth c s₁ B hml hv
  obtain ⟨rfl, hP, hK, hD, hX⟩ := hv
  have hx := B.exec
  have hb := B.bytes
  have hr := B.returns
  have hts0 := atoms_spec (ws := w_B_begins) B.pre
  have hts := fun w (hw : w ∈ wAll) => hts0 w (List.mem_cons_of_mem _ hw)
  have hown : s.vm.findClass "AdviceWeaver$Body" = some m.cls := findClass_of_methodNamed B.named
  have hlk := B.notSynchronized
  clear hts0 B
  have hS : va_S A s.heap s.heap [] := va_S.rf
  have hl := lv_entry [.ref (ad (48 + 4 * b0)), .int (xw_i p1)] (n := 2) (Nat.le_of_ble_eq_true rfl)
  rw [lg_entry_eq]
  generalize (lg_sl [.ref (ad (48 + 4 * b0)), .int (xw_i p1)] ++ List.replicate (2 - (lg_sl [.ref (ad (48 + 4 * b0)), .int (xw_i p1)]).length) Slot.unset).toArray = ls at hl ⊢
  have hl : lv_has ls 2 [(0, .ref (ad (48 + 4 * b0))), (1, .int (xw_i p1))] := hl
  unfold f_B_begins at h
  refine lv_iload_n hx hb d_B_begins_0 rfl (lv_at hl 1 rfl) ?_
  obtain ⟨hg1, h⟩ := xw_grdI h
  refine xw_if_lt (tgt := 27) hx hb hg1 d_B_begins_1 (by decide) (fun hc2 => ?_) (fun hc2 => ?_)
  · replace h := xw_ifT hc2 h
    refine lv_iconst (v := xw_i 0) hx hb d_B_begins_27 rfl ?_
    exact xw_zretE hx hb hr hlk hP hK hD hX hS h (by decide) d_B_begins_28
  · replace h := xw_ifF hc2 h
    refine lv_iload_n hx hb d_B_begins_4 rfl (lv_at hl 1 rfl) ?_
    refine lv_aload_n hx hb d_B_begins_5 rfl (lv_at hl 0 rfl) ?_
    refine xw_getI (C := "AdviceWeaver$Body") (T := T_B) hx hb hts hin_B hown hK hP (by omega) (kc_Body b0 (by omega)) (by decide) rfl 8 (by decide) (hts _ hw_43) (fun _ h9 => h9) rfl d_B_begins_6 ?_
    obtain ⟨hg3, h⟩ := xw_grdI h
    refine xw_icmp_ge (tgt := 27) hx hb hg1 hg3 d_B_begins_9 (by decide) (fun hc4 => ?_) (fun hc4 => ?_)
    · replace h := xw_ifT hc4 h
      refine lv_iconst (v := xw_i 0) hx hb d_B_begins_27 rfl ?_
      exact xw_zretE hx hb hr hlk hP hK hD hX hS h (by decide) d_B_begins_28
    · replace h := xw_ifF hc4 h
      refine lv_aload_n hx hb d_B_begins_12 rfl (lv_at hl 0 rfl) ?_
      refine xw_getR (C := "AdviceWeaver$Body") (T := T_B) hx hb hts hin_B hown hK hP (by omega) (kc_Body b0 (by omega)) (by decide) rfl 1 (by decide) (hts _ hw_44) (fun _ h9 => h9) rfl d_B_begins_13 ?_
      refine lv_iload_n hx hb d_B_begins_16 rfl (lv_at hl 1 rfl) ?_
      obtain ⟨hg5, h⟩ := xw_grdI h
      refine xw_iald hx hb hK hP (by omega) (kc_bdepths b0 (by omega)) (xb_capL _) hg5 d_B_begins_17 ?_
      refine lv_bipush (v := xw_i (-2)) hx hb d_B_begins_18 (by decide) ?_
      obtain ⟨hg6, h⟩ := xw_grdI h
      refine xw_icmp_eq (tgt := 27) hx hb hg6 (by decide) d_B_begins_20 (by decide) (fun hc7 => ?_) (fun hc7 => ?_)
      · replace h := xw_ifT hc7 h
        refine lv_iconst (v := xw_i 0) hx hb d_B_begins_27 rfl ?_
        exact xw_zretE hx hb hr hlk hP hK hD hX hS h (by decide) d_B_begins_28
      · replace h := xw_ifF hc7 h
        refine lv_iconst (v := xw_i 1) hx hb d_B_begins_23 rfl ?_
        refine lv_goto (tgt := 28) hx hb d_B_begins_24 (by decide) ?_
        exact xw_zretE hx hb hr hlk hP hK hD hX hS h (by decide) d_B_begins_28
def f_B_byteAt (fu : Nat) (s0 : xw_S) (b0 : Nat) (p1 : Int) : Option (xw_S × Int) :=
 xw_grd (xw_r p1) (xw_if (p1 < 0) (some (s0, 0))
 (xw_grd (xw_r (s0.1 (48 + 4 * b0) 8)) (xw_if (s0.1 (48 + 4 * b0) 8 ≤ p1) (some (s0, 0))
 (xw_grd ((0 ≤ p1 ∧ p1 < ((xb_cap b0 : Nat) : Int))) (some (s0, s0.1 (49 + 4 * b0) (p1).toNat))))))
set_option maxRecDepth 100000 in
set_option maxHeartbeats 4000000 in
theorem c_B_byteAt (l : Launch) (D : va_G) (A : Nat → Prop) (ad : Nat → Nat) (cs : Nat → ClassId) (Z : va_W) (tt : Nat → Nat) (fu : Nat) (s0 sZ : xw_S) (b0 : Nat) (hb_b0 : b0 < 13) (p1 : Int) (r0 : Int) (h : f_B_byteAt fu s0 b0 p1 = some (sZ, r0)) : Met l y_B_byteAt w_B_byteAt ({ frames := 0, cells := 0, slots := 0, locals := 0 }) (va_Pc [.ref (ad (48 + 4 * b0)), .int (xw_i p1)] (xw_H D vwCl A kdC 100 ad cs Z tt s0)) (va_Qi (fun r u => r = xw_i r0 ∧ u = sZ) (xw_H D vwCl A kdC 100 ad cs Z tt) A) 0 0 A := by
  refine Met.ofW (cc := b_B_byteAt) (maxL := 2) (ret := (some .int)) (by decide) rfl ?_
  intro p e s m args below meth c s₁ B hml hv
  obtain ⟨rfl, hP, hK, hD, hX⟩ := hv
  have hx := B.exec
  have hb := B.bytes
  have hr := B.returns
  have hts0 := atoms_spec (ws := w_B_byteAt) B.pre
  have hts := fun w (hw : w ∈ wAll) => hts0 w (List.mem_cons_of_mem _ hw)
  have hown : s.vm.findClass "AdviceWeaver$Body" = some m.cls := findClass_of_methodNamed B.named
  have hlk := B.notSynchronized
  clear hts0 B
  have hS : va_S A s.heap s.heap [] := va_S.rf
  have hl := lv_entry [.ref (ad (48 + 4 * b0)), .int (xw_i p1)] (n := 2) (Nat.le_of_ble_eq_true rfl)
  rw [lg_entry_eq]
  generalize (lg_sl [.ref (ad (48 + 4 * b0)), .int (xw_i p1)] ++ List.replicate (2 - (lg_sl [.ref (ad (48 + 4 * b0)), .int (xw_i p1)]).length) Slot.unset).toArray = ls at hl ⊢
  have hl : lv_has ls 2 [(0, .ref (ad (48 + 4 * b0))), (1, .int (xw_i p1))] := hl
  unfold f_B_byteAt at h
  refine lv_iload_n hx hb d_B_byteAt_0 rfl (lv_at hl 1 rfl) ?_
  obtain ⟨hg1, h⟩ := xw_grdI h
  refine xw_if_lt (tgt := 21) hx hb hg1 d_B_byteAt_1 (by decide) (fun hc2 => ?_) (fun hc2 => ?_)
  · replace h := xw_ifT hc2 h
    refine lv_iconst (v := xw_i 0) hx hb d_B_byteAt_21 rfl ?_
    exact xw_iretE hx hb hr hlk hP hK hD hX hS h d_B_byteAt_22
  · replace h := xw_ifF hc2 h
    refine lv_iload_n hx hb d_B_byteAt_4 rfl (lv_at hl 1 rfl) ?_
    refine lv_aload_n hx hb d_B_byteAt_5 rfl (lv_at hl 0 rfl) ?_
    refine xw_getI (C := "AdviceWeaver$Body") (T := T_B) hx hb hts hin_B hown hK hP (by omega) (kc_Body b0 (by omega)) (by decide) rfl 8 (by decide) (hts _ hw_43) (fun _ h9 => h9) rfl d_B_byteAt_6 ?_
    obtain ⟨hg3, h⟩ := xw_grdI h
    refine xw_icmp_ge (tgt := 21) hx hb hg1 hg3 d_B_byteAt_9 (by decide) (fun hc4 => ?_) (fun hc4 => ?_)
    · replace h := xw_ifT hc4 h
      refine lv_iconst (v := xw_i 0) hx hb d_B_byteAt_21 rfl ?_
      exact xw_iretE hx hb hr hlk hP hK hD hX hS h d_B_byteAt_22
    · replace h := xw_ifF hc4 h
      refine lv_aload_n hx hb d_B_byteAt_12 rfl (lv_at hl 0 rfl) ?_
      refine xw_getR (C := "AdviceWeaver$Body") (T := T_B) hx hb hts hin_B hown hK hP (by omega) (kc_Body b0 (by omega)) (by decide) rfl 0 (by decide) (hts _ hw_45) (fun _ h9 => h9) rfl d_B_byteAt_13 ?_
      refine lv_iload_n hx hb d_B_byteAt_16 rfl (lv_at hl 1 rfl) ?_
      obtain ⟨hg5, h⟩ := xw_grdI h
      refine xw_iald hx hb hK hP (by omega) (kc_bcode b0 (by omega)) (xb_capL _) hg5 d_B_byteAt_17 ?_
      refine lv_goto (tgt := 22) hx hb d_B_byteAt_18 (by decide) ?_
      exact xw_iretE hx hb hr hlk hP hK hD hX hS h d_B_byteAt_22
def f_B_wayAt (fu : Nat) (s0 : xw_S) (b0 : Nat) (p1 : Int) : Option (xw_S × Int) :=
 xw_bn2 (f_B_byteAt fu s0 b0 (p1 + 1)) (fun s1 r3 => xw_bn2 (f_OP_signedByte fu s1 r3) (fun s4 r6 => xw_bn2 (f_B_byteAt fu s4 b0 p1) (fun s7 r9 => xw_bn2 (f_OP_isWideBranch fu s7 r9) (fun s10 r12 => xw_grd (xw_r r12) (xw_if (r12 = 0) (some (s10, r6))
 (xw_bn2 (f_B_byteAt fu s10 b0 (p1 + 2)) (fun s15 r17 => some (s15, (r6 * 256) + r17))))))))
set_option maxRecDepth 100000 in
set_option maxHeartbeats 4000000 in
theorem c_B_wayAt (l : Launch) (D : va_G) (A : Nat → Prop) (ad : Nat → Nat) (cs : Nat → ClassId) (Z : va_W) (tt : Nat → Nat) (fu : Nat) (s0 sZ : xw_S) (b0 : Nat) (hb_b0 : b0 < 13) (p1 : Int) (r0 : Int) (h : f_B_wayAt fu s0 b0 p1 = some (sZ, r0)) : Met l y_B_wayAt w_B_wayAt ({ frames := 1, cells := 0, slots := 0, locals := 21 }) (va_Pc [.ref (ad (48 + 4 * b0)), .int (xw_i p1)] (xw_H D vwCl A kdC 100 ad cs Z tt s0)) (va_Qi (fun r u => r = xw_i r0 ∧ u = sZ) (xw_H D vwCl A kdC 100 ad cs Z tt) A) 0 0 A := by
  refine Met.ofW (cc := b_B_wayAt) (maxL := 3) (ret := (some .int)) (by decide) rfl ?_
  intro p e s m args below meth c s₁ B hml hv
  obtain ⟨rfl, hP, hK, hD, hX⟩ := hv
  have hx := B.exec
  have hb := B.bytes
  have hr := B.returns
  have hts0 := atoms_spec (ws := w_B_wayAt) B.pre
  have hts := fun w (hw : w ∈ wAll) => hts0 w (List.mem_cons_of_mem _ hw)
  have hown : s.vm.findClass "AdviceWeaver$Body" = some m.cls := findClass_of_methodNamed B.named
  have hlk := B.notSynchronized
  clear hts0 B
  have hS : va_S A s.heap s.heap [] := va_S.rf
  have hl := lv_entry [.ref (ad (48 + 4 * b0)), .int (xw_i p1)] (n := 3) (Nat.le_of_ble_eq_true rfl)
  rw [lg_entry_eq]
  generalize (lg_sl [.ref (ad (48 + 4 * b0)), .int (xw_i p1)] ++ List.replicate (3 - (lg_sl [.ref (ad (48 + 4 * b0)), .int (xw_i p1)]).length) Slot.unset).toArray = ls at hl ⊢
  have hl : lv_has ls 3 [(0, .ref (ad (48 + 4 * b0))), (1, .int (xw_i p1))] := hl
  unfold f_B_wayAt at h
  refine lv_aload_n hx hb d_B_wayAt_0 rfl (lv_at hl 0 rfl) ?_
  refine lv_iload_n hx hb d_B_wayAt_1 rfl (lv_at hl 1 rfl) ?_
  refine lv_iconst (v := xw_i 1) hx hb d_B_wayAt_2 rfl ?_
  refine xw_iadd hx hb d_B_wayAt_3 ?_
  obtain ⟨s1, r3, hc2, h⟩ := xw_bn2I h
  refine xw_callVi (C := "AdviceWeaver$Body") (T := T_B) ⟨hx, hb, hml, hown, hts⟩ (c_B_byteAt l D A ad cs Z tt fu s0 s1 b0 (by omega) (p1 + 1) r3 hc2) (cwV 1 hts (gd_V hw_56 hw_57 hw_58 hw_25 hw_59) rfl rfl rfl (by decide +kernel) ⟨Nat.le_of_ble_eq_true rfl, Nat.le_of_ble_eq_true rfl⟩) hP hK hD hX hS (by omega) (kc_Body b0 (by omega)) (by decide) rfl rfl hl.1 rfl (Nat.le_of_ble_eq_true rfl) d_B_wayAt_4 (fun H locs hP hS => ?_)
  obtain ⟨s4, r6, hc5, h⟩ := xw_bn2I h
  refine xw_callSi ⟨hx, hb, hml, hown, hts⟩ (c_OP_signedByte l D A ad cs Z tt fu s1 s4 r3 r6 hc5) (va_cwS 1 hts (gd_S hw_60 hw_61 hw_48 hw_62) rfl rfl rfl (by decide +kernel) ⟨Nat.le_of_ble_eq_true rfl, Nat.le_of_ble_eq_true rfl⟩) hP hK hD hX hS rfl hl.1 rfl (Nat.le_of_ble_eq_true rfl) d_B_wayAt_7 (fun H locs hP hS => ?_)
  refine lv_istore_n hx hb d_B_wayAt_10 rfl hl (by decide) rfl (fun ls hl => ?_)
  refine lv_aload_n hx hb d_B_wayAt_11 rfl (lv_at hl 1 rfl) ?_
  refine lv_iload_n hx hb d_B_wayAt_12 rfl (lv_at hl 2 rfl) ?_
  obtain ⟨s7, r9, hc8, h⟩ := xw_bn2I h
  refine xw_callVi (C := "AdviceWeaver$Body") (T := T_B) ⟨hx, hb, hml, hown, hts⟩ (c_B_byteAt l D A ad cs Z tt fu s4 s7 b0 (by omega) p1 r9 hc8) (cwV 1 hts (gd_V hw_56 hw_57 hw_58 hw_25 hw_59) rfl rfl rfl (by decide +kernel) ⟨Nat.le_of_ble_eq_true rfl, Nat.le_of_ble_eq_true rfl⟩) hP hK hD hX hS (by omega) (kc_Body b0 (by omega)) (by decide) rfl rfl hl.1 rfl (Nat.le_of_ble_eq_true rfl) d_B_wayAt_13 (fun H locs hP hS => ?_)
  obtain ⟨s10, r12, hc11, h⟩ := xw_bn2I h
  refine xw_callSi ⟨hx, hb, hml, hown, hts⟩ (c_OP_isWideBranch l D A ad cs Z tt fu s7 s10 r9 r12 hc11) (va_cwS 1 hts (gd_S hw_63 hw_54 hw_48 hw_55) rfl rfl rfl (by decide +kernel) ⟨Nat.le_of_ble_eq_true rfl, Nat.le_of_ble_eq_true rfl⟩) hP hK hD hX hS rfl hl.1 rfl (Nat.le_of_ble_eq_true rfl) d_B_wayAt_16 (fun H locs hP hS => ?_)
  obtain ⟨hg13, h⟩ := xw_grdI h
  refine xw_if_eq (tgt := 38) hx hb hg13 d_B_wayAt_19 (by decide) (fun hc14 => ?_) (fun hc14 => ?_)
  · replace h := xw_ifT hc14 h
    refine lv_iload_n hx hb d_B_wayAt_38 rfl (lv_at hl 0 rfl) ?_
    exact xw_iretE hx hb hr hlk hP hK hD hX hS h d_B_wayAt_39
  · replace h := xw_ifF hc14 h
    refine lv_iload_n hx hb d_B_wayAt_22 rfl (lv_at hl 0 rfl) ?_
    refine lv_sipush (v := xw_i 256) hx hb d_B_wayAt_23 (by decide) ?_
    refine xw_imul hx hb d_B_wayAt_26 ?_
    refine lv_aload_n hx hb d_B_wayAt_27 rfl (lv_at hl 1 rfl) ?_
    refine lv_iload_n hx hb d_B_wayAt_28 rfl (lv_at hl 2 rfl) ?_
    refine lv_iconst (v := xw_i 2) hx hb d_B_wayAt_29 rfl ?_
    refine xw_iadd hx hb d_B_wayAt_30 ?_
    obtain ⟨s15, r17, hc16, h⟩ := xw_bn2I h
    refine xw_callVi (C := "AdviceWeaver$Body") (T := T_B) ⟨hx, hb, hml, hown, hts⟩ (c_B_byteAt l D A ad cs Z tt fu s10 s15 b0 (by omega) (p1 + 2) r17 hc16) (cwV 1 hts (gd_V hw_56 hw_57 hw_58 hw_25 hw_59) rfl rfl rfl (by decide +kernel) ⟨Nat.le_of_ble_eq_true rfl, Nat.le_of_ble_eq_true rfl⟩) hP hK hD hX hS (by omega) (kc_Body b0 (by omega)) (by decide) rfl rfl hl.1 rfl (Nat.le_of_ble_eq_true rfl) d_B_wayAt_31 (fun H locs hP hS => ?_)
    refine xw_iadd hx hb d_B_wayAt_34 ?_
    refine lv_goto (tgt := 39) hx hb d_B_wayAt_35 (by decide) ?_
    exact xw_iretE hx hb hr hlk hP hK hD hX hS h d_B_wayAt_39
def f_B_numbersHold (fu : Nat) (s0 : xw_S) (b0 : Nat) (p1 : Int) (p2 : Int) : Option (xw_S × Int) :=
 xw_bn2 (f_B_byteAt fu s0 b0 p1) (fun s1 r3 => xw_bn2 (f_OP_isBranch fu s1 r3) (fun s4 r6 => xw_grd (xw_r r6) (xw_if (r6 = 0) (xw_jn (fun (s24 : xw_S) => xw_bn2 (f_B_byteAt fu s24 b0 (p1 + 1)) (fun s25 r27 => xw_grd (xw_r r27 ∧ xw_r (s25.1 (48 + 4 * b0) 6)) (xw_if (s25.1 (48 + 4 * b0) 6 ≤ r27) (some (s25, 0))
 (some (s25, 1)))))
 (fun (j68 : xw_S → Option (xw_S × Int)) => xw_grd (xw_r r3) (xw_if (r3 = 2) (j68 s4)
 (xw_if (r3 = 3) (j68 s4)
 (xw_if (r3 = 16) (j68 s4)
 (xw_if (r3 = 13) (xw_bn2 (f_B_byteAt fu s4 b0 (p1 + 1)) (fun s19 r21 => xw_grd (xw_r r21 ∧ xw_r p2) (xw_if (p2 ≤ r21) (some (s19, 0))
 (some (s19, 1)))))
 (xw_bn2 (f_OP_isWovenOnly fu s4 r3) (fun s14 r16 => xw_grd (xw_r r16) (xw_if (r16 = 0) (some (s14, 1))
 (some (s14, 0)))))))))))
 (xw_bn2 (f_B_wayAt fu s4 b0 p1) (fun s30 r32 => xw_bn2 (f_B_begins fu s30 b0 (p1 + r32)) (fun s33 r35 => xw_grd (xw_r r35) (xw_if (r35 = 0) (some (s33, 0))
 (xw_bn2 (f_OP_isWideBranch fu s33 r3) (fun s38 r40 => xw_jn (fun (s48 : xw_S) => some (s48, 1))
 (fun (j46 : xw_S → Option (xw_S × Int)) => xw_grd (xw_r r40) (xw_if (r40 = 0) (xw_bn2 (f_OP_isShortWay fu s38 r32) (fun s43 r45 => xw_grd (xw_r r45) (xw_if (r45 = 0) (some (s43, 0))
 (j46 s43))))
 (j46 s38))))))))))))
set_option maxRecDepth 100000 in
set_option maxHeartbeats 4000000 in
theorem c_B_numbersHold (l : Launch) (D : va_G) (A : Nat → Prop) (ad : Nat → Nat) (cs : Nat → ClassId) (Z : va_W) (tt : Nat → Nat) (fu : Nat) (s0 sZ : xw_S) (b0 : Nat) (hb_b0 : b0 < 13) (p1 : Int) (p2 : Int) (r0 : Int) (h : f_B_numbersHold fu s0 b0 p1 p2 = some (sZ, r0)) : Met l y_B_numbersHold w_B_numbersHold ({ frames := 2, cells := 0, slots := 0, locals := 43 }) (va_Pc [.ref (ad (48 + 4 * b0)), .int (xw_i p1), .int (xw_i p2)] (xw_H D vwCl A kdC 100 ad cs Z tt s0)) (va_Qi (fun r u => r = xw_i r0 ∧ u = sZ) (xw_H D vwCl A kdC 100 ad cs Z tt) A) 0 0 A := by
  refine Met.ofW (cc := b_B_numbersHold) (maxL := 5) (ret := (some .boolean)) (by decide) rfl ?_
  intro p e s m args below meth c s₁ B hml hv
  obtain ⟨rfl, hP, hK, hD, hX⟩ := hv
  have hx := B.exec
  have hb := B.bytes
  have hr := B.returns
  have hts0 := atoms_spec (ws := w_B_numbersHold) B.pre
  have hts := fun w (hw : w ∈ wAll) => hts0 w (List.mem_cons_of_mem _ hw)
  have hown : s.vm.findClass "AdviceWeaver$Body" = some m.cls := findClass_of_methodNamed B.named
  have hlk := B.notSynchronized
  clear hts0 B
  have hS : va_S A s.heap s.heap [] := va_S.rf
  have hl := lv_entry [.ref (ad (48 + 4 * b0)), .int (xw_i p1), .int (xw_i p2)] (n := 5) (Nat.le_of_ble_eq_true rfl)
  rw [lg_entry_eq]
  generalize (lg_sl [.ref (ad (48 + 4 * b0)), .int (xw_i p1), .int (xw_i p2)] ++ List.replicate (5 - (lg_sl [.ref (ad (48 + 4 * b0)), .int (xw_i p1), .int (xw_i p2)]).length) Slot.unset).toArray = ls at hl ⊢
  have hl : lv_has ls 5 [(0, .ref (ad (48 + 4 * b0))), (1, .int (xw_i p1)), (2, .int (xw_i p2))] := hl
  unfold f_B_numbersHold at h
  refine lv_aload_n hx hb d_B_numbersHold_0 rfl (lv_at hl 0 rfl) ?_
  refine lv_iload_n hx hb d_B_numbersHold_1 rfl (lv_at hl 1 rfl) ?_
  obtain ⟨s1, r3, hc2, h⟩ := xw_bn2I h
  refine xw_callVi (C := "AdviceWeaver$Body") (T := T_B) ⟨hx, hb, hml, hown, hts⟩ (c_B_byteAt l D A ad cs Z tt fu s0 s1 b0 (by omega) p1 r3 hc2) (cwV 1 hts (gd_V hw_56 hw_57 hw_58 hw_25 hw_59) rfl rfl rfl (by decide +kernel) ⟨Nat.le_of_ble_eq_true rfl, Nat.le_of_ble_eq_true rfl⟩) hP hK hD hX hS (by omega) (kc_Body b0 (by omega)) (by decide) rfl rfl hl.1 rfl (Nat.le_of_ble_eq_true rfl) d_B_numbersHold_2 (fun H locs hP hS => ?_)
  refine lv_istore_n hx hb d_B_numbersHold_5 rfl hl (by decide) rfl (fun ls hl => ?_)
  refine lv_iload_n hx hb d_B_numbersHold_6 rfl (lv_at hl 0 rfl) ?_
  obtain ⟨s4, r6, hc5, h⟩ := xw_bn2I h
  refine xw_callSi ⟨hx, hb, hml, hown, hts⟩ (c_OP_isBranch l D A ad cs Z tt fu s1 s4 r3 r6 hc5) (va_cwS 1 hts (gd_S hw_64 hw_65 hw_48 hw_66) rfl rfl rfl (by decide +kernel) ⟨Nat.le_of_ble_eq_true rfl, Nat.le_of_ble_eq_true rfl⟩) hP hK hD hX hS rfl hl.1 rfl (Nat.le_of_ble_eq_true rfl) d_B_numbersHold_7 (fun H locs hP hS => ?_)
  obtain ⟨hg7, h⟩ := xw_grdI h
  refine xw_if_eq (tgt := 52) hx hb hg7 d_B_numbersHold_10 (by decide) (fun hc8 => ?_) (fun hc8 => ?_)
  · replace h := xw_ifT hc8 h
    refine lv_iload_n hx hb d_B_numbersHold_52 rfl (lv_at hl 0 rfl) ?_
    refine lv_iconst (v := xw_i 2) hx hb d_B_numbersHold_53 rfl ?_
    refine xw_jnI (fun j => ∀ (sq : xw_S), j sq = some (sZ, r0) → ∀ (H : Heap) (locs : List Loc) (ls : Array Slot), va_P D vwCl (xw_ws kdC 100 ad cs Z sq) H → va_S A s.heap H locs → lv_has ls 5 [(0, .ref (ad (48 + 4 * b0))), (1, .int (xw_i p1))] → W p l e (headSpec w_B_numbersHold ({ frames := 2, cells := 0, slots := 0, locals := 43 })).room s m [.ref (ad (48 + 4 * b0)), .int (xw_i p1), .int (xw_i p2)].toArray below meth c H locs 0 0 (MQ below (va_Qi (fun r u => r = xw_i r0 ∧ u = sZ) (xw_H D vwCl A kdC 100 ad cs Z tt) A) [.ref (ad (48 + 4 * b0)), .int (xw_i p1), .int (xw_i p2)].toArray s 0 0 A) (F0 m 68 ls [])) h ?_ ?_
    · intro s24 h H locs ls hP hS hl
      refine lv_aload_n hx hb d_B_numbersHold_68 rfl (lv_at hl 0 rfl) ?_
      refine lv_iload_n hx hb d_B_numbersHold_69 rfl (lv_at hl 1 rfl) ?_
      refine lv_iconst (v := xw_i 1) hx hb d_B_numbersHold_70 rfl ?_
      refine xw_iadd hx hb d_B_numbersHold_71 ?_
      obtain ⟨s25, r27, hc26, h⟩ := xw_bn2I h
      refine xw_callVi (C := "AdviceWeaver$Body") (T := T_B) ⟨hx, hb, hml, hown, hts⟩ (c_B_byteAt l D A ad cs Z tt fu s24 s25 b0 (by omega) (p1 + 1) r27 hc26) (cwV 1 hts (gd_V hw_56 hw_57 hw_58 hw_25 hw_59) rfl rfl rfl (by decide +kernel) ⟨Nat.le_of_ble_eq_true rfl, Nat.le_of_ble_eq_true rfl⟩) hP hK hD hX hS (by omega) (kc_Body b0 (by omega)) (by decide) rfl rfl hl.1 rfl (Nat.le_of_ble_eq_true rfl) d_B_numbersHold_72 (fun H locs hP hS => ?_)
      refine lv_aload_n hx hb d_B_numbersHold_75 rfl (lv_at hl 0 rfl) ?_
      refine xw_getI (C := "AdviceWeaver$Body") (T := T_B) hx hb hts hin_B hown hK hP (by omega) (kc_Body b0 (by omega)) (by decide) rfl 6 (by decide) (hts _ hw_70) (fun _ h9 => h9) rfl d_B_numbersHold_76 ?_
      obtain ⟨hg28, h⟩ := xw_grdI h
      refine xw_icmp_ge (tgt := 86) hx hb hg28.1 hg28.2 d_B_numbersHold_79 (by decide) (fun hc29 => ?_) (fun hc29 => ?_)
      · replace h := xw_ifT hc29 h
        refine lv_iconst (v := xw_i 0) hx hb d_B_numbersHold_86 rfl ?_
        exact xw_zretE hx hb hr hlk hP hK hD hX hS h (by decide) d_B_numbersHold_87
      · replace h := xw_ifF hc29 h
        refine lv_iconst (v := xw_i 1) hx hb d_B_numbersHold_82 rfl ?_
        refine lv_goto (tgt := 87) hx hb d_B_numbersHold_83 (by decide) ?_
        exact xw_zretE hx hb hr hlk hP hK hD hX hS h (by decide) d_B_numbersHold_87
    · intro j68 hj68 h
      obtain ⟨hg9, h⟩ := xw_grdI h
      refine xw_icmp_eq (tgt := 68) hx hb hg9 (by decide) d_B_numbersHold_54 (by decide) (fun hc10 => ?_) (fun hc10 => ?_)
      · replace h := xw_ifT hc10 h
        exact hj68 s4 h _ _ _ hP hS (lv_sub hl [1, 2] rfl)
      · replace h := xw_ifF hc10 h
        refine lv_iload_n hx hb d_B_numbersHold_57 rfl (lv_at hl 0 rfl) ?_
        refine lv_iconst (v := xw_i 3) hx hb d_B_numbersHold_58 rfl ?_
        refine xw_icmp_eq (tgt := 68) hx hb hg9 (by decide) d_B_numbersHold_59 (by decide) (fun hc11 => ?_) (fun hc11 => ?_)
        · replace h := xw_ifT hc11 h
          exact hj68 s4 h _ _ _ hP hS (lv_sub hl [1, 2] rfl)
        · replace h := xw_ifF hc11 h
          refine lv_iload_n hx hb d_B_numbersHold_62 rfl (lv_at hl 0 rfl) ?_
          refine lv_bipush (v := xw_i 16) hx hb d_B_numbersHold_63 (by decide) ?_
          refine xw_icmp_ne (tgt := 88) hx hb hg9 (by decide) d_B_numbersHold_65 (by decide) (fun hc12 => ?_) (fun hc12 => ?_)
          · replace h := xw_ifF hc12 h
            refine lv_iload_n hx hb d_B_numbersHold_88 rfl (lv_at hl 0 rfl) ?_
            refine lv_bipush (v := xw_i 13) hx hb d_B_numbersHold_89 (by decide) ?_
            refine xw_icmp_ne (tgt := 111) hx hb hg9 (by decide) d_B_numbersHold_91 (by decide) (fun hc13 => ?_) (fun hc13 => ?_)
            · replace h := xw_ifF hc13 h
              refine lv_iload_n hx hb d_B_numbersHold_111 rfl (lv_at hl 0 rfl) ?_
              obtain ⟨s14, r16, hc15, h⟩ := xw_bn2I h
              refine xw_callSi ⟨hx, hb, hml, hown, hts⟩ (c_OP_isWovenOnly l D A ad cs Z tt fu s4 s14 r3 r16 hc15) (va_cwS 1 hts (gd_S hw_67 hw_68 hw_48 hw_69) rfl rfl rfl (by decide +kernel) ⟨Nat.le_of_ble_eq_true rfl, Nat.le_of_ble_eq_true rfl⟩) hP hK hD hX hS rfl hl.1 rfl (Nat.le_of_ble_eq_true rfl) d_B_numbersHold_112 (fun H locs hP hS => ?_)
              obtain ⟨hg17, h⟩ := xw_grdI h
              refine xw_if_ne (tgt := 122) hx hb hg17 d_B_numbersHold_115 (by decide) (fun hc18 => ?_) (fun hc18 => ?_)
              · replace h := xw_ifF hc18 h
                refine lv_iconst (v := xw_i 0) hx hb d_B_numbersHold_122 rfl ?_
                exact xw_zretE hx hb hr hlk hP hK hD hX hS h (by decide) d_B_numbersHold_123
              · replace h := xw_ifT hc18 h
                refine lv_iconst (v := xw_i 1) hx hb d_B_numbersHold_118 rfl ?_
                refine lv_goto (tgt := 123) hx hb d_B_numbersHold_119 (by decide) ?_
                exact xw_zretE hx hb hr hlk hP hK hD hX hS h (by decide) d_B_numbersHold_123
            · replace h := xw_ifT hc13 h
              refine lv_aload_n hx hb d_B_numbersHold_94 rfl (lv_at hl 1 rfl) ?_
              refine lv_iload_n hx hb d_B_numbersHold_95 rfl (lv_at hl 2 rfl) ?_
              refine lv_iconst (v := xw_i 1) hx hb d_B_numbersHold_96 rfl ?_
              refine xw_iadd hx hb d_B_numbersHold_97 ?_
              obtain ⟨s19, r21, hc20, h⟩ := xw_bn2I h
              refine xw_callVi (C := "AdviceWeaver$Body") (T := T_B) ⟨hx, hb, hml, hown, hts⟩ (c_B_byteAt l D A ad cs Z tt fu s4 s19 b0 (by omega) (p1 + 1) r21 hc20) (cwV 1 hts (gd_V hw_56 hw_57 hw_58 hw_25 hw_59) rfl rfl rfl (by decide +kernel) ⟨Nat.le_of_ble_eq_true rfl, Nat.le_of_ble_eq_true rfl⟩) hP hK hD hX hS (by omega) (kc_Body b0 (by omega)) (by decide) rfl rfl hl.1 rfl (Nat.le_of_ble_eq_true rfl) d_B_numbersHold_98 (fun H locs hP hS => ?_)
              refine lv_iload_n hx hb d_B_numbersHold_101 rfl (lv_at hl 3 rfl) ?_
              obtain ⟨hg22, h⟩ := xw_grdI h
              refine xw_icmp_ge (tgt := 109) hx hb hg22.1 hg22.2 d_B_numbersHold_102 (by decide) (fun hc23 => ?_) (fun hc23 => ?_)
              · replace h := xw_ifT hc23 h
                refine lv_iconst (v := xw_i 0) hx hb d_B_numbersHold_109 rfl ?_
                exact xw_zretE hx hb hr hlk hP hK hD hX hS h (by decide) d_B_numbersHold_110
              · replace h := xw_ifF hc23 h
                refine lv_iconst (v := xw_i 1) hx hb d_B_numbersHold_105 rfl ?_
                refine lv_goto (tgt := 110) hx hb d_B_numbersHold_106 (by decide) ?_
                exact xw_zretE hx hb hr hlk hP hK hD hX hS h (by decide) d_B_numbersHold_110
          · replace h := xw_ifT hc12 h
            exact hj68 s4 h _ _ _ hP hS (lv_sub hl [1, 2] rfl)
  · replace h := xw_ifF hc8 h
    refine lv_aload_n hx hb d_B_numbersHold_13 rfl (lv_at hl 1 rfl) ?_
    refine lv_iload_n hx hb d_B_numbersHold_14 rfl (lv_at hl 2 rfl) ?_
    obtain ⟨s30, r32, hc31, h⟩ := xw_bn2I h
    refine xw_callVi (C := "AdviceWeaver$Body") (T := T_B) ⟨hx, hb, hml, hown, hts⟩ (c_B_wayAt l D A ad cs Z tt fu s4 s30 b0 (by omega) p1 r32 hc31) (cwV 1 hts (gd_V hw_71 hw_72 hw_73 hw_25 hw_74) rfl rfl rfl (by decide +kernel) ⟨Nat.le_of_ble_eq_true rfl, Nat.le_of_ble_eq_true rfl⟩) hP hK hD hX hS (by omega) (kc_Body b0 (by omega)) (by decide) rfl rfl hl.1 rfl (Nat.le_of_ble_eq_true rfl) d_B_numbersHold_15 (fun H locs hP hS => ?_)
    refine lv_istore hx hb d_B_numbersHold_18 hl (by decide) rfl (fun ls hl => ?_)
    refine lv_aload_n hx hb d_B_numbersHold_20 rfl (lv_at hl 2 rfl) ?_
    refine lv_iload_n hx hb d_B_numbersHold_21 rfl (lv_at hl 3 rfl) ?_
    refine lv_iload hx hb d_B_numbersHold_22 (lv_at hl 0 rfl) ?_
    refine xw_iadd hx hb d_B_numbersHold_24 ?_
    obtain ⟨s33, r35, hc34, h⟩ := xw_bn2I h
    refine xw_callVi (C := "AdviceWeaver$Body") (T := T_B) ⟨hx, hb, hml, hown, hts⟩ (c_B_begins l D A ad cs Z tt fu s30 s33 b0 (by omega) (p1 + r32) r35 hc34) (cwV 1 hts (gd_V hw_75 hw_76 hw_77 hw_25 hw_78) rfl rfl rfl (by decide +kernel) ⟨Nat.le_of_ble_eq_true rfl, Nat.le_of_ble_eq_true rfl⟩) hP hK hD hX hS (by omega) (kc_Body b0 (by omega)) (by decide) rfl rfl hl.1 rfl (Nat.le_of_ble_eq_true rfl) d_B_numbersHold_25 (fun H locs hP hS => ?_)
    obtain ⟨hg36, h⟩ := xw_grdI h
    refine xw_if_eq (tgt := 50) hx hb hg36 d_B_numbersHold_28 (by decide) (fun hc37 => ?_) (fun hc37 => ?_)
    · replace h := xw_ifT hc37 h
      refine lv_iconst (v := xw_i 0) hx hb d_B_numbersHold_50 rfl ?_
      exact xw_zretE hx hb hr hlk hP hK hD hX hS h (by decide) d_B_numbersHold_51
    · replace h := xw_ifF hc37 h
      refine lv_iload_n hx hb d_B_numbersHold_31 rfl (lv_at hl 1 rfl) ?_
      obtain ⟨s38, r40, hc39, h⟩ := xw_bn2I h
      refine xw_callSi ⟨hx, hb, hml, hown, hts⟩ (c_OP_isWideBranch l D A ad cs Z tt fu s33 s38 r3 r40 hc39) (va_cwS 1 hts (gd_S hw_63 hw_54 hw_48 hw_55) rfl rfl rfl (by decide +kernel) ⟨Nat.le_of_ble_eq_true rfl, Nat.le_of_ble_eq_true rfl⟩) hP hK hD hX hS rfl hl.1 rfl (Nat.le_of_ble_eq_true rfl) d_B_numbersHold_32 (fun H locs hP hS => ?_)
      refine xw_jnI (fun j => ∀ (sq : xw_S), j sq = some (sZ, r0) → ∀ (H : Heap) (locs : List Loc) (ls : Array Slot), va_P D vwCl (xw_ws kdC 100 ad cs Z sq) H → va_S A s.heap H locs → lv_has ls 5 [] → W p l e (headSpec w_B_numbersHold ({ frames := 2, cells := 0, slots := 0, locals := 43 })).room s m [.ref (ad (48 + 4 * b0)), .int (xw_i p1), .int (xw_i p2)].toArray below meth c H locs 0 0 (MQ below (va_Qi (fun r u => r = xw_i r0 ∧ u = sZ) (xw_H D vwCl A kdC 100 ad cs Z tt) A) [.ref (ad (48 + 4 * b0)), .int (xw_i p1), .int (xw_i p2)].toArray s 0 0 A) (F0 m 46 ls [])) h ?_ ?_
      · intro s48 h H locs ls hP hS hl
        refine lv_iconst (v := xw_i 1) hx hb d_B_numbersHold_46 rfl ?_
        refine lv_goto (tgt := 51) hx hb d_B_numbersHold_47 (by decide) ?_
        exact xw_zretE hx hb hr hlk hP hK hD hX hS h (by decide) d_B_numbersHold_51
      · intro j46 hj46 h
        obtain ⟨hg41, h⟩ := xw_grdI h
        refine xw_if_ne (tgt := 46) hx hb hg41 d_B_numbersHold_35 (by decide) (fun hc42 => ?_) (fun hc42 => ?_)
        · replace h := xw_ifF hc42 h
          exact hj46 s38 h _ _ _ hP hS (lv_sub hl [] rfl)
        · replace h := xw_ifT hc42 h
          refine lv_iload hx hb d_B_numbersHold_38 (lv_at hl 0 rfl) ?_
          obtain ⟨s43, r45, hc44, h⟩ := xw_bn2I h
          refine xw_callSi ⟨hx, hb, hml, hown, hts⟩ (c_OP_isShortWay l D A ad cs Z tt fu s38 s43 r32 r45 hc44) (va_cwS 1 hts (gd_S hw_79 hw_80 hw_48 hw_81) rfl rfl rfl (by decide +kernel) ⟨Nat.le_of_ble_eq_true rfl, Nat.le_of_ble_eq_true rfl⟩) hP hK hD hX hS rfl hl.1 rfl (Nat.le_of_ble_eq_true rfl) d_B_numbersHold_40 (fun H locs hP hS => ?_)
          obtain ⟨hg46, h⟩ := xw_grdI h
          refine xw_if_eq (tgt := 50) hx hb hg46 d_B_numbersHold_43 (by decide) (fun hc47 => ?_) (fun hc47 => ?_)
          · replace h := xw_ifT hc47 h
            refine lv_iconst (v := xw_i 0) hx hb d_B_numbersHold_50 rfl ?_
            exact xw_zretE hx hb hr hlk hP hK hD hX hS h (by decide) d_B_numbersHold_51
          · replace h := xw_ifF hc47 h
            exact hj46 s43 h _ _ _ hP hS (lv_sub hl [] rfl)
def f_B_part (fu : Nat) (s0 : xw_S) (b0 : Nat) (p1 : Int) (p2 : Int) : Option (xw_S × Int) :=
 xw_grd ((0 ≤ (p1 * 4) + p2 ∧ (p1 * 4) + p2 < ((xb_hc b0 : Nat) : Int))) (some (s0, s0.1 (51 + 4 * b0) ((p1 * 4) + p2).toNat))
set_option maxRecDepth 100000 in
set_option maxHeartbeats 4000000 in
theorem c_B_part (l : Launch) (D : va_G) (A : Nat → Prop) (ad : Nat → Nat) (cs : Nat → ClassId) (Z : va_W) (tt : Nat → Nat) (fu : Nat) (s0 sZ : xw_S) (b0 : Nat) (hb_b0 : b0 < 13) (p1 : Int) (p2 : Int) (r0 : Int) (h : f_B_part fu s0 b0 p1 p2 = some (sZ, r0)) : Met l y_B_part w_B_part ({ frames := 0, cells := 0, slots := 0, locals := 0 }) (va_Pc [.ref (ad (48 + 4 * b0)), .int (xw_i p1), .int (xw_i p2)] (xw_H D vwCl A kdC 100 ad cs Z tt s0)) (va_Qi (fun r u => r = xw_i r0 ∧ u = sZ) (xw_H D vwCl A kdC 100 ad cs Z tt) A) 0 0 A := by
  refine Met.ofW (cc := b_B_part) (maxL := 3) (ret := (some .int)) (by decide) rfl ?_
  intro p e s m args below meth c s₁ B hml hv
  obtain ⟨rfl, hP, hK, hD, hX⟩ := hv
  have hx := B.exec
  have hb := B.bytes
  have hr := B.returns
  have hts0 := atoms_spec (ws := w_B_part) B.pre
  have hts := fun w (hw : w ∈ wAll) => hts0 w (List.mem_cons_of_mem _ hw)
  have hown : s.vm.findClass "AdviceWeaver$Body" = some m.cls := findClass_of_methodNamed B.named
  have hlk := B.notSynchronized
  clear hts0 B
  have hS : va_S A s.heap s.heap [] := va_S.rf
  have hl := lv_entry [.ref (ad (48 + 4 * b0)), .int (xw_i p1), .int (xw_i p2)] (n := 3) (Nat.le_of_ble_eq_true rfl)
  rw [lg_entry_eq]
  generalize (lg_sl [.ref (ad (48 + 4 * b0)), .int (xw_i p1), .int (xw_i p2)] ++ List.replicate (3 - (lg_sl [.ref (ad (48 + 4 * b0)), .int (xw_i p1), .int (xw_i p2)]).length) Slot.unset).toArray = ls at hl ⊢
  have hl : lv_has ls 3 [(0, .ref (ad (48 + 4 * b0))), (1, .int (xw_i p1)), (2, .int (xw_i p2))] := hl
  unfold f_B_part at h
  refine lv_aload_n hx hb d_B_part_0 rfl (lv_at hl 0 rfl) ?_
  refine xw_getR (C := "AdviceWeaver$Body") (T := T_B) hx hb hts hin_B hown hK hP (by omega) (kc_Body b0 (by omega)) (by decide) rfl 2 (by decide) (hts _ hw_16) (fun _ h9 => h9) rfl d_B_part_1 ?_
  refine lv_iload_n hx hb d_B_part_4 rfl (lv_at hl 1 rfl) ?_
  refine lv_iconst (v := xw_i 4) hx hb d_B_part_5 rfl ?_
  refine xw_imul hx hb d_B_part_6 ?_
  refine lv_iload_n hx hb d_B_part_7 rfl (lv_at hl 2 rfl) ?_
  refine xw_iadd hx hb d_B_part_8 ?_
  obtain ⟨hg1, h⟩ := xw_grdI h
  refine xw_iald hx hb hK hP (by omega) (kc_bparts b0 (by omega)) (xb_hcL _) hg1 d_B_part_9 ?_
  exact xw_iretE hx hb hr hlk hP hK hD hX hS h d_B_part_10
def lp_B_isWellFormed_11 (fu : Nat) (b0 : Nat) (c1_11 : Int) (k36 : xw_S → Option (xw_S × Int)) (k44 : xw_S → Option (xw_S × Int)) : Nat → xw_S → Int → Option (xw_S × Int)
  | 0, _, _ => none
  | n + 1, s6, i2_11 =>
    xw_grd (xw_r i2_11 ∧ xw_r (s6.1 (48 + 4 * b0) 8)) (xw_if (s6.1 (48 + 4 * b0) 8 ≤ i2_11) (k44 s6)
     (xw_bn2 (f_B_begins fu s6 b0 i2_11) (fun s9 r11 => xw_jn (fun (s19 : xw_S) (i2_38 : Int) => xw_let (i2_38 + 1) (fun v20 => lp_B_isWellFormed_11 fu b0 c1_11 k36 k44 n s19 v20))
     (fun (j38 : xw_S → Int → Option (xw_S × Int)) => xw_grd (xw_r r11) (xw_if (r11 = 0) (j38 s9 i2_11)
     (xw_bn2 (f_B_numbersHold fu s9 b0 i2_11 c1_11) (fun s14 r16 => xw_grd (xw_r r16) (xw_if (r16 = 0) (k36 s14)
     (j38 s14 i2_11)))))))))
def lp_B_isWellFormed_46 (fu : Nat) (b0 : Nat) (k125 : xw_S → Option (xw_S × Int)) (k133 : xw_S → Option (xw_S × Int)) : Nat → xw_S → Int → Option (xw_S × Int)
  | 0, _, _ => none
  | n + 1, s24, i2_46 =>
    xw_grd (xw_r i2_46 ∧ xw_r (s24.1 (48 + 4 * b0) 9)) (xw_if (s24.1 (48 + 4 * b0) 9 ≤ i2_46) (k133 s24)
     (xw_bn2 (f_B_part fu s24 b0 i2_46 1) (fun s27 r29 => xw_bn2 (f_B_part fu s27 b0 i2_46 0) (fun s30 r32 => xw_jn (fun (s44 : xw_S) (i2_92 : Int) (t0_92 : Int) => xw_bn2 (f_B_part fu s44 b0 i2_92 0) (fun s45 r47 => xw_bn2 (f_B_begins fu s45 b0 r47) (fun s48 r50 => xw_grd (xw_r r50) (xw_if (r50 = 0) (k125 s48)
     (xw_bn2 (f_B_part fu s48 b0 i2_92 2) (fun s53 r55 => xw_bn2 (f_B_begins fu s53 b0 r55) (fun s56 r58 => xw_grd (xw_r r58) (xw_if (r58 = 0) (k125 s56)
     (xw_grd (xw_r t0_92) (xw_if (t0_92 = 0) (k125 s56)
     (xw_let (i2_92 + 1) (fun v63 => lp_B_isWellFormed_46 fu b0 k125 k133 n s56 v63))))))))))))
     (fun (j92 : xw_S → Int → Int → Option (xw_S × Int)) => xw_jn (fun (s43 : xw_S) (i2_91 : Int) => j92 s43 i2_91 0)
     (fun (j91 : xw_S → Int → Option (xw_S × Int)) => xw_grd (xw_r r29 ∧ xw_r r32) (xw_if (r29 ≤ r32) (j91 s30 i2_46)
     (xw_jn (fun (s42 : xw_S) (i2_87 : Int) => j92 s42 i2_87 1)
     (fun (j87 : xw_S → Int → Option (xw_S × Int)) => xw_grd (xw_r (s30.1 (48 + 4 * b0) 8)) (xw_if (r29 = s30.1 (48 + 4 * b0) 8) (j87 s30 i2_46)
     (xw_bn2 (f_B_begins fu s30 b0 r29) (fun s37 r39 => xw_grd (xw_r r39) (xw_if (r39 = 0) (j91 s37 i2_46)
     (j87 s37 i2_46))))))))))))))
def f_B_isWellFormed (fu : Nat) (s0 : xw_S) (b0 : Nat) (p1 : Int) : Option (xw_S × Int) :=
 xw_bn2 (f_B_findInstructions fu s0 b0) (fun s1 r3 => xw_grd (xw_r r3) (xw_if (r3 = 0) (some (s1, 0))
 (xw_jn (fun (s23 : xw_S) => xw_jn (fun (s66 : xw_S) => some (s66, 1))
 (fun (k133 : xw_S → Option (xw_S × Int)) => xw_jn (fun (s65 : xw_S) => some (s65, 0))
 (fun (k125 : xw_S → Option (xw_S × Int)) => lp_B_isWellFormed_46 fu b0 k125 k133 fu s23 0)))
 (fun (k44 : xw_S → Option (xw_S × Int)) => xw_jn (fun (s22 : xw_S) => some (s22, 0))
 (fun (k36 : xw_S → Option (xw_S × Int)) => lp_B_isWellFormed_11 fu b0 p1 k36 k44 fu s1 0)))))
set_option maxRecDepth 100000 in
set_option maxHeartbeats 4000000 in
theorem c_B_isWellFormed (l : Launch) (D : va_G) (A : Nat → Prop) (ad : Nat → Nat) (cs : Nat → ClassId) (Z : va_W) (tt : Nat → Nat) (fu : Nat) (s0 sZ : xw_S) (b0 : Nat) (hb_b0 : b0 < 13) (p1 : Int) (r0 : Int) (h : f_B_isWellFormed fu s0 b0 p1 = some (sZ, r0)) : Met l y_B_isWellFormed w_B_isWellFormed ({ frames := 3, cells := 0, slots := 0, locals := 67 }) (va_Pc [.ref (ad (48 + 4 * b0)), .int (xw_i p1)] (xw_H D vwCl A kdC 100 ad cs Z tt s0)) (va_Qi (fun r u => r = xw_i r0 ∧ u = sZ) (xw_H D vwCl A kdC 100 ad cs Z tt) A) 0 0 A := by
  refine Met.ofW (cc := b_B_isWellFormed) (maxL := 5) (ret := (some .boolean)) (by decide) rfl ?_
  intro p e s m args below meth c s₁ B hml hv
  obtain ⟨rfl, hP, hK, hD, hX⟩ := hv
  have hx := B.exec
  have hb := B.bytes
  have hr := B.returns
  have hts0 := atoms_spec (ws := w_B_isWellFormed) B.pre
  have hts := fun w (hw : w ∈ wAll) => hts0 w (List.mem_cons_of_mem _ hw)
  have hown : s.vm.findClass "AdviceWeaver$Body" = some m.cls := findClass_of_methodNamed B.named
  have hlk := B.notSynchronized
  clear hts0 B
  have hS : va_S A s.heap s.heap [] := va_S.rf
  have hl := lv_entry [.ref (ad (48 + 4 * b0)), .int (xw_i p1)] (n := 5) (Nat.le_of_ble_eq_true rfl)
  rw [lg_entry_eq]
  generalize (lg_sl [.ref (ad (48 + 4 * b0)), .int (xw_i p1)] ++ List.replicate (5 - (lg_sl [.ref (ad (48 + 4 * b0)), .int (xw_i p1)]).length) Slot.unset).toArray = ls at hl ⊢
  have hl : lv_has ls 5 [(0, .ref (ad (48 + 4 * b0))), (1, .int (xw_i p1))] := hl
  have hlp11 : ∀ (c1_11 : Int) (k36 : xw_S → Option (xw_S × Int)) (hk36 : ∀ (sq : xw_S), k36 sq = some (sZ, r0) → ∀ (H : Heap) (locs : List Loc) (ls : Array Slot), va_P D vwCl (xw_ws kdC 100 ad cs Z sq) H → va_S A s.heap H locs → lv_has ls 5 [] → W p l e (headSpec w_B_isWellFormed ({ frames := 3, cells := 0, slots := 0, locals := 67 })).room s m [.ref (ad (48 + 4 * b0)), .int (xw_i p1)].toArray below meth c H locs 0 0 (MQ below (va_Qi (fun r u => r = xw_i r0 ∧ u = sZ) (xw_H D vwCl A kdC 100 ad cs Z tt) A) [.ref (ad (48 + 4 * b0)), .int (xw_i p1)].toArray s 0 0 A) (F0 m 36 ls [])) (k44 : xw_S → Option (xw_S × Int)) (hk44 : ∀ (sq : xw_S), k44 sq = some (sZ, r0) → ∀ (H : Heap) (locs : List Loc) (ls : Array Slot), va_P D vwCl (xw_ws kdC 100 ad cs Z sq) H → va_S A s.heap H locs → lv_has ls 5 [(0, .ref (ad (48 + 4 * b0)))] → W p l e (headSpec w_B_isWellFormed ({ frames := 3, cells := 0, slots := 0, locals := 67 })).room s m [.ref (ad (48 + 4 * b0)), .int (xw_i p1)].toArray below meth c H locs 0 0 (MQ below (va_Qi (fun r u => r = xw_i r0 ∧ u = sZ) (xw_H D vwCl A kdC 100 ad cs Z tt) A) [.ref (ad (48 + 4 * b0)), .int (xw_i p1)].toArray s 0 0 A) (F0 m 44 ls [])) (n : Nat), ∀ (sq : xw_S) (i2_11 : Int), lp_B_isWellFormed_11 fu b0 c1_11 k36 k44 n sq i2_11 = some (sZ, r0) → ∀ (H : Heap) (locs : List Loc) (ls : Array Slot), va_P D vwCl (xw_ws kdC 100 ad cs Z sq) H → va_S A s.heap H locs → lv_has ls 5 [(0, .ref (ad (48 + 4 * b0))), (1, .int (xw_i c1_11)), (2, .int (xw_i i2_11))] → W p l e (headSpec w_B_isWellFormed ({ frames := 3, cells := 0, slots := 0, locals := 67 })).room s m [.ref (ad (48 + 4 * b0)), .int (xw_i p1)].toArray below meth c H locs 0 0 (MQ below (va_Qi (fun r u => r = xw_i r0 ∧ u = sZ) (xw_H D vwCl A kdC 100 ad cs Z tt) A) [.ref (ad (48 + 4 * b0)), .int (xw_i p1)].toArray s 0 0 A) (F0 m 11 ls []) := by
    intro c1_11 k36 hk36 k44 hk44 n
    induction n with
    | zero =>
      intro sq i2_11 h
      cases (show (none : Option (xw_S × Int)) = some (sZ, r0) from h)
    | succ n ih11 =>
      intro s6 i2_11 h H locs ls hP hS hl
      unfold lp_B_isWellFormed_11 at h
      refine lv_iload_n hx hb d_B_isWellFormed_11 rfl (lv_at hl 2 rfl) ?_
      refine lv_aload_n hx hb d_B_isWellFormed_12 rfl (lv_at hl 0 rfl) ?_
      refine xw_getI (C := "AdviceWeaver$Body") (T := T_B) hx hb hts hin_B hown hK hP (by omega) (kc_Body b0 (by omega)) (by decide) rfl 8 (by decide) (hts _ hw_43) (fun _ h9 => h9) rfl d_B_isWellFormed_13 ?_
      obtain ⟨hg7, h⟩ := xw_grdI h
      refine xw_icmp_ge (tgt := 44) hx hb hg7.1 hg7.2 d_B_isWellFormed_16 (by decide) (fun hc8 => ?_) (fun hc8 => ?_)
      · replace h := xw_ifT hc8 h
        exact hk44 s6 h _ _ _ hP hS (lv_sub hl [0] rfl)
      · replace h := xw_ifF hc8 h
        refine lv_aload_n hx hb d_B_isWellFormed_19 rfl (lv_at hl 0 rfl) ?_
        refine lv_iload_n hx hb d_B_isWellFormed_20 rfl (lv_at hl 2 rfl) ?_
        obtain ⟨s9, r11, hc10, h⟩ := xw_bn2I h
        refine xw_callVi (C := "AdviceWeaver$Body") (T := T_B) ⟨hx, hb, hml, hown, hts⟩ (c_B_begins l D A ad cs Z tt fu s6 s9 b0 (by omega) i2_11 r11 hc10) (cwV 1 hts (gd_V hw_75 hw_76 hw_77 hw_25 hw_78) rfl rfl rfl (by decide +kernel) ⟨Nat.le_of_ble_eq_true rfl, Nat.le_of_ble_eq_true rfl⟩) hP hK hD hX hS (by omega) (kc_Body b0 (by omega)) (by decide) rfl rfl hl.1 rfl (Nat.le_of_ble_eq_true rfl) d_B_isWellFormed_21 (fun H locs hP hS => ?_)
        refine xw_jnI (fun j => ∀ (sq : xw_S) (i2_38 : Int), j sq i2_38 = some (sZ, r0) → ∀ (H : Heap) (locs : List Loc) (ls : Array Slot), va_P D vwCl (xw_ws kdC 100 ad cs Z sq) H → va_S A s.heap H locs → lv_has ls 5 [(0, .ref (ad (48 + 4 * b0))), (1, .int (xw_i c1_11)), (2, .int (xw_i i2_38))] → W p l e (headSpec w_B_isWellFormed ({ frames := 3, cells := 0, slots := 0, locals := 67 })).room s m [.ref (ad (48 + 4 * b0)), .int (xw_i p1)].toArray below meth c H locs 0 0 (MQ below (va_Qi (fun r u => r = xw_i r0 ∧ u = sZ) (xw_H D vwCl A kdC 100 ad cs Z tt) A) [.ref (ad (48 + 4 * b0)), .int (xw_i p1)].toArray s 0 0 A) (F0 m 38 ls [])) h ?_ ?_
        · intro s19 i2_38 h H locs ls hP hS hl
          obtain ⟨v20, e21⟩ : ∃ z, z = i2_38 + 1 := ⟨_, rfl⟩
          replace h := xw_letI e21 h
          refine xw_iinc (lv' := [(2, .int (xw_i v20)), (0, .ref (ad (48 + 4 * b0))), (1, .int (xw_i c1_11))]) hx hb d_B_isWellFormed_38 hl (k := 2) rfl (by decide) (by rw [e21]; rfl) (fun ls hl => ?_)
          refine lv_goto (tgt := 11) hx hb d_B_isWellFormed_41 (by decide) ?_
          exact ih11 s19 v20 h _ _ _ hP hS (lv_sub hl [1, 2, 0] rfl)
        · intro j38 hj38 h
          obtain ⟨hg12, h⟩ := xw_grdI h
          refine xw_if_eq (tgt := 38) hx hb hg12 d_B_isWellFormed_24 (by decide) (fun hc13 => ?_) (fun hc13 => ?_)
          · replace h := xw_ifT hc13 h
            exact hj38 s9 i2_11 h _ _ _ hP hS (lv_sub hl [0, 1, 2] rfl)
          · replace h := xw_ifF hc13 h
            refine lv_aload_n hx hb d_B_isWellFormed_27 rfl (lv_at hl 0 rfl) ?_
            refine lv_iload_n hx hb d_B_isWellFormed_28 rfl (lv_at hl 2 rfl) ?_
            refine lv_iload_n hx hb d_B_isWellFormed_29 rfl (lv_at hl 1 rfl) ?_
            obtain ⟨s14, r16, hc15, h⟩ := xw_bn2I h
            refine xw_callVi (C := "AdviceWeaver$Body") (T := T_B) ⟨hx, hb, hml, hown, hts⟩ (c_B_numbersHold l D A ad cs Z tt fu s9 s14 b0 (by omega) i2_11 c1_11 r16 hc15) (cwV 2 hts (gd_V hw_86 hw_87 hw_88 hw_25 hw_89) rfl rfl rfl (by decide +kernel) ⟨Nat.le_of_ble_eq_true rfl, Nat.le_of_ble_eq_true rfl⟩) hP hK hD hX hS (by omega) (kc_Body b0 (by omega)) (by decide) rfl rfl hl.1 rfl (Nat.le_of_ble_eq_true rfl) d_B_isWellFormed_30 (fun H locs hP hS => ?_)
            obtain ⟨hg17, h⟩ := xw_grdI h
            refine xw_if_ne (tgt := 38) hx hb hg17 d_B_isWellFormed_33 (by decide) (fun hc18 => ?_) (fun hc18 => ?_)
            · replace h := xw_ifF hc18 h
              exact hj38 s14 i2_11 h _ _ _ hP hS (lv_sub hl [0, 1, 2] rfl)
            · replace h := xw_ifT hc18 h
              exact hk36 s14 h _ _ _ hP hS (lv_sub hl [] rfl)
  have hlp46 : ∀ (k125 : xw_S → Option (xw_S × Int)) (hk125 : ∀ (sq : xw_S), k125 sq = some (sZ, r0) → ∀ (H : Heap) (locs : List Loc) (ls : Array Slot), va_P D vwCl (xw_ws kdC 100 ad cs Z sq) H → va_S A s.heap H locs → lv_has ls 5 [] → W p l e (headSpec w_B_isWellFormed ({ frames := 3, cells := 0, slots := 0, locals := 67 })).room s m [.ref (ad (48 + 4 * b0)), .int (xw_i p1)].toArray below meth c H locs 0 0 (MQ below (va_Qi (fun r u => r = xw_i r0 ∧ u = sZ) (xw_H D vwCl A kdC 100 ad cs Z tt) A) [.ref (ad (48 + 4 * b0)), .int (xw_i p1)].toArray s 0 0 A) (F0 m 125 ls [])) (k133 : xw_S → Option (xw_S × Int)) (hk133 : ∀ (sq : xw_S), k133 sq = some (sZ, r0) → ∀ (H : Heap) (locs : List Loc) (ls : Array Slot), va_P D vwCl (xw_ws kdC 100 ad cs Z sq) H → va_S A s.heap H locs → lv_has ls 5 [] → W p l e (headSpec w_B_isWellFormed ({ frames := 3, cells := 0, slots := 0, locals := 67 })).room s m [.ref (ad (48 + 4 * b0)), .int (xw_i p1)].toArray below meth c H locs 0 0 (MQ below (va_Qi (fun r u => r = xw_i r0 ∧ u = sZ) (xw_H D vwCl A kdC 100 ad cs Z tt) A) [.ref (ad (48 + 4 * b0)), .int (xw_i p1)].toArray s 0 0 A) (F0 m 133 ls [])) (n : Nat), ∀ (sq : xw_S) (i2_46 : Int), lp_B_isWellFormed_46 fu b0 k125 k133 n sq i2_46 = some (sZ, r0) → ∀ (H : Heap) (locs : List Loc) (ls : Array Slot), va_P D vwCl (xw_ws kdC 100 ad cs Z sq) H → va_S A s.heap H locs → lv_has ls 5 [(0, .ref (ad (48 + 4 * b0))), (2, .int (xw_i i2_46))] → W p l e (headSpec w_B_isWellFormed ({ frames := 3, cells := 0, slots := 0, locals := 67 })).room s m [.ref (ad (48 + 4 * b0)), .int (xw_i p1)].toArray below meth c H locs 0 0 (MQ below (va_Qi (fun r u => r = xw_i r0 ∧ u = sZ) (xw_H D vwCl A kdC 100 ad cs Z tt) A) [.ref (ad (48 + 4 * b0)), .int (xw_i p1)].toArray s 0 0 A) (F0 m 46 ls []) := by
    intro k125 hk125 k133 hk133 n
    induction n with
    | zero =>
      intro sq i2_46 h
      cases (show (none : Option (xw_S × Int)) = some (sZ, r0) from h)
    | succ n ih46 =>
      intro s24 i2_46 h H locs ls hP hS hl
      unfold lp_B_isWellFormed_46 at h
      refine lv_iload_n hx hb d_B_isWellFormed_46 rfl (lv_at hl 1 rfl) ?_
      refine lv_aload_n hx hb d_B_isWellFormed_47 rfl (lv_at hl 0 rfl) ?_
      refine xw_getI (C := "AdviceWeaver$Body") (T := T_B) hx hb hts hin_B hown hK hP (by omega) (kc_Body b0 (by omega)) (by decide) rfl 9 (by decide) (hts _ hw_14) (fun _ h9 => h9) rfl d_B_isWellFormed_48 ?_
      obtain ⟨hg25, h⟩ := xw_grdI h
      refine xw_icmp_ge (tgt := 133) hx hb hg25.1 hg25.2 d_B_isWellFormed_51 (by decide) (fun hc26 => ?_) (fun hc26 => ?_)
      · replace h := xw_ifT hc26 h
        exact hk133 s24 h _ _ _ hP hS (lv_sub hl [] rfl)
      · replace h := xw_ifF hc26 h
        refine lv_aload_n hx hb d_B_isWellFormed_54 rfl (lv_at hl 0 rfl) ?_
        refine lv_iload_n hx hb d_B_isWellFormed_55 rfl (lv_at hl 1 rfl) ?_
        refine lv_iconst (v := xw_i 1) hx hb d_B_isWellFormed_56 rfl ?_
        obtain ⟨s27, r29, hc28, h⟩ := xw_bn2I h
        refine xw_callVi (C := "AdviceWeaver$Body") (T := T_B) ⟨hx, hb, hml, hown, hts⟩ (c_B_part l D A ad cs Z tt fu s24 s27 b0 (by omega) i2_46 1 r29 hc28) (cwV 2 hts (gd_V hw_90 hw_91 hw_92 hw_25 hw_93) rfl rfl rfl (by decide +kernel) ⟨Nat.le_of_ble_eq_true rfl, Nat.le_of_ble_eq_true rfl⟩) hP hK hD hX hS (by omega) (kc_Body b0 (by omega)) (by decide) rfl rfl hl.1 rfl (Nat.le_of_ble_eq_true rfl) d_B_isWellFormed_57 (fun H locs hP hS => ?_)
        refine lv_istore_n hx hb d_B_isWellFormed_60 rfl hl (by decide) rfl (fun ls hl => ?_)
        refine lv_iload_n hx hb d_B_isWellFormed_61 rfl (lv_at hl 0 rfl) ?_
        refine lv_aload_n hx hb d_B_isWellFormed_62 rfl (lv_at hl 1 rfl) ?_
        refine lv_iload_n hx hb d_B_isWellFormed_63 rfl (lv_at hl 2 rfl) ?_
        refine lv_iconst (v := xw_i 0) hx hb d_B_isWellFormed_64 rfl ?_
        obtain ⟨s30, r32, hc31, h⟩ := xw_bn2I h
        refine xw_callVi (C := "AdviceWeaver$Body") (T := T_B) ⟨hx, hb, hml, hown, hts⟩ (c_B_part l D A ad cs Z tt fu s27 s30 b0 (by omega) i2_46 0 r32 hc31) (cwV 2 hts (gd_V hw_90 hw_91 hw_92 hw_25 hw_93) rfl rfl rfl (by decide +kernel) ⟨Nat.le_of_ble_eq_true rfl, Nat.le_of_ble_eq_true rfl⟩) hP hK hD hX hS (by omega) (kc_Body b0 (by omega)) (by decide) rfl rfl hl.1 rfl (Nat.le_of_ble_eq_true rfl) d_B_isWellFormed_65 (fun H locs hP hS => ?_)
        refine xw_jnI (fun j => ∀ (sq : xw_S) (i2_92 : Int) (t0_92 : Int), j sq i2_92 t0_92 = some (sZ, r0) → ∀ (H : Heap) (locs : List Loc) (ls : Array Slot), va_P D vwCl (xw_ws kdC 100 ad cs Z sq) H → va_S A s.heap H locs → lv_has ls 5 [(0, .ref (ad (48 + 4 * b0))), (2, .int (xw_i i2_92))] → W p l e (headSpec w_B_isWellFormed ({ frames := 3, cells := 0, slots := 0, locals := 67 })).room s m [.ref (ad (48 + 4 * b0)), .int (xw_i p1)].toArray below meth c H locs 0 0 (MQ below (va_Qi (fun r u => r = xw_i r0 ∧ u = sZ) (xw_H D vwCl A kdC 100 ad cs Z tt) A) [.ref (ad (48 + 4 * b0)), .int (xw_i p1)].toArray s 0 0 A) (F0 m 92 ls [.int (xw_i t0_92)])) h ?_ ?_
        · intro s44 i2_92 t0_92 h H locs ls hP hS hl
          refine lv_istore hx hb d_B_isWellFormed_92 hl (by decide) rfl (fun ls hl => ?_)
          refine lv_aload_n hx hb d_B_isWellFormed_94 rfl (lv_at hl 1 rfl) ?_
          refine lv_aload_n hx hb d_B_isWellFormed_95 rfl (lv_at hl 1 rfl) ?_
          refine lv_iload_n hx hb d_B_isWellFormed_96 rfl (lv_at hl 2 rfl) ?_
          refine lv_iconst (v := xw_i 0) hx hb d_B_isWellFormed_97 rfl ?_
          obtain ⟨s45, r47, hc46, h⟩ := xw_bn2I h
          refine xw_callVi (C := "AdviceWeaver$Body") (T := T_B) ⟨hx, hb, hml, hown, hts⟩ (c_B_part l D A ad cs Z tt fu s44 s45 b0 (by omega) i2_92 0 r47 hc46) (cwV 2 hts (gd_V hw_90 hw_91 hw_92 hw_25 hw_93) rfl rfl rfl (by decide +kernel) ⟨Nat.le_of_ble_eq_true rfl, Nat.le_of_ble_eq_true rfl⟩) hP hK hD hX hS (by omega) (kc_Body b0 (by omega)) (by decide) rfl rfl hl.1 rfl (Nat.le_of_ble_eq_true rfl) d_B_isWellFormed_98 (fun H locs hP hS => ?_)
          obtain ⟨s48, r50, hc49, h⟩ := xw_bn2I h
          refine xw_callVi (C := "AdviceWeaver$Body") (T := T_B) ⟨hx, hb, hml, hown, hts⟩ (c_B_begins l D A ad cs Z tt fu s45 s48 b0 (by omega) r47 r50 hc49) (cwV 1 hts (gd_V hw_75 hw_76 hw_77 hw_25 hw_78) rfl rfl rfl (by decide +kernel) ⟨Nat.le_of_ble_eq_true rfl, Nat.le_of_ble_eq_true rfl⟩) hP hK hD hX hS (by omega) (kc_Body b0 (by omega)) (by decide) rfl rfl hl.1 rfl (Nat.le_of_ble_eq_true rfl) d_B_isWellFormed_101 (fun H locs hP hS => ?_)
          obtain ⟨hg51, h⟩ := xw_grdI h
          refine xw_if_eq (tgt := 125) hx hb hg51 d_B_isWellFormed_104 (by decide) (fun hc52 => ?_) (fun hc52 => ?_)
          · replace h := xw_ifT hc52 h
            exact hk125 s48 h _ _ _ hP hS (lv_sub hl [] rfl)
          · replace h := xw_ifF hc52 h
            refine lv_aload_n hx hb d_B_isWellFormed_107 rfl (lv_at hl 1 rfl) ?_
            refine lv_aload_n hx hb d_B_isWellFormed_108 rfl (lv_at hl 1 rfl) ?_
            refine lv_iload_n hx hb d_B_isWellFormed_109 rfl (lv_at hl 2 rfl) ?_
            refine lv_iconst (v := xw_i 2) hx hb d_B_isWellFormed_110 rfl ?_
            obtain ⟨s53, r55, hc54, h⟩ := xw_bn2I h
            refine xw_callVi (C := "AdviceWeaver$Body") (T := T_B) ⟨hx, hb, hml, hown, hts⟩ (c_B_part l D A ad cs Z tt fu s48 s53 b0 (by omega) i2_92 2 r55 hc54) (cwV 2 hts (gd_V hw_90 hw_91 hw_92 hw_25 hw_93) rfl rfl rfl (by decide +kernel) ⟨Nat.le_of_ble_eq_true rfl, Nat.le_of_ble_eq_true rfl⟩) hP hK hD hX hS (by omega) (kc_Body b0 (by omega)) (by decide) rfl rfl hl.1 rfl (Nat.le_of_ble_eq_true rfl) d_B_isWellFormed_111 (fun H locs hP hS => ?_)
            obtain ⟨s56, r58, hc57, h⟩ := xw_bn2I h
            refine xw_callVi (C := "AdviceWeaver$Body") (T := T_B) ⟨hx, hb, hml, hown, hts⟩ (c_B_begins l D A ad cs Z tt fu s53 s56 b0 (by omega) r55 r58 hc57) (cwV 1 hts (gd_V hw_75 hw_76 hw_77 hw_25 hw_78) rfl rfl rfl (by decide +kernel) ⟨Nat.le_of_ble_eq_true rfl, Nat.le_of_ble_eq_true rfl⟩) hP hK hD hX hS (by omega) (kc_Body b0 (by omega)) (by decide) rfl rfl hl.1 rfl (Nat.le_of_ble_eq_true rfl) d_B_isWellFormed_114 (fun H locs hP hS => ?_)
            obtain ⟨hg59, h⟩ := xw_grdI h
            refine xw_if_eq (tgt := 125) hx hb hg59 d_B_isWellFormed_117 (by decide) (fun hc60 => ?_) (fun hc60 => ?_)
            · replace h := xw_ifT hc60 h
              exact hk125 s56 h _ _ _ hP hS (lv_sub hl [] rfl)
            · replace h := xw_ifF hc60 h
              refine lv_iload hx hb d_B_isWellFormed_120 (lv_at hl 0 rfl) ?_
              obtain ⟨hg61, h⟩ := xw_grdI h
              refine xw_if_ne (tgt := 127) hx hb hg61 d_B_isWellFormed_122 (by decide) (fun hc62 => ?_) (fun hc62 => ?_)
              · replace h := xw_ifF hc62 h
                obtain ⟨v63, e64⟩ : ∃ z, z = i2_92 + 1 := ⟨_, rfl⟩
                replace h := xw_letI e64 h
                refine xw_iinc (lv' := [(2, .int (xw_i v63)), (4, .int (xw_i t0_92)), (0, .ref (ad (48 + 4 * b0)))]) hx hb d_B_isWellFormed_127 hl (k := 2) rfl (by decide) (by rw [e64]; rfl) (fun ls hl => ?_)
                refine lv_goto (tgt := 46) hx hb d_B_isWellFormed_130 (by decide) ?_
                exact ih46 s56 v63 h _ _ _ hP hS (lv_sub hl [2, 0] rfl)
              · replace h := xw_ifT hc62 h
                exact hk125 s56 h _ _ _ hP hS (lv_sub hl [] rfl)
        · intro j92 hj92 h
          refine xw_jnI (fun j => ∀ (sq : xw_S) (i2_91 : Int), j sq i2_91 = some (sZ, r0) → ∀ (H : Heap) (locs : List Loc) (ls : Array Slot), va_P D vwCl (xw_ws kdC 100 ad cs Z sq) H → va_S A s.heap H locs → lv_has ls 5 [(0, .ref (ad (48 + 4 * b0))), (2, .int (xw_i i2_91))] → W p l e (headSpec w_B_isWellFormed ({ frames := 3, cells := 0, slots := 0, locals := 67 })).room s m [.ref (ad (48 + 4 * b0)), .int (xw_i p1)].toArray below meth c H locs 0 0 (MQ below (va_Qi (fun r u => r = xw_i r0 ∧ u = sZ) (xw_H D vwCl A kdC 100 ad cs Z tt) A) [.ref (ad (48 + 4 * b0)), .int (xw_i p1)].toArray s 0 0 A) (F0 m 91 ls [])) h ?_ ?_
          · intro s43 i2_91 h H locs ls hP hS hl
            refine lv_iconst (v := xw_i 0) hx hb d_B_isWellFormed_91 rfl ?_
            exact hj92 s43 i2_91 0 h _ _ _ hP hS (lv_sub hl [0, 1] rfl)
          · intro j91 hj91 h
            obtain ⟨hg33, h⟩ := xw_grdI h
            refine xw_icmp_le (tgt := 91) hx hb hg33.1 hg33.2 d_B_isWellFormed_68 (by decide) (fun hc34 => ?_) (fun hc34 => ?_)
            · replace h := xw_ifT hc34 h
              exact hj91 s30 i2_46 h _ _ _ hP hS (lv_sub hl [1, 2] rfl)
            · replace h := xw_ifF hc34 h
              refine lv_iload_n hx hb d_B_isWellFormed_71 rfl (lv_at hl 0 rfl) ?_
              refine lv_aload_n hx hb d_B_isWellFormed_72 rfl (lv_at hl 1 rfl) ?_
              refine xw_getI (C := "AdviceWeaver$Body") (T := T_B) hx hb hts hin_B hown hK hP (by omega) (kc_Body b0 (by omega)) (by decide) rfl 8 (by decide) (hts _ hw_43) (fun _ h9 => h9) rfl d_B_isWellFormed_73 ?_
              refine xw_jnI (fun j => ∀ (sq : xw_S) (i2_87 : Int), j sq i2_87 = some (sZ, r0) → ∀ (H : Heap) (locs : List Loc) (ls : Array Slot), va_P D vwCl (xw_ws kdC 100 ad cs Z sq) H → va_S A s.heap H locs → lv_has ls 5 [(0, .ref (ad (48 + 4 * b0))), (2, .int (xw_i i2_87))] → W p l e (headSpec w_B_isWellFormed ({ frames := 3, cells := 0, slots := 0, locals := 67 })).room s m [.ref (ad (48 + 4 * b0)), .int (xw_i p1)].toArray below meth c H locs 0 0 (MQ below (va_Qi (fun r u => r = xw_i r0 ∧ u = sZ) (xw_H D vwCl A kdC 100 ad cs Z tt) A) [.ref (ad (48 + 4 * b0)), .int (xw_i p1)].toArray s 0 0 A) (F0 m 87 ls [])) h ?_ ?_
              · intro s42 i2_87 h H locs ls hP hS hl
                refine lv_iconst (v := xw_i 1) hx hb d_B_isWellFormed_87 rfl ?_
                refine lv_goto (tgt := 92) hx hb d_B_isWellFormed_88 (by decide) ?_
                exact hj92 s42 i2_87 1 h _ _ _ hP hS (lv_sub hl [0, 1] rfl)
              · intro j87 hj87 h
                obtain ⟨hg35, h⟩ := xw_grdI h
                refine xw_icmp_eq (tgt := 87) hx hb hg33.1 hg35 d_B_isWellFormed_76 (by decide) (fun hc36 => ?_) (fun hc36 => ?_)
                · replace h := xw_ifT hc36 h
                  exact hj87 s30 i2_46 h _ _ _ hP hS (lv_sub hl [1, 2] rfl)
                · replace h := xw_ifF hc36 h
                  refine lv_aload_n hx hb d_B_isWellFormed_79 rfl (lv_at hl 1 rfl) ?_
                  refine lv_iload_n hx hb d_B_isWellFormed_80 rfl (lv_at hl 0 rfl) ?_
                  obtain ⟨s37, r39, hc38, h⟩ := xw_bn2I h
                  refine xw_callVi (C := "AdviceWeaver$Body") (T := T_B) ⟨hx, hb, hml, hown, hts⟩ (c_B_begins l D A ad cs Z tt fu s30 s37 b0 (by omega) r29 r39 hc38) (cwV 1 hts (gd_V hw_75 hw_76 hw_77 hw_25 hw_78) rfl rfl rfl (by decide +kernel) ⟨Nat.le_of_ble_eq_true rfl, Nat.le_of_ble_eq_true rfl⟩) hP hK hD hX hS (by omega) (kc_Body b0 (by omega)) (by decide) rfl rfl hl.1 rfl (Nat.le_of_ble_eq_true rfl) d_B_isWellFormed_81 (fun H locs hP hS => ?_)
                  obtain ⟨hg40, h⟩ := xw_grdI h
                  refine xw_if_eq (tgt := 91) hx hb hg40 d_B_isWellFormed_84 (by decide) (fun hc41 => ?_) (fun hc41 => ?_)
                  · replace h := xw_ifT hc41 h
                    exact hj91 s37 i2_46 h _ _ _ hP hS (lv_sub hl [1, 2] rfl)
                  · replace h := xw_ifF hc41 h
                    exact hj87 s37 i2_46 h _ _ _ hP hS (lv_sub hl [1, 2] rfl)
  unfold f_B_isWellFormed at h
  refine lv_aload_n hx hb d_B_isWellFormed_0 rfl (lv_at hl 0 rfl) ?_
  obtain ⟨s1, r3, hc2, h⟩ := xw_bn2I h
  refine xw_callVi (C := "AdviceWeaver$Body") (T := T_B) ⟨hx, hb, hml, hown, hts⟩ (c_B_findInstructions l D A ad cs Z tt fu s0 s1 b0 (by omega) r3 hc2) (cwV 0 hts (gd_V hw_82 hw_83 hw_84 hw_25 hw_85) rfl rfl rfl (by decide +kernel) ⟨Nat.le_of_ble_eq_true rfl, Nat.le_of_ble_eq_true rfl⟩) hP hK hD hX hS (by omega) (kc_Body b0 (by omega)) (by decide) rfl rfl hl.1 rfl (Nat.le_of_ble_eq_true rfl) d_B_isWellFormed_1 (fun H locs hP hS => ?_)
  obtain ⟨hg4, h⟩ := xw_grdI h
  refine xw_if_ne (tgt := 9) hx hb hg4 d_B_isWellFormed_4 (by decide) (fun hc5 => ?_) (fun hc5 => ?_)
  · replace h := xw_ifF hc5 h
    refine lv_iconst (v := xw_i 0) hx hb d_B_isWellFormed_9 rfl ?_
    refine lv_istore_n hx hb d_B_isWellFormed_10 rfl hl (by decide) rfl (fun ls hl => ?_)
    refine xw_jnI (fun j => ∀ (sq : xw_S), j sq = some (sZ, r0) → ∀ (H : Heap) (locs : List Loc) (ls : Array Slot), va_P D vwCl (xw_ws kdC 100 ad cs Z sq) H → va_S A s.heap H locs → lv_has ls 5 [(0, .ref (ad (48 + 4 * b0)))] → W p l e (headSpec w_B_isWellFormed ({ frames := 3, cells := 0, slots := 0, locals := 67 })).room s m [.ref (ad (48 + 4 * b0)), .int (xw_i p1)].toArray below meth c H locs 0 0 (MQ below (va_Qi (fun r u => r = xw_i r0 ∧ u = sZ) (xw_H D vwCl A kdC 100 ad cs Z tt) A) [.ref (ad (48 + 4 * b0)), .int (xw_i p1)].toArray s 0 0 A) (F0 m 44 ls [])) h ?_ ?_
    · intro s23 h H locs ls hP hS hl
      refine lv_iconst (v := xw_i 0) hx hb d_B_isWellFormed_44 rfl ?_
      refine lv_istore_n hx hb d_B_isWellFormed_45 rfl hl (by decide) rfl (fun ls hl => ?_)
      refine xw_jnI (fun j => ∀ (sq : xw_S), j sq = some (sZ, r0) → ∀ (H : Heap) (locs : List Loc) (ls : Array Slot), va_P D vwCl (xw_ws kdC 100 ad cs Z sq) H → va_S A s.heap H locs → lv_has ls 5 [] → W p l e (headSpec w_B_isWellFormed ({ frames := 3, cells := 0, slots := 0, locals := 67 })).room s m [.ref (ad (48 + 4 * b0)), .int (xw_i p1)].toArray below meth c H locs 0 0 (MQ below (va_Qi (fun r u => r = xw_i r0 ∧ u = sZ) (xw_H D vwCl A kdC 100 ad cs Z tt) A) [.ref (ad (48 + 4 * b0)), .int (xw_i p1)].toArray s 0 0 A) (F0 m 133 ls [])) h ?_ ?_
      · intro s66 h H locs ls hP hS hl
        refine lv_iconst (v := xw_i 1) hx hb d_B_isWellFormed_133 rfl ?_
        exact xw_zretE hx hb hr hlk hP hK hD hX hS h (by decide) d_B_isWellFormed_134
      · intro k133 hk133 h
        refine xw_jnI (fun j => ∀ (sq : xw_S), j sq = some (sZ, r0) → ∀ (H : Heap) (locs : List Loc) (ls : Array Slot), va_P D vwCl (xw_ws kdC 100 ad cs Z sq) H → va_S A s.heap H locs → lv_has ls 5 [] → W p l e (headSpec w_B_isWellFormed ({ frames := 3, cells := 0, slots := 0, locals := 67 })).room s m [.ref (ad (48 + 4 * b0)), .int (xw_i p1)].toArray below meth c H locs 0 0 (MQ below (va_Qi (fun r u => r = xw_i r0 ∧ u = sZ) (xw_H D vwCl A kdC 100 ad cs Z tt) A) [.ref (ad (48 + 4 * b0)), .int (xw_i p1)].toArray s 0 0 A) (F0 m 125 ls [])) h ?_ ?_
        · intro s65 h H locs ls hP hS hl
          refine lv_iconst (v := xw_i 0) hx hb d_B_isWellFormed_125 rfl ?_
          exact xw_zretE hx hb hr hlk hP hK hD hX hS h (by decide) d_B_isWellFormed_126
        · intro k125 hk125 h
          exact hlp46 k125 hk125 k133 hk133 fu s23 0 h _ _ _ hP hS (lv_sub hl [1, 0] rfl)
    · intro k44 hk44 h
      refine xw_jnI (fun j => ∀ (sq : xw_S), j sq = some (sZ, r0) → ∀ (H : Heap) (locs : List Loc) (ls : Array Slot), va_P D vwCl (xw_ws kdC 100 ad cs Z sq) H → va_S A s.heap H locs → lv_has ls 5 [] → W p l e (headSpec w_B_isWellFormed ({ frames := 3, cells := 0, slots := 0, locals := 67 })).room s m [.ref (ad (48 + 4 * b0)), .int (xw_i p1)].toArray below meth c H locs 0 0 (MQ below (va_Qi (fun r u => r = xw_i r0 ∧ u = sZ) (xw_H D vwCl A kdC 100 ad cs Z tt) A) [.ref (ad (48 + 4 * b0)), .int (xw_i p1)].toArray s 0 0 A) (F0 m 36 ls [])) h ?_ ?_
      · intro s22 h H locs ls hP hS hl
        refine lv_iconst (v := xw_i 0) hx hb d_B_isWellFormed_36 rfl ?_
        exact xw_zretE hx hb hr hlk hP hK hD hX hS h (by decide) d_B_isWellFormed_37
      · intro k36 hk36 h
        exact hlp11 p1 k36 hk36 k44 hk44 fu s1 0 h _ _ _ hP hS (lv_sub hl [1, 2, 0] rfl)
  · replace h := xw_ifT hc5 h
    refine lv_iconst (v := xw_i 0) hx hb d_B_isWellFormed_7 rfl ?_
    exact xw_zretE hx hb hr hlk hP hK hD hX hS h (by decide) d_B_isWellFormed_8
def f_B_isReached (fu : Nat) (s0 : xw_S) (b0 : Nat) (p1 : Int) : Option (xw_S × Int) :=
 xw_grd (xw_r p1) (xw_if (p1 < 0) (some (s0, 0))
 (xw_grd (xw_r (s0.1 (48 + 4 * b0) 8)) (xw_if (s0.1 (48 + 4 * b0) 8 ≤ p1) (some (s0, 0))
 (xw_grd ((0 ≤ p1 ∧ p1 < ((xb_cap b0 : Nat) : Int))) (xw_grd (xw_r (s0.1 (50 + 4 * b0) (p1).toNat)) (xw_if (s0.1 (50 + 4 * b0) (p1).toNat < 0) (some (s0, 0))
 (some (s0, 1))))))))
set_option maxRecDepth 100000 in
set_option maxHeartbeats 4000000 in
theorem c_B_isReached (l : Launch) (D : va_G) (A : Nat → Prop) (ad : Nat → Nat) (cs : Nat → ClassId) (Z : va_W) (tt : Nat → Nat) (fu : Nat) (s0 sZ : xw_S) (b0 : Nat) (hb_b0 : b0 < 13) (p1 : Int) (r0 : Int) (h : f_B_isReached fu s0 b0 p1 = some (sZ, r0)) : Met l y_B_isReached w_B_isReached ({ frames := 0, cells := 0, slots := 0, locals := 0 }) (va_Pc [.ref (ad (48 + 4 * b0)), .int (xw_i p1)] (xw_H D vwCl A kdC 100 ad cs Z tt s0)) (va_Qi (fun r u => r = xw_i r0 ∧ u = sZ) (xw_H D vwCl A kdC 100 ad cs Z tt) A) 0 0 A := by
  refine Met.ofW (cc := b_B_isReached) (maxL := 2) (ret := (some .boolean)) (by decide) rfl ?_
  intro p e s m args below meth c s₁ B hml hv
  obtain ⟨rfl, hP, hK, hD, hX⟩ := hv
  have hx := B.exec
  have hb := B.bytes
  have hr := B.returns
  have hts0 := atoms_spec (ws := w_B_isReached) B.pre
  have hts := fun w (hw : w ∈ wAll) => hts0 w (List.mem_cons_of_mem _ hw)
  have hown : s.vm.findClass "AdviceWeaver$Body" = some m.cls := findClass_of_methodNamed B.named
  have hlk := B.notSynchronized
  clear hts0 B
  have hS : va_S A s.heap s.heap [] := va_S.rf
  have hl := lv_entry [.ref (ad (48 + 4 * b0)), .int (xw_i p1)] (n := 2) (Nat.le_of_ble_eq_true rfl)
  rw [lg_entry_eq]
  generalize (lg_sl [.ref (ad (48 + 4 * b0)), .int (xw_i p1)] ++ List.replicate (2 - (lg_sl [.ref (ad (48 + 4 * b0)), .int (xw_i p1)]).length) Slot.unset).toArray = ls at hl ⊢
  have hl : lv_has ls 2 [(0, .ref (ad (48 + 4 * b0))), (1, .int (xw_i p1))] := hl
  unfold f_B_isReached at h
  refine lv_iload_n hx hb d_B_isReached_0 rfl (lv_at hl 1 rfl) ?_
  obtain ⟨hg1, h⟩ := xw_grdI h
  refine xw_if_lt (tgt := 25) hx hb hg1 d_B_isReached_1 (by decide) (fun hc2 => ?_) (fun hc2 => ?_)
  · replace h := xw_ifT hc2 h
    refine lv_iconst (v := xw_i 0) hx hb d_B_isReached_25 rfl ?_
    exact xw_zretE hx hb hr hlk hP hK hD hX hS h (by decide) d_B_isReached_26
  · replace h := xw_ifF hc2 h
    refine lv_iload_n hx hb d_B_isReached_4 rfl (lv_at hl 1 rfl) ?_
    refine lv_aload_n hx hb d_B_isReached_5 rfl (lv_at hl 0 rfl) ?_
    refine xw_getI (C := "AdviceWeaver$Body") (T := T_B) hx hb hts hin_B hown hK hP (by omega) (kc_Body b0 (by omega)) (by decide) rfl 8 (by decide) (hts _ hw_43) (fun _ h9 => h9) rfl d_B_isReached_6 ?_
    obtain ⟨hg3, h⟩ := xw_grdI h
    refine xw_icmp_ge (tgt := 25) hx hb hg1 hg3 d_B_isReached_9 (by decide) (fun hc4 => ?_) (fun hc4 => ?_)
    · replace h := xw_ifT hc4 h
      refine lv_iconst (v := xw_i 0) hx hb d_B_isReached_25 rfl ?_
      exact xw_zretE hx hb hr hlk hP hK hD hX hS h (by decide) d_B_isReached_26
    · replace h := xw_ifF hc4 h
      refine lv_aload_n hx hb d_B_isReached_12 rfl (lv_at hl 0 rfl) ?_
      refine xw_getR (C := "AdviceWeaver$Body") (T := T_B) hx hb hts hin_B hown hK hP (by omega) (kc_Body b0 (by omega)) (by decide) rfl 1 (by decide) (hts _ hw_44) (fun _ h9 => h9) rfl d_B_isReached_13 ?_
      refine lv_iload_n hx hb d_B_isReached_16 rfl (lv_at hl 1 rfl) ?_
      obtain ⟨hg5, h⟩ := xw_grdI h
      refine xw_iald hx hb hK hP (by omega) (kc_bdepths b0 (by omega)) (xb_capL _) hg5 d_B_isReached_17 ?_
      obtain ⟨hg6, h⟩ := xw_grdI h
      refine xw_if_lt (tgt := 25) hx hb hg6 d_B_isReached_18 (by decide) (fun hc7 => ?_) (fun hc7 => ?_)
      · replace h := xw_ifT hc7 h
        refine lv_iconst (v := xw_i 0) hx hb d_B_isReached_25 rfl ?_
        exact xw_zretE hx hb hr hlk hP hK hD hX hS h (by decide) d_B_isReached_26
      · replace h := xw_ifF hc7 h
        refine lv_iconst (v := xw_i 1) hx hb d_B_isReached_21 rfl ?_
        refine lv_goto (tgt := 26) hx hb d_B_isReached_22 (by decide) ?_
        exact xw_zretE hx hb hr hlk hP hK hD hX hS h (by decide) d_B_isReached_26
def f_B_covers (fu : Nat) (s0 : xw_S) (b0 : Nat) (p1 : Int) (p2 : Int) : Option (xw_S × Int) :=
 xw_let (p1 * 4) (fun v1 => xw_grd ((0 ≤ v1 + 0 ∧ v1 + 0 < ((xb_hc b0 : Nat) : Int))) (xw_grd (xw_r (s0.1 (51 + 4 * b0) (v1 + 0).toNat) ∧ xw_r p2) (xw_if (p2 < s0.1 (51 + 4 * b0) (v1 + 0).toNat) (some (s0, 0))
 (xw_grd ((0 ≤ v1 + 1 ∧ v1 + 1 < ((xb_hc b0 : Nat) : Int))) (xw_grd (xw_r (s0.1 (51 + 4 * b0) (v1 + 1).toNat)) (xw_if (s0.1 (51 + 4 * b0) (v1 + 1).toNat ≤ p2) (some (s0, 0))
 (some (s0, 1))))))))
set_option maxRecDepth 100000 in
set_option maxHeartbeats 4000000 in
theorem c_B_covers (l : Launch) (D : va_G) (A : Nat → Prop) (ad : Nat → Nat) (cs : Nat → ClassId) (Z : va_W) (tt : Nat → Nat) (fu : Nat) (s0 sZ : xw_S) (b0 : Nat) (hb_b0 : b0 < 13) (p1 : Int) (p2 : Int) (r0 : Int) (h : f_B_covers fu s0 b0 p1 p2 = some (sZ, r0)) : Met l y_B_covers w_B_covers ({ frames := 0, cells := 0, slots := 0, locals := 0 }) (va_Pc [.ref (ad (48 + 4 * b0)), .int (xw_i p1), .int (xw_i p2)] (xw_H D vwCl A kdC 100 ad cs Z tt s0)) (va_Qi (fun r u => r = xw_i r0 ∧ u = sZ) (xw_H D vwCl A kdC 100 ad cs Z tt) A) 0 0 A := by
  refine Met.ofW (cc := b_B_covers) (maxL := 4) (ret := (some .boolean)) (by decide) rfl ?_
  intro p e s m args below meth c s₁ B hml hv
  obtain ⟨rfl, hP, hK, hD, hX⟩ := hv
  have hx := B.exec
  have hb := B.bytes
  have hr := B.returns
  have hts0 := atoms_spec (ws := w_B_covers) B.pre
  have hts := fun w (hw : w ∈ wAll) => hts0 w (List.mem_cons_of_mem _ hw)
  have hown : s.vm.findClass "AdviceWeaver$Body" = some m.cls := findClass_of_methodNamed B.named
  have hlk := B.notSynchronized
  clear hts0 B
  have hS : va_S A s.heap s.heap [] := va_S.rf
  have hl := lv_entry [.ref (ad (48 + 4 * b0)), .int (xw_i p1), .int (xw_i p2)] (n := 4) (Nat.le_of_ble_eq_true rfl)
  rw [lg_entry_eq]
  generalize (lg_sl [.ref (ad (48 + 4 * b0)), .int (xw_i p1), .int (xw_i p2)] ++ List.replicate (4 - (lg_sl [.ref (ad (48 + 4 * b0)), .int (xw_i p1), .int (xw_i p2)]).length) Slot.unset).toArray = ls at hl ⊢
  have hl : lv_has ls 4 [(0, .ref (ad (48 + 4 * b0))), (1, .int (xw_i p1)), (2, .int (xw_i p2))] := hl
  unfold f_B_covers at h
  refine lv_iload_n hx hb d_B_covers_0 rfl (lv_at hl 1 rfl) ?_
  refine lv_iconst (v := xw_i 4) hx hb d_B_covers_1 rfl ?_
  refine xw_imul hx hb d_B_covers_2 ?_
  refine xw_topi (fun v1 e2 => ?_)
  replace h := xw_letI e2 h
  refine lv_istore_n hx hb d_B_covers_3 rfl hl (by decide) rfl (fun ls hl => ?_)
  refine lv_aload_n hx hb d_B_covers_4 rfl (lv_at hl 1 rfl) ?_
  refine xw_getR (C := "AdviceWeaver$Body") (T := T_B) hx hb hts hin_B hown hK hP (by omega) (kc_Body b0 (by omega)) (by decide) rfl 2 (by decide) (hts _ hw_16) (fun _ h9 => h9) rfl d_B_covers_5 ?_
  refine lv_iload_n hx hb d_B_covers_8 rfl (lv_at hl 0 rfl) ?_
  refine lv_iconst (v := xw_i 0) hx hb d_B_covers_9 rfl ?_
  refine xw_iadd hx hb d_B_covers_10 ?_
  obtain ⟨hg3, h⟩ := xw_grdI h
  refine xw_iald hx hb hK hP (by omega) (kc_bparts b0 (by omega)) (xb_hcL _) hg3 d_B_covers_11 ?_
  refine lv_iload_n hx hb d_B_covers_12 rfl (lv_at hl 3 rfl) ?_
  obtain ⟨hg4, h⟩ := xw_grdI h
  refine xw_icmp_gt (tgt := 32) hx hb hg4.1 hg4.2 d_B_covers_13 (by decide) (fun hc5 => ?_) (fun hc5 => ?_)
  · replace h := xw_ifT hc5 h
    refine lv_iconst (v := xw_i 0) hx hb d_B_covers_32 rfl ?_
    exact xw_zretE hx hb hr hlk hP hK hD hX hS h (by decide) d_B_covers_33
  · replace h := xw_ifF hc5 h
    refine lv_iload_n hx hb d_B_covers_16 rfl (lv_at hl 3 rfl) ?_
    refine lv_aload_n hx hb d_B_covers_17 rfl (lv_at hl 1 rfl) ?_
    refine xw_getR (C := "AdviceWeaver$Body") (T := T_B) hx hb hts hin_B hown hK hP (by omega) (kc_Body b0 (by omega)) (by decide) rfl 2 (by decide) (hts _ hw_16) (fun _ h9 => h9) rfl d_B_covers_18 ?_
    refine lv_iload_n hx hb d_B_covers_21 rfl (lv_at hl 0 rfl) ?_
    refine lv_iconst (v := xw_i 1) hx hb d_B_covers_22 rfl ?_
    refine xw_iadd hx hb d_B_covers_23 ?_
    obtain ⟨hg6, h⟩ := xw_grdI h
    refine xw_iald hx hb hK hP (by omega) (kc_bparts b0 (by omega)) (xb_hcL _) hg6 d_B_covers_24 ?_
    obtain ⟨hg7, h⟩ := xw_grdI h
    refine xw_icmp_ge (tgt := 32) hx hb hg4.2 hg7 d_B_covers_25 (by decide) (fun hc8 => ?_) (fun hc8 => ?_)
    · replace h := xw_ifT hc8 h
      refine lv_iconst (v := xw_i 0) hx hb d_B_covers_32 rfl ?_
      exact xw_zretE hx hb hr hlk hP hK hD hX hS h (by decide) d_B_covers_33
    · replace h := xw_ifF hc8 h
      refine lv_iconst (v := xw_i 1) hx hb d_B_covers_28 rfl ?_
      refine lv_goto (tgt := 33) hx hb d_B_covers_29 (by decide) ?_
      exact xw_zretE hx hb hr hlk hP hK hD hX hS h (by decide) d_B_covers_33
def f_B_become (fu : Nat) (s0 : xw_S) (b0 : Nat) (b1 : Nat) : Option xw_S :=
 xw_let (xw_st s0 (48 + 4 * b0) 4 (s0.1 (48 + 4 * b1) 4)) (fun s1 => xw_let (xw_st s1 (48 + 4 * b0) 5 (s1.1 (48 + 4 * b1) 5)) (fun s3 => xw_let (xw_st s3 (48 + 4 * b0) 6 (s3.1 (48 + 4 * b1) 6)) (fun s5 => xw_let (xw_st s5 (48 + 4 * b0) 7 (s5.1 (48 + 4 * b1) 7)) (fun s7 => xw_let (xw_st s7 (48 + 4 * b0) 8 (s7.1 (48 + 4 * b1) 8)) (fun s9 => xw_let (xw_st s9 (48 + 4 * b0) 9 (s9.1 (48 + 4 * b1) 9)) (fun s11 => xw_let (xw_st s11 (48 + 4 * b0) 10 (s11.1 (48 + 4 * b1) 10)) (fun s13 => xw_let (xw_st s13 (48 + 4 * b0) 11 (s13.1 (48 + 4 * b1) 11)) (fun s15 => xw_grd ((0 ≤ s15.1 (48 + 4 * b0) 8 ∧ s15.1 (48 + 4 * b0) 8 ≤ ((xb_cap b1 : Nat) : Int) ∧ s15.1 (48 + 4 * b0) 8 ≤ ((xb_cap b0 : Nat) : Int))) (xw_let (xw_cp s15 (49 + 4 * b1) 0 (49 + 4 * b0) 0 (s15.1 (48 + 4 * b0) 8).toNat) (fun s18 => xw_grd ((0 ≤ s18.1 (48 + 4 * b0) 8 ∧ s18.1 (48 + 4 * b0) 8 ≤ ((xb_cap b1 : Nat) : Int) ∧ s18.1 (48 + 4 * b0) 8 ≤ ((xb_cap b0 : Nat) : Int))) (xw_let (xw_cp s18 (50 + 4 * b1) 0 (50 + 4 * b0) 0 (s18.1 (48 + 4 * b0) 8).toNat) (fun s21 => xw_grd ((0 ≤ (s21.1 (48 + 4 * b0) 9) * 4 ∧ (s21.1 (48 + 4 * b0) 9) * 4 ≤ ((xb_hc b1 : Nat) : Int) ∧ (s21.1 (48 + 4 * b0) 9) * 4 ≤ ((xb_hc b0 : Nat) : Int))) (xw_let (xw_cp s21 (51 + 4 * b1) 0 (51 + 4 * b0) 0 ((s21.1 (48 + 4 * b0) 9) * 4).toNat) (fun s24 => some s24))))))))))))))
set_option maxRecDepth 100000 in
set_option maxHeartbeats 4000000 in
theorem c_B_become (l : Launch) (D : va_G) (A : Nat → Prop) (ad : Nat → Nat) (cs : Nat → ClassId) (Z : va_W) (tt : Nat → Nat) (fu : Nat) (s0 sZ : xw_S) (b0 : Nat) (hb_b0 : b0 < 13) (b1 : Nat) (hb_b1 : b1 < 13) (h : f_B_become fu s0 b0 b1 = some sZ) : Met l y_B_become w_B_become ({ frames := 1, cells := 0, slots := 0, locals := 60 }) (va_Pc [.ref (ad (48 + 4 * b0)), .ref (ad (48 + 4 * b1))] (xw_H D vwCl A kdC 100 ad cs Z tt s0)) (va_Qv (fun u => u = sZ) (xw_H D vwCl A kdC 100 ad cs Z tt) A) 0 0 A := by
  refine Met.ofW (cc := b_B_become) (maxL := 2) (ret := none) (by decide) rfl ?_
  intro p e s m args below meth c s₁ B hml hv
  obtain ⟨rfl, hP, hK, hD, hX⟩ := hv
  have hx := B.exec
  have hb := B.bytes
  have hr := B.returns
  have hts0 := atoms_spec (ws := w_B_become) B.pre
  have hts := fun w (hw : w ∈ wAll) => hts0 w (List.mem_cons_of_mem _ hw)
  have hown : s.vm.findClass "AdviceWeaver$Body" = some m.cls := findClass_of_methodNamed B.named
  have hlk := B.notSynchronized
  clear hts0 B
  have hS : va_S A s.heap s.heap [] := va_S.rf
  have hl := lv_entry [.ref (ad (48 + 4 * b0)), .ref (ad (48 + 4 * b1))] (n := 2) (Nat.le_of_ble_eq_true rfl)
  rw [lg_entry_eq]
  generalize (lg_sl [.ref (ad (48 + 4 * b0)), .ref (ad (48 + 4 * b1))] ++ List.replicate (2 - (lg_sl [.ref (ad (48 + 4 * b0)), .ref (ad (48 + 4 * b1))]).length) Slot.unset).toArray = ls at hl ⊢
  have hl : lv_has ls 2 [(0, .ref (ad (48 + 4 * b0))), (1, .ref (ad (48 + 4 * b1)))] := hl
  unfold f_B_become at h
  refine lv_aload_n hx hb d_B_become_0 rfl (lv_at hl 0 rfl) ?_
  refine lv_aload_n hx hb d_B_become_1 rfl (lv_at hl 1 rfl) ?_
  refine xw_getI (C := "AdviceWeaver$Body") (T := T_B) hx hb hts hin_B hown hK hP (by omega) (kc_Body b1 (by omega)) (by decide) rfl 4 (by decide) (hts _ hw_142) (fun _ h9 => h9) rfl d_B_become_2 ?_
  refine xw_putI (C := "AdviceWeaver$Body") (T := T_B) hx hb hts hin_B ty_B ty_B_ok nm_B hown hK hP hD hS (by omega) (kc_Body b0 (by omega)) (by decide) rfl 4 (by decide) (hts _ hw_142) (fun _ h9 => h9) rfl (by decide +kernel) rfl d_B_become_5 (fun s1 e2 H locs hP hS => ?_)
  replace h := xw_letI e2 h
  refine lv_aload_n hx hb d_B_become_8 rfl (lv_at hl 0 rfl) ?_
  refine lv_aload_n hx hb d_B_become_9 rfl (lv_at hl 1 rfl) ?_
  refine xw_getI (C := "AdviceWeaver$Body") (T := T_B) hx hb hts hin_B hown hK hP (by omega) (kc_Body b1 (by omega)) (by decide) rfl 5 (by decide) (hts _ hw_143) (fun _ h9 => h9) rfl d_B_become_10 ?_
  refine xw_putI (C := "AdviceWeaver$Body") (T := T_B) hx hb hts hin_B ty_B ty_B_ok nm_B hown hK hP hD hS (by omega) (kc_Body b0 (by omega)) (by decide) rfl 5 (by decide) (hts _ hw_143) (fun _ h9 => h9) rfl (by decide +kernel) rfl d_B_become_13 (fun s3 e4 H locs hP hS => ?_)
  replace h := xw_letI e4 h
  refine lv_aload_n hx hb d_B_become_16 rfl (lv_at hl 0 rfl) ?_
  refine lv_aload_n hx hb d_B_become_17 rfl (lv_at hl 1 rfl) ?_
  refine xw_getI (C := "AdviceWeaver$Body") (T := T_B) hx hb hts hin_B hown hK hP (by omega) (kc_Body b1 (by omega)) (by decide) rfl 6 (by decide) (hts _ hw_70) (fun _ h9 => h9) rfl d_B_become_18 ?_
  refine xw_putI (C := "AdviceWeaver$Body") (T := T_B) hx hb hts hin_B ty_B ty_B_ok nm_B hown hK hP hD hS (by omega) (kc_Body b0 (by omega)) (by decide) rfl 6 (by decide) (hts _ hw_70) (fun _ h9 => h9) rfl (by decide +kernel) rfl d_B_become_21 (fun s5 e6 H locs hP hS => ?_)
  replace h := xw_letI e6 h
  refine lv_aload_n hx hb d_B_become_24 rfl (lv_at hl 0 rfl) ?_
  refine lv_aload_n hx hb d_B_become_25 rfl (lv_at hl 1 rfl) ?_
  refine xw_getI (C := "AdviceWeaver$Body") (T := T_B) hx hb hts hin_B hown hK hP (by omega) (kc_Body b1 (by omega)) (by decide) rfl 7 (by decide) (hts _ hw_144) (fun _ h9 => h9) rfl d_B_become_26 ?_
  refine xw_putI (C := "AdviceWeaver$Body") (T := T_B) hx hb hts hin_B ty_B ty_B_ok nm_B hown hK hP hD hS (by omega) (kc_Body b0 (by omega)) (by decide) rfl 7 (by decide) (hts _ hw_144) (fun _ h9 => h9) rfl (by decide +kernel) rfl d_B_become_29 (fun s7 e8 H locs hP hS => ?_)
  replace h := xw_letI e8 h
  refine lv_aload_n hx hb d_B_become_32 rfl (lv_at hl 0 rfl) ?_
  refine lv_aload_n hx hb d_B_become_33 rfl (lv_at hl 1 rfl) ?_
  refine xw_getI (C := "AdviceWeaver$Body") (T := T_B) hx hb hts hin_B hown hK hP (by omega) (kc_Body b1 (by omega)) (by decide) rfl 8 (by decide) (hts _ hw_43) (fun _ h9 => h9) rfl d_B_become_34 ?_
  refine xw_putI (C := "AdviceWeaver$Body") (T := T_B) hx hb hts hin_B ty_B ty_B_ok nm_B hown hK hP hD hS (by omega) (kc_Body b0 (by omega)) (by decide) rfl 8 (by decide) (hts _ hw_43) (fun _ h9 => h9) rfl (by decide +kernel) rfl d_B_become_37 (fun s9 e10 H locs hP hS => ?_)
  replace h := xw_letI e10 h
  refine lv_aload_n hx hb d_B_become_40 rfl (lv_at hl 0 rfl) ?_
  refine lv_aload_n hx hb d_B_become_41 rfl (lv_at hl 1 rfl) ?_
  refine xw_getI (C := "AdviceWeaver$Body") (T := T_B) hx hb hts hin_B hown hK hP (by omega) (kc_Body b1 (by omega)) (by decide) rfl 9 (by decide) (hts _ hw_14) (fun _ h9 => h9) rfl d_B_become_42 ?_
  refine xw_putI (C := "AdviceWeaver$Body") (T := T_B) hx hb hts hin_B ty_B ty_B_ok nm_B hown hK hP hD hS (by omega) (kc_Body b0 (by omega)) (by decide) rfl 9 (by decide) (hts _ hw_14) (fun _ h9 => h9) rfl (by decide +kernel) rfl d_B_become_45 (fun s11 e12 H locs hP hS => ?_)
  replace h := xw_letI e12 h
  refine lv_aload_n hx hb d_B_become_48 rfl (lv_at hl 0 rfl) ?_
  refine lv_aload_n hx hb d_B_become_49 rfl (lv_at hl 1 rfl) ?_
  refine xw_getI (C := "AdviceWeaver$Body") (T := T_B) hx hb hts hin_B hown hK hP (by omega) (kc_Body b1 (by omega)) (by decide) rfl 10 (by decide) (hts _ hw_42) (fun _ h9 => h9) rfl d_B_become_50 ?_
  refine xw_putI (C := "AdviceWeaver$Body") (T := T_B) hx hb hts hin_B ty_B ty_B_ok nm_B hown hK hP hD hS (by omega) (kc_Body b0 (by omega)) (by decide) rfl 10 (by decide) (hts _ hw_42) (fun _ h9 => h9) rfl (by decide +kernel) rfl d_B_become_53 (fun s13 e14 H locs hP hS => ?_)
  replace h := xw_letI e14 h
  refine lv_aload_n hx hb d_B_become_56 rfl (lv_at hl 0 rfl) ?_
  refine lv_aload_n hx hb d_B_become_57 rfl (lv_at hl 1 rfl) ?_
  refine xw_getI (C := "AdviceWeaver$Body") (T := T_B) hx hb hts hin_B hown hK hP (by omega) (kc_Body b1 (by omega)) (by decide) rfl 11 (by decide) (hts _ hw_145) (fun _ h9 => h9) rfl d_B_become_58 ?_
  refine xw_putI (C := "AdviceWeaver$Body") (T := T_B) hx hb hts hin_B ty_B ty_B_ok nm_B hown hK hP hD hS (by omega) (kc_Body b0 (by omega)) (by decide) rfl 11 (by decide) (hts _ hw_145) (fun _ h9 => h9) rfl (by decide +kernel) rfl d_B_become_61 (fun s15 e16 H locs hP hS => ?_)
  replace h := xw_letI e16 h
  refine lv_aload_n hx hb d_B_become_64 rfl (lv_at hl 1 rfl) ?_
  refine xw_getR (C := "AdviceWeaver$Body") (T := T_B) hx hb hts hin_B hown hK hP (by omega) (kc_Body b1 (by omega)) (by decide) rfl 0 (by decide) (hts _ hw_45) (fun _ h9 => h9) rfl d_B_become_65 ?_
  refine lv_iconst (v := xw_i 0) hx hb d_B_become_68 rfl ?_
  refine lv_aload_n hx hb d_B_become_69 rfl (lv_at hl 0 rfl) ?_
  refine xw_getR (C := "AdviceWeaver$Body") (T := T_B) hx hb hts hin_B hown hK hP (by omega) (kc_Body b0 (by omega)) (by decide) rfl 0 (by decide) (hts _ hw_45) (fun _ h9 => h9) rfl d_B_become_70 ?_
  refine lv_iconst (v := xw_i 0) hx hb d_B_become_73 rfl ?_
  refine lv_aload_n hx hb d_B_become_74 rfl (lv_at hl 0 rfl) ?_
  refine xw_getI (C := "AdviceWeaver$Body") (T := T_B) hx hb hts hin_B hown hK hP (by omega) (kc_Body b0 (by omega)) (by decide) rfl 8 (by decide) (hts _ hw_43) (fun _ h9 => h9) rfl d_B_become_75 ?_
  obtain ⟨hg17, h⟩ := xw_grdI h
  refine xw_copy hx hb (hml.trans hl.1.symm) hown (hts _ hw_146) (hts _ hw_147) (hts _ hw_148) (hts _ hw_149) hK hP hD hS (by omega) (kc_bcode b1 (by omega)) (by omega) (kc_bcode b0 (by omega)) (xb_capL _) hg17 (Nat.le_of_ble_eq_true rfl) (Nat.le_of_ble_eq_true rfl) d_B_become_78 (fun s18 e19 H locs hP hS => ?_)
  replace h := xw_letI e19 h
  refine lv_aload_n hx hb d_B_become_81 rfl (lv_at hl 1 rfl) ?_
  refine xw_getR (C := "AdviceWeaver$Body") (T := T_B) hx hb hts hin_B hown hK hP (by omega) (kc_Body b1 (by omega)) (by decide) rfl 1 (by decide) (hts _ hw_44) (fun _ h9 => h9) rfl d_B_become_82 ?_
  refine lv_iconst (v := xw_i 0) hx hb d_B_become_85 rfl ?_
  refine lv_aload_n hx hb d_B_become_86 rfl (lv_at hl 0 rfl) ?_
  refine xw_getR (C := "AdviceWeaver$Body") (T := T_B) hx hb hts hin_B hown hK hP (by omega) (kc_Body b0 (by omega)) (by decide) rfl 1 (by decide) (hts _ hw_44) (fun _ h9 => h9) rfl d_B_become_87 ?_
  refine lv_iconst (v := xw_i 0) hx hb d_B_become_90 rfl ?_
  refine lv_aload_n hx hb d_B_become_91 rfl (lv_at hl 0 rfl) ?_
  refine xw_getI (C := "AdviceWeaver$Body") (T := T_B) hx hb hts hin_B hown hK hP (by omega) (kc_Body b0 (by omega)) (by decide) rfl 8 (by decide) (hts _ hw_43) (fun _ h9 => h9) rfl d_B_become_92 ?_
  obtain ⟨hg20, h⟩ := xw_grdI h
  refine xw_copy hx hb (hml.trans hl.1.symm) hown (hts _ hw_146) (hts _ hw_147) (hts _ hw_148) (hts _ hw_149) hK hP hD hS (by omega) (kc_bdepths b1 (by omega)) (by omega) (kc_bdepths b0 (by omega)) (xb_capL _) hg20 (Nat.le_of_ble_eq_true rfl) (Nat.le_of_ble_eq_true rfl) d_B_become_95 (fun s21 e22 H locs hP hS => ?_)
  replace h := xw_letI e22 h
  refine lv_aload_n hx hb d_B_become_98 rfl (lv_at hl 1 rfl) ?_
  refine xw_getR (C := "AdviceWeaver$Body") (T := T_B) hx hb hts hin_B hown hK hP (by omega) (kc_Body b1 (by omega)) (by decide) rfl 2 (by decide) (hts _ hw_16) (fun _ h9 => h9) rfl d_B_become_99 ?_
  refine lv_iconst (v := xw_i 0) hx hb d_B_become_102 rfl ?_
  refine lv_aload_n hx hb d_B_become_103 rfl (lv_at hl 0 rfl) ?_
  refine xw_getR (C := "AdviceWeaver$Body") (T := T_B) hx hb hts hin_B hown hK hP (by omega) (kc_Body b0 (by omega)) (by decide) rfl 2 (by decide) (hts _ hw_16) (fun _ h9 => h9) rfl d_B_become_104 ?_
  refine lv_iconst (v := xw_i 0) hx hb d_B_become_107 rfl ?_
  refine lv_aload_n hx hb d_B_become_108 rfl (lv_at hl 0 rfl) ?_
  refine xw_getI (C := "AdviceWeaver$Body") (T := T_B) hx hb hts hin_B hown hK hP (by omega) (kc_Body b0 (by omega)) (by decide) rfl 9 (by decide) (hts _ hw_14) (fun _ h9 => h9) rfl d_B_become_109 ?_
  refine lv_iconst (v := xw_i 4) hx hb d_B_become_112 rfl ?_
  refine xw_imul hx hb d_B_become_113 ?_
  obtain ⟨hg23, h⟩ := xw_grdI h
  refine xw_copy hx hb (hml.trans hl.1.symm) hown (hts _ hw_146) (hts _ hw_147) (hts _ hw_148) (hts _ hw_149) hK hP hD hS (by omega) (kc_bparts b1 (by omega)) (by omega) (kc_bparts b0 (by omega)) (xb_hcL _) hg23 (Nat.le_of_ble_eq_true rfl) (Nat.le_of_ble_eq_true rfl) d_B_become_114 (fun s24 e25 H locs hP hS => ?_)
  replace h := xw_letI e25 h
  exact xw_vretE hx hb hr hlk hP hK hD hX hS h d_B_become_117
def lp_B_catcherOf_2 (fu : Nat) (b0 : Nat) (c1_2 : Int) (c2_2 : Int) (k38 : xw_S → Int → Option (xw_S × Int)) (k51 : xw_S → Option (xw_S × Int)) : Nat → xw_S → Int → Option (xw_S × Int)
  | 0, _, _ => none
  | n + 1, s1, i3_2 =>
    xw_grd (xw_r i3_2 ∧ xw_r (s1.1 (48 + 4 * b0) 9)) (xw_if (s1.1 (48 + 4 * b0) 9 ≤ i3_2) (k51 s1)
     (xw_bn2 (f_B_part fu s1 b0 i3_2 3) (fun s4 r6 => xw_bn2 (f_B_covers fu s4 b0 i3_2 c1_2) (fun s7 r9 => xw_jn (fun (s16 : xw_S) (i3_45 : Int) => xw_let (i3_45 + 1) (fun v17 => lp_B_catcherOf_2 fu b0 c1_2 c2_2 k38 k51 n s16 v17))
     (fun (j45 : xw_S → Int → Option (xw_S × Int)) => xw_grd (xw_r r9) (xw_if (r9 = 0) (j45 s7 i3_2)
     (xw_grd (xw_r r6) (xw_if (r6 = 0) (k38 s7 i3_2)
     (xw_grd (xw_r c2_2) (xw_if (r6 = c2_2) (k38 s7 i3_2)
     (j45 s7 i3_2)))))))))))
def f_B_catcherOf (fu : Nat) (s0 : xw_S) (b0 : Nat) (p1 : Int) (p2 : Int) : Option (xw_S × Int) :=
 xw_jn (fun (s23 : xw_S) => some (s23, -1))
 (fun (k51 : xw_S → Option (xw_S × Int)) => xw_jn (fun (s19 : xw_S) (i3_38 : Int) => xw_bn2 (f_B_part fu s19 b0 i3_38 2) (fun s20 r22 => some (s20, r22)))
 (fun (k38 : xw_S → Int → Option (xw_S × Int)) => lp_B_catcherOf_2 fu b0 p1 p2 k38 k51 fu s0 0))
set_option maxRecDepth 100000 in
set_option maxHeartbeats 4000000 in
theorem c_B_catcherOf (l : Launch) (D : va_G) (A : Nat → Prop) (ad : Nat → Nat) (cs : Nat → ClassId) (Z : va_W) (tt : Nat → Nat) (fu : Nat) (s0 sZ : xw_S) (b0 : Nat) (hb_b0 : b0 < 13) (p1 : Int) (p2 : Int) (r0 : Int) (h : f_B_catcherOf fu s0 b0 p1 p2 = some (sZ, r0)) : Met l y_B_catcherOf w_B_catcherOf ({ frames := 1, cells := 0, slots := 0, locals := 23 }) (va_Pc [.ref (ad (48 + 4 * b0)), .int (xw_i p1), .int (xw_i p2)] (xw_H D vwCl A kdC 100 ad cs Z tt s0)) (va_Qi (fun r u => r = xw_i r0 ∧ u = sZ) (xw_H D vwCl A kdC 100 ad cs Z tt) A) 0 0 A := by
  refine Met.ofW (cc := b_B_catcherOf) (maxL := 5) (ret := (some .int)) (by decide) rfl ?_
  intro p e s m args below meth c s₁ B hml hv
  obtain ⟨rfl, hP, hK, hD, hX⟩ := hv
  have hx := B.exec
  have hb := B.bytes
  have hr := B.returns
  have hts0 := atoms_spec (ws := w_B_catcherOf) B.pre
  have hts := fun w (hw : w ∈ wAll) => hts0 w (List.mem_cons_of_mem _ hw)
  have hown : s.vm.findClass "AdviceWeaver$Body" = some m.cls := findClass_of_methodNamed B.named
  have hlk := B.notSynchronized
  clear hts0 B
  have hS : va_S A s.heap s.heap [] := va_S.rf
  have hl := lv_entry [.ref (ad (48 + 4 * b0)), .int (xw_i p1), .int (xw_i p2)] (n := 5) (Nat.le_of_ble_eq_true rfl)
  rw [lg_entry_eq]
  generalize (lg_sl [.ref (ad (48 + 4 * b0)), .int (xw_i p1), .int (xw_i p2)] ++ List.replicate (5 - (lg_sl [.ref (ad (48 + 4 * b0)), .int (xw_i p1), .int (xw_i p2)]).length) Slot.unset).toArray = ls at hl ⊢
  have hl : lv_has ls 5 [(0, .ref (ad (48 + 4 * b0))), (1, .int (xw_i p1)), (2, .int (xw_i p2))] := hl
  have hlp2 : ∀ (c1_2 : Int) (c2_2 : Int) (k38 : xw_S → Int → Option (xw_S × Int)) (hk38 : ∀ (sq : xw_S) (i3_38 : Int), k38 sq i3_38 = some (sZ, r0) → ∀ (H : Heap) (locs : List Loc) (ls : Array Slot), va_P D vwCl (xw_ws kdC 100 ad cs Z sq) H → va_S A s.heap H locs → lv_has ls 5 [(0, .ref (ad (48 + 4 * b0))), (3, .int (xw_i i3_38))] → W p l e (headSpec w_B_catcherOf ({ frames := 1, cells := 0, slots := 0, locals := 23 })).room s m [.ref (ad (48 + 4 * b0)), .int (xw_i p1), .int (xw_i p2)].toArray below meth c H locs 0 0 (MQ below (va_Qi (fun r u => r = xw_i r0 ∧ u = sZ) (xw_H D vwCl A kdC 100 ad cs Z tt) A) [.ref (ad (48 + 4 * b0)), .int (xw_i p1), .int (xw_i p2)].toArray s 0 0 A) (F0 m 38 ls [])) (k51 : xw_S → Option (xw_S × Int)) (hk51 : ∀ (sq : xw_S), k51 sq = some (sZ, r0) → ∀ (H : Heap) (locs : List Loc) (ls : Array Slot), va_P D vwCl (xw_ws kdC 100 ad cs Z sq) H → va_S A s.heap H locs → lv_has ls 5 [] → W p l e (headSpec w_B_catcherOf ({ frames := 1, cells := 0, slots := 0, locals := 23 })).room s m [.ref (ad (48 + 4 * b0)), .int (xw_i p1), .int (xw_i p2)].toArray below meth c H locs 0 0 (MQ below (va_Qi (fun r u => r = xw_i r0 ∧ u = sZ) (xw_H D vwCl A kdC 100 ad cs Z tt) A) [.ref (ad (48 + 4 * b0)), .int (xw_i p1), .int (xw_i p2)].toArray s 0 0 A) (F0 m 51 ls [])) (n : Nat), ∀ (sq : xw_S) (i3_2 : Int), lp_B_catcherOf_2 fu b0 c1_2 c2_2 k38 k51 n sq i3_2 = some (sZ, r0) → ∀ (H : Heap) (locs : List Loc) (ls : Array Slot), va_P D vwCl (xw_ws kdC 100 ad cs Z sq) H → va_S A s.heap H locs → lv_has ls 5 [(0, .ref (ad (48 + 4 * b0))), (1, .int (xw_i c1_2)), (2, .int (xw_i c2_2)), (3, .int (xw_i i3_2))] → W p l e (headSpec w_B_catcherOf ({ frames := 1, cells := 0, slots := 0, locals := 23 })).room s m [.ref (ad (48 + 4 * b0)), .int (xw_i p1), .int (xw_i p2)].toArray below meth c H locs 0 0 (MQ below (va_Qi (fun r u => r = xw_i r0 ∧ u = sZ) (xw_H D vwCl A kdC 100 ad cs Z tt) A) [.ref (ad (48 + 4 * b0)), .int (xw_i p1), .int (xw_i p2)].toArray s 0 0 A) (F0 m 2 ls []) := by
    intro c1_2 c2_2 k38 hk38 k51 hk51 n
    induction n with
    | zero =>
      intro sq i3_2 h
      cases (show (none : Option (xw_S × Int)) = some (sZ, r0) from h)
    | succ n ih2 =>
      intro s1 i3_2 h H locs ls hP hS hl
      unfold lp_B_catcherOf_2 at h
      refine lv_iload_n hx hb d_B_catcherOf_2 rfl (lv_at hl 3 rfl) ?_
      refine lv_aload_n hx hb d_B_catcherOf_3 rfl (lv_at hl 0 rfl) ?_
      refine xw_getI (C := "AdviceWeaver$Body") (T := T_B) hx hb hts hin_B hown hK hP (by omega) (kc_Body b0 (by omega)) (by decide) rfl 9 (by decide) (hts _ hw_14) (fun _ h9 => h9) rfl d_B_catcherOf_4 ?_
      obtain ⟨hg2, h⟩ := xw_grdI h
      refine xw_icmp_ge (tgt := 51) hx hb hg2.1 hg2.2 d_B_catcherOf_7 (by decide) (fun hc3 => ?_) (fun hc3 => ?_)
      · replace h := xw_ifT hc3 h
        exact hk51 s1 h _ _ _ hP hS (lv_sub hl [] rfl)
      · replace h := xw_ifF hc3 h
        refine lv_aload_n hx hb d_B_catcherOf_10 rfl (lv_at hl 0 rfl) ?_
        refine lv_iload_n hx hb d_B_catcherOf_11 rfl (lv_at hl 3 rfl) ?_
        refine lv_iconst (v := xw_i 3) hx hb d_B_catcherOf_12 rfl ?_
        obtain ⟨s4, r6, hc5, h⟩ := xw_bn2I h
        refine xw_callVi (C := "AdviceWeaver$Body") (T := T_B) ⟨hx, hb, hml, hown, hts⟩ (c_B_part l D A ad cs Z tt fu s1 s4 b0 (by omega) i3_2 3 r6 hc5) (cwV 2 hts (gd_V hw_90 hw_91 hw_92 hw_25 hw_93) rfl rfl rfl (by decide +kernel) ⟨Nat.le_of_ble_eq_true rfl, Nat.le_of_ble_eq_true rfl⟩) hP hK hD hX hS (by omega) (kc_Body b0 (by omega)) (by decide) rfl rfl hl.1 rfl (Nat.le_of_ble_eq_true rfl) d_B_catcherOf_13 (fun H locs hP hS => ?_)
        refine lv_istore hx hb d_B_catcherOf_16 hl (by decide) rfl (fun ls hl => ?_)
        refine lv_aload_n hx hb d_B_catcherOf_18 rfl (lv_at hl 1 rfl) ?_
        refine lv_iload_n hx hb d_B_catcherOf_19 rfl (lv_at hl 4 rfl) ?_
        refine lv_iload_n hx hb d_B_catcherOf_20 rfl (lv_at hl 2 rfl) ?_
        obtain ⟨s7, r9, hc8, h⟩ := xw_bn2I h
        refine xw_callVi (C := "AdviceWeaver$Body") (T := T_B) ⟨hx, hb, hml, hown, hts⟩ (c_B_covers l D A ad cs Z tt fu s4 s7 b0 (by omega) i3_2 c1_2 r9 hc8) (cwV 2 hts (gd_V hw_328 hw_127 hw_128 hw_25 hw_129) rfl rfl rfl (by decide +kernel) ⟨Nat.le_of_ble_eq_true rfl, Nat.le_of_ble_eq_true rfl⟩) hP hK hD hX hS (by omega) (kc_Body b0 (by omega)) (by decide) rfl rfl hl.1 rfl (Nat.le_of_ble_eq_true rfl) d_B_catcherOf_21 (fun H locs hP hS => ?_)
        refine xw_jnI (fun j => ∀ (sq : xw_S) (i3_45 : Int), j sq i3_45 = some (sZ, r0) → ∀ (H : Heap) (locs : List Loc) (ls : Array Slot), va_P D vwCl (xw_ws kdC 100 ad cs Z sq) H → va_S A s.heap H locs → lv_has ls 5 [(0, .ref (ad (48 + 4 * b0))), (1, .int (xw_i c1_2)), (2, .int (xw_i c2_2)), (3, .int (xw_i i3_45))] → W p l e (headSpec w_B_catcherOf ({ frames := 1, cells := 0, slots := 0, locals := 23 })).room s m [.ref (ad (48 + 4 * b0)), .int (xw_i p1), .int (xw_i p2)].toArray below meth c H locs 0 0 (MQ below (va_Qi (fun r u => r = xw_i r0 ∧ u = sZ) (xw_H D vwCl A kdC 100 ad cs Z tt) A) [.ref (ad (48 + 4 * b0)), .int (xw_i p1), .int (xw_i p2)].toArray s 0 0 A) (F0 m 45 ls [])) h ?_ ?_
        · intro s16 i3_45 h H locs ls hP hS hl
          obtain ⟨v17, e18⟩ : ∃ z, z = i3_45 + 1 := ⟨_, rfl⟩
          replace h := xw_letI e18 h
          refine xw_iinc (lv' := [(3, .int (xw_i v17)), (0, .ref (ad (48 + 4 * b0))), (1, .int (xw_i c1_2)), (2, .int (xw_i c2_2))]) hx hb d_B_catcherOf_45 hl (k := 3) rfl (by decide) (by rw [e18]; rfl) (fun ls hl => ?_)
          refine lv_goto (tgt := 2) hx hb d_B_catcherOf_48 (by decide) ?_
          exact ih2 s16 v17 h _ _ _ hP hS (lv_sub hl [1, 2, 3, 0] rfl)
        · intro j45 hj45 h
          obtain ⟨hg10, h⟩ := xw_grdI h
          refine xw_if_eq (tgt := 45) hx hb hg10 d_B_catcherOf_24 (by decide) (fun hc11 => ?_) (fun hc11 => ?_)
          · replace h := xw_ifT hc11 h
            exact hj45 s7 i3_2 h _ _ _ hP hS (lv_sub hl [1, 2, 3, 4] rfl)
          · replace h := xw_ifF hc11 h
            refine lv_iload hx hb d_B_catcherOf_27 (lv_at hl 0 rfl) ?_
            obtain ⟨hg12, h⟩ := xw_grdI h
            refine xw_if_eq (tgt := 38) hx hb hg12 d_B_catcherOf_29 (by decide) (fun hc13 => ?_) (fun hc13 => ?_)
            · replace h := xw_ifT hc13 h
              exact hk38 s7 i3_2 h _ _ _ hP hS (lv_sub hl [1, 4] rfl)
            · replace h := xw_ifF hc13 h
              refine lv_iload hx hb d_B_catcherOf_32 (lv_at hl 0 rfl) ?_
              refine lv_iload_n hx hb d_B_catcherOf_34 rfl (lv_at hl 3 rfl) ?_
              obtain ⟨hg14, h⟩ := xw_grdI h
              refine xw_icmp_ne (tgt := 45) hx hb hg12 hg14 d_B_catcherOf_35 (by decide) (fun hc15 => ?_) (fun hc15 => ?_)
              · replace h := xw_ifF hc15 h
                exact hj45 s7 i3_2 h _ _ _ hP hS (lv_sub hl [1, 2, 3, 4] rfl)
              · replace h := xw_ifT hc15 h
                exact hk38 s7 i3_2 h _ _ _ hP hS (lv_sub hl [1, 4] rfl)
  unfold f_B_catcherOf at h
  refine lv_iconst (v := xw_i 0) hx hb d_B_catcherOf_0 rfl ?_
  refine lv_istore_n hx hb d_B_catcherOf_1 rfl hl (by decide) rfl (fun ls hl => ?_)
  refine xw_jnI (fun j => ∀ (sq : xw_S), j sq = some (sZ, r0) → ∀ (H : Heap) (locs : List Loc) (ls : Array Slot), va_P D vwCl (xw_ws kdC 100 ad cs Z sq) H → va_S A s.heap H locs → lv_has ls 5 [] → W p l e (headSpec w_B_catcherOf ({ frames := 1, cells := 0, slots := 0, locals := 23 })).room s m [.ref (ad (48 + 4 * b0)), .int (xw_i p1), .int (xw_i p2)].toArray below meth c H locs 0 0 (MQ below (va_Qi (fun r u => r = xw_i r0 ∧ u = sZ) (xw_H D vwCl A kdC 100 ad cs Z tt) A) [.ref (ad (48 + 4 * b0)), .int (xw_i p1), .int (xw_i p2)].toArray s 0 0 A) (F0 m 51 ls [])) h ?_ ?_
  · intro s23 h H locs ls hP hS hl
    refine lv_iconst (v := xw_i (-1)) hx hb d_B_catcherOf_51 rfl ?_
    exact xw_iretE hx hb hr hlk hP hK hD hX hS h d_B_catcherOf_52
  · intro k51 hk51 h
    refine xw_jnI (fun j => ∀ (sq : xw_S) (i3_38 : Int), j sq i3_38 = some (sZ, r0) → ∀ (H : Heap) (locs : List Loc) (ls : Array Slot), va_P D vwCl (xw_ws kdC 100 ad cs Z sq) H → va_S A s.heap H locs → lv_has ls 5 [(0, .ref (ad (48 + 4 * b0))), (3, .int (xw_i i3_38))] → W p l e (headSpec w_B_catcherOf ({ frames := 1, cells := 0, slots := 0, locals := 23 })).room s m [.ref (ad (48 + 4 * b0)), .int (xw_i p1), .int (xw_i p2)].toArray below meth c H locs 0 0 (MQ below (va_Qi (fun r u => r = xw_i r0 ∧ u = sZ) (xw_H D vwCl A kdC 100 ad cs Z tt) A) [.ref (ad (48 + 4 * b0)), .int (xw_i p1), .int (xw_i p2)].toArray s 0 0 A) (F0 m 38 ls [])) h ?_ ?_
    · intro s19 i3_38 h H locs ls hP hS hl
      refine lv_aload_n hx hb d_B_catcherOf_38 rfl (lv_at hl 0 rfl) ?_
      refine lv_iload_n hx hb d_B_catcherOf_39 rfl (lv_at hl 1 rfl) ?_
      refine lv_iconst (v := xw_i 2) hx hb d_B_catcherOf_40 rfl ?_
      obtain ⟨s20, r22, hc21, h⟩ := xw_bn2I h
      refine xw_callVi (C := "AdviceWeaver$Body") (T := T_B) ⟨hx, hb, hml, hown, hts⟩ (c_B_part l D A ad cs Z tt fu s19 s20 b0 (by omega) i3_38 2 r22 hc21) (cwV 2 hts (gd_V hw_90 hw_91 hw_92 hw_25 hw_93) rfl rfl rfl (by decide +kernel) ⟨Nat.le_of_ble_eq_true rfl, Nat.le_of_ble_eq_true rfl⟩) hP hK hD hX hS (by omega) (kc_Body b0 (by omega)) (by decide) rfl rfl hl.1 rfl (Nat.le_of_ble_eq_true rfl) d_B_catcherOf_41 (fun H locs hP hS => ?_)
      exact xw_iretE hx hb hr hlk hP hK hD hX hS h d_B_catcherOf_44
    · intro k38 hk38 h
      exact hlp2 p1 p2 k38 hk38 k51 hk51 fu s0 0 h _ _ _ hP hS (lv_sub hl [1, 2, 3, 0] rfl)
