/-! decode rows -/
theorem d_MD_transform_0 : decode b_MD_transform 0 = .ok (.aload_n 0, 1) := by decide +kernel
theorem d_MD_transform_1 : decode b_MD_transform 1 = .ok (.iload_n 1, 1) := by decide +kernel
theorem d_MD_transform_2 : decode b_MD_transform 2 = .ok (.invokevirtual 115, 3) := by decide +kernel
theorem d_MD_transform_5 : decode b_MD_transform 5 = .ok (.pop, 1) := by decide +kernel
theorem d_MD_transform_6 : decode b_MD_transform 6 = .ok (.aload_n 0, 1) := by decide +kernel
theorem d_MD_transform_7 : decode b_MD_transform 7 = .ok (.iload_n 1, 1) := by decide +kernel
theorem d_MD_transform_8 : decode b_MD_transform 8 = .ok (.aload_n 0, 1) := by decide +kernel
theorem d_MD_transform_9 : decode b_MD_transform 9 = .ok (.getfield 37, 3) := by decide +kernel
theorem d_MD_transform_12 : decode b_MD_transform 12 = .ok (.iload_n 2, 1) := by decide +kernel
theorem d_MD_transform_13 : decode b_MD_transform 13 = .ok (.baload, 1) := by decide +kernel
theorem d_MD_transform_14 : decode b_MD_transform 14 = .ok (.invokevirtual 197, 3) := by decide +kernel
theorem d_MD_transform_17 : decode b_MD_transform 17 = .ok (.iconst 0, 1) := by decide +kernel
theorem d_MD_transform_18 : decode b_MD_transform 18 = .ok (.istore_n 3, 1) := by decide +kernel
theorem d_MD_transform_19 : decode b_MD_transform 19 = .ok (.iload_n 3, 1) := by decide +kernel
theorem d_MD_transform_20 : decode b_MD_transform 20 = .ok (.bipush 120, 2) := by decide +kernel
theorem d_MD_transform_22 : decode b_MD_transform 22 = .ok (.if_icmp .gt 16, 3) := by decide +kernel
theorem d_MD_transform_25 : decode b_MD_transform 25 = .ok (.aload_n 0, 1) := by decide +kernel
theorem d_MD_transform_26 : decode b_MD_transform 26 = .ok (.getfield 63, 3) := by decide +kernel
theorem d_MD_transform_29 : decode b_MD_transform 29 = .ok (.iload_n 3, 1) := by decide +kernel
theorem d_MD_transform_30 : decode b_MD_transform 30 = .ok (.iconst 0, 1) := by decide +kernel
theorem d_MD_transform_31 : decode b_MD_transform 31 = .ok (.bastore, 1) := by decide +kernel
theorem d_MD_transform_32 : decode b_MD_transform 32 = .ok (.iinc 3 1, 3) := by decide +kernel
theorem d_MD_transform_35 : decode b_MD_transform 35 = .ok (.goto (-16), 3) := by decide +kernel
theorem d_MD_transform_38 : decode b_MD_transform 38 = .ok (.iconst 1, 1) := by decide +kernel
theorem d_MD_transform_39 : decode b_MD_transform 39 = .ok (.istore_n 3, 1) := by decide +kernel
theorem d_MD_transform_40 : decode b_MD_transform 40 = .ok (.iload_n 3, 1) := by decide +kernel
theorem d_MD_transform_41 : decode b_MD_transform 41 = .ok (.ifCond .eq 26, 3) := by decide +kernel
theorem d_MD_transform_44 : decode b_MD_transform 44 = .ok (.aload_n 0, 1) := by decide +kernel
theorem d_MD_transform_45 : decode b_MD_transform 45 = .ok (.iload_n 1, 1) := by decide +kernel
theorem d_MD_transform_46 : decode b_MD_transform 46 = .ok (.aload_n 0, 1) := by decide +kernel
theorem d_MD_transform_47 : decode b_MD_transform 47 = .ok (.getfield 37, 3) := by decide +kernel
theorem d_MD_transform_50 : decode b_MD_transform 50 = .ok (.iload_n 2, 1) := by decide +kernel
theorem d_MD_transform_51 : decode b_MD_transform 51 = .ok (.baload, 1) := by decide +kernel
theorem d_MD_transform_52 : decode b_MD_transform 52 = .ok (.ifCond .eq 7, 3) := by decide +kernel
theorem d_MD_transform_55 : decode b_MD_transform 55 = .ok (.iconst 0, 1) := by decide +kernel
theorem d_MD_transform_56 : decode b_MD_transform 56 = .ok (.goto 4, 3) := by decide +kernel
theorem d_MD_transform_59 : decode b_MD_transform 59 = .ok (.iconst 2, 1) := by decide +kernel
theorem d_MD_transform_60 : decode b_MD_transform 60 = .ok (.invokevirtual 201, 3) := by decide +kernel
theorem d_MD_transform_63 : decode b_MD_transform 63 = .ok (.istore_n 3, 1) := by decide +kernel
theorem d_MD_transform_64 : decode b_MD_transform 64 = .ok (.goto (-24), 3) := by decide +kernel
theorem d_MD_transform_67 : decode b_MD_transform 67 = .ok (.aload_n 0, 1) := by decide +kernel
theorem d_MD_transform_68 : decode b_MD_transform 68 = .ok (.getfield 66, 3) := by decide +kernel
theorem d_MD_transform_71 : decode b_MD_transform 71 = .ok (.aload_n 0, 1) := by decide +kernel
theorem d_MD_transform_72 : decode b_MD_transform 72 = .ok (.getfield 25, 3) := by decide +kernel
theorem d_MD_transform_75 : decode b_MD_transform 75 = .ok (.iload_n 1, 1) := by decide +kernel
theorem d_MD_transform_76 : decode b_MD_transform 76 = .ok (.iaload, 1) := by decide +kernel
theorem d_MD_transform_77 : decode b_MD_transform 77 = .ok (.iaload, 1) := by decide +kernel
theorem d_MD_transform_78 : decode b_MD_transform 78 = .ok (.istore 4, 2) := by decide +kernel
theorem d_MD_transform_80 : decode b_MD_transform 80 = .ok (.iload 4, 2) := by decide +kernel
theorem d_MD_transform_82 : decode b_MD_transform 82 = .ok (.aload_n 0, 1) := by decide +kernel
theorem d_MD_transform_83 : decode b_MD_transform 83 = .ok (.getfield 37, 3) := by decide +kernel
theorem d_MD_transform_86 : decode b_MD_transform 86 = .ok (.iload_n 2, 1) := by decide +kernel
theorem d_MD_transform_87 : decode b_MD_transform 87 = .ok (.baload, 1) := by decide +kernel
theorem d_MD_transform_88 : decode b_MD_transform 88 = .ok (.ifCond .eq 7, 3) := by decide +kernel
theorem d_MD_transform_91 : decode b_MD_transform 91 = .ok (.iconst 0, 1) := by decide +kernel
theorem d_MD_transform_92 : decode b_MD_transform 92 = .ok (.goto 4, 3) := by decide +kernel
theorem d_MD_transform_95 : decode b_MD_transform 95 = .ok (.iconst 3, 1) := by decide +kernel
theorem d_MD_transform_96 : decode b_MD_transform 96 = .ok (.iadd, 1) := by decide +kernel
theorem d_MD_transform_97 : decode b_MD_transform 97 = .ok (.bipush 120, 2) := by decide +kernel
theorem d_MD_transform_99 : decode b_MD_transform 99 = .ok (.if_icmp .gt 22, 3) := by decide +kernel
