/-! 24.weaver -/
theorem d_AW_put_0 : decode b_AW_put 0 = .ok (.aload_n 0, 1) := by decide +kernel
theorem d_AW_put_1 : decode b_AW_put 1 = .ok (.getfield 10, 3) := by decide +kernel
theorem d_AW_put_4 : decode b_AW_put 4 = .ok (.iload_n 1, 1) := by decide +kernel
theorem d_AW_put_5 : decode b_AW_put 5 = .ok (.iload_n 2, 1) := by decide +kernel
theorem d_AW_put_6 : decode b_AW_put 6 = .ok (.invokevirtual 74, 3) := by decide +kernel
theorem d_AW_put_9 : decode b_AW_put 9 = .ok (.ireturn, 1) := by decide +kernel
theorem d_AW_clear_0 : decode b_AW_clear 0 = .ok (.aload_n 0, 1) := by decide +kernel
theorem d_AW_clear_1 : decode b_AW_clear 1 = .ok (.getfield 10, 3) := by decide +kernel
theorem d_AW_clear_4 : decode b_AW_clear 4 = .ok (.invokevirtual 78, 3) := by decide +kernel
theorem d_AW_clear_7 : decode b_AW_clear 7 = .ok (.return_, 1) := by decide +kernel
theorem d_AW_forgetFailures_0 : decode b_AW_forgetFailures 0 = .ok (.iconst 0, 1) := by decide +kernel
theorem d_AW_forgetFailures_1 : decode b_AW_forgetFailures 1 = .ok (.istore_n 1, 1) := by decide +kernel
theorem d_AW_forgetFailures_2 : decode b_AW_forgetFailures 2 = .ok (.iload_n 1, 1) := by decide +kernel
theorem d_AW_forgetFailures_3 : decode b_AW_forgetFailures 3 = .ok (.aload_n 0, 1) := by decide +kernel
theorem d_AW_forgetFailures_4 : decode b_AW_forgetFailures 4 = .ok (.getfield 38, 3) := by decide +kernel
theorem d_AW_forgetFailures_7 : decode b_AW_forgetFailures 7 = .ok (.arraylength, 1) := by decide +kernel
theorem d_AW_forgetFailures_8 : decode b_AW_forgetFailures 8 = .ok (.if_icmp .ge 16, 3) := by decide +kernel
theorem d_AW_forgetFailures_11 : decode b_AW_forgetFailures 11 = .ok (.aload_n 0, 1) := by decide +kernel
theorem d_AW_forgetFailures_12 : decode b_AW_forgetFailures 12 = .ok (.getfield 38, 3) := by decide +kernel
theorem d_AW_forgetFailures_15 : decode b_AW_forgetFailures 15 = .ok (.iload_n 1, 1) := by decide +kernel
theorem d_AW_forgetFailures_16 : decode b_AW_forgetFailures 16 = .ok (.iconst 0, 1) := by decide +kernel
theorem d_AW_forgetFailures_17 : decode b_AW_forgetFailures 17 = .ok (.bastore, 1) := by decide +kernel
theorem d_AW_forgetFailures_18 : decode b_AW_forgetFailures 18 = .ok (.iinc 1 1, 3) := by decide +kernel
theorem d_AW_forgetFailures_21 : decode b_AW_forgetFailures 21 = .ok (.goto (-19), 3) := by decide +kernel
theorem d_AW_forgetFailures_24 : decode b_AW_forgetFailures 24 = .ok (.return_, 1) := by decide +kernel
theorem d_AW_load_0 : decode b_AW_load 0 = .ok (.aload_n 0, 1) := by decide +kernel
theorem d_AW_load_1 : decode b_AW_load 1 = .ok (.getfield 10, 3) := by decide +kernel
theorem d_AW_load_4 : decode b_AW_load 4 = .ok (.aload_n 0, 1) := by decide +kernel
theorem d_AW_load_5 : decode b_AW_load 5 = .ok (.getfield 18, 3) := by decide +kernel
theorem d_AW_load_8 : decode b_AW_load 8 = .ok (.invokevirtual 81, 3) := by decide +kernel
theorem d_AW_load_11 : decode b_AW_load 11 = .ok (.istore_n 1, 1) := by decide +kernel
theorem d_AW_load_12 : decode b_AW_load 12 = .ok (.iload_n 1, 1) := by decide +kernel
theorem d_AW_load_13 : decode b_AW_load 13 = .ok (.ifCond .ge 5, 3) := by decide +kernel
theorem d_AW_load_16 : decode b_AW_load 16 = .ok (.iload_n 1, 1) := by decide +kernel
theorem d_AW_load_17 : decode b_AW_load 17 = .ok (.ireturn, 1) := by decide +kernel
theorem d_AW_load_18 : decode b_AW_load 18 = .ok (.iconst 0, 1) := by decide +kernel
theorem d_AW_load_19 : decode b_AW_load 19 = .ok (.istore_n 2, 1) := by decide +kernel
theorem d_AW_load_20 : decode b_AW_load 20 = .ok (.iload_n 2, 1) := by decide +kernel
theorem d_AW_load_21 : decode b_AW_load 21 = .ok (.iload_n 1, 1) := by decide +kernel
theorem d_AW_load_22 : decode b_AW_load 22 = .ok (.if_icmp .ge 48, 3) := by decide +kernel
theorem d_AW_load_25 : decode b_AW_load 25 = .ok (.aload_n 0, 1) := by decide +kernel
theorem d_AW_load_26 : decode b_AW_load 26 = .ok (.getfield 18, 3) := by decide +kernel
theorem d_AW_load_29 : decode b_AW_load 29 = .ok (.iload_n 2, 1) := by decide +kernel
theorem d_AW_load_30 : decode b_AW_load 30 = .ok (.aaload, 1) := by decide +kernel
theorem d_AW_load_31 : decode b_AW_load 31 = .ok (.iload_n 1, 1) := by decide +kernel
theorem d_AW_load_32 : decode b_AW_load 32 = .ok (.invokevirtual 85, 3) := by decide +kernel
theorem d_AW_load_35 : decode b_AW_load 35 = .ok (.ifCond .eq 23, 3) := by decide +kernel
theorem d_AW_load_38 : decode b_AW_load 38 = .ok (.aload_n 0, 1) := by decide +kernel
theorem d_AW_load_39 : decode b_AW_load 39 = .ok (.getfield 45, 3) := by decide +kernel
theorem d_AW_load_42 : decode b_AW_load 42 = .ok (.aload_n 0, 1) := by decide +kernel
theorem d_AW_load_43 : decode b_AW_load 43 = .ok (.getfield 18, 3) := by decide +kernel
theorem d_AW_load_46 : decode b_AW_load 46 = .ok (.iload_n 2, 1) := by decide +kernel
theorem d_AW_load_47 : decode b_AW_load 47 = .ok (.aaload, 1) := by decide +kernel
theorem d_AW_load_48 : decode b_AW_load 48 = .ok (.aload_n 0, 1) := by decide +kernel
theorem d_AW_load_49 : decode b_AW_load 49 = .ok (.getfield 18, 3) := by decide +kernel
theorem d_AW_load_52 : decode b_AW_load 52 = .ok (.invokevirtual 89, 3) := by decide +kernel
theorem d_AW_load_55 : decode b_AW_load 55 = .ok (.ifCond .ne 9, 3) := by decide +kernel
theorem d_AW_load_58 : decode b_AW_load 58 = .ok (.sipush (-1000), 3) := by decide +kernel
theorem d_AW_load_61 : decode b_AW_load 61 = .ok (.iload_n 2, 1) := by decide +kernel
theorem d_AW_load_62 : decode b_AW_load 62 = .ok (.isub, 1) := by decide +kernel
theorem d_AW_load_63 : decode b_AW_load 63 = .ok (.ireturn, 1) := by decide +kernel
theorem d_AW_load_64 : decode b_AW_load 64 = .ok (.iinc 2 1, 3) := by decide +kernel
theorem d_AW_load_67 : decode b_AW_load 67 = .ok (.goto (-47), 3) := by decide +kernel
theorem d_AW_load_70 : decode b_AW_load 70 = .ok (.iconst 0, 1) := by decide +kernel
theorem d_AW_load_71 : decode b_AW_load 71 = .ok (.istore_n 2, 1) := by decide +kernel
theorem d_AW_load_72 : decode b_AW_load 72 = .ok (.iload_n 2, 1) := by decide +kernel
theorem d_AW_load_73 : decode b_AW_load 73 = .ok (.iload_n 1, 1) := by decide +kernel
theorem d_AW_load_74 : decode b_AW_load 74 = .ok (.if_icmp .ge 24, 3) := by decide +kernel
theorem d_AW_load_77 : decode b_AW_load 77 = .ok (.aload_n 0, 1) := by decide +kernel
theorem d_AW_load_78 : decode b_AW_load 78 = .ok (.getfield 22, 3) := by decide +kernel
theorem d_AW_load_81 : decode b_AW_load 81 = .ok (.iload_n 2, 1) := by decide +kernel
theorem d_AW_load_82 : decode b_AW_load 82 = .ok (.aaload, 1) := by decide +kernel
theorem d_AW_load_83 : decode b_AW_load 83 = .ok (.aload_n 0, 1) := by decide +kernel
theorem d_AW_load_84 : decode b_AW_load 84 = .ok (.getfield 18, 3) := by decide +kernel
theorem d_AW_load_87 : decode b_AW_load 87 = .ok (.iload_n 2, 1) := by decide +kernel
theorem d_AW_load_88 : decode b_AW_load 88 = .ok (.aaload, 1) := by decide +kernel
theorem d_AW_load_89 : decode b_AW_load 89 = .ok (.invokevirtual 93, 3) := by decide +kernel
theorem d_AW_load_92 : decode b_AW_load 92 = .ok (.iinc 2 1, 3) := by decide +kernel
theorem d_AW_load_95 : decode b_AW_load 95 = .ok (.goto (-23), 3) := by decide +kernel
theorem d_AW_load_98 : decode b_AW_load 98 = .ok (.aload_n 0, 1) := by decide +kernel
theorem d_AW_load_99 : decode b_AW_load 99 = .ok (.iload_n 1, 1) := by decide +kernel
theorem d_AW_load_100 : decode b_AW_load 100 = .ok (.putfield 63, 3) := by decide +kernel
theorem d_AW_load_103 : decode b_AW_load 103 = .ok (.aload_n 0, 1) := by decide +kernel
theorem d_AW_load_104 : decode b_AW_load 104 = .ok (.iconst 0, 1) := by decide +kernel
theorem d_AW_load_105 : decode b_AW_load 105 = .ok (.putfield 70, 3) := by decide +kernel
theorem d_AW_load_108 : decode b_AW_load 108 = .ok (.aload_n 0, 1) := by decide +kernel
theorem d_AW_load_109 : decode b_AW_load 109 = .ok (.invokevirtual 97, 3) := by decide +kernel
theorem d_AW_load_112 : decode b_AW_load 112 = .ok (.iload_n 1, 1) := by decide +kernel
theorem d_AW_load_113 : decode b_AW_load 113 = .ok (.ireturn, 1) := by decide +kernel
theorem d_AW_transformer_0 : decode b_AW_transformer 0 = .ok (.iload_n 2, 1) := by decide +kernel
theorem d_AW_transformer_1 : decode b_AW_transformer 1 = .ok (.ifCond .eq 15, 3) := by decide +kernel
theorem d_AW_transformer_4 : decode b_AW_transformer 4 = .ok (.iload_n 2, 1) := by decide +kernel
theorem d_AW_transformer_5 : decode b_AW_transformer 5 = .ok (.bipush 97, 2) := by decide +kernel
theorem d_AW_transformer_7 : decode b_AW_transformer 7 = .ok (.if_icmp .lt 13, 3) := by decide +kernel
theorem d_AW_transformer_10 : decode b_AW_transformer 10 = .ok (.iload_n 2, 1) := by decide +kernel
theorem d_AW_transformer_11 : decode b_AW_transformer 11 = .ok (.bipush 122, 2) := by decide +kernel
theorem d_AW_transformer_13 : decode b_AW_transformer 13 = .ok (.if_icmp .gt 7, 3) := by decide +kernel
theorem d_AW_transformer_16 : decode b_AW_transformer 16 = .ok (.iconst 1, 1) := by decide +kernel
theorem d_AW_transformer_17 : decode b_AW_transformer 17 = .ok (.goto 4, 3) := by decide +kernel
theorem d_AW_transformer_20 : decode b_AW_transformer 20 = .ok (.iconst 0, 1) := by decide +kernel
theorem d_AW_transformer_21 : decode b_AW_transformer 21 = .ok (.istore 4, 2) := by decide +kernel
theorem d_AW_transformer_23 : decode b_AW_transformer 23 = .ok (.iload_n 3, 1) := by decide +kernel
theorem d_AW_transformer_24 : decode b_AW_transformer 24 = .ok (.iconst (-1), 1) := by decide +kernel
theorem d_AW_transformer_25 : decode b_AW_transformer 25 = .ok (.if_icmp .lt 12, 3) := by decide +kernel
theorem d_AW_transformer_28 : decode b_AW_transformer 28 = .ok (.iload_n 3, 1) := by decide +kernel
theorem d_AW_transformer_29 : decode b_AW_transformer 29 = .ok (.iconst 2, 1) := by decide +kernel
theorem d_AW_transformer_30 : decode b_AW_transformer 30 = .ok (.if_icmp .gt 7, 3) := by decide +kernel
theorem d_AW_transformer_33 : decode b_AW_transformer 33 = .ok (.iconst 1, 1) := by decide +kernel
theorem d_AW_transformer_34 : decode b_AW_transformer 34 = .ok (.goto 4, 3) := by decide +kernel
theorem d_AW_transformer_37 : decode b_AW_transformer 37 = .ok (.iconst 0, 1) := by decide +kernel
theorem d_AW_transformer_38 : decode b_AW_transformer 38 = .ok (.istore 5, 2) := by decide +kernel
theorem d_AW_transformer_40 : decode b_AW_transformer 40 = .ok (.iload 4, 2) := by decide +kernel
theorem d_AW_transformer_42 : decode b_AW_transformer 42 = .ok (.ifCond .eq 16, 3) := by decide +kernel
theorem d_AW_transformer_45 : decode b_AW_transformer 45 = .ok (.iload 5, 2) := by decide +kernel
theorem d_AW_transformer_47 : decode b_AW_transformer 47 = .ok (.ifCond .eq 11, 3) := by decide +kernel
theorem d_AW_transformer_50 : decode b_AW_transformer 50 = .ok (.aload_n 0, 1) := by decide +kernel
theorem d_AW_transformer_51 : decode b_AW_transformer 51 = .ok (.getfield 67, 3) := by decide +kernel
theorem d_AW_transformer_54 : decode b_AW_transformer 54 = .ok (.iconst 3, 1) := by decide +kernel
theorem d_AW_transformer_55 : decode b_AW_transformer 55 = .ok (.if_icmp .lt 5, 3) := by decide +kernel
theorem d_AW_transformer_58 : decode b_AW_transformer 58 = .ok (.iconst (-1), 1) := by decide +kernel
theorem d_AW_transformer_59 : decode b_AW_transformer 59 = .ok (.ireturn, 1) := by decide +kernel
theorem d_AW_transformer_60 : decode b_AW_transformer 60 = .ok (.aload_n 0, 1) := by decide +kernel
theorem d_AW_transformer_61 : decode b_AW_transformer 61 = .ok (.getfield 33, 3) := by decide +kernel
theorem d_AW_transformer_64 : decode b_AW_transformer 64 = .ok (.aload_n 0, 1) := by decide +kernel
theorem d_AW_transformer_65 : decode b_AW_transformer 65 = .ok (.getfield 67, 3) := by decide +kernel
theorem d_AW_transformer_68 : decode b_AW_transformer 68 = .ok (.aaload, 1) := by decide +kernel
theorem d_AW_transformer_69 : decode b_AW_transformer 69 = .ok (.iload_n 1, 1) := by decide +kernel
theorem d_AW_transformer_70 : decode b_AW_transformer 70 = .ok (.iload_n 2, 1) := by decide +kernel
theorem d_AW_transformer_71 : decode b_AW_transformer 71 = .ok (.iload_n 3, 1) := by decide +kernel
theorem d_AW_transformer_72 : decode b_AW_transformer 72 = .ok (.invokevirtual 100, 3) := by decide +kernel
theorem d_AW_transformer_75 : decode b_AW_transformer 75 = .ok (.aload_n 0, 1) := by decide +kernel
theorem d_AW_transformer_76 : decode b_AW_transformer 76 = .ok (.dup, 1) := by decide +kernel
theorem d_AW_transformer_77 : decode b_AW_transformer 77 = .ok (.getfield 67, 3) := by decide +kernel
theorem d_AW_transformer_80 : decode b_AW_transformer 80 = .ok (.iconst 1, 1) := by decide +kernel
theorem d_AW_transformer_81 : decode b_AW_transformer 81 = .ok (.iadd, 1) := by decide +kernel
theorem d_AW_transformer_82 : decode b_AW_transformer 82 = .ok (.putfield 67, 3) := by decide +kernel
theorem d_AW_transformer_85 : decode b_AW_transformer 85 = .ok (.aload_n 0, 1) := by decide +kernel
theorem d_AW_transformer_86 : decode b_AW_transformer 86 = .ok (.getfield 67, 3) := by decide +kernel
theorem d_AW_transformer_89 : decode b_AW_transformer 89 = .ok (.iconst 1, 1) := by decide +kernel
theorem d_AW_transformer_90 : decode b_AW_transformer 90 = .ok (.isub, 1) := by decide +kernel
theorem d_AW_transformer_91 : decode b_AW_transformer 91 = .ok (.ireturn, 1) := by decide +kernel
theorem d_AW_unchain_0 : decode b_AW_unchain 0 = .ok (.aload_n 0, 1) := by decide +kernel
theorem d_AW_unchain_1 : decode b_AW_unchain 1 = .ok (.iconst 0, 1) := by decide +kernel
theorem d_AW_unchain_2 : decode b_AW_unchain 2 = .ok (.putfield 67, 3) := by decide +kernel
theorem d_AW_unchain_5 : decode b_AW_unchain 5 = .ok (.return_, 1) := by decide +kernel
theorem d_AW_sendAlongChain_0 : decode b_AW_sendAlongChain 0 = .ok (.iconst 0, 1) := by decide +kernel
theorem d_AW_sendAlongChain_1 : decode b_AW_sendAlongChain 1 = .ok (.istore_n 2, 1) := by decide +kernel
theorem d_AW_sendAlongChain_2 : decode b_AW_sendAlongChain 2 = .ok (.iconst 0, 1) := by decide +kernel
theorem d_AW_sendAlongChain_3 : decode b_AW_sendAlongChain 3 = .ok (.istore_n 3, 1) := by decide +kernel
theorem d_AW_sendAlongChain_4 : decode b_AW_sendAlongChain 4 = .ok (.iload_n 3, 1) := by decide +kernel
theorem d_AW_sendAlongChain_5 : decode b_AW_sendAlongChain 5 = .ok (.aload_n 0, 1) := by decide +kernel
theorem d_AW_sendAlongChain_6 : decode b_AW_sendAlongChain 6 = .ok (.getfield 67, 3) := by decide +kernel
theorem d_AW_sendAlongChain_9 : decode b_AW_sendAlongChain 9 = .ok (.if_icmp .ge 73, 3) := by decide +kernel
theorem d_AW_sendAlongChain_12 : decode b_AW_sendAlongChain 12 = .ok (.aload_n 0, 1) := by decide +kernel
theorem d_AW_sendAlongChain_13 : decode b_AW_sendAlongChain 13 = .ok (.getfield 33, 3) := by decide +kernel
theorem d_AW_sendAlongChain_16 : decode b_AW_sendAlongChain 16 = .ok (.iload_n 3, 1) := by decide +kernel
theorem d_AW_sendAlongChain_17 : decode b_AW_sendAlongChain 17 = .ok (.aaload, 1) := by decide +kernel
theorem d_AW_sendAlongChain_18 : decode b_AW_sendAlongChain 18 = .ok (.aload_n 0, 1) := by decide +kernel
theorem d_AW_sendAlongChain_19 : decode b_AW_sendAlongChain 19 = .ok (.getfield 25, 3) := by decide +kernel
theorem d_AW_sendAlongChain_22 : decode b_AW_sendAlongChain 22 = .ok (.iload_n 1, 1) := by decide +kernel
theorem d_AW_sendAlongChain_23 : decode b_AW_sendAlongChain 23 = .ok (.aaload, 1) := by decide +kernel
theorem d_AW_sendAlongChain_24 : decode b_AW_sendAlongChain 24 = .ok (.invokevirtual 157, 3) := by decide +kernel
theorem d_AW_sendAlongChain_27 : decode b_AW_sendAlongChain 27 = .ok (.ifCond .ne 6, 3) := by decide +kernel
theorem d_AW_sendAlongChain_30 : decode b_AW_sendAlongChain 30 = .ok (.goto 46, 3) := by decide +kernel
theorem d_AW_sendAlongChain_33 : decode b_AW_sendAlongChain 33 = .ok (.aload_n 0, 1) := by decide +kernel
theorem d_AW_sendAlongChain_34 : decode b_AW_sendAlongChain 34 = .ok (.getfield 52, 3) := by decide +kernel
theorem d_AW_sendAlongChain_37 : decode b_AW_sendAlongChain 37 = .ok (.aload_n 0, 1) := by decide +kernel
theorem d_AW_sendAlongChain_38 : decode b_AW_sendAlongChain 38 = .ok (.getfield 25, 3) := by decide +kernel
theorem d_AW_sendAlongChain_41 : decode b_AW_sendAlongChain 41 = .ok (.iload_n 1, 1) := by decide +kernel
theorem d_AW_sendAlongChain_42 : decode b_AW_sendAlongChain 42 = .ok (.aaload, 1) := by decide +kernel
theorem d_AW_sendAlongChain_43 : decode b_AW_sendAlongChain 43 = .ok (.aload_n 0, 1) := by decide +kernel
theorem d_AW_sendAlongChain_44 : decode b_AW_sendAlongChain 44 = .ok (.getfield 33, 3) := by decide +kernel
theorem d_AW_sendAlongChain_47 : decode b_AW_sendAlongChain 47 = .ok (.iload_n 3, 1) := by decide +kernel
theorem d_AW_sendAlongChain_48 : decode b_AW_sendAlongChain 48 = .ok (.aaload, 1) := by decide +kernel
theorem d_AW_sendAlongChain_49 : decode b_AW_sendAlongChain 49 = .ok (.getfield 161, 3) := by decide +kernel
theorem d_AW_sendAlongChain_52 : decode b_AW_sendAlongChain 52 = .ok (.iload_n 3, 1) := by decide +kernel
theorem d_AW_sendAlongChain_53 : decode b_AW_sendAlongChain 53 = .ok (.invokevirtual 164, 3) := by decide +kernel
theorem d_AW_sendAlongChain_56 : decode b_AW_sendAlongChain 56 = .ok (.ifCond .eq 9, 3) := by decide +kernel
theorem d_AW_sendAlongChain_59 : decode b_AW_sendAlongChain 59 = .ok (.iinc 2 1, 3) := by decide +kernel
theorem d_AW_sendAlongChain_62 : decode b_AW_sendAlongChain 62 = .ok (.goto 14, 3) := by decide +kernel
theorem d_AW_sendAlongChain_65 : decode b_AW_sendAlongChain 65 = .ok (.aload_n 0, 1) := by decide +kernel
theorem d_AW_sendAlongChain_66 : decode b_AW_sendAlongChain 66 = .ok (.getfield 38, 3) := by decide +kernel
theorem d_AW_sendAlongChain_69 : decode b_AW_sendAlongChain 69 = .ok (.iload_n 1, 1) := by decide +kernel
theorem d_AW_sendAlongChain_70 : decode b_AW_sendAlongChain 70 = .ok (.iconst 3, 1) := by decide +kernel
theorem d_AW_sendAlongChain_71 : decode b_AW_sendAlongChain 71 = .ok (.imul, 1) := by decide +kernel
theorem d_AW_sendAlongChain_72 : decode b_AW_sendAlongChain 72 = .ok (.iload_n 3, 1) := by decide +kernel
theorem d_AW_sendAlongChain_73 : decode b_AW_sendAlongChain 73 = .ok (.iadd, 1) := by decide +kernel
theorem d_AW_sendAlongChain_74 : decode b_AW_sendAlongChain 74 = .ok (.iconst 1, 1) := by decide +kernel
theorem d_AW_sendAlongChain_75 : decode b_AW_sendAlongChain 75 = .ok (.bastore, 1) := by decide +kernel
theorem d_AW_sendAlongChain_76 : decode b_AW_sendAlongChain 76 = .ok (.iinc 3 1, 3) := by decide +kernel
theorem d_AW_sendAlongChain_79 : decode b_AW_sendAlongChain 79 = .ok (.goto (-75), 3) := by decide +kernel
theorem d_AW_sendAlongChain_82 : decode b_AW_sendAlongChain 82 = .ok (.iload_n 2, 1) := by decide +kernel
theorem d_AW_sendAlongChain_83 : decode b_AW_sendAlongChain 83 = .ok (.ireturn, 1) := by decide +kernel
theorem d_AW_weave_0 : decode b_AW_weave 0 = .ok (.aload_n 0, 1) := by decide +kernel
theorem d_AW_weave_1 : decode b_AW_weave 1 = .ok (.getfield 63, 3) := by decide +kernel
theorem d_AW_weave_4 : decode b_AW_weave 4 = .ok (.ifCond .ne 5, 3) := by decide +kernel
theorem d_AW_weave_7 : decode b_AW_weave 7 = .ok (.iconst (-1), 1) := by decide +kernel
theorem d_AW_weave_8 : decode b_AW_weave 8 = .ok (.ireturn, 1) := by decide +kernel
theorem d_AW_weave_9 : decode b_AW_weave 9 = .ok (.aload_n 0, 1) := by decide +kernel
theorem d_AW_weave_10 : decode b_AW_weave 10 = .ok (.invokevirtual 97, 3) := by decide +kernel
theorem d_AW_weave_13 : decode b_AW_weave 13 = .ok (.iconst 0, 1) := by decide +kernel
theorem d_AW_weave_14 : decode b_AW_weave 14 = .ok (.istore_n 1, 1) := by decide +kernel
theorem d_AW_weave_15 : decode b_AW_weave 15 = .ok (.iconst 0, 1) := by decide +kernel
theorem d_AW_weave_16 : decode b_AW_weave 16 = .ok (.istore_n 2, 1) := by decide +kernel
theorem d_AW_weave_17 : decode b_AW_weave 17 = .ok (.iload_n 2, 1) := by decide +kernel
theorem d_AW_weave_18 : decode b_AW_weave 18 = .ok (.aload_n 0, 1) := by decide +kernel
theorem d_AW_weave_19 : decode b_AW_weave 19 = .ok (.getfield 63, 3) := by decide +kernel
theorem d_AW_weave_22 : decode b_AW_weave 22 = .ok (.if_icmp .ge 50, 3) := by decide +kernel
theorem d_AW_weave_25 : decode b_AW_weave 25 = .ok (.aload_n 0, 1) := by decide +kernel
theorem d_AW_weave_26 : decode b_AW_weave 26 = .ok (.getfield 25, 3) := by decide +kernel
theorem d_AW_weave_29 : decode b_AW_weave 29 = .ok (.iload_n 2, 1) := by decide +kernel
theorem d_AW_weave_30 : decode b_AW_weave 30 = .ok (.aaload, 1) := by decide +kernel
theorem d_AW_weave_31 : decode b_AW_weave 31 = .ok (.aload_n 0, 1) := by decide +kernel
theorem d_AW_weave_32 : decode b_AW_weave 32 = .ok (.getfield 22, 3) := by decide +kernel
theorem d_AW_weave_35 : decode b_AW_weave 35 = .ok (.iload_n 2, 1) := by decide +kernel
theorem d_AW_weave_36 : decode b_AW_weave 36 = .ok (.aaload, 1) := by decide +kernel
theorem d_AW_weave_37 : decode b_AW_weave 37 = .ok (.invokevirtual 93, 3) := by decide +kernel
theorem d_AW_weave_40 : decode b_AW_weave 40 = .ok (.iload_n 1, 1) := by decide +kernel
theorem d_AW_weave_41 : decode b_AW_weave 41 = .ok (.aload_n 0, 1) := by decide +kernel
theorem d_AW_weave_42 : decode b_AW_weave 42 = .ok (.iload_n 2, 1) := by decide +kernel
theorem d_AW_weave_43 : decode b_AW_weave 43 = .ok (.invokevirtual 104, 3) := by decide +kernel
theorem d_AW_weave_46 : decode b_AW_weave 46 = .ok (.iadd, 1) := by decide +kernel
theorem d_AW_weave_47 : decode b_AW_weave 47 = .ok (.istore_n 1, 1) := by decide +kernel
theorem d_AW_weave_48 : decode b_AW_weave 48 = .ok (.aload_n 0, 1) := by decide +kernel
theorem d_AW_weave_49 : decode b_AW_weave 49 = .ok (.getfield 45, 3) := by decide +kernel
theorem d_AW_weave_52 : decode b_AW_weave 52 = .ok (.aload_n 0, 1) := by decide +kernel
theorem d_AW_weave_53 : decode b_AW_weave 53 = .ok (.getfield 25, 3) := by decide +kernel
theorem d_AW_weave_56 : decode b_AW_weave 56 = .ok (.iload_n 2, 1) := by decide +kernel
theorem d_AW_weave_57 : decode b_AW_weave 57 = .ok (.aaload, 1) := by decide +kernel
theorem d_AW_weave_58 : decode b_AW_weave 58 = .ok (.aload_n 0, 1) := by decide +kernel
theorem d_AW_weave_59 : decode b_AW_weave 59 = .ok (.getfield 22, 3) := by decide +kernel
theorem d_AW_weave_62 : decode b_AW_weave 62 = .ok (.invokevirtual 89, 3) := by decide +kernel
theorem d_AW_weave_65 : decode b_AW_weave 65 = .ok (.pop, 1) := by decide +kernel
theorem d_AW_weave_66 : decode b_AW_weave 66 = .ok (.iinc 2 1, 3) := by decide +kernel
theorem d_AW_weave_69 : decode b_AW_weave 69 = .ok (.goto (-52), 3) := by decide +kernel
theorem d_AW_weave_72 : decode b_AW_weave 72 = .ok (.aload_n 0, 1) := by decide +kernel
theorem d_AW_weave_73 : decode b_AW_weave 73 = .ok (.iconst 1, 1) := by decide +kernel
theorem d_AW_weave_74 : decode b_AW_weave 74 = .ok (.putfield 70, 3) := by decide +kernel
theorem d_AW_weave_77 : decode b_AW_weave 77 = .ok (.iload_n 1, 1) := by decide +kernel
theorem d_AW_weave_78 : decode b_AW_weave 78 = .ok (.ireturn, 1) := by decide +kernel
theorem d_AW_failed_0 : decode b_AW_failed 0 = .ok (.iload_n 1, 1) := by decide +kernel
theorem d_AW_failed_1 : decode b_AW_failed 1 = .ok (.ifCond .lt 17, 3) := by decide +kernel
theorem d_AW_failed_4 : decode b_AW_failed 4 = .ok (.iload_n 1, 1) := by decide +kernel
theorem d_AW_failed_5 : decode b_AW_failed 5 = .ok (.iconst 4, 1) := by decide +kernel
theorem d_AW_failed_6 : decode b_AW_failed 6 = .ok (.if_icmp .ge 12, 3) := by decide +kernel
theorem d_AW_failed_9 : decode b_AW_failed 9 = .ok (.iload_n 2, 1) := by decide +kernel
theorem d_AW_failed_10 : decode b_AW_failed 10 = .ok (.ifCond .lt 8, 3) := by decide +kernel
theorem d_AW_failed_13 : decode b_AW_failed 13 = .ok (.iload_n 2, 1) := by decide +kernel
theorem d_AW_failed_14 : decode b_AW_failed 14 = .ok (.iconst 3, 1) := by decide +kernel
theorem d_AW_failed_15 : decode b_AW_failed 15 = .ok (.if_icmp .lt 5, 3) := by decide +kernel
theorem d_AW_failed_18 : decode b_AW_failed 18 = .ok (.iconst 0, 1) := by decide +kernel
theorem d_AW_failed_19 : decode b_AW_failed 19 = .ok (.ireturn, 1) := by decide +kernel
theorem d_AW_failed_20 : decode b_AW_failed 20 = .ok (.aload_n 0, 1) := by decide +kernel
theorem d_AW_failed_21 : decode b_AW_failed 21 = .ok (.getfield 38, 3) := by decide +kernel
theorem d_AW_failed_24 : decode b_AW_failed 24 = .ok (.iload_n 1, 1) := by decide +kernel
theorem d_AW_failed_25 : decode b_AW_failed 25 = .ok (.iconst 3, 1) := by decide +kernel
theorem d_AW_failed_26 : decode b_AW_failed 26 = .ok (.imul, 1) := by decide +kernel
theorem d_AW_failed_27 : decode b_AW_failed 27 = .ok (.iload_n 2, 1) := by decide +kernel
theorem d_AW_failed_28 : decode b_AW_failed 28 = .ok (.iadd, 1) := by decide +kernel
theorem d_AW_failed_29 : decode b_AW_failed 29 = .ok (.baload, 1) := by decide +kernel
theorem d_AW_failed_30 : decode b_AW_failed 30 = .ok (.ireturn, 1) := by decide +kernel
theorem d_AW_bodyOf_0 : decode b_AW_bodyOf 0 = .ok (.iload_n 2, 1) := by decide +kernel
theorem d_AW_bodyOf_1 : decode b_AW_bodyOf 1 = .ok (.ifCond .lt 22, 3) := by decide +kernel
theorem d_AW_bodyOf_4 : decode b_AW_bodyOf 4 = .ok (.iload_n 2, 1) := by decide +kernel
theorem d_AW_bodyOf_5 : decode b_AW_bodyOf 5 = .ok (.aload_n 0, 1) := by decide +kernel
theorem d_AW_bodyOf_6 : decode b_AW_bodyOf 6 = .ok (.getfield 63, 3) := by decide +kernel
theorem d_AW_bodyOf_9 : decode b_AW_bodyOf 9 = .ok (.if_icmp .ge 14, 3) := by decide +kernel
theorem d_AW_bodyOf_12 : decode b_AW_bodyOf 12 = .ok (.iload_n 1, 1) := by decide +kernel
theorem d_AW_bodyOf_13 : decode b_AW_bodyOf 13 = .ok (.ifCond .eq 12, 3) := by decide +kernel
theorem d_AW_bodyOf_16 : decode b_AW_bodyOf 16 = .ok (.aload_n 0, 1) := by decide +kernel
theorem d_AW_bodyOf_17 : decode b_AW_bodyOf 17 = .ok (.getfield 70, 3) := by decide +kernel
theorem d_AW_bodyOf_20 : decode b_AW_bodyOf 20 = .ok (.ifCond .ne 5, 3) := by decide +kernel
theorem d_AW_bodyOf_23 : decode b_AW_bodyOf 23 = .ok (.aconst_null, 1) := by decide +kernel
theorem d_AW_bodyOf_24 : decode b_AW_bodyOf 24 = .ok (.areturn, 1) := by decide +kernel
theorem d_AW_bodyOf_25 : decode b_AW_bodyOf 25 = .ok (.iload_n 1, 1) := by decide +kernel
theorem d_AW_bodyOf_26 : decode b_AW_bodyOf 26 = .ok (.ifCond .eq 12, 3) := by decide +kernel
theorem d_AW_bodyOf_29 : decode b_AW_bodyOf 29 = .ok (.aload_n 0, 1) := by decide +kernel
theorem d_AW_bodyOf_30 : decode b_AW_bodyOf 30 = .ok (.getfield 25, 3) := by decide +kernel
theorem d_AW_bodyOf_33 : decode b_AW_bodyOf 33 = .ok (.iload_n 2, 1) := by decide +kernel
theorem d_AW_bodyOf_34 : decode b_AW_bodyOf 34 = .ok (.aaload, 1) := by decide +kernel
theorem d_AW_bodyOf_35 : decode b_AW_bodyOf 35 = .ok (.goto 9, 3) := by decide +kernel
theorem d_AW_bodyOf_38 : decode b_AW_bodyOf 38 = .ok (.aload_n 0, 1) := by decide +kernel
theorem d_AW_bodyOf_39 : decode b_AW_bodyOf 39 = .ok (.getfield 22, 3) := by decide +kernel
theorem d_AW_bodyOf_42 : decode b_AW_bodyOf 42 = .ok (.iload_n 2, 1) := by decide +kernel
theorem d_AW_bodyOf_43 : decode b_AW_bodyOf 43 = .ok (.aaload, 1) := by decide +kernel
theorem d_AW_bodyOf_44 : decode b_AW_bodyOf 44 = .ok (.areturn, 1) := by decide +kernel
theorem d_AW_run_0 : decode b_AW_run 0 = .ok (.aload_n 0, 1) := by decide +kernel
theorem d_AW_run_1 : decode b_AW_run 1 = .ok (.iload_n 1, 1) := by decide +kernel
theorem d_AW_run_2 : decode b_AW_run 2 = .ok (.iload_n 2, 1) := by decide +kernel
theorem d_AW_run_3 : decode b_AW_run 3 = .ok (.invokevirtual 108, 3) := by decide +kernel
theorem d_AW_run_6 : decode b_AW_run 6 = .ok (.ifnull 17, 3) := by decide +kernel
theorem d_AW_run_9 : decode b_AW_run 9 = .ok (.iload 5, 2) := by decide +kernel
theorem d_AW_run_11 : decode b_AW_run 11 = .ok (.iconst 1, 1) := by decide +kernel
theorem d_AW_run_12 : decode b_AW_run 12 = .ok (.if_icmp .lt 11, 3) := by decide +kernel
theorem d_AW_run_15 : decode b_AW_run 15 = .ok (.iload 5, 2) := by decide +kernel
theorem d_AW_run_17 : decode b_AW_run 17 = .ok (.sipush 1000, 3) := by decide +kernel
theorem d_AW_run_20 : decode b_AW_run 20 = .ok (.if_icmp .le 5, 3) := by decide +kernel
theorem d_AW_run_23 : decode b_AW_run 23 = .ok (.iconst (-1), 1) := by decide +kernel
theorem d_AW_run_24 : decode b_AW_run 24 = .ok (.ireturn, 1) := by decide +kernel
theorem d_AW_run_25 : decode b_AW_run 25 = .ok (.aload_n 0, 1) := by decide +kernel
theorem d_AW_run_26 : decode b_AW_run 26 = .ok (.getfield 59, 3) := by decide +kernel
theorem d_AW_run_29 : decode b_AW_run 29 = .ok (.iload_n 1, 1) := by decide +kernel
theorem d_AW_run_30 : decode b_AW_run 30 = .ok (.ifCond .eq 10, 3) := by decide +kernel
theorem d_AW_run_33 : decode b_AW_run 33 = .ok (.aload_n 0, 1) := by decide +kernel
theorem d_AW_run_34 : decode b_AW_run 34 = .ok (.getfield 25, 3) := by decide +kernel
theorem d_AW_run_37 : decode b_AW_run 37 = .ok (.goto 7, 3) := by decide +kernel
theorem d_AW_run_40 : decode b_AW_run 40 = .ok (.aload_n 0, 1) := by decide +kernel
theorem d_AW_run_41 : decode b_AW_run 41 = .ok (.getfield 22, 3) := by decide +kernel
theorem d_AW_run_44 : decode b_AW_run 44 = .ok (.iload_n 2, 1) := by decide +kernel
theorem d_AW_run_45 : decode b_AW_run 45 = .ok (.iload_n 3, 1) := by decide +kernel
theorem d_AW_run_46 : decode b_AW_run 46 = .ok (.iload 4, 2) := by decide +kernel
theorem d_AW_run_48 : decode b_AW_run 48 = .ok (.iload 5, 2) := by decide +kernel
theorem d_AW_run_50 : decode b_AW_run 50 = .ok (.invokevirtual 112, 3) := by decide +kernel
theorem d_AW_run_53 : decode b_AW_run 53 = .ok (.ireturn, 1) := by decide +kernel
theorem d_AW_value_0 : decode b_AW_value 0 = .ok (.aload_n 0, 1) := by decide +kernel
theorem d_AW_value_1 : decode b_AW_value 1 = .ok (.getfield 59, 3) := by decide +kernel
theorem d_AW_value_4 : decode b_AW_value 4 = .ok (.getfield 116, 3) := by decide +kernel
theorem d_AW_value_7 : decode b_AW_value 7 = .ok (.ireturn, 1) := by decide +kernel
theorem d_AW_used_0 : decode b_AW_used 0 = .ok (.aload_n 0, 1) := by decide +kernel
theorem d_AW_used_1 : decode b_AW_used 1 = .ok (.getfield 59, 3) := by decide +kernel
theorem d_AW_used_4 : decode b_AW_used 4 = .ok (.getfield 119, 3) := by decide +kernel
theorem d_AW_used_7 : decode b_AW_used 7 = .ok (.ireturn, 1) := by decide +kernel
theorem d_AW_marks_0 : decode b_AW_marks 0 = .ok (.aload_n 0, 1) := by decide +kernel
theorem d_AW_marks_1 : decode b_AW_marks 1 = .ok (.getfield 59, 3) := by decide +kernel
theorem d_AW_marks_4 : decode b_AW_marks 4 = .ok (.getfield 122, 3) := by decide +kernel
theorem d_AW_marks_7 : decode b_AW_marks 7 = .ok (.ireturn, 1) := by decide +kernel
theorem d_AW_mark_0 : decode b_AW_mark 0 = .ok (.aload_n 0, 1) := by decide +kernel
theorem d_AW_mark_1 : decode b_AW_mark 1 = .ok (.getfield 59, 3) := by decide +kernel
theorem d_AW_mark_4 : decode b_AW_mark 4 = .ok (.iload_n 1, 1) := by decide +kernel
theorem d_AW_mark_5 : decode b_AW_mark 5 = .ok (.invokevirtual 125, 3) := by decide +kernel
theorem d_AW_mark_8 : decode b_AW_mark 8 = .ok (.ireturn, 1) := by decide +kernel
theorem d_AW_probe_0 : decode b_AW_probe 0 = .ok (.aload_n 0, 1) := by decide +kernel
theorem d_AW_probe_1 : decode b_AW_probe 1 = .ok (.getfield 59, 3) := by decide +kernel
theorem d_AW_probe_4 : decode b_AW_probe 4 = .ok (.iload_n 1, 1) := by decide +kernel
theorem d_AW_probe_5 : decode b_AW_probe 5 = .ok (.iload_n 2, 1) := by decide +kernel
theorem d_AW_probe_6 : decode b_AW_probe 6 = .ok (.invokevirtual 128, 3) := by decide +kernel
theorem d_AW_probe_9 : decode b_AW_probe 9 = .ok (.ireturn, 1) := by decide +kernel
theorem d_AW_shape_0 : decode b_AW_shape 0 = .ok (.aload_n 0, 1) := by decide +kernel
theorem d_AW_shape_1 : decode b_AW_shape 1 = .ok (.iload_n 1, 1) := by decide +kernel
theorem d_AW_shape_2 : decode b_AW_shape 2 = .ok (.iload_n 2, 1) := by decide +kernel
theorem d_AW_shape_3 : decode b_AW_shape 3 = .ok (.invokevirtual 108, 3) := by decide +kernel
theorem d_AW_shape_6 : decode b_AW_shape 6 = .ok (.astore 4, 2) := by decide +kernel
theorem d_AW_shape_8 : decode b_AW_shape 8 = .ok (.aload 4, 2) := by decide +kernel
theorem d_AW_shape_10 : decode b_AW_shape 10 = .ok (.ifnonnull 5, 3) := by decide +kernel
theorem d_AW_shape_13 : decode b_AW_shape 13 = .ok (.iconst (-1), 1) := by decide +kernel
theorem d_AW_shape_14 : decode b_AW_shape 14 = .ok (.ireturn, 1) := by decide +kernel
theorem d_AW_shape_15 : decode b_AW_shape 15 = .ok (.iload_n 3, 1) := by decide +kernel
theorem d_AW_shape_16 : decode b_AW_shape 16 = .ok (.tableswitch 56 0 3 #[32, 38, 44, 50], 32) := by decide +kernel
theorem d_AW_shape_48 : decode b_AW_shape 48 = .ok (.aload 4, 2) := by decide +kernel
theorem d_AW_shape_50 : decode b_AW_shape 50 = .ok (.getfield 132, 3) := by decide +kernel
theorem d_AW_shape_53 : decode b_AW_shape 53 = .ok (.ireturn, 1) := by decide +kernel
theorem d_AW_shape_54 : decode b_AW_shape 54 = .ok (.aload 4, 2) := by decide +kernel
theorem d_AW_shape_56 : decode b_AW_shape 56 = .ok (.getfield 135, 3) := by decide +kernel
theorem d_AW_shape_59 : decode b_AW_shape 59 = .ok (.ireturn, 1) := by decide +kernel
theorem d_AW_shape_60 : decode b_AW_shape 60 = .ok (.aload 4, 2) := by decide +kernel
theorem d_AW_shape_62 : decode b_AW_shape 62 = .ok (.getfield 138, 3) := by decide +kernel
theorem d_AW_shape_65 : decode b_AW_shape 65 = .ok (.ireturn, 1) := by decide +kernel
theorem d_AW_shape_66 : decode b_AW_shape 66 = .ok (.aload 4, 2) := by decide +kernel
theorem d_AW_shape_68 : decode b_AW_shape 68 = .ok (.getfield 141, 3) := by decide +kernel
theorem d_AW_shape_71 : decode b_AW_shape 71 = .ok (.ireturn, 1) := by decide +kernel
theorem d_AW_shape_72 : decode b_AW_shape 72 = .ok (.iconst (-1), 1) := by decide +kernel
theorem d_AW_shape_73 : decode b_AW_shape 73 = .ok (.ireturn, 1) := by decide +kernel
theorem d_AW_code_0 : decode b_AW_code 0 = .ok (.aload_n 0, 1) := by decide +kernel
theorem d_AW_code_1 : decode b_AW_code 1 = .ok (.iload_n 1, 1) := by decide +kernel
theorem d_AW_code_2 : decode b_AW_code 2 = .ok (.iload_n 2, 1) := by decide +kernel
theorem d_AW_code_3 : decode b_AW_code 3 = .ok (.invokevirtual 108, 3) := by decide +kernel
theorem d_AW_code_6 : decode b_AW_code 6 = .ok (.astore 4, 2) := by decide +kernel
theorem d_AW_code_8 : decode b_AW_code 8 = .ok (.aload 4, 2) := by decide +kernel
theorem d_AW_code_10 : decode b_AW_code 10 = .ok (.ifnull 16, 3) := by decide +kernel
theorem d_AW_code_13 : decode b_AW_code 13 = .ok (.iload_n 3, 1) := by decide +kernel
theorem d_AW_code_14 : decode b_AW_code 14 = .ok (.ifCond .lt 12, 3) := by decide +kernel
theorem d_AW_code_17 : decode b_AW_code 17 = .ok (.iload_n 3, 1) := by decide +kernel
theorem d_AW_code_18 : decode b_AW_code 18 = .ok (.aload 4, 2) := by decide +kernel
theorem d_AW_code_20 : decode b_AW_code 20 = .ok (.getfield 132, 3) := by decide +kernel
theorem d_AW_code_23 : decode b_AW_code 23 = .ok (.if_icmp .lt 5, 3) := by decide +kernel
theorem d_AW_code_26 : decode b_AW_code 26 = .ok (.iconst (-1), 1) := by decide +kernel
theorem d_AW_code_27 : decode b_AW_code 27 = .ok (.ireturn, 1) := by decide +kernel
theorem d_AW_code_28 : decode b_AW_code 28 = .ok (.aload 4, 2) := by decide +kernel
theorem d_AW_code_30 : decode b_AW_code 30 = .ok (.iload_n 3, 1) := by decide +kernel
theorem d_AW_code_31 : decode b_AW_code 31 = .ok (.invokevirtual 144, 3) := by decide +kernel
theorem d_AW_code_34 : decode b_AW_code 34 = .ok (.ireturn, 1) := by decide +kernel
theorem d_AW_handler_0 : decode b_AW_handler 0 = .ok (.aload_n 0, 1) := by decide +kernel
theorem d_AW_handler_1 : decode b_AW_handler 1 = .ok (.iload_n 1, 1) := by decide +kernel
theorem d_AW_handler_2 : decode b_AW_handler 2 = .ok (.iload_n 2, 1) := by decide +kernel
theorem d_AW_handler_3 : decode b_AW_handler 3 = .ok (.invokevirtual 108, 3) := by decide +kernel
theorem d_AW_handler_6 : decode b_AW_handler 6 = .ok (.astore 5, 2) := by decide +kernel
theorem d_AW_handler_8 : decode b_AW_handler 8 = .ok (.aload 5, 2) := by decide +kernel
theorem d_AW_handler_10 : decode b_AW_handler 10 = .ok (.ifnull 27, 3) := by decide +kernel
theorem d_AW_handler_13 : decode b_AW_handler 13 = .ok (.iload_n 3, 1) := by decide +kernel
theorem d_AW_handler_14 : decode b_AW_handler 14 = .ok (.ifCond .lt 23, 3) := by decide +kernel
theorem d_AW_handler_17 : decode b_AW_handler 17 = .ok (.iload_n 3, 1) := by decide +kernel
theorem d_AW_handler_18 : decode b_AW_handler 18 = .ok (.aload 5, 2) := by decide +kernel
theorem d_AW_handler_20 : decode b_AW_handler 20 = .ok (.getfield 135, 3) := by decide +kernel
theorem d_AW_handler_23 : decode b_AW_handler 23 = .ok (.if_icmp .ge 14, 3) := by decide +kernel
theorem d_AW_handler_26 : decode b_AW_handler 26 = .ok (.iload 4, 2) := by decide +kernel
theorem d_AW_handler_28 : decode b_AW_handler 28 = .ok (.ifCond .lt 9, 3) := by decide +kernel
theorem d_AW_handler_31 : decode b_AW_handler 31 = .ok (.iload 4, 2) := by decide +kernel
theorem d_AW_handler_33 : decode b_AW_handler 33 = .ok (.iconst 3, 1) := by decide +kernel
theorem d_AW_handler_34 : decode b_AW_handler 34 = .ok (.if_icmp .le 5, 3) := by decide +kernel
theorem d_AW_handler_37 : decode b_AW_handler 37 = .ok (.iconst (-1), 1) := by decide +kernel
theorem d_AW_handler_38 : decode b_AW_handler 38 = .ok (.ireturn, 1) := by decide +kernel
theorem d_AW_handler_39 : decode b_AW_handler 39 = .ok (.aload 5, 2) := by decide +kernel
theorem d_AW_handler_41 : decode b_AW_handler 41 = .ok (.iload_n 3, 1) := by decide +kernel
theorem d_AW_handler_42 : decode b_AW_handler 42 = .ok (.iload 4, 2) := by decide +kernel
theorem d_AW_handler_44 : decode b_AW_handler 44 = .ok (.invokevirtual 147, 3) := by decide +kernel
theorem d_AW_handler_47 : decode b_AW_handler 47 = .ok (.ireturn, 1) := by decide +kernel
theorem d_AW_depth_0 : decode b_AW_depth 0 = .ok (.aload_n 0, 1) := by decide +kernel
theorem d_AW_depth_1 : decode b_AW_depth 1 = .ok (.iload_n 1, 1) := by decide +kernel
theorem d_AW_depth_2 : decode b_AW_depth 2 = .ok (.iload_n 2, 1) := by decide +kernel
theorem d_AW_depth_3 : decode b_AW_depth 3 = .ok (.invokevirtual 108, 3) := by decide +kernel
theorem d_AW_depth_6 : decode b_AW_depth 6 = .ok (.astore 4, 2) := by decide +kernel
theorem d_AW_depth_8 : decode b_AW_depth 8 = .ok (.aload 4, 2) := by decide +kernel
theorem d_AW_depth_10 : decode b_AW_depth 10 = .ok (.ifnull 12, 3) := by decide +kernel
theorem d_AW_depth_13 : decode b_AW_depth 13 = .ok (.aload 4, 2) := by decide +kernel
theorem d_AW_depth_15 : decode b_AW_depth 15 = .ok (.iload_n 3, 1) := by decide +kernel
theorem d_AW_depth_16 : decode b_AW_depth 16 = .ok (.invokevirtual 150, 3) := by decide +kernel
theorem d_AW_depth_19 : decode b_AW_depth 19 = .ok (.ifCond .ne 5, 3) := by decide +kernel
theorem d_AW_depth_22 : decode b_AW_depth 22 = .ok (.iconst (-1), 1) := by decide +kernel
theorem d_AW_depth_23 : decode b_AW_depth 23 = .ok (.ireturn, 1) := by decide +kernel
theorem d_AW_depth_24 : decode b_AW_depth 24 = .ok (.aload 4, 2) := by decide +kernel
theorem d_AW_depth_26 : decode b_AW_depth 26 = .ok (.getfield 153, 3) := by decide +kernel
theorem d_AW_depth_29 : decode b_AW_depth 29 = .ok (.iload_n 3, 1) := by decide +kernel
theorem d_AW_depth_30 : decode b_AW_depth 30 = .ok (.iaload, 1) := by decide +kernel
theorem d_AW_depth_31 : decode b_AW_depth 31 = .ok (.ireturn, 1) := by decide +kernel
def f_AW_put (fu : Nat) (s0 : xw_S) (p1 : Int) (p2 : Int) : Option (xw_S × Int) :=
 xw_bn2 (f_CF_append fu s0 p1 p2) (fun s1 r3 => xw_grd ((r3 = 0 ∨ r3 = 1)) (some (s1, r3)))
set_option maxRecDepth 100000 in
set_option maxHeartbeats 4000000 in
theorem c_AW_put (l : Launch) (D : va_G) (A : Nat → Prop) (ad : Nat → Nat) (cs : Nat → ClassId) (Z : va_W) (tt : Nat → Nat) (fu : Nat) (s0 sZ : xw_S) (p1 : Int) (p2 : Int) (r0 : Int) (h : f_AW_put fu s0 p1 p2 = some (sZ, r0)) : Met l y_AW_put w_AW_put ({ frames := 1, cells := 0, slots := 0, locals := 23 }) (va_Pc [.ref (ad 0), .int (xw_i p1), .int (xw_i p2)] (xw_H D vwCl A kdC 100 ad cs Z tt s0)) (va_Qi (fun r u => r = xw_i r0 ∧ u = sZ) (xw_H D vwCl A kdC 100 ad cs Z tt) A) 0 0 A := by
  refine Met.ofW (cc := b_AW_put) (maxL := 3) (ret := (some .boolean)) (by decide) rfl ?_
  intro p e s m args below meth c s₁ B hml hv
  obtain ⟨rfl, hP, hK, hD, hX⟩ := hv
  have hx := B.exec
  have hb := B.bytes
  have hr := B.returns
  have hts0 := atoms_spec (ws := w_AW_put) B.pre
  have hts := fun w (hw : w ∈ wAll) => hts0 w (List.mem_cons_of_mem _ hw)
  have hown : s.vm.findClass "AdviceWeaver" = some m.cls := findClass_of_methodNamed B.named
  have hlk := B.notSynchronized
  clear hts0 B
  have hS : va_S A s.heap s.heap [] := va_S.rf
  have hl := lv_entry [.ref (ad 0), .int (xw_i p1), .int (xw_i p2)] (n := 3) (Nat.le_of_ble_eq_true rfl)
  rw [lg_entry_eq]
  generalize (lg_sl [.ref (ad 0), .int (xw_i p1), .int (xw_i p2)] ++ List.replicate (3 - (lg_sl [.ref (ad 0), .int (xw_i p1), .int (xw_i p2)]).length) Slot.unset).toArray = ls at hl ⊢
  have hl : lv_has ls 3 [(0, .ref (ad 0)), (1, .int (xw_i p1)), (2, .int (xw_i p2))] := hl
  unfold f_AW_put at h
  refine lv_aload_n hx hb d_AW_put_0 rfl (lv_at hl 0 rfl) ?_
  refine xw_getR (C := "AdviceWeaver") (T := T_AW) hx hb hts hin_AW hown hK hP (by decide) kc_AW (by decide) rfl 0 (by decide) (hts _ hw_2) (fun _ h9 => h9) rfl d_AW_put_1 ?_
  refine lv_iload_n hx hb d_AW_put_4 rfl (lv_at hl 1 rfl) ?_
  refine lv_iload_n hx hb d_AW_put_5 rfl (lv_at hl 2 rfl) ?_
  obtain ⟨s1, r3, hc2, h⟩ := xw_bn2I h
  refine xw_callVi (C := "AdviceWeaver$ClassFile") (T := T_CF) ⟨hx, hb, hml, hown, hts⟩ (c_CF_append l D A ad cs Z tt fu s0 s1 p1 p2 r3 hc2) (cwV 2 hts (gd_V hw_3 hw_4 hw_5 hw_6 hw_7) rfl rfl rfl (by decide +kernel) ⟨Nat.le_of_ble_eq_true rfl, Nat.le_of_ble_eq_true rfl⟩) hP hK hD hX hS (by decide) kc_CF (by decide) rfl rfl hl.1 rfl (Nat.le_of_ble_eq_true rfl) d_AW_put_6 (fun H locs hP hS => ?_)
  obtain ⟨hg4, h⟩ := xw_grdI h
  exact xw_zretE hx hb hr hlk hP hK hD hX hS h hg4 d_AW_put_9
def f_AW_clear (fu : Nat) (s0 : xw_S) : Option xw_S :=
 xw_bnd (f_CF_empty fu s0) (fun s1 => some s1)
set_option maxRecDepth 100000 in
set_option maxHeartbeats 4000000 in
theorem c_AW_clear (l : Launch) (D : va_G) (A : Nat → Prop) (ad : Nat → Nat) (cs : Nat → ClassId) (Z : va_W) (tt : Nat → Nat) (fu : Nat) (s0 sZ : xw_S) (h : f_AW_clear fu s0 = some sZ) : Met l y_AW_clear w_AW_clear ({ frames := 1, cells := 0, slots := 0, locals := 20 }) (va_Pc [.ref (ad 0)] (xw_H D vwCl A kdC 100 ad cs Z tt s0)) (va_Qv (fun u => u = sZ) (xw_H D vwCl A kdC 100 ad cs Z tt) A) 0 0 A := by
  refine Met.ofW (cc := b_AW_clear) (maxL := 1) (ret := none) (by decide) rfl ?_
  intro p e s m args below meth c s₁ B hml hv
  obtain ⟨rfl, hP, hK, hD, hX⟩ := hv
  have hx := B.exec
  have hb := B.bytes
  have hr := B.returns
  have hts0 := atoms_spec (ws := w_AW_clear) B.pre
  have hts := fun w (hw : w ∈ wAll) => hts0 w (List.mem_cons_of_mem _ hw)
  have hown : s.vm.findClass "AdviceWeaver" = some m.cls := findClass_of_methodNamed B.named
  have hlk := B.notSynchronized
  clear hts0 B
  have hS : va_S A s.heap s.heap [] := va_S.rf
  have hl := lv_entry [.ref (ad 0)] (n := 1) (Nat.le_of_ble_eq_true rfl)
  rw [lg_entry_eq]
  generalize (lg_sl [.ref (ad 0)] ++ List.replicate (1 - (lg_sl [.ref (ad 0)]).length) Slot.unset).toArray = ls at hl ⊢
  have hl : lv_has ls 1 [(0, .ref (ad 0))] := hl
  unfold f_AW_clear at h
  refine lv_aload_n hx hb d_AW_clear_0 rfl (lv_at hl 0 rfl) ?_
  refine xw_getR (C := "AdviceWeaver") (T := T_AW) hx hb hts hin_AW hown hK hP (by decide) kc_AW (by decide) rfl 0 (by decide) (hts _ hw_2) (fun _ h9 => h9) rfl d_AW_clear_1 ?_
  obtain ⟨s1, hc2, h⟩ := xw_bndI h
  refine xw_callVv (C := "AdviceWeaver$ClassFile") (T := T_CF) ⟨hx, hb, hml, hown, hts⟩ (c_CF_empty l D A ad cs Z tt fu s0 s1 hc2) (cwV 0 hts (gd_V hw_8 hw_9 hw_10 hw_6 hw_11) rfl rfl rfl (by decide +kernel) ⟨Nat.le_of_ble_eq_true rfl, Nat.le_of_ble_eq_true rfl⟩) hP hK hD hX hS (by decide) kc_CF (by decide) rfl rfl hl.1 rfl (Nat.le_of_ble_eq_true rfl) d_AW_clear_4 (fun H locs hP hS => ?_)
  exact xw_vretE hx hb hr hlk hP hK hD hX hS h d_AW_clear_7
def lp_AW_forgetFailures_2 (fu : Nat) (k24 : xw_S → Option xw_S) : Nat → xw_S → Int → Option xw_S
  | 0, _, _ => none
  | n + 1, s1, i1_2 =>
    xw_grd (xw_r i1_2) (xw_if (12 ≤ i1_2) (k24 s1)
     (xw_grd ((0 ≤ i1_2 ∧ i1_2 < ((12 : Nat) : Int))) (xw_let (xw_st s1 7 (i1_2).toNat 0) (fun s5 => xw_let (i1_2 + 1) (fun v7 => lp_AW_forgetFailures_2 fu k24 n s5 v7)))))
def f_AW_forgetFailures (fu : Nat) (s0 : xw_S) : Option xw_S :=
 xw_jn (fun (s9 : xw_S) => some s9)
 (fun (k24 : xw_S → Option xw_S) => lp_AW_forgetFailures_2 fu k24 fu s0 0)
set_option maxRecDepth 100000 in
set_option maxHeartbeats 4000000 in
theorem c_AW_forgetFailures (l : Launch) (D : va_G) (A : Nat → Prop) (ad : Nat → Nat) (cs : Nat → ClassId) (Z : va_W) (tt : Nat → Nat) (fu : Nat) (s0 sZ : xw_S) (h : f_AW_forgetFailures fu s0 = some sZ) : Met l y_AW_forgetFailures w_AW_forgetFailures ({ frames := 0, cells := 0, slots := 0, locals := 0 }) (va_Pc [.ref (ad 0)] (xw_H D vwCl A kdC 100 ad cs Z tt s0)) (va_Qv (fun u => u = sZ) (xw_H D vwCl A kdC 100 ad cs Z tt) A) 0 0 A := by
  refine Met.ofW (cc := b_AW_forgetFailures) (maxL := 2) (ret := none) (by decide) rfl ?_
  intro p e s m args below meth c s₁ B hml hv
  obtain ⟨rfl, hP, hK, hD, hX⟩ := hv
  have hx := B.exec
  have hb := B.bytes
  have hr := B.returns
  have hts0 := atoms_spec (ws := w_AW_forgetFailures) B.pre
  have hts := fun w (hw : w ∈ wAll) => hts0 w (List.mem_cons_of_mem _ hw)
  have hown : s.vm.findClass "AdviceWeaver" = some m.cls := findClass_of_methodNamed B.named
  have hlk := B.notSynchronized
  clear hts0 B
  have hS : va_S A s.heap s.heap [] := va_S.rf
  have hl := lv_entry [.ref (ad 0)] (n := 2) (Nat.le_of_ble_eq_true rfl)
  rw [lg_entry_eq]
  generalize (lg_sl [.ref (ad 0)] ++ List.replicate (2 - (lg_sl [.ref (ad 0)]).length) Slot.unset).toArray = ls at hl ⊢
  have hl : lv_has ls 2 [(0, .ref (ad 0))] := hl
  have hlp2 : ∀ (k24 : xw_S → Option xw_S) (hk24 : ∀ (sq : xw_S), k24 sq = some sZ → ∀ (H : Heap) (locs : List Loc) (ls : Array Slot), va_P D vwCl (xw_ws kdC 100 ad cs Z sq) H → va_S A s.heap H locs → lv_has ls 2 [] → W p l e (headSpec w_AW_forgetFailures ({ frames := 0, cells := 0, slots := 0, locals := 0 })).room s m [.ref (ad 0)].toArray below meth c H locs 0 0 (MQ below (va_Qv (fun u => u = sZ) (xw_H D vwCl A kdC 100 ad cs Z tt) A) [.ref (ad 0)].toArray s 0 0 A) (F0 m 24 ls [])) (n : Nat), ∀ (sq : xw_S) (i1_2 : Int), lp_AW_forgetFailures_2 fu k24 n sq i1_2 = some sZ → ∀ (H : Heap) (locs : List Loc) (ls : Array Slot), va_P D vwCl (xw_ws kdC 100 ad cs Z sq) H → va_S A s.heap H locs → lv_has ls 2 [(0, .ref (ad 0)), (1, .int (xw_i i1_2))] → W p l e (headSpec w_AW_forgetFailures ({ frames := 0, cells := 0, slots := 0, locals := 0 })).room s m [.ref (ad 0)].toArray below meth c H locs 0 0 (MQ below (va_Qv (fun u => u = sZ) (xw_H D vwCl A kdC 100 ad cs Z tt) A) [.ref (ad 0)].toArray s 0 0 A) (F0 m 2 ls []) := by
    intro k24 hk24 n
    induction n with
    | zero =>
      intro sq i1_2 h
      cases (show (none : Option xw_S) = some sZ from h)
    | succ n ih2 =>
      intro s1 i1_2 h H locs ls hP hS hl
      unfold lp_AW_forgetFailures_2 at h
      refine lv_iload_n hx hb d_AW_forgetFailures_2 rfl (lv_at hl 1 rfl) ?_
      refine lv_aload_n hx hb d_AW_forgetFailures_3 rfl (lv_at hl 0 rfl) ?_
      refine xw_getR (C := "AdviceWeaver") (T := T_AW) hx hb hts hin_AW hown hK hP (by decide) kc_AW (by decide) rfl 5 (by decide) (hts _ hw_150) (fun _ h9 => h9) rfl d_AW_forgetFailures_4 ?_
      refine xw_alenB hx hb hK hP (by decide) kc_failures d_AW_forgetFailures_7 ?_
      obtain ⟨hg2, h⟩ := xw_grdI h
      refine xw_icmp_ge (tgt := 24) hx hb hg2 (by decide) d_AW_forgetFailures_8 (by decide) (fun hc3 => ?_) (fun hc3 => ?_)
      · replace h := xw_ifT hc3 h
        exact hk24 s1 h _ _ _ hP hS (lv_sub hl [] rfl)
      · replace h := xw_ifF hc3 h
        refine lv_aload_n hx hb d_AW_forgetFailures_11 rfl (lv_at hl 0 rfl) ?_
        refine xw_getR (C := "AdviceWeaver") (T := T_AW) hx hb hts hin_AW hown hK hP (by decide) kc_AW (by decide) rfl 5 (by decide) (hts _ hw_150) (fun _ h9 => h9) rfl d_AW_forgetFailures_12 ?_
        refine lv_iload_n hx hb d_AW_forgetFailures_15 rfl (lv_at hl 1 rfl) ?_
        refine lv_iconst (v := xw_i 0) hx hb d_AW_forgetFailures_16 rfl ?_
        obtain ⟨hg4, h⟩ := xw_grdI h
        refine xw_zast hx hb hK hP hD hS (by decide) kc_failures (by decide) hg4 (by decide) d_AW_forgetFailures_17 (fun s5 e6 H locs hP hS => ?_)
        replace h := xw_letI e6 h
        obtain ⟨v7, e8⟩ : ∃ z, z = i1_2 + 1 := ⟨_, rfl⟩
        replace h := xw_letI e8 h
        refine xw_iinc (lv' := [(1, .int (xw_i v7)), (0, .ref (ad 0))]) hx hb d_AW_forgetFailures_18 hl (k := 1) rfl (by decide) (by rw [e8]; rfl) (fun ls hl => ?_)
        refine lv_goto (tgt := 2) hx hb d_AW_forgetFailures_21 (by decide) ?_
        exact ih2 s5 v7 h _ _ _ hP hS (lv_sub hl [1, 0] rfl)
  unfold f_AW_forgetFailures at h
  refine lv_iconst (v := xw_i 0) hx hb d_AW_forgetFailures_0 rfl ?_
  refine lv_istore_n hx hb d_AW_forgetFailures_1 rfl hl (by decide) rfl (fun ls hl => ?_)
  refine xw_jnI (fun j => ∀ (sq : xw_S), j sq = some sZ → ∀ (H : Heap) (locs : List Loc) (ls : Array Slot), va_P D vwCl (xw_ws kdC 100 ad cs Z sq) H → va_S A s.heap H locs → lv_has ls 2 [] → W p l e (headSpec w_AW_forgetFailures ({ frames := 0, cells := 0, slots := 0, locals := 0 })).room s m [.ref (ad 0)].toArray below meth c H locs 0 0 (MQ below (va_Qv (fun u => u = sZ) (xw_H D vwCl A kdC 100 ad cs Z tt) A) [.ref (ad 0)].toArray s 0 0 A) (F0 m 24 ls [])) h ?_ ?_
  · intro s9 h H locs ls hP hS hl
    exact xw_vretE hx hb hr hlk hP hK hD hX hS h d_AW_forgetFailures_24
  · intro k24 hk24 h
    exact hlp2 k24 hk24 fu s0 0 h _ _ _ hP hS (lv_sub hl [1, 0] rfl)
def lp_AW_load_20 (fu : Nat) (c1_20 : Int) (k58 : xw_S → Int → Option (xw_S × Int)) (k70 : xw_S → Int → Option (xw_S × Int)) : Nat → xw_S → Int → Option (xw_S × Int)
  | 0, _, _ => none
  | n + 1, s6, i2_20 =>
    xw_grd (xw_r i2_20 ∧ xw_r c1_20) (xw_if (c1_20 ≤ i2_20) (k70 s6 c1_20)
     (xw_grd ((0 ≤ i2_20 ∧ i2_20 < ((4 : Nat) : Int))) (xw_bn2 (f_B_isWellFormed fu s6 (4 * 0 + (i2_20).toNat) c1_20) (fun s10 r12 => xw_grd (xw_r r12) (xw_if (r12 = 0) (k58 s10 i2_20)
     (xw_bn2 (f_FL_explore fu s10 (4 * 0 + (i2_20).toNat) 0) (fun s15 r17 => xw_grd (xw_r r17) (xw_if (r17 = 0) (k58 s15 i2_20)
     (xw_let (i2_20 + 1) (fun v20 => lp_AW_load_20 fu c1_20 k58 k70 n s15 v20))))))))))
def lp_AW_load_72 (fu : Nat) (c1_72 : Int) (k98 : xw_S → Int → Option (xw_S × Int)) : Nat → xw_S → Int → Option (xw_S × Int)
  | 0, _, _ => none
  | n + 1, s24, i2_72 =>
    xw_grd (xw_r i2_72 ∧ xw_r c1_72) (xw_if (c1_72 ≤ i2_72) (k98 s24 c1_72)
     (xw_grd ((0 ≤ i2_72 ∧ i2_72 < ((4 : Nat) : Int))) (xw_bnd (f_B_become fu s24 (4 * 1 + (i2_72).toNat) (4 * 0 + (i2_72).toNat)) (fun s28 => xw_let (i2_72 + 1) (fun v31 => lp_AW_load_72 fu c1_72 k98 n s28 v31)))))
def f_AW_load (fu : Nat) (s0 : xw_S) : Option (xw_S × Int) :=
 xw_bn2 (f_CF_readInto fu s0 0) (fun s1 r3 => xw_grd (xw_r r3) (xw_if (0 ≤ r3) (xw_jn (fun (s23 : xw_S) (i1_70 : Int) => xw_jn (fun (s33 : xw_S) (i1_98 : Int) => xw_let (xw_st s33 0 9 i1_98) (fun s34 => xw_let (xw_st s34 0 11 0) (fun s36 => xw_bnd (f_AW_forgetFailures fu s36) (fun s38 => some (s38, i1_98)))))
 (fun (k98 : xw_S → Int → Option (xw_S × Int)) => lp_AW_load_72 fu i1_70 k98 fu s23 0))
 (fun (k70 : xw_S → Int → Option (xw_S × Int)) => xw_jn (fun (s22 : xw_S) (i2_58 : Int) => some (s22, (-1000) - i2_58))
 (fun (k58 : xw_S → Int → Option (xw_S × Int)) => lp_AW_load_20 fu r3 k58 k70 fu s1 0)))
 (some (s1, r3))))
set_option maxRecDepth 100000 in
set_option maxHeartbeats 4000000 in
theorem c_AW_load (l : Launch) (D : va_G) (A : Nat → Prop) (ad : Nat → Nat) (cs : Nat → ClassId) (Z : va_W) (tt : Nat → Nat) (fu : Nat) (s0 sZ : xw_S) (r0 : Int) (h : f_AW_load fu s0 = some (sZ, r0)) : Met l y_AW_load w_AW_load ({ frames := 4, cells := 0, slots := 0, locals := 101 }) (va_Pc [.ref (ad 0)] (xw_H D vwCl A kdC 100 ad cs Z tt s0)) (va_Qi (fun r u => r = xw_i r0 ∧ u = sZ) (xw_H D vwCl A kdC 100 ad cs Z tt) A) 0 0 A := by
  refine Met.ofW (cc := b_AW_load) (maxL := 3) (ret := (some .int)) (by decide) rfl ?_
  intro p e s m args below meth c s₁ B hml hv
  obtain ⟨rfl, hP, hK, hD, hX⟩ := hv
  have hx := B.exec
  have hb := B.bytes
  have hr := B.returns
  have hts0 := atoms_spec (ws := w_AW_load) B.pre
  have hts := fun w (hw : w ∈ wAll) => hts0 w (List.mem_cons_of_mem _ hw)
  have hown : s.vm.findClass "AdviceWeaver" = some m.cls := findClass_of_methodNamed B.named
  have hlk := B.notSynchronized
  clear hts0 B
  have hS : va_S A s.heap s.heap [] := va_S.rf
  have hl := lv_entry [.ref (ad 0)] (n := 3) (Nat.le_of_ble_eq_true rfl)
  rw [lg_entry_eq]
  generalize (lg_sl [.ref (ad 0)] ++ List.replicate (3 - (lg_sl [.ref (ad 0)]).length) Slot.unset).toArray = ls at hl ⊢
  have hl : lv_has ls 3 [(0, .ref (ad 0))] := hl
  have hlp20 : ∀ (c1_20 : Int) (k58 : xw_S → Int → Option (xw_S × Int)) (hk58 : ∀ (sq : xw_S) (i2_58 : Int), k58 sq i2_58 = some (sZ, r0) → ∀ (H : Heap) (locs : List Loc) (ls : Array Slot), va_P D vwCl (xw_ws kdC 100 ad cs Z sq) H → va_S A s.heap H locs → lv_has ls 3 [(2, .int (xw_i i2_58))] → W p l e (headSpec w_AW_load ({ frames := 4, cells := 0, slots := 0, locals := 101 })).room s m [.ref (ad 0)].toArray below meth c H locs 0 0 (MQ below (va_Qi (fun r u => r = xw_i r0 ∧ u = sZ) (xw_H D vwCl A kdC 100 ad cs Z tt) A) [.ref (ad 0)].toArray s 0 0 A) (F0 m 58 ls [])) (k70 : xw_S → Int → Option (xw_S × Int)) (hk70 : ∀ (sq : xw_S) (i1_70 : Int), k70 sq i1_70 = some (sZ, r0) → ∀ (H : Heap) (locs : List Loc) (ls : Array Slot), va_P D vwCl (xw_ws kdC 100 ad cs Z sq) H → va_S A s.heap H locs → lv_has ls 3 [(0, .ref (ad 0)), (1, .int (xw_i i1_70))] → W p l e (headSpec w_AW_load ({ frames := 4, cells := 0, slots := 0, locals := 101 })).room s m [.ref (ad 0)].toArray below meth c H locs 0 0 (MQ below (va_Qi (fun r u => r = xw_i r0 ∧ u = sZ) (xw_H D vwCl A kdC 100 ad cs Z tt) A) [.ref (ad 0)].toArray s 0 0 A) (F0 m 70 ls [])) (n : Nat), ∀ (sq : xw_S) (i2_20 : Int), lp_AW_load_20 fu c1_20 k58 k70 n sq i2_20 = some (sZ, r0) → ∀ (H : Heap) (locs : List Loc) (ls : Array Slot), va_P D vwCl (xw_ws kdC 100 ad cs Z sq) H → va_S A s.heap H locs → lv_has ls 3 [(0, .ref (ad 0)), (1, .int (xw_i c1_20)), (2, .int (xw_i i2_20))] → W p l e (headSpec w_AW_load ({ frames := 4, cells := 0, slots := 0, locals := 101 })).room s m [.ref (ad 0)].toArray below meth c H locs 0 0 (MQ below (va_Qi (fun r u => r = xw_i r0 ∧ u = sZ) (xw_H D vwCl A kdC 100 ad cs Z tt) A) [.ref (ad 0)].toArray s 0 0 A) (F0 m 20 ls []) := by
    intro c1_20 k58 hk58 k70 hk70 n
    induction n with
    | zero =>
      intro sq i2_20 h
      cases (show (none : Option (xw_S × Int)) = some (sZ, r0) from h)
    | succ n ih20 =>
      intro s6 i2_20 h H locs ls hP hS hl
      unfold lp_AW_load_20 at h
      refine lv_iload_n hx hb d_AW_load_20 rfl (lv_at hl 2 rfl) ?_
      refine lv_iload_n hx hb d_AW_load_21 rfl (lv_at hl 1 rfl) ?_
      obtain ⟨hg7, h⟩ := xw_grdI h
      refine xw_icmp_ge (tgt := 70) hx hb hg7.1 hg7.2 d_AW_load_22 (by decide) (fun hc8 => ?_) (fun hc8 => ?_)
      · replace h := xw_ifT hc8 h
        exact hk70 s6 c1_20 h _ _ _ hP hS (lv_sub hl [0, 1] rfl)
      · replace h := xw_ifF hc8 h
        refine lv_aload_n hx hb d_AW_load_25 rfl (lv_at hl 0 rfl) ?_
        refine xw_getR (C := "AdviceWeaver") (T := T_AW) hx hb hts hin_AW hown hK hP (by decide) kc_AW (by decide) rfl 1 (by decide) (hts _ hw_151) (fun _ h9 => h9) rfl d_AW_load_26 ?_
        refine lv_iload_n hx hb d_AW_load_29 rfl (lv_at hl 2 rfl) ?_
        obtain ⟨hg9, h⟩ := xw_grdI h
        refine xw_aald23 (r := 48 + 4 * (4 * 0 + (i2_20).toNat)) hx hb hK hP (by omega) (kc_BodyArr 0 (by omega)) (by decide) hg9 (kc_BodyArrE 0 _ (by omega) (by omega)) d_AW_load_30 ?_
        refine lv_iload_n hx hb d_AW_load_31 rfl (lv_at hl 1 rfl) ?_
        obtain ⟨s10, r12, hc11, h⟩ := xw_bn2I h
        refine xw_callVi (C := "AdviceWeaver$Body") (T := T_B) ⟨hx, hb, hml, hown, hts⟩ (c_B_isWellFormed l D A ad cs Z tt fu s6 s10 (4 * 0 + (i2_20).toNat) (by omega) c1_20 r12 hc11) (cwV 1 hts (gd_V hw_156 hw_157 hw_158 hw_25 hw_159) rfl rfl rfl (by decide +kernel) ⟨Nat.le_of_ble_eq_true rfl, Nat.le_of_ble_eq_true rfl⟩) hP hK hD hX hS (by omega) (kc_Body (4 * 0 + (i2_20).toNat) (by omega)) (by decide) rfl rfl hl.1 rfl (Nat.le_of_ble_eq_true rfl) d_AW_load_32 (fun H locs hP hS => ?_)
        obtain ⟨hg13, h⟩ := xw_grdI h
        refine xw_if_eq (tgt := 58) hx hb hg13 d_AW_load_35 (by decide) (fun hc14 => ?_) (fun hc14 => ?_)
        · replace h := xw_ifT hc14 h
          exact hk58 s10 i2_20 h _ _ _ hP hS (lv_sub hl [2] rfl)
        · replace h := xw_ifF hc14 h
          refine lv_aload_n hx hb d_AW_load_38 rfl (lv_at hl 0 rfl) ?_
          refine xw_getR (C := "AdviceWeaver") (T := T_AW) hx hb hts hin_AW hown hK hP (by decide) kc_AW (by decide) rfl 6 (by decide) (hts _ hw_160) (fun _ h9 => h9) rfl d_AW_load_39 ?_
          refine lv_aload_n hx hb d_AW_load_42 rfl (lv_at hl 0 rfl) ?_
          refine xw_getR (C := "AdviceWeaver") (T := T_AW) hx hb hts hin_AW hown hK hP (by decide) kc_AW (by decide) rfl 1 (by decide) (hts _ hw_151) (fun _ h9 => h9) rfl d_AW_load_43 ?_
          refine lv_iload_n hx hb d_AW_load_46 rfl (lv_at hl 2 rfl) ?_
          refine xw_aald23 (r := 48 + 4 * (4 * 0 + (i2_20).toNat)) hx hb hK hP (by omega) (kc_BodyArr 0 (by omega)) (by decide) hg9 (kc_BodyArrE 0 _ (by omega) (by omega)) d_AW_load_47 ?_
          refine lv_aload_n hx hb d_AW_load_48 rfl (lv_at hl 0 rfl) ?_
          refine xw_getR (C := "AdviceWeaver") (T := T_AW) hx hb hts hin_AW hown hK hP (by decide) kc_AW (by decide) rfl 1 (by decide) (hts _ hw_151) (fun _ h9 => h9) rfl d_AW_load_49 ?_
          obtain ⟨s15, r17, hc16, h⟩ := xw_bn2I h
          refine xw_callVi (C := "AdviceWeaver$Flow") (T := T_FL) ⟨hx, hb, hml, hown, hts⟩ (c_FL_explore l D A ad cs Z tt fu s10 s15 (4 * 0 + (i2_20).toNat) (by omega) 0 (by omega) r17 hc16) (cwV 2 hts (gd_V hw_161 hw_162 hw_163 hw_121 hw_164) rfl rfl rfl (by decide +kernel) ⟨Nat.le_of_ble_eq_true rfl, Nat.le_of_ble_eq_true rfl⟩) hP hK hD hX hS (by decide) kc_Flow (by decide) rfl rfl hl.1 rfl (Nat.le_of_ble_eq_true rfl) d_AW_load_52 (fun H locs hP hS => ?_)
          obtain ⟨hg18, h⟩ := xw_grdI h
          refine xw_if_ne (tgt := 64) hx hb hg18 d_AW_load_55 (by decide) (fun hc19 => ?_) (fun hc19 => ?_)
          · replace h := xw_ifF hc19 h
            obtain ⟨v20, e21⟩ : ∃ z, z = i2_20 + 1 := ⟨_, rfl⟩
            replace h := xw_letI e21 h
            refine xw_iinc (lv' := [(2, .int (xw_i v20)), (0, .ref (ad 0)), (1, .int (xw_i c1_20))]) hx hb d_AW_load_64 hl (k := 2) rfl (by decide) (by rw [e21]; rfl) (fun ls hl => ?_)
            refine lv_goto (tgt := 20) hx hb d_AW_load_67 (by decide) ?_
            exact ih20 s15 v20 h _ _ _ hP hS (lv_sub hl [1, 2, 0] rfl)
          · replace h := xw_ifT hc19 h
            exact hk58 s15 i2_20 h _ _ _ hP hS (lv_sub hl [2] rfl)
  have hlp72 : ∀ (c1_72 : Int) (k98 : xw_S → Int → Option (xw_S × Int)) (hk98 : ∀ (sq : xw_S) (i1_98 : Int), k98 sq i1_98 = some (sZ, r0) → ∀ (H : Heap) (locs : List Loc) (ls : Array Slot), va_P D vwCl (xw_ws kdC 100 ad cs Z sq) H → va_S A s.heap H locs → lv_has ls 3 [(0, .ref (ad 0)), (1, .int (xw_i i1_98))] → W p l e (headSpec w_AW_load ({ frames := 4, cells := 0, slots := 0, locals := 101 })).room s m [.ref (ad 0)].toArray below meth c H locs 0 0 (MQ below (va_Qi (fun r u => r = xw_i r0 ∧ u = sZ) (xw_H D vwCl A kdC 100 ad cs Z tt) A) [.ref (ad 0)].toArray s 0 0 A) (F0 m 98 ls [])) (n : Nat), ∀ (sq : xw_S) (i2_72 : Int), lp_AW_load_72 fu c1_72 k98 n sq i2_72 = some (sZ, r0) → ∀ (H : Heap) (locs : List Loc) (ls : Array Slot), va_P D vwCl (xw_ws kdC 100 ad cs Z sq) H → va_S A s.heap H locs → lv_has ls 3 [(0, .ref (ad 0)), (1, .int (xw_i c1_72)), (2, .int (xw_i i2_72))] → W p l e (headSpec w_AW_load ({ frames := 4, cells := 0, slots := 0, locals := 101 })).room s m [.ref (ad 0)].toArray below meth c H locs 0 0 (MQ below (va_Qi (fun r u => r = xw_i r0 ∧ u = sZ) (xw_H D vwCl A kdC 100 ad cs Z tt) A) [.ref (ad 0)].toArray s 0 0 A) (F0 m 72 ls []) := by
    intro c1_72 k98 hk98 n
    induction n with
    | zero =>
      intro sq i2_72 h
      cases (show (none : Option (xw_S × Int)) = some (sZ, r0) from h)
    | succ n ih72 =>
      intro s24 i2_72 h H locs ls hP hS hl
      unfold lp_AW_load_72 at h
      refine lv_iload_n hx hb d_AW_load_72 rfl (lv_at hl 2 rfl) ?_
      refine lv_iload_n hx hb d_AW_load_73 rfl (lv_at hl 1 rfl) ?_
      obtain ⟨hg25, h⟩ := xw_grdI h
      refine xw_icmp_ge (tgt := 98) hx hb hg25.1 hg25.2 d_AW_load_74 (by decide) (fun hc26 => ?_) (fun hc26 => ?_)
      · replace h := xw_ifT hc26 h
        exact hk98 s24 c1_72 h _ _ _ hP hS (lv_sub hl [0, 1] rfl)
      · replace h := xw_ifF hc26 h
        refine lv_aload_n hx hb d_AW_load_77 rfl (lv_at hl 0 rfl) ?_
        refine xw_getR (C := "AdviceWeaver") (T := T_AW) hx hb hts hin_AW hown hK hP (by decide) kc_AW (by decide) rfl 2 (by decide) (hts _ hw_165) (fun _ h9 => h9) rfl d_AW_load_78 ?_
        refine lv_iload_n hx hb d_AW_load_81 rfl (lv_at hl 2 rfl) ?_
        obtain ⟨hg27, h⟩ := xw_grdI h
        refine xw_aald23 (r := 48 + 4 * (4 * 1 + (i2_72).toNat)) hx hb hK hP (by omega) (kc_BodyArr 1 (by omega)) (by decide) hg27 (kc_BodyArrE 1 _ (by omega) (by omega)) d_AW_load_82 ?_
        refine lv_aload_n hx hb d_AW_load_83 rfl (lv_at hl 0 rfl) ?_
        refine xw_getR (C := "AdviceWeaver") (T := T_AW) hx hb hts hin_AW hown hK hP (by decide) kc_AW (by decide) rfl 1 (by decide) (hts _ hw_151) (fun _ h9 => h9) rfl d_AW_load_84 ?_
        refine lv_iload_n hx hb d_AW_load_87 rfl (lv_at hl 2 rfl) ?_
        refine xw_aald23 (r := 48 + 4 * (4 * 0 + (i2_72).toNat)) hx hb hK hP (by omega) (kc_BodyArr 0 (by omega)) (by decide) hg27 (kc_BodyArrE 0 _ (by omega) (by omega)) d_AW_load_88 ?_
        obtain ⟨s28, hc29, h⟩ := xw_bndI h
        refine xw_callVv (C := "AdviceWeaver$Body") (T := T_B) ⟨hx, hb, hml, hown, hts⟩ (c_B_become l D A ad cs Z tt fu s24 s28 (4 * 1 + (i2_72).toNat) (by omega) (4 * 0 + (i2_72).toNat) (by omega) hc29) (cwV 1 hts (gd_V hw_166 hw_167 hw_168 hw_25 hw_169) rfl rfl rfl (by decide +kernel) ⟨Nat.le_of_ble_eq_true rfl, Nat.le_of_ble_eq_true rfl⟩) hP hK hD hX hS (by omega) (kc_Body (4 * 1 + (i2_72).toNat) (by omega)) (by decide) rfl rfl hl.1 rfl (Nat.le_of_ble_eq_true rfl) d_AW_load_89 (fun H locs hP hS => ?_)
        obtain ⟨v31, e32⟩ : ∃ z, z = i2_72 + 1 := ⟨_, rfl⟩
        replace h := xw_letI e32 h
        refine xw_iinc (lv' := [(2, .int (xw_i v31)), (0, .ref (ad 0)), (1, .int (xw_i c1_72))]) hx hb d_AW_load_92 hl (k := 2) rfl (by decide) (by rw [e32]; rfl) (fun ls hl => ?_)
        refine lv_goto (tgt := 72) hx hb d_AW_load_95 (by decide) ?_
        exact ih72 s28 v31 h _ _ _ hP hS (lv_sub hl [1, 2, 0] rfl)
  unfold f_AW_load at h
  refine lv_aload_n hx hb d_AW_load_0 rfl (lv_at hl 0 rfl) ?_
  refine xw_getR (C := "AdviceWeaver") (T := T_AW) hx hb hts hin_AW hown hK hP (by decide) kc_AW (by decide) rfl 0 (by decide) (hts _ hw_2) (fun _ h9 => h9) rfl d_AW_load_1 ?_
  refine lv_aload_n hx hb d_AW_load_4 rfl (lv_at hl 0 rfl) ?_
  refine xw_getR (C := "AdviceWeaver") (T := T_AW) hx hb hts hin_AW hown hK hP (by decide) kc_AW (by decide) rfl 1 (by decide) (hts _ hw_151) (fun _ h9 => h9) rfl d_AW_load_5 ?_
  obtain ⟨s1, r3, hc2, h⟩ := xw_bn2I h
  refine xw_callVi (C := "AdviceWeaver$ClassFile") (T := T_CF) ⟨hx, hb, hml, hown, hts⟩ (c_CF_readInto l D A ad cs Z tt fu s0 s1 0 (by omega) r3 hc2) (cwV 1 hts (gd_V hw_152 hw_153 hw_154 hw_6 hw_155) rfl rfl rfl (by decide +kernel) ⟨Nat.le_of_ble_eq_true rfl, Nat.le_of_ble_eq_true rfl⟩) hP hK hD hX hS (by decide) kc_CF (by decide) rfl rfl hl.1 rfl (Nat.le_of_ble_eq_true rfl) d_AW_load_8 (fun H locs hP hS => ?_)
  refine lv_istore_n hx hb d_AW_load_11 rfl hl (by decide) rfl (fun ls hl => ?_)
  refine lv_iload_n hx hb d_AW_load_12 rfl (lv_at hl 0 rfl) ?_
  obtain ⟨hg4, h⟩ := xw_grdI h
  refine xw_if_ge (tgt := 18) hx hb hg4 d_AW_load_13 (by decide) (fun hc5 => ?_) (fun hc5 => ?_)
  · replace h := xw_ifT hc5 h
    refine lv_iconst (v := xw_i 0) hx hb d_AW_load_18 rfl ?_
    refine lv_istore_n hx hb d_AW_load_19 rfl hl (by decide) rfl (fun ls hl => ?_)
    refine xw_jnI (fun j => ∀ (sq : xw_S) (i1_70 : Int), j sq i1_70 = some (sZ, r0) → ∀ (H : Heap) (locs : List Loc) (ls : Array Slot), va_P D vwCl (xw_ws kdC 100 ad cs Z sq) H → va_S A s.heap H locs → lv_has ls 3 [(0, .ref (ad 0)), (1, .int (xw_i i1_70))] → W p l e (headSpec w_AW_load ({ frames := 4, cells := 0, slots := 0, locals := 101 })).room s m [.ref (ad 0)].toArray below meth c H locs 0 0 (MQ below (va_Qi (fun r u => r = xw_i r0 ∧ u = sZ) (xw_H D vwCl A kdC 100 ad cs Z tt) A) [.ref (ad 0)].toArray s 0 0 A) (F0 m 70 ls [])) h ?_ ?_
    · intro s23 i1_70 h H locs ls hP hS hl
      refine lv_iconst (v := xw_i 0) hx hb d_AW_load_70 rfl ?_
      refine lv_istore_n hx hb d_AW_load_71 rfl hl (by decide) rfl (fun ls hl => ?_)
      refine xw_jnI (fun j => ∀ (sq : xw_S) (i1_98 : Int), j sq i1_98 = some (sZ, r0) → ∀ (H : Heap) (locs : List Loc) (ls : Array Slot), va_P D vwCl (xw_ws kdC 100 ad cs Z sq) H → va_S A s.heap H locs → lv_has ls 3 [(0, .ref (ad 0)), (1, .int (xw_i i1_98))] → W p l e (headSpec w_AW_load ({ frames := 4, cells := 0, slots := 0, locals := 101 })).room s m [.ref (ad 0)].toArray below meth c H locs 0 0 (MQ below (va_Qi (fun r u => r = xw_i r0 ∧ u = sZ) (xw_H D vwCl A kdC 100 ad cs Z tt) A) [.ref (ad 0)].toArray s 0 0 A) (F0 m 98 ls [])) h ?_ ?_
      · intro s33 i1_98 h H locs ls hP hS hl
        refine lv_aload_n hx hb d_AW_load_98 rfl (lv_at hl 0 rfl) ?_
        refine lv_iload_n hx hb d_AW_load_99 rfl (lv_at hl 1 rfl) ?_
        refine xw_putI (C := "AdviceWeaver") (T := T_AW) hx hb hts hin_AW ty_AW ty_AW_ok nm_AW hown hK hP hD hS (by decide) kc_AW (by decide) rfl 9 (by decide) (hts _ hw_170) (fun _ h9 => h9) rfl (by decide +kernel) rfl d_AW_load_100 (fun s34 e35 H locs hP hS => ?_)
        replace h := xw_letI e35 h
        refine lv_aload_n hx hb d_AW_load_103 rfl (lv_at hl 0 rfl) ?_
        refine lv_iconst (v := xw_i 0) hx hb d_AW_load_104 rfl ?_
        refine xw_putB (C := "AdviceWeaver") (T := T_AW) hx hb hts hin_AW ty_AW ty_AW_ok nm_AW hown hK hP hD hS (by decide) kc_AW (by decide) rfl 11 (by decide) (hts _ hw_171) (fun _ h9 => h9) rfl (by decide +kernel) rfl d_AW_load_105 (by decide) (fun s36 e37 H locs hP hS => ?_)
        replace h := xw_letI e37 h
        refine lv_aload_n hx hb d_AW_load_108 rfl (lv_at hl 0 rfl) ?_
        obtain ⟨s38, hc39, h⟩ := xw_bndI h
        refine xw_callVv (C := "AdviceWeaver") (T := T_AW) ⟨hx, hb, hml, hown, hts⟩ (c_AW_forgetFailures l D A ad cs Z tt fu s36 s38 hc39) (cwV 0 hts (gd_V hw_172 hw_173 hw_174 hw_175 hw_176) rfl rfl rfl (by decide +kernel) ⟨Nat.le_of_ble_eq_true rfl, Nat.le_of_ble_eq_true rfl⟩) hP hK hD hX hS (by decide) kc_AW (by decide) rfl rfl hl.1 rfl (Nat.le_of_ble_eq_true rfl) d_AW_load_109 (fun H locs hP hS => ?_)
        refine lv_iload_n hx hb d_AW_load_112 rfl (lv_at hl 1 rfl) ?_
        exact xw_iretE hx hb hr hlk hP hK hD hX hS h d_AW_load_113
      · intro k98 hk98 h
        exact hlp72 i1_70 k98 hk98 fu s23 0 h _ _ _ hP hS (lv_sub hl [1, 2, 0] rfl)
    · intro k70 hk70 h
      refine xw_jnI (fun j => ∀ (sq : xw_S) (i2_58 : Int), j sq i2_58 = some (sZ, r0) → ∀ (H : Heap) (locs : List Loc) (ls : Array Slot), va_P D vwCl (xw_ws kdC 100 ad cs Z sq) H → va_S A s.heap H locs → lv_has ls 3 [(2, .int (xw_i i2_58))] → W p l e (headSpec w_AW_load ({ frames := 4, cells := 0, slots := 0, locals := 101 })).room s m [.ref (ad 0)].toArray below meth c H locs 0 0 (MQ below (va_Qi (fun r u => r = xw_i r0 ∧ u = sZ) (xw_H D vwCl A kdC 100 ad cs Z tt) A) [.ref (ad 0)].toArray s 0 0 A) (F0 m 58 ls [])) h ?_ ?_
      · intro s22 i2_58 h H locs ls hP hS hl
        refine lv_sipush (v := xw_i (-1000)) hx hb d_AW_load_58 (by decide) ?_
        refine lv_iload_n hx hb d_AW_load_61 rfl (lv_at hl 0 rfl) ?_
        refine xw_isub hx hb d_AW_load_62 ?_
        exact xw_iretE hx hb hr hlk hP hK hD hX hS h d_AW_load_63
      · intro k58 hk58 h
        exact hlp20 r3 k58 hk58 k70 hk70 fu s1 0 h _ _ _ hP hS (lv_sub hl [2, 1, 0] rfl)
  · replace h := xw_ifF hc5 h
    refine lv_iload_n hx hb d_AW_load_16 rfl (lv_at hl 0 rfl) ?_
    exact xw_iretE hx hb hr hlk hP hK hD hX hS h d_AW_load_17
def f_AW_transformer (fu : Nat) (s0 : xw_S) (p1 : Int) (p2 : Int) (p3 : Int) : Option (xw_S × Int) :=
 xw_jn (fun (s7 : xw_S) (t0_21 : Int) => xw_jn (fun (s12 : xw_S) (i4_38 : Int) (t0_38 : Int) => xw_grd (xw_r i4_38) (xw_if (i4_38 = 0) (some (s12, -1))
 (xw_grd (xw_r t0_38) (xw_if (t0_38 = 0) (some (s12, -1))
 (xw_grd (xw_r (s12.1 0 10)) (xw_if (s12.1 0 10 < 3) (xw_grd ((0 ≤ s12.1 0 10 ∧ s12.1 0 10 < ((3 : Nat) : Int))) (xw_bnd (f_TR_set fu s12 ((s12.1 0 10).toNat) p1 p2 p3) (fun s20 => xw_let (xw_st s20 0 10 ((s20.1 0 10) + 1)) (fun s23 => some (s23, (s23.1 0 10) - 1)))))
 (some (s12, -1))))))))
 (fun (j38 : xw_S → Int → Int → Option (xw_S × Int)) => xw_jn (fun (s11 : xw_S) (i4_37 : Int) => j38 s11 i4_37 0)
 (fun (j37 : xw_S → Int → Option (xw_S × Int)) => xw_grd (xw_r p3) (xw_if (p3 < -1) (j37 s7 t0_21)
 (xw_if (2 < p3) (j37 s7 t0_21)
 (j38 s7 t0_21 1))))))
 (fun (j21 : xw_S → Int → Option (xw_S × Int)) => xw_jn (fun (s6 : xw_S) => j21 s6 1)
 (fun (j16 : xw_S → Option (xw_S × Int)) => xw_grd (xw_r p2) (xw_if (p2 = 0) (j16 s0)
 (xw_jn (fun (s5 : xw_S) => j21 s5 0)
 (fun (j20 : xw_S → Option (xw_S × Int)) => xw_if (p2 < 97) (j20 s0)
 (xw_if (122 < p2) (j20 s0)
 (j16 s0)))))))
set_option maxRecDepth 100000 in
set_option maxHeartbeats 4000000 in
theorem c_AW_transformer (l : Launch) (D : va_G) (A : Nat → Prop) (ad : Nat → Nat) (cs : Nat → ClassId) (Z : va_W) (tt : Nat → Nat) (fu : Nat) (s0 sZ : xw_S) (p1 : Int) (p2 : Int) (p3 : Int) (r0 : Int) (h : f_AW_transformer fu s0 p1 p2 p3 = some (sZ, r0)) : Met l y_AW_transformer w_AW_transformer ({ frames := 1, cells := 0, slots := 0, locals := 23 }) (va_Pc [.ref (ad 0), .int (xw_i p1), .int (xw_i p2), .int (xw_i p3)] (xw_H D vwCl A kdC 100 ad cs Z tt s0)) (va_Qi (fun r u => r = xw_i r0 ∧ u = sZ) (xw_H D vwCl A kdC 100 ad cs Z tt) A) 0 0 A := by
  refine Met.ofW (cc := b_AW_transformer) (maxL := 6) (ret := (some .int)) (by decide) rfl ?_
  intro p e s m args below meth c s₁ B hml hv
  obtain ⟨rfl, hP, hK, hD, hX⟩ := hv
  have hx := B.exec
  have hb := B.bytes
  have hr := B.returns
  have hts0 := atoms_spec (ws := w_AW_transformer) B.pre
  have hts := fun w (hw : w ∈ wAll) => hts0 w (List.mem_cons_of_mem _ hw)
  have hown : s.vm.findClass "AdviceWeaver" = some m.cls := findClass_of_methodNamed B.named
  have hlk := B.notSynchronized
  clear hts0 B
  have hS : va_S A s.heap s.heap [] := va_S.rf
  have hl := lv_entry [.ref (ad 0), .int (xw_i p1), .int (xw_i p2), .int (xw_i p3)] (n := 6) (Nat.le_of_ble_eq_true rfl)
  rw [lg_entry_eq]
  generalize (lg_sl [.ref (ad 0), .int (xw_i p1), .int (xw_i p2), .int (xw_i p3)] ++ List.replicate (6 - (lg_sl [.ref (ad 0), .int (xw_i p1), .int (xw_i p2), .int (xw_i p3)]).length) Slot.unset).toArray = ls at hl ⊢
  have hl : lv_has ls 6 [(0, .ref (ad 0)), (1, .int (xw_i p1)), (2, .int (xw_i p2)), (3, .int (xw_i p3))] := hl
  unfold f_AW_transformer at h
  refine lv_iload_n hx hb d_AW_transformer_0 rfl (lv_at hl 2 rfl) ?_
  refine xw_jnI (fun j => ∀ (sq : xw_S) (t0_21 : Int), j sq t0_21 = some (sZ, r0) → ∀ (H : Heap) (locs : List Loc) (ls : Array Slot), va_P D vwCl (xw_ws kdC 100 ad cs Z sq) H → va_S A s.heap H locs → lv_has ls 6 [(0, .ref (ad 0)), (1, .int (xw_i p1)), (2, .int (xw_i p2)), (3, .int (xw_i p3))] → W p l e (headSpec w_AW_transformer ({ frames := 1, cells := 0, slots := 0, locals := 23 })).room s m [.ref (ad 0), .int (xw_i p1), .int (xw_i p2), .int (xw_i p3)].toArray below meth c H locs 0 0 (MQ below (va_Qi (fun r u => r = xw_i r0 ∧ u = sZ) (xw_H D vwCl A kdC 100 ad cs Z tt) A) [.ref (ad 0), .int (xw_i p1), .int (xw_i p2), .int (xw_i p3)].toArray s 0 0 A) (F0 m 21 ls [.int (xw_i t0_21)])) h ?_ ?_
  · intro s7 t0_21 h H locs ls hP hS hl
    refine lv_istore hx hb d_AW_transformer_21 hl (by decide) rfl (fun ls hl => ?_)
    refine lv_iload_n hx hb d_AW_transformer_23 rfl (lv_at hl 4 rfl) ?_
    refine lv_iconst (v := xw_i (-1)) hx hb d_AW_transformer_24 rfl ?_
    refine xw_jnI (fun j => ∀ (sq : xw_S) (i4_38 : Int) (t0_38 : Int), j sq i4_38 t0_38 = some (sZ, r0) → ∀ (H : Heap) (locs : List Loc) (ls : Array Slot), va_P D vwCl (xw_ws kdC 100 ad cs Z sq) H → va_S A s.heap H locs → lv_has ls 6 [(0, .ref (ad 0)), (1, .int (xw_i p1)), (2, .int (xw_i p2)), (3, .int (xw_i p3)), (4, .int (xw_i i4_38))] → W p l e (headSpec w_AW_transformer ({ frames := 1, cells := 0, slots := 0, locals := 23 })).room s m [.ref (ad 0), .int (xw_i p1), .int (xw_i p2), .int (xw_i p3)].toArray below meth c H locs 0 0 (MQ below (va_Qi (fun r u => r = xw_i r0 ∧ u = sZ) (xw_H D vwCl A kdC 100 ad cs Z tt) A) [.ref (ad 0), .int (xw_i p1), .int (xw_i p2), .int (xw_i p3)].toArray s 0 0 A) (F0 m 38 ls [.int (xw_i t0_38)])) h ?_ ?_
    · intro s12 i4_38 t0_38 h H locs ls hP hS hl
      refine lv_istore hx hb d_AW_transformer_38 hl (by decide) rfl (fun ls hl => ?_)
      refine lv_iload hx hb d_AW_transformer_40 (lv_at hl 5 rfl) ?_
      obtain ⟨hg13, h⟩ := xw_grdI h
      refine xw_if_eq (tgt := 58) hx hb hg13 d_AW_transformer_42 (by decide) (fun hc14 => ?_) (fun hc14 => ?_)
      · replace h := xw_ifT hc14 h
        refine lv_iconst (v := xw_i (-1)) hx hb d_AW_transformer_58 rfl ?_
        exact xw_iretE hx hb hr hlk hP hK hD hX hS h d_AW_transformer_59
      · replace h := xw_ifF hc14 h
        refine lv_iload hx hb d_AW_transformer_45 (lv_at hl 0 rfl) ?_
        obtain ⟨hg15, h⟩ := xw_grdI h
        refine xw_if_eq (tgt := 58) hx hb hg15 d_AW_transformer_47 (by decide) (fun hc16 => ?_) (fun hc16 => ?_)
        · replace h := xw_ifT hc16 h
          refine lv_iconst (v := xw_i (-1)) hx hb d_AW_transformer_58 rfl ?_
          exact xw_iretE hx hb hr hlk hP hK hD hX hS h d_AW_transformer_59
        · replace h := xw_ifF hc16 h
          refine lv_aload_n hx hb d_AW_transformer_50 rfl (lv_at hl 1 rfl) ?_
          refine xw_getI (C := "AdviceWeaver") (T := T_AW) hx hb hts hin_AW hown hK hP (by decide) kc_AW (by decide) rfl 10 (by decide) (hts _ hw_180) (fun _ h9 => h9) rfl d_AW_transformer_51 ?_
          refine lv_iconst (v := xw_i 3) hx hb d_AW_transformer_54 rfl ?_
          obtain ⟨hg17, h⟩ := xw_grdI h
          refine xw_icmp_lt (tgt := 60) hx hb hg17 (by decide) d_AW_transformer_55 (by decide) (fun hc18 => ?_) (fun hc18 => ?_)
          · replace h := xw_ifT hc18 h
            refine lv_aload_n hx hb d_AW_transformer_60 rfl (lv_at hl 1 rfl) ?_
            refine xw_getR (C := "AdviceWeaver") (T := T_AW) hx hb hts hin_AW hown hK hP (by decide) kc_AW (by decide) rfl 4 (by decide) (hts _ hw_181) (fun _ h9 => h9) rfl d_AW_transformer_61 ?_
            refine lv_aload_n hx hb d_AW_transformer_64 rfl (lv_at hl 1 rfl) ?_
            refine xw_getI (C := "AdviceWeaver") (T := T_AW) hx hb hts hin_AW hown hK hP (by decide) kc_AW (by decide) rfl 10 (by decide) (hts _ hw_180) (fun _ h9 => h9) rfl d_AW_transformer_65 ?_
            obtain ⟨hg19, h⟩ := xw_grdI h
            refine xw_aald24 (r := 21 + ((s12.1 0 10).toNat)) hx hb hK hP (by decide) kc_TrArr (by decide) hg19 (kc_TrArrE _ (by omega)) d_AW_transformer_68 ?_
            refine lv_iload_n hx hb d_AW_transformer_69 rfl (lv_at hl 2 rfl) ?_
            refine lv_iload_n hx hb d_AW_transformer_70 rfl (lv_at hl 3 rfl) ?_
            refine lv_iload_n hx hb d_AW_transformer_71 rfl (lv_at hl 4 rfl) ?_
            obtain ⟨s20, hc21, h⟩ := xw_bndI h
            refine xw_callVv (C := "AdviceWeaver$Transformer") (T := T_TR) ⟨hx, hb, hml, hown, hts⟩ (c_TR_set l D A ad cs Z tt fu s12 s20 ((s12.1 0 10).toNat) (by omega) p1 p2 p3 hc21) (cwV 3 hts (gd_V hw_182 hw_183 hw_184 hw_185 hw_186) rfl rfl rfl (by decide +kernel) ⟨Nat.le_of_ble_eq_true rfl, Nat.le_of_ble_eq_true rfl⟩) hP hK hD hX hS (by omega) (kc_Tr ((s12.1 0 10).toNat) (by omega)) (by decide) rfl rfl hl.1 rfl (Nat.le_of_ble_eq_true rfl) d_AW_transformer_72 (fun H locs hP hS => ?_)
            refine lv_aload_n hx hb d_AW_transformer_75 rfl (lv_at hl 1 rfl) ?_
            refine lv_dup hx hb d_AW_transformer_76 rfl ?_
            refine xw_getI (C := "AdviceWeaver") (T := T_AW) hx hb hts hin_AW hown hK hP (by decide) kc_AW (by decide) rfl 10 (by decide) (hts _ hw_180) (fun _ h9 => h9) rfl d_AW_transformer_77 ?_
            refine lv_iconst (v := xw_i 1) hx hb d_AW_transformer_80 rfl ?_
            refine xw_iadd hx hb d_AW_transformer_81 ?_
            refine xw_putI (C := "AdviceWeaver") (T := T_AW) hx hb hts hin_AW ty_AW ty_AW_ok nm_AW hown hK hP hD hS (by decide) kc_AW (by decide) rfl 10 (by decide) (hts _ hw_180) (fun _ h9 => h9) rfl (by decide +kernel) rfl d_AW_transformer_82 (fun s23 e24 H locs hP hS => ?_)
            replace h := xw_letI e24 h
            refine lv_aload_n hx hb d_AW_transformer_85 rfl (lv_at hl 1 rfl) ?_
            refine xw_getI (C := "AdviceWeaver") (T := T_AW) hx hb hts hin_AW hown hK hP (by decide) kc_AW (by decide) rfl 10 (by decide) (hts _ hw_180) (fun _ h9 => h9) rfl d_AW_transformer_86 ?_
            refine lv_iconst (v := xw_i 1) hx hb d_AW_transformer_89 rfl ?_
            refine xw_isub hx hb d_AW_transformer_90 ?_
            exact xw_iretE hx hb hr hlk hP hK hD hX hS h d_AW_transformer_91
          · replace h := xw_ifF hc18 h
            refine lv_iconst (v := xw_i (-1)) hx hb d_AW_transformer_58 rfl ?_
            exact xw_iretE hx hb hr hlk hP hK hD hX hS h d_AW_transformer_59
    · intro j38 hj38 h
      refine xw_jnI (fun j => ∀ (sq : xw_S) (i4_37 : Int), j sq i4_37 = some (sZ, r0) → ∀ (H : Heap) (locs : List Loc) (ls : Array Slot), va_P D vwCl (xw_ws kdC 100 ad cs Z sq) H → va_S A s.heap H locs → lv_has ls 6 [(0, .ref (ad 0)), (1, .int (xw_i p1)), (2, .int (xw_i p2)), (3, .int (xw_i p3)), (4, .int (xw_i i4_37))] → W p l e (headSpec w_AW_transformer ({ frames := 1, cells := 0, slots := 0, locals := 23 })).room s m [.ref (ad 0), .int (xw_i p1), .int (xw_i p2), .int (xw_i p3)].toArray below meth c H locs 0 0 (MQ below (va_Qi (fun r u => r = xw_i r0 ∧ u = sZ) (xw_H D vwCl A kdC 100 ad cs Z tt) A) [.ref (ad 0), .int (xw_i p1), .int (xw_i p2), .int (xw_i p3)].toArray s 0 0 A) (F0 m 37 ls [])) h ?_ ?_
      · intro s11 i4_37 h H locs ls hP hS hl
        refine lv_iconst (v := xw_i 0) hx hb d_AW_transformer_37 rfl ?_
        exact hj38 s11 i4_37 0 h _ _ _ hP hS (lv_sub hl [0, 1, 2, 3, 4] rfl)
      · intro j37 hj37 h
        obtain ⟨hg8, h⟩ := xw_grdI h
        refine xw_icmp_lt (tgt := 37) hx hb hg8 (by decide) d_AW_transformer_25 (by decide) (fun hc9 => ?_) (fun hc9 => ?_)
        · replace h := xw_ifT hc9 h
          exact hj37 s7 t0_21 h _ _ _ hP hS (lv_sub hl [1, 2, 3, 4, 0] rfl)
        · replace h := xw_ifF hc9 h
          refine lv_iload_n hx hb d_AW_transformer_28 rfl (lv_at hl 4 rfl) ?_
          refine lv_iconst (v := xw_i 2) hx hb d_AW_transformer_29 rfl ?_
          refine xw_icmp_gt (tgt := 37) hx hb hg8 (by decide) d_AW_transformer_30 (by decide) (fun hc10 => ?_) (fun hc10 => ?_)
          · replace h := xw_ifT hc10 h
            exact hj37 s7 t0_21 h _ _ _ hP hS (lv_sub hl [1, 2, 3, 4, 0] rfl)
          · replace h := xw_ifF hc10 h
            refine lv_iconst (v := xw_i 1) hx hb d_AW_transformer_33 rfl ?_
            refine lv_goto (tgt := 38) hx hb d_AW_transformer_34 (by decide) ?_
            exact hj38 s7 t0_21 1 h _ _ _ hP hS (lv_sub hl [1, 2, 3, 4, 0] rfl)
  · intro j21 hj21 h
    refine xw_jnI (fun j => ∀ (sq : xw_S), j sq = some (sZ, r0) → ∀ (H : Heap) (locs : List Loc) (ls : Array Slot), va_P D vwCl (xw_ws kdC 100 ad cs Z sq) H → va_S A s.heap H locs → lv_has ls 6 [(0, .ref (ad 0)), (1, .int (xw_i p1)), (2, .int (xw_i p2)), (3, .int (xw_i p3))] → W p l e (headSpec w_AW_transformer ({ frames := 1, cells := 0, slots := 0, locals := 23 })).room s m [.ref (ad 0), .int (xw_i p1), .int (xw_i p2), .int (xw_i p3)].toArray below meth c H locs 0 0 (MQ below (va_Qi (fun r u => r = xw_i r0 ∧ u = sZ) (xw_H D vwCl A kdC 100 ad cs Z tt) A) [.ref (ad 0), .int (xw_i p1), .int (xw_i p2), .int (xw_i p3)].toArray s 0 0 A) (F0 m 16 ls [])) h ?_ ?_
    · intro s6 h H locs ls hP hS hl
      refine lv_iconst (v := xw_i 1) hx hb d_AW_transformer_16 rfl ?_
      refine lv_goto (tgt := 21) hx hb d_AW_transformer_17 (by decide) ?_
      exact hj21 s6 1 h _ _ _ hP hS (lv_sub hl [0, 1, 2, 3] rfl)
    · intro j16 hj16 h
      obtain ⟨hg1, h⟩ := xw_grdI h
      refine xw_if_eq (tgt := 16) hx hb hg1 d_AW_transformer_1 (by decide) (fun hc2 => ?_) (fun hc2 => ?_)
      · replace h := xw_ifT hc2 h
        exact hj16 s0 h _ _ _ hP hS (lv_sub hl [0, 1, 2, 3] rfl)
      · replace h := xw_ifF hc2 h
        refine lv_iload_n hx hb d_AW_transformer_4 rfl (lv_at hl 2 rfl) ?_
        refine lv_bipush (v := xw_i 97) hx hb d_AW_transformer_5 (by decide) ?_
        refine xw_jnI (fun j => ∀ (sq : xw_S), j sq = some (sZ, r0) → ∀ (H : Heap) (locs : List Loc) (ls : Array Slot), va_P D vwCl (xw_ws kdC 100 ad cs Z sq) H → va_S A s.heap H locs → lv_has ls 6 [(0, .ref (ad 0)), (1, .int (xw_i p1)), (2, .int (xw_i p2)), (3, .int (xw_i p3))] → W p l e (headSpec w_AW_transformer ({ frames := 1, cells := 0, slots := 0, locals := 23 })).room s m [.ref (ad 0), .int (xw_i p1), .int (xw_i p2), .int (xw_i p3)].toArray below meth c H locs 0 0 (MQ below (va_Qi (fun r u => r = xw_i r0 ∧ u = sZ) (xw_H D vwCl A kdC 100 ad cs Z tt) A) [.ref (ad 0), .int (xw_i p1), .int (xw_i p2), .int (xw_i p3)].toArray s 0 0 A) (F0 m 20 ls [])) h ?_ ?_
        · intro s5 h H locs ls hP hS hl
          refine lv_iconst (v := xw_i 0) hx hb d_AW_transformer_20 rfl ?_
          exact hj21 s5 0 h _ _ _ hP hS (lv_sub hl [0, 1, 2, 3] rfl)
        · intro j20 hj20 h
          refine xw_icmp_lt (tgt := 20) hx hb hg1 (by decide) d_AW_transformer_7 (by decide) (fun hc3 => ?_) (fun hc3 => ?_)
          · replace h := xw_ifT hc3 h
            exact hj20 s0 h _ _ _ hP hS (lv_sub hl [0, 1, 2, 3] rfl)
          · replace h := xw_ifF hc3 h
            refine lv_iload_n hx hb d_AW_transformer_10 rfl (lv_at hl 2 rfl) ?_
            refine lv_bipush (v := xw_i 122) hx hb d_AW_transformer_11 (by decide) ?_
            refine xw_icmp_gt (tgt := 20) hx hb hg1 (by decide) d_AW_transformer_13 (by decide) (fun hc4 => ?_) (fun hc4 => ?_)
            · replace h := xw_ifT hc4 h
              exact hj20 s0 h _ _ _ hP hS (lv_sub hl [0, 1, 2, 3] rfl)
            · replace h := xw_ifF hc4 h
              exact hj16 s0 h _ _ _ hP hS (lv_sub hl [0, 1, 2, 3] rfl)
def f_AW_unchain (fu : Nat) (s0 : xw_S) : Option xw_S :=
 xw_let (xw_st s0 0 10 0) (fun s1 => some s1)
set_option maxRecDepth 100000 in
set_option maxHeartbeats 4000000 in
theorem c_AW_unchain (l : Launch) (D : va_G) (A : Nat → Prop) (ad : Nat → Nat) (cs : Nat → ClassId) (Z : va_W) (tt : Nat → Nat) (fu : Nat) (s0 sZ : xw_S) (h : f_AW_unchain fu s0 = some sZ) : Met l y_AW_unchain w_AW_unchain ({ frames := 0, cells := 0, slots := 0, locals := 0 }) (va_Pc [.ref (ad 0)] (xw_H D vwCl A kdC 100 ad cs Z tt s0)) (va_Qv (fun u => u = sZ) (xw_H D vwCl A kdC 100 ad cs Z tt) A) 0 0 A := by
  refine Met.ofW (cc := b_AW_unchain) (maxL := 1) (ret := none) (by decide) rfl ?_
  intro p e s m args below meth c s₁ B hml hv
  obtain ⟨rfl, hP, hK, hD, hX⟩ := hv
  have hx := B.exec
  have hb := B.bytes
  have hr := B.returns
  have hts0 := atoms_spec (ws := w_AW_unchain) B.pre
  have hts := fun w (hw : w ∈ wAll) => hts0 w (List.mem_cons_of_mem _ hw)
  have hown : s.vm.findClass "AdviceWeaver" = some m.cls := findClass_of_methodNamed B.named
  have hlk := B.notSynchronized
  clear hts0 B
  have hS : va_S A s.heap s.heap [] := va_S.rf
  have hl := lv_entry [.ref (ad 0)] (n := 1) (Nat.le_of_ble_eq_true rfl)
  rw [lg_entry_eq]
  generalize (lg_sl [.ref (ad 0)] ++ List.replicate (1 - (lg_sl [.ref (ad 0)]).length) Slot.unset).toArray = ls at hl ⊢
  have hl : lv_has ls 1 [(0, .ref (ad 0))] := hl
  unfold f_AW_unchain at h
  refine lv_aload_n hx hb d_AW_unchain_0 rfl (lv_at hl 0 rfl) ?_
  refine lv_iconst (v := xw_i 0) hx hb d_AW_unchain_1 rfl ?_
  refine xw_putI (C := "AdviceWeaver") (T := T_AW) hx hb hts hin_AW ty_AW ty_AW_ok nm_AW hown hK hP hD hS (by decide) kc_AW (by decide) rfl 10 (by decide) (hts _ hw_180) (fun _ h9 => h9) rfl (by decide +kernel) rfl d_AW_unchain_2 (fun s1 e2 H locs hP hS => ?_)
  replace h := xw_letI e2 h
  exact xw_vretE hx hb hr hlk hP hK hD hX hS h d_AW_unchain_5
def lp_AW_sendAlongChain_4 (fu : Nat) (c1_4 : Int) (k82 : xw_S → Int → Option (xw_S × Int)) : Nat → xw_S → Int → Int → Option (xw_S × Int)
  | 0, _, _, _ => none
  | n + 1, s1, i2_4, i3_4 =>
    xw_grd (xw_r i3_4 ∧ xw_r (s1.1 0 10)) (xw_if (s1.1 0 10 ≤ i3_4) (k82 s1 i2_4)
     (xw_grd ((0 ≤ i3_4 ∧ i3_4 < ((3 : Nat) : Int))) (xw_grd ((0 ≤ c1_4 ∧ c1_4 < ((4 : Nat) : Int))) (xw_bn2 (f_TR_fits fu s1 ((i3_4).toNat) (4 * 2 + (c1_4).toNat)) (fun s6 r8 => xw_jn (fun (s21 : xw_S) (i2_76 : Int) (i3_76 : Int) => xw_let (i3_76 + 1) (fun v22 => lp_AW_sendAlongChain_4 fu c1_4 k82 n s21 i2_76 v22))
     (fun (j76 : xw_S → Int → Int → Option (xw_S × Int)) => xw_grd (xw_r r8) (xw_if (r8 = 0) (j76 s6 i2_4 i3_4)
     (xw_bn2 (f_LM_transform fu s6 (4 * 2 + (c1_4).toNat) (s6.1 (21 + ((i3_4).toNat)) 0) i3_4) (fun s11 r13 => xw_grd (xw_r r13) (xw_if (r13 = 0) (xw_grd ((0 ≤ (c1_4 * 3) + i3_4 ∧ (c1_4 * 3) + i3_4 < ((12 : Nat) : Int))) (xw_let (xw_st s11 7 ((c1_4 * 3) + i3_4).toNat 1) (fun s17 => j76 s17 i2_4 i3_4)))
     (xw_let (i2_4 + 1) (fun v19 => j76 s11 v19 i3_4))))))))))))
def f_AW_sendAlongChain (fu : Nat) (s0 : xw_S) (p1 : Int) : Option (xw_S × Int) :=
 xw_jn (fun (s24 : xw_S) (i2_82 : Int) => some (s24, i2_82))
 (fun (k82 : xw_S → Int → Option (xw_S × Int)) => lp_AW_sendAlongChain_4 fu p1 k82 fu s0 0 0)
set_option maxRecDepth 100000 in
set_option maxHeartbeats 4000000 in
theorem c_AW_sendAlongChain (l : Launch) (D : va_G) (A : Nat → Prop) (ad : Nat → Nat) (cs : Nat → ClassId) (Z : va_W) (tt : Nat → Nat) (fu : Nat) (s0 sZ : xw_S) (p1 : Int) (r0 : Int) (h : f_AW_sendAlongChain fu s0 p1 = some (sZ, r0)) : Met l y_AW_sendAlongChain w_AW_sendAlongChain ({ frames := 5, cells := 0, slots := 0, locals := 113 }) (va_Pc [.ref (ad 0), .int (xw_i p1)] (xw_H D vwCl A kdC 100 ad cs Z tt s0)) (va_Qi (fun r u => r = xw_i r0 ∧ u = sZ) (xw_H D vwCl A kdC 100 ad cs Z tt) A) 0 0 A := by
  refine Met.ofW (cc := b_AW_sendAlongChain) (maxL := 4) (ret := (some .int)) (by decide) rfl ?_
  intro p e s m args below meth c s₁ B hml hv
  obtain ⟨rfl, hP, hK, hD, hX⟩ := hv
  have hx := B.exec
  have hb := B.bytes
  have hr := B.returns
  have hts0 := atoms_spec (ws := w_AW_sendAlongChain) B.pre
  have hts := fun w (hw : w ∈ wAll) => hts0 w (List.mem_cons_of_mem _ hw)
  have hown : s.vm.findClass "AdviceWeaver" = some m.cls := findClass_of_methodNamed B.named
  have hlk := B.notSynchronized
  clear hts0 B
  have hS : va_S A s.heap s.heap [] := va_S.rf
  have hl := lv_entry [.ref (ad 0), .int (xw_i p1)] (n := 4) (Nat.le_of_ble_eq_true rfl)
  rw [lg_entry_eq]
  generalize (lg_sl [.ref (ad 0), .int (xw_i p1)] ++ List.replicate (4 - (lg_sl [.ref (ad 0), .int (xw_i p1)]).length) Slot.unset).toArray = ls at hl ⊢
  have hl : lv_has ls 4 [(0, .ref (ad 0)), (1, .int (xw_i p1))] := hl
  have hlp4 : ∀ (c1_4 : Int) (k82 : xw_S → Int → Option (xw_S × Int)) (hk82 : ∀ (sq : xw_S) (i2_82 : Int), k82 sq i2_82 = some (sZ, r0) → ∀ (H : Heap) (locs : List Loc) (ls : Array Slot), va_P D vwCl (xw_ws kdC 100 ad cs Z sq) H → va_S A s.heap H locs → lv_has ls 4 [(2, .int (xw_i i2_82))] → W p l e (headSpec w_AW_sendAlongChain ({ frames := 5, cells := 0, slots := 0, locals := 113 })).room s m [.ref (ad 0), .int (xw_i p1)].toArray below meth c H locs 0 0 (MQ below (va_Qi (fun r u => r = xw_i r0 ∧ u = sZ) (xw_H D vwCl A kdC 100 ad cs Z tt) A) [.ref (ad 0), .int (xw_i p1)].toArray s 0 0 A) (F0 m 82 ls [])) (n : Nat), ∀ (sq : xw_S) (i2_4 : Int) (i3_4 : Int), lp_AW_sendAlongChain_4 fu c1_4 k82 n sq i2_4 i3_4 = some (sZ, r0) → ∀ (H : Heap) (locs : List Loc) (ls : Array Slot), va_P D vwCl (xw_ws kdC 100 ad cs Z sq) H → va_S A s.heap H locs → lv_has ls 4 [(0, .ref (ad 0)), (1, .int (xw_i c1_4)), (2, .int (xw_i i2_4)), (3, .int (xw_i i3_4))] → W p l e (headSpec w_AW_sendAlongChain ({ frames := 5, cells := 0, slots := 0, locals := 113 })).room s m [.ref (ad 0), .int (xw_i p1)].toArray below meth c H locs 0 0 (MQ below (va_Qi (fun r u => r = xw_i r0 ∧ u = sZ) (xw_H D vwCl A kdC 100 ad cs Z tt) A) [.ref (ad 0), .int (xw_i p1)].toArray s 0 0 A) (F0 m 4 ls []) := by
    intro c1_4 k82 hk82 n
    induction n with
    | zero =>
      intro sq i2_4 i3_4 h
      cases (show (none : Option (xw_S × Int)) = some (sZ, r0) from h)
    | succ n ih4 =>
      intro s1 i2_4 i3_4 h H locs ls hP hS hl
      unfold lp_AW_sendAlongChain_4 at h
      refine lv_iload_n hx hb d_AW_sendAlongChain_4 rfl (lv_at hl 3 rfl) ?_
      refine lv_aload_n hx hb d_AW_sendAlongChain_5 rfl (lv_at hl 0 rfl) ?_
      refine xw_getI (C := "AdviceWeaver") (T := T_AW) hx hb hts hin_AW hown hK hP (by decide) kc_AW (by decide) rfl 10 (by decide) (hts _ hw_180) (fun _ h9 => h9) rfl d_AW_sendAlongChain_6 ?_
      obtain ⟨hg2, h⟩ := xw_grdI h
      refine xw_icmp_ge (tgt := 82) hx hb hg2.1 hg2.2 d_AW_sendAlongChain_9 (by decide) (fun hc3 => ?_) (fun hc3 => ?_)
      · replace h := xw_ifT hc3 h
        exact hk82 s1 i2_4 h _ _ _ hP hS (lv_sub hl [2] rfl)
      · replace h := xw_ifF hc3 h
        refine lv_aload_n hx hb d_AW_sendAlongChain_12 rfl (lv_at hl 0 rfl) ?_
        refine xw_getR (C := "AdviceWeaver") (T := T_AW) hx hb hts hin_AW hown hK hP (by decide) kc_AW (by decide) rfl 4 (by decide) (hts _ hw_181) (fun _ h9 => h9) rfl d_AW_sendAlongChain_13 ?_
        refine lv_iload_n hx hb d_AW_sendAlongChain_16 rfl (lv_at hl 3 rfl) ?_
        obtain ⟨hg4, h⟩ := xw_grdI h
        refine xw_aald24 (r := 21 + ((i3_4).toNat)) hx hb hK hP (by decide) kc_TrArr (by decide) hg4 (kc_TrArrE _ (by omega)) d_AW_sendAlongChain_17 ?_
        refine lv_aload_n hx hb d_AW_sendAlongChain_18 rfl (lv_at hl 0 rfl) ?_
        refine xw_getR (C := "AdviceWeaver") (T := T_AW) hx hb hts hin_AW hown hK hP (by decide) kc_AW (by decide) rfl 3 (by decide) (hts _ hw_282) (fun _ h9 => h9) rfl d_AW_sendAlongChain_19 ?_
        refine lv_iload_n hx hb d_AW_sendAlongChain_22 rfl (lv_at hl 1 rfl) ?_
        obtain ⟨hg5, h⟩ := xw_grdI h
        refine xw_aald23 (r := 48 + 4 * (4 * 2 + (c1_4).toNat)) hx hb hK hP (by omega) (kc_BodyArr 2 (by omega)) (by decide) hg5 (kc_BodyArrE 2 _ (by omega) (by omega)) d_AW_sendAlongChain_23 ?_
        obtain ⟨s6, r8, hc7, h⟩ := xw_bn2I h
        refine xw_callVi (C := "AdviceWeaver$Transformer") (T := T_TR) ⟨hx, hb, hml, hown, hts⟩ (c_TR_fits l D A ad cs Z tt fu s1 s6 ((i3_4).toNat) (by omega) (4 * 2 + (c1_4).toNat) (by omega) r8 hc7) (cwV 1 hts (gd_V hw_283 hw_284 hw_285 hw_185 hw_286) rfl rfl rfl (by decide +kernel) ⟨Nat.le_of_ble_eq_true rfl, Nat.le_of_ble_eq_true rfl⟩) hP hK hD hX hS (by omega) (kc_Tr ((i3_4).toNat) (by omega)) (by decide) rfl rfl hl.1 rfl (Nat.le_of_ble_eq_true rfl) d_AW_sendAlongChain_24 (fun H locs hP hS => ?_)
        refine xw_jnI (fun j => ∀ (sq : xw_S) (i2_76 : Int) (i3_76 : Int), j sq i2_76 i3_76 = some (sZ, r0) → ∀ (H : Heap) (locs : List Loc) (ls : Array Slot), va_P D vwCl (xw_ws kdC 100 ad cs Z sq) H → va_S A s.heap H locs → lv_has ls 4 [(0, .ref (ad 0)), (1, .int (xw_i c1_4)), (2, .int (xw_i i2_76)), (3, .int (xw_i i3_76))] → W p l e (headSpec w_AW_sendAlongChain ({ frames := 5, cells := 0, slots := 0, locals := 113 })).room s m [.ref (ad 0), .int (xw_i p1)].toArray below meth c H locs 0 0 (MQ below (va_Qi (fun r u => r = xw_i r0 ∧ u = sZ) (xw_H D vwCl A kdC 100 ad cs Z tt) A) [.ref (ad 0), .int (xw_i p1)].toArray s 0 0 A) (F0 m 76 ls [])) h ?_ ?_
        · intro s21 i2_76 i3_76 h H locs ls hP hS hl
          obtain ⟨v22, e23⟩ : ∃ z, z = i3_76 + 1 := ⟨_, rfl⟩
          replace h := xw_letI e23 h
          refine xw_iinc (lv' := [(3, .int (xw_i v22)), (0, .ref (ad 0)), (1, .int (xw_i c1_4)), (2, .int (xw_i i2_76))]) hx hb d_AW_sendAlongChain_76 hl (k := 3) rfl (by decide) (by rw [e23]; rfl) (fun ls hl => ?_)
          refine lv_goto (tgt := 4) hx hb d_AW_sendAlongChain_79 (by decide) ?_
          exact ih4 s21 i2_76 v22 h _ _ _ hP hS (lv_sub hl [1, 2, 3, 0] rfl)
        · intro j76 hj76 h
          obtain ⟨hg9, h⟩ := xw_grdI h
          refine xw_if_ne (tgt := 33) hx hb hg9 d_AW_sendAlongChain_27 (by decide) (fun hc10 => ?_) (fun hc10 => ?_)
          · replace h := xw_ifF hc10 h
            refine lv_aload_n hx hb d_AW_sendAlongChain_33 rfl (lv_at hl 0 rfl) ?_
            refine xw_getR (C := "AdviceWeaver") (T := T_AW) hx hb hts hin_AW hown hK hP (by decide) kc_AW (by decide) rfl 7 (by decide) (hts _ hw_287) (fun _ h9 => h9) rfl d_AW_sendAlongChain_34 ?_
            refine lv_aload_n hx hb d_AW_sendAlongChain_37 rfl (lv_at hl 0 rfl) ?_
            refine xw_getR (C := "AdviceWeaver") (T := T_AW) hx hb hts hin_AW hown hK hP (by decide) kc_AW (by decide) rfl 3 (by decide) (hts _ hw_282) (fun _ h9 => h9) rfl d_AW_sendAlongChain_38 ?_
            refine lv_iload_n hx hb d_AW_sendAlongChain_41 rfl (lv_at hl 1 rfl) ?_
            refine xw_aald23 (r := 48 + 4 * (4 * 2 + (c1_4).toNat)) hx hb hK hP (by omega) (kc_BodyArr 2 (by omega)) (by decide) hg5 (kc_BodyArrE 2 _ (by omega) (by omega)) d_AW_sendAlongChain_42 ?_
            refine lv_aload_n hx hb d_AW_sendAlongChain_43 rfl (lv_at hl 0 rfl) ?_
            refine xw_getR (C := "AdviceWeaver") (T := T_AW) hx hb hts hin_AW hown hK hP (by decide) kc_AW (by decide) rfl 4 (by decide) (hts _ hw_181) (fun _ h9 => h9) rfl d_AW_sendAlongChain_44 ?_
            refine lv_iload_n hx hb d_AW_sendAlongChain_47 rfl (lv_at hl 3 rfl) ?_
            refine xw_aald24 (r := 21 + ((i3_4).toNat)) hx hb hK hP (by decide) kc_TrArr (by decide) hg4 (kc_TrArrE _ (by omega)) d_AW_sendAlongChain_48 ?_
            refine xw_getI (C := "AdviceWeaver$Transformer") (T := T_TR) hx hb hts hin_TR hown hK hP (by omega) (kc_Tr ((i3_4).toNat) (by omega)) (by decide) rfl 0 (by decide) (hts _ hw_288) (fun _ h9 => h9) rfl d_AW_sendAlongChain_49 ?_
            refine lv_iload_n hx hb d_AW_sendAlongChain_52 rfl (lv_at hl 3 rfl) ?_
            obtain ⟨s11, r13, hc12, h⟩ := xw_bn2I h
            refine xw_callVi (C := "AdviceWeaver$Loom") (T := T_LM) ⟨hx, hb, hml, hown, hts⟩ (c_LM_transform l D A ad cs Z tt fu s6 s11 (4 * 2 + (c1_4).toNat) (by omega) (s6.1 (21 + ((i3_4).toNat)) 0) i3_4 r13 hc12) (cwV 3 hts (gd_V hw_289 hw_290 hw_291 hw_203 hw_292) rfl rfl rfl (by decide +kernel) ⟨Nat.le_of_ble_eq_true rfl, Nat.le_of_ble_eq_true rfl⟩) hP hK hD hX hS (by decide) kc_Loom (by decide) rfl rfl hl.1 rfl (Nat.le_of_ble_eq_true rfl) d_AW_sendAlongChain_53 (fun H locs hP hS => ?_)
            obtain ⟨hg14, h⟩ := xw_grdI h
            refine xw_if_eq (tgt := 65) hx hb hg14 d_AW_sendAlongChain_56 (by decide) (fun hc15 => ?_) (fun hc15 => ?_)
            · replace h := xw_ifT hc15 h
              refine lv_aload_n hx hb d_AW_sendAlongChain_65 rfl (lv_at hl 0 rfl) ?_
              refine xw_getR (C := "AdviceWeaver") (T := T_AW) hx hb hts hin_AW hown hK hP (by decide) kc_AW (by decide) rfl 5 (by decide) (hts _ hw_150) (fun _ h9 => h9) rfl d_AW_sendAlongChain_66 ?_
              refine lv_iload_n hx hb d_AW_sendAlongChain_69 rfl (lv_at hl 1 rfl) ?_
              refine lv_iconst (v := xw_i 3) hx hb d_AW_sendAlongChain_70 rfl ?_
              refine xw_imul hx hb d_AW_sendAlongChain_71 ?_
              refine lv_iload_n hx hb d_AW_sendAlongChain_72 rfl (lv_at hl 3 rfl) ?_
              refine xw_iadd hx hb d_AW_sendAlongChain_73 ?_
              refine lv_iconst (v := xw_i 1) hx hb d_AW_sendAlongChain_74 rfl ?_
              obtain ⟨hg16, h⟩ := xw_grdI h
              refine xw_zast hx hb hK hP hD hS (by decide) kc_failures (by decide) hg16 (by decide) d_AW_sendAlongChain_75 (fun s17 e18 H locs hP hS => ?_)
              replace h := xw_letI e18 h
              exact hj76 s17 i2_4 i3_4 h _ _ _ hP hS (lv_sub hl [0, 1, 2, 3] rfl)
            · replace h := xw_ifF hc15 h
              obtain ⟨v19, e20⟩ : ∃ z, z = i2_4 + 1 := ⟨_, rfl⟩
              replace h := xw_letI e20 h
              refine xw_iinc (lv' := [(2, .int (xw_i v19)), (0, .ref (ad 0)), (1, .int (xw_i c1_4)), (3, .int (xw_i i3_4))]) hx hb d_AW_sendAlongChain_59 hl (k := 2) rfl (by decide) (by rw [e20]; rfl) (fun ls hl => ?_)
              refine lv_goto (tgt := 76) hx hb d_AW_sendAlongChain_62 (by decide) ?_
              exact hj76 s11 v19 i3_4 h _ _ _ hP hS (lv_sub hl [1, 2, 0, 3] rfl)
          · replace h := xw_ifT hc10 h
            refine lv_goto (tgt := 76) hx hb d_AW_sendAlongChain_30 (by decide) ?_
            exact hj76 s6 i2_4 i3_4 h _ _ _ hP hS (lv_sub hl [0, 1, 2, 3] rfl)
  unfold f_AW_sendAlongChain at h
  refine lv_iconst (v := xw_i 0) hx hb d_AW_sendAlongChain_0 rfl ?_
  refine lv_istore_n hx hb d_AW_sendAlongChain_1 rfl hl (by decide) rfl (fun ls hl => ?_)
  refine lv_iconst (v := xw_i 0) hx hb d_AW_sendAlongChain_2 rfl ?_
  refine lv_istore_n hx hb d_AW_sendAlongChain_3 rfl hl (by decide) rfl (fun ls hl => ?_)
  refine xw_jnI (fun j => ∀ (sq : xw_S) (i2_82 : Int), j sq i2_82 = some (sZ, r0) → ∀ (H : Heap) (locs : List Loc) (ls : Array Slot), va_P D vwCl (xw_ws kdC 100 ad cs Z sq) H → va_S A s.heap H locs → lv_has ls 4 [(2, .int (xw_i i2_82))] → W p l e (headSpec w_AW_sendAlongChain ({ frames := 5, cells := 0, slots := 0, locals := 113 })).room s m [.ref (ad 0), .int (xw_i p1)].toArray below meth c H locs 0 0 (MQ below (va_Qi (fun r u => r = xw_i r0 ∧ u = sZ) (xw_H D vwCl A kdC 100 ad cs Z tt) A) [.ref (ad 0), .int (xw_i p1)].toArray s 0 0 A) (F0 m 82 ls [])) h ?_ ?_
  · intro s24 i2_82 h H locs ls hP hS hl
    refine lv_iload_n hx hb d_AW_sendAlongChain_82 rfl (lv_at hl 0 rfl) ?_
    exact xw_iretE hx hb hr hlk hP hK hD hX hS h d_AW_sendAlongChain_83
  · intro k82 hk82 h
    exact hlp4 p1 k82 hk82 fu s0 0 0 h _ _ _ hP hS (lv_sub hl [2, 3, 1, 0] rfl)
def lp_AW_weave_17 (fu : Nat) (k72 : xw_S → Int → Option (xw_S × Int)) : Nat → xw_S → Int → Int → Option (xw_S × Int)
  | 0, _, _, _ => none
  | n + 1, s6, i1_17, i2_17 =>
    xw_grd (xw_r i2_17 ∧ xw_r (s6.1 0 9)) (xw_if (s6.1 0 9 ≤ i2_17) (k72 s6 i1_17)
     (xw_grd ((0 ≤ i2_17 ∧ i2_17 < ((4 : Nat) : Int))) (xw_bnd (f_B_become fu s6 (4 * 2 + (i2_17).toNat) (4 * 1 + (i2_17).toNat)) (fun s10 => xw_bn2 (f_AW_sendAlongChain fu s10 i2_17) (fun s13 r15 => xw_let (i1_17 + r15) (fun v16 => xw_bn2 (f_FL_explore fu s13 (4 * 2 + (i2_17).toNat) 1) (fun s18 r20 => xw_let (i2_17 + 1) (fun v21 => lp_AW_weave_17 fu k72 n s18 v16 v21))))))))
def f_AW_weave (fu : Nat) (s0 : xw_S) : Option (xw_S × Int) :=
 xw_grd (xw_r (s0.1 0 9)) (xw_if (s0.1 0 9 = 0) (some (s0, -1))
 (xw_bnd (f_AW_forgetFailures fu s0) (fun s3 => xw_jn (fun (s23 : xw_S) (i1_72 : Int) => xw_let (xw_st s23 0 11 1) (fun s24 => some (s24, i1_72)))
 (fun (k72 : xw_S → Int → Option (xw_S × Int)) => lp_AW_weave_17 fu k72 fu s3 0 0))))
set_option maxRecDepth 100000 in
set_option maxHeartbeats 4000000 in
theorem c_AW_weave (l : Launch) (D : va_G) (A : Nat → Prop) (ad : Nat → Nat) (cs : Nat → ClassId) (Z : va_W) (tt : Nat → Nat) (fu : Nat) (s0 sZ : xw_S) (r0 : Int) (h : f_AW_weave fu s0 = some (sZ, r0)) : Met l y_AW_weave w_AW_weave ({ frames := 6, cells := 0, slots := 0, locals := 136 }) (va_Pc [.ref (ad 0)] (xw_H D vwCl A kdC 100 ad cs Z tt s0)) (va_Qi (fun r u => r = xw_i r0 ∧ u = sZ) (xw_H D vwCl A kdC 100 ad cs Z tt) A) 0 0 A := by
  refine Met.ofW (cc := b_AW_weave) (maxL := 3) (ret := (some .int)) (by decide) rfl ?_
  intro p e s m args below meth c s₁ B hml hv
  obtain ⟨rfl, hP, hK, hD, hX⟩ := hv
  have hx := B.exec
  have hb := B.bytes
  have hr := B.returns
  have hts0 := atoms_spec (ws := w_AW_weave) B.pre
  have hts := fun w (hw : w ∈ wAll) => hts0 w (List.mem_cons_of_mem _ hw)
  have hown : s.vm.findClass "AdviceWeaver" = some m.cls := findClass_of_methodNamed B.named
  have hlk := B.notSynchronized
  clear hts0 B
  have hS : va_S A s.heap s.heap [] := va_S.rf
  have hl := lv_entry [.ref (ad 0)] (n := 3) (Nat.le_of_ble_eq_true rfl)
  rw [lg_entry_eq]
  generalize (lg_sl [.ref (ad 0)] ++ List.replicate (3 - (lg_sl [.ref (ad 0)]).length) Slot.unset).toArray = ls at hl ⊢
  have hl : lv_has ls 3 [(0, .ref (ad 0))] := hl
  have hlp17 : ∀ (k72 : xw_S → Int → Option (xw_S × Int)) (hk72 : ∀ (sq : xw_S) (i1_72 : Int), k72 sq i1_72 = some (sZ, r0) → ∀ (H : Heap) (locs : List Loc) (ls : Array Slot), va_P D vwCl (xw_ws kdC 100 ad cs Z sq) H → va_S A s.heap H locs → lv_has ls 3 [(0, .ref (ad 0)), (1, .int (xw_i i1_72))] → W p l e (headSpec w_AW_weave ({ frames := 6, cells := 0, slots := 0, locals := 136 })).room s m [.ref (ad 0)].toArray below meth c H locs 0 0 (MQ below (va_Qi (fun r u => r = xw_i r0 ∧ u = sZ) (xw_H D vwCl A kdC 100 ad cs Z tt) A) [.ref (ad 0)].toArray s 0 0 A) (F0 m 72 ls [])) (n : Nat), ∀ (sq : xw_S) (i1_17 : Int) (i2_17 : Int), lp_AW_weave_17 fu k72 n sq i1_17 i2_17 = some (sZ, r0) → ∀ (H : Heap) (locs : List Loc) (ls : Array Slot), va_P D vwCl (xw_ws kdC 100 ad cs Z sq) H → va_S A s.heap H locs → lv_has ls 3 [(0, .ref (ad 0)), (1, .int (xw_i i1_17)), (2, .int (xw_i i2_17))] → W p l e (headSpec w_AW_weave ({ frames := 6, cells := 0, slots := 0, locals := 136 })).room s m [.ref (ad 0)].toArray below meth c H locs 0 0 (MQ below (va_Qi (fun r u => r = xw_i r0 ∧ u = sZ) (xw_H D vwCl A kdC 100 ad cs Z tt) A) [.ref (ad 0)].toArray s 0 0 A) (F0 m 17 ls []) := by
    intro k72 hk72 n
    induction n with
    | zero =>
      intro sq i1_17 i2_17 h
      cases (show (none : Option (xw_S × Int)) = some (sZ, r0) from h)
    | succ n ih17 =>
      intro s6 i1_17 i2_17 h H locs ls hP hS hl
      unfold lp_AW_weave_17 at h
      refine lv_iload_n hx hb d_AW_weave_17 rfl (lv_at hl 2 rfl) ?_
      refine lv_aload_n hx hb d_AW_weave_18 rfl (lv_at hl 0 rfl) ?_
      refine xw_getI (C := "AdviceWeaver") (T := T_AW) hx hb hts hin_AW hown hK hP (by decide) kc_AW (by decide) rfl 9 (by decide) (hts _ hw_170) (fun _ h9 => h9) rfl d_AW_weave_19 ?_
      obtain ⟨hg7, h⟩ := xw_grdI h
      refine xw_icmp_ge (tgt := 72) hx hb hg7.1 hg7.2 d_AW_weave_22 (by decide) (fun hc8 => ?_) (fun hc8 => ?_)
      · replace h := xw_ifT hc8 h
        exact hk72 s6 i1_17 h _ _ _ hP hS (lv_sub hl [0, 1] rfl)
      · replace h := xw_ifF hc8 h
        refine lv_aload_n hx hb d_AW_weave_25 rfl (lv_at hl 0 rfl) ?_
        refine xw_getR (C := "AdviceWeaver") (T := T_AW) hx hb hts hin_AW hown hK hP (by decide) kc_AW (by decide) rfl 3 (by decide) (hts _ hw_282) (fun _ h9 => h9) rfl d_AW_weave_26 ?_
        refine lv_iload_n hx hb d_AW_weave_29 rfl (lv_at hl 2 rfl) ?_
        obtain ⟨hg9, h⟩ := xw_grdI h
        refine xw_aald23 (r := 48 + 4 * (4 * 2 + (i2_17).toNat)) hx hb hK hP (by omega) (kc_BodyArr 2 (by omega)) (by decide) hg9 (kc_BodyArrE 2 _ (by omega) (by omega)) d_AW_weave_30 ?_
        refine lv_aload_n hx hb d_AW_weave_31 rfl (lv_at hl 0 rfl) ?_
        refine xw_getR (C := "AdviceWeaver") (T := T_AW) hx hb hts hin_AW hown hK hP (by decide) kc_AW (by decide) rfl 2 (by decide) (hts _ hw_165) (fun _ h9 => h9) rfl d_AW_weave_32 ?_
        refine lv_iload_n hx hb d_AW_weave_35 rfl (lv_at hl 2 rfl) ?_
        refine xw_aald23 (r := 48 + 4 * (4 * 1 + (i2_17).toNat)) hx hb hK hP (by omega) (kc_BodyArr 1 (by omega)) (by decide) hg9 (kc_BodyArrE 1 _ (by omega) (by omega)) d_AW_weave_36 ?_
        obtain ⟨s10, hc11, h⟩ := xw_bndI h
        refine xw_callVv (C := "AdviceWeaver$Body") (T := T_B) ⟨hx, hb, hml, hown, hts⟩ (c_B_become l D A ad cs Z tt fu s6 s10 (4 * 2 + (i2_17).toNat) (by omega) (4 * 1 + (i2_17).toNat) (by omega) hc11) (cwV 1 hts (gd_V hw_166 hw_167 hw_168 hw_25 hw_169) rfl rfl rfl (by decide +kernel) ⟨Nat.le_of_ble_eq_true rfl, Nat.le_of_ble_eq_true rfl⟩) hP hK hD hX hS (by omega) (kc_Body (4 * 2 + (i2_17).toNat) (by omega)) (by decide) rfl rfl hl.1 rfl (Nat.le_of_ble_eq_true rfl) d_AW_weave_37 (fun H locs hP hS => ?_)
        refine lv_iload_n hx hb d_AW_weave_40 rfl (lv_at hl 1 rfl) ?_
        refine lv_aload_n hx hb d_AW_weave_41 rfl (lv_at hl 0 rfl) ?_
        refine lv_iload_n hx hb d_AW_weave_42 rfl (lv_at hl 2 rfl) ?_
        obtain ⟨s13, r15, hc14, h⟩ := xw_bn2I h
        refine xw_callVi (C := "AdviceWeaver") (T := T_AW) ⟨hx, hb, hml, hown, hts⟩ (c_AW_sendAlongChain l D A ad cs Z tt fu s10 s13 i2_17 r15 hc14) (cwV 1 hts (gd_V hw_293 hw_294 hw_295 hw_175 hw_296) rfl rfl rfl (by decide +kernel) ⟨Nat.le_of_ble_eq_true rfl, Nat.le_of_ble_eq_true rfl⟩) hP hK hD hX hS (by decide) kc_AW (by decide) rfl rfl hl.1 rfl (Nat.le_of_ble_eq_true rfl) d_AW_weave_43 (fun H locs hP hS => ?_)
        refine xw_iadd hx hb d_AW_weave_46 ?_
        refine xw_topi (fun v16 e17 => ?_)
        replace h := xw_letI e17 h
        refine lv_istore_n hx hb d_AW_weave_47 rfl hl (by decide) rfl (fun ls hl => ?_)
        refine lv_aload_n hx hb d_AW_weave_48 rfl (lv_at hl 1 rfl) ?_
        refine xw_getR (C := "AdviceWeaver") (T := T_AW) hx hb hts hin_AW hown hK hP (by decide) kc_AW (by decide) rfl 6 (by decide) (hts _ hw_160) (fun _ h9 => h9) rfl d_AW_weave_49 ?_
        refine lv_aload_n hx hb d_AW_weave_52 rfl (lv_at hl 1 rfl) ?_
        refine xw_getR (C := "AdviceWeaver") (T := T_AW) hx hb hts hin_AW hown hK hP (by decide) kc_AW (by decide) rfl 3 (by decide) (hts _ hw_282) (fun _ h9 => h9) rfl d_AW_weave_53 ?_
        refine lv_iload_n hx hb d_AW_weave_56 rfl (lv_at hl 2 rfl) ?_
        refine xw_aald23 (r := 48 + 4 * (4 * 2 + (i2_17).toNat)) hx hb hK hP (by omega) (kc_BodyArr 2 (by omega)) (by decide) hg9 (kc_BodyArrE 2 _ (by omega) (by omega)) d_AW_weave_57 ?_
        refine lv_aload_n hx hb d_AW_weave_58 rfl (lv_at hl 1 rfl) ?_
        refine xw_getR (C := "AdviceWeaver") (T := T_AW) hx hb hts hin_AW hown hK hP (by decide) kc_AW (by decide) rfl 2 (by decide) (hts _ hw_165) (fun _ h9 => h9) rfl d_AW_weave_59 ?_
        obtain ⟨s18, r20, hc19, h⟩ := xw_bn2I h
        refine xw_callVi (C := "AdviceWeaver$Flow") (T := T_FL) ⟨hx, hb, hml, hown, hts⟩ (c_FL_explore l D A ad cs Z tt fu s13 s18 (4 * 2 + (i2_17).toNat) (by omega) 1 (by omega) r20 hc19) (cwV 2 hts (gd_V hw_161 hw_162 hw_163 hw_121 hw_164) rfl rfl rfl (by decide +kernel) ⟨Nat.le_of_ble_eq_true rfl, Nat.le_of_ble_eq_true rfl⟩) hP hK hD hX hS (by decide) kc_Flow (by decide) rfl rfl hl.1 rfl (Nat.le_of_ble_eq_true rfl) d_AW_weave_62 (fun H locs hP hS => ?_)
        refine lv_pop hx hb d_AW_weave_65 rfl ?_
        obtain ⟨v21, e22⟩ : ∃ z, z = i2_17 + 1 := ⟨_, rfl⟩
        replace h := xw_letI e22 h
        refine xw_iinc (lv' := [(2, .int (xw_i v21)), (1, .int (xw_i v16)), (0, .ref (ad 0))]) hx hb d_AW_weave_66 hl (k := 2) rfl (by decide) (by rw [e22]; rfl) (fun ls hl => ?_)
        refine lv_goto (tgt := 17) hx hb d_AW_weave_69 (by decide) ?_
        exact ih17 s18 v16 v21 h _ _ _ hP hS (lv_sub hl [2, 1, 0] rfl)
  unfold f_AW_weave at h
  refine lv_aload_n hx hb d_AW_weave_0 rfl (lv_at hl 0 rfl) ?_
  refine xw_getI (C := "AdviceWeaver") (T := T_AW) hx hb hts hin_AW hown hK hP (by decide) kc_AW (by decide) rfl 9 (by decide) (hts _ hw_170) (fun _ h9 => h9) rfl d_AW_weave_1 ?_
  obtain ⟨hg1, h⟩ := xw_grdI h
  refine xw_if_ne (tgt := 9) hx hb hg1 d_AW_weave_4 (by decide) (fun hc2 => ?_) (fun hc2 => ?_)
  · replace h := xw_ifF hc2 h
    refine lv_aload_n hx hb d_AW_weave_9 rfl (lv_at hl 0 rfl) ?_
    obtain ⟨s3, hc4, h⟩ := xw_bndI h
    refine xw_callVv (C := "AdviceWeaver") (T := T_AW) ⟨hx, hb, hml, hown, hts⟩ (c_AW_forgetFailures l D A ad cs Z tt fu s0 s3 hc4) (cwV 0 hts (gd_V hw_172 hw_173 hw_174 hw_175 hw_176) rfl rfl rfl (by decide +kernel) ⟨Nat.le_of_ble_eq_true rfl, Nat.le_of_ble_eq_true rfl⟩) hP hK hD hX hS (by decide) kc_AW (by decide) rfl rfl hl.1 rfl (Nat.le_of_ble_eq_true rfl) d_AW_weave_10 (fun H locs hP hS => ?_)
    refine lv_iconst (v := xw_i 0) hx hb d_AW_weave_13 rfl ?_
    refine lv_istore_n hx hb d_AW_weave_14 rfl hl (by decide) rfl (fun ls hl => ?_)
    refine lv_iconst (v := xw_i 0) hx hb d_AW_weave_15 rfl ?_
    refine lv_istore_n hx hb d_AW_weave_16 rfl hl (by decide) rfl (fun ls hl => ?_)
    refine xw_jnI (fun j => ∀ (sq : xw_S) (i1_72 : Int), j sq i1_72 = some (sZ, r0) → ∀ (H : Heap) (locs : List Loc) (ls : Array Slot), va_P D vwCl (xw_ws kdC 100 ad cs Z sq) H → va_S A s.heap H locs → lv_has ls 3 [(0, .ref (ad 0)), (1, .int (xw_i i1_72))] → W p l e (headSpec w_AW_weave ({ frames := 6, cells := 0, slots := 0, locals := 136 })).room s m [.ref (ad 0)].toArray below meth c H locs 0 0 (MQ below (va_Qi (fun r u => r = xw_i r0 ∧ u = sZ) (xw_H D vwCl A kdC 100 ad cs Z tt) A) [.ref (ad 0)].toArray s 0 0 A) (F0 m 72 ls [])) h ?_ ?_
    · intro s23 i1_72 h H locs ls hP hS hl
      refine lv_aload_n hx hb d_AW_weave_72 rfl (lv_at hl 0 rfl) ?_
      refine lv_iconst (v := xw_i 1) hx hb d_AW_weave_73 rfl ?_
      refine xw_putB (C := "AdviceWeaver") (T := T_AW) hx hb hts hin_AW ty_AW ty_AW_ok nm_AW hown hK hP hD hS (by decide) kc_AW (by decide) rfl 11 (by decide) (hts _ hw_171) (fun _ h9 => h9) rfl (by decide +kernel) rfl d_AW_weave_74 (by decide) (fun s24 e25 H locs hP hS => ?_)
      replace h := xw_letI e25 h
      refine lv_iload_n hx hb d_AW_weave_77 rfl (lv_at hl 1 rfl) ?_
      exact xw_iretE hx hb hr hlk hP hK hD hX hS h d_AW_weave_78
    · intro k72 hk72 h
      exact hlp17 k72 hk72 fu s3 0 0 h _ _ _ hP hS (lv_sub hl [2, 1, 0] rfl)
  · replace h := xw_ifT hc2 h
    refine lv_iconst (v := xw_i (-1)) hx hb d_AW_weave_7 rfl ?_
    exact xw_iretE hx hb hr hlk hP hK hD hX hS h d_AW_weave_8
def f_AW_failed (fu : Nat) (s0 : xw_S) (p1 : Int) (p2 : Int) : Option (xw_S × Int) :=
 xw_grd (xw_r p1) (xw_if (p1 < 0) (some (s0, 0))
 (xw_if (4 ≤ p1) (some (s0, 0))
 (xw_grd (xw_r p2) (xw_if (p2 < 0) (some (s0, 0))
 (xw_if (p2 < 3) (xw_grd ((0 ≤ (p1 * 3) + p2 ∧ (p1 * 3) + p2 < ((12 : Nat) : Int))) (xw_grd ((s0.1 7 ((p1 * 3) + p2).toNat = 0 ∨ s0.1 7 ((p1 * 3) + p2).toNat = 1)) (some (s0, s0.1 7 ((p1 * 3) + p2).toNat))))
 (some (s0, 0)))))))
set_option maxRecDepth 100000 in
set_option maxHeartbeats 4000000 in
theorem c_AW_failed (l : Launch) (D : va_G) (A : Nat → Prop) (ad : Nat → Nat) (cs : Nat → ClassId) (Z : va_W) (tt : Nat → Nat) (fu : Nat) (s0 sZ : xw_S) (p1 : Int) (p2 : Int) (r0 : Int) (h : f_AW_failed fu s0 p1 p2 = some (sZ, r0)) : Met l y_AW_failed w_AW_failed ({ frames := 0, cells := 0, slots := 0, locals := 0 }) (va_Pc [.ref (ad 0), .int (xw_i p1), .int (xw_i p2)] (xw_H D vwCl A kdC 100 ad cs Z tt s0)) (va_Qi (fun r u => r = xw_i r0 ∧ u = sZ) (xw_H D vwCl A kdC 100 ad cs Z tt) A) 0 0 A := by
  refine Met.ofW (cc := b_AW_failed) (maxL := 3) (ret := (some .boolean)) (by decide) rfl ?_
  intro p e s m args below meth c s₁ B hml hv
  obtain ⟨rfl, hP, hK, hD, hX⟩ := hv
  have hx := B.exec
  have hb := B.bytes
  have hr := B.returns
  have hts0 := atoms_spec (ws := w_AW_failed) B.pre
  have hts := fun w (hw : w ∈ wAll) => hts0 w (List.mem_cons_of_mem _ hw)
  have hown : s.vm.findClass "AdviceWeaver" = some m.cls := findClass_of_methodNamed B.named
  have hlk := B.notSynchronized
  clear hts0 B
  have hS : va_S A s.heap s.heap [] := va_S.rf
  have hl := lv_entry [.ref (ad 0), .int (xw_i p1), .int (xw_i p2)] (n := 3) (Nat.le_of_ble_eq_true rfl)
  rw [lg_entry_eq]
  generalize (lg_sl [.ref (ad 0), .int (xw_i p1), .int (xw_i p2)] ++ List.replicate (3 - (lg_sl [.ref (ad 0), .int (xw_i p1), .int (xw_i p2)]).length) Slot.unset).toArray = ls at hl ⊢
  have hl : lv_has ls 3 [(0, .ref (ad 0)), (1, .int (xw_i p1)), (2, .int (xw_i p2))] := hl
  unfold f_AW_failed at h
  refine lv_iload_n hx hb d_AW_failed_0 rfl (lv_at hl 1 rfl) ?_
  obtain ⟨hg1, h⟩ := xw_grdI h
  refine xw_if_lt (tgt := 18) hx hb hg1 d_AW_failed_1 (by decide) (fun hc2 => ?_) (fun hc2 => ?_)
  · replace h := xw_ifT hc2 h
    refine lv_iconst (v := xw_i 0) hx hb d_AW_failed_18 rfl ?_
    exact xw_zretE hx hb hr hlk hP hK hD hX hS h (by decide) d_AW_failed_19
  · replace h := xw_ifF hc2 h
    refine lv_iload_n hx hb d_AW_failed_4 rfl (lv_at hl 1 rfl) ?_
    refine lv_iconst (v := xw_i 4) hx hb d_AW_failed_5 rfl ?_
    refine xw_icmp_ge (tgt := 18) hx hb hg1 (by decide) d_AW_failed_6 (by decide) (fun hc3 => ?_) (fun hc3 => ?_)
    · replace h := xw_ifT hc3 h
      refine lv_iconst (v := xw_i 0) hx hb d_AW_failed_18 rfl ?_
      exact xw_zretE hx hb hr hlk hP hK hD hX hS h (by decide) d_AW_failed_19
    · replace h := xw_ifF hc3 h
      refine lv_iload_n hx hb d_AW_failed_9 rfl (lv_at hl 2 rfl) ?_
      obtain ⟨hg4, h⟩ := xw_grdI h
      refine xw_if_lt (tgt := 18) hx hb hg4 d_AW_failed_10 (by decide) (fun hc5 => ?_) (fun hc5 => ?_)
      · replace h := xw_ifT hc5 h
        refine lv_iconst (v := xw_i 0) hx hb d_AW_failed_18 rfl ?_
        exact xw_zretE hx hb hr hlk hP hK hD hX hS h (by decide) d_AW_failed_19
      · replace h := xw_ifF hc5 h
        refine lv_iload_n hx hb d_AW_failed_13 rfl (lv_at hl 2 rfl) ?_
        refine lv_iconst (v := xw_i 3) hx hb d_AW_failed_14 rfl ?_
        refine xw_icmp_lt (tgt := 20) hx hb hg4 (by decide) d_AW_failed_15 (by decide) (fun hc6 => ?_) (fun hc6 => ?_)
        · replace h := xw_ifT hc6 h
          refine lv_aload_n hx hb d_AW_failed_20 rfl (lv_at hl 0 rfl) ?_
          refine xw_getR (C := "AdviceWeaver") (T := T_AW) hx hb hts hin_AW hown hK hP (by decide) kc_AW (by decide) rfl 5 (by decide) (hts _ hw_150) (fun _ h9 => h9) rfl d_AW_failed_21 ?_
          refine lv_iload_n hx hb d_AW_failed_24 rfl (lv_at hl 1 rfl) ?_
          refine lv_iconst (v := xw_i 3) hx hb d_AW_failed_25 rfl ?_
          refine xw_imul hx hb d_AW_failed_26 ?_
          refine lv_iload_n hx hb d_AW_failed_27 rfl (lv_at hl 2 rfl) ?_
          refine xw_iadd hx hb d_AW_failed_28 ?_
          obtain ⟨hg7, h⟩ := xw_grdI h
          refine xw_zald hx hb hK hP (by decide) kc_failures (by decide) hg7 d_AW_failed_29 ?_
          obtain ⟨hg8, h⟩ := xw_grdI h
          exact xw_zretE hx hb hr hlk hP hK hD hX hS h hg8 d_AW_failed_30
        · replace h := xw_ifF hc6 h
          refine lv_iconst (v := xw_i 0) hx hb d_AW_failed_18 rfl ?_
          exact xw_zretE hx hb hr hlk hP hK hD hX hS h (by decide) d_AW_failed_19
def f_AW_bodyOf (fu : Nat) (s0 : xw_S) (p1 : Int) (p2 : Int) : Option (xw_S × Option Nat) :=
 xw_grd (xw_r p2) (xw_if (p2 < 0) (some (s0, none))
 (xw_grd (xw_r (s0.1 0 9)) (xw_if (s0.1 0 9 ≤ p2) (some (s0, none))
 (xw_jn (fun (s9 : xw_S) => xw_grd (xw_r p1) (xw_if (p1 = 0) (xw_grd ((0 ≤ p2 ∧ p2 < ((4 : Nat) : Int))) (some (s9, some (4 * 1 + (p2).toNat))))
 (xw_grd ((0 ≤ p2 ∧ p2 < ((4 : Nat) : Int))) (some (s9, some (4 * 2 + (p2).toNat))))))
 (fun (j25 : xw_S → Option (xw_S × Option Nat)) => xw_grd (xw_r p1) (xw_if (p1 = 0) (j25 s0)
 (xw_grd (xw_r (s0.1 0 11)) (xw_if (s0.1 0 11 = 0) (some (s0, none))
 (j25 s0)))))))))
set_option maxRecDepth 100000 in
set_option maxHeartbeats 4000000 in
theorem c_AW_bodyOf (l : Launch) (D : va_G) (A : Nat → Prop) (ad : Nat → Nat) (cs : Nat → ClassId) (Z : va_W) (tt : Nat → Nat) (fu : Nat) (s0 sZ : xw_S) (p1 : Int) (p2 : Int) (r0 : Option Nat) (h : f_AW_bodyOf fu s0 p1 p2 = some (sZ, r0)) : Met l y_AW_bodyOf w_AW_bodyOf ({ frames := 0, cells := 0, slots := 0, locals := 0 }) (va_Pc [.ref (ad 0), .int (xw_i p1), .int (xw_i p2)] (xw_H D vwCl A kdC 100 ad cs Z tt s0)) (va_Qq (fun r u => r = (r0.map (fun b => 48 + 4 * b)).map ad ∧ u = sZ) (xw_H D vwCl A kdC 100 ad cs Z tt) A) 0 0 A := by
  refine Met.ofW (cc := b_AW_bodyOf) (maxL := 3) (ret := (some (.object "AdviceWeaver$Body"))) (by decide) rfl ?_
  intro p e s m args below meth c s₁ B hml hv
  obtain ⟨rfl, hP, hK, hD, hX⟩ := hv
  have hx := B.exec
  have hb := B.bytes
  have hr := B.returns
  have hts0 := atoms_spec (ws := w_AW_bodyOf) B.pre
  have hts := fun w (hw : w ∈ wAll) => hts0 w (List.mem_cons_of_mem _ hw)
  have hown : s.vm.findClass "AdviceWeaver" = some m.cls := findClass_of_methodNamed B.named
  have hlk := B.notSynchronized
  clear hts0 B
  have hS : va_S A s.heap s.heap [] := va_S.rf
  have hl := lv_entry [.ref (ad 0), .int (xw_i p1), .int (xw_i p2)] (n := 3) (Nat.le_of_ble_eq_true rfl)
  rw [lg_entry_eq]
  generalize (lg_sl [.ref (ad 0), .int (xw_i p1), .int (xw_i p2)] ++ List.replicate (3 - (lg_sl [.ref (ad 0), .int (xw_i p1), .int (xw_i p2)]).length) Slot.unset).toArray = ls at hl ⊢
  have hl : lv_has ls 3 [(0, .ref (ad 0)), (1, .int (xw_i p1)), (2, .int (xw_i p2))] := hl
  unfold f_AW_bodyOf at h
  refine lv_iload_n hx hb d_AW_bodyOf_0 rfl (lv_at hl 2 rfl) ?_
  obtain ⟨hg1, h⟩ := xw_grdI h
  refine xw_if_lt (tgt := 23) hx hb hg1 d_AW_bodyOf_1 (by decide) (fun hc2 => ?_) (fun hc2 => ?_)
  · replace h := xw_ifT hc2 h
    refine lv_null hx hb d_AW_bodyOf_23 ?_
    exact xw_qretE (o := none) (g := fun b => 48 + 4 * b) hx hb hr hlk hP hK hD hX hS h d_AW_bodyOf_24
  · replace h := xw_ifF hc2 h
    refine lv_iload_n hx hb d_AW_bodyOf_4 rfl (lv_at hl 2 rfl) ?_
    refine lv_aload_n hx hb d_AW_bodyOf_5 rfl (lv_at hl 0 rfl) ?_
    refine xw_getI (C := "AdviceWeaver") (T := T_AW) hx hb hts hin_AW hown hK hP (by decide) kc_AW (by decide) rfl 9 (by decide) (hts _ hw_170) (fun _ h9 => h9) rfl d_AW_bodyOf_6 ?_
    obtain ⟨hg3, h⟩ := xw_grdI h
    refine xw_icmp_ge (tgt := 23) hx hb hg1 hg3 d_AW_bodyOf_9 (by decide) (fun hc4 => ?_) (fun hc4 => ?_)
    · replace h := xw_ifT hc4 h
      refine lv_null hx hb d_AW_bodyOf_23 ?_
      exact xw_qretE (o := none) (g := fun b => 48 + 4 * b) hx hb hr hlk hP hK hD hX hS h d_AW_bodyOf_24
    · replace h := xw_ifF hc4 h
      refine lv_iload_n hx hb d_AW_bodyOf_12 rfl (lv_at hl 1 rfl) ?_
      refine xw_jnI (fun j => ∀ (sq : xw_S), j sq = some (sZ, r0) → ∀ (H : Heap) (locs : List Loc) (ls : Array Slot), va_P D vwCl (xw_ws kdC 100 ad cs Z sq) H → va_S A s.heap H locs → lv_has ls 3 [(0, .ref (ad 0)), (1, .int (xw_i p1)), (2, .int (xw_i p2))] → W p l e (headSpec w_AW_bodyOf ({ frames := 0, cells := 0, slots := 0, locals := 0 })).room s m [.ref (ad 0), .int (xw_i p1), .int (xw_i p2)].toArray below meth c H locs 0 0 (MQ below (va_Qq (fun r u => r = (r0.map (fun b => 48 + 4 * b)).map ad ∧ u = sZ) (xw_H D vwCl A kdC 100 ad cs Z tt) A) [.ref (ad 0), .int (xw_i p1), .int (xw_i p2)].toArray s 0 0 A) (F0 m 25 ls [])) h ?_ ?_
      · intro s9 h H locs ls hP hS hl
        refine lv_iload_n hx hb d_AW_bodyOf_25 rfl (lv_at hl 1 rfl) ?_
        obtain ⟨hg10, h⟩ := xw_grdI h
        refine xw_if_eq (tgt := 38) hx hb hg10 d_AW_bodyOf_26 (by decide) (fun hc11 => ?_) (fun hc11 => ?_)
        · replace h := xw_ifT hc11 h
          refine lv_aload_n hx hb d_AW_bodyOf_38 rfl (lv_at hl 0 rfl) ?_
          refine xw_getR (C := "AdviceWeaver") (T := T_AW) hx hb hts hin_AW hown hK hP (by decide) kc_AW (by decide) rfl 2 (by decide) (hts _ hw_165) (fun _ h9 => h9) rfl d_AW_bodyOf_39 ?_
          refine lv_iload_n hx hb d_AW_bodyOf_42 rfl (lv_at hl 2 rfl) ?_
          obtain ⟨hg12, h⟩ := xw_grdI h
          refine xw_aald23 (r := 48 + 4 * (4 * 1 + (p2).toNat)) hx hb hK hP (by omega) (kc_BodyArr 1 (by omega)) (by decide) hg12 (kc_BodyArrE 1 _ (by omega) (by omega)) d_AW_bodyOf_43 ?_
          exact xw_qretE (o := some (4 * 1 + (p2).toNat)) (g := fun b => 48 + 4 * b) hx hb hr hlk hP hK hD hX hS h d_AW_bodyOf_44
        · replace h := xw_ifF hc11 h
          refine lv_aload_n hx hb d_AW_bodyOf_29 rfl (lv_at hl 0 rfl) ?_
          refine xw_getR (C := "AdviceWeaver") (T := T_AW) hx hb hts hin_AW hown hK hP (by decide) kc_AW (by decide) rfl 3 (by decide) (hts _ hw_282) (fun _ h9 => h9) rfl d_AW_bodyOf_30 ?_
          refine lv_iload_n hx hb d_AW_bodyOf_33 rfl (lv_at hl 2 rfl) ?_
          obtain ⟨hg13, h⟩ := xw_grdI h
          refine xw_aald23 (r := 48 + 4 * (4 * 2 + (p2).toNat)) hx hb hK hP (by omega) (kc_BodyArr 2 (by omega)) (by decide) hg13 (kc_BodyArrE 2 _ (by omega) (by omega)) d_AW_bodyOf_34 ?_
          refine lv_goto (tgt := 44) hx hb d_AW_bodyOf_35 (by decide) ?_
          exact xw_qretE (o := some (4 * 2 + (p2).toNat)) (g := fun b => 48 + 4 * b) hx hb hr hlk hP hK hD hX hS h d_AW_bodyOf_44
      · intro j25 hj25 h
        obtain ⟨hg5, h⟩ := xw_grdI h
        refine xw_if_eq (tgt := 25) hx hb hg5 d_AW_bodyOf_13 (by decide) (fun hc6 => ?_) (fun hc6 => ?_)
        · replace h := xw_ifT hc6 h
          exact hj25 s0 h _ _ _ hP hS (lv_sub hl [0, 1, 2] rfl)
        · replace h := xw_ifF hc6 h
          refine lv_aload_n hx hb d_AW_bodyOf_16 rfl (lv_at hl 0 rfl) ?_
          refine xw_getI (C := "AdviceWeaver") (T := T_AW) hx hb hts hin_AW hown hK hP (by decide) kc_AW (by decide) rfl 11 (by decide) (hts _ hw_171) (fun _ h9 => h9) rfl d_AW_bodyOf_17 ?_
          obtain ⟨hg7, h⟩ := xw_grdI h
          refine xw_if_ne (tgt := 25) hx hb hg7 d_AW_bodyOf_20 (by decide) (fun hc8 => ?_) (fun hc8 => ?_)
          · replace h := xw_ifF hc8 h
            exact hj25 s0 h _ _ _ hP hS (lv_sub hl [0, 1, 2] rfl)
          · replace h := xw_ifT hc8 h
            refine lv_null hx hb d_AW_bodyOf_23 ?_
            exact xw_qretE (o := none) (g := fun b => 48 + 4 * b) hx hb hr hlk hP hK hD hX hS h d_AW_bodyOf_24
def f_AW_run (fu : Nat) (s0 : xw_S) (p1 : Int) (p2 : Int) (p3 : Int) (p4 : Int) (p5 : Int) : Option (xw_S × Int) :=
 xw_bn2 (f_AW_bodyOf fu s0 p1 p2) (fun s1 r3 => xw_mt r3 (some (s1, -1))
 (fun b4 => xw_grd (b4 < 13) (xw_grd (xw_r p5) (xw_if (p5 < 1) (some (s1, -1))
 (xw_if (p5 ≤ 1000) (xw_jn (fun (s11 : xw_S) (g0_44 : Nat) => xw_bn2 (f_MC_execute fu s11 g0_44 p2 p3 p4 p5) (fun s12 r14 => some (s12, r14)))
 (fun (j44 : xw_S → Nat → Option (xw_S × Int)) => xw_grd (xw_r p1) (xw_if (p1 = 0) (j44 s1 1)
 (j44 s1 2))))
 (some (s1, -1)))))))
set_option maxRecDepth 100000 in
set_option maxHeartbeats 4000000 in
theorem c_AW_run (l : Launch) (D : va_G) (A : Nat → Prop) (ad : Nat → Nat) (cs : Nat → ClassId) (Z : va_W) (tt : Nat → Nat) (fu : Nat) (s0 sZ : xw_S) (p1 : Int) (p2 : Int) (p3 : Int) (p4 : Int) (p5 : Int) (r0 : Int) (h : f_AW_run fu s0 p1 p2 p3 p4 p5 = some (sZ, r0)) : Met l y_AW_run w_AW_run ({ frames := 6, cells := 0, slots := 0, locals := 145 }) (va_Pc [.ref (ad 0), .int (xw_i p1), .int (xw_i p2), .int (xw_i p3), .int (xw_i p4), .int (xw_i p5)] (xw_H D vwCl A kdC 100 ad cs Z tt s0)) (va_Qi (fun r u => r = xw_i r0 ∧ u = sZ) (xw_H D vwCl A kdC 100 ad cs Z tt) A) 0 0 A := by
  refine Met.ofW (cc := b_AW_run) (maxL := 6) (ret := (some .int)) (by decide) rfl ?_
  intro p e s m args below meth c s₁ B hml hv
  obtain ⟨rfl, hP, hK, hD, hX⟩ := hv
  have hx := B.exec
  have hb := B.bytes
  have hr := B.returns
  have hts0 := atoms_spec (ws := w_AW_run) B.pre
  have hts := fun w (hw : w ∈ wAll) => hts0 w (List.mem_cons_of_mem _ hw)
  have hown : s.vm.findClass "AdviceWeaver" = some m.cls := findClass_of_methodNamed B.named
  have hlk := B.notSynchronized
  clear hts0 B
  have hS : va_S A s.heap s.heap [] := va_S.rf
  have hl := lv_entry [.ref (ad 0), .int (xw_i p1), .int (xw_i p2), .int (xw_i p3), .int (xw_i p4), .int (xw_i p5)] (n := 6) (Nat.le_of_ble_eq_true rfl)
  rw [lg_entry_eq]
  generalize (lg_sl [.ref (ad 0), .int (xw_i p1), .int (xw_i p2), .int (xw_i p3), .int (xw_i p4), .int (xw_i p5)] ++ List.replicate (6 - (lg_sl [.ref (ad 0), .int (xw_i p1), .int (xw_i p2), .int (xw_i p3), .int (xw_i p4), .int (xw_i p5)]).length) Slot.unset).toArray = ls at hl ⊢
  have hl : lv_has ls 6 [(0, .ref (ad 0)), (1, .int (xw_i p1)), (2, .int (xw_i p2)), (3, .int (xw_i p3)), (4, .int (xw_i p4)), (5, .int (xw_i p5))] := hl
  unfold f_AW_run at h
  refine lv_aload_n hx hb d_AW_run_0 rfl (lv_at hl 0 rfl) ?_
  refine lv_iload_n hx hb d_AW_run_1 rfl (lv_at hl 1 rfl) ?_
  refine lv_iload_n hx hb d_AW_run_2 rfl (lv_at hl 2 rfl) ?_
  obtain ⟨s1, r3, hc2, h⟩ := xw_bn2I h
  cases r3 with
  | none =>
    refine xw_callVq (C := "AdviceWeaver") (T := T_AW) ⟨hx, hb, hml, hown, hts⟩ (c_AW_bodyOf l D A ad cs Z tt fu s0 s1 p1 p2 none hc2) (cwV 2 hts (gd_V hw_403 hw_404 hw_405 hw_175 hw_406) rfl rfl rfl (by decide +kernel) ⟨Nat.le_of_ble_eq_true rfl, Nat.le_of_ble_eq_true rfl⟩) hP hK hD hX hS (by decide) kc_AW (by decide) rfl rfl hl.1 rfl (Nat.le_of_ble_eq_true rfl) d_AW_run_3 (fun H locs hP hS => ?_)
    refine W.eq (g2 := F0 m 6 ls [.null]) rfl ?_
    refine lv_ifnullN (tgt := 23) hx hb d_AW_run_6 (by decide) ?_
    refine lv_iconst (v := xw_i (-1)) hx hb d_AW_run_23 rfl ?_
    exact xw_iretE hx hb hr hlk hP hK hD hX hS h d_AW_run_24
  | some b4 =>
    obtain ⟨hg5, h⟩ := xw_grdI h
    refine xw_callVq (C := "AdviceWeaver") (T := T_AW) ⟨hx, hb, hml, hown, hts⟩ (c_AW_bodyOf l D A ad cs Z tt fu s0 s1 p1 p2 (some b4) hc2) (cwV 2 hts (gd_V hw_403 hw_404 hw_405 hw_175 hw_406) rfl rfl rfl (by decide +kernel) ⟨Nat.le_of_ble_eq_true rfl, Nat.le_of_ble_eq_true rfl⟩) hP hK hD hX hS (by decide) kc_AW (by decide) rfl rfl hl.1 rfl (Nat.le_of_ble_eq_true rfl) d_AW_run_3 (fun H locs hP hS => ?_)
    refine W.eq (g2 := F0 m 6 ls [.ref (ad (48 + 4 * b4))]) rfl ?_
    refine lv_ifnull hx hb d_AW_run_6 ?_
    refine lv_iload hx hb d_AW_run_9 (lv_at hl 5 rfl) ?_
    refine lv_iconst (v := xw_i 1) hx hb d_AW_run_11 rfl ?_
    obtain ⟨hg6, h⟩ := xw_grdI h
    refine xw_icmp_lt (tgt := 23) hx hb hg6 (by decide) d_AW_run_12 (by decide) (fun hc7 => ?_) (fun hc7 => ?_)
    · replace h := xw_ifT hc7 h
      refine lv_iconst (v := xw_i (-1)) hx hb d_AW_run_23 rfl ?_
      exact xw_iretE hx hb hr hlk hP hK hD hX hS h d_AW_run_24
    · replace h := xw_ifF hc7 h
      refine lv_iload hx hb d_AW_run_15 (lv_at hl 5 rfl) ?_
      refine lv_sipush (v := xw_i 1000) hx hb d_AW_run_17 (by decide) ?_
      refine xw_icmp_le (tgt := 25) hx hb hg6 (by decide) d_AW_run_20 (by decide) (fun hc8 => ?_) (fun hc8 => ?_)
      · replace h := xw_ifT hc8 h
        refine lv_aload_n hx hb d_AW_run_25 rfl (lv_at hl 0 rfl) ?_
        refine xw_getR (C := "AdviceWeaver") (T := T_AW) hx hb hts hin_AW hown hK hP (by decide) kc_AW (by decide) rfl 8 (by decide) (hts _ hw_407) (fun _ h9 => h9) rfl d_AW_run_26 ?_
        refine lv_iload_n hx hb d_AW_run_29 rfl (lv_at hl 1 rfl) ?_
        refine xw_jnI (fun j => ∀ (sq : xw_S) (g0_44 : Nat), g0_44 < 3 → j sq g0_44 = some (sZ, r0) → ∀ (H : Heap) (locs : List Loc) (ls : Array Slot), va_P D vwCl (xw_ws kdC 100 ad cs Z sq) H → va_S A s.heap H locs → lv_has ls 6 [(2, .int (xw_i p2)), (3, .int (xw_i p3)), (4, .int (xw_i p4)), (5, .int (xw_i p5))] → W p l e (headSpec w_AW_run ({ frames := 6, cells := 0, slots := 0, locals := 145 })).room s m [.ref (ad 0), .int (xw_i p1), .int (xw_i p2), .int (xw_i p3), .int (xw_i p4), .int (xw_i p5)].toArray below meth c H locs 0 0 (MQ below (va_Qi (fun r u => r = xw_i r0 ∧ u = sZ) (xw_H D vwCl A kdC 100 ad cs Z tt) A) [.ref (ad 0), .int (xw_i p1), .int (xw_i p2), .int (xw_i p3), .int (xw_i p4), .int (xw_i p5)].toArray s 0 0 A) (F0 m 44 ls [.ref (ad (3 + g0_44)), .ref (ad 17)])) h ?_ ?_
        · intro s11 g0_44 hb44_0 h H locs ls hP hS hl
          refine lv_iload_n hx hb d_AW_run_44 rfl (lv_at hl 0 rfl) ?_
          refine lv_iload_n hx hb d_AW_run_45 rfl (lv_at hl 1 rfl) ?_
          refine lv_iload hx hb d_AW_run_46 (lv_at hl 2 rfl) ?_
          refine lv_iload hx hb d_AW_run_48 (lv_at hl 3 rfl) ?_
          obtain ⟨s12, r14, hc13, h⟩ := xw_bn2I h
          refine xw_callVi (C := "AdviceWeaver$Machine") (T := T_MC) ⟨hx, hb, hml, hown, hts⟩ (c_MC_execute l D A ad cs Z tt fu s11 s12 g0_44 (by omega) p2 p3 p4 p5 r14 hc13) (cwV 5 hts (gd_V hw_408 hw_409 hw_410 hw_320 hw_411) rfl rfl rfl (by decide +kernel) ⟨Nat.le_of_ble_eq_true rfl, Nat.le_of_ble_eq_true rfl⟩) hP hK hD hX hS (by decide) kc_Mach (by decide) rfl rfl hl.1 rfl (Nat.le_of_ble_eq_true rfl) d_AW_run_50 (fun H locs hP hS => ?_)
          exact xw_iretE hx hb hr hlk hP hK hD hX hS h d_AW_run_53
        · intro j44 hj44 h
          obtain ⟨hg9, h⟩ := xw_grdI h
          refine xw_if_eq (tgt := 40) hx hb hg9 d_AW_run_30 (by decide) (fun hc10 => ?_) (fun hc10 => ?_)
          · replace h := xw_ifT hc10 h
            refine lv_aload_n hx hb d_AW_run_40 rfl (lv_at hl 0 rfl) ?_
            refine xw_getR (C := "AdviceWeaver") (T := T_AW) hx hb hts hin_AW hown hK hP (by decide) kc_AW (by decide) rfl 2 (by decide) (hts _ hw_165) (fun _ h9 => h9) rfl d_AW_run_41 ?_
            exact hj44 s1 1 (by omega) h _ _ _ hP hS (lv_sub hl [2, 3, 4, 5] rfl)
          · replace h := xw_ifF hc10 h
            refine lv_aload_n hx hb d_AW_run_33 rfl (lv_at hl 0 rfl) ?_
            refine xw_getR (C := "AdviceWeaver") (T := T_AW) hx hb hts hin_AW hown hK hP (by decide) kc_AW (by decide) rfl 3 (by decide) (hts _ hw_282) (fun _ h9 => h9) rfl d_AW_run_34 ?_
            refine lv_goto (tgt := 44) hx hb d_AW_run_37 (by decide) ?_
            exact hj44 s1 2 (by omega) h _ _ _ hP hS (lv_sub hl [2, 3, 4, 5] rfl)
      · replace h := xw_ifF hc8 h
        refine lv_iconst (v := xw_i (-1)) hx hb d_AW_run_23 rfl ?_
        exact xw_iretE hx hb hr hlk hP hK hD hX hS h d_AW_run_24
def f_AW_value (fu : Nat) (s0 : xw_S) : Option (xw_S × Int) :=
 some (s0, s0.1 17 6)
set_option maxRecDepth 100000 in
set_option maxHeartbeats 4000000 in
theorem c_AW_value (l : Launch) (D : va_G) (A : Nat → Prop) (ad : Nat → Nat) (cs : Nat → ClassId) (Z : va_W) (tt : Nat → Nat) (fu : Nat) (s0 sZ : xw_S) (r0 : Int) (h : f_AW_value fu s0 = some (sZ, r0)) : Met l y_AW_value w_AW_value ({ frames := 0, cells := 0, slots := 0, locals := 0 }) (va_Pc [.ref (ad 0)] (xw_H D vwCl A kdC 100 ad cs Z tt s0)) (va_Qi (fun r u => r = xw_i r0 ∧ u = sZ) (xw_H D vwCl A kdC 100 ad cs Z tt) A) 0 0 A := by
  refine Met.ofW (cc := b_AW_value) (maxL := 1) (ret := (some .int)) (by decide) rfl ?_
  intro p e s m args below meth c s₁ B hml hv
  obtain ⟨rfl, hP, hK, hD, hX⟩ := hv
  have hx := B.exec
  have hb := B.bytes
  have hr := B.returns
  have hts0 := atoms_spec (ws := w_AW_value) B.pre
  have hts := fun w (hw : w ∈ wAll) => hts0 w (List.mem_cons_of_mem _ hw)
  have hown : s.vm.findClass "AdviceWeaver" = some m.cls := findClass_of_methodNamed B.named
  have hlk := B.notSynchronized
  clear hts0 B
  have hS : va_S A s.heap s.heap [] := va_S.rf
  have hl := lv_entry [.ref (ad 0)] (n := 1) (Nat.le_of_ble_eq_true rfl)
  rw [lg_entry_eq]
  generalize (lg_sl [.ref (ad 0)] ++ List.replicate (1 - (lg_sl [.ref (ad 0)]).length) Slot.unset).toArray = ls at hl ⊢
  have hl : lv_has ls 1 [(0, .ref (ad 0))] := hl
  unfold f_AW_value at h
  refine lv_aload_n hx hb d_AW_value_0 rfl (lv_at hl 0 rfl) ?_
  refine xw_getR (C := "AdviceWeaver") (T := T_AW) hx hb hts hin_AW hown hK hP (by decide) kc_AW (by decide) rfl 8 (by decide) (hts _ hw_407) (fun _ h9 => h9) rfl d_AW_value_1 ?_
  refine xw_getI (C := "AdviceWeaver$Machine") (T := T_MC) hx hb hts hin_MC hown hK hP (by decide) kc_Mach (by decide) rfl 6 (by decide) (hts _ hw_412) (fun _ h9 => h9) rfl d_AW_value_4 ?_
  exact xw_iretE hx hb hr hlk hP hK hD hX hS h d_AW_value_7
def f_AW_used (fu : Nat) (s0 : xw_S) : Option (xw_S × Int) :=
 some (s0, s0.1 17 7)
set_option maxRecDepth 100000 in
set_option maxHeartbeats 4000000 in
theorem c_AW_used (l : Launch) (D : va_G) (A : Nat → Prop) (ad : Nat → Nat) (cs : Nat → ClassId) (Z : va_W) (tt : Nat → Nat) (fu : Nat) (s0 sZ : xw_S) (r0 : Int) (h : f_AW_used fu s0 = some (sZ, r0)) : Met l y_AW_used w_AW_used ({ frames := 0, cells := 0, slots := 0, locals := 0 }) (va_Pc [.ref (ad 0)] (xw_H D vwCl A kdC 100 ad cs Z tt s0)) (va_Qi (fun r u => r = xw_i r0 ∧ u = sZ) (xw_H D vwCl A kdC 100 ad cs Z tt) A) 0 0 A := by
  refine Met.ofW (cc := b_AW_used) (maxL := 1) (ret := (some .int)) (by decide) rfl ?_
  intro p e s m args below meth c s₁ B hml hv
  obtain ⟨rfl, hP, hK, hD, hX⟩ := hv
  have hx := B.exec
  have hb := B.bytes
  have hr := B.returns
  have hts0 := atoms_spec (ws := w_AW_used) B.pre
  have hts := fun w (hw : w ∈ wAll) => hts0 w (List.mem_cons_of_mem _ hw)
  have hown : s.vm.findClass "AdviceWeaver" = some m.cls := findClass_of_methodNamed B.named
  have hlk := B.notSynchronized
  clear hts0 B
  have hS : va_S A s.heap s.heap [] := va_S.rf
  have hl := lv_entry [.ref (ad 0)] (n := 1) (Nat.le_of_ble_eq_true rfl)
  rw [lg_entry_eq]
  generalize (lg_sl [.ref (ad 0)] ++ List.replicate (1 - (lg_sl [.ref (ad 0)]).length) Slot.unset).toArray = ls at hl ⊢
  have hl : lv_has ls 1 [(0, .ref (ad 0))] := hl
  unfold f_AW_used at h
  refine lv_aload_n hx hb d_AW_used_0 rfl (lv_at hl 0 rfl) ?_
  refine xw_getR (C := "AdviceWeaver") (T := T_AW) hx hb hts hin_AW hown hK hP (by decide) kc_AW (by decide) rfl 8 (by decide) (hts _ hw_407) (fun _ h9 => h9) rfl d_AW_used_1 ?_
  refine xw_getI (C := "AdviceWeaver$Machine") (T := T_MC) hx hb hts hin_MC hown hK hP (by decide) kc_Mach (by decide) rfl 7 (by decide) (hts _ hw_413) (fun _ h9 => h9) rfl d_AW_used_4 ?_
  exact xw_iretE hx hb hr hlk hP hK hD hX hS h d_AW_used_7
def f_AW_marks (fu : Nat) (s0 : xw_S) : Option (xw_S × Int) :=
 some (s0, s0.1 17 8)
set_option maxRecDepth 100000 in
set_option maxHeartbeats 4000000 in
theorem c_AW_marks (l : Launch) (D : va_G) (A : Nat → Prop) (ad : Nat → Nat) (cs : Nat → ClassId) (Z : va_W) (tt : Nat → Nat) (fu : Nat) (s0 sZ : xw_S) (r0 : Int) (h : f_AW_marks fu s0 = some (sZ, r0)) : Met l y_AW_marks w_AW_marks ({ frames := 0, cells := 0, slots := 0, locals := 0 }) (va_Pc [.ref (ad 0)] (xw_H D vwCl A kdC 100 ad cs Z tt s0)) (va_Qi (fun r u => r = xw_i r0 ∧ u = sZ) (xw_H D vwCl A kdC 100 ad cs Z tt) A) 0 0 A := by
  refine Met.ofW (cc := b_AW_marks) (maxL := 1) (ret := (some .int)) (by decide) rfl ?_
  intro p e s m args below meth c s₁ B hml hv
  obtain ⟨rfl, hP, hK, hD, hX⟩ := hv
  have hx := B.exec
  have hb := B.bytes
  have hr := B.returns
  have hts0 := atoms_spec (ws := w_AW_marks) B.pre
  have hts := fun w (hw : w ∈ wAll) => hts0 w (List.mem_cons_of_mem _ hw)
  have hown : s.vm.findClass "AdviceWeaver" = some m.cls := findClass_of_methodNamed B.named
  have hlk := B.notSynchronized
  clear hts0 B
  have hS : va_S A s.heap s.heap [] := va_S.rf
  have hl := lv_entry [.ref (ad 0)] (n := 1) (Nat.le_of_ble_eq_true rfl)
  rw [lg_entry_eq]
  generalize (lg_sl [.ref (ad 0)] ++ List.replicate (1 - (lg_sl [.ref (ad 0)]).length) Slot.unset).toArray = ls at hl ⊢
  have hl : lv_has ls 1 [(0, .ref (ad 0))] := hl
  unfold f_AW_marks at h
  refine lv_aload_n hx hb d_AW_marks_0 rfl (lv_at hl 0 rfl) ?_
  refine xw_getR (C := "AdviceWeaver") (T := T_AW) hx hb hts hin_AW hown hK hP (by decide) kc_AW (by decide) rfl 8 (by decide) (hts _ hw_407) (fun _ h9 => h9) rfl d_AW_marks_1 ?_
  refine xw_getI (C := "AdviceWeaver$Machine") (T := T_MC) hx hb hts hin_MC hown hK hP (by decide) kc_Mach (by decide) rfl 8 (by decide) (hts _ hw_414) (fun _ h9 => h9) rfl d_AW_marks_4 ?_
  exact xw_iretE hx hb hr hlk hP hK hD hX hS h d_AW_marks_7
def f_AW_mark (fu : Nat) (s0 : xw_S) (p1 : Int) : Option (xw_S × Int) :=
 xw_bn2 (f_MC_markAt fu s0 p1) (fun s1 r3 => some (s1, r3))
set_option maxRecDepth 100000 in
set_option maxHeartbeats 4000000 in
theorem c_AW_mark (l : Launch) (D : va_G) (A : Nat → Prop) (ad : Nat → Nat) (cs : Nat → ClassId) (Z : va_W) (tt : Nat → Nat) (fu : Nat) (s0 sZ : xw_S) (p1 : Int) (r0 : Int) (h : f_AW_mark fu s0 p1 = some (sZ, r0)) : Met l y_AW_mark w_AW_mark ({ frames := 1, cells := 0, slots := 0, locals := 21 }) (va_Pc [.ref (ad 0), .int (xw_i p1)] (xw_H D vwCl A kdC 100 ad cs Z tt s0)) (va_Qi (fun r u => r = xw_i r0 ∧ u = sZ) (xw_H D vwCl A kdC 100 ad cs Z tt) A) 0 0 A := by
  refine Met.ofW (cc := b_AW_mark) (maxL := 2) (ret := (some .int)) (by decide) rfl ?_
  intro p e s m args below meth c s₁ B hml hv
  obtain ⟨rfl, hP, hK, hD, hX⟩ := hv
  have hx := B.exec
  have hb := B.bytes
  have hr := B.returns
  have hts0 := atoms_spec (ws := w_AW_mark) B.pre
  have hts := fun w (hw : w ∈ wAll) => hts0 w (List.mem_cons_of_mem _ hw)
  have hown : s.vm.findClass "AdviceWeaver" = some m.cls := findClass_of_methodNamed B.named
  have hlk := B.notSynchronized
  clear hts0 B
  have hS : va_S A s.heap s.heap [] := va_S.rf
  have hl := lv_entry [.ref (ad 0), .int (xw_i p1)] (n := 2) (Nat.le_of_ble_eq_true rfl)
  rw [lg_entry_eq]
  generalize (lg_sl [.ref (ad 0), .int (xw_i p1)] ++ List.replicate (2 - (lg_sl [.ref (ad 0), .int (xw_i p1)]).length) Slot.unset).toArray = ls at hl ⊢
  have hl : lv_has ls 2 [(0, .ref (ad 0)), (1, .int (xw_i p1))] := hl
  unfold f_AW_mark at h
  refine lv_aload_n hx hb d_AW_mark_0 rfl (lv_at hl 0 rfl) ?_
  refine xw_getR (C := "AdviceWeaver") (T := T_AW) hx hb hts hin_AW hown hK hP (by decide) kc_AW (by decide) rfl 8 (by decide) (hts _ hw_407) (fun _ h9 => h9) rfl d_AW_mark_1 ?_
  refine lv_iload_n hx hb d_AW_mark_4 rfl (lv_at hl 1 rfl) ?_
  obtain ⟨s1, r3, hc2, h⟩ := xw_bn2I h
  refine xw_callVi (C := "AdviceWeaver$Machine") (T := T_MC) ⟨hx, hb, hml, hown, hts⟩ (c_MC_markAt l D A ad cs Z tt fu s0 s1 p1 r3 hc2) (cwV 1 hts (gd_V hw_415 hw_416 hw_417 hw_320 hw_418) rfl rfl rfl (by decide +kernel) ⟨Nat.le_of_ble_eq_true rfl, Nat.le_of_ble_eq_true rfl⟩) hP hK hD hX hS (by decide) kc_Mach (by decide) rfl rfl hl.1 rfl (Nat.le_of_ble_eq_true rfl) d_AW_mark_5 (fun H locs hP hS => ?_)
  exact xw_iretE hx hb hr hlk hP hK hD hX hS h d_AW_mark_8
def f_AW_probe (fu : Nat) (s0 : xw_S) (p1 : Int) (p2 : Int) : Option (xw_S × Int) :=
 xw_bn2 (f_MC_probesAt fu s0 p1 p2) (fun s1 r3 => some (s1, r3))
set_option maxRecDepth 100000 in
set_option maxHeartbeats 4000000 in
theorem c_AW_probe (l : Launch) (D : va_G) (A : Nat → Prop) (ad : Nat → Nat) (cs : Nat → ClassId) (Z : va_W) (tt : Nat → Nat) (fu : Nat) (s0 sZ : xw_S) (p1 : Int) (p2 : Int) (r0 : Int) (h : f_AW_probe fu s0 p1 p2 = some (sZ, r0)) : Met l y_AW_probe w_AW_probe ({ frames := 1, cells := 0, slots := 0, locals := 22 }) (va_Pc [.ref (ad 0), .int (xw_i p1), .int (xw_i p2)] (xw_H D vwCl A kdC 100 ad cs Z tt s0)) (va_Qi (fun r u => r = xw_i r0 ∧ u = sZ) (xw_H D vwCl A kdC 100 ad cs Z tt) A) 0 0 A := by
  refine Met.ofW (cc := b_AW_probe) (maxL := 3) (ret := (some .int)) (by decide) rfl ?_
  intro p e s m args below meth c s₁ B hml hv
  obtain ⟨rfl, hP, hK, hD, hX⟩ := hv
  have hx := B.exec
  have hb := B.bytes
  have hr := B.returns
  have hts0 := atoms_spec (ws := w_AW_probe) B.pre
  have hts := fun w (hw : w ∈ wAll) => hts0 w (List.mem_cons_of_mem _ hw)
  have hown : s.vm.findClass "AdviceWeaver" = some m.cls := findClass_of_methodNamed B.named
  have hlk := B.notSynchronized
  clear hts0 B
  have hS : va_S A s.heap s.heap [] := va_S.rf
  have hl := lv_entry [.ref (ad 0), .int (xw_i p1), .int (xw_i p2)] (n := 3) (Nat.le_of_ble_eq_true rfl)
  rw [lg_entry_eq]
  generalize (lg_sl [.ref (ad 0), .int (xw_i p1), .int (xw_i p2)] ++ List.replicate (3 - (lg_sl [.ref (ad 0), .int (xw_i p1), .int (xw_i p2)]).length) Slot.unset).toArray = ls at hl ⊢
  have hl : lv_has ls 3 [(0, .ref (ad 0)), (1, .int (xw_i p1)), (2, .int (xw_i p2))] := hl
  unfold f_AW_probe at h
  refine lv_aload_n hx hb d_AW_probe_0 rfl (lv_at hl 0 rfl) ?_
  refine xw_getR (C := "AdviceWeaver") (T := T_AW) hx hb hts hin_AW hown hK hP (by decide) kc_AW (by decide) rfl 8 (by decide) (hts _ hw_407) (fun _ h9 => h9) rfl d_AW_probe_1 ?_
  refine lv_iload_n hx hb d_AW_probe_4 rfl (lv_at hl 1 rfl) ?_
  refine lv_iload_n hx hb d_AW_probe_5 rfl (lv_at hl 2 rfl) ?_
  obtain ⟨s1, r3, hc2, h⟩ := xw_bn2I h
  refine xw_callVi (C := "AdviceWeaver$Machine") (T := T_MC) ⟨hx, hb, hml, hown, hts⟩ (c_MC_probesAt l D A ad cs Z tt fu s0 s1 p1 p2 r3 hc2) (cwV 2 hts (gd_V hw_419 hw_420 hw_421 hw_320 hw_422) rfl rfl rfl (by decide +kernel) ⟨Nat.le_of_ble_eq_true rfl, Nat.le_of_ble_eq_true rfl⟩) hP hK hD hX hS (by decide) kc_Mach (by decide) rfl rfl hl.1 rfl (Nat.le_of_ble_eq_true rfl) d_AW_probe_6 (fun H locs hP hS => ?_)
  exact xw_iretE hx hb hr hlk hP hK hD hX hS h d_AW_probe_9
def f_AW_shape (fu : Nat) (s0 : xw_S) (p1 : Int) (p2 : Int) (p3 : Int) : Option (xw_S × Int) :=
 xw_bn2 (f_AW_bodyOf fu s0 p1 p2) (fun s1 r3 => xw_mt r3 (some (s1, -1))
 (fun b4 => xw_grd (b4 < 13) (xw_grd (xw_r p3) (xw_if (p3 = 0) (some (s1, s1.1 (48 + 4 * b4) 8))
 (xw_if (p3 = 1) (some (s1, s1.1 (48 + 4 * b4) 9))
 (xw_if (p3 = 2) (some (s1, s1.1 (48 + 4 * b4) 10))
 (xw_if (p3 = 3) (some (s1, s1.1 (48 + 4 * b4) 11))
 (some (s1, -1)))))))))
set_option maxRecDepth 100000 in
set_option maxHeartbeats 4000000 in
theorem c_AW_shape (l : Launch) (D : va_G) (A : Nat → Prop) (ad : Nat → Nat) (cs : Nat → ClassId) (Z : va_W) (tt : Nat → Nat) (fu : Nat) (s0 sZ : xw_S) (p1 : Int) (p2 : Int) (p3 : Int) (r0 : Int) (h : f_AW_shape fu s0 p1 p2 p3 = some (sZ, r0)) : Met l y_AW_shape w_AW_shape ({ frames := 1, cells := 0, slots := 0, locals := 22 }) (va_Pc [.ref (ad 0), .int (xw_i p1), .int (xw_i p2), .int (xw_i p3)] (xw_H D vwCl A kdC 100 ad cs Z tt s0)) (va_Qi (fun r u => r = xw_i r0 ∧ u = sZ) (xw_H D vwCl A kdC 100 ad cs Z tt) A) 0 0 A := by
  refine Met.ofW (cc := b_AW_shape) (maxL := 5) (ret := (some .int)) (by decide) rfl ?_
  intro p e s m args below meth c s₁ B hml hv
  obtain ⟨rfl, hP, hK, hD, hX⟩ := hv
  have hx := B.exec
  have hb := B.bytes
  have hr := B.returns
  have hts0 := atoms_spec (ws := w_AW_shape) B.pre
  have hts := fun w (hw : w ∈ wAll) => hts0 w (List.mem_cons_of_mem _ hw)
  have hown : s.vm.findClass "AdviceWeaver" = some m.cls := findClass_of_methodNamed B.named
  have hlk := B.notSynchronized
  clear hts0 B
  have hS : va_S A s.heap s.heap [] := va_S.rf
  have hl := lv_entry [.ref (ad 0), .int (xw_i p1), .int (xw_i p2), .int (xw_i p3)] (n := 5) (Nat.le_of_ble_eq_true rfl)
  rw [lg_entry_eq]
  generalize (lg_sl [.ref (ad 0), .int (xw_i p1), .int (xw_i p2), .int (xw_i p3)] ++ List.replicate (5 - (lg_sl [.ref (ad 0), .int (xw_i p1), .int (xw_i p2), .int (xw_i p3)]).length) Slot.unset).toArray = ls at hl ⊢
  have hl : lv_has ls 5 [(0, .ref (ad 0)), (1, .int (xw_i p1)), (2, .int (xw_i p2)), (3, .int (xw_i p3))] := hl
  unfold f_AW_shape at h
  refine lv_aload_n hx hb d_AW_shape_0 rfl (lv_at hl 0 rfl) ?_
  refine lv_iload_n hx hb d_AW_shape_1 rfl (lv_at hl 1 rfl) ?_
  refine lv_iload_n hx hb d_AW_shape_2 rfl (lv_at hl 2 rfl) ?_
  obtain ⟨s1, r3, hc2, h⟩ := xw_bn2I h
  cases r3 with
  | none =>
    refine xw_callVq (C := "AdviceWeaver") (T := T_AW) ⟨hx, hb, hml, hown, hts⟩ (c_AW_bodyOf l D A ad cs Z tt fu s0 s1 p1 p2 none hc2) (cwV 2 hts (gd_V hw_403 hw_404 hw_405 hw_175 hw_406) rfl rfl rfl (by decide +kernel) ⟨Nat.le_of_ble_eq_true rfl, Nat.le_of_ble_eq_true rfl⟩) hP hK hD hX hS (by decide) kc_AW (by decide) rfl rfl hl.1 rfl (Nat.le_of_ble_eq_true rfl) d_AW_shape_3 (fun H locs hP hS => ?_)
    refine W.eq (g2 := F0 m 6 ls [.null]) rfl ?_
    refine lv_astoreN hx hb d_AW_shape_6 hl (by decide) rfl (fun ls hl => ?_)
    refine lv_aloadN hx hb d_AW_shape_8 (lv_at hl 0 rfl) ?_
    refine lv_ifnonnullN hx hb d_AW_shape_10 ?_
    refine lv_iconst (v := xw_i (-1)) hx hb d_AW_shape_13 rfl ?_
    exact xw_iretE hx hb hr hlk hP hK hD hX hS h d_AW_shape_14
  | some b4 =>
    obtain ⟨hg5, h⟩ := xw_grdI h
    refine xw_callVq (C := "AdviceWeaver") (T := T_AW) ⟨hx, hb, hml, hown, hts⟩ (c_AW_bodyOf l D A ad cs Z tt fu s0 s1 p1 p2 (some b4) hc2) (cwV 2 hts (gd_V hw_403 hw_404 hw_405 hw_175 hw_406) rfl rfl rfl (by decide +kernel) ⟨Nat.le_of_ble_eq_true rfl, Nat.le_of_ble_eq_true rfl⟩) hP hK hD hX hS (by decide) kc_AW (by decide) rfl rfl hl.1 rfl (Nat.le_of_ble_eq_true rfl) d_AW_shape_3 (fun H locs hP hS => ?_)
    refine W.eq (g2 := F0 m 6 ls [.ref (ad (48 + 4 * b4))]) rfl ?_
    refine lv_astore hx hb d_AW_shape_6 hl (by decide) rfl (fun ls hl => ?_)
    refine lv_aload hx hb d_AW_shape_8 (lv_at hl 0 rfl) ?_
    refine lv_ifnonnull (tgt := 15) hx hb d_AW_shape_10 (by decide) ?_
    refine lv_iload_n hx hb d_AW_shape_15 rfl (lv_at hl 4 rfl) ?_
    obtain ⟨hg6, h⟩ := xw_grdI h
    by_cases hc7 : p3 = 0
    · replace h := xw_ifT hc7 h
      refine lv_tableIn (off := 32) (tgt := 48) hx hb d_AW_shape_16 (by rw [hc7]; decide) (by rw [hc7]; decide) (by rw [hc7]; decide) (by decide) ?_
      refine lv_aload hx hb d_AW_shape_48 (lv_at hl 0 rfl) ?_
      refine xw_getI (C := "AdviceWeaver$Body") (T := T_B) hx hb hts hin_B hown hK hP (by omega) (kc_Body b4 (by omega)) (by decide) rfl 8 (by decide) (hts _ hw_426) (fun _ h9 => h9) rfl d_AW_shape_50 ?_
      exact xw_iretE hx hb hr hlk hP hK hD hX hS h d_AW_shape_53
    · replace h := xw_ifF hc7 h
      by_cases hc8 : p3 = 1
      · replace h := xw_ifT hc8 h
        refine lv_tableIn (off := 38) (tgt := 54) hx hb d_AW_shape_16 (by rw [hc8]; decide) (by rw [hc8]; decide) (by rw [hc8]; decide) (by decide) ?_
        refine lv_aload hx hb d_AW_shape_54 (lv_at hl 0 rfl) ?_
        refine xw_getI (C := "AdviceWeaver$Body") (T := T_B) hx hb hts hin_B hown hK hP (by omega) (kc_Body b4 (by omega)) (by decide) rfl 9 (by decide) (hts _ hw_425) (fun _ h9 => h9) rfl d_AW_shape_56 ?_
        exact xw_iretE hx hb hr hlk hP hK hD hX hS h d_AW_shape_59
      · replace h := xw_ifF hc8 h
        by_cases hc9 : p3 = 2
        · replace h := xw_ifT hc9 h
          refine lv_tableIn (off := 44) (tgt := 60) hx hb d_AW_shape_16 (by rw [hc9]; decide) (by rw [hc9]; decide) (by rw [hc9]; decide) (by decide) ?_
          refine lv_aload hx hb d_AW_shape_60 (lv_at hl 0 rfl) ?_
          refine xw_getI (C := "AdviceWeaver$Body") (T := T_B) hx hb hts hin_B hown hK hP (by omega) (kc_Body b4 (by omega)) (by decide) rfl 10 (by decide) (hts _ hw_424) (fun _ h9 => h9) rfl d_AW_shape_62 ?_
          exact xw_iretE hx hb hr hlk hP hK hD hX hS h d_AW_shape_65
        · replace h := xw_ifF hc9 h
          by_cases hc10 : p3 = 3
          · replace h := xw_ifT hc10 h
            refine lv_tableIn (off := 50) (tgt := 66) hx hb d_AW_shape_16 (by rw [hc10]; decide) (by rw [hc10]; decide) (by rw [hc10]; decide) (by decide) ?_
            refine lv_aload hx hb d_AW_shape_66 (lv_at hl 0 rfl) ?_
            refine xw_getI (C := "AdviceWeaver$Body") (T := T_B) hx hb hts hin_B hown hK hP (by omega) (kc_Body b4 (by omega)) (by decide) rfl 11 (by decide) (hts _ hw_423) (fun _ h9 => h9) rfl d_AW_shape_68 ?_
            exact xw_iretE hx hb hr hlk hP hK hD hX hS h d_AW_shape_71
          · replace h := xw_ifF hc10 h
            refine lv_tableOut (tgt := 72) hx hb d_AW_shape_16 (by rw [xw_toInt hg6]; omega) (by decide) ?_
            refine lv_iconst (v := xw_i (-1)) hx hb d_AW_shape_72 rfl ?_
            exact xw_iretE hx hb hr hlk hP hK hD hX hS h d_AW_shape_73
def f_AW_code (fu : Nat) (s0 : xw_S) (p1 : Int) (p2 : Int) (p3 : Int) : Option (xw_S × Int) :=
 xw_bn2 (f_AW_bodyOf fu s0 p1 p2) (fun s1 r3 => xw_mt r3 (some (s1, -1))
 (fun b4 => xw_grd (b4 < 13) (xw_grd (xw_r p3) (xw_if (p3 < 0) (some (s1, -1))
 (xw_grd (xw_r (s1.1 (48 + 4 * b4) 8)) (xw_if (p3 < s1.1 (48 + 4 * b4) 8) (xw_bn2 (f_B_byteAt fu s1 b4 p3) (fun s10 r12 => some (s10, r12)))
 (some (s1, -1))))))))
set_option maxRecDepth 100000 in
set_option maxHeartbeats 4000000 in
theorem c_AW_code (l : Launch) (D : va_G) (A : Nat → Prop) (ad : Nat → Nat) (cs : Nat → ClassId) (Z : va_W) (tt : Nat → Nat) (fu : Nat) (s0 sZ : xw_S) (p1 : Int) (p2 : Int) (p3 : Int) (r0 : Int) (h : f_AW_code fu s0 p1 p2 p3 = some (sZ, r0)) : Met l y_AW_code w_AW_code ({ frames := 1, cells := 0, slots := 0, locals := 22 }) (va_Pc [.ref (ad 0), .int (xw_i p1), .int (xw_i p2), .int (xw_i p3)] (xw_H D vwCl A kdC 100 ad cs Z tt s0)) (va_Qi (fun r u => r = xw_i r0 ∧ u = sZ) (xw_H D vwCl A kdC 100 ad cs Z tt) A) 0 0 A := by
  refine Met.ofW (cc := b_AW_code) (maxL := 5) (ret := (some .int)) (by decide) rfl ?_
  intro p e s m args below meth c s₁ B hml hv
  obtain ⟨rfl, hP, hK, hD, hX⟩ := hv
  have hx := B.exec
  have hb := B.bytes
  have hr := B.returns
  have hts0 := atoms_spec (ws := w_AW_code) B.pre
  have hts := fun w (hw : w ∈ wAll) => hts0 w (List.mem_cons_of_mem _ hw)
  have hown : s.vm.findClass "AdviceWeaver" = some m.cls := findClass_of_methodNamed B.named
  have hlk := B.notSynchronized
  clear hts0 B
  have hS : va_S A s.heap s.heap [] := va_S.rf
  have hl := lv_entry [.ref (ad 0), .int (xw_i p1), .int (xw_i p2), .int (xw_i p3)] (n := 5) (Nat.le_of_ble_eq_true rfl)
  rw [lg_entry_eq]
  generalize (lg_sl [.ref (ad 0), .int (xw_i p1), .int (xw_i p2), .int (xw_i p3)] ++ List.replicate (5 - (lg_sl [.ref (ad 0), .int (xw_i p1), .int (xw_i p2), .int (xw_i p3)]).length) Slot.unset).toArray = ls at hl ⊢
  have hl : lv_has ls 5 [(0, .ref (ad 0)), (1, .int (xw_i p1)), (2, .int (xw_i p2)), (3, .int (xw_i p3))] := hl
  unfold f_AW_code at h
  refine lv_aload_n hx hb d_AW_code_0 rfl (lv_at hl 0 rfl) ?_
  refine lv_iload_n hx hb d_AW_code_1 rfl (lv_at hl 1 rfl) ?_
  refine lv_iload_n hx hb d_AW_code_2 rfl (lv_at hl 2 rfl) ?_
  obtain ⟨s1, r3, hc2, h⟩ := xw_bn2I h
  cases r3 with
  | none =>
    refine xw_callVq (C := "AdviceWeaver") (T := T_AW) ⟨hx, hb, hml, hown, hts⟩ (c_AW_bodyOf l D A ad cs Z tt fu s0 s1 p1 p2 none hc2) (cwV 2 hts (gd_V hw_403 hw_404 hw_405 hw_175 hw_406) rfl rfl rfl (by decide +kernel) ⟨Nat.le_of_ble_eq_true rfl, Nat.le_of_ble_eq_true rfl⟩) hP hK hD hX hS (by decide) kc_AW (by decide) rfl rfl hl.1 rfl (Nat.le_of_ble_eq_true rfl) d_AW_code_3 (fun H locs hP hS => ?_)
    refine W.eq (g2 := F0 m 6 ls [.null]) rfl ?_
    refine lv_astoreN hx hb d_AW_code_6 hl (by decide) rfl (fun ls hl => ?_)
    refine lv_aloadN hx hb d_AW_code_8 (lv_at hl 0 rfl) ?_
    refine lv_ifnullN (tgt := 26) hx hb d_AW_code_10 (by decide) ?_
    refine lv_iconst (v := xw_i (-1)) hx hb d_AW_code_26 rfl ?_
    exact xw_iretE hx hb hr hlk hP hK hD hX hS h d_AW_code_27
  | some b4 =>
    obtain ⟨hg5, h⟩ := xw_grdI h
    refine xw_callVq (C := "AdviceWeaver") (T := T_AW) ⟨hx, hb, hml, hown, hts⟩ (c_AW_bodyOf l D A ad cs Z tt fu s0 s1 p1 p2 (some b4) hc2) (cwV 2 hts (gd_V hw_403 hw_404 hw_405 hw_175 hw_406) rfl rfl rfl (by decide +kernel) ⟨Nat.le_of_ble_eq_true rfl, Nat.le_of_ble_eq_true rfl⟩) hP hK hD hX hS (by decide) kc_AW (by decide) rfl rfl hl.1 rfl (Nat.le_of_ble_eq_true rfl) d_AW_code_3 (fun H locs hP hS => ?_)
    refine W.eq (g2 := F0 m 6 ls [.ref (ad (48 + 4 * b4))]) rfl ?_
    refine lv_astore hx hb d_AW_code_6 hl (by decide) rfl (fun ls hl => ?_)
    refine lv_aload hx hb d_AW_code_8 (lv_at hl 0 rfl) ?_
    refine lv_ifnull hx hb d_AW_code_10 ?_
    refine lv_iload_n hx hb d_AW_code_13 rfl (lv_at hl 4 rfl) ?_
    obtain ⟨hg6, h⟩ := xw_grdI h
    refine xw_if_lt (tgt := 26) hx hb hg6 d_AW_code_14 (by decide) (fun hc7 => ?_) (fun hc7 => ?_)
    · replace h := xw_ifT hc7 h
      refine lv_iconst (v := xw_i (-1)) hx hb d_AW_code_26 rfl ?_
      exact xw_iretE hx hb hr hlk hP hK hD hX hS h d_AW_code_27
    · replace h := xw_ifF hc7 h
      refine lv_iload_n hx hb d_AW_code_17 rfl (lv_at hl 4 rfl) ?_
      refine lv_aload hx hb d_AW_code_18 (lv_at hl 0 rfl) ?_
      refine xw_getI (C := "AdviceWeaver$Body") (T := T_B) hx hb hts hin_B hown hK hP (by omega) (kc_Body b4 (by omega)) (by decide) rfl 8 (by decide) (hts _ hw_426) (fun _ h9 => h9) rfl d_AW_code_20 ?_
      obtain ⟨hg8, h⟩ := xw_grdI h
      refine xw_icmp_lt (tgt := 28) hx hb hg6 hg8 d_AW_code_23 (by decide) (fun hc9 => ?_) (fun hc9 => ?_)
      · replace h := xw_ifT hc9 h
        refine lv_aload hx hb d_AW_code_28 (lv_at hl 0 rfl) ?_
        refine lv_iload_n hx hb d_AW_code_30 rfl (lv_at hl 4 rfl) ?_
        obtain ⟨s10, r12, hc11, h⟩ := xw_bn2I h
        refine xw_callVi (C := "AdviceWeaver$Body") (T := T_B) ⟨hx, hb, hml, hown, hts⟩ (c_B_byteAt l D A ad cs Z tt fu s1 s10 b4 (by omega) p3 r12 hc11) (cwV 1 hts (gd_V hw_427 hw_57 hw_58 hw_25 hw_59) rfl rfl rfl (by decide +kernel) ⟨Nat.le_of_ble_eq_true rfl, Nat.le_of_ble_eq_true rfl⟩) hP hK hD hX hS (by omega) (kc_Body b4 (by omega)) (by decide) rfl rfl hl.1 rfl (Nat.le_of_ble_eq_true rfl) d_AW_code_31 (fun H locs hP hS => ?_)
        exact xw_iretE hx hb hr hlk hP hK hD hX hS h d_AW_code_34
      · replace h := xw_ifF hc9 h
        refine lv_iconst (v := xw_i (-1)) hx hb d_AW_code_26 rfl ?_
        exact xw_iretE hx hb hr hlk hP hK hD hX hS h d_AW_code_27
def f_AW_handler (fu : Nat) (s0 : xw_S) (p1 : Int) (p2 : Int) (p3 : Int) (p4 : Int) : Option (xw_S × Int) :=
 xw_bn2 (f_AW_bodyOf fu s0 p1 p2) (fun s1 r3 => xw_mt r3 (some (s1, -1))
 (fun b4 => xw_grd (b4 < 13) (xw_grd (xw_r p3) (xw_if (p3 < 0) (some (s1, -1))
 (xw_grd (xw_r (s1.1 (48 + 4 * b4) 9)) (xw_if (s1.1 (48 + 4 * b4) 9 ≤ p3) (some (s1, -1))
 (xw_grd (xw_r p4) (xw_if (p4 < 0) (some (s1, -1))
 (xw_if (p4 ≤ 3) (xw_bn2 (f_B_part fu s1 b4 p3 p4) (fun s13 r15 => some (s13, r15)))
 (some (s1, -1)))))))))))
set_option maxRecDepth 100000 in
set_option maxHeartbeats 4000000 in
theorem c_AW_handler (l : Launch) (D : va_G) (A : Nat → Prop) (ad : Nat → Nat) (cs : Nat → ClassId) (Z : va_W) (tt : Nat → Nat) (fu : Nat) (s0 sZ : xw_S) (p1 : Int) (p2 : Int) (p3 : Int) (p4 : Int) (r0 : Int) (h : f_AW_handler fu s0 p1 p2 p3 p4 = some (sZ, r0)) : Met l y_AW_handler w_AW_handler ({ frames := 1, cells := 0, slots := 0, locals := 22 }) (va_Pc [.ref (ad 0), .int (xw_i p1), .int (xw_i p2), .int (xw_i p3), .int (xw_i p4)] (xw_H D vwCl A kdC 100 ad cs Z tt s0)) (va_Qi (fun r u => r = xw_i r0 ∧ u = sZ) (xw_H D vwCl A kdC 100 ad cs Z tt) A) 0 0 A := by
  refine Met.ofW (cc := b_AW_handler) (maxL := 6) (ret := (some .int)) (by decide) rfl ?_
  intro p e s m args below meth c s₁ B hml hv
  obtain ⟨rfl, hP, hK, hD, hX⟩ := hv
  have hx := B.exec
  have hb := B.bytes
  have hr := B.returns
  have hts0 := atoms_spec (ws := w_AW_handler) B.pre
  have hts := fun w (hw : w ∈ wAll) => hts0 w (List.mem_cons_of_mem _ hw)
  have hown : s.vm.findClass "AdviceWeaver" = some m.cls := findClass_of_methodNamed B.named
  have hlk := B.notSynchronized
  clear hts0 B
  have hS : va_S A s.heap s.heap [] := va_S.rf
  have hl := lv_entry [.ref (ad 0), .int (xw_i p1), .int (xw_i p2), .int (xw_i p3), .int (xw_i p4)] (n := 6) (Nat.le_of_ble_eq_true rfl)
  rw [lg_entry_eq]
  generalize (lg_sl [.ref (ad 0), .int (xw_i p1), .int (xw_i p2), .int (xw_i p3), .int (xw_i p4)] ++ List.replicate (6 - (lg_sl [.ref (ad 0), .int (xw_i p1), .int (xw_i p2), .int (xw_i p3), .int (xw_i p4)]).length) Slot.unset).toArray = ls at hl ⊢
  have hl : lv_has ls 6 [(0, .ref (ad 0)), (1, .int (xw_i p1)), (2, .int (xw_i p2)), (3, .int (xw_i p3)), (4, .int (xw_i p4))] := hl
  unfold f_AW_handler at h
  refine lv_aload_n hx hb d_AW_handler_0 rfl (lv_at hl 0 rfl) ?_
  refine lv_iload_n hx hb d_AW_handler_1 rfl (lv_at hl 1 rfl) ?_
  refine lv_iload_n hx hb d_AW_handler_2 rfl (lv_at hl 2 rfl) ?_
  obtain ⟨s1, r3, hc2, h⟩ := xw_bn2I h
  cases r3 with
  | none =>
    refine xw_callVq (C := "AdviceWeaver") (T := T_AW) ⟨hx, hb, hml, hown, hts⟩ (c_AW_bodyOf l D A ad cs Z tt fu s0 s1 p1 p2 none hc2) (cwV 2 hts (gd_V hw_403 hw_404 hw_405 hw_175 hw_406) rfl rfl rfl (by decide +kernel) ⟨Nat.le_of_ble_eq_true rfl, Nat.le_of_ble_eq_true rfl⟩) hP hK hD hX hS (by decide) kc_AW (by decide) rfl rfl hl.1 rfl (Nat.le_of_ble_eq_true rfl) d_AW_handler_3 (fun H locs hP hS => ?_)
    refine W.eq (g2 := F0 m 6 ls [.null]) rfl ?_
    refine lv_astoreN hx hb d_AW_handler_6 hl (by decide) rfl (fun ls hl => ?_)
    refine lv_aloadN hx hb d_AW_handler_8 (lv_at hl 0 rfl) ?_
    refine lv_ifnullN (tgt := 37) hx hb d_AW_handler_10 (by decide) ?_
    refine lv_iconst (v := xw_i (-1)) hx hb d_AW_handler_37 rfl ?_
    exact xw_iretE hx hb hr hlk hP hK hD hX hS h d_AW_handler_38
  | some b4 =>
    obtain ⟨hg5, h⟩ := xw_grdI h
    refine xw_callVq (C := "AdviceWeaver") (T := T_AW) ⟨hx, hb, hml, hown, hts⟩ (c_AW_bodyOf l D A ad cs Z tt fu s0 s1 p1 p2 (some b4) hc2) (cwV 2 hts (gd_V hw_403 hw_404 hw_405 hw_175 hw_406) rfl rfl rfl (by decide +kernel) ⟨Nat.le_of_ble_eq_true rfl, Nat.le_of_ble_eq_true rfl⟩) hP hK hD hX hS (by decide) kc_AW (by decide) rfl rfl hl.1 rfl (Nat.le_of_ble_eq_true rfl) d_AW_handler_3 (fun H locs hP hS => ?_)
    refine W.eq (g2 := F0 m 6 ls [.ref (ad (48 + 4 * b4))]) rfl ?_
    refine lv_astore hx hb d_AW_handler_6 hl (by decide) rfl (fun ls hl => ?_)
    refine lv_aload hx hb d_AW_handler_8 (lv_at hl 0 rfl) ?_
    refine lv_ifnull hx hb d_AW_handler_10 ?_
    refine lv_iload_n hx hb d_AW_handler_13 rfl (lv_at hl 4 rfl) ?_
    obtain ⟨hg6, h⟩ := xw_grdI h
    refine xw_if_lt (tgt := 37) hx hb hg6 d_AW_handler_14 (by decide) (fun hc7 => ?_) (fun hc7 => ?_)
    · replace h := xw_ifT hc7 h
      refine lv_iconst (v := xw_i (-1)) hx hb d_AW_handler_37 rfl ?_
      exact xw_iretE hx hb hr hlk hP hK hD hX hS h d_AW_handler_38
    · replace h := xw_ifF hc7 h
      refine lv_iload_n hx hb d_AW_handler_17 rfl (lv_at hl 4 rfl) ?_
      refine lv_aload hx hb d_AW_handler_18 (lv_at hl 0 rfl) ?_
      refine xw_getI (C := "AdviceWeaver$Body") (T := T_B) hx hb hts hin_B hown hK hP (by omega) (kc_Body b4 (by omega)) (by decide) rfl 9 (by decide) (hts _ hw_425) (fun _ h9 => h9) rfl d_AW_handler_20 ?_
      obtain ⟨hg8, h⟩ := xw_grdI h
      refine xw_icmp_ge (tgt := 37) hx hb hg6 hg8 d_AW_handler_23 (by decide) (fun hc9 => ?_) (fun hc9 => ?_)
      · replace h := xw_ifT hc9 h
        refine lv_iconst (v := xw_i (-1)) hx hb d_AW_handler_37 rfl ?_
        exact xw_iretE hx hb hr hlk hP hK hD hX hS h d_AW_handler_38
      · replace h := xw_ifF hc9 h
        refine lv_iload hx hb d_AW_handler_26 (lv_at hl 5 rfl) ?_
        obtain ⟨hg10, h⟩ := xw_grdI h
        refine xw_if_lt (tgt := 37) hx hb hg10 d_AW_handler_28 (by decide) (fun hc11 => ?_) (fun hc11 => ?_)
        · replace h := xw_ifT hc11 h
          refine lv_iconst (v := xw_i (-1)) hx hb d_AW_handler_37 rfl ?_
          exact xw_iretE hx hb hr hlk hP hK hD hX hS h d_AW_handler_38
        · replace h := xw_ifF hc11 h
          refine lv_iload hx hb d_AW_handler_31 (lv_at hl 5 rfl) ?_
          refine lv_iconst (v := xw_i 3) hx hb d_AW_handler_33 rfl ?_
          refine xw_icmp_le (tgt := 39) hx hb hg10 (by decide) d_AW_handler_34 (by decide) (fun hc12 => ?_) (fun hc12 => ?_)
          · replace h := xw_ifT hc12 h
            refine lv_aload hx hb d_AW_handler_39 (lv_at hl 0 rfl) ?_
            refine lv_iload_n hx hb d_AW_handler_41 rfl (lv_at hl 4 rfl) ?_
            refine lv_iload hx hb d_AW_handler_42 (lv_at hl 5 rfl) ?_
            obtain ⟨s13, r15, hc14, h⟩ := xw_bn2I h
            refine xw_callVi (C := "AdviceWeaver$Body") (T := T_B) ⟨hx, hb, hml, hown, hts⟩ (c_B_part l D A ad cs Z tt fu s1 s13 b4 (by omega) p3 p4 r15 hc14) (cwV 2 hts (gd_V hw_428 hw_91 hw_92 hw_25 hw_93) rfl rfl rfl (by decide +kernel) ⟨Nat.le_of_ble_eq_true rfl, Nat.le_of_ble_eq_true rfl⟩) hP hK hD hX hS (by omega) (kc_Body b4 (by omega)) (by decide) rfl rfl hl.1 rfl (Nat.le_of_ble_eq_true rfl) d_AW_handler_44 (fun H locs hP hS => ?_)
            exact xw_iretE hx hb hr hlk hP hK hD hX hS h d_AW_handler_47
          · replace h := xw_ifF hc12 h
            refine lv_iconst (v := xw_i (-1)) hx hb d_AW_handler_37 rfl ?_
            exact xw_iretE hx hb hr hlk hP hK hD hX hS h d_AW_handler_38
def f_AW_depth (fu : Nat) (s0 : xw_S) (p1 : Int) (p2 : Int) (p3 : Int) : Option (xw_S × Int) :=
 xw_bn2 (f_AW_bodyOf fu s0 p1 p2) (fun s1 r3 => xw_mt r3 (some (s1, -1))
 (fun b4 => xw_grd (b4 < 13) (xw_bn2 (f_B_isReached fu s1 b4 p3) (fun s6 r8 => xw_grd (xw_r r8) (xw_if (r8 = 0) (some (s6, -1))
 (xw_grd ((0 ≤ p3 ∧ p3 < ((xb_cap b4 : Nat) : Int))) (some (s6, s6.1 (50 + 4 * b4) (p3).toNat))))))))
set_option maxRecDepth 100000 in
set_option maxHeartbeats 4000000 in
theorem c_AW_depth (l : Launch) (D : va_G) (A : Nat → Prop) (ad : Nat → Nat) (cs : Nat → ClassId) (Z : va_W) (tt : Nat → Nat) (fu : Nat) (s0 sZ : xw_S) (p1 : Int) (p2 : Int) (p3 : Int) (r0 : Int) (h : f_AW_depth fu s0 p1 p2 p3 = some (sZ, r0)) : Met l y_AW_depth w_AW_depth ({ frames := 1, cells := 0, slots := 0, locals := 22 }) (va_Pc [.ref (ad 0), .int (xw_i p1), .int (xw_i p2), .int (xw_i p3)] (xw_H D vwCl A kdC 100 ad cs Z tt s0)) (va_Qi (fun r u => r = xw_i r0 ∧ u = sZ) (xw_H D vwCl A kdC 100 ad cs Z tt) A) 0 0 A := by
  refine Met.ofW (cc := b_AW_depth) (maxL := 5) (ret := (some .int)) (by decide) rfl ?_
  intro p e s m args below meth c s₁ B hml hv
  obtain ⟨rfl, hP, hK, hD, hX⟩ := hv
  have hx := B.exec
  have hb := B.bytes
  have hr := B.returns
  have hts0 := atoms_spec (ws := w_AW_depth) B.pre
  have hts := fun w (hw : w ∈ wAll) => hts0 w (List.mem_cons_of_mem _ hw)
  have hown : s.vm.findClass "AdviceWeaver" = some m.cls := findClass_of_methodNamed B.named
  have hlk := B.notSynchronized
  clear hts0 B
  have hS : va_S A s.heap s.heap [] := va_S.rf
  have hl := lv_entry [.ref (ad 0), .int (xw_i p1), .int (xw_i p2), .int (xw_i p3)] (n := 5) (Nat.le_of_ble_eq_true rfl)
  rw [lg_entry_eq]
  generalize (lg_sl [.ref (ad 0), .int (xw_i p1), .int (xw_i p2), .int (xw_i p3)] ++ List.replicate (5 - (lg_sl [.ref (ad 0), .int (xw_i p1), .int (xw_i p2), .int (xw_i p3)]).length) Slot.unset).toArray = ls at hl ⊢
  have hl : lv_has ls 5 [(0, .ref (ad 0)), (1, .int (xw_i p1)), (2, .int (xw_i p2)), (3, .int (xw_i p3))] := hl
  unfold f_AW_depth at h
  refine lv_aload_n hx hb d_AW_depth_0 rfl (lv_at hl 0 rfl) ?_
  refine lv_iload_n hx hb d_AW_depth_1 rfl (lv_at hl 1 rfl) ?_
  refine lv_iload_n hx hb d_AW_depth_2 rfl (lv_at hl 2 rfl) ?_
  obtain ⟨s1, r3, hc2, h⟩ := xw_bn2I h
  cases r3 with
  | none =>
    refine xw_callVq (C := "AdviceWeaver") (T := T_AW) ⟨hx, hb, hml, hown, hts⟩ (c_AW_bodyOf l D A ad cs Z tt fu s0 s1 p1 p2 none hc2) (cwV 2 hts (gd_V hw_403 hw_404 hw_405 hw_175 hw_406) rfl rfl rfl (by decide +kernel) ⟨Nat.le_of_ble_eq_true rfl, Nat.le_of_ble_eq_true rfl⟩) hP hK hD hX hS (by decide) kc_AW (by decide) rfl rfl hl.1 rfl (Nat.le_of_ble_eq_true rfl) d_AW_depth_3 (fun H locs hP hS => ?_)
    refine W.eq (g2 := F0 m 6 ls [.null]) rfl ?_
    refine lv_astoreN hx hb d_AW_depth_6 hl (by decide) rfl (fun ls hl => ?_)
    refine lv_aloadN hx hb d_AW_depth_8 (lv_at hl 0 rfl) ?_
    refine lv_ifnullN (tgt := 22) hx hb d_AW_depth_10 (by decide) ?_
    refine lv_iconst (v := xw_i (-1)) hx hb d_AW_depth_22 rfl ?_
    exact xw_iretE hx hb hr hlk hP hK hD hX hS h d_AW_depth_23
  | some b4 =>
    obtain ⟨hg5, h⟩ := xw_grdI h
    refine xw_callVq (C := "AdviceWeaver") (T := T_AW) ⟨hx, hb, hml, hown, hts⟩ (c_AW_bodyOf l D A ad cs Z tt fu s0 s1 p1 p2 (some b4) hc2) (cwV 2 hts (gd_V hw_403 hw_404 hw_405 hw_175 hw_406) rfl rfl rfl (by decide +kernel) ⟨Nat.le_of_ble_eq_true rfl, Nat.le_of_ble_eq_true rfl⟩) hP hK hD hX hS (by decide) kc_AW (by decide) rfl rfl hl.1 rfl (Nat.le_of_ble_eq_true rfl) d_AW_depth_3 (fun H locs hP hS => ?_)
    refine W.eq (g2 := F0 m 6 ls [.ref (ad (48 + 4 * b4))]) rfl ?_
    refine lv_astore hx hb d_AW_depth_6 hl (by decide) rfl (fun ls hl => ?_)
    refine lv_aload hx hb d_AW_depth_8 (lv_at hl 0 rfl) ?_
    refine lv_ifnull hx hb d_AW_depth_10 ?_
    refine lv_aload hx hb d_AW_depth_13 (lv_at hl 0 rfl) ?_
    refine lv_iload_n hx hb d_AW_depth_15 rfl (lv_at hl 4 rfl) ?_
    obtain ⟨s6, r8, hc7, h⟩ := xw_bn2I h
    refine xw_callVi (C := "AdviceWeaver$Body") (T := T_B) ⟨hx, hb, hml, hown, hts⟩ (c_B_isReached l D A ad cs Z tt fu s1 s6 b4 (by omega) p3 r8 hc7) (cwV 1 hts (gd_V hw_429 hw_96 hw_97 hw_25 hw_98) rfl rfl rfl (by decide +kernel) ⟨Nat.le_of_ble_eq_true rfl, Nat.le_of_ble_eq_true rfl⟩) hP hK hD hX hS (by omega) (kc_Body b4 (by omega)) (by decide) rfl rfl hl.1 rfl (Nat.le_of_ble_eq_true rfl) d_AW_depth_16 (fun H locs hP hS => ?_)
    obtain ⟨hg9, h⟩ := xw_grdI h
    refine xw_if_ne (tgt := 24) hx hb hg9 d_AW_depth_19 (by decide) (fun hc10 => ?_) (fun hc10 => ?_)
    · replace h := xw_ifF hc10 h
      refine lv_aload hx hb d_AW_depth_24 (lv_at hl 0 rfl) ?_
      refine xw_getR (C := "AdviceWeaver$Body") (T := T_B) hx hb hts hin_B hown hK hP (by omega) (kc_Body b4 (by omega)) (by decide) rfl 1 (by decide) (hts _ hw_430) (fun _ h9 => h9) rfl d_AW_depth_26 ?_
      refine lv_iload_n hx hb d_AW_depth_29 rfl (lv_at hl 4 rfl) ?_
      obtain ⟨hg11, h⟩ := xw_grdI h
      refine xw_iald hx hb hK hP (by omega) (kc_bdepths b4 (by omega)) (xb_capL _) hg11 d_AW_depth_30 ?_
      exact xw_iretE hx hb hr hlk hP hK hD hX hS h d_AW_depth_31
    · replace h := xw_ifT hc10 h
      refine lv_iconst (v := xw_i (-1)) hx hb d_AW_depth_22 rfl ?_
      exact xw_iretE hx hb hr hlk hP hK hD hX hS h d_AW_depth_23
