section
variable {p : Program} {l : Launch} {e : Env} {s : State} {m : MethodId} {args : Array Value} {below : List Frame} {meth : Method} {c : Code} {g : GG}
theorem d_Worker_broughtBy_0 : decode b_Worker_broughtBy 0 = .ok (.aload_n 2, 1) := by decide +kernel
theorem d_Worker_broughtBy_1 : decode b_Worker_broughtBy 1 = .ok (.iload_n 3, 1) := by decide +kernel
theorem d_Worker_broughtBy_2 : decode b_Worker_broughtBy 2 = .ok (.iconst 2, 1) := by decide +kernel
theorem d_Worker_broughtBy_3 : decode b_Worker_broughtBy 3 = .ok (.iadd, 1) := by decide +kernel
theorem d_Worker_broughtBy_4 : decode b_Worker_broughtBy 4 = .ok (.invokevirtual 72, 3) := by decide +kernel
theorem d_Worker_broughtBy_7 : decode b_Worker_broughtBy 7 = .ok (.istore 6, 2) := by decide +kernel
theorem d_Worker_broughtBy_9 : decode b_Worker_broughtBy 9 = .ok (.aload_n 2, 1) := by decide +kernel
theorem d_Worker_broughtBy_10 : decode b_Worker_broughtBy 10 = .ok (.iload_n 3, 1) := by decide +kernel
theorem d_Worker_broughtBy_11 : decode b_Worker_broughtBy 11 = .ok (.invokevirtual 37, 3) := by decide +kernel
theorem d_Worker_broughtBy_14 : decode b_Worker_broughtBy 14 = .ok (.bipush 73, 2) := by decide +kernel
theorem d_Worker_broughtBy_16 : decode b_Worker_broughtBy 16 = .ok (.if_icmp .ne 46, 3) := by decide +kernel
theorem d_Worker_broughtBy_19 : decode b_Worker_broughtBy 19 = .ok (.aload_n 0, 1) := by decide +kernel
theorem d_Worker_broughtBy_20 : decode b_Worker_broughtBy 20 = .ok (.aload_n 2, 1) := by decide +kernel
theorem d_Worker_broughtBy_21 : decode b_Worker_broughtBy 21 = .ok (.iload 6, 2) := by decide +kernel
theorem d_Worker_broughtBy_23 : decode b_Worker_broughtBy 23 = .ok (.iload 4, 2) := by decide +kernel
theorem d_Worker_broughtBy_25 : decode b_Worker_broughtBy 25 = .ok (.iload 5, 2) := by decide +kernel
theorem d_Worker_broughtBy_27 : decode b_Worker_broughtBy 27 = .ok (.iconst 1, 1) := by decide +kernel
theorem d_Worker_broughtBy_28 : decode b_Worker_broughtBy 28 = .ok (.iadd, 1) := by decide +kernel
theorem d_Worker_broughtBy_29 : decode b_Worker_broughtBy 29 = .ok (.invokevirtual 23, 3) := by decide +kernel
theorem d_Worker_broughtBy_32 : decode b_Worker_broughtBy 32 = .ok (.lstore 7, 2) := by decide +kernel
theorem d_Worker_broughtBy_34 : decode b_Worker_broughtBy 34 = .ok (.lload 7, 2) := by decide +kernel
theorem d_Worker_broughtBy_36 : decode b_Worker_broughtBy 36 = .ok (.lconst 0, 1) := by decide +kernel
theorem d_Worker_broughtBy_37 : decode b_Worker_broughtBy 37 = .ok (.lcmp, 1) := by decide +kernel
theorem d_Worker_broughtBy_38 : decode b_Worker_broughtBy 38 = .ok (.ifCond .lt 20, 3) := by decide +kernel
theorem d_Worker_broughtBy_41 : decode b_Worker_broughtBy 41 = .ok (.lload 7, 2) := by decide +kernel
theorem d_Worker_broughtBy_43 : decode b_Worker_broughtBy 43 = .ok (.ldc2_w 79, 3) := by decide +kernel
theorem d_Worker_broughtBy_46 : decode b_Worker_broughtBy 46 = .ok (.lcmp, 1) := by decide +kernel
theorem d_Worker_broughtBy_47 : decode b_Worker_broughtBy 47 = .ok (.ifCond .ge 11, 3) := by decide +kernel
theorem d_Worker_broughtBy_50 : decode b_Worker_broughtBy 50 = .ok (.lconst 1, 1) := by decide +kernel
theorem d_Worker_broughtBy_51 : decode b_Worker_broughtBy 51 = .ok (.lload 7, 2) := by decide +kernel
theorem d_Worker_broughtBy_53 : decode b_Worker_broughtBy 53 = .ok (.l2i, 1) := by decide +kernel
theorem d_Worker_broughtBy_54 : decode b_Worker_broughtBy 54 = .ok (.lshl, 1) := by decide +kernel
theorem d_Worker_broughtBy_55 : decode b_Worker_broughtBy 55 = .ok (.goto 6, 3) := by decide +kernel
theorem d_Worker_broughtBy_58 : decode b_Worker_broughtBy 58 = .ok (.ldc2_w 35, 3) := by decide +kernel
theorem d_Worker_broughtBy_61 : decode b_Worker_broughtBy 61 = .ok (.lreturn, 1) := by decide +kernel
theorem d_Worker_broughtBy_62 : decode b_Worker_broughtBy 62 = .ok (.aload_n 0, 1) := by decide +kernel
theorem d_Worker_broughtBy_63 : decode b_Worker_broughtBy 63 = .ok (.aload_n 2, 1) := by decide +kernel
theorem d_Worker_broughtBy_64 : decode b_Worker_broughtBy 64 = .ok (.iload 6, 2) := by decide +kernel
theorem d_Worker_broughtBy_66 : decode b_Worker_broughtBy 66 = .ok (.iload 4, 2) := by decide +kernel
theorem d_Worker_broughtBy_68 : decode b_Worker_broughtBy 68 = .ok (.iload 5, 2) := by decide +kernel
theorem d_Worker_broughtBy_70 : decode b_Worker_broughtBy 70 = .ok (.iconst 1, 1) := by decide +kernel
theorem d_Worker_broughtBy_71 : decode b_Worker_broughtBy 71 = .ok (.iadd, 1) := by decide +kernel
theorem d_Worker_broughtBy_72 : decode b_Worker_broughtBy 72 = .ok (.invokevirtual 27, 3) := by decide +kernel
theorem d_Worker_broughtBy_75 : decode b_Worker_broughtBy 75 = .ok (.istore 7, 2) := by decide +kernel
theorem d_Worker_broughtBy_77 : decode b_Worker_broughtBy 77 = .ok (.iload 7, 2) := by decide +kernel
theorem d_Worker_broughtBy_79 : decode b_Worker_broughtBy 79 = .ok (.ifCond .lt 11, 3) := by decide +kernel
theorem d_Worker_broughtBy_82 : decode b_Worker_broughtBy 82 = .ok (.iload 7, 2) := by decide +kernel
theorem d_Worker_broughtBy_84 : decode b_Worker_broughtBy 84 = .ok (.i2l, 1) := by decide +kernel
theorem d_Worker_broughtBy_85 : decode b_Worker_broughtBy 85 = .ok (.iload_n 1, 1) := by decide +kernel
theorem d_Worker_broughtBy_86 : decode b_Worker_broughtBy 86 = .ok (.lshl, 1) := by decide +kernel
theorem d_Worker_broughtBy_87 : decode b_Worker_broughtBy 87 = .ok (.goto 6, 3) := by decide +kernel
theorem d_Worker_broughtBy_90 : decode b_Worker_broughtBy 90 = .ok (.ldc2_w 35, 3) := by decide +kernel
theorem d_Worker_broughtBy_93 : decode b_Worker_broughtBy 93 = .ok (.lreturn, 1) := by decide +kernel
theorem d_Worker_compared_0 : decode b_Worker_compared 0 = .ok (.aload_n 0, 1) := by decide +kernel
theorem d_Worker_compared_1 : decode b_Worker_compared 1 = .ok (.aload_n 1, 1) := by decide +kernel
theorem d_Worker_compared_2 : decode b_Worker_compared 2 = .ok (.iload_n 2, 1) := by decide +kernel
theorem d_Worker_compared_3 : decode b_Worker_compared 3 = .ok (.iconst 1, 1) := by decide +kernel
theorem d_Worker_compared_4 : decode b_Worker_compared 4 = .ok (.iadd, 1) := by decide +kernel
theorem d_Worker_compared_5 : decode b_Worker_compared 5 = .ok (.iload_n 3, 1) := by decide +kernel
theorem d_Worker_compared_6 : decode b_Worker_compared 6 = .ok (.iload 4, 2) := by decide +kernel
theorem d_Worker_compared_8 : decode b_Worker_compared 8 = .ok (.iconst 1, 1) := by decide +kernel
theorem d_Worker_compared_9 : decode b_Worker_compared 9 = .ok (.iadd, 1) := by decide +kernel
theorem d_Worker_compared_10 : decode b_Worker_compared 10 = .ok (.invokevirtual 23, 3) := by decide +kernel
theorem d_Worker_compared_13 : decode b_Worker_compared 13 = .ok (.lstore 5, 2) := by decide +kernel
theorem d_Worker_compared_15 : decode b_Worker_compared 15 = .ok (.lload 5, 2) := by decide +kernel
theorem d_Worker_compared_17 : decode b_Worker_compared 17 = .ok (.lconst 0, 1) := by decide +kernel
theorem d_Worker_compared_18 : decode b_Worker_compared 18 = .ok (.lcmp, 1) := by decide +kernel
theorem d_Worker_compared_19 : decode b_Worker_compared 19 = .ok (.ifCond .ge 6, 3) := by decide +kernel
theorem d_Worker_compared_22 : decode b_Worker_compared 22 = .ok (.bipush (-3), 2) := by decide +kernel
theorem d_Worker_compared_24 : decode b_Worker_compared 24 = .ok (.ireturn, 1) := by decide +kernel
theorem d_Worker_compared_25 : decode b_Worker_compared 25 = .ok (.aload_n 0, 1) := by decide +kernel
theorem d_Worker_compared_26 : decode b_Worker_compared 26 = .ok (.aload_n 1, 1) := by decide +kernel
theorem d_Worker_compared_27 : decode b_Worker_compared 27 = .ok (.aload_n 1, 1) := by decide +kernel
theorem d_Worker_compared_28 : decode b_Worker_compared 28 = .ok (.iload_n 2, 1) := by decide +kernel
theorem d_Worker_compared_29 : decode b_Worker_compared 29 = .ok (.iconst 1, 1) := by decide +kernel
theorem d_Worker_compared_30 : decode b_Worker_compared 30 = .ok (.iadd, 1) := by decide +kernel
theorem d_Worker_compared_31 : decode b_Worker_compared 31 = .ok (.invokevirtual 72, 3) := by decide +kernel
theorem d_Worker_compared_34 : decode b_Worker_compared 34 = .ok (.iload_n 3, 1) := by decide +kernel
theorem d_Worker_compared_35 : decode b_Worker_compared 35 = .ok (.iload 4, 2) := by decide +kernel
theorem d_Worker_compared_37 : decode b_Worker_compared 37 = .ok (.iconst 1, 1) := by decide +kernel
theorem d_Worker_compared_38 : decode b_Worker_compared 38 = .ok (.iadd, 1) := by decide +kernel
theorem d_Worker_compared_39 : decode b_Worker_compared 39 = .ok (.invokevirtual 23, 3) := by decide +kernel
theorem d_Worker_compared_42 : decode b_Worker_compared 42 = .ok (.lstore 7, 2) := by decide +kernel
theorem d_Worker_compared_44 : decode b_Worker_compared 44 = .ok (.lload 7, 2) := by decide +kernel
theorem d_Worker_compared_46 : decode b_Worker_compared 46 = .ok (.lconst 0, 1) := by decide +kernel
theorem d_Worker_compared_47 : decode b_Worker_compared 47 = .ok (.lcmp, 1) := by decide +kernel
theorem d_Worker_compared_48 : decode b_Worker_compared 48 = .ok (.ifCond .ge 6, 3) := by decide +kernel
theorem d_Worker_compared_51 : decode b_Worker_compared 51 = .ok (.bipush (-3), 2) := by decide +kernel
theorem d_Worker_compared_53 : decode b_Worker_compared 53 = .ok (.ireturn, 1) := by decide +kernel
theorem d_Worker_compared_54 : decode b_Worker_compared 54 = .ok (.aload_n 1, 1) := by decide +kernel
theorem d_Worker_compared_55 : decode b_Worker_compared 55 = .ok (.iload_n 2, 1) := by decide +kernel
theorem d_Worker_compared_56 : decode b_Worker_compared 56 = .ok (.invokevirtual 37, 3) := by decide +kernel
theorem d_Worker_compared_59 : decode b_Worker_compared 59 = .ok (.bipush 61, 2) := by decide +kernel
theorem d_Worker_compared_61 : decode b_Worker_compared 61 = .ok (.if_icmp .ne 19, 3) := by decide +kernel
theorem d_Worker_compared_64 : decode b_Worker_compared 64 = .ok (.lload 5, 2) := by decide +kernel
theorem d_Worker_compared_66 : decode b_Worker_compared 66 = .ok (.lload 7, 2) := by decide +kernel
theorem d_Worker_compared_68 : decode b_Worker_compared 68 = .ok (.lcmp, 1) := by decide +kernel
theorem d_Worker_compared_69 : decode b_Worker_compared 69 = .ok (.ifCond .ne 7, 3) := by decide +kernel
theorem d_Worker_compared_72 : decode b_Worker_compared 72 = .ok (.iconst 1, 1) := by decide +kernel
theorem d_Worker_compared_73 : decode b_Worker_compared 73 = .ok (.goto 32, 3) := by decide +kernel
theorem d_Worker_compared_76 : decode b_Worker_compared 76 = .ok (.iconst 0, 1) := by decide +kernel
theorem d_Worker_compared_77 : decode b_Worker_compared 77 = .ok (.goto 28, 3) := by decide +kernel
theorem d_Worker_compared_80 : decode b_Worker_compared 80 = .ok (.lload 5, 2) := by decide +kernel
theorem d_Worker_compared_82 : decode b_Worker_compared 82 = .ok (.ldc2_w 79, 3) := by decide +kernel
theorem d_Worker_compared_85 : decode b_Worker_compared 85 = .ok (.lcmp, 1) := by decide +kernel
theorem d_Worker_compared_86 : decode b_Worker_compared 86 = .ok (.ifCond .ge 18, 3) := by decide +kernel
theorem d_Worker_compared_89 : decode b_Worker_compared 89 = .ok (.lload 7, 2) := by decide +kernel
theorem d_Worker_compared_91 : decode b_Worker_compared 91 = .ok (.lload 5, 2) := by decide +kernel
theorem d_Worker_compared_93 : decode b_Worker_compared 93 = .ok (.l2i, 1) := by decide +kernel
theorem d_Worker_compared_94 : decode b_Worker_compared 94 = .ok (.invokestatic 83, 3) := by decide +kernel
theorem d_Worker_compared_97 : decode b_Worker_compared 97 = .ok (.ifCond .eq 7, 3) := by decide +kernel
theorem d_Worker_compared_100 : decode b_Worker_compared 100 = .ok (.iconst 1, 1) := by decide +kernel
theorem d_Worker_compared_101 : decode b_Worker_compared 101 = .ok (.goto 4, 3) := by decide +kernel
theorem d_Worker_compared_104 : decode b_Worker_compared 104 = .ok (.iconst 0, 1) := by decide +kernel
theorem d_Worker_compared_105 : decode b_Worker_compared 105 = .ok (.istore 9, 2) := by decide +kernel
theorem d_Worker_compared_107 : decode b_Worker_compared 107 = .ok (.iload 9, 2) := by decide +kernel
theorem d_Worker_compared_109 : decode b_Worker_compared 109 = .ok (.ifCond .eq 7, 3) := by decide +kernel
theorem d_Worker_compared_112 : decode b_Worker_compared 112 = .ok (.iconst 1, 1) := by decide +kernel
theorem d_Worker_compared_113 : decode b_Worker_compared 113 = .ok (.goto 4, 3) := by decide +kernel
theorem d_Worker_compared_116 : decode b_Worker_compared 116 = .ok (.iconst 0, 1) := by decide +kernel
theorem d_Worker_compared_117 : decode b_Worker_compared 117 = .ok (.ireturn, 1) := by decide +kernel
theorem d_Worker_connected_0 : decode b_Worker_connected 0 = .ok (.aload_n 0, 1) := by decide +kernel
theorem d_Worker_connected_1 : decode b_Worker_connected 1 = .ok (.aload_n 1, 1) := by decide +kernel
theorem d_Worker_connected_2 : decode b_Worker_connected 2 = .ok (.iload_n 2, 1) := by decide +kernel
theorem d_Worker_connected_3 : decode b_Worker_connected 3 = .ok (.iconst 1, 1) := by decide +kernel
theorem d_Worker_connected_4 : decode b_Worker_connected 4 = .ok (.iadd, 1) := by decide +kernel
theorem d_Worker_connected_5 : decode b_Worker_connected 5 = .ok (.iload_n 3, 1) := by decide +kernel
theorem d_Worker_connected_6 : decode b_Worker_connected 6 = .ok (.iload 4, 2) := by decide +kernel
theorem d_Worker_connected_8 : decode b_Worker_connected 8 = .ok (.iconst 1, 1) := by decide +kernel
theorem d_Worker_connected_9 : decode b_Worker_connected 9 = .ok (.iadd, 1) := by decide +kernel
theorem d_Worker_connected_10 : decode b_Worker_connected 10 = .ok (.invokevirtual 27, 3) := by decide +kernel
theorem d_Worker_connected_13 : decode b_Worker_connected 13 = .ok (.istore 5, 2) := by decide +kernel
theorem d_Worker_connected_15 : decode b_Worker_connected 15 = .ok (.iload 5, 2) := by decide +kernel
theorem d_Worker_connected_17 : decode b_Worker_connected 17 = .ok (.ifCond .ge 6, 3) := by decide +kernel
theorem d_Worker_connected_20 : decode b_Worker_connected 20 = .ok (.bipush (-3), 2) := by decide +kernel
theorem d_Worker_connected_22 : decode b_Worker_connected 22 = .ok (.ireturn, 1) := by decide +kernel
theorem d_Worker_connected_23 : decode b_Worker_connected 23 = .ok (.aload_n 1, 1) := by decide +kernel
theorem d_Worker_connected_24 : decode b_Worker_connected 24 = .ok (.iload_n 2, 1) := by decide +kernel
theorem d_Worker_connected_25 : decode b_Worker_connected 25 = .ok (.invokevirtual 37, 3) := by decide +kernel
theorem d_Worker_connected_28 : decode b_Worker_connected 28 = .ok (.bipush 33, 2) := by decide +kernel
theorem d_Worker_connected_30 : decode b_Worker_connected 30 = .ok (.if_icmp .ne 8, 3) := by decide +kernel
theorem d_Worker_connected_33 : decode b_Worker_connected 33 = .ok (.iconst 1, 1) := by decide +kernel
theorem d_Worker_connected_34 : decode b_Worker_connected 34 = .ok (.iload 5, 2) := by decide +kernel
theorem d_Worker_connected_36 : decode b_Worker_connected 36 = .ok (.isub, 1) := by decide +kernel
theorem d_Worker_connected_37 : decode b_Worker_connected 37 = .ok (.ireturn, 1) := by decide +kernel
theorem d_Worker_connected_38 : decode b_Worker_connected 38 = .ok (.aload_n 0, 1) := by decide +kernel
theorem d_Worker_connected_39 : decode b_Worker_connected 39 = .ok (.aload_n 1, 1) := by decide +kernel
theorem d_Worker_connected_40 : decode b_Worker_connected 40 = .ok (.aload_n 1, 1) := by decide +kernel
theorem d_Worker_connected_41 : decode b_Worker_connected 41 = .ok (.iload_n 2, 1) := by decide +kernel
theorem d_Worker_connected_42 : decode b_Worker_connected 42 = .ok (.iconst 1, 1) := by decide +kernel
theorem d_Worker_connected_43 : decode b_Worker_connected 43 = .ok (.iadd, 1) := by decide +kernel
theorem d_Worker_connected_44 : decode b_Worker_connected 44 = .ok (.invokevirtual 72, 3) := by decide +kernel
theorem d_Worker_connected_47 : decode b_Worker_connected 47 = .ok (.iload_n 3, 1) := by decide +kernel
theorem d_Worker_connected_48 : decode b_Worker_connected 48 = .ok (.iload 4, 2) := by decide +kernel
theorem d_Worker_connected_50 : decode b_Worker_connected 50 = .ok (.iconst 1, 1) := by decide +kernel
theorem d_Worker_connected_51 : decode b_Worker_connected 51 = .ok (.iadd, 1) := by decide +kernel
theorem d_Worker_connected_52 : decode b_Worker_connected 52 = .ok (.invokevirtual 27, 3) := by decide +kernel
theorem d_Worker_connected_55 : decode b_Worker_connected 55 = .ok (.istore 6, 2) := by decide +kernel
theorem d_Worker_connected_57 : decode b_Worker_connected 57 = .ok (.iload 6, 2) := by decide +kernel
theorem d_Worker_connected_59 : decode b_Worker_connected 59 = .ok (.ifCond .ge 6, 3) := by decide +kernel
theorem d_Worker_connected_62 : decode b_Worker_connected 62 = .ok (.bipush (-3), 2) := by decide +kernel
theorem d_Worker_connected_64 : decode b_Worker_connected 64 = .ok (.ireturn, 1) := by decide +kernel
theorem d_Worker_connected_65 : decode b_Worker_connected 65 = .ok (.aload_n 1, 1) := by decide +kernel
theorem d_Worker_connected_66 : decode b_Worker_connected 66 = .ok (.iload_n 2, 1) := by decide +kernel
theorem d_Worker_connected_67 : decode b_Worker_connected 67 = .ok (.invokevirtual 37, 3) := by decide +kernel
theorem d_Worker_connected_70 : decode b_Worker_connected 70 = .ok (.lookupswitch 38 #[(94, 26), (118, 32)], 26) := by decide +kernel
theorem d_Worker_connected_96 : decode b_Worker_connected 96 = .ok (.iload 5, 2) := by decide +kernel
theorem d_Worker_connected_98 : decode b_Worker_connected 98 = .ok (.iload 6, 2) := by decide +kernel
theorem d_Worker_connected_100 : decode b_Worker_connected 100 = .ok (.iand, 1) := by decide +kernel
theorem d_Worker_connected_101 : decode b_Worker_connected 101 = .ok (.ireturn, 1) := by decide +kernel
theorem d_Worker_connected_102 : decode b_Worker_connected 102 = .ok (.iload 5, 2) := by decide +kernel
theorem d_Worker_connected_104 : decode b_Worker_connected 104 = .ok (.iload 6, 2) := by decide +kernel
theorem d_Worker_connected_106 : decode b_Worker_connected 106 = .ok (.ior, 1) := by decide +kernel
theorem d_Worker_connected_107 : decode b_Worker_connected 107 = .ok (.ireturn, 1) := by decide +kernel
theorem d_Worker_connected_108 : decode b_Worker_connected 108 = .ok (.iconst 1, 1) := by decide +kernel
theorem d_Worker_connected_109 : decode b_Worker_connected 109 = .ok (.iload 5, 2) := by decide +kernel
theorem d_Worker_connected_111 : decode b_Worker_connected 111 = .ok (.isub, 1) := by decide +kernel
theorem d_Worker_connected_112 : decode b_Worker_connected 112 = .ok (.iload 6, 2) := by decide +kernel
theorem d_Worker_connected_114 : decode b_Worker_connected 114 = .ok (.ior, 1) := by decide +kernel
theorem d_Worker_connected_115 : decode b_Worker_connected 115 = .ok (.ireturn, 1) := by decide +kernel
theorem d_Worker_formula_0 : decode b_Worker_formula 0 = .ok (.aload_n 0, 1) := by decide +kernel
theorem d_Worker_formula_1 : decode b_Worker_formula 1 = .ok (.iload 4, 2) := by decide +kernel
theorem d_Worker_formula_3 : decode b_Worker_formula 3 = .ok (.invokevirtual 31, 3) := by decide +kernel
theorem d_Worker_formula_6 : decode b_Worker_formula 6 = .ok (.ifCond .ne 6, 3) := by decide +kernel
theorem d_Worker_formula_9 : decode b_Worker_formula 9 = .ok (.bipush (-3), 2) := by decide +kernel
theorem d_Worker_formula_11 : decode b_Worker_formula 11 = .ok (.ireturn, 1) := by decide +kernel
theorem d_Worker_formula_12 : decode b_Worker_formula 12 = .ok (.aload_n 1, 1) := by decide +kernel
theorem d_Worker_formula_13 : decode b_Worker_formula 13 = .ok (.iload_n 2, 1) := by decide +kernel
theorem d_Worker_formula_14 : decode b_Worker_formula 14 = .ok (.invokevirtual 37, 3) := by decide +kernel
theorem d_Worker_formula_17 : decode b_Worker_formula 17 = .ok (.lookupswitch 63 #[(60, 43), (61, 43), (69, 53), (76, 53)], 43) := by decide +kernel
theorem d_Worker_formula_60 : decode b_Worker_formula 60 = .ok (.aload_n 0, 1) := by decide +kernel
theorem d_Worker_formula_61 : decode b_Worker_formula 61 = .ok (.aload_n 1, 1) := by decide +kernel
theorem d_Worker_formula_62 : decode b_Worker_formula 62 = .ok (.iload_n 2, 1) := by decide +kernel
theorem d_Worker_formula_63 : decode b_Worker_formula 63 = .ok (.iload_n 3, 1) := by decide +kernel
theorem d_Worker_formula_64 : decode b_Worker_formula 64 = .ok (.iload 4, 2) := by decide +kernel
theorem d_Worker_formula_66 : decode b_Worker_formula 66 = .ok (.invokevirtual 105, 3) := by decide +kernel
theorem d_Worker_formula_69 : decode b_Worker_formula 69 = .ok (.ireturn, 1) := by decide +kernel
theorem d_Worker_formula_70 : decode b_Worker_formula 70 = .ok (.aload_n 0, 1) := by decide +kernel
theorem d_Worker_formula_71 : decode b_Worker_formula 71 = .ok (.aload_n 1, 1) := by decide +kernel
theorem d_Worker_formula_72 : decode b_Worker_formula 72 = .ok (.iload_n 2, 1) := by decide +kernel
theorem d_Worker_formula_73 : decode b_Worker_formula 73 = .ok (.iload_n 3, 1) := by decide +kernel
theorem d_Worker_formula_74 : decode b_Worker_formula 74 = .ok (.iload 4, 2) := by decide +kernel
theorem d_Worker_formula_76 : decode b_Worker_formula 76 = .ok (.invokevirtual 108, 3) := by decide +kernel
theorem d_Worker_formula_79 : decode b_Worker_formula 79 = .ok (.ireturn, 1) := by decide +kernel
theorem d_Worker_formula_80 : decode b_Worker_formula 80 = .ok (.aload_n 0, 1) := by decide +kernel
theorem d_Worker_formula_81 : decode b_Worker_formula 81 = .ok (.aload_n 1, 1) := by decide +kernel
theorem d_Worker_formula_82 : decode b_Worker_formula 82 = .ok (.iload_n 2, 1) := by decide +kernel
theorem d_Worker_formula_83 : decode b_Worker_formula 83 = .ok (.iload_n 3, 1) := by decide +kernel
theorem d_Worker_formula_84 : decode b_Worker_formula 84 = .ok (.iload 4, 2) := by decide +kernel
theorem d_Worker_formula_86 : decode b_Worker_formula 86 = .ok (.invokevirtual 111, 3) := by decide +kernel
theorem d_Worker_formula_89 : decode b_Worker_formula 89 = .ok (.ireturn, 1) := by decide +kernel
theorem d_Worker_gathered_0 : decode b_Worker_gathered 0 = .ok (.aload_n 1, 1) := by decide +kernel
theorem d_Worker_gathered_1 : decode b_Worker_gathered 1 = .ok (.iload_n 2, 1) := by decide +kernel
theorem d_Worker_gathered_2 : decode b_Worker_gathered 2 = .ok (.iload 5, 2) := by decide +kernel
theorem d_Worker_gathered_4 : decode b_Worker_gathered 4 = .ok (.invokestatic 87, 3) := by decide +kernel
theorem d_Worker_gathered_7 : decode b_Worker_gathered 7 = .ok (.istore 7, 2) := by decide +kernel
theorem d_Worker_gathered_9 : decode b_Worker_gathered 9 = .ok (.aload_n 0, 1) := by decide +kernel
theorem d_Worker_gathered_10 : decode b_Worker_gathered 10 = .ok (.getfield 9, 3) := by decide +kernel
theorem d_Worker_gathered_13 : decode b_Worker_gathered 13 = .ok (.iload 7, 2) := by decide +kernel
theorem d_Worker_gathered_15 : decode b_Worker_gathered 15 = .ok (.laload, 1) := by decide +kernel
theorem d_Worker_gathered_16 : decode b_Worker_gathered 16 = .ok (.lstore 8, 2) := by decide +kernel
theorem d_Worker_gathered_18 : decode b_Worker_gathered 18 = .ok (.lconst 0, 1) := by decide +kernel
theorem d_Worker_gathered_19 : decode b_Worker_gathered 19 = .ok (.lstore 10, 2) := by decide +kernel
theorem d_Worker_gathered_21 : decode b_Worker_gathered 21 = .ok (.iconst 0, 1) := by decide +kernel
theorem d_Worker_gathered_22 : decode b_Worker_gathered 22 = .ok (.istore 12, 2) := by decide +kernel
theorem d_Worker_gathered_24 : decode b_Worker_gathered 24 = .ok (.iload 12, 2) := by decide +kernel
theorem d_Worker_gathered_26 : decode b_Worker_gathered 26 = .ok (.bipush 62, 2) := by decide +kernel
theorem d_Worker_gathered_28 : decode b_Worker_gathered 28 = .ok (.if_icmp .ge 69, 3) := by decide +kernel
theorem d_Worker_gathered_31 : decode b_Worker_gathered 31 = .ok (.lload_n 3, 1) := by decide +kernel
theorem d_Worker_gathered_32 : decode b_Worker_gathered 32 = .ok (.iload 12, 2) := by decide +kernel
theorem d_Worker_gathered_34 : decode b_Worker_gathered 34 = .ok (.lshr, 1) := by decide +kernel
theorem d_Worker_gathered_35 : decode b_Worker_gathered 35 = .ok (.lconst 0, 1) := by decide +kernel
theorem d_Worker_gathered_36 : decode b_Worker_gathered 36 = .ok (.lcmp, 1) := by decide +kernel
theorem d_Worker_gathered_37 : decode b_Worker_gathered 37 = .ok (.ifCond .eq 60, 3) := by decide +kernel
theorem d_Worker_gathered_40 : decode b_Worker_gathered 40 = .ok (.lload_n 3, 1) := by decide +kernel
theorem d_Worker_gathered_41 : decode b_Worker_gathered 41 = .ok (.iload 12, 2) := by decide +kernel
theorem d_Worker_gathered_43 : decode b_Worker_gathered 43 = .ok (.invokestatic 83, 3) := by decide +kernel
theorem d_Worker_gathered_46 : decode b_Worker_gathered 46 = .ok (.ifCond .eq 45, 3) := by decide +kernel
theorem d_Worker_gathered_49 : decode b_Worker_gathered 49 = .ok (.aload_n 0, 1) := by decide +kernel
theorem d_Worker_gathered_50 : decode b_Worker_gathered 50 = .ok (.getfield 9, 3) := by decide +kernel
theorem d_Worker_gathered_53 : decode b_Worker_gathered 53 = .ok (.iload 7, 2) := by decide +kernel
theorem d_Worker_gathered_55 : decode b_Worker_gathered 55 = .ok (.iload 12, 2) := by decide +kernel
theorem d_Worker_gathered_57 : decode b_Worker_gathered 57 = .ok (.i2l, 1) := by decide +kernel
theorem d_Worker_gathered_58 : decode b_Worker_gathered 58 = .ok (.lastore, 1) := by decide +kernel
theorem d_Worker_gathered_59 : decode b_Worker_gathered 59 = .ok (.aload_n 0, 1) := by decide +kernel
theorem d_Worker_gathered_60 : decode b_Worker_gathered 60 = .ok (.iload 12, 2) := by decide +kernel
theorem d_Worker_gathered_62 : decode b_Worker_gathered 62 = .ok (.aload_n 1, 1) := by decide +kernel
theorem d_Worker_gathered_63 : decode b_Worker_gathered 63 = .ok (.iload_n 2, 1) := by decide +kernel
theorem d_Worker_gathered_64 : decode b_Worker_gathered 64 = .ok (.iload 5, 2) := by decide +kernel
theorem d_Worker_gathered_66 : decode b_Worker_gathered 66 = .ok (.iload 6, 2) := by decide +kernel
theorem d_Worker_gathered_68 : decode b_Worker_gathered 68 = .ok (.invokevirtual 91, 3) := by decide +kernel
theorem d_Worker_gathered_71 : decode b_Worker_gathered 71 = .ok (.lstore 13, 2) := by decide +kernel
theorem d_Worker_gathered_73 : decode b_Worker_gathered 73 = .ok (.lload 13, 2) := by decide +kernel
theorem d_Worker_gathered_75 : decode b_Worker_gathered 75 = .ok (.lconst 0, 1) := by decide +kernel
theorem d_Worker_gathered_76 : decode b_Worker_gathered 76 = .ok (.lcmp, 1) := by decide +kernel
theorem d_Worker_gathered_77 : decode b_Worker_gathered 77 = .ok (.ifCond .ge 7, 3) := by decide +kernel
theorem d_Worker_gathered_80 : decode b_Worker_gathered 80 = .ok (.ldc2_w 35, 3) := by decide +kernel
theorem d_Worker_gathered_83 : decode b_Worker_gathered 83 = .ok (.lreturn, 1) := by decide +kernel
theorem d_Worker_gathered_84 : decode b_Worker_gathered 84 = .ok (.lload 10, 2) := by decide +kernel
theorem d_Worker_gathered_86 : decode b_Worker_gathered 86 = .ok (.lload 13, 2) := by decide +kernel
theorem d_Worker_gathered_88 : decode b_Worker_gathered 88 = .ok (.lor, 1) := by decide +kernel
theorem d_Worker_gathered_89 : decode b_Worker_gathered 89 = .ok (.lstore 10, 2) := by decide +kernel
theorem d_Worker_gathered_91 : decode b_Worker_gathered 91 = .ok (.iinc 12 1, 3) := by decide +kernel
theorem d_Worker_gathered_94 : decode b_Worker_gathered 94 = .ok (.goto (-70), 3) := by decide +kernel
theorem d_Worker_gathered_97 : decode b_Worker_gathered 97 = .ok (.aload_n 0, 1) := by decide +kernel
theorem d_Worker_gathered_98 : decode b_Worker_gathered 98 = .ok (.getfield 9, 3) := by decide +kernel
theorem d_Worker_gathered_101 : decode b_Worker_gathered 101 = .ok (.iload 7, 2) := by decide +kernel
theorem d_Worker_gathered_103 : decode b_Worker_gathered 103 = .ok (.lload 8, 2) := by decide +kernel
theorem d_Worker_gathered_105 : decode b_Worker_gathered 105 = .ok (.lastore, 1) := by decide +kernel
theorem d_Worker_gathered_106 : decode b_Worker_gathered 106 = .ok (.lload 10, 2) := by decide +kernel
theorem d_Worker_gathered_108 : decode b_Worker_gathered 108 = .ok (.lreturn, 1) := by decide +kernel
theorem d_Worker_given_0 : decode b_Worker_given 0 = .ok (.aload_n 0, 1) := by decide +kernel
theorem d_Worker_given_1 : decode b_Worker_given 1 = .ok (.getfield 19, 3) := by decide +kernel
theorem d_Worker_given_4 : decode b_Worker_given 4 = .ok (.aload_n 1, 1) := by decide +kernel
theorem d_Worker_given_5 : decode b_Worker_given 5 = .ok (.iload_n 2, 1) := by decide +kernel
theorem d_Worker_given_6 : decode b_Worker_given 6 = .ok (.invokevirtual 37, 3) := by decide +kernel
theorem d_Worker_given_9 : decode b_Worker_given 9 = .ok (.bipush 65, 2) := by decide +kernel
theorem d_Worker_given_11 : decode b_Worker_given 11 = .ok (.isub, 1) := by decide +kernel
theorem d_Worker_given_12 : decode b_Worker_given 12 = .ok (.aaload, 1) := by decide +kernel
theorem d_Worker_given_13 : decode b_Worker_given 13 = .ok (.astore 5, 2) := by decide +kernel
theorem d_Worker_given_15 : decode b_Worker_given 15 = .ok (.iload_n 2, 1) := by decide +kernel
theorem d_Worker_given_16 : decode b_Worker_given 16 = .ok (.iconst 1, 1) := by decide +kernel
theorem d_Worker_given_17 : decode b_Worker_given 17 = .ok (.iadd, 1) := by decide +kernel
theorem d_Worker_given_18 : decode b_Worker_given 18 = .ok (.istore 6, 2) := by decide +kernel
theorem d_Worker_given_20 : decode b_Worker_given 20 = .ok (.iconst 0, 1) := by decide +kernel
theorem d_Worker_given_21 : decode b_Worker_given 21 = .ok (.istore 7, 2) := by decide +kernel
theorem d_Worker_given_23 : decode b_Worker_given 23 = .ok (.iload 7, 2) := by decide +kernel
theorem d_Worker_given_25 : decode b_Worker_given 25 = .ok (.aload 5, 2) := by decide +kernel
theorem d_Worker_given_27 : decode b_Worker_given 27 = .ok (.invokevirtual 95, 3) := by decide +kernel
theorem d_Worker_given_30 : decode b_Worker_given 30 = .ok (.if_icmp .ge 57, 3) := by decide +kernel
theorem d_Worker_given_33 : decode b_Worker_given 33 = .ok (.aload_n 0, 1) := by decide +kernel
theorem d_Worker_given_34 : decode b_Worker_given 34 = .ok (.aload_n 1, 1) := by decide +kernel
theorem d_Worker_given_35 : decode b_Worker_given 35 = .ok (.iload 6, 2) := by decide +kernel
theorem d_Worker_given_37 : decode b_Worker_given 37 = .ok (.iload_n 3, 1) := by decide +kernel
theorem d_Worker_given_38 : decode b_Worker_given 38 = .ok (.iload 4, 2) := by decide +kernel
theorem d_Worker_given_40 : decode b_Worker_given 40 = .ok (.iconst 1, 1) := by decide +kernel
theorem d_Worker_given_41 : decode b_Worker_given 41 = .ok (.iadd, 1) := by decide +kernel
theorem d_Worker_given_42 : decode b_Worker_given 42 = .ok (.invokevirtual 23, 3) := by decide +kernel
theorem d_Worker_given_45 : decode b_Worker_given 45 = .ok (.lstore 8, 2) := by decide +kernel
theorem d_Worker_given_47 : decode b_Worker_given 47 = .ok (.lload 8, 2) := by decide +kernel
theorem d_Worker_given_49 : decode b_Worker_given 49 = .ok (.lconst 0, 1) := by decide +kernel
theorem d_Worker_given_50 : decode b_Worker_given 50 = .ok (.lcmp, 1) := by decide +kernel
theorem d_Worker_given_51 : decode b_Worker_given 51 = .ok (.ifCond .ge 7, 3) := by decide +kernel
theorem d_Worker_given_54 : decode b_Worker_given 54 = .ok (.ldc2_w 35, 3) := by decide +kernel
theorem d_Worker_given_57 : decode b_Worker_given 57 = .ok (.lreturn, 1) := by decide +kernel
theorem d_Worker_given_58 : decode b_Worker_given 58 = .ok (.aload_n 0, 1) := by decide +kernel
theorem d_Worker_given_59 : decode b_Worker_given 59 = .ok (.getfield 9, 3) := by decide +kernel
theorem d_Worker_given_62 : decode b_Worker_given 62 = .ok (.iload 4, 2) := by decide +kernel
theorem d_Worker_given_64 : decode b_Worker_given 64 = .ok (.bipush 8, 2) := by decide +kernel
theorem d_Worker_given_66 : decode b_Worker_given 66 = .ok (.imul, 1) := by decide +kernel
theorem d_Worker_given_67 : decode b_Worker_given 67 = .ok (.iload 7, 2) := by decide +kernel
theorem d_Worker_given_69 : decode b_Worker_given 69 = .ok (.iadd, 1) := by decide +kernel
theorem d_Worker_given_70 : decode b_Worker_given 70 = .ok (.lload 8, 2) := by decide +kernel
theorem d_Worker_given_72 : decode b_Worker_given 72 = .ok (.lastore, 1) := by decide +kernel
theorem d_Worker_given_73 : decode b_Worker_given 73 = .ok (.aload_n 1, 1) := by decide +kernel
theorem d_Worker_given_74 : decode b_Worker_given 74 = .ok (.iload 6, 2) := by decide +kernel
theorem d_Worker_given_76 : decode b_Worker_given 76 = .ok (.invokevirtual 72, 3) := by decide +kernel
theorem d_Worker_given_79 : decode b_Worker_given 79 = .ok (.istore 6, 2) := by decide +kernel
theorem d_Worker_given_81 : decode b_Worker_given 81 = .ok (.iinc 7 1, 3) := by decide +kernel
theorem d_Worker_given_84 : decode b_Worker_given 84 = .ok (.goto (-61), 3) := by decide +kernel
theorem d_Worker_given_87 : decode b_Worker_given 87 = .ok (.aload_n 0, 1) := by decide +kernel
theorem d_Worker_given_88 : decode b_Worker_given 88 = .ok (.aload 5, 2) := by decide +kernel
theorem d_Worker_given_90 : decode b_Worker_given 90 = .ok (.invokevirtual 101, 3) := by decide +kernel
theorem d_Worker_given_93 : decode b_Worker_given 93 = .ok (.iconst 0, 1) := by decide +kernel
theorem d_Worker_given_94 : decode b_Worker_given 94 = .ok (.iload 4, 2) := by decide +kernel
theorem d_Worker_given_96 : decode b_Worker_given 96 = .ok (.iload 4, 2) := by decide +kernel
theorem d_Worker_given_98 : decode b_Worker_given 98 = .ok (.iconst 1, 1) := by decide +kernel
theorem d_Worker_given_99 : decode b_Worker_given 99 = .ok (.iadd, 1) := by decide +kernel
theorem d_Worker_given_100 : decode b_Worker_given 100 = .ok (.invokevirtual 23, 3) := by decide +kernel
theorem d_Worker_given_103 : decode b_Worker_given 103 = .ok (.lreturn, 1) := by decide +kernel
theorem d_Worker_quantified_0 : decode b_Worker_quantified 0 = .ok (.aload_n 0, 1) := by decide +kernel
theorem d_Worker_quantified_1 : decode b_Worker_quantified 1 = .ok (.aload_n 1, 1) := by decide +kernel
theorem d_Worker_quantified_2 : decode b_Worker_quantified 2 = .ok (.iload_n 2, 1) := by decide +kernel
theorem d_Worker_quantified_3 : decode b_Worker_quantified 3 = .ok (.iconst 2, 1) := by decide +kernel
theorem d_Worker_quantified_4 : decode b_Worker_quantified 4 = .ok (.iadd, 1) := by decide +kernel
theorem d_Worker_quantified_5 : decode b_Worker_quantified 5 = .ok (.iload_n 3, 1) := by decide +kernel
theorem d_Worker_quantified_6 : decode b_Worker_quantified 6 = .ok (.iload 4, 2) := by decide +kernel
theorem d_Worker_quantified_8 : decode b_Worker_quantified 8 = .ok (.iconst 1, 1) := by decide +kernel
theorem d_Worker_quantified_9 : decode b_Worker_quantified 9 = .ok (.iadd, 1) := by decide +kernel
theorem d_Worker_quantified_10 : decode b_Worker_quantified 10 = .ok (.invokevirtual 23, 3) := by decide +kernel
theorem d_Worker_quantified_13 : decode b_Worker_quantified 13 = .ok (.lstore 5, 2) := by decide +kernel
theorem d_Worker_quantified_15 : decode b_Worker_quantified 15 = .ok (.lload 5, 2) := by decide +kernel
theorem d_Worker_quantified_17 : decode b_Worker_quantified 17 = .ok (.lconst 0, 1) := by decide +kernel
theorem d_Worker_quantified_18 : decode b_Worker_quantified 18 = .ok (.lcmp, 1) := by decide +kernel
theorem d_Worker_quantified_19 : decode b_Worker_quantified 19 = .ok (.ifCond .ge 6, 3) := by decide +kernel
theorem d_Worker_quantified_22 : decode b_Worker_quantified 22 = .ok (.bipush (-3), 2) := by decide +kernel
theorem d_Worker_quantified_24 : decode b_Worker_quantified 24 = .ok (.ireturn, 1) := by decide +kernel
theorem d_Worker_quantified_25 : decode b_Worker_quantified 25 = .ok (.aload_n 0, 1) := by decide +kernel
theorem d_Worker_quantified_26 : decode b_Worker_quantified 26 = .ok (.aload_n 1, 1) := by decide +kernel
theorem d_Worker_quantified_27 : decode b_Worker_quantified 27 = .ok (.iload_n 2, 1) := by decide +kernel
theorem d_Worker_quantified_28 : decode b_Worker_quantified 28 = .ok (.lload 5, 2) := by decide +kernel
theorem d_Worker_quantified_30 : decode b_Worker_quantified 30 = .ok (.iload_n 3, 1) := by decide +kernel
theorem d_Worker_quantified_31 : decode b_Worker_quantified 31 = .ok (.iload 4, 2) := by decide +kernel
theorem d_Worker_quantified_33 : decode b_Worker_quantified 33 = .ok (.invokevirtual 68, 3) := by decide +kernel
theorem d_Worker_quantified_36 : decode b_Worker_quantified 36 = .ok (.lstore 7, 2) := by decide +kernel
theorem d_Worker_quantified_38 : decode b_Worker_quantified 38 = .ok (.lload 7, 2) := by decide +kernel
theorem d_Worker_quantified_40 : decode b_Worker_quantified 40 = .ok (.lconst 0, 1) := by decide +kernel
theorem d_Worker_quantified_41 : decode b_Worker_quantified 41 = .ok (.lcmp, 1) := by decide +kernel
theorem d_Worker_quantified_42 : decode b_Worker_quantified 42 = .ok (.ifCond .ge 6, 3) := by decide +kernel
theorem d_Worker_quantified_45 : decode b_Worker_quantified 45 = .ok (.bipush (-3), 2) := by decide +kernel
theorem d_Worker_quantified_47 : decode b_Worker_quantified 47 = .ok (.ireturn, 1) := by decide +kernel
theorem d_Worker_quantified_48 : decode b_Worker_quantified 48 = .ok (.aload_n 1, 1) := by decide +kernel
theorem d_Worker_quantified_49 : decode b_Worker_quantified 49 = .ok (.iload_n 2, 1) := by decide +kernel
theorem d_Worker_quantified_50 : decode b_Worker_quantified 50 = .ok (.invokevirtual 37, 3) := by decide +kernel
theorem d_Worker_quantified_53 : decode b_Worker_quantified 53 = .ok (.bipush 69, 2) := by decide +kernel
theorem d_Worker_quantified_55 : decode b_Worker_quantified 55 = .ok (.if_icmp .ne 18, 3) := by decide +kernel
theorem d_Worker_quantified_58 : decode b_Worker_quantified 58 = .ok (.lload 7, 2) := by decide +kernel
theorem d_Worker_quantified_60 : decode b_Worker_quantified 60 = .ok (.lconst 0, 1) := by decide +kernel
theorem d_Worker_quantified_61 : decode b_Worker_quantified 61 = .ok (.lcmp, 1) := by decide +kernel
theorem d_Worker_quantified_62 : decode b_Worker_quantified 62 = .ok (.ifCond .eq 7, 3) := by decide +kernel
theorem d_Worker_quantified_65 : decode b_Worker_quantified 65 = .ok (.iconst 1, 1) := by decide +kernel
theorem d_Worker_quantified_66 : decode b_Worker_quantified 66 = .ok (.goto 20, 3) := by decide +kernel
theorem d_Worker_quantified_69 : decode b_Worker_quantified 69 = .ok (.iconst 0, 1) := by decide +kernel
theorem d_Worker_quantified_70 : decode b_Worker_quantified 70 = .ok (.goto 16, 3) := by decide +kernel
theorem d_Worker_quantified_73 : decode b_Worker_quantified 73 = .ok (.lload 7, 2) := by decide +kernel
theorem d_Worker_quantified_75 : decode b_Worker_quantified 75 = .ok (.lload 5, 2) := by decide +kernel
theorem d_Worker_quantified_77 : decode b_Worker_quantified 77 = .ok (.lcmp, 1) := by decide +kernel
theorem d_Worker_quantified_78 : decode b_Worker_quantified 78 = .ok (.ifCond .ne 7, 3) := by decide +kernel
theorem d_Worker_quantified_81 : decode b_Worker_quantified 81 = .ok (.iconst 1, 1) := by decide +kernel
theorem d_Worker_quantified_82 : decode b_Worker_quantified 82 = .ok (.goto 4, 3) := by decide +kernel
theorem d_Worker_quantified_85 : decode b_Worker_quantified 85 = .ok (.iconst 0, 1) := by decide +kernel
theorem d_Worker_quantified_86 : decode b_Worker_quantified 86 = .ok (.istore 9, 2) := by decide +kernel
theorem d_Worker_quantified_88 : decode b_Worker_quantified 88 = .ok (.iload 9, 2) := by decide +kernel
theorem d_Worker_quantified_90 : decode b_Worker_quantified 90 = .ok (.ifCond .eq 7, 3) := by decide +kernel
theorem d_Worker_quantified_93 : decode b_Worker_quantified 93 = .ok (.iconst 1, 1) := by decide +kernel
theorem d_Worker_quantified_94 : decode b_Worker_quantified 94 = .ok (.goto 4, 3) := by decide +kernel
theorem d_Worker_quantified_97 : decode b_Worker_quantified 97 = .ok (.iconst 0, 1) := by decide +kernel
theorem d_Worker_quantified_98 : decode b_Worker_quantified 98 = .ok (.ireturn, 1) := by decide +kernel
theorem d_Worker_term_0 : decode b_Worker_term 0 = .ok (.aload_n 0, 1) := by decide +kernel
theorem d_Worker_term_1 : decode b_Worker_term 1 = .ok (.iload 4, 2) := by decide +kernel
theorem d_Worker_term_3 : decode b_Worker_term 3 = .ok (.invokevirtual 31, 3) := by decide +kernel
theorem d_Worker_term_6 : decode b_Worker_term 6 = .ok (.ifCond .ne 7, 3) := by decide +kernel
theorem d_Worker_term_9 : decode b_Worker_term 9 = .ok (.ldc2_w 35, 3) := by decide +kernel
theorem d_Worker_term_12 : decode b_Worker_term 12 = .ok (.lreturn, 1) := by decide +kernel
theorem d_Worker_term_13 : decode b_Worker_term 13 = .ok (.aload_n 1, 1) := by decide +kernel
theorem d_Worker_term_14 : decode b_Worker_term 14 = .ok (.iload_n 2, 1) := by decide +kernel
theorem d_Worker_term_15 : decode b_Worker_term 15 = .ok (.invokevirtual 37, 3) := by decide +kernel
theorem d_Worker_term_18 : decode b_Worker_term 18 = .ok (.istore 5, 2) := by decide +kernel
theorem d_Worker_term_20 : decode b_Worker_term 20 = .ok (.iload 5, 2) := by decide +kernel
theorem d_Worker_term_22 : decode b_Worker_term 22 = .ok (.invokestatic 43, 3) := by decide +kernel
theorem d_Worker_term_25 : decode b_Worker_term 25 = .ok (.ifCond .eq 10, 3) := by decide +kernel
theorem d_Worker_term_28 : decode b_Worker_term 28 = .ok (.iload 5, 2) := by decide +kernel
theorem d_Worker_term_30 : decode b_Worker_term 30 = .ok (.bipush 48, 2) := by decide +kernel
theorem d_Worker_term_32 : decode b_Worker_term 32 = .ok (.isub, 1) := by decide +kernel
theorem d_Worker_term_33 : decode b_Worker_term 33 = .ok (.i2l, 1) := by decide +kernel
theorem d_Worker_term_34 : decode b_Worker_term 34 = .ok (.lreturn, 1) := by decide +kernel
theorem d_Worker_term_35 : decode b_Worker_term 35 = .ok (.iload 5, 2) := by decide +kernel
theorem d_Worker_term_37 : decode b_Worker_term 37 = .ok (.invokestatic 46, 3) := by decide +kernel
theorem d_Worker_term_40 : decode b_Worker_term 40 = .ok (.ifCond .eq 19, 3) := by decide +kernel
theorem d_Worker_term_43 : decode b_Worker_term 43 = .ok (.aload_n 0, 1) := by decide +kernel
theorem d_Worker_term_44 : decode b_Worker_term 44 = .ok (.getfield 9, 3) := by decide +kernel
theorem d_Worker_term_47 : decode b_Worker_term 47 = .ok (.iload_n 3, 1) := by decide +kernel
theorem d_Worker_term_48 : decode b_Worker_term 48 = .ok (.bipush 8, 2) := by decide +kernel
theorem d_Worker_term_50 : decode b_Worker_term 50 = .ok (.imul, 1) := by decide +kernel
theorem d_Worker_term_51 : decode b_Worker_term 51 = .ok (.iload 5, 2) := by decide +kernel
theorem d_Worker_term_53 : decode b_Worker_term 53 = .ok (.iadd, 1) := by decide +kernel
theorem d_Worker_term_54 : decode b_Worker_term 54 = .ok (.bipush 97, 2) := by decide +kernel
theorem d_Worker_term_56 : decode b_Worker_term 56 = .ok (.isub, 1) := by decide +kernel
theorem d_Worker_term_57 : decode b_Worker_term 57 = .ok (.laload, 1) := by decide +kernel
theorem d_Worker_term_58 : decode b_Worker_term 58 = .ok (.lreturn, 1) := by decide +kernel
theorem d_Worker_term_59 : decode b_Worker_term 59 = .ok (.iload 5, 2) := by decide +kernel
theorem d_Worker_term_61 : decode b_Worker_term 61 = .ok (.invokestatic 49, 3) := by decide +kernel
theorem d_Worker_term_64 : decode b_Worker_term 64 = .ok (.ifCond .eq 13, 3) := by decide +kernel
theorem d_Worker_term_67 : decode b_Worker_term 67 = .ok (.aload_n 0, 1) := by decide +kernel
theorem d_Worker_term_68 : decode b_Worker_term 68 = .ok (.aload_n 1, 1) := by decide +kernel
theorem d_Worker_term_69 : decode b_Worker_term 69 = .ok (.iload_n 2, 1) := by decide +kernel
theorem d_Worker_term_70 : decode b_Worker_term 70 = .ok (.iload_n 3, 1) := by decide +kernel
theorem d_Worker_term_71 : decode b_Worker_term 71 = .ok (.iload 4, 2) := by decide +kernel
theorem d_Worker_term_73 : decode b_Worker_term 73 = .ok (.invokevirtual 52, 3) := by decide +kernel
theorem d_Worker_term_76 : decode b_Worker_term 76 = .ok (.lreturn, 1) := by decide +kernel
theorem d_Worker_term_77 : decode b_Worker_term 77 = .ok (.aload_n 1, 1) := by decide +kernel
theorem d_Worker_term_78 : decode b_Worker_term 78 = .ok (.iload_n 2, 1) := by decide +kernel
theorem d_Worker_term_79 : decode b_Worker_term 79 = .ok (.invokevirtual 55, 3) := by decide +kernel
theorem d_Worker_term_82 : decode b_Worker_term 82 = .ok (.istore 6, 2) := by decide +kernel
theorem d_Worker_term_84 : decode b_Worker_term 84 = .ok (.aload_n 0, 1) := by decide +kernel
theorem d_Worker_term_85 : decode b_Worker_term 85 = .ok (.aload_n 1, 1) := by decide +kernel
theorem d_Worker_term_86 : decode b_Worker_term 86 = .ok (.iload 6, 2) := by decide +kernel
theorem d_Worker_term_88 : decode b_Worker_term 88 = .ok (.iload_n 3, 1) := by decide +kernel
theorem d_Worker_term_89 : decode b_Worker_term 89 = .ok (.iload 4, 2) := by decide +kernel
theorem d_Worker_term_91 : decode b_Worker_term 91 = .ok (.iconst 1, 1) := by decide +kernel
theorem d_Worker_term_92 : decode b_Worker_term 92 = .ok (.iadd, 1) := by decide +kernel
theorem d_Worker_term_93 : decode b_Worker_term 93 = .ok (.invokevirtual 23, 3) := by decide +kernel
theorem d_Worker_term_96 : decode b_Worker_term 96 = .ok (.lstore 7, 2) := by decide +kernel
theorem d_Worker_term_98 : decode b_Worker_term 98 = .ok (.lload 7, 2) := by decide +kernel
theorem d_Worker_term_100 : decode b_Worker_term 100 = .ok (.lconst 0, 1) := by decide +kernel
theorem d_Worker_term_101 : decode b_Worker_term 101 = .ok (.lcmp, 1) := by decide +kernel
theorem d_Worker_term_102 : decode b_Worker_term 102 = .ok (.ifCond .ge 7, 3) := by decide +kernel
theorem d_Worker_term_105 : decode b_Worker_term 105 = .ok (.ldc2_w 35, 3) := by decide +kernel
theorem d_Worker_term_108 : decode b_Worker_term 108 = .ok (.lreturn, 1) := by decide +kernel
theorem d_Worker_term_109 : decode b_Worker_term 109 = .ok (.iload 5, 2) := by decide +kernel
theorem d_Worker_term_111 : decode b_Worker_term 111 = .ok (.lookupswitch 79 #[(73, 67), (80, 55), (84, 61), (85, 49), (123, 67)], 49) := by decide +kernel
theorem d_Worker_term_160 : decode b_Worker_term 160 = .ok (.lload 7, 2) := by decide +kernel
theorem d_Worker_term_162 : decode b_Worker_term 162 = .ok (.invokestatic 58, 3) := by decide +kernel
theorem d_Worker_term_165 : decode b_Worker_term 165 = .ok (.lreturn, 1) := by decide +kernel
theorem d_Worker_term_166 : decode b_Worker_term 166 = .ok (.lload 7, 2) := by decide +kernel
theorem d_Worker_term_168 : decode b_Worker_term 168 = .ok (.invokestatic 62, 3) := by decide +kernel
theorem d_Worker_term_171 : decode b_Worker_term 171 = .ok (.lreturn, 1) := by decide +kernel
theorem d_Worker_term_172 : decode b_Worker_term 172 = .ok (.lload 7, 2) := by decide +kernel
theorem d_Worker_term_174 : decode b_Worker_term 174 = .ok (.invokestatic 65, 3) := by decide +kernel
theorem d_Worker_term_177 : decode b_Worker_term 177 = .ok (.lreturn, 1) := by decide +kernel
theorem d_Worker_term_178 : decode b_Worker_term 178 = .ok (.aload_n 0, 1) := by decide +kernel
theorem d_Worker_term_179 : decode b_Worker_term 179 = .ok (.aload_n 1, 1) := by decide +kernel
theorem d_Worker_term_180 : decode b_Worker_term 180 = .ok (.iload_n 2, 1) := by decide +kernel
theorem d_Worker_term_181 : decode b_Worker_term 181 = .ok (.lload 7, 2) := by decide +kernel
theorem d_Worker_term_183 : decode b_Worker_term 183 = .ok (.iload_n 3, 1) := by decide +kernel
theorem d_Worker_term_184 : decode b_Worker_term 184 = .ok (.iload 4, 2) := by decide +kernel
theorem d_Worker_term_186 : decode b_Worker_term 186 = .ok (.invokevirtual 68, 3) := by decide +kernel
theorem d_Worker_term_189 : decode b_Worker_term 189 = .ok (.lreturn, 1) := by decide +kernel
theorem d_Worker_term_190 : decode b_Worker_term 190 = .ok (.iload 5, 2) := by decide +kernel
theorem d_Worker_term_192 : decode b_Worker_term 192 = .ok (.lload 7, 2) := by decide +kernel
theorem d_Worker_term_194 : decode b_Worker_term 194 = .ok (.aload_n 0, 1) := by decide +kernel
theorem d_Worker_term_195 : decode b_Worker_term 195 = .ok (.aload_n 1, 1) := by decide +kernel
theorem d_Worker_term_196 : decode b_Worker_term 196 = .ok (.aload_n 1, 1) := by decide +kernel
theorem d_Worker_term_197 : decode b_Worker_term 197 = .ok (.iload 6, 2) := by decide +kernel
theorem d_Worker_term_199 : decode b_Worker_term 199 = .ok (.invokevirtual 72, 3) := by decide +kernel
theorem d_Worker_term_202 : decode b_Worker_term 202 = .ok (.iload_n 3, 1) := by decide +kernel
theorem d_Worker_term_203 : decode b_Worker_term 203 = .ok (.iload 4, 2) := by decide +kernel
theorem d_Worker_term_205 : decode b_Worker_term 205 = .ok (.iconst 1, 1) := by decide +kernel
theorem d_Worker_term_206 : decode b_Worker_term 206 = .ok (.iadd, 1) := by decide +kernel
theorem d_Worker_term_207 : decode b_Worker_term 207 = .ok (.invokevirtual 23, 3) := by decide +kernel
theorem d_Worker_term_210 : decode b_Worker_term 210 = .ok (.invokestatic 75, 3) := by decide +kernel
theorem d_Worker_term_213 : decode b_Worker_term 213 = .ok (.lreturn, 1) := by decide +kernel
abbrev GT_Worker_broughtBy : Type := (Nat → Int32 → Nat → Int32 → Int32 → Int32 → HP → Option (Int64 × HP)) × (Nat → Nat → Int32 → Int32 → Int32 → HP → Option (Int32 × HP)) × (Nat → Nat → Int32 → Int32 → Int32 → HP → Option (Int32 × HP)) × (Nat → Nat → Int32 → Int32 → Int32 → HP → Option (Int32 × HP)) × (Nat → Nat → Int32 → Int64 → Int32 → Int32 → HP → Option (Int64 × HP)) × (Nat → Nat → Int32 → Int32 → Int32 → HP → Option (Int64 × HP)) × (Nat → Nat → Int32 → Int32 → Int32 → HP → Option (Int32 × HP)) × (Nat → Nat → Int32 → Int32 → Int32 → HP → Option (Int64 × HP))
abbrev HG_Worker_broughtBy (l : Launch) (g : GG) (gf : GT_Worker_broughtBy) (n : Nat) : Prop :=
  (∀ {h : HP} {x0 : Nat} {x1 : Int32} {x2 : Nat} {x3 : Int32} {x4 : Int32} {x5 : Int32} {z : Int64 × HP}, gf.1 x0 x1 x2 x3 x4 x5 h = some z → Ct l g y_Worker_broughtBy w_Worker_broughtBy (rmS (n + 3) (n * 34 + 70)) [.ref (aD g x0), .int x1, .ref (aD g x2), .int x3, .int x4, .int x5] h (some (.long z.1)) z.2) ∧
  (∀ {h : HP} {x0 : Nat} {x1 : Nat} {x2 : Int32} {x3 : Int32} {x4 : Int32} {z : Int32 × HP}, gf.2.1 x0 x1 x2 x3 x4 h = some z → Ct l g y_Worker_compared w_Worker_compared (rmS (n + 3) (n * 34 + 70)) [.ref (aD g x0), .ref (aD g x1), .int x2, .int x3, .int x4] h (some (.int z.1)) z.2) ∧
  (∀ {h : HP} {x0 : Nat} {x1 : Nat} {x2 : Int32} {x3 : Int32} {x4 : Int32} {z : Int32 × HP}, gf.2.2.1 x0 x1 x2 x3 x4 h = some z → Ct l g y_Worker_connected w_Worker_connected (rmS (n + 3) (n * 34 + 70)) [.ref (aD g x0), .ref (aD g x1), .int x2, .int x3, .int x4] h (some (.int z.1)) z.2) ∧
  (∀ {h : HP} {x0 : Nat} {x1 : Nat} {x2 : Int32} {x3 : Int32} {x4 : Int32} {z : Int32 × HP}, gf.2.2.2.1 x0 x1 x2 x3 x4 h = some z → Ct l g y_Worker_formula w_Worker_formula (rmS (n + 3) (n * 34 + 70)) [.ref (aD g x0), .ref (aD g x1), .int x2, .int x3, .int x4] h (some (.int z.1)) z.2) ∧
  (∀ {h : HP} {x0 : Nat} {x1 : Nat} {x2 : Int32} {x3 : Int64} {x5 : Int32} {x6 : Int32} {z : Int64 × HP}, gf.2.2.2.2.1 x0 x1 x2 x3 x5 x6 h = some z → Ct l g y_Worker_gathered w_Worker_gathered (rmS (n + 3) (n * 34 + 70)) [.ref (aD g x0), .ref (aD g x1), .int x2, .long x3, .int x5, .int x6] h (some (.long z.1)) z.2) ∧
  (∀ {h : HP} {x0 : Nat} {x1 : Nat} {x2 : Int32} {x3 : Int32} {x4 : Int32} {z : Int64 × HP}, gf.2.2.2.2.2.1 x0 x1 x2 x3 x4 h = some z → Ct l g y_Worker_given w_Worker_given (rmS (n + 3) (n * 34 + 70)) [.ref (aD g x0), .ref (aD g x1), .int x2, .int x3, .int x4] h (some (.long z.1)) z.2) ∧
  (∀ {h : HP} {x0 : Nat} {x1 : Nat} {x2 : Int32} {x3 : Int32} {x4 : Int32} {z : Int32 × HP}, gf.2.2.2.2.2.2.1 x0 x1 x2 x3 x4 h = some z → Ct l g y_Worker_quantified w_Worker_quantified (rmS (n + 3) (n * 34 + 70)) [.ref (aD g x0), .ref (aD g x1), .int x2, .int x3, .int x4] h (some (.int z.1)) z.2) ∧
  (∀ {h : HP} {x0 : Nat} {x1 : Nat} {x2 : Int32} {x3 : Int32} {x4 : Int32} {z : Int64 × HP}, gf.2.2.2.2.2.2.2 x0 x1 x2 x3 x4 h = some z → Ct l g y_Worker_term w_Worker_term (rmS (n + 3) (n * 34 + 70)) [.ref (aD g x0), .ref (aD g x1), .int x2, .int x3, .int x4] h (some (.long z.1)) z.2)
def s_Worker_broughtBy (gf : GT_Worker_broughtBy) (x0 : Nat) (x1 : Int32) (x2 : Nat) (x3 : Int32) (x4 : Int32) (x5 : Int32) (h : HP) : Option (Int64 × HP) :=
  (kd x2 0).bind fun _ =>
  (s_Text_endOf x2 (x3 + 2) h).bind fun q2 =>
  (kd x2 0).bind fun _ =>
  (s_Text_at x2 x3 h).bind fun q5 =>
  if q5 = 73 then (
    (kd x0 4).bind fun _ =>
    (gf.2.2.2.2.2.2.2 x0 x2 q2 x4 (x5 + 1) h).bind fun q11 =>
    if (lg_cmp q11.1 0) < 0 then (
      some ((-3), q11.2))
    else (
      if 0 ≤ (lg_cmp q11.1 62) then (
        some ((-3), q11.2))
      else (
        some (((1 : Int64) <<< (q11.1.toInt32.toInt64 &&& 63)), q11.2))))
  else (
    (kd x0 4).bind fun _ =>
    (gf.2.2.2.1 x0 x2 q2 x4 (x5 + 1) h).bind fun q8 =>
    if q8.1 < 0 then (
      some ((-3), q8.2))
    else (
      some ((q8.1.toInt64 <<< (x1.toInt64 &&& 63)), q8.2)))
set_option maxHeartbeats 4000000 in
set_option maxRecDepth 100000 in
theorem c_Worker_broughtBy (l : Launch) (g : GG) (gf : GT_Worker_broughtBy) (n : Nat) (hG : HG_Worker_broughtBy l g gf n) {x0 : Nat} {x1 : Int32} {x2 : Nat} {x3 : Int32} {x4 : Int32} {x5 : Int32} {h : HP} {z : Int64 × HP} (hs : s_Worker_broughtBy gf x0 x1 x2 x3 x4 x5 h = some z) : Ct l g y_Worker_broughtBy w_Worker_broughtBy (rmS (n + 1 + 3) ((n + 1) * 34 + 70)) [.ref (aD g x0), .int x1, .ref (aD g x2), .int x3, .int x4, .int x5] h (some (.long z.1)) z.2 := by
  refine Ct.of (own := R_Worker) (by decide) rfl rfl (Nat.le_of_ble_eq_true rfl) ?_
  intro p e s m args below meth c ls C hl hw
  have hx := C.1
  have hb := C.2.1
  have hl : lv_has ls 9 [(0, .ref (aD g x0)), (1, .int x1), (2, .ref (aD g x2)), (3, .int x3), (4, .int x4), (5, .int x5)] := hl
  unfold s_Worker_broughtBy at hs
  refine lv_aload_n hx hb d_Worker_broughtBy_0 rfl (lv_at hl 2 rfl) ?_
  refine lv_iload_n hx hb d_Worker_broughtBy_1 rfl (lv_at hl 3 rfl) ?_
  refine lv_iconst (v := 2) hx hb d_Worker_broughtBy_2 (by decide) ?_
  refine lv_iadd hx hb d_Worker_broughtBy_3 ?_
  obtain ⟨_, e1, hs⟩ := ob hs
  obtain ⟨q2, e3, hs⟩ := ob hs
  refine pg_callV C hw hl.1 ml_Worker_72 e1 (As := [.int (x3 + 2)]) (rest := []) (c_Text_endOf l g e3) rfl (rm_ok (by omega) (by omega)) (Nat.le_of_ble_eq_true rfl) rfl (st1 := [.int q2]) rfl d_Worker_broughtBy_4 (fun H locs hw => ?_)
  refine lv_istore hx hb d_Worker_broughtBy_7 hl (by decide) (lv' := [(6, .int q2), (0, .ref (aD g x0)), (1, .int x1), (2, .ref (aD g x2)), (3, .int x3), (4, .int x4), (5, .int x5)]) rfl (fun ls hl => ?_)
  refine lv_aload_n hx hb d_Worker_broughtBy_9 rfl (lv_at hl 3 rfl) ?_
  refine lv_iload_n hx hb d_Worker_broughtBy_10 rfl (lv_at hl 4 rfl) ?_
  obtain ⟨_, e4, hs⟩ := ob hs
  obtain ⟨q5, e6, hs⟩ := ob hs
  refine pg_callV C hw hl.1 ml_Worker_37 e4 (As := [.int x3]) (rest := []) (c_Text_at l g e6) rfl (rm_ok (by omega) (by omega)) (Nat.le_of_ble_eq_true rfl) rfl (st1 := [.int q5]) rfl d_Worker_broughtBy_11 (fun H locs hw => ?_)
  refine lv_bipush (v := 73) hx hb d_Worker_broughtBy_14 (by decide) ?_
  refine lv_icmp_ne hx hb d_Worker_broughtBy_16 (tgt := 62) (by decide) (fun hc => ?_) (fun hc => ?_)
  · have hs := oi_f hc hs
    refine lv_aload_n hx hb d_Worker_broughtBy_62 rfl (lv_at hl 1 rfl) ?_
    refine lv_aload_n hx hb d_Worker_broughtBy_63 rfl (lv_at hl 3 rfl) ?_
    refine lv_iload hx hb d_Worker_broughtBy_64 (lv_at hl 0 rfl) ?_
    refine lv_iload hx hb d_Worker_broughtBy_66 (lv_at hl 5 rfl) ?_
    refine lv_iload hx hb d_Worker_broughtBy_68 (lv_at hl 6 rfl) ?_
    refine lv_iconst (v := 1) hx hb d_Worker_broughtBy_70 (by decide) ?_
    refine lv_iadd hx hb d_Worker_broughtBy_71 ?_
    obtain ⟨_, e7, hs⟩ := ob hs
    obtain ⟨q8, e9, hs⟩ := ob hs
    refine pg_callV C hw hl.1 ml_Worker_27 e7 (As := [.ref (aD g x2), .int q2, .int x4, .int (x5 + 1)]) (rest := []) (hG.2.2.2.1 e9) rfl (rm_ok (by omega) (by omega)) (Nat.le_of_ble_eq_true rfl) rfl (st1 := [.int q8.1]) rfl d_Worker_broughtBy_72 (fun H locs hw => ?_)
    refine lv_istore hx hb d_Worker_broughtBy_75 hl (by decide) (lv' := [(7, .int q8.1), (6, .int q2), (0, .ref (aD g x0)), (1, .int x1), (2, .ref (aD g x2)), (3, .int x3), (4, .int x4), (5, .int x5)]) rfl (fun ls hl => ?_)
    refine lv_iload hx hb d_Worker_broughtBy_77 (lv_at hl 0 rfl) ?_
    refine lv_if_lt hx hb d_Worker_broughtBy_79 (tgt := 90) (by decide) (fun hc => ?_) (fun hc => ?_)
    · have hs := oi_t hc hs
      refine lv_ldc2 (v := (-3)) hx hb C.own (C.w kc_Worker_35) d_Worker_broughtBy_90 ?_
      obtain rfl := Option.some.inj hs
      exact pg_lret C hw d_Worker_broughtBy_93
    · have hs := oi_f hc hs
      refine lv_iload hx hb d_Worker_broughtBy_82 (lv_at hl 0 rfl) ?_
      refine lv_i2l (v := q8.1.toInt64) hx hb d_Worker_broughtBy_84 rfl ?_
      refine lv_iload_n hx hb d_Worker_broughtBy_85 rfl (lv_at hl 3 rfl) ?_
      refine lv_lshl (v := (q8.1.toInt64 <<< (x1.toInt64 &&& 63))) hx hb d_Worker_broughtBy_86 rfl ?_
      refine lv_goto hx hb d_Worker_broughtBy_87 (tgt := 93) (by decide) ?_
      obtain rfl := Option.some.inj hs
      exact pg_lret C hw d_Worker_broughtBy_93
  · have hs := oi_t hc hs
    refine lv_aload_n hx hb d_Worker_broughtBy_19 rfl (lv_at hl 1 rfl) ?_
    refine lv_aload_n hx hb d_Worker_broughtBy_20 rfl (lv_at hl 3 rfl) ?_
    refine lv_iload hx hb d_Worker_broughtBy_21 (lv_at hl 0 rfl) ?_
    refine lv_iload hx hb d_Worker_broughtBy_23 (lv_at hl 5 rfl) ?_
    refine lv_iload hx hb d_Worker_broughtBy_25 (lv_at hl 6 rfl) ?_
    refine lv_iconst (v := 1) hx hb d_Worker_broughtBy_27 (by decide) ?_
    refine lv_iadd hx hb d_Worker_broughtBy_28 ?_
    obtain ⟨_, e10, hs⟩ := ob hs
    obtain ⟨q11, e12, hs⟩ := ob hs
    refine pg_callV C hw hl.1 ml_Worker_23 e10 (As := [.ref (aD g x2), .int q2, .int x4, .int (x5 + 1)]) (rest := []) (hG.2.2.2.2.2.2.2 e12) rfl (rm_ok (by omega) (by omega)) (Nat.le_of_ble_eq_true rfl) rfl (st1 := [.long q11.1]) rfl d_Worker_broughtBy_29 (fun H locs hw => ?_)
    refine lv_lstore hx hb d_Worker_broughtBy_32 hl (by decide) (lv' := [(7, .long q11.1), (6, .int q2), (0, .ref (aD g x0)), (1, .int x1), (2, .ref (aD g x2)), (3, .int x3), (4, .int x4), (5, .int x5)]) rfl (fun ls hl => ?_)
    refine lv_lload hx hb d_Worker_broughtBy_34 (lv_at hl 0 rfl) ?_
    refine lv_lconst (v := 0) hx hb d_Worker_broughtBy_36 (by decide) ?_
    refine W.lcmp hx hb d_Worker_broughtBy_37 ?_
    refine lv_if_lt hx hb d_Worker_broughtBy_38 (tgt := 58) (by decide) (fun hc => ?_) (fun hc => ?_)
    · have hs := oi_t hc hs
      refine lv_ldc2 (v := (-3)) hx hb C.own (C.w kc_Worker_35) d_Worker_broughtBy_58 ?_
      obtain rfl := Option.some.inj hs
      exact pg_lret C hw d_Worker_broughtBy_61
    · have hs := oi_f hc hs
      refine lv_lload hx hb d_Worker_broughtBy_41 (lv_at hl 0 rfl) ?_
      refine lv_ldc2 (v := 62) hx hb C.own (C.w kc_Worker_79) d_Worker_broughtBy_43 ?_
      refine W.lcmp hx hb d_Worker_broughtBy_46 ?_
      refine lv_if_ge hx hb d_Worker_broughtBy_47 (tgt := 58) (by decide) (fun hc => ?_) (fun hc => ?_)
      · have hs := oi_t hc hs
        refine lv_ldc2 (v := (-3)) hx hb C.own (C.w kc_Worker_35) d_Worker_broughtBy_58 ?_
        obtain rfl := Option.some.inj hs
        exact pg_lret C hw d_Worker_broughtBy_61
      · have hs := oi_f hc hs
        refine lv_lconst (v := 1) hx hb d_Worker_broughtBy_50 (by decide) ?_
        refine lv_lload hx hb d_Worker_broughtBy_51 (lv_at hl 0 rfl) ?_
        refine lv_l2i (v := q11.1.toInt32) hx hb d_Worker_broughtBy_53 rfl ?_
        refine lv_lshl (v := ((1 : Int64) <<< (q11.1.toInt32.toInt64 &&& 63))) hx hb d_Worker_broughtBy_54 rfl ?_
        refine lv_goto hx hb d_Worker_broughtBy_55 (tgt := 61) (by decide) ?_
        obtain rfl := Option.some.inj hs
        exact pg_lret C hw d_Worker_broughtBy_61

def s_Worker_compared_105 (gf : GT_Worker_broughtBy) (t0 : Int32) (h : HP) : Option (Int32 × HP) :=
  if t0 = 0 then (
    some (0, h))
  else (
    some (1, h))
set_option maxHeartbeats 4000000 in
set_option maxRecDepth 100000 in
theorem k_Worker_compared_105 {t0 : Int32} {h : HP} {z : Int32 × HP} (C : CX g R_Worker b_Worker_compared 10 (some .int) p s m args meth c) (gf : GT_Worker_broughtBy) (n : Nat) (hG : HG_Worker_broughtBy l g gf n) {H : Heap} {locs : List Loc} {ls : Array Slot} (hw : WD g h s.heap H locs) (hl : lv_has ls 10 []) (hs : s_Worker_compared_105 gf t0 h = some z) : W p l e (rmS (n + 1 + 3) ((n + 1) * 34 + 70)) s m args below meth c H locs 0 0 (MQ below (Qq g (some (.int z.1)) z.2) args s 0 0 (inA g)) (F0 m 105 ls [.int t0]) := by
  unfold s_Worker_compared_105 at hs
  have hx := C.1
  have hb := C.2.1
  refine lv_istore hx hb d_Worker_compared_105 hl (by decide) (lv' := [(9, .int t0)]) rfl (fun ls hl => ?_)
  refine lv_iload hx hb d_Worker_compared_107 (lv_at hl 0 rfl) ?_
  refine lv_if_eq hx hb d_Worker_compared_109 (tgt := 116) (by decide) (fun hc => ?_) (fun hc => ?_)
  · have hs := oi_t hc hs
    refine lv_iconst (v := 0) hx hb d_Worker_compared_116 (by decide) ?_
    obtain rfl := Option.some.inj hs
    exact pg_iret C hw d_Worker_compared_117
  · have hs := oi_f hc hs
    refine lv_iconst (v := 1) hx hb d_Worker_compared_112 (by decide) ?_
    refine lv_goto hx hb d_Worker_compared_113 (tgt := 117) (by decide) ?_
    obtain rfl := Option.some.inj hs
    exact pg_iret C hw d_Worker_compared_117

def s_Worker_compared_104 (gf : GT_Worker_broughtBy) (h : HP) : Option (Int32 × HP) :=
  s_Worker_compared_105 gf 0 h
set_option maxHeartbeats 4000000 in
set_option maxRecDepth 100000 in
theorem k_Worker_compared_104 {h : HP} {z : Int32 × HP} (C : CX g R_Worker b_Worker_compared 10 (some .int) p s m args meth c) (gf : GT_Worker_broughtBy) (n : Nat) (hG : HG_Worker_broughtBy l g gf n) {H : Heap} {locs : List Loc} {ls : Array Slot} (hw : WD g h s.heap H locs) (hl : lv_has ls 10 []) (hs : s_Worker_compared_104 gf h = some z) : W p l e (rmS (n + 1 + 3) ((n + 1) * 34 + 70)) s m args below meth c H locs 0 0 (MQ below (Qq g (some (.int z.1)) z.2) args s 0 0 (inA g)) (F0 m 104 ls []) := by
  unfold s_Worker_compared_104 at hs
  have hx := C.1
  have hb := C.2.1
  refine lv_iconst (v := 0) hx hb d_Worker_compared_104 (by decide) ?_
  exact k_Worker_compared_105 C gf n hG hw (lv_sub hl [] rfl) hs

def s_Worker_compared (gf : GT_Worker_broughtBy) (x0 : Nat) (x1 : Nat) (x2 : Int32) (x3 : Int32) (x4 : Int32) (h : HP) : Option (Int32 × HP) :=
  (kd x0 4).bind fun _ =>
  (gf.2.2.2.2.2.2.2 x0 x1 (x2 + 1) x3 (x4 + 1) h).bind fun q2 =>
  if 0 ≤ (lg_cmp q2.1 0) then (
    (kd x1 0).bind fun _ =>
    (s_Text_endOf x1 (x2 + 1) q2.2).bind fun q5 =>
    (kd x0 4).bind fun _ =>
    (gf.2.2.2.2.2.2.2 x0 x1 q5 x3 (x4 + 1) q2.2).bind fun q8 =>
    if 0 ≤ (lg_cmp q8.1 0) then (
      (kd x1 0).bind fun _ =>
      (s_Text_at x1 x2 q8.2).bind fun q11 =>
      if q11 = 61 then (
        if (lg_cmp q2.1 q8.1) = 0 then (
          s_Worker_compared_105 gf 1 q8.2)
        else (
          s_Worker_compared_105 gf 0 q8.2))
      else (
        if 0 ≤ (lg_cmp q2.1 62) then (
          s_Worker_compared_104 gf q8.2)
        else (
          (s_AdjoinedSets_isMember q8.1 q2.1.toInt32).bind fun q13 =>
          if q13 = 0 then (
            s_Worker_compared_104 gf q8.2)
          else (
            s_Worker_compared_105 gf 1 q8.2))))
    else (
      some ((-3), q8.2)))
  else (
    some ((-3), q2.2))
set_option maxHeartbeats 4000000 in
set_option maxRecDepth 100000 in
theorem c_Worker_compared (l : Launch) (g : GG) (gf : GT_Worker_broughtBy) (n : Nat) (hG : HG_Worker_broughtBy l g gf n) {x0 : Nat} {x1 : Nat} {x2 : Int32} {x3 : Int32} {x4 : Int32} {h : HP} {z : Int32 × HP} (hs : s_Worker_compared gf x0 x1 x2 x3 x4 h = some z) : Ct l g y_Worker_compared w_Worker_compared (rmS (n + 1 + 3) ((n + 1) * 34 + 70)) [.ref (aD g x0), .ref (aD g x1), .int x2, .int x3, .int x4] h (some (.int z.1)) z.2 := by
  refine Ct.of (own := R_Worker) (by decide) rfl rfl (Nat.le_of_ble_eq_true rfl) ?_
  intro p e s m args below meth c ls C hl hw
  have hx := C.1
  have hb := C.2.1
  have hl : lv_has ls 10 [(0, .ref (aD g x0)), (1, .ref (aD g x1)), (2, .int x2), (3, .int x3), (4, .int x4)] := hl
  unfold s_Worker_compared at hs
  refine lv_aload_n hx hb d_Worker_compared_0 rfl (lv_at hl 0 rfl) ?_
  refine lv_aload_n hx hb d_Worker_compared_1 rfl (lv_at hl 1 rfl) ?_
  refine lv_iload_n hx hb d_Worker_compared_2 rfl (lv_at hl 2 rfl) ?_
  refine lv_iconst (v := 1) hx hb d_Worker_compared_3 (by decide) ?_
  refine lv_iadd hx hb d_Worker_compared_4 ?_
  refine lv_iload_n hx hb d_Worker_compared_5 rfl (lv_at hl 3 rfl) ?_
  refine lv_iload hx hb d_Worker_compared_6 (lv_at hl 4 rfl) ?_
  refine lv_iconst (v := 1) hx hb d_Worker_compared_8 (by decide) ?_
  refine lv_iadd hx hb d_Worker_compared_9 ?_
  obtain ⟨_, e1, hs⟩ := ob hs
  obtain ⟨q2, e3, hs⟩ := ob hs
  refine pg_callV C hw hl.1 ml_Worker_23 e1 (As := [.ref (aD g x1), .int (x2 + 1), .int x3, .int (x4 + 1)]) (rest := []) (hG.2.2.2.2.2.2.2 e3) rfl (rm_ok (by omega) (by omega)) (Nat.le_of_ble_eq_true rfl) rfl (st1 := [.long q2.1]) rfl d_Worker_compared_10 (fun H locs hw => ?_)
  refine lv_lstore hx hb d_Worker_compared_13 hl (by decide) (lv' := [(5, .long q2.1), (0, .ref (aD g x0)), (1, .ref (aD g x1)), (2, .int x2), (3, .int x3), (4, .int x4)]) rfl (fun ls hl => ?_)
  refine lv_lload hx hb d_Worker_compared_15 (lv_at hl 0 rfl) ?_
  refine lv_lconst (v := 0) hx hb d_Worker_compared_17 (by decide) ?_
  refine W.lcmp hx hb d_Worker_compared_18 ?_
  refine lv_if_ge hx hb d_Worker_compared_19 (tgt := 25) (by decide) (fun hc => ?_) (fun hc => ?_)
  · have hs := oi_t hc hs
    refine lv_aload_n hx hb d_Worker_compared_25 rfl (lv_at hl 1 rfl) ?_
    refine lv_aload_n hx hb d_Worker_compared_26 rfl (lv_at hl 2 rfl) ?_
    refine lv_aload_n hx hb d_Worker_compared_27 rfl (lv_at hl 2 rfl) ?_
    refine lv_iload_n hx hb d_Worker_compared_28 rfl (lv_at hl 3 rfl) ?_
    refine lv_iconst (v := 1) hx hb d_Worker_compared_29 (by decide) ?_
    refine lv_iadd hx hb d_Worker_compared_30 ?_
    obtain ⟨_, e4, hs⟩ := ob hs
    obtain ⟨q5, e6, hs⟩ := ob hs
    refine pg_callV C hw hl.1 ml_Worker_72 e4 (As := [.int (x2 + 1)]) (rest := [.ref (aD g x1), .ref (aD g x0)]) (c_Text_endOf l g e6) rfl (rm_ok (by omega) (by omega)) (Nat.le_of_ble_eq_true rfl) rfl (st1 := [.int q5, .ref (aD g x1), .ref (aD g x0)]) rfl d_Worker_compared_31 (fun H locs hw => ?_)
    refine lv_iload_n hx hb d_Worker_compared_34 rfl (lv_at hl 4 rfl) ?_
    refine lv_iload hx hb d_Worker_compared_35 (lv_at hl 5 rfl) ?_
    refine lv_iconst (v := 1) hx hb d_Worker_compared_37 (by decide) ?_
    refine lv_iadd hx hb d_Worker_compared_38 ?_
    obtain ⟨_, e7, hs⟩ := ob hs
    obtain ⟨q8, e9, hs⟩ := ob hs
    refine pg_callV C hw hl.1 ml_Worker_23 e7 (As := [.ref (aD g x1), .int q5, .int x3, .int (x4 + 1)]) (rest := []) (hG.2.2.2.2.2.2.2 e9) rfl (rm_ok (by omega) (by omega)) (Nat.le_of_ble_eq_true rfl) rfl (st1 := [.long q8.1]) rfl d_Worker_compared_39 (fun H locs hw => ?_)
    refine lv_lstore hx hb d_Worker_compared_42 hl (by decide) (lv' := [(7, .long q8.1), (5, .long q2.1), (0, .ref (aD g x0)), (1, .ref (aD g x1)), (2, .int x2), (3, .int x3), (4, .int x4)]) rfl (fun ls hl => ?_)
    refine lv_lload hx hb d_Worker_compared_44 (lv_at hl 0 rfl) ?_
    refine lv_lconst (v := 0) hx hb d_Worker_compared_46 (by decide) ?_
    refine W.lcmp hx hb d_Worker_compared_47 ?_
    refine lv_if_ge hx hb d_Worker_compared_48 (tgt := 54) (by decide) (fun hc => ?_) (fun hc => ?_)
    · have hs := oi_t hc hs
      refine lv_aload_n hx hb d_Worker_compared_54 rfl (lv_at hl 3 rfl) ?_
      refine lv_iload_n hx hb d_Worker_compared_55 rfl (lv_at hl 4 rfl) ?_
      obtain ⟨_, e10, hs⟩ := ob hs
      obtain ⟨q11, e12, hs⟩ := ob hs
      refine pg_callV C hw hl.1 ml_Worker_37 e10 (As := [.int x2]) (rest := []) (c_Text_at l g e12) rfl (rm_ok (by omega) (by omega)) (Nat.le_of_ble_eq_true rfl) rfl (st1 := [.int q11]) rfl d_Worker_compared_56 (fun H locs hw => ?_)
      refine lv_bipush (v := 61) hx hb d_Worker_compared_59 (by decide) ?_
      refine lv_icmp_ne hx hb d_Worker_compared_61 (tgt := 80) (by decide) (fun hc => ?_) (fun hc => ?_)
      · have hs := oi_f hc hs
        refine lv_lload hx hb d_Worker_compared_80 (lv_at hl 1 rfl) ?_
        refine lv_ldc2 (v := 62) hx hb C.own (C.w kc_Worker_79) d_Worker_compared_82 ?_
        refine W.lcmp hx hb d_Worker_compared_85 ?_
        refine lv_if_ge hx hb d_Worker_compared_86 (tgt := 104) (by decide) (fun hc => ?_) (fun hc => ?_)
        · have hs := oi_t hc hs
          exact k_Worker_compared_104 C gf n hG hw (lv_sub hl [] rfl) hs
        · have hs := oi_f hc hs
          refine lv_lload hx hb d_Worker_compared_89 (lv_at hl 0 rfl) ?_
          refine lv_lload hx hb d_Worker_compared_91 (lv_at hl 1 rfl) ?_
          refine lv_l2i (v := q2.1.toInt32) hx hb d_Worker_compared_93 rfl ?_
          obtain ⟨q13, e14, hs⟩ := ob hs
          refine pg_callSN C hw hl.1 ml_Worker_83 (As := [.long q8.1, .int q2.1.toInt32]) (rest := []) (c_AdjoinedSets_isMember l g e14) rfl (rm_ok (by omega) (by omega)) (Nat.le_of_ble_eq_true rfl) rfl (st1 := [.int q13]) rfl d_Worker_compared_94 (fun H locs hw => ?_)
          refine lv_if_eq hx hb d_Worker_compared_97 (tgt := 104) (by decide) (fun hc => ?_) (fun hc => ?_)
          · have hs := oi_t hc hs
            exact k_Worker_compared_104 C gf n hG hw (lv_sub hl [] rfl) hs
          · have hs := oi_f hc hs
            refine lv_iconst (v := 1) hx hb d_Worker_compared_100 (by decide) ?_
            refine lv_goto hx hb d_Worker_compared_101 (tgt := 105) (by decide) ?_
            exact k_Worker_compared_105 C gf n hG hw (lv_sub hl [] rfl) hs
      · have hs := oi_t hc hs
        refine lv_lload hx hb d_Worker_compared_64 (lv_at hl 1 rfl) ?_
        refine lv_lload hx hb d_Worker_compared_66 (lv_at hl 0 rfl) ?_
        refine W.lcmp hx hb d_Worker_compared_68 ?_
        refine lv_if_ne hx hb d_Worker_compared_69 (tgt := 76) (by decide) (fun hc => ?_) (fun hc => ?_)
        · have hs := oi_f hc hs
          refine lv_iconst (v := 0) hx hb d_Worker_compared_76 (by decide) ?_
          refine lv_goto hx hb d_Worker_compared_77 (tgt := 105) (by decide) ?_
          exact k_Worker_compared_105 C gf n hG hw (lv_sub hl [] rfl) hs
        · have hs := oi_t hc hs
          refine lv_iconst (v := 1) hx hb d_Worker_compared_72 (by decide) ?_
          refine lv_goto hx hb d_Worker_compared_73 (tgt := 105) (by decide) ?_
          exact k_Worker_compared_105 C gf n hG hw (lv_sub hl [] rfl) hs
    · have hs := oi_f hc hs
      refine lv_bipush (v := (-3)) hx hb d_Worker_compared_51 (by decide) ?_
      obtain rfl := Option.some.inj hs
      exact pg_iret C hw d_Worker_compared_53
  · have hs := oi_f hc hs
    refine lv_bipush (v := (-3)) hx hb d_Worker_compared_22 (by decide) ?_
    obtain rfl := Option.some.inj hs
    exact pg_iret C hw d_Worker_compared_24

def s_Worker_connected (gf : GT_Worker_broughtBy) (x0 : Nat) (x1 : Nat) (x2 : Int32) (x3 : Int32) (x4 : Int32) (h : HP) : Option (Int32 × HP) :=
  (kd x0 4).bind fun _ =>
  (gf.2.2.2.1 x0 x1 (x2 + 1) x3 (x4 + 1) h).bind fun q2 =>
  if 0 ≤ q2.1 then (
    (kd x1 0).bind fun _ =>
    (s_Text_at x1 x2 q2.2).bind fun q5 =>
    if q5 = 33 then (
      some ((1 - q2.1), q2.2))
    else (
      (kd x1 0).bind fun _ =>
      (s_Text_endOf x1 (x2 + 1) q2.2).bind fun q8 =>
      (kd x0 4).bind fun _ =>
      (gf.2.2.2.1 x0 x1 q8 x3 (x4 + 1) q2.2).bind fun q11 =>
      if 0 ≤ q11.1 then (
        (kd x1 0).bind fun _ =>
        (s_Text_at x1 x2 q11.2).bind fun q14 =>
        if q14 = 94 then (
          some ((q2.1 &&& q11.1), q11.2))
        else (
        if q14 = 118 then (
          some ((q2.1 ||| q11.1), q11.2))
        else (
          some (((1 - q2.1) ||| q11.1), q11.2))))
      else (
        some ((-3), q11.2))))
  else (
    some ((-3), q2.2))
set_option maxHeartbeats 4000000 in
set_option maxRecDepth 100000 in
theorem c_Worker_connected (l : Launch) (g : GG) (gf : GT_Worker_broughtBy) (n : Nat) (hG : HG_Worker_broughtBy l g gf n) {x0 : Nat} {x1 : Nat} {x2 : Int32} {x3 : Int32} {x4 : Int32} {h : HP} {z : Int32 × HP} (hs : s_Worker_connected gf x0 x1 x2 x3 x4 h = some z) : Ct l g y_Worker_connected w_Worker_connected (rmS (n + 1 + 3) ((n + 1) * 34 + 70)) [.ref (aD g x0), .ref (aD g x1), .int x2, .int x3, .int x4] h (some (.int z.1)) z.2 := by
  refine Ct.of (own := R_Worker) (by decide) rfl rfl (Nat.le_of_ble_eq_true rfl) ?_
  intro p e s m args below meth c ls C hl hw
  have hx := C.1
  have hb := C.2.1
  have hl : lv_has ls 7 [(0, .ref (aD g x0)), (1, .ref (aD g x1)), (2, .int x2), (3, .int x3), (4, .int x4)] := hl
  unfold s_Worker_connected at hs
  refine lv_aload_n hx hb d_Worker_connected_0 rfl (lv_at hl 0 rfl) ?_
  refine lv_aload_n hx hb d_Worker_connected_1 rfl (lv_at hl 1 rfl) ?_
  refine lv_iload_n hx hb d_Worker_connected_2 rfl (lv_at hl 2 rfl) ?_
  refine lv_iconst (v := 1) hx hb d_Worker_connected_3 (by decide) ?_
  refine lv_iadd hx hb d_Worker_connected_4 ?_
  refine lv_iload_n hx hb d_Worker_connected_5 rfl (lv_at hl 3 rfl) ?_
  refine lv_iload hx hb d_Worker_connected_6 (lv_at hl 4 rfl) ?_
  refine lv_iconst (v := 1) hx hb d_Worker_connected_8 (by decide) ?_
  refine lv_iadd hx hb d_Worker_connected_9 ?_
  obtain ⟨_, e1, hs⟩ := ob hs
  obtain ⟨q2, e3, hs⟩ := ob hs
  refine pg_callV C hw hl.1 ml_Worker_27 e1 (As := [.ref (aD g x1), .int (x2 + 1), .int x3, .int (x4 + 1)]) (rest := []) (hG.2.2.2.1 e3) rfl (rm_ok (by omega) (by omega)) (Nat.le_of_ble_eq_true rfl) rfl (st1 := [.int q2.1]) rfl d_Worker_connected_10 (fun H locs hw => ?_)
  refine lv_istore hx hb d_Worker_connected_13 hl (by decide) (lv' := [(5, .int q2.1), (0, .ref (aD g x0)), (1, .ref (aD g x1)), (2, .int x2), (3, .int x3), (4, .int x4)]) rfl (fun ls hl => ?_)
  refine lv_iload hx hb d_Worker_connected_15 (lv_at hl 0 rfl) ?_
  refine lv_if_ge hx hb d_Worker_connected_17 (tgt := 23) (by decide) (fun hc => ?_) (fun hc => ?_)
  · have hs := oi_t hc hs
    refine lv_aload_n hx hb d_Worker_connected_23 rfl (lv_at hl 2 rfl) ?_
    refine lv_iload_n hx hb d_Worker_connected_24 rfl (lv_at hl 3 rfl) ?_
    obtain ⟨_, e4, hs⟩ := ob hs
    obtain ⟨q5, e6, hs⟩ := ob hs
    refine pg_callV C hw hl.1 ml_Worker_37 e4 (As := [.int x2]) (rest := []) (c_Text_at l g e6) rfl (rm_ok (by omega) (by omega)) (Nat.le_of_ble_eq_true rfl) rfl (st1 := [.int q5]) rfl d_Worker_connected_25 (fun H locs hw => ?_)
    refine lv_bipush (v := 33) hx hb d_Worker_connected_28 (by decide) ?_
    refine lv_icmp_ne hx hb d_Worker_connected_30 (tgt := 38) (by decide) (fun hc => ?_) (fun hc => ?_)
    · have hs := oi_f hc hs
      refine lv_aload_n hx hb d_Worker_connected_38 rfl (lv_at hl 1 rfl) ?_
      refine lv_aload_n hx hb d_Worker_connected_39 rfl (lv_at hl 2 rfl) ?_
      refine lv_aload_n hx hb d_Worker_connected_40 rfl (lv_at hl 2 rfl) ?_
      refine lv_iload_n hx hb d_Worker_connected_41 rfl (lv_at hl 3 rfl) ?_
      refine lv_iconst (v := 1) hx hb d_Worker_connected_42 (by decide) ?_
      refine lv_iadd hx hb d_Worker_connected_43 ?_
      obtain ⟨_, e7, hs⟩ := ob hs
      obtain ⟨q8, e9, hs⟩ := ob hs
      refine pg_callV C hw hl.1 ml_Worker_72 e7 (As := [.int (x2 + 1)]) (rest := [.ref (aD g x1), .ref (aD g x0)]) (c_Text_endOf l g e9) rfl (rm_ok (by omega) (by omega)) (Nat.le_of_ble_eq_true rfl) rfl (st1 := [.int q8, .ref (aD g x1), .ref (aD g x0)]) rfl d_Worker_connected_44 (fun H locs hw => ?_)
      refine lv_iload_n hx hb d_Worker_connected_47 rfl (lv_at hl 4 rfl) ?_
      refine lv_iload hx hb d_Worker_connected_48 (lv_at hl 5 rfl) ?_
      refine lv_iconst (v := 1) hx hb d_Worker_connected_50 (by decide) ?_
      refine lv_iadd hx hb d_Worker_connected_51 ?_
      obtain ⟨_, e10, hs⟩ := ob hs
      obtain ⟨q11, e12, hs⟩ := ob hs
      refine pg_callV C hw hl.1 ml_Worker_27 e10 (As := [.ref (aD g x1), .int q8, .int x3, .int (x4 + 1)]) (rest := []) (hG.2.2.2.1 e12) rfl (rm_ok (by omega) (by omega)) (Nat.le_of_ble_eq_true rfl) rfl (st1 := [.int q11.1]) rfl d_Worker_connected_52 (fun H locs hw => ?_)
      refine lv_istore hx hb d_Worker_connected_55 hl (by decide) (lv' := [(6, .int q11.1), (5, .int q2.1), (0, .ref (aD g x0)), (1, .ref (aD g x1)), (2, .int x2), (3, .int x3), (4, .int x4)]) rfl (fun ls hl => ?_)
      refine lv_iload hx hb d_Worker_connected_57 (lv_at hl 0 rfl) ?_
      refine lv_if_ge hx hb d_Worker_connected_59 (tgt := 65) (by decide) (fun hc => ?_) (fun hc => ?_)
      · have hs := oi_t hc hs
        refine lv_aload_n hx hb d_Worker_connected_65 rfl (lv_at hl 3 rfl) ?_
        refine lv_iload_n hx hb d_Worker_connected_66 rfl (lv_at hl 4 rfl) ?_
        obtain ⟨_, e13, hs⟩ := ob hs
        obtain ⟨q14, e15, hs⟩ := ob hs
        refine pg_callV C hw hl.1 ml_Worker_37 e13 (As := [.int x2]) (rest := []) (c_Text_at l g e15) rfl (rm_ok (by omega) (by omega)) (Nat.le_of_ble_eq_true rfl) rfl (st1 := [.int q14]) rfl d_Worker_connected_67 (fun H locs hw => ?_)
        refine by_c (fun (hk0 : q14 = 94) => ?_) (fun (hk0 : ¬ q14 = 94) => ?_)
        · have hs := oi_t hk0 hs
          refine lv_lookup hx hb d_Worker_connected_70 (by decide) (off := 26) (by rw [hk0]; decide) (tgt := 96) (by decide) ?_
          refine lv_iload hx hb d_Worker_connected_96 (lv_at hl 1 rfl) ?_
          refine lv_iload hx hb d_Worker_connected_98 (lv_at hl 0 rfl) ?_
          refine lv_iand hx hb d_Worker_connected_100 ?_
          obtain rfl := Option.some.inj hs
          exact pg_iret C hw d_Worker_connected_101
        have hs := oi_f hk0 hs
        refine by_c (fun (hk1 : q14 = 118) => ?_) (fun (hk1 : ¬ q14 = 118) => ?_)
        · have hs := oi_t hk1 hs
          refine lv_lookup hx hb d_Worker_connected_70 (by decide) (off := 32) (by rw [hk1]; decide) (tgt := 102) (by decide) ?_
          refine lv_iload hx hb d_Worker_connected_102 (lv_at hl 1 rfl) ?_
          refine lv_iload hx hb d_Worker_connected_104 (lv_at hl 0 rfl) ?_
          refine lv_ior hx hb d_Worker_connected_106 ?_
          obtain rfl := Option.some.inj hs
          exact pg_iret C hw d_Worker_connected_107
        have hs := oi_f hk1 hs
        refine lv_lookup hx hb d_Worker_connected_70 (by decide) (off := 38) (by show Op.lookupswitch.offset [(94, 26), (118, 32)] _ _ = _; rw [lv_osw hk0 (by decide), lv_osw hk1 (by decide)]; rfl) (tgt := 108) (by decide) ?_
        refine lv_iconst (v := 1) hx hb d_Worker_connected_108 (by decide) ?_
        refine lv_iload hx hb d_Worker_connected_109 (lv_at hl 1 rfl) ?_
        refine lv_isub hx hb d_Worker_connected_111 ?_
        refine lv_iload hx hb d_Worker_connected_112 (lv_at hl 0 rfl) ?_
        refine lv_ior hx hb d_Worker_connected_114 ?_
        obtain rfl := Option.some.inj hs
        exact pg_iret C hw d_Worker_connected_115
      · have hs := oi_f hc hs
        refine lv_bipush (v := (-3)) hx hb d_Worker_connected_62 (by decide) ?_
        obtain rfl := Option.some.inj hs
        exact pg_iret C hw d_Worker_connected_64
    · have hs := oi_t hc hs
      refine lv_iconst (v := 1) hx hb d_Worker_connected_33 (by decide) ?_
      refine lv_iload hx hb d_Worker_connected_34 (lv_at hl 0 rfl) ?_
      refine lv_isub hx hb d_Worker_connected_36 ?_
      obtain rfl := Option.some.inj hs
      exact pg_iret C hw d_Worker_connected_37
  · have hs := oi_f hc hs
    refine lv_bipush (v := (-3)) hx hb d_Worker_connected_20 (by decide) ?_
    obtain rfl := Option.some.inj hs
    exact pg_iret C hw d_Worker_connected_22

def s_Worker_formula_60 (gf : GT_Worker_broughtBy) (x0 : Nat) (x1 : Nat) (x2 : Int32) (x3 : Int32) (x4 : Int32) (h : HP) : Option (Int32 × HP) :=
  (kd x0 4).bind fun _ =>
  (gf.2.1 x0 x1 x2 x3 x4 h).bind fun q2 =>
  some (q2.1, q2.2)
set_option maxHeartbeats 4000000 in
set_option maxRecDepth 100000 in
theorem k_Worker_formula_60 {x0 : Nat} {x1 : Nat} {x2 : Int32} {x3 : Int32} {x4 : Int32} {h : HP} {z : Int32 × HP} (C : CX g R_Worker b_Worker_formula 5 (some .int) p s m args meth c) (gf : GT_Worker_broughtBy) (n : Nat) (hG : HG_Worker_broughtBy l g gf n) {H : Heap} {locs : List Loc} {ls : Array Slot} (hw : WD g h s.heap H locs) (hl : lv_has ls 5 [(0, .ref (aD g x0)), (1, .ref (aD g x1)), (2, .int x2), (3, .int x3), (4, .int x4)]) (hs : s_Worker_formula_60 gf x0 x1 x2 x3 x4 h = some z) : W p l e (rmS (n + 1 + 3) ((n + 1) * 34 + 70)) s m args below meth c H locs 0 0 (MQ below (Qq g (some (.int z.1)) z.2) args s 0 0 (inA g)) (F0 m 60 ls []) := by
  unfold s_Worker_formula_60 at hs
  have hx := C.1
  have hb := C.2.1
  refine lv_aload_n hx hb d_Worker_formula_60 rfl (lv_at hl 0 rfl) ?_
  refine lv_aload_n hx hb d_Worker_formula_61 rfl (lv_at hl 1 rfl) ?_
  refine lv_iload_n hx hb d_Worker_formula_62 rfl (lv_at hl 2 rfl) ?_
  refine lv_iload_n hx hb d_Worker_formula_63 rfl (lv_at hl 3 rfl) ?_
  refine lv_iload hx hb d_Worker_formula_64 (lv_at hl 4 rfl) ?_
  obtain ⟨_, e1, hs⟩ := ob hs
  obtain ⟨q2, e3, hs⟩ := ob hs
  refine pg_callV C hw hl.1 ml_Worker_105 e1 (As := [.ref (aD g x1), .int x2, .int x3, .int x4]) (rest := []) (hG.2.1 e3) rfl (rm_ok (by omega) (by omega)) (Nat.le_of_ble_eq_true rfl) rfl (st1 := [.int q2.1]) rfl d_Worker_formula_66 (fun H locs hw => ?_)
  obtain rfl := Option.some.inj hs
  exact pg_iret C hw d_Worker_formula_69

def s_Worker_formula_70 (gf : GT_Worker_broughtBy) (x0 : Nat) (x1 : Nat) (x2 : Int32) (x3 : Int32) (x4 : Int32) (h : HP) : Option (Int32 × HP) :=
  (kd x0 4).bind fun _ =>
  (gf.2.2.2.2.2.2.1 x0 x1 x2 x3 x4 h).bind fun q2 =>
  some (q2.1, q2.2)
set_option maxHeartbeats 4000000 in
set_option maxRecDepth 100000 in
theorem k_Worker_formula_70 {x0 : Nat} {x1 : Nat} {x2 : Int32} {x3 : Int32} {x4 : Int32} {h : HP} {z : Int32 × HP} (C : CX g R_Worker b_Worker_formula 5 (some .int) p s m args meth c) (gf : GT_Worker_broughtBy) (n : Nat) (hG : HG_Worker_broughtBy l g gf n) {H : Heap} {locs : List Loc} {ls : Array Slot} (hw : WD g h s.heap H locs) (hl : lv_has ls 5 [(0, .ref (aD g x0)), (1, .ref (aD g x1)), (2, .int x2), (3, .int x3), (4, .int x4)]) (hs : s_Worker_formula_70 gf x0 x1 x2 x3 x4 h = some z) : W p l e (rmS (n + 1 + 3) ((n + 1) * 34 + 70)) s m args below meth c H locs 0 0 (MQ below (Qq g (some (.int z.1)) z.2) args s 0 0 (inA g)) (F0 m 70 ls []) := by
  unfold s_Worker_formula_70 at hs
  have hx := C.1
  have hb := C.2.1
  refine lv_aload_n hx hb d_Worker_formula_70 rfl (lv_at hl 0 rfl) ?_
  refine lv_aload_n hx hb d_Worker_formula_71 rfl (lv_at hl 1 rfl) ?_
  refine lv_iload_n hx hb d_Worker_formula_72 rfl (lv_at hl 2 rfl) ?_
  refine lv_iload_n hx hb d_Worker_formula_73 rfl (lv_at hl 3 rfl) ?_
  refine lv_iload hx hb d_Worker_formula_74 (lv_at hl 4 rfl) ?_
  obtain ⟨_, e1, hs⟩ := ob hs
  obtain ⟨q2, e3, hs⟩ := ob hs
  refine pg_callV C hw hl.1 ml_Worker_108 e1 (As := [.ref (aD g x1), .int x2, .int x3, .int x4]) (rest := []) (hG.2.2.2.2.2.2.1 e3) rfl (rm_ok (by omega) (by omega)) (Nat.le_of_ble_eq_true rfl) rfl (st1 := [.int q2.1]) rfl d_Worker_formula_76 (fun H locs hw => ?_)
  obtain rfl := Option.some.inj hs
  exact pg_iret C hw d_Worker_formula_79

def s_Worker_formula (gf : GT_Worker_broughtBy) (x0 : Nat) (x1 : Nat) (x2 : Int32) (x3 : Int32) (x4 : Int32) (h : HP) : Option (Int32 × HP) :=
  (kd x0 4).bind fun _ =>
  (s_Worker_pay x0 x4 h).bind fun q2 =>
  if q2.1 = 0 then (
    some ((-3), q2.2))
  else (
    (kd x1 0).bind fun _ =>
    (s_Text_at x1 x2 q2.2).bind fun q5 =>
    if q5 = 60 then (
      s_Worker_formula_60 gf x0 x1 x2 x3 x4 q2.2)
    else (
    if q5 = 61 then (
      s_Worker_formula_60 gf x0 x1 x2 x3 x4 q2.2)
    else (
    if q5 = 69 then (
      s_Worker_formula_70 gf x0 x1 x2 x3 x4 q2.2)
    else (
    if q5 = 76 then (
      s_Worker_formula_70 gf x0 x1 x2 x3 x4 q2.2)
    else (
      (kd x0 4).bind fun _ =>
      (gf.2.2.1 x0 x1 x2 x3 x4 q2.2).bind fun q8 =>
      some (q8.1, q8.2))))))
set_option maxHeartbeats 4000000 in
set_option maxRecDepth 100000 in
theorem c_Worker_formula (l : Launch) (g : GG) (gf : GT_Worker_broughtBy) (n : Nat) (hG : HG_Worker_broughtBy l g gf n) {x0 : Nat} {x1 : Nat} {x2 : Int32} {x3 : Int32} {x4 : Int32} {h : HP} {z : Int32 × HP} (hs : s_Worker_formula gf x0 x1 x2 x3 x4 h = some z) : Ct l g y_Worker_formula w_Worker_formula (rmS (n + 1 + 3) ((n + 1) * 34 + 70)) [.ref (aD g x0), .ref (aD g x1), .int x2, .int x3, .int x4] h (some (.int z.1)) z.2 := by
  refine Ct.of (own := R_Worker) (by decide) rfl rfl (Nat.le_of_ble_eq_true rfl) ?_
  intro p e s m args below meth c ls C hl hw
  have hx := C.1
  have hb := C.2.1
  have hl : lv_has ls 5 [(0, .ref (aD g x0)), (1, .ref (aD g x1)), (2, .int x2), (3, .int x3), (4, .int x4)] := hl
  unfold s_Worker_formula at hs
  refine lv_aload_n hx hb d_Worker_formula_0 rfl (lv_at hl 0 rfl) ?_
  refine lv_iload hx hb d_Worker_formula_1 (lv_at hl 4 rfl) ?_
  obtain ⟨_, e1, hs⟩ := ob hs
  obtain ⟨q2, e3, hs⟩ := ob hs
  refine pg_callV C hw hl.1 ml_Worker_31 e1 (As := [.int x4]) (rest := []) (c_Worker_pay l g e3) rfl (rm_ok (by omega) (by omega)) (Nat.le_of_ble_eq_true rfl) rfl (st1 := [.int q2.1]) rfl d_Worker_formula_3 (fun H locs hw => ?_)
  refine lv_if_ne hx hb d_Worker_formula_6 (tgt := 12) (by decide) (fun hc => ?_) (fun hc => ?_)
  · have hs := oi_f hc hs
    refine lv_aload_n hx hb d_Worker_formula_12 rfl (lv_at hl 1 rfl) ?_
    refine lv_iload_n hx hb d_Worker_formula_13 rfl (lv_at hl 2 rfl) ?_
    obtain ⟨_, e4, hs⟩ := ob hs
    obtain ⟨q5, e6, hs⟩ := ob hs
    refine pg_callV C hw hl.1 ml_Worker_37 e4 (As := [.int x2]) (rest := []) (c_Text_at l g e6) rfl (rm_ok (by omega) (by omega)) (Nat.le_of_ble_eq_true rfl) rfl (st1 := [.int q5]) rfl d_Worker_formula_14 (fun H locs hw => ?_)
    refine by_c (fun (hk0 : q5 = 60) => ?_) (fun (hk0 : ¬ q5 = 60) => ?_)
    · have hs := oi_t hk0 hs
      refine lv_lookup hx hb d_Worker_formula_17 (by decide) (off := 43) (by rw [hk0]; decide) (tgt := 60) (by decide) ?_
      exact k_Worker_formula_60 C gf n hG hw (lv_sub hl [0, 1, 2, 3, 4] rfl) hs
    have hs := oi_f hk0 hs
    refine by_c (fun (hk1 : q5 = 61) => ?_) (fun (hk1 : ¬ q5 = 61) => ?_)
    · have hs := oi_t hk1 hs
      refine lv_lookup hx hb d_Worker_formula_17 (by decide) (off := 43) (by rw [hk1]; decide) (tgt := 60) (by decide) ?_
      exact k_Worker_formula_60 C gf n hG hw (lv_sub hl [0, 1, 2, 3, 4] rfl) hs
    have hs := oi_f hk1 hs
    refine by_c (fun (hk2 : q5 = 69) => ?_) (fun (hk2 : ¬ q5 = 69) => ?_)
    · have hs := oi_t hk2 hs
      refine lv_lookup hx hb d_Worker_formula_17 (by decide) (off := 53) (by rw [hk2]; decide) (tgt := 70) (by decide) ?_
      exact k_Worker_formula_70 C gf n hG hw (lv_sub hl [0, 1, 2, 3, 4] rfl) hs
    have hs := oi_f hk2 hs
    refine by_c (fun (hk3 : q5 = 76) => ?_) (fun (hk3 : ¬ q5 = 76) => ?_)
    · have hs := oi_t hk3 hs
      refine lv_lookup hx hb d_Worker_formula_17 (by decide) (off := 53) (by rw [hk3]; decide) (tgt := 70) (by decide) ?_
      exact k_Worker_formula_70 C gf n hG hw (lv_sub hl [0, 1, 2, 3, 4] rfl) hs
    have hs := oi_f hk3 hs
    refine lv_lookup hx hb d_Worker_formula_17 (by decide) (off := 63) (by show Op.lookupswitch.offset [(60, 43), (61, 43), (69, 53), (76, 53)] _ _ = _; rw [lv_osw hk0 (by decide), lv_osw hk1 (by decide), lv_osw hk2 (by decide), lv_osw hk3 (by decide)]; rfl) (tgt := 80) (by decide) ?_
    refine lv_aload_n hx hb d_Worker_formula_80 rfl (lv_at hl 0 rfl) ?_
    refine lv_aload_n hx hb d_Worker_formula_81 rfl (lv_at hl 1 rfl) ?_
    refine lv_iload_n hx hb d_Worker_formula_82 rfl (lv_at hl 2 rfl) ?_
    refine lv_iload_n hx hb d_Worker_formula_83 rfl (lv_at hl 3 rfl) ?_
    refine lv_iload hx hb d_Worker_formula_84 (lv_at hl 4 rfl) ?_
    obtain ⟨_, e7, hs⟩ := ob hs
    obtain ⟨q8, e9, hs⟩ := ob hs
    refine pg_callV C hw hl.1 ml_Worker_111 e7 (As := [.ref (aD g x1), .int x2, .int x3, .int x4]) (rest := []) (hG.2.2.1 e9) rfl (rm_ok (by omega) (by omega)) (Nat.le_of_ble_eq_true rfl) rfl (st1 := [.int q8.1]) rfl d_Worker_formula_86 (fun H locs hw => ?_)
    obtain rfl := Option.some.inj hs
    exact pg_iret C hw d_Worker_formula_89
  · have hs := oi_t hc hs
    refine lv_bipush (v := (-3)) hx hb d_Worker_formula_9 (by decide) ?_
    obtain rfl := Option.some.inj hs
    exact pg_iret C hw d_Worker_formula_11

def s_Worker_gathered_91 (gf : GT_Worker_broughtBy) (c24 : Nat → Nat → Int32 → Int64 → Int32 → Int32 → Int32 → Int64 → Int64 → Int32 → HP → Option (Int64 × HP)) (x0 : Nat) (x1 : Nat) (x2 : Int32) (x3 : Int64) (x5 : Int32) (x6 : Int32) (x7 : Int32) (x8 : Int64) (x10 : Int64) (x12 : Int32) (h : HP) : Option (Int64 × HP) :=
  c24 x0 x1 x2 x3 x5 x6 x7 x8 x10 (x12 + 1) h
set_option maxHeartbeats 4000000 in
set_option maxRecDepth 100000 in
theorem k_Worker_gathered_91 {x0 : Nat} {x1 : Nat} {x2 : Int32} {x3 : Int64} {x5 : Int32} {x6 : Int32} {x7 : Int32} {x8 : Int64} {x10 : Int64} {x12 : Int32} {h : HP} {z : Int64 × HP} (C : CX g R_Worker b_Worker_gathered 15 (some .long) p s m args meth c) (gf : GT_Worker_broughtBy) (n : Nat) (hG : HG_Worker_broughtBy l g gf n) (c24 : Nat → Nat → Int32 → Int64 → Int32 → Int32 → Int32 → Int64 → Int64 → Int32 → HP → Option (Int64 × HP))
    (hc24 : ∀ {x0 : Nat} {x1 : Nat} {x2 : Int32} {x3 : Int64} {x5 : Int32} {x6 : Int32} {x7 : Int32} {x8 : Int64} {x10 : Int64} {x12 : Int32} {h : HP} {H : Heap} {locs : List Loc} {ls : Array Slot}, WD g h s.heap H locs → lv_has ls 15 [(0, .ref (aD g x0)), (1, .ref (aD g x1)), (2, .int x2), (3, .long x3), (5, .int x5), (6, .int x6), (7, .int x7), (8, .long x8), (10, .long x10), (12, .int x12)] → c24 x0 x1 x2 x3 x5 x6 x7 x8 x10 x12 h = some z → W p l e (rmS (n + 1 + 3) ((n + 1) * 34 + 70)) s m args below meth c H locs 0 0 (MQ below (Qq g (some (.long z.1)) z.2) args s 0 0 (inA g)) (F0 m 24 ls [])) {H : Heap} {locs : List Loc} {ls : Array Slot} (hw : WD g h s.heap H locs) (hl : lv_has ls 15 [(0, .ref (aD g x0)), (1, .ref (aD g x1)), (2, .int x2), (3, .long x3), (5, .int x5), (6, .int x6), (7, .int x7), (8, .long x8), (10, .long x10), (12, .int x12)]) (hs : s_Worker_gathered_91 gf c24 x0 x1 x2 x3 x5 x6 x7 x8 x10 x12 h = some z) : W p l e (rmS (n + 1 + 3) ((n + 1) * 34 + 70)) s m args below meth c H locs 0 0 (MQ below (Qq g (some (.long z.1)) z.2) args s 0 0 (inA g)) (F0 m 91 ls []) := by
  unfold s_Worker_gathered_91 at hs
  have hx := C.1
  have hb := C.2.1
  refine lv_iinc hx hb d_Worker_gathered_91 hl (k := 9) rfl (v := (x12 + 1)) (iinc_e _ (by decide)) (by decide) (lv' := [(12, .int (x12 + 1)), (0, .ref (aD g x0)), (1, .ref (aD g x1)), (2, .int x2), (3, .long x3), (5, .int x5), (6, .int x6), (7, .int x7), (8, .long x8), (10, .long x10)]) rfl (fun ls hl => ?_)
  refine lv_goto hx hb d_Worker_gathered_94 (tgt := 24) (by decide) ?_
  exact hc24 hw (lv_sub hl [1, 2, 3, 4, 5, 6, 7, 8, 9, 0] rfl) hs

def s_Worker_gathered_97 (gf : GT_Worker_broughtBy) (x0 : Nat) (x7 : Int32) (x8 : Int64) (x10 : Int64) (h : HP) : Option (Int64 × HP) :=
  (gR h x0 4 1).bind fun v1 =>
  (uL h v1 2 x7 x8).bind fun h3 =>
  some (x10, h3)
set_option maxHeartbeats 4000000 in
set_option maxRecDepth 100000 in
theorem k_Worker_gathered_97 {x0 : Nat} {x7 : Int32} {x8 : Int64} {x10 : Int64} {h : HP} {z : Int64 × HP} (C : CX g R_Worker b_Worker_gathered 15 (some .long) p s m args meth c) (gf : GT_Worker_broughtBy) (n : Nat) (hG : HG_Worker_broughtBy l g gf n) {H : Heap} {locs : List Loc} {ls : Array Slot} (hw : WD g h s.heap H locs) (hl : lv_has ls 15 [(0, .ref (aD g x0)), (7, .int x7), (8, .long x8), (10, .long x10)]) (hs : s_Worker_gathered_97 gf x0 x7 x8 x10 h = some z) : W p l e (rmS (n + 1 + 3) ((n + 1) * 34 + 70)) s m args below meth c H locs 0 0 (MQ below (Qq g (some (.long z.1)) z.2) args s 0 0 (inA g)) (F0 m 97 ls []) := by
  unfold s_Worker_gathered_97 at hs
  have hx := C.1
  have hb := C.2.1
  refine lv_aload_n hx hb d_Worker_gathered_97 rfl (lv_at hl 0 rfl) ?_
  obtain ⟨v1, e2, hs⟩ := ob hs
  refine pg_getR C hw fl_Worker_9 e2 d_Worker_gathered_98 ?_
  refine lv_iload hx hb d_Worker_gathered_101 (lv_at hl 1 rfl) ?_
  refine lv_lload hx hb d_Worker_gathered_103 (lv_at hl 2 rfl) ?_
  obtain ⟨h3, e4, hs⟩ := ob hs
  refine pg_lastore C hw (t0 := 2) rfl e4 d_Worker_gathered_105 (fun H locs hw => ?_)
  refine lv_lload hx hb d_Worker_gathered_106 (lv_at hl 3 rfl) ?_
  obtain rfl := Option.some.inj hs
  exact pg_lret C hw d_Worker_gathered_108

def s_Worker_gathered_24 (gf : GT_Worker_broughtBy) : Nat → Nat → Nat → Int32 → Int64 → Int32 → Int32 → Int32 → Int64 → Int64 → Int32 → HP → Option (Int64 × HP)
  | 0 => fun _ _ _ _ _ _ _ _ _ _ _ => none
  | k + 1 => fun x0 x1 x2 x3 x5 x6 x7 x8 x10 x12 h =>
  if 62 ≤ x12 then (
    s_Worker_gathered_97 gf x0 x7 x8 x10 h)
  else (
    if (lg_cmp (x3 >>> (x12.toInt64 &&& 63)) 0) = 0 then (
      s_Worker_gathered_97 gf x0 x7 x8 x10 h)
    else (
      (s_AdjoinedSets_isMember x3 x12).bind fun q1 =>
      if q1 = 0 then (
        s_Worker_gathered_91 gf (s_Worker_gathered_24 gf k) x0 x1 x2 x3 x5 x6 x7 x8 x10 x12 h)
      else (
        (gR h x0 4 1).bind fun v3 =>
        (uL h v3 2 x7 x12.toInt64).bind fun h5 =>
        (kd x0 4).bind fun _ =>
        (gf.1 x0 x12 x1 x2 x5 x6 h5).bind fun q8 =>
        if 0 ≤ (lg_cmp q8.1 0) then (
          s_Worker_gathered_91 gf (s_Worker_gathered_24 gf k) x0 x1 x2 x3 x5 x6 x7 x8 (x10 ||| q8.1) x12 q8.2)
        else (
          some ((-3), q8.2)))))
set_option maxHeartbeats 4000000 in
set_option maxRecDepth 100000 in
theorem k_Worker_gathered_24 {z : Int64 × HP} (C : CX g R_Worker b_Worker_gathered 15 (some .long) p s m args meth c) (gf : GT_Worker_broughtBy) (n : Nat) (hG : HG_Worker_broughtBy l g gf n) : ∀ (k : Nat) {x0 : Nat} {x1 : Nat} {x2 : Int32} {x3 : Int64} {x5 : Int32} {x6 : Int32} {x7 : Int32} {x8 : Int64} {x10 : Int64} {x12 : Int32} {h : HP} {H : Heap} {locs : List Loc} {ls : Array Slot}, WD g h s.heap H locs → lv_has ls 15 [(0, .ref (aD g x0)), (1, .ref (aD g x1)), (2, .int x2), (3, .long x3), (5, .int x5), (6, .int x6), (7, .int x7), (8, .long x8), (10, .long x10), (12, .int x12)] → s_Worker_gathered_24 gf k x0 x1 x2 x3 x5 x6 x7 x8 x10 x12 h = some z → W p l e (rmS (n + 1 + 3) ((n + 1) * 34 + 70)) s m args below meth c H locs 0 0 (MQ below (Qq g (some (.long z.1)) z.2) args s 0 0 (inA g)) (F0 m 24 ls []) := by
  have hx := C.1
  have hb := C.2.1
  intro k
  induction k with
  | zero =>
    intro x0 x1 x2 x3 x5 x6 x7 x8 x10 x12 h H locs ls hw hl hs
    exact (no_s hs).elim
  | succ k ih =>
    intro x0 x1 x2 x3 x5 x6 x7 x8 x10 x12 h H locs ls hw hl hs
    rw [s_Worker_gathered_24] at hs
    refine lv_iload hx hb d_Worker_gathered_24 (lv_at hl 9 rfl) ?_
    refine lv_bipush (v := 62) hx hb d_Worker_gathered_26 (by decide) ?_
    refine lv_icmp_ge hx hb d_Worker_gathered_28 (tgt := 97) (by decide) (fun hc => ?_) (fun hc => ?_)
    · have hs := oi_t hc hs
      exact k_Worker_gathered_97 C gf n hG hw (lv_sub hl [0, 6, 7, 8] rfl) hs
    · have hs := oi_f hc hs
      refine lv_lload_n hx hb d_Worker_gathered_31 rfl (lv_at hl 3 rfl) ?_
      refine lv_iload hx hb d_Worker_gathered_32 (lv_at hl 9 rfl) ?_
      refine lv_lshr (v := (x3 >>> (x12.toInt64 &&& 63))) hx hb d_Worker_gathered_34 rfl ?_
      refine lv_lconst (v := 0) hx hb d_Worker_gathered_35 (by decide) ?_
      refine W.lcmp hx hb d_Worker_gathered_36 ?_
      refine lv_if_eq hx hb d_Worker_gathered_37 (tgt := 97) (by decide) (fun hc => ?_) (fun hc => ?_)
      · have hs := oi_t hc hs
        exact k_Worker_gathered_97 C gf n hG hw (lv_sub hl [0, 6, 7, 8] rfl) hs
      · have hs := oi_f hc hs
        refine lv_lload_n hx hb d_Worker_gathered_40 rfl (lv_at hl 3 rfl) ?_
        refine lv_iload hx hb d_Worker_gathered_41 (lv_at hl 9 rfl) ?_
        obtain ⟨q1, e2, hs⟩ := ob hs
        refine pg_callSN C hw hl.1 ml_Worker_83 (As := [.long x3, .int x12]) (rest := []) (c_AdjoinedSets_isMember l g e2) rfl (rm_ok (by omega) (by omega)) (Nat.le_of_ble_eq_true rfl) rfl (st1 := [.int q1]) rfl d_Worker_gathered_43 (fun H locs hw => ?_)
        refine lv_if_eq hx hb d_Worker_gathered_46 (tgt := 91) (by decide) (fun hc => ?_) (fun hc => ?_)
        · have hs := oi_t hc hs
          exact k_Worker_gathered_91 C gf n hG (s_Worker_gathered_24 gf k) ih hw (lv_sub hl [0, 1, 2, 3, 4, 5, 6, 7, 8, 9] rfl) hs
        · have hs := oi_f hc hs
          refine lv_aload_n hx hb d_Worker_gathered_49 rfl (lv_at hl 0 rfl) ?_
          obtain ⟨v3, e4, hs⟩ := ob hs
          refine pg_getR C hw fl_Worker_9 e4 d_Worker_gathered_50 ?_
          refine lv_iload hx hb d_Worker_gathered_53 (lv_at hl 6 rfl) ?_
          refine lv_iload hx hb d_Worker_gathered_55 (lv_at hl 9 rfl) ?_
          refine lv_i2l (v := x12.toInt64) hx hb d_Worker_gathered_57 rfl ?_
          obtain ⟨h5, e6, hs⟩ := ob hs
          refine pg_lastore C hw (t0 := 2) rfl e6 d_Worker_gathered_58 (fun H locs hw => ?_)
          refine lv_aload_n hx hb d_Worker_gathered_59 rfl (lv_at hl 0 rfl) ?_
          refine lv_iload hx hb d_Worker_gathered_60 (lv_at hl 9 rfl) ?_
          refine lv_aload_n hx hb d_Worker_gathered_62 rfl (lv_at hl 1 rfl) ?_
          refine lv_iload_n hx hb d_Worker_gathered_63 rfl (lv_at hl 2 rfl) ?_
          refine lv_iload hx hb d_Worker_gathered_64 (lv_at hl 4 rfl) ?_
          refine lv_iload hx hb d_Worker_gathered_66 (lv_at hl 5 rfl) ?_
          obtain ⟨_, e7, hs⟩ := ob hs
          obtain ⟨q8, e9, hs⟩ := ob hs
          refine pg_callV C hw hl.1 ml_Worker_91 e7 (As := [.int x12, .ref (aD g x1), .int x2, .int x5, .int x6]) (rest := []) (hG.1 e9) rfl (rm_ok (by omega) (by omega)) (Nat.le_of_ble_eq_true rfl) rfl (st1 := [.long q8.1]) rfl d_Worker_gathered_68 (fun H locs hw => ?_)
          refine lv_lstore hx hb d_Worker_gathered_71 hl (by decide) (lv' := [(13, .long q8.1), (0, .ref (aD g x0)), (1, .ref (aD g x1)), (2, .int x2), (3, .long x3), (5, .int x5), (6, .int x6), (7, .int x7), (8, .long x8), (10, .long x10), (12, .int x12)]) rfl (fun ls hl => ?_)
          refine lv_lload hx hb d_Worker_gathered_73 (lv_at hl 0 rfl) ?_
          refine lv_lconst (v := 0) hx hb d_Worker_gathered_75 (by decide) ?_
          refine W.lcmp hx hb d_Worker_gathered_76 ?_
          refine lv_if_ge hx hb d_Worker_gathered_77 (tgt := 84) (by decide) (fun hc => ?_) (fun hc => ?_)
          · have hs := oi_t hc hs
            refine lv_lload hx hb d_Worker_gathered_84 (lv_at hl 9 rfl) ?_
            refine lv_lload hx hb d_Worker_gathered_86 (lv_at hl 0 rfl) ?_
            refine lv_lor hx hb d_Worker_gathered_88 ?_
            refine lv_lstore hx hb d_Worker_gathered_89 hl (by decide) (lv' := [(10, .long (x10 ||| q8.1)), (13, .long q8.1), (0, .ref (aD g x0)), (1, .ref (aD g x1)), (2, .int x2), (3, .long x3), (5, .int x5), (6, .int x6), (7, .int x7), (8, .long x8), (12, .int x12)]) rfl (fun ls hl => ?_)
            exact k_Worker_gathered_91 C gf n hG (s_Worker_gathered_24 gf k) ih hw (lv_sub hl [2, 3, 4, 5, 6, 7, 8, 9, 0, 10] rfl) hs
          · have hs := oi_f hc hs
            refine lv_ldc2 (v := (-3)) hx hb C.own (C.w kc_Worker_35) d_Worker_gathered_80 ?_
            obtain rfl := Option.some.inj hs
            exact pg_lret C hw d_Worker_gathered_83

def s_Worker_gathered (gf : GT_Worker_broughtBy) (x0 : Nat) (x1 : Nat) (x2 : Int32) (x3 : Int64) (x5 : Int32) (x6 : Int32) (h : HP) : Option (Int64 × HP) :=
  (s_Worker_letterBoundAt x1 x2 x5 h).bind fun q1 =>
  (gR h x0 4 1).bind fun v3 =>
  (aL h v3 2 q1).bind fun v5 =>
  s_Worker_gathered_24 gf 20000 x0 x1 x2 x3 x5 x6 q1 v5 0 0 h
set_option maxHeartbeats 4000000 in
set_option maxRecDepth 100000 in
theorem c_Worker_gathered (l : Launch) (g : GG) (gf : GT_Worker_broughtBy) (n : Nat) (hG : HG_Worker_broughtBy l g gf n) {x0 : Nat} {x1 : Nat} {x2 : Int32} {x3 : Int64} {x5 : Int32} {x6 : Int32} {h : HP} {z : Int64 × HP} (hs : s_Worker_gathered gf x0 x1 x2 x3 x5 x6 h = some z) : Ct l g y_Worker_gathered w_Worker_gathered (rmS (n + 1 + 3) ((n + 1) * 34 + 70)) [.ref (aD g x0), .ref (aD g x1), .int x2, .long x3, .int x5, .int x6] h (some (.long z.1)) z.2 := by
  refine Ct.of (own := R_Worker) (by decide) rfl rfl (Nat.le_of_ble_eq_true rfl) ?_
  intro p e s m args below meth c ls C hl hw
  have hx := C.1
  have hb := C.2.1
  have hl : lv_has ls 15 [(0, .ref (aD g x0)), (1, .ref (aD g x1)), (2, .int x2), (3, .long x3), (5, .int x5), (6, .int x6)] := hl
  unfold s_Worker_gathered at hs
  refine lv_aload_n hx hb d_Worker_gathered_0 rfl (lv_at hl 1 rfl) ?_
  refine lv_iload_n hx hb d_Worker_gathered_1 rfl (lv_at hl 2 rfl) ?_
  refine lv_iload hx hb d_Worker_gathered_2 (lv_at hl 4 rfl) ?_
  obtain ⟨q1, e2, hs⟩ := ob hs
  refine pg_callS C hw hl.1 ml_Worker_87 (As := [.ref (aD g x1), .int x2, .int x5]) (rest := []) (c_Worker_letterBoundAt l g e2) rfl (rm_ok (by omega) (by omega)) (Nat.le_of_ble_eq_true rfl) rfl (st1 := [.int q1]) rfl d_Worker_gathered_4 (fun H locs hw => ?_)
  refine lv_istore hx hb d_Worker_gathered_7 hl (by decide) (lv' := [(7, .int q1), (0, .ref (aD g x0)), (1, .ref (aD g x1)), (2, .int x2), (3, .long x3), (5, .int x5), (6, .int x6)]) rfl (fun ls hl => ?_)
  refine lv_aload_n hx hb d_Worker_gathered_9 rfl (lv_at hl 1 rfl) ?_
  obtain ⟨v3, e4, hs⟩ := ob hs
  refine pg_getR C hw fl_Worker_9 e4 d_Worker_gathered_10 ?_
  refine lv_iload hx hb d_Worker_gathered_13 (lv_at hl 0 rfl) ?_
  obtain ⟨v5, e6, hs⟩ := ob hs
  refine pg_laload C hw (t0 := 2) rfl e6 d_Worker_gathered_15 ?_
  refine lv_lstore hx hb d_Worker_gathered_16 hl (by decide) (lv' := [(8, .long v5), (7, .int q1), (0, .ref (aD g x0)), (1, .ref (aD g x1)), (2, .int x2), (3, .long x3), (5, .int x5), (6, .int x6)]) rfl (fun ls hl => ?_)
  refine lv_lconst (v := 0) hx hb d_Worker_gathered_18 (by decide) ?_
  refine lv_lstore hx hb d_Worker_gathered_19 hl (by decide) (lv' := [(10, .long 0), (8, .long v5), (7, .int q1), (0, .ref (aD g x0)), (1, .ref (aD g x1)), (2, .int x2), (3, .long x3), (5, .int x5), (6, .int x6)]) rfl (fun ls hl => ?_)
  refine lv_iconst (v := 0) hx hb d_Worker_gathered_21 (by decide) ?_
  refine lv_istore hx hb d_Worker_gathered_22 hl (by decide) (lv' := [(12, .int 0), (10, .long 0), (8, .long v5), (7, .int q1), (0, .ref (aD g x0)), (1, .ref (aD g x1)), (2, .int x2), (3, .long x3), (5, .int x5), (6, .int x6)]) rfl (fun ls hl => ?_)
  exact k_Worker_gathered_24 C gf n hG 20000 hw (lv_sub hl [4, 5, 6, 7, 8, 9, 3, 2, 1, 0] rfl) hs

def s_Worker_given_23 (gf : GT_Worker_broughtBy) : Nat → Nat → Nat → Int32 → Int32 → Nat → Int32 → Int32 → HP → Option (Int64 × HP)
  | 0 => fun _ _ _ _ _ _ _ _ => none
  | k + 1 => fun x0 x1 x3 x4 x5 x6 x7 h =>
  (kd x5 1).bind fun _ =>
  (s_Function_takes x5 h).bind fun q2 =>
  if q2 ≤ x7 then (
    (kd x5 1).bind fun _ =>
    (s_Function_body x5 h).bind fun q5 =>
    (kd x0 4).bind fun _ =>
    (gf.2.2.2.2.2.2.2 x0 q5 0 x4 (x4 + 1) h).bind fun q8 =>
    some (q8.1, q8.2))
  else (
    (kd x0 4).bind fun _ =>
    (gf.2.2.2.2.2.2.2 x0 x1 x6 x3 (x4 + 1) h).bind fun q11 =>
    if 0 ≤ (lg_cmp q11.1 0) then (
      (gR q11.2 x0 4 1).bind fun v13 =>
      (uL q11.2 v13 2 ((x4 * 8) + x7) q11.1).bind fun h15 =>
      (kd x1 0).bind fun _ =>
      (s_Text_endOf x1 x6 h15).bind fun q18 =>
      (s_Worker_given_23 gf k) x0 x1 x3 x4 x5 q18 (x7 + 1) h15)
    else (
      some ((-3), q11.2)))
set_option maxHeartbeats 4000000 in
set_option maxRecDepth 100000 in
theorem k_Worker_given_23 {z : Int64 × HP} (C : CX g R_Worker b_Worker_given 10 (some .long) p s m args meth c) (gf : GT_Worker_broughtBy) (n : Nat) (hG : HG_Worker_broughtBy l g gf n) : ∀ (k : Nat) {x0 : Nat} {x1 : Nat} {x3 : Int32} {x4 : Int32} {x5 : Nat} {x6 : Int32} {x7 : Int32} {h : HP} {H : Heap} {locs : List Loc} {ls : Array Slot}, WD g h s.heap H locs → lv_has ls 10 [(0, .ref (aD g x0)), (1, .ref (aD g x1)), (3, .int x3), (4, .int x4), (5, .ref (aD g x5)), (6, .int x6), (7, .int x7)] → s_Worker_given_23 gf k x0 x1 x3 x4 x5 x6 x7 h = some z → W p l e (rmS (n + 1 + 3) ((n + 1) * 34 + 70)) s m args below meth c H locs 0 0 (MQ below (Qq g (some (.long z.1)) z.2) args s 0 0 (inA g)) (F0 m 23 ls []) := by
  have hx := C.1
  have hb := C.2.1
  intro k
  induction k with
  | zero =>
    intro x0 x1 x3 x4 x5 x6 x7 h H locs ls hw hl hs
    exact (no_s hs).elim
  | succ k ih =>
    intro x0 x1 x3 x4 x5 x6 x7 h H locs ls hw hl hs
    rw [s_Worker_given_23] at hs
    refine lv_iload hx hb d_Worker_given_23 (lv_at hl 6 rfl) ?_
    refine lv_aload hx hb d_Worker_given_25 (lv_at hl 4 rfl) ?_
    obtain ⟨_, e1, hs⟩ := ob hs
    obtain ⟨q2, e3, hs⟩ := ob hs
    refine pg_callV C hw hl.1 ml_Worker_95 e1 (As := []) (rest := [.int x7]) (c_Function_takes l g e3) rfl (rm_ok (by omega) (by omega)) (Nat.le_of_ble_eq_true rfl) rfl (st1 := [.int q2, .int x7]) rfl d_Worker_given_27 (fun H locs hw => ?_)
    refine lv_icmp_ge hx hb d_Worker_given_30 (tgt := 87) (by decide) (fun hc => ?_) (fun hc => ?_)
    · have hs := oi_t hc hs
      refine lv_aload_n hx hb d_Worker_given_87 rfl (lv_at hl 0 rfl) ?_
      refine lv_aload hx hb d_Worker_given_88 (lv_at hl 4 rfl) ?_
      obtain ⟨_, e4, hs⟩ := ob hs
      obtain ⟨q5, e6, hs⟩ := ob hs
      refine pg_callV C hw hl.1 ml_Worker_101 e4 (As := []) (rest := [.ref (aD g x0)]) (c_Function_body l g e6) rfl (rm_ok (by omega) (by omega)) (Nat.le_of_ble_eq_true rfl) rfl (st1 := [.ref (aD g q5), .ref (aD g x0)]) rfl d_Worker_given_90 (fun H locs hw => ?_)
      refine lv_iconst (v := 0) hx hb d_Worker_given_93 (by decide) ?_
      refine lv_iload hx hb d_Worker_given_94 (lv_at hl 3 rfl) ?_
      refine lv_iload hx hb d_Worker_given_96 (lv_at hl 3 rfl) ?_
      refine lv_iconst (v := 1) hx hb d_Worker_given_98 (by decide) ?_
      refine lv_iadd hx hb d_Worker_given_99 ?_
      obtain ⟨_, e7, hs⟩ := ob hs
      obtain ⟨q8, e9, hs⟩ := ob hs
      refine pg_callV C hw hl.1 ml_Worker_23 e7 (As := [.ref (aD g q5), .int 0, .int x4, .int (x4 + 1)]) (rest := []) (hG.2.2.2.2.2.2.2 e9) rfl (rm_ok (by omega) (by omega)) (Nat.le_of_ble_eq_true rfl) rfl (st1 := [.long q8.1]) rfl d_Worker_given_100 (fun H locs hw => ?_)
      obtain rfl := Option.some.inj hs
      exact pg_lret C hw d_Worker_given_103
    · have hs := oi_f hc hs
      refine lv_aload_n hx hb d_Worker_given_33 rfl (lv_at hl 0 rfl) ?_
      refine lv_aload_n hx hb d_Worker_given_34 rfl (lv_at hl 1 rfl) ?_
      refine lv_iload hx hb d_Worker_given_35 (lv_at hl 5 rfl) ?_
      refine lv_iload_n hx hb d_Worker_given_37 rfl (lv_at hl 2 rfl) ?_
      refine lv_iload hx hb d_Worker_given_38 (lv_at hl 3 rfl) ?_
      refine lv_iconst (v := 1) hx hb d_Worker_given_40 (by decide) ?_
      refine lv_iadd hx hb d_Worker_given_41 ?_
      obtain ⟨_, e10, hs⟩ := ob hs
      obtain ⟨q11, e12, hs⟩ := ob hs
      refine pg_callV C hw hl.1 ml_Worker_23 e10 (As := [.ref (aD g x1), .int x6, .int x3, .int (x4 + 1)]) (rest := []) (hG.2.2.2.2.2.2.2 e12) rfl (rm_ok (by omega) (by omega)) (Nat.le_of_ble_eq_true rfl) rfl (st1 := [.long q11.1]) rfl d_Worker_given_42 (fun H locs hw => ?_)
      refine lv_lstore hx hb d_Worker_given_45 hl (by decide) (lv' := [(8, .long q11.1), (0, .ref (aD g x0)), (1, .ref (aD g x1)), (3, .int x3), (4, .int x4), (5, .ref (aD g x5)), (6, .int x6), (7, .int x7)]) rfl (fun ls hl => ?_)
      refine lv_lload hx hb d_Worker_given_47 (lv_at hl 0 rfl) ?_
      refine lv_lconst (v := 0) hx hb d_Worker_given_49 (by decide) ?_
      refine W.lcmp hx hb d_Worker_given_50 ?_
      refine lv_if_ge hx hb d_Worker_given_51 (tgt := 58) (by decide) (fun hc => ?_) (fun hc => ?_)
      · have hs := oi_t hc hs
        refine lv_aload_n hx hb d_Worker_given_58 rfl (lv_at hl 1 rfl) ?_
        obtain ⟨v13, e14, hs⟩ := ob hs
        refine pg_getR C hw fl_Worker_9 e14 d_Worker_given_59 ?_
        refine lv_iload hx hb d_Worker_given_62 (lv_at hl 4 rfl) ?_
        refine lv_bipush (v := 8) hx hb d_Worker_given_64 (by decide) ?_
        refine lv_imul hx hb d_Worker_given_66 ?_
        refine lv_iload hx hb d_Worker_given_67 (lv_at hl 7 rfl) ?_
        refine lv_iadd hx hb d_Worker_given_69 ?_
        refine lv_lload hx hb d_Worker_given_70 (lv_at hl 0 rfl) ?_
        obtain ⟨h15, e16, hs⟩ := ob hs
        refine pg_lastore C hw (t0 := 2) rfl e16 d_Worker_given_72 (fun H locs hw => ?_)
        refine lv_aload_n hx hb d_Worker_given_73 rfl (lv_at hl 2 rfl) ?_
        refine lv_iload hx hb d_Worker_given_74 (lv_at hl 6 rfl) ?_
        obtain ⟨_, e17, hs⟩ := ob hs
        obtain ⟨q18, e19, hs⟩ := ob hs
        refine pg_callV C hw hl.1 ml_Worker_72 e17 (As := [.int x6]) (rest := []) (c_Text_endOf l g e19) rfl (rm_ok (by omega) (by omega)) (Nat.le_of_ble_eq_true rfl) rfl (st1 := [.int q18]) rfl d_Worker_given_76 (fun H locs hw => ?_)
        refine lv_istore hx hb d_Worker_given_79 hl (by decide) (lv' := [(6, .int q18), (8, .long q11.1), (0, .ref (aD g x0)), (1, .ref (aD g x1)), (3, .int x3), (4, .int x4), (5, .ref (aD g x5)), (7, .int x7)]) rfl (fun ls hl => ?_)
        refine lv_iinc hx hb d_Worker_given_81 hl (k := 7) rfl (v := (x7 + 1)) (iinc_e _ (by decide)) (by decide) (lv' := [(7, .int (x7 + 1)), (6, .int q18), (8, .long q11.1), (0, .ref (aD g x0)), (1, .ref (aD g x1)), (3, .int x3), (4, .int x4), (5, .ref (aD g x5))]) rfl (fun ls hl => ?_)
        refine lv_goto hx hb d_Worker_given_84 (tgt := 23) (by decide) ?_
        exact ih hw (lv_sub hl [3, 4, 5, 6, 7, 1, 0] rfl) hs
      · have hs := oi_f hc hs
        refine lv_ldc2 (v := (-3)) hx hb C.own (C.w kc_Worker_35) d_Worker_given_54 ?_
        obtain rfl := Option.some.inj hs
        exact pg_lret C hw d_Worker_given_57

def s_Worker_given (gf : GT_Worker_broughtBy) (x0 : Nat) (x1 : Nat) (x2 : Int32) (x3 : Int32) (x4 : Int32) (h : HP) : Option (Int64 × HP) :=
  (gR h x0 4 0).bind fun v1 =>
  (kd x1 0).bind fun _ =>
  (s_Text_at x1 x2 h).bind fun q4 =>
  (aR v1 4 (q4 - 65)).bind fun v6 =>
  s_Worker_given_23 gf 20000 x0 x1 x3 x4 v6 (x2 + 1) 0 h
set_option maxHeartbeats 4000000 in
set_option maxRecDepth 100000 in
theorem c_Worker_given (l : Launch) (g : GG) (gf : GT_Worker_broughtBy) (n : Nat) (hG : HG_Worker_broughtBy l g gf n) {x0 : Nat} {x1 : Nat} {x2 : Int32} {x3 : Int32} {x4 : Int32} {h : HP} {z : Int64 × HP} (hs : s_Worker_given gf x0 x1 x2 x3 x4 h = some z) : Ct l g y_Worker_given w_Worker_given (rmS (n + 1 + 3) ((n + 1) * 34 + 70)) [.ref (aD g x0), .ref (aD g x1), .int x2, .int x3, .int x4] h (some (.long z.1)) z.2 := by
  refine Ct.of (own := R_Worker) (by decide) rfl rfl (Nat.le_of_ble_eq_true rfl) ?_
  intro p e s m args below meth c ls C hl hw
  have hx := C.1
  have hb := C.2.1
  have hl : lv_has ls 10 [(0, .ref (aD g x0)), (1, .ref (aD g x1)), (2, .int x2), (3, .int x3), (4, .int x4)] := hl
  unfold s_Worker_given at hs
  refine lv_aload_n hx hb d_Worker_given_0 rfl (lv_at hl 0 rfl) ?_
  obtain ⟨v1, e2, hs⟩ := ob hs
  refine pg_getR C hw fl_Worker_19 e2 d_Worker_given_1 ?_
  refine lv_aload_n hx hb d_Worker_given_4 rfl (lv_at hl 1 rfl) ?_
  refine lv_iload_n hx hb d_Worker_given_5 rfl (lv_at hl 2 rfl) ?_
  obtain ⟨_, e3, hs⟩ := ob hs
  obtain ⟨q4, e5, hs⟩ := ob hs
  refine pg_callV C hw hl.1 ml_Worker_37 e3 (As := [.int x2]) (rest := [.ref (aD g v1)]) (c_Text_at l g e5) rfl (rm_ok (by omega) (by omega)) (Nat.le_of_ble_eq_true rfl) rfl (st1 := [.int q4, .ref (aD g v1)]) rfl d_Worker_given_6 (fun H locs hw => ?_)
  refine lv_bipush (v := 65) hx hb d_Worker_given_9 (by decide) ?_
  refine lv_isub hx hb d_Worker_given_11 ?_
  obtain ⟨v6, e7, hs⟩ := ob hs
  refine pg_aaload C hw (t0 := 4) rfl e7 d_Worker_given_12 ?_
  refine lv_astore hx hb d_Worker_given_13 hl (by decide) (lv' := [(5, .ref (aD g v6)), (0, .ref (aD g x0)), (1, .ref (aD g x1)), (2, .int x2), (3, .int x3), (4, .int x4)]) rfl (fun ls hl => ?_)
  refine lv_iload_n hx hb d_Worker_given_15 rfl (lv_at hl 3 rfl) ?_
  refine lv_iconst (v := 1) hx hb d_Worker_given_16 (by decide) ?_
  refine lv_iadd hx hb d_Worker_given_17 ?_
  refine lv_istore hx hb d_Worker_given_18 hl (by decide) (lv' := [(6, .int (x2 + 1)), (5, .ref (aD g v6)), (0, .ref (aD g x0)), (1, .ref (aD g x1)), (2, .int x2), (3, .int x3), (4, .int x4)]) rfl (fun ls hl => ?_)
  refine lv_iconst (v := 0) hx hb d_Worker_given_20 (by decide) ?_
  refine lv_istore hx hb d_Worker_given_21 hl (by decide) (lv' := [(7, .int 0), (6, .int (x2 + 1)), (5, .ref (aD g v6)), (0, .ref (aD g x0)), (1, .ref (aD g x1)), (2, .int x2), (3, .int x3), (4, .int x4)]) rfl (fun ls hl => ?_)
  exact k_Worker_given_23 C gf n hG 20000 hw (lv_sub hl [3, 4, 6, 7, 2, 1, 0] rfl) hs

def s_Worker_quantified_86 (gf : GT_Worker_broughtBy) (t0 : Int32) (h : HP) : Option (Int32 × HP) :=
  if t0 = 0 then (
    some (0, h))
  else (
    some (1, h))
set_option maxHeartbeats 4000000 in
set_option maxRecDepth 100000 in
theorem k_Worker_quantified_86 {t0 : Int32} {h : HP} {z : Int32 × HP} (C : CX g R_Worker b_Worker_quantified 10 (some .int) p s m args meth c) (gf : GT_Worker_broughtBy) (n : Nat) (hG : HG_Worker_broughtBy l g gf n) {H : Heap} {locs : List Loc} {ls : Array Slot} (hw : WD g h s.heap H locs) (hl : lv_has ls 10 []) (hs : s_Worker_quantified_86 gf t0 h = some z) : W p l e (rmS (n + 1 + 3) ((n + 1) * 34 + 70)) s m args below meth c H locs 0 0 (MQ below (Qq g (some (.int z.1)) z.2) args s 0 0 (inA g)) (F0 m 86 ls [.int t0]) := by
  unfold s_Worker_quantified_86 at hs
  have hx := C.1
  have hb := C.2.1
  refine lv_istore hx hb d_Worker_quantified_86 hl (by decide) (lv' := [(9, .int t0)]) rfl (fun ls hl => ?_)
  refine lv_iload hx hb d_Worker_quantified_88 (lv_at hl 0 rfl) ?_
  refine lv_if_eq hx hb d_Worker_quantified_90 (tgt := 97) (by decide) (fun hc => ?_) (fun hc => ?_)
  · have hs := oi_t hc hs
    refine lv_iconst (v := 0) hx hb d_Worker_quantified_97 (by decide) ?_
    obtain rfl := Option.some.inj hs
    exact pg_iret C hw d_Worker_quantified_98
  · have hs := oi_f hc hs
    refine lv_iconst (v := 1) hx hb d_Worker_quantified_93 (by decide) ?_
    refine lv_goto hx hb d_Worker_quantified_94 (tgt := 98) (by decide) ?_
    obtain rfl := Option.some.inj hs
    exact pg_iret C hw d_Worker_quantified_98

def s_Worker_quantified (gf : GT_Worker_broughtBy) (x0 : Nat) (x1 : Nat) (x2 : Int32) (x3 : Int32) (x4 : Int32) (h : HP) : Option (Int32 × HP) :=
  (kd x0 4).bind fun _ =>
  (gf.2.2.2.2.2.2.2 x0 x1 (x2 + 2) x3 (x4 + 1) h).bind fun q2 =>
  if 0 ≤ (lg_cmp q2.1 0) then (
    (kd x0 4).bind fun _ =>
    (gf.2.2.2.2.1 x0 x1 x2 q2.1 x3 x4 q2.2).bind fun q5 =>
    if 0 ≤ (lg_cmp q5.1 0) then (
      (kd x1 0).bind fun _ =>
      (s_Text_at x1 x2 q5.2).bind fun q8 =>
      if q8 = 69 then (
        if (lg_cmp q5.1 0) = 0 then (
          s_Worker_quantified_86 gf 0 q5.2)
        else (
          s_Worker_quantified_86 gf 1 q5.2))
      else (
        if (lg_cmp q5.1 q2.1) = 0 then (
          s_Worker_quantified_86 gf 1 q5.2)
        else (
          s_Worker_quantified_86 gf 0 q5.2)))
    else (
      some ((-3), q5.2)))
  else (
    some ((-3), q2.2))
set_option maxHeartbeats 4000000 in
set_option maxRecDepth 100000 in
theorem c_Worker_quantified (l : Launch) (g : GG) (gf : GT_Worker_broughtBy) (n : Nat) (hG : HG_Worker_broughtBy l g gf n) {x0 : Nat} {x1 : Nat} {x2 : Int32} {x3 : Int32} {x4 : Int32} {h : HP} {z : Int32 × HP} (hs : s_Worker_quantified gf x0 x1 x2 x3 x4 h = some z) : Ct l g y_Worker_quantified w_Worker_quantified (rmS (n + 1 + 3) ((n + 1) * 34 + 70)) [.ref (aD g x0), .ref (aD g x1), .int x2, .int x3, .int x4] h (some (.int z.1)) z.2 := by
  refine Ct.of (own := R_Worker) (by decide) rfl rfl (Nat.le_of_ble_eq_true rfl) ?_
  intro p e s m args below meth c ls C hl hw
  have hx := C.1
  have hb := C.2.1
  have hl : lv_has ls 10 [(0, .ref (aD g x0)), (1, .ref (aD g x1)), (2, .int x2), (3, .int x3), (4, .int x4)] := hl
  unfold s_Worker_quantified at hs
  refine lv_aload_n hx hb d_Worker_quantified_0 rfl (lv_at hl 0 rfl) ?_
  refine lv_aload_n hx hb d_Worker_quantified_1 rfl (lv_at hl 1 rfl) ?_
  refine lv_iload_n hx hb d_Worker_quantified_2 rfl (lv_at hl 2 rfl) ?_
  refine lv_iconst (v := 2) hx hb d_Worker_quantified_3 (by decide) ?_
  refine lv_iadd hx hb d_Worker_quantified_4 ?_
  refine lv_iload_n hx hb d_Worker_quantified_5 rfl (lv_at hl 3 rfl) ?_
  refine lv_iload hx hb d_Worker_quantified_6 (lv_at hl 4 rfl) ?_
  refine lv_iconst (v := 1) hx hb d_Worker_quantified_8 (by decide) ?_
  refine lv_iadd hx hb d_Worker_quantified_9 ?_
  obtain ⟨_, e1, hs⟩ := ob hs
  obtain ⟨q2, e3, hs⟩ := ob hs
  refine pg_callV C hw hl.1 ml_Worker_23 e1 (As := [.ref (aD g x1), .int (x2 + 2), .int x3, .int (x4 + 1)]) (rest := []) (hG.2.2.2.2.2.2.2 e3) rfl (rm_ok (by omega) (by omega)) (Nat.le_of_ble_eq_true rfl) rfl (st1 := [.long q2.1]) rfl d_Worker_quantified_10 (fun H locs hw => ?_)
  refine lv_lstore hx hb d_Worker_quantified_13 hl (by decide) (lv' := [(5, .long q2.1), (0, .ref (aD g x0)), (1, .ref (aD g x1)), (2, .int x2), (3, .int x3), (4, .int x4)]) rfl (fun ls hl => ?_)
  refine lv_lload hx hb d_Worker_quantified_15 (lv_at hl 0 rfl) ?_
  refine lv_lconst (v := 0) hx hb d_Worker_quantified_17 (by decide) ?_
  refine W.lcmp hx hb d_Worker_quantified_18 ?_
  refine lv_if_ge hx hb d_Worker_quantified_19 (tgt := 25) (by decide) (fun hc => ?_) (fun hc => ?_)
  · have hs := oi_t hc hs
    refine lv_aload_n hx hb d_Worker_quantified_25 rfl (lv_at hl 1 rfl) ?_
    refine lv_aload_n hx hb d_Worker_quantified_26 rfl (lv_at hl 2 rfl) ?_
    refine lv_iload_n hx hb d_Worker_quantified_27 rfl (lv_at hl 3 rfl) ?_
    refine lv_lload hx hb d_Worker_quantified_28 (lv_at hl 0 rfl) ?_
    refine lv_iload_n hx hb d_Worker_quantified_30 rfl (lv_at hl 4 rfl) ?_
    refine lv_iload hx hb d_Worker_quantified_31 (lv_at hl 5 rfl) ?_
    obtain ⟨_, e4, hs⟩ := ob hs
    obtain ⟨q5, e6, hs⟩ := ob hs
    refine pg_callV C hw hl.1 ml_Worker_68 e4 (As := [.ref (aD g x1), .int x2, .long q2.1, .int x3, .int x4]) (rest := []) (hG.2.2.2.2.1 e6) rfl (rm_ok (by omega) (by omega)) (Nat.le_of_ble_eq_true rfl) rfl (st1 := [.long q5.1]) rfl d_Worker_quantified_33 (fun H locs hw => ?_)
    refine lv_lstore hx hb d_Worker_quantified_36 hl (by decide) (lv' := [(7, .long q5.1), (5, .long q2.1), (0, .ref (aD g x0)), (1, .ref (aD g x1)), (2, .int x2), (3, .int x3), (4, .int x4)]) rfl (fun ls hl => ?_)
    refine lv_lload hx hb d_Worker_quantified_38 (lv_at hl 0 rfl) ?_
    refine lv_lconst (v := 0) hx hb d_Worker_quantified_40 (by decide) ?_
    refine W.lcmp hx hb d_Worker_quantified_41 ?_
    refine lv_if_ge hx hb d_Worker_quantified_42 (tgt := 48) (by decide) (fun hc => ?_) (fun hc => ?_)
    · have hs := oi_t hc hs
      refine lv_aload_n hx hb d_Worker_quantified_48 rfl (lv_at hl 3 rfl) ?_
      refine lv_iload_n hx hb d_Worker_quantified_49 rfl (lv_at hl 4 rfl) ?_
      obtain ⟨_, e7, hs⟩ := ob hs
      obtain ⟨q8, e9, hs⟩ := ob hs
      refine pg_callV C hw hl.1 ml_Worker_37 e7 (As := [.int x2]) (rest := []) (c_Text_at l g e9) rfl (rm_ok (by omega) (by omega)) (Nat.le_of_ble_eq_true rfl) rfl (st1 := [.int q8]) rfl d_Worker_quantified_50 (fun H locs hw => ?_)
      refine lv_bipush (v := 69) hx hb d_Worker_quantified_53 (by decide) ?_
      refine lv_icmp_ne hx hb d_Worker_quantified_55 (tgt := 73) (by decide) (fun hc => ?_) (fun hc => ?_)
      · have hs := oi_f hc hs
        refine lv_lload hx hb d_Worker_quantified_73 (lv_at hl 0 rfl) ?_
        refine lv_lload hx hb d_Worker_quantified_75 (lv_at hl 1 rfl) ?_
        refine W.lcmp hx hb d_Worker_quantified_77 ?_
        refine lv_if_ne hx hb d_Worker_quantified_78 (tgt := 85) (by decide) (fun hc => ?_) (fun hc => ?_)
        · have hs := oi_f hc hs
          refine lv_iconst (v := 0) hx hb d_Worker_quantified_85 (by decide) ?_
          exact k_Worker_quantified_86 C gf n hG hw (lv_sub hl [] rfl) hs
        · have hs := oi_t hc hs
          refine lv_iconst (v := 1) hx hb d_Worker_quantified_81 (by decide) ?_
          refine lv_goto hx hb d_Worker_quantified_82 (tgt := 86) (by decide) ?_
          exact k_Worker_quantified_86 C gf n hG hw (lv_sub hl [] rfl) hs
      · have hs := oi_t hc hs
        refine lv_lload hx hb d_Worker_quantified_58 (lv_at hl 0 rfl) ?_
        refine lv_lconst (v := 0) hx hb d_Worker_quantified_60 (by decide) ?_
        refine W.lcmp hx hb d_Worker_quantified_61 ?_
        refine lv_if_eq hx hb d_Worker_quantified_62 (tgt := 69) (by decide) (fun hc => ?_) (fun hc => ?_)
        · have hs := oi_t hc hs
          refine lv_iconst (v := 0) hx hb d_Worker_quantified_69 (by decide) ?_
          refine lv_goto hx hb d_Worker_quantified_70 (tgt := 86) (by decide) ?_
          exact k_Worker_quantified_86 C gf n hG hw (lv_sub hl [] rfl) hs
        · have hs := oi_f hc hs
          refine lv_iconst (v := 1) hx hb d_Worker_quantified_65 (by decide) ?_
          refine lv_goto hx hb d_Worker_quantified_66 (tgt := 86) (by decide) ?_
          exact k_Worker_quantified_86 C gf n hG hw (lv_sub hl [] rfl) hs
    · have hs := oi_f hc hs
      refine lv_bipush (v := (-3)) hx hb d_Worker_quantified_45 (by decide) ?_
      obtain rfl := Option.some.inj hs
      exact pg_iret C hw d_Worker_quantified_47
  · have hs := oi_f hc hs
    refine lv_bipush (v := (-3)) hx hb d_Worker_quantified_22 (by decide) ?_
    obtain rfl := Option.some.inj hs
    exact pg_iret C hw d_Worker_quantified_24

def s_Worker_term_178 (gf : GT_Worker_broughtBy) (x0 : Nat) (x1 : Nat) (x2 : Int32) (x3 : Int32) (x4 : Int32) (x7 : Int64) (h : HP) : Option (Int64 × HP) :=
  (kd x0 4).bind fun _ =>
  (gf.2.2.2.2.1 x0 x1 x2 x7 x3 x4 h).bind fun q2 =>
  some (q2.1, q2.2)
set_option maxHeartbeats 4000000 in
set_option maxRecDepth 100000 in
theorem k_Worker_term_178 {x0 : Nat} {x1 : Nat} {x2 : Int32} {x3 : Int32} {x4 : Int32} {x7 : Int64} {h : HP} {z : Int64 × HP} (C : CX g R_Worker b_Worker_term 9 (some .long) p s m args meth c) (gf : GT_Worker_broughtBy) (n : Nat) (hG : HG_Worker_broughtBy l g gf n) {H : Heap} {locs : List Loc} {ls : Array Slot} (hw : WD g h s.heap H locs) (hl : lv_has ls 9 [(0, .ref (aD g x0)), (1, .ref (aD g x1)), (2, .int x2), (3, .int x3), (4, .int x4), (7, .long x7)]) (hs : s_Worker_term_178 gf x0 x1 x2 x3 x4 x7 h = some z) : W p l e (rmS (n + 1 + 3) ((n + 1) * 34 + 70)) s m args below meth c H locs 0 0 (MQ below (Qq g (some (.long z.1)) z.2) args s 0 0 (inA g)) (F0 m 178 ls []) := by
  unfold s_Worker_term_178 at hs
  have hx := C.1
  have hb := C.2.1
  refine lv_aload_n hx hb d_Worker_term_178 rfl (lv_at hl 0 rfl) ?_
  refine lv_aload_n hx hb d_Worker_term_179 rfl (lv_at hl 1 rfl) ?_
  refine lv_iload_n hx hb d_Worker_term_180 rfl (lv_at hl 2 rfl) ?_
  refine lv_lload hx hb d_Worker_term_181 (lv_at hl 5 rfl) ?_
  refine lv_iload_n hx hb d_Worker_term_183 rfl (lv_at hl 3 rfl) ?_
  refine lv_iload hx hb d_Worker_term_184 (lv_at hl 4 rfl) ?_
  obtain ⟨_, e1, hs⟩ := ob hs
  obtain ⟨q2, e3, hs⟩ := ob hs
  refine pg_callV C hw hl.1 ml_Worker_68 e1 (As := [.ref (aD g x1), .int x2, .long x7, .int x3, .int x4]) (rest := []) (hG.2.2.2.2.1 e3) rfl (rm_ok (by omega) (by omega)) (Nat.le_of_ble_eq_true rfl) rfl (st1 := [.long q2.1]) rfl d_Worker_term_186 (fun H locs hw => ?_)
  obtain rfl := Option.some.inj hs
  exact pg_lret C hw d_Worker_term_189

def s_Worker_term (gf : GT_Worker_broughtBy) (x0 : Nat) (x1 : Nat) (x2 : Int32) (x3 : Int32) (x4 : Int32) (h : HP) : Option (Int64 × HP) :=
  (kd x0 4).bind fun _ =>
  (s_Worker_pay x0 x4 h).bind fun q2 =>
  if q2.1 = 0 then (
    some ((-3), q2.2))
  else (
    (kd x1 0).bind fun _ =>
    (s_Text_at x1 x2 q2.2).bind fun q5 =>
    (s_AdjoinedSets_isDigit q5).bind fun q7 =>
    if q7 = 0 then (
      (s_AdjoinedSets_isLetter q5).bind fun q9 =>
      if q9 = 0 then (
        (s_AdjoinedSets_isFunction q5).bind fun q11 =>
        if q11 = 0 then (
          (kd x1 0).bind fun _ =>
          (s_Text_firstPartOf x1 x2 q2.2).bind fun q14 =>
          (kd x0 4).bind fun _ =>
          (gf.2.2.2.2.2.2.2 x0 x1 q14 x3 (x4 + 1) q2.2).bind fun q17 =>
          if 0 ≤ (lg_cmp q17.1 0) then (
            if q5 = 73 then (
              s_Worker_term_178 gf x0 x1 x2 x3 x4 q17.1 q17.2)
            else (
            if q5 = 80 then (
              (s_Worker_subsetsOf q17.1).bind fun q19 =>
              some (q19, q17.2))
            else (
            if q5 = 84 then (
              (s_Worker_allBelow q17.1).bind fun q21 =>
              some (q21, q17.2))
            else (
            if q5 = 85 then (
              (s_Worker_unionOf q17.1).bind fun q23 =>
              some (q23, q17.2))
            else (
            if q5 = 123 then (
              s_Worker_term_178 gf x0 x1 x2 x3 x4 q17.1 q17.2)
            else (
              (kd x1 0).bind fun _ =>
              (s_Text_endOf x1 q14 q17.2).bind fun q26 =>
              (kd x0 4).bind fun _ =>
              (gf.2.2.2.2.2.2.2 x0 x1 q26 x3 (x4 + 1) q17.2).bind fun q29 =>
              (s_Worker_joined q5 q17.1 q29.1).bind fun q31 =>
              some (q31, q29.2)))))))
          else (
            some ((-3), q17.2)))
        else (
          (kd x0 4).bind fun _ =>
          (gf.2.2.2.2.2.1 x0 x1 x2 x3 x4 q2.2).bind fun q34 =>
          some (q34.1, q34.2)))
      else (
        (gR q2.2 x0 4 1).bind fun v36 =>
        (aL q2.2 v36 2 (((x3 * 8) + q5) - 97)).bind fun v38 =>
        some (v38, q2.2)))
    else (
      some ((q5 - 48).toInt64, q2.2)))
set_option maxHeartbeats 4000000 in
set_option maxRecDepth 100000 in
theorem c_Worker_term (l : Launch) (g : GG) (gf : GT_Worker_broughtBy) (n : Nat) (hG : HG_Worker_broughtBy l g gf n) {x0 : Nat} {x1 : Nat} {x2 : Int32} {x3 : Int32} {x4 : Int32} {h : HP} {z : Int64 × HP} (hs : s_Worker_term gf x0 x1 x2 x3 x4 h = some z) : Ct l g y_Worker_term w_Worker_term (rmS (n + 1 + 3) ((n + 1) * 34 + 70)) [.ref (aD g x0), .ref (aD g x1), .int x2, .int x3, .int x4] h (some (.long z.1)) z.2 := by
  refine Ct.of (own := R_Worker) (by decide) rfl rfl (Nat.le_of_ble_eq_true rfl) ?_
  intro p e s m args below meth c ls C hl hw
  have hx := C.1
  have hb := C.2.1
  have hl : lv_has ls 9 [(0, .ref (aD g x0)), (1, .ref (aD g x1)), (2, .int x2), (3, .int x3), (4, .int x4)] := hl
  unfold s_Worker_term at hs
  refine lv_aload_n hx hb d_Worker_term_0 rfl (lv_at hl 0 rfl) ?_
  refine lv_iload hx hb d_Worker_term_1 (lv_at hl 4 rfl) ?_
  obtain ⟨_, e1, hs⟩ := ob hs
  obtain ⟨q2, e3, hs⟩ := ob hs
  refine pg_callV C hw hl.1 ml_Worker_31 e1 (As := [.int x4]) (rest := []) (c_Worker_pay l g e3) rfl (rm_ok (by omega) (by omega)) (Nat.le_of_ble_eq_true rfl) rfl (st1 := [.int q2.1]) rfl d_Worker_term_3 (fun H locs hw => ?_)
  refine lv_if_ne hx hb d_Worker_term_6 (tgt := 13) (by decide) (fun hc => ?_) (fun hc => ?_)
  · have hs := oi_f hc hs
    refine lv_aload_n hx hb d_Worker_term_13 rfl (lv_at hl 1 rfl) ?_
    refine lv_iload_n hx hb d_Worker_term_14 rfl (lv_at hl 2 rfl) ?_
    obtain ⟨_, e4, hs⟩ := ob hs
    obtain ⟨q5, e6, hs⟩ := ob hs
    refine pg_callV C hw hl.1 ml_Worker_37 e4 (As := [.int x2]) (rest := []) (c_Text_at l g e6) rfl (rm_ok (by omega) (by omega)) (Nat.le_of_ble_eq_true rfl) rfl (st1 := [.int q5]) rfl d_Worker_term_15 (fun H locs hw => ?_)
    refine lv_istore hx hb d_Worker_term_18 hl (by decide) (lv' := [(5, .int q5), (0, .ref (aD g x0)), (1, .ref (aD g x1)), (2, .int x2), (3, .int x3), (4, .int x4)]) rfl (fun ls hl => ?_)
    refine lv_iload hx hb d_Worker_term_20 (lv_at hl 0 rfl) ?_
    obtain ⟨q7, e8, hs⟩ := ob hs
    refine pg_callSN C hw hl.1 ml_Worker_43 (As := [.int q5]) (rest := []) (c_AdjoinedSets_isDigit l g e8) rfl (rm_ok (by omega) (by omega)) (Nat.le_of_ble_eq_true rfl) rfl (st1 := [.int q7]) rfl d_Worker_term_22 (fun H locs hw => ?_)
    refine lv_if_eq hx hb d_Worker_term_25 (tgt := 35) (by decide) (fun hc => ?_) (fun hc => ?_)
    · have hs := oi_t hc hs
      refine lv_iload hx hb d_Worker_term_35 (lv_at hl 0 rfl) ?_
      obtain ⟨q9, e10, hs⟩ := ob hs
      refine pg_callSN C hw hl.1 ml_Worker_46 (As := [.int q5]) (rest := []) (c_AdjoinedSets_isLetter l g e10) rfl (rm_ok (by omega) (by omega)) (Nat.le_of_ble_eq_true rfl) rfl (st1 := [.int q9]) rfl d_Worker_term_37 (fun H locs hw => ?_)
      refine lv_if_eq hx hb d_Worker_term_40 (tgt := 59) (by decide) (fun hc => ?_) (fun hc => ?_)
      · have hs := oi_t hc hs
        refine lv_iload hx hb d_Worker_term_59 (lv_at hl 0 rfl) ?_
        obtain ⟨q11, e12, hs⟩ := ob hs
        refine pg_callSN C hw hl.1 ml_Worker_49 (As := [.int q5]) (rest := []) (c_AdjoinedSets_isFunction l g e12) rfl (rm_ok (by omega) (by omega)) (Nat.le_of_ble_eq_true rfl) rfl (st1 := [.int q11]) rfl d_Worker_term_61 (fun H locs hw => ?_)
        refine lv_if_eq hx hb d_Worker_term_64 (tgt := 77) (by decide) (fun hc => ?_) (fun hc => ?_)
        · have hs := oi_t hc hs
          refine lv_aload_n hx hb d_Worker_term_77 rfl (lv_at hl 2 rfl) ?_
          refine lv_iload_n hx hb d_Worker_term_78 rfl (lv_at hl 3 rfl) ?_
          obtain ⟨_, e13, hs⟩ := ob hs
          obtain ⟨q14, e15, hs⟩ := ob hs
          refine pg_callV C hw hl.1 ml_Worker_55 e13 (As := [.int x2]) (rest := []) (c_Text_firstPartOf l g e15) rfl (rm_ok (by omega) (by omega)) (Nat.le_of_ble_eq_true rfl) rfl (st1 := [.int q14]) rfl d_Worker_term_79 (fun H locs hw => ?_)
          refine lv_istore hx hb d_Worker_term_82 hl (by decide) (lv' := [(6, .int q14), (5, .int q5), (0, .ref (aD g x0)), (1, .ref (aD g x1)), (2, .int x2), (3, .int x3), (4, .int x4)]) rfl (fun ls hl => ?_)
          refine lv_aload_n hx hb d_Worker_term_84 rfl (lv_at hl 2 rfl) ?_
          refine lv_aload_n hx hb d_Worker_term_85 rfl (lv_at hl 3 rfl) ?_
          refine lv_iload hx hb d_Worker_term_86 (lv_at hl 0 rfl) ?_
          refine lv_iload_n hx hb d_Worker_term_88 rfl (lv_at hl 5 rfl) ?_
          refine lv_iload hx hb d_Worker_term_89 (lv_at hl 6 rfl) ?_
          refine lv_iconst (v := 1) hx hb d_Worker_term_91 (by decide) ?_
          refine lv_iadd hx hb d_Worker_term_92 ?_
          obtain ⟨_, e16, hs⟩ := ob hs
          obtain ⟨q17, e18, hs⟩ := ob hs
          refine pg_callV C hw hl.1 ml_Worker_23 e16 (As := [.ref (aD g x1), .int q14, .int x3, .int (x4 + 1)]) (rest := []) (hG.2.2.2.2.2.2.2 e18) rfl (rm_ok (by omega) (by omega)) (Nat.le_of_ble_eq_true rfl) rfl (st1 := [.long q17.1]) rfl d_Worker_term_93 (fun H locs hw => ?_)
          refine lv_lstore hx hb d_Worker_term_96 hl (by decide) (lv' := [(7, .long q17.1), (6, .int q14), (5, .int q5), (0, .ref (aD g x0)), (1, .ref (aD g x1)), (2, .int x2), (3, .int x3), (4, .int x4)]) rfl (fun ls hl => ?_)
          refine lv_lload hx hb d_Worker_term_98 (lv_at hl 0 rfl) ?_
          refine lv_lconst (v := 0) hx hb d_Worker_term_100 (by decide) ?_
          refine W.lcmp hx hb d_Worker_term_101 ?_
          refine lv_if_ge hx hb d_Worker_term_102 (tgt := 109) (by decide) (fun hc => ?_) (fun hc => ?_)
          · have hs := oi_t hc hs
            refine lv_iload hx hb d_Worker_term_109 (lv_at hl 2 rfl) ?_
            refine by_c (fun (hk0 : q5 = 73) => ?_) (fun (hk0 : ¬ q5 = 73) => ?_)
            · have hs := oi_t hk0 hs
              refine lv_lookup hx hb d_Worker_term_111 (by decide) (off := 67) (by rw [hk0]; decide) (tgt := 178) (by decide) ?_
              exact k_Worker_term_178 C gf n hG hw (lv_sub hl [3, 4, 5, 6, 7, 0] rfl) hs
            have hs := oi_f hk0 hs
            refine by_c (fun (hk1 : q5 = 80) => ?_) (fun (hk1 : ¬ q5 = 80) => ?_)
            · have hs := oi_t hk1 hs
              refine lv_lookup hx hb d_Worker_term_111 (by decide) (off := 55) (by rw [hk1]; decide) (tgt := 166) (by decide) ?_
              refine lv_lload hx hb d_Worker_term_166 (lv_at hl 0 rfl) ?_
              obtain ⟨q19, e20, hs⟩ := ob hs
              refine pg_callS C hw hl.1 ml_Worker_62 (As := [.long q17.1]) (rest := []) (c_Worker_subsetsOf l g e20) rfl (rm_ok (by omega) (by omega)) (Nat.le_of_ble_eq_true rfl) rfl (st1 := [.long q19]) rfl d_Worker_term_168 (fun H locs hw => ?_)
              obtain rfl := Option.some.inj hs
              exact pg_lret C hw d_Worker_term_171
            have hs := oi_f hk1 hs
            refine by_c (fun (hk2 : q5 = 84) => ?_) (fun (hk2 : ¬ q5 = 84) => ?_)
            · have hs := oi_t hk2 hs
              refine lv_lookup hx hb d_Worker_term_111 (by decide) (off := 61) (by rw [hk2]; decide) (tgt := 172) (by decide) ?_
              refine lv_lload hx hb d_Worker_term_172 (lv_at hl 0 rfl) ?_
              obtain ⟨q21, e22, hs⟩ := ob hs
              refine pg_callS C hw hl.1 ml_Worker_65 (As := [.long q17.1]) (rest := []) (c_Worker_allBelow l g e22) rfl (rm_ok (by omega) (by omega)) (Nat.le_of_ble_eq_true rfl) rfl (st1 := [.long q21]) rfl d_Worker_term_174 (fun H locs hw => ?_)
              obtain rfl := Option.some.inj hs
              exact pg_lret C hw d_Worker_term_177
            have hs := oi_f hk2 hs
            refine by_c (fun (hk3 : q5 = 85) => ?_) (fun (hk3 : ¬ q5 = 85) => ?_)
            · have hs := oi_t hk3 hs
              refine lv_lookup hx hb d_Worker_term_111 (by decide) (off := 49) (by rw [hk3]; decide) (tgt := 160) (by decide) ?_
              refine lv_lload hx hb d_Worker_term_160 (lv_at hl 0 rfl) ?_
              obtain ⟨q23, e24, hs⟩ := ob hs
              refine pg_callS C hw hl.1 ml_Worker_58 (As := [.long q17.1]) (rest := []) (c_Worker_unionOf l g e24) rfl (rm_ok (by omega) (by omega)) (Nat.le_of_ble_eq_true rfl) rfl (st1 := [.long q23]) rfl d_Worker_term_162 (fun H locs hw => ?_)
              obtain rfl := Option.some.inj hs
              exact pg_lret C hw d_Worker_term_165
            have hs := oi_f hk3 hs
            refine by_c (fun (hk4 : q5 = 123) => ?_) (fun (hk4 : ¬ q5 = 123) => ?_)
            · have hs := oi_t hk4 hs
              refine lv_lookup hx hb d_Worker_term_111 (by decide) (off := 67) (by rw [hk4]; decide) (tgt := 178) (by decide) ?_
              exact k_Worker_term_178 C gf n hG hw (lv_sub hl [3, 4, 5, 6, 7, 0] rfl) hs
            have hs := oi_f hk4 hs
            refine lv_lookup hx hb d_Worker_term_111 (by decide) (off := 79) (by show Op.lookupswitch.offset [(73, 67), (80, 55), (84, 61), (85, 49), (123, 67)] _ _ = _; rw [lv_osw hk0 (by decide), lv_osw hk1 (by decide), lv_osw hk2 (by decide), lv_osw hk3 (by decide), lv_osw hk4 (by decide)]; rfl) (tgt := 190) (by decide) ?_
            refine lv_iload hx hb d_Worker_term_190 (lv_at hl 2 rfl) ?_
            refine lv_lload hx hb d_Worker_term_192 (lv_at hl 0 rfl) ?_
            refine lv_aload_n hx hb d_Worker_term_194 rfl (lv_at hl 3 rfl) ?_
            refine lv_aload_n hx hb d_Worker_term_195 rfl (lv_at hl 4 rfl) ?_
            refine lv_aload_n hx hb d_Worker_term_196 rfl (lv_at hl 4 rfl) ?_
            refine lv_iload hx hb d_Worker_term_197 (lv_at hl 1 rfl) ?_
            obtain ⟨_, e25, hs⟩ := ob hs
            obtain ⟨q26, e27, hs⟩ := ob hs
            refine pg_callV C hw hl.1 ml_Worker_72 e25 (As := [.int q14]) (rest := [.ref (aD g x1), .ref (aD g x0), .long q17.1, .int q5]) (c_Text_endOf l g e27) rfl (rm_ok (by omega) (by omega)) (Nat.le_of_ble_eq_true rfl) rfl (st1 := [.int q26, .ref (aD g x1), .ref (aD g x0), .long q17.1, .int q5]) rfl d_Worker_term_199 (fun H locs hw => ?_)
            refine lv_iload_n hx hb d_Worker_term_202 rfl (lv_at hl 6 rfl) ?_
            refine lv_iload hx hb d_Worker_term_203 (lv_at hl 7 rfl) ?_
            refine lv_iconst (v := 1) hx hb d_Worker_term_205 (by decide) ?_
            refine lv_iadd hx hb d_Worker_term_206 ?_
            obtain ⟨_, e28, hs⟩ := ob hs
            obtain ⟨q29, e30, hs⟩ := ob hs
            refine pg_callV C hw hl.1 ml_Worker_23 e28 (As := [.ref (aD g x1), .int q26, .int x3, .int (x4 + 1)]) (rest := [.long q17.1, .int q5]) (hG.2.2.2.2.2.2.2 e30) rfl (rm_ok (by omega) (by omega)) (Nat.le_of_ble_eq_true rfl) rfl (st1 := [.long q29.1, .long q17.1, .int q5]) rfl d_Worker_term_207 (fun H locs hw => ?_)
            obtain ⟨q31, e32, hs⟩ := ob hs
            refine pg_callS C hw hl.1 ml_Worker_75 (As := [.int q5, .long q17.1, .long q29.1]) (rest := []) (c_Worker_joined l g e32) rfl (rm_ok (by omega) (by omega)) (Nat.le_of_ble_eq_true rfl) rfl (st1 := [.long q31]) rfl d_Worker_term_210 (fun H locs hw => ?_)
            obtain rfl := Option.some.inj hs
            exact pg_lret C hw d_Worker_term_213
          · have hs := oi_f hc hs
            refine lv_ldc2 (v := (-3)) hx hb C.own (C.w kc_Worker_35) d_Worker_term_105 ?_
            obtain rfl := Option.some.inj hs
            exact pg_lret C hw d_Worker_term_108
        · have hs := oi_f hc hs
          refine lv_aload_n hx hb d_Worker_term_67 rfl (lv_at hl 1 rfl) ?_
          refine lv_aload_n hx hb d_Worker_term_68 rfl (lv_at hl 2 rfl) ?_
          refine lv_iload_n hx hb d_Worker_term_69 rfl (lv_at hl 3 rfl) ?_
          refine lv_iload_n hx hb d_Worker_term_70 rfl (lv_at hl 4 rfl) ?_
          refine lv_iload hx hb d_Worker_term_71 (lv_at hl 5 rfl) ?_
          obtain ⟨_, e33, hs⟩ := ob hs
          obtain ⟨q34, e35, hs⟩ := ob hs
          refine pg_callV C hw hl.1 ml_Worker_52 e33 (As := [.ref (aD g x1), .int x2, .int x3, .int x4]) (rest := []) (hG.2.2.2.2.2.1 e35) rfl (rm_ok (by omega) (by omega)) (Nat.le_of_ble_eq_true rfl) rfl (st1 := [.long q34.1]) rfl d_Worker_term_73 (fun H locs hw => ?_)
          obtain rfl := Option.some.inj hs
          exact pg_lret C hw d_Worker_term_76
      · have hs := oi_f hc hs
        refine lv_aload_n hx hb d_Worker_term_43 rfl (lv_at hl 1 rfl) ?_
        obtain ⟨v36, e37, hs⟩ := ob hs
        refine pg_getR C hw fl_Worker_9 e37 d_Worker_term_44 ?_
        refine lv_iload_n hx hb d_Worker_term_47 rfl (lv_at hl 4 rfl) ?_
        refine lv_bipush (v := 8) hx hb d_Worker_term_48 (by decide) ?_
        refine lv_imul hx hb d_Worker_term_50 ?_
        refine lv_iload hx hb d_Worker_term_51 (lv_at hl 0 rfl) ?_
        refine lv_iadd hx hb d_Worker_term_53 ?_
        refine lv_bipush (v := 97) hx hb d_Worker_term_54 (by decide) ?_
        refine lv_isub hx hb d_Worker_term_56 ?_
        obtain ⟨v38, e39, hs⟩ := ob hs
        refine pg_laload C hw (t0 := 2) rfl e39 d_Worker_term_57 ?_
        obtain rfl := Option.some.inj hs
        exact pg_lret C hw d_Worker_term_58
    · have hs := oi_f hc hs
      refine lv_iload hx hb d_Worker_term_28 (lv_at hl 0 rfl) ?_
      refine lv_bipush (v := 48) hx hb d_Worker_term_30 (by decide) ?_
      refine lv_isub hx hb d_Worker_term_32 ?_
      refine lv_i2l (v := (q5 - 48).toInt64) hx hb d_Worker_term_33 rfl ?_
      obtain rfl := Option.some.inj hs
      exact pg_lret C hw d_Worker_term_34
  · have hs := oi_t hc hs
    refine lv_ldc2 (v := (-3)) hx hb C.own (C.w kc_Worker_35) d_Worker_term_9 ?_
    obtain rfl := Option.some.inj hs
    exact pg_lret C hw d_Worker_term_12

def s_grp_Worker_broughtBy : Nat → GT_Worker_broughtBy
  | 0 => (fun _ _ _ _ _ _ _ => none, fun _ _ _ _ _ _ => none, fun _ _ _ _ _ _ => none, fun _ _ _ _ _ _ => none, fun _ _ _ _ _ _ _ => none, fun _ _ _ _ _ _ => none, fun _ _ _ _ _ _ => none, fun _ _ _ _ _ _ => none)
  | n + 1 => (s_Worker_broughtBy (s_grp_Worker_broughtBy n), s_Worker_compared (s_grp_Worker_broughtBy n), s_Worker_connected (s_grp_Worker_broughtBy n), s_Worker_formula (s_grp_Worker_broughtBy n), s_Worker_gathered (s_grp_Worker_broughtBy n), s_Worker_given (s_grp_Worker_broughtBy n), s_Worker_quantified (s_grp_Worker_broughtBy n), s_Worker_term (s_grp_Worker_broughtBy n))
theorem cg_Worker_broughtBy (l : Launch) (g : GG) : ∀ n : Nat, HG_Worker_broughtBy l g (s_grp_Worker_broughtBy n) n := by
  intro n
  induction n with
  | zero => exact ⟨fun hs => (no_s hs).elim, fun hs => (no_s hs).elim, fun hs => (no_s hs).elim, fun hs => (no_s hs).elim, fun hs => (no_s hs).elim, fun hs => (no_s hs).elim, fun hs => (no_s hs).elim, fun hs => (no_s hs).elim⟩
  | succ n ih => exact ⟨fun hs => c_Worker_broughtBy l g (s_grp_Worker_broughtBy n) n ih hs, fun hs => c_Worker_compared l g (s_grp_Worker_broughtBy n) n ih hs, fun hs => c_Worker_connected l g (s_grp_Worker_broughtBy n) n ih hs, fun hs => c_Worker_formula l g (s_grp_Worker_broughtBy n) n ih hs, fun hs => c_Worker_gathered l g (s_grp_Worker_broughtBy n) n ih hs, fun hs => c_Worker_given l g (s_grp_Worker_broughtBy n) n ih hs, fun hs => c_Worker_quantified l g (s_grp_Worker_broughtBy n) n ih hs, fun hs => c_Worker_term l g (s_grp_Worker_broughtBy n) n ih hs⟩

end
