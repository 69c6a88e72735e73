section
variable {p : Program} {l : Launch} {e : Env} {s : State} {m : MethodId} {args : Array Value} {below : List Frame} {meth : Method} {c : Code} {g : GG}
theorem d_Reader_binder_0 : decode b_Reader_binder 0 = .ok (.aload_n 0, 1) := by decide +kernel
theorem d_Reader_binder_1 : decode b_Reader_binder 1 = .ok (.getfield 25, 3) := by decide +kernel
theorem d_Reader_binder_4 : decode b_Reader_binder 4 = .ok (.iload_n 1, 1) := by decide +kernel
theorem d_Reader_binder_5 : decode b_Reader_binder 5 = .ok (.iconst 1, 1) := by decide +kernel
theorem d_Reader_binder_6 : decode b_Reader_binder 6 = .ok (.iadd, 1) := by decide +kernel
theorem d_Reader_binder_7 : decode b_Reader_binder 7 = .ok (.invokevirtual 63, 3) := by decide +kernel
theorem d_Reader_binder_10 : decode b_Reader_binder 10 = .ok (.istore 4, 2) := by decide +kernel
theorem d_Reader_binder_12 : decode b_Reader_binder 12 = .ok (.iload 4, 2) := by decide +kernel
theorem d_Reader_binder_14 : decode b_Reader_binder 14 = .ok (.invokestatic 70, 3) := by decide +kernel
theorem d_Reader_binder_17 : decode b_Reader_binder 17 = .ok (.ifCond .ne 10, 3) := by decide +kernel
theorem d_Reader_binder_20 : decode b_Reader_binder 20 = .ok (.iload_n 1, 1) := by decide +kernel
theorem d_Reader_binder_21 : decode b_Reader_binder 21 = .ok (.iconst 1, 1) := by decide +kernel
theorem d_Reader_binder_22 : decode b_Reader_binder 22 = .ok (.iadd, 1) := by decide +kernel
theorem d_Reader_binder_23 : decode b_Reader_binder 23 = .ok (.invokestatic 60, 3) := by decide +kernel
theorem d_Reader_binder_26 : decode b_Reader_binder 26 = .ok (.ireturn, 1) := by decide +kernel
theorem d_Reader_binder_27 : decode b_Reader_binder 27 = .ok (.aload_n 0, 1) := by decide +kernel
theorem d_Reader_binder_28 : decode b_Reader_binder 28 = .ok (.iload_n 1, 1) := by decide +kernel
theorem d_Reader_binder_29 : decode b_Reader_binder 29 = .ok (.iconst 2, 1) := by decide +kernel
theorem d_Reader_binder_30 : decode b_Reader_binder 30 = .ok (.iadd, 1) := by decide +kernel
theorem d_Reader_binder_31 : decode b_Reader_binder 31 = .ok (.iload_n 3, 1) := by decide +kernel
theorem d_Reader_binder_32 : decode b_Reader_binder 32 = .ok (.iconst 1, 1) := by decide +kernel
theorem d_Reader_binder_33 : decode b_Reader_binder 33 = .ok (.iadd, 1) := by decide +kernel
theorem d_Reader_binder_34 : decode b_Reader_binder 34 = .ok (.invokevirtual 37, 3) := by decide +kernel
theorem d_Reader_binder_37 : decode b_Reader_binder 37 = .ok (.istore 5, 2) := by decide +kernel
theorem d_Reader_binder_39 : decode b_Reader_binder 39 = .ok (.iload 5, 2) := by decide +kernel
theorem d_Reader_binder_41 : decode b_Reader_binder 41 = .ok (.ifCond .ge 6, 3) := by decide +kernel
theorem d_Reader_binder_44 : decode b_Reader_binder 44 = .ok (.iload 5, 2) := by decide +kernel
theorem d_Reader_binder_46 : decode b_Reader_binder 46 = .ok (.ireturn, 1) := by decide +kernel
theorem d_Reader_binder_47 : decode b_Reader_binder 47 = .ok (.iload 4, 2) := by decide +kernel
theorem d_Reader_binder_49 : decode b_Reader_binder 49 = .ok (.bipush 97, 2) := by decide +kernel
theorem d_Reader_binder_51 : decode b_Reader_binder 51 = .ok (.isub, 1) := by decide +kernel
theorem d_Reader_binder_52 : decode b_Reader_binder 52 = .ok (.istore 6, 2) := by decide +kernel
theorem d_Reader_binder_54 : decode b_Reader_binder 54 = .ok (.aload_n 0, 1) := by decide +kernel
theorem d_Reader_binder_55 : decode b_Reader_binder 55 = .ok (.getfield 9, 3) := by decide +kernel
theorem d_Reader_binder_58 : decode b_Reader_binder 58 = .ok (.iload 6, 2) := by decide +kernel
theorem d_Reader_binder_60 : decode b_Reader_binder 60 = .ok (.iaload, 1) := by decide +kernel
theorem d_Reader_binder_61 : decode b_Reader_binder 61 = .ok (.istore 7, 2) := by decide +kernel
theorem d_Reader_binder_63 : decode b_Reader_binder 63 = .ok (.aload_n 0, 1) := by decide +kernel
theorem d_Reader_binder_64 : decode b_Reader_binder 64 = .ok (.getfield 25, 3) := by decide +kernel
theorem d_Reader_binder_67 : decode b_Reader_binder 67 = .ok (.iload_n 1, 1) := by decide +kernel
theorem d_Reader_binder_68 : decode b_Reader_binder 68 = .ok (.iconst 2, 1) := by decide +kernel
theorem d_Reader_binder_69 : decode b_Reader_binder 69 = .ok (.iadd, 1) := by decide +kernel
theorem d_Reader_binder_70 : decode b_Reader_binder 70 = .ok (.invokevirtual 63, 3) := by decide +kernel
theorem d_Reader_binder_73 : decode b_Reader_binder 73 = .ok (.bipush 97, 2) := by decide +kernel
theorem d_Reader_binder_75 : decode b_Reader_binder 75 = .ok (.if_icmp .ne 16, 3) := by decide +kernel
theorem d_Reader_binder_78 : decode b_Reader_binder 78 = .ok (.aload_n 0, 1) := by decide +kernel
theorem d_Reader_binder_79 : decode b_Reader_binder 79 = .ok (.getfield 9, 3) := by decide +kernel
theorem d_Reader_binder_82 : decode b_Reader_binder 82 = .ok (.iconst 0, 1) := by decide +kernel
theorem d_Reader_binder_83 : decode b_Reader_binder 83 = .ok (.iaload, 1) := by decide +kernel
theorem d_Reader_binder_84 : decode b_Reader_binder 84 = .ok (.ifCond .ne 7, 3) := by decide +kernel
theorem d_Reader_binder_87 : decode b_Reader_binder 87 = .ok (.iconst 1, 1) := by decide +kernel
theorem d_Reader_binder_88 : decode b_Reader_binder 88 = .ok (.goto 4, 3) := by decide +kernel
theorem d_Reader_binder_91 : decode b_Reader_binder 91 = .ok (.iconst 0, 1) := by decide +kernel
theorem d_Reader_binder_92 : decode b_Reader_binder 92 = .ok (.istore 8, 2) := by decide +kernel
theorem d_Reader_binder_94 : decode b_Reader_binder 94 = .ok (.aload_n 0, 1) := by decide +kernel
theorem d_Reader_binder_95 : decode b_Reader_binder 95 = .ok (.getfield 9, 3) := by decide +kernel
theorem d_Reader_binder_98 : decode b_Reader_binder 98 = .ok (.iload 6, 2) := by decide +kernel
theorem d_Reader_binder_100 : decode b_Reader_binder 100 = .ok (.iload 8, 2) := by decide +kernel
theorem d_Reader_binder_102 : decode b_Reader_binder 102 = .ok (.ifCond .eq 7, 3) := by decide +kernel
theorem d_Reader_binder_105 : decode b_Reader_binder 105 = .ok (.iconst 2, 1) := by decide +kernel
theorem d_Reader_binder_106 : decode b_Reader_binder 106 = .ok (.goto 4, 3) := by decide +kernel
theorem d_Reader_binder_109 : decode b_Reader_binder 109 = .ok (.iconst 1, 1) := by decide +kernel
theorem d_Reader_binder_110 : decode b_Reader_binder 110 = .ok (.iastore, 1) := by decide +kernel
theorem d_Reader_binder_111 : decode b_Reader_binder 111 = .ok (.aload_n 0, 1) := by decide +kernel
theorem d_Reader_binder_112 : decode b_Reader_binder 112 = .ok (.iload 5, 2) := by decide +kernel
theorem d_Reader_binder_114 : decode b_Reader_binder 114 = .ok (.iload_n 2, 1) := by decide +kernel
theorem d_Reader_binder_115 : decode b_Reader_binder 115 = .ok (.iload_n 3, 1) := by decide +kernel
theorem d_Reader_binder_116 : decode b_Reader_binder 116 = .ok (.invokevirtual 102, 3) := by decide +kernel
theorem d_Reader_binder_119 : decode b_Reader_binder 119 = .ok (.istore 9, 2) := by decide +kernel
theorem d_Reader_binder_121 : decode b_Reader_binder 121 = .ok (.aload_n 0, 1) := by decide +kernel
theorem d_Reader_binder_122 : decode b_Reader_binder 122 = .ok (.getfield 9, 3) := by decide +kernel
theorem d_Reader_binder_125 : decode b_Reader_binder 125 = .ok (.iload 6, 2) := by decide +kernel
theorem d_Reader_binder_127 : decode b_Reader_binder 127 = .ok (.iload 7, 2) := by decide +kernel
theorem d_Reader_binder_129 : decode b_Reader_binder 129 = .ok (.iastore, 1) := by decide +kernel
theorem d_Reader_binder_130 : decode b_Reader_binder 130 = .ok (.iload 9, 2) := by decide +kernel
theorem d_Reader_binder_132 : decode b_Reader_binder 132 = .ok (.ireturn, 1) := by decide +kernel
theorem d_Reader_formula_0 : decode b_Reader_formula 0 = .ok (.iload_n 2, 1) := by decide +kernel
theorem d_Reader_formula_1 : decode b_Reader_formula 1 = .ok (.bipush 12, 2) := by decide +kernel
theorem d_Reader_formula_3 : decode b_Reader_formula 3 = .ok (.if_icmp .le 8, 3) := by decide +kernel
theorem d_Reader_formula_6 : decode b_Reader_formula 6 = .ok (.iload_n 1, 1) := by decide +kernel
theorem d_Reader_formula_7 : decode b_Reader_formula 7 = .ok (.invokestatic 60, 3) := by decide +kernel
theorem d_Reader_formula_10 : decode b_Reader_formula 10 = .ok (.ireturn, 1) := by decide +kernel
theorem d_Reader_formula_11 : decode b_Reader_formula 11 = .ok (.aload_n 0, 1) := by decide +kernel
theorem d_Reader_formula_12 : decode b_Reader_formula 12 = .ok (.getfield 25, 3) := by decide +kernel
theorem d_Reader_formula_15 : decode b_Reader_formula 15 = .ok (.iload_n 1, 1) := by decide +kernel
theorem d_Reader_formula_16 : decode b_Reader_formula 16 = .ok (.invokevirtual 63, 3) := by decide +kernel
theorem d_Reader_formula_19 : decode b_Reader_formula 19 = .ok (.lookupswitch 120 #[(33, 85), (60, 73), (61, 73), (62, 97), (69, 109), (76, 109), (94, 97), (118, 97)], 73) := by decide +kernel
theorem d_Reader_formula_92 : decode b_Reader_formula 92 = .ok (.aload_n 0, 1) := by decide +kernel
theorem d_Reader_formula_93 : decode b_Reader_formula 93 = .ok (.iload_n 1, 1) := by decide +kernel
theorem d_Reader_formula_94 : decode b_Reader_formula 94 = .ok (.iconst 2, 1) := by decide +kernel
theorem d_Reader_formula_95 : decode b_Reader_formula 95 = .ok (.iconst 0, 1) := by decide +kernel
theorem d_Reader_formula_96 : decode b_Reader_formula 96 = .ok (.iload_n 2, 1) := by decide +kernel
theorem d_Reader_formula_97 : decode b_Reader_formula 97 = .ok (.invokevirtual 89, 3) := by decide +kernel
theorem d_Reader_formula_100 : decode b_Reader_formula 100 = .ok (.istore_n 3, 1) := by decide +kernel
theorem d_Reader_formula_101 : decode b_Reader_formula 101 = .ok (.goto 43, 3) := by decide +kernel
theorem d_Reader_formula_104 : decode b_Reader_formula 104 = .ok (.aload_n 0, 1) := by decide +kernel
theorem d_Reader_formula_105 : decode b_Reader_formula 105 = .ok (.iload_n 1, 1) := by decide +kernel
theorem d_Reader_formula_106 : decode b_Reader_formula 106 = .ok (.iconst 1, 1) := by decide +kernel
theorem d_Reader_formula_107 : decode b_Reader_formula 107 = .ok (.iconst 1, 1) := by decide +kernel
theorem d_Reader_formula_108 : decode b_Reader_formula 108 = .ok (.iload_n 2, 1) := by decide +kernel
theorem d_Reader_formula_109 : decode b_Reader_formula 109 = .ok (.invokevirtual 89, 3) := by decide +kernel
theorem d_Reader_formula_112 : decode b_Reader_formula 112 = .ok (.istore_n 3, 1) := by decide +kernel
theorem d_Reader_formula_113 : decode b_Reader_formula 113 = .ok (.goto 31, 3) := by decide +kernel
theorem d_Reader_formula_116 : decode b_Reader_formula 116 = .ok (.aload_n 0, 1) := by decide +kernel
theorem d_Reader_formula_117 : decode b_Reader_formula 117 = .ok (.iload_n 1, 1) := by decide +kernel
theorem d_Reader_formula_118 : decode b_Reader_formula 118 = .ok (.iconst 2, 1) := by decide +kernel
theorem d_Reader_formula_119 : decode b_Reader_formula 119 = .ok (.iconst 1, 1) := by decide +kernel
theorem d_Reader_formula_120 : decode b_Reader_formula 120 = .ok (.iload_n 2, 1) := by decide +kernel
theorem d_Reader_formula_121 : decode b_Reader_formula 121 = .ok (.invokevirtual 89, 3) := by decide +kernel
theorem d_Reader_formula_124 : decode b_Reader_formula 124 = .ok (.istore_n 3, 1) := by decide +kernel
theorem d_Reader_formula_125 : decode b_Reader_formula 125 = .ok (.goto 19, 3) := by decide +kernel
theorem d_Reader_formula_128 : decode b_Reader_formula 128 = .ok (.aload_n 0, 1) := by decide +kernel
theorem d_Reader_formula_129 : decode b_Reader_formula 129 = .ok (.iload_n 1, 1) := by decide +kernel
theorem d_Reader_formula_130 : decode b_Reader_formula 130 = .ok (.iconst 1, 1) := by decide +kernel
theorem d_Reader_formula_131 : decode b_Reader_formula 131 = .ok (.iload_n 2, 1) := by decide +kernel
theorem d_Reader_formula_132 : decode b_Reader_formula 132 = .ok (.invokevirtual 93, 3) := by decide +kernel
theorem d_Reader_formula_135 : decode b_Reader_formula 135 = .ok (.istore_n 3, 1) := by decide +kernel
theorem d_Reader_formula_136 : decode b_Reader_formula 136 = .ok (.goto 8, 3) := by decide +kernel
theorem d_Reader_formula_139 : decode b_Reader_formula 139 = .ok (.iload_n 1, 1) := by decide +kernel
theorem d_Reader_formula_140 : decode b_Reader_formula 140 = .ok (.invokestatic 60, 3) := by decide +kernel
theorem d_Reader_formula_143 : decode b_Reader_formula 143 = .ok (.istore_n 3, 1) := by decide +kernel
theorem d_Reader_formula_144 : decode b_Reader_formula 144 = .ok (.aload_n 0, 1) := by decide +kernel
theorem d_Reader_formula_145 : decode b_Reader_formula 145 = .ok (.getfield 25, 3) := by decide +kernel
theorem d_Reader_formula_148 : decode b_Reader_formula 148 = .ok (.iload_n 1, 1) := by decide +kernel
theorem d_Reader_formula_149 : decode b_Reader_formula 149 = .ok (.iload_n 3, 1) := by decide +kernel
theorem d_Reader_formula_150 : decode b_Reader_formula 150 = .ok (.invokevirtual 85, 3) := by decide +kernel
theorem d_Reader_formula_153 : decode b_Reader_formula 153 = .ok (.iload_n 3, 1) := by decide +kernel
theorem d_Reader_formula_154 : decode b_Reader_formula 154 = .ok (.ireturn, 1) := by decide +kernel
theorem d_Reader_functionTerm_0 : decode b_Reader_functionTerm 0 = .ok (.aload_n 0, 1) := by decide +kernel
theorem d_Reader_functionTerm_1 : decode b_Reader_functionTerm 1 = .ok (.getfield 25, 3) := by decide +kernel
theorem d_Reader_functionTerm_4 : decode b_Reader_functionTerm 4 = .ok (.iload_n 1, 1) := by decide +kernel
theorem d_Reader_functionTerm_5 : decode b_Reader_functionTerm 5 = .ok (.invokevirtual 63, 3) := by decide +kernel
theorem d_Reader_functionTerm_8 : decode b_Reader_functionTerm 8 = .ok (.bipush 65, 2) := by decide +kernel
theorem d_Reader_functionTerm_10 : decode b_Reader_functionTerm 10 = .ok (.isub, 1) := by decide +kernel
theorem d_Reader_functionTerm_11 : decode b_Reader_functionTerm 11 = .ok (.istore_n 3, 1) := by decide +kernel
theorem d_Reader_functionTerm_12 : decode b_Reader_functionTerm 12 = .ok (.iload_n 3, 1) := by decide +kernel
theorem d_Reader_functionTerm_13 : decode b_Reader_functionTerm 13 = .ok (.aload_n 0, 1) := by decide +kernel
theorem d_Reader_functionTerm_14 : decode b_Reader_functionTerm 14 = .ok (.getfield 15, 3) := by decide +kernel
theorem d_Reader_functionTerm_17 : decode b_Reader_functionTerm 17 = .ok (.if_icmp .eq 36, 3) := by decide +kernel
theorem d_Reader_functionTerm_20 : decode b_Reader_functionTerm 20 = .ok (.aload_n 0, 1) := by decide +kernel
theorem d_Reader_functionTerm_21 : decode b_Reader_functionTerm 21 = .ok (.getfield 29, 3) := by decide +kernel
theorem d_Reader_functionTerm_24 : decode b_Reader_functionTerm 24 = .ok (.iload_n 3, 1) := by decide +kernel
theorem d_Reader_functionTerm_25 : decode b_Reader_functionTerm 25 = .ok (.aaload, 1) := by decide +kernel
theorem d_Reader_functionTerm_26 : decode b_Reader_functionTerm 26 = .ok (.invokevirtual 97, 3) := by decide +kernel
theorem d_Reader_functionTerm_29 : decode b_Reader_functionTerm 29 = .ok (.istore 4, 2) := by decide +kernel
theorem d_Reader_functionTerm_31 : decode b_Reader_functionTerm 31 = .ok (.iload 4, 2) := by decide +kernel
theorem d_Reader_functionTerm_33 : decode b_Reader_functionTerm 33 = .ok (.ifCond .ne 10, 3) := by decide +kernel
theorem d_Reader_functionTerm_36 : decode b_Reader_functionTerm 36 = .ok (.iload_n 1, 1) := by decide +kernel
theorem d_Reader_functionTerm_37 : decode b_Reader_functionTerm 37 = .ok (.invokestatic 60, 3) := by decide +kernel
theorem d_Reader_functionTerm_40 : decode b_Reader_functionTerm 40 = .ok (.goto 12, 3) := by decide +kernel
theorem d_Reader_functionTerm_43 : decode b_Reader_functionTerm 43 = .ok (.aload_n 0, 1) := by decide +kernel
theorem d_Reader_functionTerm_44 : decode b_Reader_functionTerm 44 = .ok (.iload_n 1, 1) := by decide +kernel
theorem d_Reader_functionTerm_45 : decode b_Reader_functionTerm 45 = .ok (.iload 4, 2) := by decide +kernel
theorem d_Reader_functionTerm_47 : decode b_Reader_functionTerm 47 = .ok (.iconst 0, 1) := by decide +kernel
theorem d_Reader_functionTerm_48 : decode b_Reader_functionTerm 48 = .ok (.iload_n 2, 1) := by decide +kernel
theorem d_Reader_functionTerm_49 : decode b_Reader_functionTerm 49 = .ok (.invokevirtual 89, 3) := by decide +kernel
theorem d_Reader_functionTerm_52 : decode b_Reader_functionTerm 52 = .ok (.ireturn, 1) := by decide +kernel
theorem d_Reader_functionTerm_53 : decode b_Reader_functionTerm 53 = .ok (.aload_n 0, 1) := by decide +kernel
theorem d_Reader_functionTerm_54 : decode b_Reader_functionTerm 54 = .ok (.getfield 25, 3) := by decide +kernel
theorem d_Reader_functionTerm_57 : decode b_Reader_functionTerm 57 = .ok (.iload_n 1, 1) := by decide +kernel
theorem d_Reader_functionTerm_58 : decode b_Reader_functionTerm 58 = .ok (.iconst 1, 1) := by decide +kernel
theorem d_Reader_functionTerm_59 : decode b_Reader_functionTerm 59 = .ok (.iadd, 1) := by decide +kernel
theorem d_Reader_functionTerm_60 : decode b_Reader_functionTerm 60 = .ok (.invokevirtual 63, 3) := by decide +kernel
theorem d_Reader_functionTerm_63 : decode b_Reader_functionTerm 63 = .ok (.istore 4, 2) := by decide +kernel
theorem d_Reader_functionTerm_65 : decode b_Reader_functionTerm 65 = .ok (.iload 4, 2) := by decide +kernel
theorem d_Reader_functionTerm_67 : decode b_Reader_functionTerm 67 = .ok (.invokestatic 70, 3) := by decide +kernel
theorem d_Reader_functionTerm_70 : decode b_Reader_functionTerm 70 = .ok (.ifCond .eq 17, 3) := by decide +kernel
theorem d_Reader_functionTerm_73 : decode b_Reader_functionTerm 73 = .ok (.aload_n 0, 1) := by decide +kernel
theorem d_Reader_functionTerm_74 : decode b_Reader_functionTerm 74 = .ok (.getfield 9, 3) := by decide +kernel
theorem d_Reader_functionTerm_77 : decode b_Reader_functionTerm 77 = .ok (.iload 4, 2) := by decide +kernel
theorem d_Reader_functionTerm_79 : decode b_Reader_functionTerm 79 = .ok (.bipush 97, 2) := by decide +kernel
theorem d_Reader_functionTerm_81 : decode b_Reader_functionTerm 81 = .ok (.isub, 1) := by decide +kernel
theorem d_Reader_functionTerm_82 : decode b_Reader_functionTerm 82 = .ok (.iaload, 1) := by decide +kernel
theorem d_Reader_functionTerm_83 : decode b_Reader_functionTerm 83 = .ok (.iconst 2, 1) := by decide +kernel
theorem d_Reader_functionTerm_84 : decode b_Reader_functionTerm 84 = .ok (.if_icmp .eq 10, 3) := by decide +kernel
theorem d_Reader_functionTerm_87 : decode b_Reader_functionTerm 87 = .ok (.iload_n 1, 1) := by decide +kernel
theorem d_Reader_functionTerm_88 : decode b_Reader_functionTerm 88 = .ok (.iconst 1, 1) := by decide +kernel
theorem d_Reader_functionTerm_89 : decode b_Reader_functionTerm 89 = .ok (.iadd, 1) := by decide +kernel
theorem d_Reader_functionTerm_90 : decode b_Reader_functionTerm 90 = .ok (.invokestatic 60, 3) := by decide +kernel
theorem d_Reader_functionTerm_93 : decode b_Reader_functionTerm 93 = .ok (.ireturn, 1) := by decide +kernel
theorem d_Reader_functionTerm_94 : decode b_Reader_functionTerm 94 = .ok (.aload_n 0, 1) := by decide +kernel
theorem d_Reader_functionTerm_95 : decode b_Reader_functionTerm 95 = .ok (.iload_n 1, 1) := by decide +kernel
theorem d_Reader_functionTerm_96 : decode b_Reader_functionTerm 96 = .ok (.aload_n 0, 1) := by decide +kernel
theorem d_Reader_functionTerm_97 : decode b_Reader_functionTerm 97 = .ok (.getfield 19, 3) := by decide +kernel
theorem d_Reader_functionTerm_100 : decode b_Reader_functionTerm 100 = .ok (.iconst 0, 1) := by decide +kernel
theorem d_Reader_functionTerm_101 : decode b_Reader_functionTerm 101 = .ok (.iload_n 2, 1) := by decide +kernel
theorem d_Reader_functionTerm_102 : decode b_Reader_functionTerm 102 = .ok (.invokevirtual 89, 3) := by decide +kernel
theorem d_Reader_functionTerm_105 : decode b_Reader_functionTerm 105 = .ok (.ireturn, 1) := by decide +kernel
theorem d_Reader_operation_0 : decode b_Reader_operation 0 = .ok (.aload_n 0, 1) := by decide +kernel
theorem d_Reader_operation_1 : decode b_Reader_operation 1 = .ok (.getfield 25, 3) := by decide +kernel
theorem d_Reader_operation_4 : decode b_Reader_operation 4 = .ok (.iload_n 1, 1) := by decide +kernel
theorem d_Reader_operation_5 : decode b_Reader_operation 5 = .ok (.invokevirtual 63, 3) := by decide +kernel
theorem d_Reader_operation_8 : decode b_Reader_operation 8 = .ok (.lookupswitch 118 #[(38, 84), (43, 84), (45, 84), (73, 110), (80, 93), (84, 93), (85, 93), (123, 102), (124, 84)], 84) := by decide +kernel
theorem d_Reader_operation_92 : decode b_Reader_operation 92 = .ok (.aload_n 0, 1) := by decide +kernel
theorem d_Reader_operation_93 : decode b_Reader_operation 93 = .ok (.iload_n 1, 1) := by decide +kernel
theorem d_Reader_operation_94 : decode b_Reader_operation 94 = .ok (.iconst 2, 1) := by decide +kernel
theorem d_Reader_operation_95 : decode b_Reader_operation 95 = .ok (.iconst 0, 1) := by decide +kernel
theorem d_Reader_operation_96 : decode b_Reader_operation 96 = .ok (.iload_n 2, 1) := by decide +kernel
theorem d_Reader_operation_97 : decode b_Reader_operation 97 = .ok (.invokevirtual 89, 3) := by decide +kernel
theorem d_Reader_operation_100 : decode b_Reader_operation 100 = .ok (.ireturn, 1) := by decide +kernel
theorem d_Reader_operation_101 : decode b_Reader_operation 101 = .ok (.aload_n 0, 1) := by decide +kernel
theorem d_Reader_operation_102 : decode b_Reader_operation 102 = .ok (.iload_n 1, 1) := by decide +kernel
theorem d_Reader_operation_103 : decode b_Reader_operation 103 = .ok (.iconst 1, 1) := by decide +kernel
theorem d_Reader_operation_104 : decode b_Reader_operation 104 = .ok (.iconst 0, 1) := by decide +kernel
theorem d_Reader_operation_105 : decode b_Reader_operation 105 = .ok (.iload_n 2, 1) := by decide +kernel
theorem d_Reader_operation_106 : decode b_Reader_operation 106 = .ok (.invokevirtual 89, 3) := by decide +kernel
theorem d_Reader_operation_109 : decode b_Reader_operation 109 = .ok (.ireturn, 1) := by decide +kernel
theorem d_Reader_operation_110 : decode b_Reader_operation 110 = .ok (.aload_n 0, 1) := by decide +kernel
theorem d_Reader_operation_111 : decode b_Reader_operation 111 = .ok (.iload_n 1, 1) := by decide +kernel
theorem d_Reader_operation_112 : decode b_Reader_operation 112 = .ok (.iconst 1, 1) := by decide +kernel
theorem d_Reader_operation_113 : decode b_Reader_operation 113 = .ok (.iload_n 2, 1) := by decide +kernel
theorem d_Reader_operation_114 : decode b_Reader_operation 114 = .ok (.invokevirtual 93, 3) := by decide +kernel
theorem d_Reader_operation_117 : decode b_Reader_operation 117 = .ok (.ireturn, 1) := by decide +kernel
theorem d_Reader_operation_118 : decode b_Reader_operation 118 = .ok (.aload_n 0, 1) := by decide +kernel
theorem d_Reader_operation_119 : decode b_Reader_operation 119 = .ok (.iload_n 1, 1) := by decide +kernel
theorem d_Reader_operation_120 : decode b_Reader_operation 120 = .ok (.iconst 0, 1) := by decide +kernel
theorem d_Reader_operation_121 : decode b_Reader_operation 121 = .ok (.iload_n 2, 1) := by decide +kernel
theorem d_Reader_operation_122 : decode b_Reader_operation 122 = .ok (.invokevirtual 93, 3) := by decide +kernel
theorem d_Reader_operation_125 : decode b_Reader_operation 125 = .ok (.ireturn, 1) := by decide +kernel
theorem d_Reader_operation_126 : decode b_Reader_operation 126 = .ok (.iload_n 1, 1) := by decide +kernel
theorem d_Reader_operation_127 : decode b_Reader_operation 127 = .ok (.invokestatic 60, 3) := by decide +kernel
theorem d_Reader_operation_130 : decode b_Reader_operation 130 = .ok (.ireturn, 1) := by decide +kernel
theorem d_Reader_part_0 : decode b_Reader_part 0 = .ok (.iload_n 2, 1) := by decide +kernel
theorem d_Reader_part_1 : decode b_Reader_part 1 = .ok (.ifCond .eq 14, 3) := by decide +kernel
theorem d_Reader_part_4 : decode b_Reader_part 4 = .ok (.aload_n 0, 1) := by decide +kernel
theorem d_Reader_part_5 : decode b_Reader_part 5 = .ok (.iload_n 1, 1) := by decide +kernel
theorem d_Reader_part_6 : decode b_Reader_part 6 = .ok (.iload_n 3, 1) := by decide +kernel
theorem d_Reader_part_7 : decode b_Reader_part 7 = .ok (.iconst 1, 1) := by decide +kernel
theorem d_Reader_part_8 : decode b_Reader_part 8 = .ok (.iadd, 1) := by decide +kernel
theorem d_Reader_part_9 : decode b_Reader_part 9 = .ok (.invokevirtual 45, 3) := by decide +kernel
theorem d_Reader_part_12 : decode b_Reader_part 12 = .ok (.goto 11, 3) := by decide +kernel
theorem d_Reader_part_15 : decode b_Reader_part 15 = .ok (.aload_n 0, 1) := by decide +kernel
theorem d_Reader_part_16 : decode b_Reader_part 16 = .ok (.iload_n 1, 1) := by decide +kernel
theorem d_Reader_part_17 : decode b_Reader_part 17 = .ok (.iload_n 3, 1) := by decide +kernel
theorem d_Reader_part_18 : decode b_Reader_part 18 = .ok (.iconst 1, 1) := by decide +kernel
theorem d_Reader_part_19 : decode b_Reader_part 19 = .ok (.iadd, 1) := by decide +kernel
theorem d_Reader_part_20 : decode b_Reader_part 20 = .ok (.invokevirtual 37, 3) := by decide +kernel
theorem d_Reader_part_23 : decode b_Reader_part 23 = .ok (.ireturn, 1) := by decide +kernel
theorem d_Reader_parts_0 : decode b_Reader_parts 0 = .ok (.iload_n 1, 1) := by decide +kernel
theorem d_Reader_parts_1 : decode b_Reader_parts 1 = .ok (.iconst 1, 1) := by decide +kernel
theorem d_Reader_parts_2 : decode b_Reader_parts 2 = .ok (.iadd, 1) := by decide +kernel
theorem d_Reader_parts_3 : decode b_Reader_parts 3 = .ok (.istore 5, 2) := by decide +kernel
theorem d_Reader_parts_5 : decode b_Reader_parts 5 = .ok (.iconst 0, 1) := by decide +kernel
theorem d_Reader_parts_6 : decode b_Reader_parts 6 = .ok (.istore 6, 2) := by decide +kernel
theorem d_Reader_parts_8 : decode b_Reader_parts 8 = .ok (.iload 6, 2) := by decide +kernel
theorem d_Reader_parts_10 : decode b_Reader_parts 10 = .ok (.iload_n 2, 1) := by decide +kernel
theorem d_Reader_parts_11 : decode b_Reader_parts 11 = .ok (.if_icmp .ge 25, 3) := by decide +kernel
theorem d_Reader_parts_14 : decode b_Reader_parts 14 = .ok (.iload 5, 2) := by decide +kernel
theorem d_Reader_parts_16 : decode b_Reader_parts 16 = .ok (.ifCond .lt 20, 3) := by decide +kernel
theorem d_Reader_parts_19 : decode b_Reader_parts 19 = .ok (.aload_n 0, 1) := by decide +kernel
theorem d_Reader_parts_20 : decode b_Reader_parts 20 = .ok (.iload 5, 2) := by decide +kernel
theorem d_Reader_parts_22 : decode b_Reader_parts 22 = .ok (.iload_n 3, 1) := by decide +kernel
theorem d_Reader_parts_23 : decode b_Reader_parts 23 = .ok (.iload 4, 2) := by decide +kernel
theorem d_Reader_parts_25 : decode b_Reader_parts 25 = .ok (.invokevirtual 102, 3) := by decide +kernel
theorem d_Reader_parts_28 : decode b_Reader_parts 28 = .ok (.istore 5, 2) := by decide +kernel
theorem d_Reader_parts_30 : decode b_Reader_parts 30 = .ok (.iinc 6 1, 3) := by decide +kernel
theorem d_Reader_parts_33 : decode b_Reader_parts 33 = .ok (.goto (-25), 3) := by decide +kernel
theorem d_Reader_parts_36 : decode b_Reader_parts 36 = .ok (.iload 5, 2) := by decide +kernel
theorem d_Reader_parts_38 : decode b_Reader_parts 38 = .ok (.ireturn, 1) := by decide +kernel
theorem d_Reader_term_0 : decode b_Reader_term 0 = .ok (.iload_n 2, 1) := by decide +kernel
theorem d_Reader_term_1 : decode b_Reader_term 1 = .ok (.bipush 12, 2) := by decide +kernel
theorem d_Reader_term_3 : decode b_Reader_term 3 = .ok (.if_icmp .le 8, 3) := by decide +kernel
theorem d_Reader_term_6 : decode b_Reader_term 6 = .ok (.iload_n 1, 1) := by decide +kernel
theorem d_Reader_term_7 : decode b_Reader_term 7 = .ok (.invokestatic 60, 3) := by decide +kernel
theorem d_Reader_term_10 : decode b_Reader_term 10 = .ok (.ireturn, 1) := by decide +kernel
theorem d_Reader_term_11 : decode b_Reader_term 11 = .ok (.aload_n 0, 1) := by decide +kernel
theorem d_Reader_term_12 : decode b_Reader_term 12 = .ok (.getfield 25, 3) := by decide +kernel
theorem d_Reader_term_15 : decode b_Reader_term 15 = .ok (.iload_n 1, 1) := by decide +kernel
theorem d_Reader_term_16 : decode b_Reader_term 16 = .ok (.invokevirtual 63, 3) := by decide +kernel
theorem d_Reader_term_19 : decode b_Reader_term 19 = .ok (.istore_n 3, 1) := by decide +kernel
theorem d_Reader_term_20 : decode b_Reader_term 20 = .ok (.iload_n 3, 1) := by decide +kernel
theorem d_Reader_term_21 : decode b_Reader_term 21 = .ok (.invokestatic 66, 3) := by decide +kernel
theorem d_Reader_term_24 : decode b_Reader_term 24 = .ok (.ifCond .eq 11, 3) := by decide +kernel
theorem d_Reader_term_27 : decode b_Reader_term 27 = .ok (.iload_n 1, 1) := by decide +kernel
theorem d_Reader_term_28 : decode b_Reader_term 28 = .ok (.iconst 1, 1) := by decide +kernel
theorem d_Reader_term_29 : decode b_Reader_term 29 = .ok (.iadd, 1) := by decide +kernel
theorem d_Reader_term_30 : decode b_Reader_term 30 = .ok (.istore 4, 2) := by decide +kernel
theorem d_Reader_term_32 : decode b_Reader_term 32 = .ok (.goto 62, 3) := by decide +kernel
theorem d_Reader_term_35 : decode b_Reader_term 35 = .ok (.iload_n 3, 1) := by decide +kernel
theorem d_Reader_term_36 : decode b_Reader_term 36 = .ok (.invokestatic 70, 3) := by decide +kernel
theorem d_Reader_term_39 : decode b_Reader_term 39 = .ok (.ifCond .eq 29, 3) := by decide +kernel
theorem d_Reader_term_42 : decode b_Reader_term 42 = .ok (.aload_n 0, 1) := by decide +kernel
theorem d_Reader_term_43 : decode b_Reader_term 43 = .ok (.iload_n 3, 1) := by decide +kernel
theorem d_Reader_term_44 : decode b_Reader_term 44 = .ok (.bipush 97, 2) := by decide +kernel
theorem d_Reader_term_46 : decode b_Reader_term 46 = .ok (.isub, 1) := by decide +kernel
theorem d_Reader_term_47 : decode b_Reader_term 47 = .ok (.invokevirtual 73, 3) := by decide +kernel
theorem d_Reader_term_50 : decode b_Reader_term 50 = .ok (.ifCond .eq 9, 3) := by decide +kernel
theorem d_Reader_term_53 : decode b_Reader_term 53 = .ok (.iload_n 1, 1) := by decide +kernel
theorem d_Reader_term_54 : decode b_Reader_term 54 = .ok (.iconst 1, 1) := by decide +kernel
theorem d_Reader_term_55 : decode b_Reader_term 55 = .ok (.iadd, 1) := by decide +kernel
theorem d_Reader_term_56 : decode b_Reader_term 56 = .ok (.goto 7, 3) := by decide +kernel
theorem d_Reader_term_59 : decode b_Reader_term 59 = .ok (.iload_n 1, 1) := by decide +kernel
theorem d_Reader_term_60 : decode b_Reader_term 60 = .ok (.invokestatic 60, 3) := by decide +kernel
theorem d_Reader_term_63 : decode b_Reader_term 63 = .ok (.istore 4, 2) := by decide +kernel
theorem d_Reader_term_65 : decode b_Reader_term 65 = .ok (.goto 29, 3) := by decide +kernel
theorem d_Reader_term_68 : decode b_Reader_term 68 = .ok (.iload_n 3, 1) := by decide +kernel
theorem d_Reader_term_69 : decode b_Reader_term 69 = .ok (.invokestatic 76, 3) := by decide +kernel
theorem d_Reader_term_72 : decode b_Reader_term 72 = .ok (.ifCond .eq 14, 3) := by decide +kernel
theorem d_Reader_term_75 : decode b_Reader_term 75 = .ok (.aload_n 0, 1) := by decide +kernel
theorem d_Reader_term_76 : decode b_Reader_term 76 = .ok (.iload_n 1, 1) := by decide +kernel
theorem d_Reader_term_77 : decode b_Reader_term 77 = .ok (.iload_n 2, 1) := by decide +kernel
theorem d_Reader_term_78 : decode b_Reader_term 78 = .ok (.invokevirtual 79, 3) := by decide +kernel
theorem d_Reader_term_81 : decode b_Reader_term 81 = .ok (.istore 4, 2) := by decide +kernel
theorem d_Reader_term_83 : decode b_Reader_term 83 = .ok (.goto 11, 3) := by decide +kernel
theorem d_Reader_term_86 : decode b_Reader_term 86 = .ok (.aload_n 0, 1) := by decide +kernel
theorem d_Reader_term_87 : decode b_Reader_term 87 = .ok (.iload_n 1, 1) := by decide +kernel
theorem d_Reader_term_88 : decode b_Reader_term 88 = .ok (.iload_n 2, 1) := by decide +kernel
theorem d_Reader_term_89 : decode b_Reader_term 89 = .ok (.invokevirtual 82, 3) := by decide +kernel
theorem d_Reader_term_92 : decode b_Reader_term 92 = .ok (.istore 4, 2) := by decide +kernel
theorem d_Reader_term_94 : decode b_Reader_term 94 = .ok (.aload_n 0, 1) := by decide +kernel
theorem d_Reader_term_95 : decode b_Reader_term 95 = .ok (.getfield 25, 3) := by decide +kernel
theorem d_Reader_term_98 : decode b_Reader_term 98 = .ok (.iload_n 1, 1) := by decide +kernel
theorem d_Reader_term_99 : decode b_Reader_term 99 = .ok (.iload 4, 2) := by decide +kernel
theorem d_Reader_term_101 : decode b_Reader_term 101 = .ok (.invokevirtual 85, 3) := by decide +kernel
theorem d_Reader_term_104 : decode b_Reader_term 104 = .ok (.iload 4, 2) := by decide +kernel
theorem d_Reader_term_106 : decode b_Reader_term 106 = .ok (.ireturn, 1) := by decide +kernel
abbrev GT_Reader_binder : Type := (Nat → Int32 → Int32 → Int32 → HP → Option (Int32 × HP)) × (Nat → Int32 → Int32 → HP → Option (Int32 × HP)) × (Nat → Int32 → Int32 → HP → Option (Int32 × HP)) × (Nat → Int32 → Int32 → HP → Option (Int32 × HP)) × (Nat → Int32 → Int32 → Int32 → HP → Option (Int32 × HP)) × (Nat → Int32 → Int32 → Int32 → Int32 → HP → Option (Int32 × HP)) × (Nat → Int32 → Int32 → HP → Option (Int32 × HP))
abbrev HG_Reader_binder (l : Launch) (g : GG) (gf : GT_Reader_binder) (n : Nat) : Prop :=
  (∀ {h : HP} {x0 : Nat} {x1 : Int32} {x2 : Int32} {x3 : Int32} {z : Int32 × HP}, gf.1 x0 x1 x2 x3 h = some z → Ct l g y_Reader_binder w_Reader_binder (rmS (n + 1) (n * 29 + 22)) [.ref (aD g x0), .int x1, .int x2, .int x3] h (some (.int z.1)) z.2) ∧
  (∀ {h : HP} {x0 : Nat} {x1 : Int32} {x2 : Int32} {z : Int32 × HP}, gf.2.1 x0 x1 x2 h = some z → Ct l g y_Reader_formula w_Reader_formula (rmS (n + 1) (n * 29 + 22)) [.ref (aD g x0), .int x1, .int x2] h (some (.int z.1)) z.2) ∧
  (∀ {h : HP} {x0 : Nat} {x1 : Int32} {x2 : Int32} {z : Int32 × HP}, gf.2.2.1 x0 x1 x2 h = some z → Ct l g y_Reader_functionTerm w_Reader_functionTerm (rmS (n + 1) (n * 29 + 22)) [.ref (aD g x0), .int x1, .int x2] h (some (.int z.1)) z.2) ∧
  (∀ {h : HP} {x0 : Nat} {x1 : Int32} {x2 : Int32} {z : Int32 × HP}, gf.2.2.2.1 x0 x1 x2 h = some z → Ct l g y_Reader_operation w_Reader_operation (rmS (n + 1) (n * 29 + 22)) [.ref (aD g x0), .int x1, .int x2] h (some (.int z.1)) z.2) ∧
  (∀ {h : HP} {x0 : Nat} {x1 : Int32} {x2 : Int32} {x3 : Int32} {z : Int32 × HP}, gf.2.2.2.2.1 x0 x1 x2 x3 h = some z → Ct l g y_Reader_part w_Reader_part (rmS (n + 1) (n * 29 + 22)) [.ref (aD g x0), .int x1, .int x2, .int x3] h (some (.int z.1)) z.2) ∧
  (∀ {h : HP} {x0 : Nat} {x1 : Int32} {x2 : Int32} {x3 : Int32} {x4 : Int32} {z : Int32 × HP}, gf.2.2.2.2.2.1 x0 x1 x2 x3 x4 h = some z → Ct l g y_Reader_parts w_Reader_parts (rmS (n + 1) (n * 29 + 22)) [.ref (aD g x0), .int x1, .int x2, .int x3, .int x4] h (some (.int z.1)) z.2) ∧
  (∀ {h : HP} {x0 : Nat} {x1 : Int32} {x2 : Int32} {z : Int32 × HP}, gf.2.2.2.2.2.2 x0 x1 x2 h = some z → Ct l g y_Reader_term w_Reader_term (rmS (n + 1) (n * 29 + 22)) [.ref (aD g x0), .int x1, .int x2] h (some (.int z.1)) z.2)
def s_Reader_binder_110 (gf : GT_Reader_binder) (x0 : Nat) (x2 : Int32) (x3 : Int32) (x5 : Int32) (x6 : Int32) (x7 : Int32) (t0 : Nat) (t1 : Int32) (t2 : Int32) (h : HP) : Option (Int32 × HP) :=
  (uI h t0 0 t1 t2).bind fun h1 =>
  (kd x0 3).bind fun _ =>
  (gf.2.2.2.2.1 x0 x5 x2 x3 h1).bind fun q4 =>
  (gR q4.2 x0 3 2).bind fun v6 =>
  (uI q4.2 v6 0 x6 x7).bind fun h8 =>
  some (q4.1, h8)
set_option maxHeartbeats 4000000 in
set_option maxRecDepth 100000 in
theorem k_Reader_binder_110 {x0 : Nat} {x2 : Int32} {x3 : Int32} {x5 : Int32} {x6 : Int32} {x7 : Int32} {t0 : Nat} {t1 : Int32} {t2 : Int32} {h : HP} {z : Int32 × HP} (C : CX g R_Reader b_Reader_binder 10 (some .int) p s m args meth c) (gf : GT_Reader_binder) (n : Nat) (hG : HG_Reader_binder l g gf n) {H : Heap} {locs : List Loc} {ls : Array Slot} (hw : WD g h s.heap H locs) (hl : lv_has ls 10 [(0, .ref (aD g x0)), (2, .int x2), (3, .int x3), (5, .int x5), (6, .int x6), (7, .int x7)]) (hs : s_Reader_binder_110 gf x0 x2 x3 x5 x6 x7 t0 t1 t2 h = some z) : W p l e (rmS (n + 1 + 1) ((n + 1) * 29 + 22)) s m args below meth c H locs 0 0 (MQ below (Qq g (some (.int z.1)) z.2) args s 0 0 (inA g)) (F0 m 110 ls [.int t2, .int t1, .ref (aD g t0)]) := by
  unfold s_Reader_binder_110 at hs
  have hx := C.1
  have hb := C.2.1
  obtain ⟨h1, e2, hs⟩ := ob hs
  refine pg_iastore C hw (t0 := 0) rfl e2 d_Reader_binder_110 (fun H locs hw => ?_)
  refine lv_aload_n hx hb d_Reader_binder_111 rfl (lv_at hl 0 rfl) ?_
  refine lv_iload hx hb d_Reader_binder_112 (lv_at hl 3 rfl) ?_
  refine lv_iload_n hx hb d_Reader_binder_114 rfl (lv_at hl 1 rfl) ?_
  refine lv_iload_n hx hb d_Reader_binder_115 rfl (lv_at hl 2 rfl) ?_
  obtain ⟨_, e3, hs⟩ := ob hs
  obtain ⟨q4, e5, hs⟩ := ob hs
  refine pg_callV C hw hl.1 ml_Reader_102 e3 (As := [.int x5, .int x2, .int x3]) (rest := []) (hG.2.2.2.2.1 e5) rfl (rm_ok (by omega) (by omega)) (Nat.le_of_ble_eq_true rfl) rfl (st1 := [.int q4.1]) rfl d_Reader_binder_116 (fun H locs hw => ?_)
  refine lv_istore hx hb d_Reader_binder_119 hl (by decide) (lv' := [(9, .int q4.1), (0, .ref (aD g x0)), (2, .int x2), (3, .int x3), (5, .int x5), (6, .int x6), (7, .int x7)]) rfl (fun ls hl => ?_)
  refine lv_aload_n hx hb d_Reader_binder_121 rfl (lv_at hl 1 rfl) ?_
  obtain ⟨v6, e7, hs⟩ := ob hs
  refine pg_getR C hw fl_Reader_9 e7 d_Reader_binder_122 ?_
  refine lv_iload hx hb d_Reader_binder_125 (lv_at hl 5 rfl) ?_
  refine lv_iload hx hb d_Reader_binder_127 (lv_at hl 6 rfl) ?_
  obtain ⟨h8, e9, hs⟩ := ob hs
  refine pg_iastore C hw (t0 := 0) rfl e9 d_Reader_binder_129 (fun H locs hw => ?_)
  refine lv_iload hx hb d_Reader_binder_130 (lv_at hl 0 rfl) ?_
  obtain rfl := Option.some.inj hs
  exact pg_iret C hw d_Reader_binder_132

def s_Reader_binder_92 (gf : GT_Reader_binder) (x0 : Nat) (x2 : Int32) (x3 : Int32) (x5 : Int32) (x6 : Int32) (x7 : Int32) (t0 : Int32) (h : HP) : Option (Int32 × HP) :=
  (gR h x0 3 2).bind fun v1 =>
  if t0 = 0 then (
    s_Reader_binder_110 gf x0 x2 x3 x5 x6 x7 v1 x6 1 h)
  else (
    s_Reader_binder_110 gf x0 x2 x3 x5 x6 x7 v1 x6 2 h)
set_option maxHeartbeats 4000000 in
set_option maxRecDepth 100000 in
theorem k_Reader_binder_92 {x0 : Nat} {x2 : Int32} {x3 : Int32} {x5 : Int32} {x6 : Int32} {x7 : Int32} {t0 : Int32} {h : HP} {z : Int32 × HP} (C : CX g R_Reader b_Reader_binder 10 (some .int) p s m args meth c) (gf : GT_Reader_binder) (n : Nat) (hG : HG_Reader_binder l g gf n) {H : Heap} {locs : List Loc} {ls : Array Slot} (hw : WD g h s.heap H locs) (hl : lv_has ls 10 [(0, .ref (aD g x0)), (2, .int x2), (3, .int x3), (5, .int x5), (6, .int x6), (7, .int x7)]) (hs : s_Reader_binder_92 gf x0 x2 x3 x5 x6 x7 t0 h = some z) : W p l e (rmS (n + 1 + 1) ((n + 1) * 29 + 22)) s m args below meth c H locs 0 0 (MQ below (Qq g (some (.int z.1)) z.2) args s 0 0 (inA g)) (F0 m 92 ls [.int t0]) := by
  unfold s_Reader_binder_92 at hs
  have hx := C.1
  have hb := C.2.1
  refine lv_istore hx hb d_Reader_binder_92 hl (by decide) (lv' := [(8, .int t0), (0, .ref (aD g x0)), (2, .int x2), (3, .int x3), (5, .int x5), (6, .int x6), (7, .int x7)]) rfl (fun ls hl => ?_)
  refine lv_aload_n hx hb d_Reader_binder_94 rfl (lv_at hl 1 rfl) ?_
  obtain ⟨v1, e2, hs⟩ := ob hs
  refine pg_getR C hw fl_Reader_9 e2 d_Reader_binder_95 ?_
  refine lv_iload hx hb d_Reader_binder_98 (lv_at hl 5 rfl) ?_
  refine lv_iload hx hb d_Reader_binder_100 (lv_at hl 0 rfl) ?_
  refine lv_if_eq hx hb d_Reader_binder_102 (tgt := 109) (by decide) (fun hc => ?_) (fun hc => ?_)
  · have hs := oi_t hc hs
    refine lv_iconst (v := 1) hx hb d_Reader_binder_109 (by decide) ?_
    exact k_Reader_binder_110 C gf n hG hw (lv_sub hl [1, 2, 3, 4, 5, 6] rfl) hs
  · have hs := oi_f hc hs
    refine lv_iconst (v := 2) hx hb d_Reader_binder_105 (by decide) ?_
    refine lv_goto hx hb d_Reader_binder_106 (tgt := 110) (by decide) ?_
    exact k_Reader_binder_110 C gf n hG hw (lv_sub hl [1, 2, 3, 4, 5, 6] rfl) hs

def s_Reader_binder_91 (gf : GT_Reader_binder) (x0 : Nat) (x2 : Int32) (x3 : Int32) (x5 : Int32) (x6 : Int32) (x7 : Int32) (h : HP) : Option (Int32 × HP) :=
  s_Reader_binder_92 gf x0 x2 x3 x5 x6 x7 0 h
set_option maxHeartbeats 4000000 in
set_option maxRecDepth 100000 in
theorem k_Reader_binder_91 {x0 : Nat} {x2 : Int32} {x3 : Int32} {x5 : Int32} {x6 : Int32} {x7 : Int32} {h : HP} {z : Int32 × HP} (C : CX g R_Reader b_Reader_binder 10 (some .int) p s m args meth c) (gf : GT_Reader_binder) (n : Nat) (hG : HG_Reader_binder l g gf n) {H : Heap} {locs : List Loc} {ls : Array Slot} (hw : WD g h s.heap H locs) (hl : lv_has ls 10 [(0, .ref (aD g x0)), (2, .int x2), (3, .int x3), (5, .int x5), (6, .int x6), (7, .int x7)]) (hs : s_Reader_binder_91 gf x0 x2 x3 x5 x6 x7 h = some z) : W p l e (rmS (n + 1 + 1) ((n + 1) * 29 + 22)) s m args below meth c H locs 0 0 (MQ below (Qq g (some (.int z.1)) z.2) args s 0 0 (inA g)) (F0 m 91 ls []) := by
  unfold s_Reader_binder_91 at hs
  have hx := C.1
  have hb := C.2.1
  refine lv_iconst (v := 0) hx hb d_Reader_binder_91 (by decide) ?_
  exact k_Reader_binder_92 C gf n hG hw (lv_sub hl [0, 1, 2, 3, 4, 5] rfl) hs

def s_Reader_binder (gf : GT_Reader_binder) (x0 : Nat) (x1 : Int32) (x2 : Int32) (x3 : Int32) (h : HP) : Option (Int32 × HP) :=
  (gR h x0 3 0).bind fun v1 =>
  (kd v1 0).bind fun _ =>
  (s_Text_at v1 (x1 + 1) h).bind fun q4 =>
  (s_AdjoinedSets_isLetter q4).bind fun q6 =>
  if q6 = 0 then (
    (s_Reader_wrong (x1 + 1)).bind fun q24 =>
    some (q24, h))
  else (
    (kd x0 3).bind fun _ =>
    (gf.2.2.2.2.2.2 x0 (x1 + 2) (x3 + 1) h).bind fun q9 =>
    if 0 ≤ q9.1 then (
      (gR q9.2 x0 3 2).bind fun v11 =>
      (aI q9.2 v11 0 (q4 - 97)).bind fun v13 =>
      (gR q9.2 x0 3 0).bind fun v15 =>
      (kd v15 0).bind fun _ =>
      (s_Text_at v15 (x1 + 2) q9.2).bind fun q18 =>
      if q18 = 97 then (
        (gR q9.2 x0 3 2).bind fun v20 =>
        (aI q9.2 v20 0 0).bind fun v22 =>
        if v22 = 0 then (
          s_Reader_binder_92 gf x0 x2 x3 q9.1 (q4 - 97) v13 1 q9.2)
        else (
          s_Reader_binder_91 gf x0 x2 x3 q9.1 (q4 - 97) v13 q9.2))
      else (
        s_Reader_binder_91 gf x0 x2 x3 q9.1 (q4 - 97) v13 q9.2))
    else (
      some (q9.1, q9.2)))
set_option maxHeartbeats 4000000 in
set_option maxRecDepth 100000 in
theorem c_Reader_binder (l : Launch) (g : GG) (gf : GT_Reader_binder) (n : Nat) (hG : HG_Reader_binder l g gf n) {x0 : Nat} {x1 : Int32} {x2 : Int32} {x3 : Int32} {h : HP} {z : Int32 × HP} (hs : s_Reader_binder gf x0 x1 x2 x3 h = some z) : Ct l g y_Reader_binder w_Reader_binder (rmS (n + 1 + 1) ((n + 1) * 29 + 22)) [.ref (aD g x0), .int x1, .int x2, .int x3] h (some (.int z.1)) z.2 := by
  refine Ct.of (own := R_Reader) (by decide) rfl rfl (Nat.le_of_ble_eq_true rfl) ?_
  intro p e s m args below meth c ls C hl hw
  have hx := C.1
  have hb := C.2.1
  have hl : lv_has ls 10 [(0, .ref (aD g x0)), (1, .int x1), (2, .int x2), (3, .int x3)] := hl
  unfold s_Reader_binder at hs
  refine lv_aload_n hx hb d_Reader_binder_0 rfl (lv_at hl 0 rfl) ?_
  obtain ⟨v1, e2, hs⟩ := ob hs
  refine pg_getR C hw fl_Reader_25 e2 d_Reader_binder_1 ?_
  refine lv_iload_n hx hb d_Reader_binder_4 rfl (lv_at hl 1 rfl) ?_
  refine lv_iconst (v := 1) hx hb d_Reader_binder_5 (by decide) ?_
  refine lv_iadd hx hb d_Reader_binder_6 ?_
  obtain ⟨_, e3, hs⟩ := ob hs
  obtain ⟨q4, e5, hs⟩ := ob hs
  refine pg_callV C hw hl.1 ml_Reader_63 e3 (As := [.int (x1 + 1)]) (rest := []) (c_Text_at l g e5) rfl (rm_ok (by omega) (by omega)) (Nat.le_of_ble_eq_true rfl) rfl (st1 := [.int q4]) rfl d_Reader_binder_7 (fun H locs hw => ?_)
  refine lv_istore hx hb d_Reader_binder_10 hl (by decide) (lv' := [(4, .int q4), (0, .ref (aD g x0)), (1, .int x1), (2, .int x2), (3, .int x3)]) rfl (fun ls hl => ?_)
  refine lv_iload hx hb d_Reader_binder_12 (lv_at hl 0 rfl) ?_
  obtain ⟨q6, e7, hs⟩ := ob hs
  refine pg_callSN C hw hl.1 ml_Reader_70 (As := [.int q4]) (rest := []) (c_AdjoinedSets_isLetter l g e7) rfl (rm_ok (by omega) (by omega)) (Nat.le_of_ble_eq_true rfl) rfl (st1 := [.int q6]) rfl d_Reader_binder_14 (fun H locs hw => ?_)
  refine lv_if_ne hx hb d_Reader_binder_17 (tgt := 27) (by decide) (fun hc => ?_) (fun hc => ?_)
  · have hs := oi_f hc hs
    refine lv_aload_n hx hb d_Reader_binder_27 rfl (lv_at hl 1 rfl) ?_
    refine lv_iload_n hx hb d_Reader_binder_28 rfl (lv_at hl 2 rfl) ?_
    refine lv_iconst (v := 2) hx hb d_Reader_binder_29 (by decide) ?_
    refine lv_iadd hx hb d_Reader_binder_30 ?_
    refine lv_iload_n hx hb d_Reader_binder_31 rfl (lv_at hl 4 rfl) ?_
    refine lv_iconst (v := 1) hx hb d_Reader_binder_32 (by decide) ?_
    refine lv_iadd hx hb d_Reader_binder_33 ?_
    obtain ⟨_, e8, hs⟩ := ob hs
    obtain ⟨q9, e10, hs⟩ := ob hs
    refine pg_callV C hw hl.1 ml_Reader_37 e8 (As := [.int (x1 + 2), .int (x3 + 1)]) (rest := []) (hG.2.2.2.2.2.2 e10) rfl (rm_ok (by omega) (by omega)) (Nat.le_of_ble_eq_true rfl) rfl (st1 := [.int q9.1]) rfl d_Reader_binder_34 (fun H locs hw => ?_)
    refine lv_istore hx hb d_Reader_binder_37 hl (by decide) (lv' := [(5, .int q9.1), (4, .int q4), (0, .ref (aD g x0)), (1, .int x1), (2, .int x2), (3, .int x3)]) rfl (fun ls hl => ?_)
    refine lv_iload hx hb d_Reader_binder_39 (lv_at hl 0 rfl) ?_
    refine lv_if_ge hx hb d_Reader_binder_41 (tgt := 47) (by decide) (fun hc => ?_) (fun hc => ?_)
    · have hs := oi_t hc hs
      refine lv_iload hx hb d_Reader_binder_47 (lv_at hl 1 rfl) ?_
      refine lv_bipush (v := 97) hx hb d_Reader_binder_49 (by decide) ?_
      refine lv_isub hx hb d_Reader_binder_51 ?_
      refine lv_istore hx hb d_Reader_binder_52 hl (by decide) (lv' := [(6, .int (q4 - 97)), (5, .int q9.1), (4, .int q4), (0, .ref (aD g x0)), (1, .int x1), (2, .int x2), (3, .int x3)]) rfl (fun ls hl => ?_)
      refine lv_aload_n hx hb d_Reader_binder_54 rfl (lv_at hl 3 rfl) ?_
      obtain ⟨v11, e12, hs⟩ := ob hs
      refine pg_getR C hw fl_Reader_9 e12 d_Reader_binder_55 ?_
      refine lv_iload hx hb d_Reader_binder_58 (lv_at hl 0 rfl) ?_
      obtain ⟨v13, e14, hs⟩ := ob hs
      refine pg_iaload C hw (t0 := 0) rfl e14 d_Reader_binder_60 ?_
      refine lv_istore hx hb d_Reader_binder_61 hl (by decide) (lv' := [(7, .int v13), (6, .int (q4 - 97)), (5, .int q9.1), (4, .int q4), (0, .ref (aD g x0)), (1, .int x1), (2, .int x2), (3, .int x3)]) rfl (fun ls hl => ?_)
      refine lv_aload_n hx hb d_Reader_binder_63 rfl (lv_at hl 4 rfl) ?_
      obtain ⟨v15, e16, hs⟩ := ob hs
      refine pg_getR C hw fl_Reader_25 e16 d_Reader_binder_64 ?_
      refine lv_iload_n hx hb d_Reader_binder_67 rfl (lv_at hl 5 rfl) ?_
      refine lv_iconst (v := 2) hx hb d_Reader_binder_68 (by decide) ?_
      refine lv_iadd hx hb d_Reader_binder_69 ?_
      obtain ⟨_, e17, hs⟩ := ob hs
      obtain ⟨q18, e19, hs⟩ := ob hs
      refine pg_callV C hw hl.1 ml_Reader_63 e17 (As := [.int (x1 + 2)]) (rest := []) (c_Text_at l g e19) rfl (rm_ok (by omega) (by omega)) (Nat.le_of_ble_eq_true rfl) rfl (st1 := [.int q18]) rfl d_Reader_binder_70 (fun H locs hw => ?_)
      refine lv_bipush (v := 97) hx hb d_Reader_binder_73 (by decide) ?_
      refine lv_icmp_ne hx hb d_Reader_binder_75 (tgt := 91) (by decide) (fun hc => ?_) (fun hc => ?_)
      · have hs := oi_f hc hs
        exact k_Reader_binder_91 C gf n hG hw (lv_sub hl [4, 6, 7, 2, 1, 0] rfl) hs
      · have hs := oi_t hc hs
        refine lv_aload_n hx hb d_Reader_binder_78 rfl (lv_at hl 4 rfl) ?_
        obtain ⟨v20, e21, hs⟩ := ob hs
        refine pg_getR C hw fl_Reader_9 e21 d_Reader_binder_79 ?_
        refine lv_iconst (v := 0) hx hb d_Reader_binder_82 (by decide) ?_
        obtain ⟨v22, e23, hs⟩ := ob hs
        refine pg_iaload C hw (t0 := 0) rfl e23 d_Reader_binder_83 ?_
        refine lv_if_ne hx hb d_Reader_binder_84 (tgt := 91) (by decide) (fun hc => ?_) (fun hc => ?_)
        · have hs := oi_f hc hs
          exact k_Reader_binder_91 C gf n hG hw (lv_sub hl [4, 6, 7, 2, 1, 0] rfl) hs
        · have hs := oi_t hc hs
          refine lv_iconst (v := 1) hx hb d_Reader_binder_87 (by decide) ?_
          refine lv_goto hx hb d_Reader_binder_88 (tgt := 92) (by decide) ?_
          exact k_Reader_binder_92 C gf n hG hw (lv_sub hl [4, 6, 7, 2, 1, 0] rfl) hs
    · have hs := oi_f hc hs
      refine lv_iload hx hb d_Reader_binder_44 (lv_at hl 0 rfl) ?_
      obtain rfl := Option.some.inj hs
      exact pg_iret C hw d_Reader_binder_46
  · have hs := oi_t hc hs
    refine lv_iload_n hx hb d_Reader_binder_20 rfl (lv_at hl 2 rfl) ?_
    refine lv_iconst (v := 1) hx hb d_Reader_binder_21 (by decide) ?_
    refine lv_iadd hx hb d_Reader_binder_22 ?_
    obtain ⟨q24, e25, hs⟩ := ob hs
    refine pg_callS C hw hl.1 ml_Reader_60 (As := [.int (x1 + 1)]) (rest := []) (c_Reader_wrong l g e25) rfl (rm_ok (by omega) (by omega)) (Nat.le_of_ble_eq_true rfl) rfl (st1 := [.int q24]) rfl d_Reader_binder_23 (fun H locs hw => ?_)
    obtain rfl := Option.some.inj hs
    exact pg_iret C hw d_Reader_binder_26

def s_Reader_formula_144 (gf : GT_Reader_binder) (x0 : Nat) (x1 : Int32) (x3 : Int32) (h : HP) : Option (Int32 × HP) :=
  (gR h x0 3 0).bind fun v1 =>
  (kd v1 0).bind fun _ =>
  (s_Text_setEnd v1 x1 x3 h).bind fun q4 =>
  some (x3, q4)
set_option maxHeartbeats 4000000 in
set_option maxRecDepth 100000 in
theorem k_Reader_formula_144 {x0 : Nat} {x1 : Int32} {x3 : Int32} {h : HP} {z : Int32 × HP} (C : CX g R_Reader b_Reader_formula 4 (some .int) p s m args meth c) (gf : GT_Reader_binder) (n : Nat) (hG : HG_Reader_binder l g gf n) {H : Heap} {locs : List Loc} {ls : Array Slot} (hw : WD g h s.heap H locs) (hl : lv_has ls 4 [(0, .ref (aD g x0)), (1, .int x1), (3, .int x3)]) (hs : s_Reader_formula_144 gf x0 x1 x3 h = some z) : W p l e (rmS (n + 1 + 1) ((n + 1) * 29 + 22)) s m args below meth c H locs 0 0 (MQ below (Qq g (some (.int z.1)) z.2) args s 0 0 (inA g)) (F0 m 144 ls []) := by
  unfold s_Reader_formula_144 at hs
  have hx := C.1
  have hb := C.2.1
  refine lv_aload_n hx hb d_Reader_formula_144 rfl (lv_at hl 0 rfl) ?_
  obtain ⟨v1, e2, hs⟩ := ob hs
  refine pg_getR C hw fl_Reader_25 e2 d_Reader_formula_145 ?_
  refine lv_iload_n hx hb d_Reader_formula_148 rfl (lv_at hl 1 rfl) ?_
  refine lv_iload_n hx hb d_Reader_formula_149 rfl (lv_at hl 2 rfl) ?_
  obtain ⟨_, e3, hs⟩ := ob hs
  obtain ⟨q4, e5, hs⟩ := ob hs
  refine pg_callV C hw hl.1 ml_Reader_85 e3 (As := [.int x1, .int x3]) (rest := []) (c_Text_setEnd l g e5) rfl (rm_ok (by omega) (by omega)) (Nat.le_of_ble_eq_true rfl) rfl (st1 := []) rfl d_Reader_formula_150 (fun H locs hw => ?_)
  refine lv_iload_n hx hb d_Reader_formula_153 rfl (lv_at hl 2 rfl) ?_
  obtain rfl := Option.some.inj hs
  exact pg_iret C hw d_Reader_formula_154

def s_Reader_formula_92 (gf : GT_Reader_binder) (x0 : Nat) (x1 : Int32) (x2 : Int32) (h : HP) : Option (Int32 × HP) :=
  (kd x0 3).bind fun _ =>
  (gf.2.2.2.2.2.1 x0 x1 2 0 x2 h).bind fun q2 =>
  s_Reader_formula_144 gf x0 x1 q2.1 q2.2
set_option maxHeartbeats 4000000 in
set_option maxRecDepth 100000 in
theorem k_Reader_formula_92 {x0 : Nat} {x1 : Int32} {x2 : Int32} {h : HP} {z : Int32 × HP} (C : CX g R_Reader b_Reader_formula 4 (some .int) p s m args meth c) (gf : GT_Reader_binder) (n : Nat) (hG : HG_Reader_binder l g gf n) {H : Heap} {locs : List Loc} {ls : Array Slot} (hw : WD g h s.heap H locs) (hl : lv_has ls 4 [(0, .ref (aD g x0)), (1, .int x1), (2, .int x2)]) (hs : s_Reader_formula_92 gf x0 x1 x2 h = some z) : W p l e (rmS (n + 1 + 1) ((n + 1) * 29 + 22)) s m args below meth c H locs 0 0 (MQ below (Qq g (some (.int z.1)) z.2) args s 0 0 (inA g)) (F0 m 92 ls []) := by
  unfold s_Reader_formula_92 at hs
  have hx := C.1
  have hb := C.2.1
  refine lv_aload_n hx hb d_Reader_formula_92 rfl (lv_at hl 0 rfl) ?_
  refine lv_iload_n hx hb d_Reader_formula_93 rfl (lv_at hl 1 rfl) ?_
  refine lv_iconst (v := 2) hx hb d_Reader_formula_94 (by decide) ?_
  refine lv_iconst (v := 0) hx hb d_Reader_formula_95 (by decide) ?_
  refine lv_iload_n hx hb d_Reader_formula_96 rfl (lv_at hl 2 rfl) ?_
  obtain ⟨_, e1, hs⟩ := ob hs
  obtain ⟨q2, e3, hs⟩ := ob hs
  refine pg_callV C hw hl.1 ml_Reader_89 e1 (As := [.int x1, .int 2, .int 0, .int x2]) (rest := []) (hG.2.2.2.2.2.1 e3) rfl (rm_ok (by omega) (by omega)) (Nat.le_of_ble_eq_true rfl) rfl (st1 := [.int q2.1]) rfl d_Reader_formula_97 (fun H locs hw => ?_)
  refine lv_istore_n hx hb d_Reader_formula_100 rfl hl (by decide) (lv' := [(3, .int q2.1), (0, .ref (aD g x0)), (1, .int x1), (2, .int x2)]) rfl (fun ls hl => ?_)
  refine lv_goto hx hb d_Reader_formula_101 (tgt := 144) (by decide) ?_
  exact k_Reader_formula_144 C gf n hG hw (lv_sub hl [1, 2, 0] rfl) hs

def s_Reader_formula_116 (gf : GT_Reader_binder) (x0 : Nat) (x1 : Int32) (x2 : Int32) (h : HP) : Option (Int32 × HP) :=
  (kd x0 3).bind fun _ =>
  (gf.2.2.2.2.2.1 x0 x1 2 1 x2 h).bind fun q2 =>
  s_Reader_formula_144 gf x0 x1 q2.1 q2.2
set_option maxHeartbeats 4000000 in
set_option maxRecDepth 100000 in
theorem k_Reader_formula_116 {x0 : Nat} {x1 : Int32} {x2 : Int32} {h : HP} {z : Int32 × HP} (C : CX g R_Reader b_Reader_formula 4 (some .int) p s m args meth c) (gf : GT_Reader_binder) (n : Nat) (hG : HG_Reader_binder l g gf n) {H : Heap} {locs : List Loc} {ls : Array Slot} (hw : WD g h s.heap H locs) (hl : lv_has ls 4 [(0, .ref (aD g x0)), (1, .int x1), (2, .int x2)]) (hs : s_Reader_formula_116 gf x0 x1 x2 h = some z) : W p l e (rmS (n + 1 + 1) ((n + 1) * 29 + 22)) s m args below meth c H locs 0 0 (MQ below (Qq g (some (.int z.1)) z.2) args s 0 0 (inA g)) (F0 m 116 ls []) := by
  unfold s_Reader_formula_116 at hs
  have hx := C.1
  have hb := C.2.1
  refine lv_aload_n hx hb d_Reader_formula_116 rfl (lv_at hl 0 rfl) ?_
  refine lv_iload_n hx hb d_Reader_formula_117 rfl (lv_at hl 1 rfl) ?_
  refine lv_iconst (v := 2) hx hb d_Reader_formula_118 (by decide) ?_
  refine lv_iconst (v := 1) hx hb d_Reader_formula_119 (by decide) ?_
  refine lv_iload_n hx hb d_Reader_formula_120 rfl (lv_at hl 2 rfl) ?_
  obtain ⟨_, e1, hs⟩ := ob hs
  obtain ⟨q2, e3, hs⟩ := ob hs
  refine pg_callV C hw hl.1 ml_Reader_89 e1 (As := [.int x1, .int 2, .int 1, .int x2]) (rest := []) (hG.2.2.2.2.2.1 e3) rfl (rm_ok (by omega) (by omega)) (Nat.le_of_ble_eq_true rfl) rfl (st1 := [.int q2.1]) rfl d_Reader_formula_121 (fun H locs hw => ?_)
  refine lv_istore_n hx hb d_Reader_formula_124 rfl hl (by decide) (lv' := [(3, .int q2.1), (0, .ref (aD g x0)), (1, .int x1), (2, .int x2)]) rfl (fun ls hl => ?_)
  refine lv_goto hx hb d_Reader_formula_125 (tgt := 144) (by decide) ?_
  exact k_Reader_formula_144 C gf n hG hw (lv_sub hl [1, 2, 0] rfl) hs

def s_Reader_formula_128 (gf : GT_Reader_binder) (x0 : Nat) (x1 : Int32) (x2 : Int32) (h : HP) : Option (Int32 × HP) :=
  (kd x0 3).bind fun _ =>
  (gf.1 x0 x1 1 x2 h).bind fun q2 =>
  s_Reader_formula_144 gf x0 x1 q2.1 q2.2
set_option maxHeartbeats 4000000 in
set_option maxRecDepth 100000 in
theorem k_Reader_formula_128 {x0 : Nat} {x1 : Int32} {x2 : Int32} {h : HP} {z : Int32 × HP} (C : CX g R_Reader b_Reader_formula 4 (some .int) p s m args meth c) (gf : GT_Reader_binder) (n : Nat) (hG : HG_Reader_binder l g gf n) {H : Heap} {locs : List Loc} {ls : Array Slot} (hw : WD g h s.heap H locs) (hl : lv_has ls 4 [(0, .ref (aD g x0)), (1, .int x1), (2, .int x2)]) (hs : s_Reader_formula_128 gf x0 x1 x2 h = some z) : W p l e (rmS (n + 1 + 1) ((n + 1) * 29 + 22)) s m args below meth c H locs 0 0 (MQ below (Qq g (some (.int z.1)) z.2) args s 0 0 (inA g)) (F0 m 128 ls []) := by
  unfold s_Reader_formula_128 at hs
  have hx := C.1
  have hb := C.2.1
  refine lv_aload_n hx hb d_Reader_formula_128 rfl (lv_at hl 0 rfl) ?_
  refine lv_iload_n hx hb d_Reader_formula_129 rfl (lv_at hl 1 rfl) ?_
  refine lv_iconst (v := 1) hx hb d_Reader_formula_130 (by decide) ?_
  refine lv_iload_n hx hb d_Reader_formula_131 rfl (lv_at hl 2 rfl) ?_
  obtain ⟨_, e1, hs⟩ := ob hs
  obtain ⟨q2, e3, hs⟩ := ob hs
  refine pg_callV C hw hl.1 ml_Reader_93 e1 (As := [.int x1, .int 1, .int x2]) (rest := []) (hG.1 e3) rfl (rm_ok (by omega) (by omega)) (Nat.le_of_ble_eq_true rfl) rfl (st1 := [.int q2.1]) rfl d_Reader_formula_132 (fun H locs hw => ?_)
  refine lv_istore_n hx hb d_Reader_formula_135 rfl hl (by decide) (lv' := [(3, .int q2.1), (0, .ref (aD g x0)), (1, .int x1), (2, .int x2)]) rfl (fun ls hl => ?_)
  refine lv_goto hx hb d_Reader_formula_136 (tgt := 144) (by decide) ?_
  exact k_Reader_formula_144 C gf n hG hw (lv_sub hl [1, 2, 0] rfl) hs

def s_Reader_formula (gf : GT_Reader_binder) (x0 : Nat) (x1 : Int32) (x2 : Int32) (h : HP) : Option (Int32 × HP) :=
  if x2 ≤ 12 then (
    (gR h x0 3 0).bind fun v1 =>
    (kd v1 0).bind fun _ =>
    (s_Text_at v1 x1 h).bind fun q4 =>
    if q4 = 33 then (
      (kd x0 3).bind fun _ =>
      (gf.2.2.2.2.2.1 x0 x1 1 1 x2 h).bind fun q7 =>
      s_Reader_formula_144 gf x0 x1 q7.1 q7.2)
    else (
    if q4 = 60 then (
      s_Reader_formula_92 gf x0 x1 x2 h)
    else (
    if q4 = 61 then (
      s_Reader_formula_92 gf x0 x1 x2 h)
    else (
    if q4 = 62 then (
      s_Reader_formula_116 gf x0 x1 x2 h)
    else (
    if q4 = 69 then (
      s_Reader_formula_128 gf x0 x1 x2 h)
    else (
    if q4 = 76 then (
      s_Reader_formula_128 gf x0 x1 x2 h)
    else (
    if q4 = 94 then (
      s_Reader_formula_116 gf x0 x1 x2 h)
    else (
    if q4 = 118 then (
      s_Reader_formula_116 gf x0 x1 x2 h)
    else (
      (s_Reader_wrong x1).bind fun q9 =>
      s_Reader_formula_144 gf x0 x1 q9 h)))))))))
  else (
    (s_Reader_wrong x1).bind fun q11 =>
    some (q11, h))
set_option maxHeartbeats 4000000 in
set_option maxRecDepth 100000 in
theorem c_Reader_formula (l : Launch) (g : GG) (gf : GT_Reader_binder) (n : Nat) (hG : HG_Reader_binder l g gf n) {x0 : Nat} {x1 : Int32} {x2 : Int32} {h : HP} {z : Int32 × HP} (hs : s_Reader_formula gf x0 x1 x2 h = some z) : Ct l g y_Reader_formula w_Reader_formula (rmS (n + 1 + 1) ((n + 1) * 29 + 22)) [.ref (aD g x0), .int x1, .int x2] h (some (.int z.1)) z.2 := by
  refine Ct.of (own := R_Reader) (by decide) rfl rfl (Nat.le_of_ble_eq_true rfl) ?_
  intro p e s m args below meth c ls C hl hw
  have hx := C.1
  have hb := C.2.1
  have hl : lv_has ls 4 [(0, .ref (aD g x0)), (1, .int x1), (2, .int x2)] := hl
  unfold s_Reader_formula at hs
  refine lv_iload_n hx hb d_Reader_formula_0 rfl (lv_at hl 2 rfl) ?_
  refine lv_bipush (v := 12) hx hb d_Reader_formula_1 (by decide) ?_
  refine lv_icmp_le hx hb d_Reader_formula_3 (tgt := 11) (by decide) (fun hc => ?_) (fun hc => ?_)
  · have hs := oi_t hc hs
    refine lv_aload_n hx hb d_Reader_formula_11 rfl (lv_at hl 0 rfl) ?_
    obtain ⟨v1, e2, hs⟩ := ob hs
    refine pg_getR C hw fl_Reader_25 e2 d_Reader_formula_12 ?_
    refine lv_iload_n hx hb d_Reader_formula_15 rfl (lv_at hl 1 rfl) ?_
    obtain ⟨_, e3, hs⟩ := ob hs
    obtain ⟨q4, e5, hs⟩ := ob hs
    refine pg_callV C hw hl.1 ml_Reader_63 e3 (As := [.int x1]) (rest := []) (c_Text_at l g e5) rfl (rm_ok (by omega) (by omega)) (Nat.le_of_ble_eq_true rfl) rfl (st1 := [.int q4]) rfl d_Reader_formula_16 (fun H locs hw => ?_)
    refine by_c (fun (hk0 : q4 = 33) => ?_) (fun (hk0 : ¬ q4 = 33) => ?_)
    · have hs := oi_t hk0 hs
      refine lv_lookup hx hb d_Reader_formula_19 (by decide) (off := 85) (by rw [hk0]; decide) (tgt := 104) (by decide) ?_
      refine lv_aload_n hx hb d_Reader_formula_104 rfl (lv_at hl 0 rfl) ?_
      refine lv_iload_n hx hb d_Reader_formula_105 rfl (lv_at hl 1 rfl) ?_
      refine lv_iconst (v := 1) hx hb d_Reader_formula_106 (by decide) ?_
      refine lv_iconst (v := 1) hx hb d_Reader_formula_107 (by decide) ?_
      refine lv_iload_n hx hb d_Reader_formula_108 rfl (lv_at hl 2 rfl) ?_
      obtain ⟨_, e6, hs⟩ := ob hs
      obtain ⟨q7, e8, hs⟩ := ob hs
      refine pg_callV C hw hl.1 ml_Reader_89 e6 (As := [.int x1, .int 1, .int 1, .int x2]) (rest := []) (hG.2.2.2.2.2.1 e8) rfl (rm_ok (by omega) (by omega)) (Nat.le_of_ble_eq_true rfl) rfl (st1 := [.int q7.1]) rfl d_Reader_formula_109 (fun H locs hw => ?_)
      refine lv_istore_n hx hb d_Reader_formula_112 rfl hl (by decide) (lv' := [(3, .int q7.1), (0, .ref (aD g x0)), (1, .int x1), (2, .int x2)]) rfl (fun ls hl => ?_)
      refine lv_goto hx hb d_Reader_formula_113 (tgt := 144) (by decide) ?_
      exact k_Reader_formula_144 C gf n hG hw (lv_sub hl [1, 2, 0] rfl) hs
    have hs := oi_f hk0 hs
    refine by_c (fun (hk1 : q4 = 60) => ?_) (fun (hk1 : ¬ q4 = 60) => ?_)
    · have hs := oi_t hk1 hs
      refine lv_lookup hx hb d_Reader_formula_19 (by decide) (off := 73) (by rw [hk1]; decide) (tgt := 92) (by decide) ?_
      exact k_Reader_formula_92 C gf n hG hw (lv_sub hl [0, 1, 2] rfl) hs
    have hs := oi_f hk1 hs
    refine by_c (fun (hk2 : q4 = 61) => ?_) (fun (hk2 : ¬ q4 = 61) => ?_)
    · have hs := oi_t hk2 hs
      refine lv_lookup hx hb d_Reader_formula_19 (by decide) (off := 73) (by rw [hk2]; decide) (tgt := 92) (by decide) ?_
      exact k_Reader_formula_92 C gf n hG hw (lv_sub hl [0, 1, 2] rfl) hs
    have hs := oi_f hk2 hs
    refine by_c (fun (hk3 : q4 = 62) => ?_) (fun (hk3 : ¬ q4 = 62) => ?_)
    · have hs := oi_t hk3 hs
      refine lv_lookup hx hb d_Reader_formula_19 (by decide) (off := 97) (by rw [hk3]; decide) (tgt := 116) (by decide) ?_
      exact k_Reader_formula_116 C gf n hG hw (lv_sub hl [0, 1, 2] rfl) hs
    have hs := oi_f hk3 hs
    refine by_c (fun (hk4 : q4 = 69) => ?_) (fun (hk4 : ¬ q4 = 69) => ?_)
    · have hs := oi_t hk4 hs
      refine lv_lookup hx hb d_Reader_formula_19 (by decide) (off := 109) (by rw [hk4]; decide) (tgt := 128) (by decide) ?_
      exact k_Reader_formula_128 C gf n hG hw (lv_sub hl [0, 1, 2] rfl) hs
    have hs := oi_f hk4 hs
    refine by_c (fun (hk5 : q4 = 76) => ?_) (fun (hk5 : ¬ q4 = 76) => ?_)
    · have hs := oi_t hk5 hs
      refine lv_lookup hx hb d_Reader_formula_19 (by decide) (off := 109) (by rw [hk5]; decide) (tgt := 128) (by decide) ?_
      exact k_Reader_formula_128 C gf n hG hw (lv_sub hl [0, 1, 2] rfl) hs
    have hs := oi_f hk5 hs
    refine by_c (fun (hk6 : q4 = 94) => ?_) (fun (hk6 : ¬ q4 = 94) => ?_)
    · have hs := oi_t hk6 hs
      refine lv_lookup hx hb d_Reader_formula_19 (by decide) (off := 97) (by rw [hk6]; decide) (tgt := 116) (by decide) ?_
      exact k_Reader_formula_116 C gf n hG hw (lv_sub hl [0, 1, 2] rfl) hs
    have hs := oi_f hk6 hs
    refine by_c (fun (hk7 : q4 = 118) => ?_) (fun (hk7 : ¬ q4 = 118) => ?_)
    · have hs := oi_t hk7 hs
      refine lv_lookup hx hb d_Reader_formula_19 (by decide) (off := 97) (by rw [hk7]; decide) (tgt := 116) (by decide) ?_
      exact k_Reader_formula_116 C gf n hG hw (lv_sub hl [0, 1, 2] rfl) hs
    have hs := oi_f hk7 hs
    refine lv_lookup hx hb d_Reader_formula_19 (by decide) (off := 120) (by show Op.lookupswitch.offset [(33, 85), (60, 73), (61, 73), (62, 97), (69, 109), (76, 109), (94, 97), (118, 97)] _ _ = _; rw [lv_osw hk0 (by decide), lv_osw hk1 (by decide), lv_osw hk2 (by decide), lv_osw hk3 (by decide), lv_osw hk4 (by decide), lv_osw hk5 (by decide), lv_osw hk6 (by decide), lv_osw hk7 (by decide)]; rfl) (tgt := 139) (by decide) ?_
    refine lv_iload_n hx hb d_Reader_formula_139 rfl (lv_at hl 1 rfl) ?_
    obtain ⟨q9, e10, hs⟩ := ob hs
    refine pg_callS C hw hl.1 ml_Reader_60 (As := [.int x1]) (rest := []) (c_Reader_wrong l g e10) rfl (rm_ok (by omega) (by omega)) (Nat.le_of_ble_eq_true rfl) rfl (st1 := [.int q9]) rfl d_Reader_formula_140 (fun H locs hw => ?_)
    refine lv_istore_n hx hb d_Reader_formula_143 rfl hl (by decide) (lv' := [(3, .int q9), (0, .ref (aD g x0)), (1, .int x1), (2, .int x2)]) rfl (fun ls hl => ?_)
    exact k_Reader_formula_144 C gf n hG hw (lv_sub hl [1, 2, 0] rfl) hs
  · have hs := oi_f hc hs
    refine lv_iload_n hx hb d_Reader_formula_6 rfl (lv_at hl 1 rfl) ?_
    obtain ⟨q11, e12, hs⟩ := ob hs
    refine pg_callS C hw hl.1 ml_Reader_60 (As := [.int x1]) (rest := []) (c_Reader_wrong l g e12) rfl (rm_ok (by omega) (by omega)) (Nat.le_of_ble_eq_true rfl) rfl (st1 := [.int q11]) rfl d_Reader_formula_7 (fun H locs hw => ?_)
    obtain rfl := Option.some.inj hs
    exact pg_iret C hw d_Reader_formula_10

def s_Reader_functionTerm_87 (gf : GT_Reader_binder) (x1 : Int32) (h : HP) : Option (Int32 × HP) :=
  (s_Reader_wrong (x1 + 1)).bind fun q1 =>
  some (q1, h)
set_option maxHeartbeats 4000000 in
set_option maxRecDepth 100000 in
theorem k_Reader_functionTerm_87 {x1 : Int32} {h : HP} {z : Int32 × HP} (C : CX g R_Reader b_Reader_functionTerm 5 (some .int) p s m args meth c) (gf : GT_Reader_binder) (n : Nat) (hG : HG_Reader_binder l g gf n) {H : Heap} {locs : List Loc} {ls : Array Slot} (hw : WD g h s.heap H locs) (hl : lv_has ls 5 [(1, .int x1)]) (hs : s_Reader_functionTerm_87 gf x1 h = some z) : W p l e (rmS (n + 1 + 1) ((n + 1) * 29 + 22)) s m args below meth c H locs 0 0 (MQ below (Qq g (some (.int z.1)) z.2) args s 0 0 (inA g)) (F0 m 87 ls []) := by
  unfold s_Reader_functionTerm_87 at hs
  have hx := C.1
  have hb := C.2.1
  refine lv_iload_n hx hb d_Reader_functionTerm_87 rfl (lv_at hl 0 rfl) ?_
  refine lv_iconst (v := 1) hx hb d_Reader_functionTerm_88 (by decide) ?_
  refine lv_iadd hx hb d_Reader_functionTerm_89 ?_
  obtain ⟨q1, e2, hs⟩ := ob hs
  refine pg_callS C hw hl.1 ml_Reader_60 (As := [.int (x1 + 1)]) (rest := []) (c_Reader_wrong l g e2) rfl (rm_ok (by omega) (by omega)) (Nat.le_of_ble_eq_true rfl) rfl (st1 := [.int q1]) rfl d_Reader_functionTerm_90 (fun H locs hw => ?_)
  obtain rfl := Option.some.inj hs
  exact pg_iret C hw d_Reader_functionTerm_93

def s_Reader_functionTerm (gf : GT_Reader_binder) (x0 : Nat) (x1 : Int32) (x2 : Int32) (h : HP) : Option (Int32 × HP) :=
  (gR h x0 3 0).bind fun v1 =>
  (kd v1 0).bind fun _ =>
  (s_Text_at v1 x1 h).bind fun q4 =>
  (gI h x0 3 3).bind fun v6 =>
  if (q4 - 65) = v6 then (
    (gR h x0 3 0).bind fun v8 =>
    (kd v8 0).bind fun _ =>
    (s_Text_at v8 (x1 + 1) h).bind fun q11 =>
    (s_AdjoinedSets_isLetter q11).bind fun q13 =>
    if q13 = 0 then (
      s_Reader_functionTerm_87 gf x1 h)
    else (
      (gR h x0 3 2).bind fun v15 =>
      (aI h v15 0 (q11 - 97)).bind fun v17 =>
      if v17 = 2 then (
        (gI h x0 3 4).bind fun v19 =>
        (kd x0 3).bind fun _ =>
        (gf.2.2.2.2.2.1 x0 x1 v19 0 x2 h).bind fun q22 =>
        some (q22.1, q22.2))
      else (
        s_Reader_functionTerm_87 gf x1 h)))
  else (
    (gR h x0 3 1).bind fun v24 =>
    (aR v24 4 (q4 - 65)).bind fun v26 =>
    (kd v26 1).bind fun _ =>
    (s_Function_takes v26 h).bind fun q29 =>
    if q29 = 0 then (
      (s_Reader_wrong x1).bind fun q34 =>
      some (q34, h))
    else (
      (kd x0 3).bind fun _ =>
      (gf.2.2.2.2.2.1 x0 x1 q29 0 x2 h).bind fun q32 =>
      some (q32.1, q32.2)))
set_option maxHeartbeats 4000000 in
set_option maxRecDepth 100000 in
theorem c_Reader_functionTerm (l : Launch) (g : GG) (gf : GT_Reader_binder) (n : Nat) (hG : HG_Reader_binder l g gf n) {x0 : Nat} {x1 : Int32} {x2 : Int32} {h : HP} {z : Int32 × HP} (hs : s_Reader_functionTerm gf x0 x1 x2 h = some z) : Ct l g y_Reader_functionTerm w_Reader_functionTerm (rmS (n + 1 + 1) ((n + 1) * 29 + 22)) [.ref (aD g x0), .int x1, .int x2] h (some (.int z.1)) z.2 := by
  refine Ct.of (own := R_Reader) (by decide) rfl rfl (Nat.le_of_ble_eq_true rfl) ?_
  intro p e s m args below meth c ls C hl hw
  have hx := C.1
  have hb := C.2.1
  have hl : lv_has ls 5 [(0, .ref (aD g x0)), (1, .int x1), (2, .int x2)] := hl
  unfold s_Reader_functionTerm at hs
  refine lv_aload_n hx hb d_Reader_functionTerm_0 rfl (lv_at hl 0 rfl) ?_
  obtain ⟨v1, e2, hs⟩ := ob hs
  refine pg_getR C hw fl_Reader_25 e2 d_Reader_functionTerm_1 ?_
  refine lv_iload_n hx hb d_Reader_functionTerm_4 rfl (lv_at hl 1 rfl) ?_
  obtain ⟨_, e3, hs⟩ := ob hs
  obtain ⟨q4, e5, hs⟩ := ob hs
  refine pg_callV C hw hl.1 ml_Reader_63 e3 (As := [.int x1]) (rest := []) (c_Text_at l g e5) rfl (rm_ok (by omega) (by omega)) (Nat.le_of_ble_eq_true rfl) rfl (st1 := [.int q4]) rfl d_Reader_functionTerm_5 (fun H locs hw => ?_)
  refine lv_bipush (v := 65) hx hb d_Reader_functionTerm_8 (by decide) ?_
  refine lv_isub hx hb d_Reader_functionTerm_10 ?_
  refine lv_istore_n hx hb d_Reader_functionTerm_11 rfl hl (by decide) (lv' := [(3, .int (q4 - 65)), (0, .ref (aD g x0)), (1, .int x1), (2, .int x2)]) rfl (fun ls hl => ?_)
  refine lv_iload_n hx hb d_Reader_functionTerm_12 rfl (lv_at hl 0 rfl) ?_
  refine lv_aload_n hx hb d_Reader_functionTerm_13 rfl (lv_at hl 1 rfl) ?_
  obtain ⟨v6, e7, hs⟩ := ob hs
  refine pg_getI C hw fl_Reader_15 e7 d_Reader_functionTerm_14 ?_
  refine lv_icmp_eq hx hb d_Reader_functionTerm_17 (tgt := 53) (by decide) (fun hc => ?_) (fun hc => ?_)
  · have hs := oi_t hc hs
    refine lv_aload_n hx hb d_Reader_functionTerm_53 rfl (lv_at hl 1 rfl) ?_
    obtain ⟨v8, e9, hs⟩ := ob hs
    refine pg_getR C hw fl_Reader_25 e9 d_Reader_functionTerm_54 ?_
    refine lv_iload_n hx hb d_Reader_functionTerm_57 rfl (lv_at hl 2 rfl) ?_
    refine lv_iconst (v := 1) hx hb d_Reader_functionTerm_58 (by decide) ?_
    refine lv_iadd hx hb d_Reader_functionTerm_59 ?_
    obtain ⟨_, e10, hs⟩ := ob hs
    obtain ⟨q11, e12, hs⟩ := ob hs
    refine pg_callV C hw hl.1 ml_Reader_63 e10 (As := [.int (x1 + 1)]) (rest := []) (c_Text_at l g e12) rfl (rm_ok (by omega) (by omega)) (Nat.le_of_ble_eq_true rfl) rfl (st1 := [.int q11]) rfl d_Reader_functionTerm_60 (fun H locs hw => ?_)
    refine lv_istore hx hb d_Reader_functionTerm_63 hl (by decide) (lv' := [(4, .int q11), (3, .int (q4 - 65)), (0, .ref (aD g x0)), (1, .int x1), (2, .int x2)]) rfl (fun ls hl => ?_)
    refine lv_iload hx hb d_Reader_functionTerm_65 (lv_at hl 0 rfl) ?_
    obtain ⟨q13, e14, hs⟩ := ob hs
    refine pg_callSN C hw hl.1 ml_Reader_70 (As := [.int q11]) (rest := []) (c_AdjoinedSets_isLetter l g e14) rfl (rm_ok (by omega) (by omega)) (Nat.le_of_ble_eq_true rfl) rfl (st1 := [.int q13]) rfl d_Reader_functionTerm_67 (fun H locs hw => ?_)
    refine lv_if_eq hx hb d_Reader_functionTerm_70 (tgt := 87) (by decide) (fun hc => ?_) (fun hc => ?_)
    · have hs := oi_t hc hs
      exact k_Reader_functionTerm_87 C gf n hG hw (lv_sub hl [3] rfl) hs
    · have hs := oi_f hc hs
      refine lv_aload_n hx hb d_Reader_functionTerm_73 rfl (lv_at hl 2 rfl) ?_
      obtain ⟨v15, e16, hs⟩ := ob hs
      refine pg_getR C hw fl_Reader_9 e16 d_Reader_functionTerm_74 ?_
      refine lv_iload hx hb d_Reader_functionTerm_77 (lv_at hl 0 rfl) ?_
      refine lv_bipush (v := 97) hx hb d_Reader_functionTerm_79 (by decide) ?_
      refine lv_isub hx hb d_Reader_functionTerm_81 ?_
      obtain ⟨v17, e18, hs⟩ := ob hs
      refine pg_iaload C hw (t0 := 0) rfl e18 d_Reader_functionTerm_82 ?_
      refine lv_iconst (v := 2) hx hb d_Reader_functionTerm_83 (by decide) ?_
      refine lv_icmp_eq hx hb d_Reader_functionTerm_84 (tgt := 94) (by decide) (fun hc => ?_) (fun hc => ?_)
      · have hs := oi_t hc hs
        refine lv_aload_n hx hb d_Reader_functionTerm_94 rfl (lv_at hl 2 rfl) ?_
        refine lv_iload_n hx hb d_Reader_functionTerm_95 rfl (lv_at hl 3 rfl) ?_
        refine lv_aload_n hx hb d_Reader_functionTerm_96 rfl (lv_at hl 2 rfl) ?_
        obtain ⟨v19, e20, hs⟩ := ob hs
        refine pg_getI C hw fl_Reader_19 e20 d_Reader_functionTerm_97 ?_
        refine lv_iconst (v := 0) hx hb d_Reader_functionTerm_100 (by decide) ?_
        refine lv_iload_n hx hb d_Reader_functionTerm_101 rfl (lv_at hl 4 rfl) ?_
        obtain ⟨_, e21, hs⟩ := ob hs
        obtain ⟨q22, e23, hs⟩ := ob hs
        refine pg_callV C hw hl.1 ml_Reader_89 e21 (As := [.int x1, .int v19, .int 0, .int x2]) (rest := []) (hG.2.2.2.2.2.1 e23) rfl (rm_ok (by omega) (by omega)) (Nat.le_of_ble_eq_true rfl) rfl (st1 := [.int q22.1]) rfl d_Reader_functionTerm_102 (fun H locs hw => ?_)
        obtain rfl := Option.some.inj hs
        exact pg_iret C hw d_Reader_functionTerm_105
      · have hs := oi_f hc hs
        exact k_Reader_functionTerm_87 C gf n hG hw (lv_sub hl [3] rfl) hs
  · have hs := oi_f hc hs
    refine lv_aload_n hx hb d_Reader_functionTerm_20 rfl (lv_at hl 1 rfl) ?_
    obtain ⟨v24, e25, hs⟩ := ob hs
    refine pg_getR C hw fl_Reader_29 e25 d_Reader_functionTerm_21 ?_
    refine lv_iload_n hx hb d_Reader_functionTerm_24 rfl (lv_at hl 0 rfl) ?_
    obtain ⟨v26, e27, hs⟩ := ob hs
    refine pg_aaload C hw (t0 := 4) rfl e27 d_Reader_functionTerm_25 ?_
    obtain ⟨_, e28, hs⟩ := ob hs
    obtain ⟨q29, e30, hs⟩ := ob hs
    refine pg_callV C hw hl.1 ml_Reader_97 e28 (As := []) (rest := []) (c_Function_takes l g e30) rfl (rm_ok (by omega) (by omega)) (Nat.le_of_ble_eq_true rfl) rfl (st1 := [.int q29]) rfl d_Reader_functionTerm_26 (fun H locs hw => ?_)
    refine lv_istore hx hb d_Reader_functionTerm_29 hl (by decide) (lv' := [(4, .int q29), (3, .int (q4 - 65)), (0, .ref (aD g x0)), (1, .int x1), (2, .int x2)]) rfl (fun ls hl => ?_)
    refine lv_iload hx hb d_Reader_functionTerm_31 (lv_at hl 0 rfl) ?_
    refine lv_if_ne hx hb d_Reader_functionTerm_33 (tgt := 43) (by decide) (fun hc => ?_) (fun hc => ?_)
    · have hs := oi_f hc hs
      refine lv_aload_n hx hb d_Reader_functionTerm_43 rfl (lv_at hl 2 rfl) ?_
      refine lv_iload_n hx hb d_Reader_functionTerm_44 rfl (lv_at hl 3 rfl) ?_
      refine lv_iload hx hb d_Reader_functionTerm_45 (lv_at hl 0 rfl) ?_
      refine lv_iconst (v := 0) hx hb d_Reader_functionTerm_47 (by decide) ?_
      refine lv_iload_n hx hb d_Reader_functionTerm_48 rfl (lv_at hl 4 rfl) ?_
      obtain ⟨_, e31, hs⟩ := ob hs
      obtain ⟨q32, e33, hs⟩ := ob hs
      refine pg_callV C hw hl.1 ml_Reader_89 e31 (As := [.int x1, .int q29, .int 0, .int x2]) (rest := []) (hG.2.2.2.2.2.1 e33) rfl (rm_ok (by omega) (by omega)) (Nat.le_of_ble_eq_true rfl) rfl (st1 := [.int q32.1]) rfl d_Reader_functionTerm_49 (fun H locs hw => ?_)
      obtain rfl := Option.some.inj hs
      exact pg_iret C hw d_Reader_functionTerm_52
    · have hs := oi_t hc hs
      refine lv_iload_n hx hb d_Reader_functionTerm_36 rfl (lv_at hl 3 rfl) ?_
      obtain ⟨q34, e35, hs⟩ := ob hs
      refine pg_callS C hw hl.1 ml_Reader_60 (As := [.int x1]) (rest := []) (c_Reader_wrong l g e35) rfl (rm_ok (by omega) (by omega)) (Nat.le_of_ble_eq_true rfl) rfl (st1 := [.int q34]) rfl d_Reader_functionTerm_37 (fun H locs hw => ?_)
      refine lv_goto hx hb d_Reader_functionTerm_40 (tgt := 52) (by decide) ?_
      obtain rfl := Option.some.inj hs
      exact pg_iret C hw d_Reader_functionTerm_52

def s_Reader_operation_92 (gf : GT_Reader_binder) (x0 : Nat) (x1 : Int32) (x2 : Int32) (h : HP) : Option (Int32 × HP) :=
  (kd x0 3).bind fun _ =>
  (gf.2.2.2.2.2.1 x0 x1 2 0 x2 h).bind fun q2 =>
  some (q2.1, q2.2)
set_option maxHeartbeats 4000000 in
set_option maxRecDepth 100000 in
theorem k_Reader_operation_92 {x0 : Nat} {x1 : Int32} {x2 : Int32} {h : HP} {z : Int32 × HP} (C : CX g R_Reader b_Reader_operation 3 (some .int) p s m args meth c) (gf : GT_Reader_binder) (n : Nat) (hG : HG_Reader_binder l g gf n) {H : Heap} {locs : List Loc} {ls : Array Slot} (hw : WD g h s.heap H locs) (hl : lv_has ls 3 [(0, .ref (aD g x0)), (1, .int x1), (2, .int x2)]) (hs : s_Reader_operation_92 gf x0 x1 x2 h = some z) : W p l e (rmS (n + 1 + 1) ((n + 1) * 29 + 22)) s m args below meth c H locs 0 0 (MQ below (Qq g (some (.int z.1)) z.2) args s 0 0 (inA g)) (F0 m 92 ls []) := by
  unfold s_Reader_operation_92 at hs
  have hx := C.1
  have hb := C.2.1
  refine lv_aload_n hx hb d_Reader_operation_92 rfl (lv_at hl 0 rfl) ?_
  refine lv_iload_n hx hb d_Reader_operation_93 rfl (lv_at hl 1 rfl) ?_
  refine lv_iconst (v := 2) hx hb d_Reader_operation_94 (by decide) ?_
  refine lv_iconst (v := 0) hx hb d_Reader_operation_95 (by decide) ?_
  refine lv_iload_n hx hb d_Reader_operation_96 rfl (lv_at hl 2 rfl) ?_
  obtain ⟨_, e1, hs⟩ := ob hs
  obtain ⟨q2, e3, hs⟩ := ob hs
  refine pg_callV C hw hl.1 ml_Reader_89 e1 (As := [.int x1, .int 2, .int 0, .int x2]) (rest := []) (hG.2.2.2.2.2.1 e3) rfl (rm_ok (by omega) (by omega)) (Nat.le_of_ble_eq_true rfl) rfl (st1 := [.int q2.1]) rfl d_Reader_operation_97 (fun H locs hw => ?_)
  obtain rfl := Option.some.inj hs
  exact pg_iret C hw d_Reader_operation_100

def s_Reader_operation_101 (gf : GT_Reader_binder) (x0 : Nat) (x1 : Int32) (x2 : Int32) (h : HP) : Option (Int32 × HP) :=
  (kd x0 3).bind fun _ =>
  (gf.2.2.2.2.2.1 x0 x1 1 0 x2 h).bind fun q2 =>
  some (q2.1, q2.2)
set_option maxHeartbeats 4000000 in
set_option maxRecDepth 100000 in
theorem k_Reader_operation_101 {x0 : Nat} {x1 : Int32} {x2 : Int32} {h : HP} {z : Int32 × HP} (C : CX g R_Reader b_Reader_operation 3 (some .int) p s m args meth c) (gf : GT_Reader_binder) (n : Nat) (hG : HG_Reader_binder l g gf n) {H : Heap} {locs : List Loc} {ls : Array Slot} (hw : WD g h s.heap H locs) (hl : lv_has ls 3 [(0, .ref (aD g x0)), (1, .int x1), (2, .int x2)]) (hs : s_Reader_operation_101 gf x0 x1 x2 h = some z) : W p l e (rmS (n + 1 + 1) ((n + 1) * 29 + 22)) s m args below meth c H locs 0 0 (MQ below (Qq g (some (.int z.1)) z.2) args s 0 0 (inA g)) (F0 m 101 ls []) := by
  unfold s_Reader_operation_101 at hs
  have hx := C.1
  have hb := C.2.1
  refine lv_aload_n hx hb d_Reader_operation_101 rfl (lv_at hl 0 rfl) ?_
  refine lv_iload_n hx hb d_Reader_operation_102 rfl (lv_at hl 1 rfl) ?_
  refine lv_iconst (v := 1) hx hb d_Reader_operation_103 (by decide) ?_
  refine lv_iconst (v := 0) hx hb d_Reader_operation_104 (by decide) ?_
  refine lv_iload_n hx hb d_Reader_operation_105 rfl (lv_at hl 2 rfl) ?_
  obtain ⟨_, e1, hs⟩ := ob hs
  obtain ⟨q2, e3, hs⟩ := ob hs
  refine pg_callV C hw hl.1 ml_Reader_89 e1 (As := [.int x1, .int 1, .int 0, .int x2]) (rest := []) (hG.2.2.2.2.2.1 e3) rfl (rm_ok (by omega) (by omega)) (Nat.le_of_ble_eq_true rfl) rfl (st1 := [.int q2.1]) rfl d_Reader_operation_106 (fun H locs hw => ?_)
  obtain rfl := Option.some.inj hs
  exact pg_iret C hw d_Reader_operation_109

def s_Reader_operation (gf : GT_Reader_binder) (x0 : Nat) (x1 : Int32) (x2 : Int32) (h : HP) : Option (Int32 × HP) :=
  (gR h x0 3 0).bind fun v1 =>
  (kd v1 0).bind fun _ =>
  (s_Text_at v1 x1 h).bind fun q4 =>
  if q4 = 38 then (
    s_Reader_operation_92 gf x0 x1 x2 h)
  else (
  if q4 = 43 then (
    s_Reader_operation_92 gf x0 x1 x2 h)
  else (
  if q4 = 45 then (
    s_Reader_operation_92 gf x0 x1 x2 h)
  else (
  if q4 = 73 then (
    (kd x0 3).bind fun _ =>
    (gf.1 x0 x1 0 x2 h).bind fun q7 =>
    some (q7.1, q7.2))
  else (
  if q4 = 80 then (
    s_Reader_operation_101 gf x0 x1 x2 h)
  else (
  if q4 = 84 then (
    s_Reader_operation_101 gf x0 x1 x2 h)
  else (
  if q4 = 85 then (
    s_Reader_operation_101 gf x0 x1 x2 h)
  else (
  if q4 = 123 then (
    (kd x0 3).bind fun _ =>
    (gf.1 x0 x1 1 x2 h).bind fun q10 =>
    some (q10.1, q10.2))
  else (
  if q4 = 124 then (
    s_Reader_operation_92 gf x0 x1 x2 h)
  else (
    (s_Reader_wrong x1).bind fun q12 =>
    some (q12, h))))))))))
set_option maxHeartbeats 4000000 in
set_option maxRecDepth 100000 in
theorem c_Reader_operation (l : Launch) (g : GG) (gf : GT_Reader_binder) (n : Nat) (hG : HG_Reader_binder l g gf n) {x0 : Nat} {x1 : Int32} {x2 : Int32} {h : HP} {z : Int32 × HP} (hs : s_Reader_operation gf x0 x1 x2 h = some z) : Ct l g y_Reader_operation w_Reader_operation (rmS (n + 1 + 1) ((n + 1) * 29 + 22)) [.ref (aD g x0), .int x1, .int x2] h (some (.int z.1)) z.2 := by
  refine Ct.of (own := R_Reader) (by decide) rfl rfl (Nat.le_of_ble_eq_true rfl) ?_
  intro p e s m args below meth c ls C hl hw
  have hx := C.1
  have hb := C.2.1
  have hl : lv_has ls 3 [(0, .ref (aD g x0)), (1, .int x1), (2, .int x2)] := hl
  unfold s_Reader_operation at hs
  refine lv_aload_n hx hb d_Reader_operation_0 rfl (lv_at hl 0 rfl) ?_
  obtain ⟨v1, e2, hs⟩ := ob hs
  refine pg_getR C hw fl_Reader_25 e2 d_Reader_operation_1 ?_
  refine lv_iload_n hx hb d_Reader_operation_4 rfl (lv_at hl 1 rfl) ?_
  obtain ⟨_, e3, hs⟩ := ob hs
  obtain ⟨q4, e5, hs⟩ := ob hs
  refine pg_callV C hw hl.1 ml_Reader_63 e3 (As := [.int x1]) (rest := []) (c_Text_at l g e5) rfl (rm_ok (by omega) (by omega)) (Nat.le_of_ble_eq_true rfl) rfl (st1 := [.int q4]) rfl d_Reader_operation_5 (fun H locs hw => ?_)
  refine by_c (fun (hk0 : q4 = 38) => ?_) (fun (hk0 : ¬ q4 = 38) => ?_)
  · have hs := oi_t hk0 hs
    refine lv_lookup hx hb d_Reader_operation_8 (by decide) (off := 84) (by rw [hk0]; decide) (tgt := 92) (by decide) ?_
    exact k_Reader_operation_92 C gf n hG hw (lv_sub hl [0, 1, 2] rfl) hs
  have hs := oi_f hk0 hs
  refine by_c (fun (hk1 : q4 = 43) => ?_) (fun (hk1 : ¬ q4 = 43) => ?_)
  · have hs := oi_t hk1 hs
    refine lv_lookup hx hb d_Reader_operation_8 (by decide) (off := 84) (by rw [hk1]; decide) (tgt := 92) (by decide) ?_
    exact k_Reader_operation_92 C gf n hG hw (lv_sub hl [0, 1, 2] rfl) hs
  have hs := oi_f hk1 hs
  refine by_c (fun (hk2 : q4 = 45) => ?_) (fun (hk2 : ¬ q4 = 45) => ?_)
  · have hs := oi_t hk2 hs
    refine lv_lookup hx hb d_Reader_operation_8 (by decide) (off := 84) (by rw [hk2]; decide) (tgt := 92) (by decide) ?_
    exact k_Reader_operation_92 C gf n hG hw (lv_sub hl [0, 1, 2] rfl) hs
  have hs := oi_f hk2 hs
  refine by_c (fun (hk3 : q4 = 73) => ?_) (fun (hk3 : ¬ q4 = 73) => ?_)
  · have hs := oi_t hk3 hs
    refine lv_lookup hx hb d_Reader_operation_8 (by decide) (off := 110) (by rw [hk3]; decide) (tgt := 118) (by decide) ?_
    refine lv_aload_n hx hb d_Reader_operation_118 rfl (lv_at hl 0 rfl) ?_
    refine lv_iload_n hx hb d_Reader_operation_119 rfl (lv_at hl 1 rfl) ?_
    refine lv_iconst (v := 0) hx hb d_Reader_operation_120 (by decide) ?_
    refine lv_iload_n hx hb d_Reader_operation_121 rfl (lv_at hl 2 rfl) ?_
    obtain ⟨_, e6, hs⟩ := ob hs
    obtain ⟨q7, e8, hs⟩ := ob hs
    refine pg_callV C hw hl.1 ml_Reader_93 e6 (As := [.int x1, .int 0, .int x2]) (rest := []) (hG.1 e8) rfl (rm_ok (by omega) (by omega)) (Nat.le_of_ble_eq_true rfl) rfl (st1 := [.int q7.1]) rfl d_Reader_operation_122 (fun H locs hw => ?_)
    obtain rfl := Option.some.inj hs
    exact pg_iret C hw d_Reader_operation_125
  have hs := oi_f hk3 hs
  refine by_c (fun (hk4 : q4 = 80) => ?_) (fun (hk4 : ¬ q4 = 80) => ?_)
  · have hs := oi_t hk4 hs
    refine lv_lookup hx hb d_Reader_operation_8 (by decide) (off := 93) (by rw [hk4]; decide) (tgt := 101) (by decide) ?_
    exact k_Reader_operation_101 C gf n hG hw (lv_sub hl [0, 1, 2] rfl) hs
  have hs := oi_f hk4 hs
  refine by_c (fun (hk5 : q4 = 84) => ?_) (fun (hk5 : ¬ q4 = 84) => ?_)
  · have hs := oi_t hk5 hs
    refine lv_lookup hx hb d_Reader_operation_8 (by decide) (off := 93) (by rw [hk5]; decide) (tgt := 101) (by decide) ?_
    exact k_Reader_operation_101 C gf n hG hw (lv_sub hl [0, 1, 2] rfl) hs
  have hs := oi_f hk5 hs
  refine by_c (fun (hk6 : q4 = 85) => ?_) (fun (hk6 : ¬ q4 = 85) => ?_)
  · have hs := oi_t hk6 hs
    refine lv_lookup hx hb d_Reader_operation_8 (by decide) (off := 93) (by rw [hk6]; decide) (tgt := 101) (by decide) ?_
    exact k_Reader_operation_101 C gf n hG hw (lv_sub hl [0, 1, 2] rfl) hs
  have hs := oi_f hk6 hs
  refine by_c (fun (hk7 : q4 = 123) => ?_) (fun (hk7 : ¬ q4 = 123) => ?_)
  · have hs := oi_t hk7 hs
    refine lv_lookup hx hb d_Reader_operation_8 (by decide) (off := 102) (by rw [hk7]; decide) (tgt := 110) (by decide) ?_
    refine lv_aload_n hx hb d_Reader_operation_110 rfl (lv_at hl 0 rfl) ?_
    refine lv_iload_n hx hb d_Reader_operation_111 rfl (lv_at hl 1 rfl) ?_
    refine lv_iconst (v := 1) hx hb d_Reader_operation_112 (by decide) ?_
    refine lv_iload_n hx hb d_Reader_operation_113 rfl (lv_at hl 2 rfl) ?_
    obtain ⟨_, e9, hs⟩ := ob hs
    obtain ⟨q10, e11, hs⟩ := ob hs
    refine pg_callV C hw hl.1 ml_Reader_93 e9 (As := [.int x1, .int 1, .int x2]) (rest := []) (hG.1 e11) rfl (rm_ok (by omega) (by omega)) (Nat.le_of_ble_eq_true rfl) rfl (st1 := [.int q10.1]) rfl d_Reader_operation_114 (fun H locs hw => ?_)
    obtain rfl := Option.some.inj hs
    exact pg_iret C hw d_Reader_operation_117
  have hs := oi_f hk7 hs
  refine by_c (fun (hk8 : q4 = 124) => ?_) (fun (hk8 : ¬ q4 = 124) => ?_)
  · have hs := oi_t hk8 hs
    refine lv_lookup hx hb d_Reader_operation_8 (by decide) (off := 84) (by rw [hk8]; decide) (tgt := 92) (by decide) ?_
    exact k_Reader_operation_92 C gf n hG hw (lv_sub hl [0, 1, 2] rfl) hs
  have hs := oi_f hk8 hs
  refine lv_lookup hx hb d_Reader_operation_8 (by decide) (off := 118) (by show Op.lookupswitch.offset [(38, 84), (43, 84), (45, 84), (73, 110), (80, 93), (84, 93), (85, 93), (123, 102), (124, 84)] _ _ = _; rw [lv_osw hk0 (by decide), lv_osw hk1 (by decide), lv_osw hk2 (by decide), lv_osw hk3 (by decide), lv_osw hk4 (by decide), lv_osw hk5 (by decide), lv_osw hk6 (by decide), lv_osw hk7 (by decide), lv_osw hk8 (by decide)]; rfl) (tgt := 126) (by decide) ?_
  refine lv_iload_n hx hb d_Reader_operation_126 rfl (lv_at hl 1 rfl) ?_
  obtain ⟨q12, e13, hs⟩ := ob hs
  refine pg_callS C hw hl.1 ml_Reader_60 (As := [.int x1]) (rest := []) (c_Reader_wrong l g e13) rfl (rm_ok (by omega) (by omega)) (Nat.le_of_ble_eq_true rfl) rfl (st1 := [.int q12]) rfl d_Reader_operation_127 (fun H locs hw => ?_)
  obtain rfl := Option.some.inj hs
  exact pg_iret C hw d_Reader_operation_130

def s_Reader_part (gf : GT_Reader_binder) (x0 : Nat) (x1 : Int32) (x2 : Int32) (x3 : Int32) (h : HP) : Option (Int32 × HP) :=
  if x2 = 0 then (
    (kd x0 3).bind fun _ =>
    (gf.2.2.2.2.2.2 x0 x1 (x3 + 1) h).bind fun q2 =>
    some (q2.1, q2.2))
  else (
    (kd x0 3).bind fun _ =>
    (gf.2.1 x0 x1 (x3 + 1) h).bind fun q5 =>
    some (q5.1, q5.2))
set_option maxHeartbeats 4000000 in
set_option maxRecDepth 100000 in
theorem c_Reader_part (l : Launch) (g : GG) (gf : GT_Reader_binder) (n : Nat) (hG : HG_Reader_binder l g gf n) {x0 : Nat} {x1 : Int32} {x2 : Int32} {x3 : Int32} {h : HP} {z : Int32 × HP} (hs : s_Reader_part gf x0 x1 x2 x3 h = some z) : Ct l g y_Reader_part w_Reader_part (rmS (n + 1 + 1) ((n + 1) * 29 + 22)) [.ref (aD g x0), .int x1, .int x2, .int x3] h (some (.int z.1)) z.2 := by
  refine Ct.of (own := R_Reader) (by decide) rfl rfl (Nat.le_of_ble_eq_true rfl) ?_
  intro p e s m args below meth c ls C hl hw
  have hx := C.1
  have hb := C.2.1
  have hl : lv_has ls 4 [(0, .ref (aD g x0)), (1, .int x1), (2, .int x2), (3, .int x3)] := hl
  unfold s_Reader_part at hs
  refine lv_iload_n hx hb d_Reader_part_0 rfl (lv_at hl 2 rfl) ?_
  refine lv_if_eq hx hb d_Reader_part_1 (tgt := 15) (by decide) (fun hc => ?_) (fun hc => ?_)
  · have hs := oi_t hc hs
    refine lv_aload_n hx hb d_Reader_part_15 rfl (lv_at hl 0 rfl) ?_
    refine lv_iload_n hx hb d_Reader_part_16 rfl (lv_at hl 1 rfl) ?_
    refine lv_iload_n hx hb d_Reader_part_17 rfl (lv_at hl 3 rfl) ?_
    refine lv_iconst (v := 1) hx hb d_Reader_part_18 (by decide) ?_
    refine lv_iadd hx hb d_Reader_part_19 ?_
    obtain ⟨_, e1, hs⟩ := ob hs
    obtain ⟨q2, e3, hs⟩ := ob hs
    refine pg_callV C hw hl.1 ml_Reader_37 e1 (As := [.int x1, .int (x3 + 1)]) (rest := []) (hG.2.2.2.2.2.2 e3) rfl (rm_ok (by omega) (by omega)) (Nat.le_of_ble_eq_true rfl) rfl (st1 := [.int q2.1]) rfl d_Reader_part_20 (fun H locs hw => ?_)
    obtain rfl := Option.some.inj hs
    exact pg_iret C hw d_Reader_part_23
  · have hs := oi_f hc hs
    refine lv_aload_n hx hb d_Reader_part_4 rfl (lv_at hl 0 rfl) ?_
    refine lv_iload_n hx hb d_Reader_part_5 rfl (lv_at hl 1 rfl) ?_
    refine lv_iload_n hx hb d_Reader_part_6 rfl (lv_at hl 3 rfl) ?_
    refine lv_iconst (v := 1) hx hb d_Reader_part_7 (by decide) ?_
    refine lv_iadd hx hb d_Reader_part_8 ?_
    obtain ⟨_, e4, hs⟩ := ob hs
    obtain ⟨q5, e6, hs⟩ := ob hs
    refine pg_callV C hw hl.1 ml_Reader_45 e4 (As := [.int x1, .int (x3 + 1)]) (rest := []) (hG.2.1 e6) rfl (rm_ok (by omega) (by omega)) (Nat.le_of_ble_eq_true rfl) rfl (st1 := [.int q5.1]) rfl d_Reader_part_9 (fun H locs hw => ?_)
    refine lv_goto hx hb d_Reader_part_12 (tgt := 23) (by decide) ?_
    obtain rfl := Option.some.inj hs
    exact pg_iret C hw d_Reader_part_23

def s_Reader_parts_8 (gf : GT_Reader_binder) : Nat → Nat → Int32 → Int32 → Int32 → Int32 → Int32 → HP → Option (Int32 × HP)
  | 0 => fun _ _ _ _ _ _ _ => none
  | k + 1 => fun x0 x2 x3 x4 x5 x6 h =>
  if x2 ≤ x6 then (
    some (x5, h))
  else (
    if x5 < 0 then (
      some (x5, h))
    else (
      (kd x0 3).bind fun _ =>
      (gf.2.2.2.2.1 x0 x5 x3 x4 h).bind fun q2 =>
      (s_Reader_parts_8 gf k) x0 x2 x3 x4 q2.1 (x6 + 1) q2.2))
set_option maxHeartbeats 4000000 in
set_option maxRecDepth 100000 in
theorem k_Reader_parts_8 {z : Int32 × HP} (C : CX g R_Reader b_Reader_parts 7 (some .int) p s m args meth c) (gf : GT_Reader_binder) (n : Nat) (hG : HG_Reader_binder l g gf n) : ∀ (k : Nat) {x0 : Nat} {x2 : Int32} {x3 : Int32} {x4 : Int32} {x5 : Int32} {x6 : Int32} {h : HP} {H : Heap} {locs : List Loc} {ls : Array Slot}, WD g h s.heap H locs → lv_has ls 7 [(0, .ref (aD g x0)), (2, .int x2), (3, .int x3), (4, .int x4), (5, .int x5), (6, .int x6)] → s_Reader_parts_8 gf k x0 x2 x3 x4 x5 x6 h = some z → W p l e (rmS (n + 1 + 1) ((n + 1) * 29 + 22)) s m args below meth c H locs 0 0 (MQ below (Qq g (some (.int z.1)) z.2) args s 0 0 (inA g)) (F0 m 8 ls []) := by
  have hx := C.1
  have hb := C.2.1
  intro k
  induction k with
  | zero =>
    intro x0 x2 x3 x4 x5 x6 h H locs ls hw hl hs
    exact (no_s hs).elim
  | succ k ih =>
    intro x0 x2 x3 x4 x5 x6 h H locs ls hw hl hs
    rw [s_Reader_parts_8] at hs
    refine lv_iload hx hb d_Reader_parts_8 (lv_at hl 5 rfl) ?_
    refine lv_iload_n hx hb d_Reader_parts_10 rfl (lv_at hl 1 rfl) ?_
    refine lv_icmp_ge hx hb d_Reader_parts_11 (tgt := 36) (by decide) (fun hc => ?_) (fun hc => ?_)
    · have hs := oi_t hc hs
      refine lv_iload hx hb d_Reader_parts_36 (lv_at hl 4 rfl) ?_
      obtain rfl := Option.some.inj hs
      exact pg_iret C hw d_Reader_parts_38
    · have hs := oi_f hc hs
      refine lv_iload hx hb d_Reader_parts_14 (lv_at hl 4 rfl) ?_
      refine lv_if_lt hx hb d_Reader_parts_16 (tgt := 36) (by decide) (fun hc => ?_) (fun hc => ?_)
      · have hs := oi_t hc hs
        refine lv_iload hx hb d_Reader_parts_36 (lv_at hl 4 rfl) ?_
        obtain rfl := Option.some.inj hs
        exact pg_iret C hw d_Reader_parts_38
      · have hs := oi_f hc hs
        refine lv_aload_n hx hb d_Reader_parts_19 rfl (lv_at hl 0 rfl) ?_
        refine lv_iload hx hb d_Reader_parts_20 (lv_at hl 4 rfl) ?_
        refine lv_iload_n hx hb d_Reader_parts_22 rfl (lv_at hl 2 rfl) ?_
        refine lv_iload hx hb d_Reader_parts_23 (lv_at hl 3 rfl) ?_
        obtain ⟨_, e1, hs⟩ := ob hs
        obtain ⟨q2, e3, hs⟩ := ob hs
        refine pg_callV C hw hl.1 ml_Reader_102 e1 (As := [.int x5, .int x3, .int x4]) (rest := []) (hG.2.2.2.2.1 e3) rfl (rm_ok (by omega) (by omega)) (Nat.le_of_ble_eq_true rfl) rfl (st1 := [.int q2.1]) rfl d_Reader_parts_25 (fun H locs hw => ?_)
        refine lv_istore hx hb d_Reader_parts_28 hl (by decide) (lv' := [(5, .int q2.1), (0, .ref (aD g x0)), (2, .int x2), (3, .int x3), (4, .int x4), (6, .int x6)]) rfl (fun ls hl => ?_)
        refine lv_iinc hx hb d_Reader_parts_30 hl (k := 5) rfl (v := (x6 + 1)) (iinc_e _ (by decide)) (by decide) (lv' := [(6, .int (x6 + 1)), (5, .int q2.1), (0, .ref (aD g x0)), (2, .int x2), (3, .int x3), (4, .int x4)]) rfl (fun ls hl => ?_)
        refine lv_goto hx hb d_Reader_parts_33 (tgt := 8) (by decide) ?_
        exact ih hw (lv_sub hl [2, 3, 4, 5, 1, 0] rfl) hs

def s_Reader_parts (gf : GT_Reader_binder) (x0 : Nat) (x1 : Int32) (x2 : Int32) (x3 : Int32) (x4 : Int32) (h : HP) : Option (Int32 × HP) :=
  s_Reader_parts_8 gf 20000 x0 x2 x3 x4 (x1 + 1) 0 h
set_option maxHeartbeats 4000000 in
set_option maxRecDepth 100000 in
theorem c_Reader_parts (l : Launch) (g : GG) (gf : GT_Reader_binder) (n : Nat) (hG : HG_Reader_binder l g gf n) {x0 : Nat} {x1 : Int32} {x2 : Int32} {x3 : Int32} {x4 : Int32} {h : HP} {z : Int32 × HP} (hs : s_Reader_parts gf x0 x1 x2 x3 x4 h = some z) : Ct l g y_Reader_parts w_Reader_parts (rmS (n + 1 + 1) ((n + 1) * 29 + 22)) [.ref (aD g x0), .int x1, .int x2, .int x3, .int x4] h (some (.int z.1)) z.2 := by
  refine Ct.of (own := R_Reader) (by decide) rfl rfl (Nat.le_of_ble_eq_true rfl) ?_
  intro p e s m args below meth c ls C hl hw
  have hx := C.1
  have hb := C.2.1
  have hl : lv_has ls 7 [(0, .ref (aD g x0)), (1, .int x1), (2, .int x2), (3, .int x3), (4, .int x4)] := hl
  unfold s_Reader_parts at hs
  refine lv_iload_n hx hb d_Reader_parts_0 rfl (lv_at hl 1 rfl) ?_
  refine lv_iconst (v := 1) hx hb d_Reader_parts_1 (by decide) ?_
  refine lv_iadd hx hb d_Reader_parts_2 ?_
  refine lv_istore hx hb d_Reader_parts_3 hl (by decide) (lv' := [(5, .int (x1 + 1)), (0, .ref (aD g x0)), (1, .int x1), (2, .int x2), (3, .int x3), (4, .int x4)]) rfl (fun ls hl => ?_)
  refine lv_iconst (v := 0) hx hb d_Reader_parts_5 (by decide) ?_
  refine lv_istore hx hb d_Reader_parts_6 hl (by decide) (lv' := [(6, .int 0), (5, .int (x1 + 1)), (0, .ref (aD g x0)), (1, .int x1), (2, .int x2), (3, .int x3), (4, .int x4)]) rfl (fun ls hl => ?_)
  exact k_Reader_parts_8 C gf n hG 20000 hw (lv_sub hl [2, 4, 5, 6, 1, 0] rfl) hs

def s_Reader_term_94 (gf : GT_Reader_binder) (x0 : Nat) (x1 : Int32) (x4 : Int32) (h : HP) : Option (Int32 × HP) :=
  (gR h x0 3 0).bind fun v1 =>
  (kd v1 0).bind fun _ =>
  (s_Text_setEnd v1 x1 x4 h).bind fun q4 =>
  some (x4, q4)
set_option maxHeartbeats 4000000 in
set_option maxRecDepth 100000 in
theorem k_Reader_term_94 {x0 : Nat} {x1 : Int32} {x4 : Int32} {h : HP} {z : Int32 × HP} (C : CX g R_Reader b_Reader_term 5 (some .int) p s m args meth c) (gf : GT_Reader_binder) (n : Nat) (hG : HG_Reader_binder l g gf n) {H : Heap} {locs : List Loc} {ls : Array Slot} (hw : WD g h s.heap H locs) (hl : lv_has ls 5 [(0, .ref (aD g x0)), (1, .int x1), (4, .int x4)]) (hs : s_Reader_term_94 gf x0 x1 x4 h = some z) : W p l e (rmS (n + 1 + 1) ((n + 1) * 29 + 22)) s m args below meth c H locs 0 0 (MQ below (Qq g (some (.int z.1)) z.2) args s 0 0 (inA g)) (F0 m 94 ls []) := by
  unfold s_Reader_term_94 at hs
  have hx := C.1
  have hb := C.2.1
  refine lv_aload_n hx hb d_Reader_term_94 rfl (lv_at hl 0 rfl) ?_
  obtain ⟨v1, e2, hs⟩ := ob hs
  refine pg_getR C hw fl_Reader_25 e2 d_Reader_term_95 ?_
  refine lv_iload_n hx hb d_Reader_term_98 rfl (lv_at hl 1 rfl) ?_
  refine lv_iload hx hb d_Reader_term_99 (lv_at hl 2 rfl) ?_
  obtain ⟨_, e3, hs⟩ := ob hs
  obtain ⟨q4, e5, hs⟩ := ob hs
  refine pg_callV C hw hl.1 ml_Reader_85 e3 (As := [.int x1, .int x4]) (rest := []) (c_Text_setEnd l g e5) rfl (rm_ok (by omega) (by omega)) (Nat.le_of_ble_eq_true rfl) rfl (st1 := []) rfl d_Reader_term_101 (fun H locs hw => ?_)
  refine lv_iload hx hb d_Reader_term_104 (lv_at hl 2 rfl) ?_
  obtain rfl := Option.some.inj hs
  exact pg_iret C hw d_Reader_term_106

def s_Reader_term_63 (gf : GT_Reader_binder) (x0 : Nat) (x1 : Int32) (t0 : Int32) (h : HP) : Option (Int32 × HP) :=
  s_Reader_term_94 gf x0 x1 t0 h
set_option maxHeartbeats 4000000 in
set_option maxRecDepth 100000 in
theorem k_Reader_term_63 {x0 : Nat} {x1 : Int32} {t0 : Int32} {h : HP} {z : Int32 × HP} (C : CX g R_Reader b_Reader_term 5 (some .int) p s m args meth c) (gf : GT_Reader_binder) (n : Nat) (hG : HG_Reader_binder l g gf n) {H : Heap} {locs : List Loc} {ls : Array Slot} (hw : WD g h s.heap H locs) (hl : lv_has ls 5 [(0, .ref (aD g x0)), (1, .int x1)]) (hs : s_Reader_term_63 gf x0 x1 t0 h = some z) : W p l e (rmS (n + 1 + 1) ((n + 1) * 29 + 22)) s m args below meth c H locs 0 0 (MQ below (Qq g (some (.int z.1)) z.2) args s 0 0 (inA g)) (F0 m 63 ls [.int t0]) := by
  unfold s_Reader_term_63 at hs
  have hx := C.1
  have hb := C.2.1
  refine lv_istore hx hb d_Reader_term_63 hl (by decide) (lv' := [(4, .int t0), (0, .ref (aD g x0)), (1, .int x1)]) rfl (fun ls hl => ?_)
  refine lv_goto hx hb d_Reader_term_65 (tgt := 94) (by decide) ?_
  exact k_Reader_term_94 C gf n hG hw (lv_sub hl [1, 2, 0] rfl) hs

def s_Reader_term (gf : GT_Reader_binder) (x0 : Nat) (x1 : Int32) (x2 : Int32) (h : HP) : Option (Int32 × HP) :=
  if x2 ≤ 12 then (
    (gR h x0 3 0).bind fun v1 =>
    (kd v1 0).bind fun _ =>
    (s_Text_at v1 x1 h).bind fun q4 =>
    (s_AdjoinedSets_isDigit q4).bind fun q6 =>
    if q6 = 0 then (
      (s_AdjoinedSets_isLetter q4).bind fun q8 =>
      if q8 = 0 then (
        (s_AdjoinedSets_isFunction q4).bind fun q10 =>
        if q10 = 0 then (
          (kd x0 3).bind fun _ =>
          (gf.2.2.2.1 x0 x1 x2 h).bind fun q13 =>
          s_Reader_term_94 gf x0 x1 q13.1 q13.2)
        else (
          (kd x0 3).bind fun _ =>
          (gf.2.2.1 x0 x1 x2 h).bind fun q16 =>
          s_Reader_term_94 gf x0 x1 q16.1 q16.2))
      else (
        (kd x0 3).bind fun _ =>
        (s_Reader_mayStand x0 (q4 - 97) h).bind fun q19 =>
        if q19 = 0 then (
          (s_Reader_wrong x1).bind fun q21 =>
          s_Reader_term_63 gf x0 x1 q21 h)
        else (
          s_Reader_term_63 gf x0 x1 (x1 + 1) h)))
    else (
      s_Reader_term_94 gf x0 x1 (x1 + 1) h))
  else (
    (s_Reader_wrong x1).bind fun q23 =>
    some (q23, h))
set_option maxHeartbeats 4000000 in
set_option maxRecDepth 100000 in
theorem c_Reader_term (l : Launch) (g : GG) (gf : GT_Reader_binder) (n : Nat) (hG : HG_Reader_binder l g gf n) {x0 : Nat} {x1 : Int32} {x2 : Int32} {h : HP} {z : Int32 × HP} (hs : s_Reader_term gf x0 x1 x2 h = some z) : Ct l g y_Reader_term w_Reader_term (rmS (n + 1 + 1) ((n + 1) * 29 + 22)) [.ref (aD g x0), .int x1, .int x2] h (some (.int z.1)) z.2 := by
  refine Ct.of (own := R_Reader) (by decide) rfl rfl (Nat.le_of_ble_eq_true rfl) ?_
  intro p e s m args below meth c ls C hl hw
  have hx := C.1
  have hb := C.2.1
  have hl : lv_has ls 5 [(0, .ref (aD g x0)), (1, .int x1), (2, .int x2)] := hl
  unfold s_Reader_term at hs
  refine lv_iload_n hx hb d_Reader_term_0 rfl (lv_at hl 2 rfl) ?_
  refine lv_bipush (v := 12) hx hb d_Reader_term_1 (by decide) ?_
  refine lv_icmp_le hx hb d_Reader_term_3 (tgt := 11) (by decide) (fun hc => ?_) (fun hc => ?_)
  · have hs := oi_t hc hs
    refine lv_aload_n hx hb d_Reader_term_11 rfl (lv_at hl 0 rfl) ?_
    obtain ⟨v1, e2, hs⟩ := ob hs
    refine pg_getR C hw fl_Reader_25 e2 d_Reader_term_12 ?_
    refine lv_iload_n hx hb d_Reader_term_15 rfl (lv_at hl 1 rfl) ?_
    obtain ⟨_, e3, hs⟩ := ob hs
    obtain ⟨q4, e5, hs⟩ := ob hs
    refine pg_callV C hw hl.1 ml_Reader_63 e3 (As := [.int x1]) (rest := []) (c_Text_at l g e5) rfl (rm_ok (by omega) (by omega)) (Nat.le_of_ble_eq_true rfl) rfl (st1 := [.int q4]) rfl d_Reader_term_16 (fun H locs hw => ?_)
    refine lv_istore_n hx hb d_Reader_term_19 rfl hl (by decide) (lv' := [(3, .int q4), (0, .ref (aD g x0)), (1, .int x1), (2, .int x2)]) rfl (fun ls hl => ?_)
    refine lv_iload_n hx hb d_Reader_term_20 rfl (lv_at hl 0 rfl) ?_
    obtain ⟨q6, e7, hs⟩ := ob hs
    refine pg_callSN C hw hl.1 ml_Reader_66 (As := [.int q4]) (rest := []) (c_AdjoinedSets_isDigit l g e7) rfl (rm_ok (by omega) (by omega)) (Nat.le_of_ble_eq_true rfl) rfl (st1 := [.int q6]) rfl d_Reader_term_21 (fun H locs hw => ?_)
    refine lv_if_eq hx hb d_Reader_term_24 (tgt := 35) (by decide) (fun hc => ?_) (fun hc => ?_)
    · have hs := oi_t hc hs
      refine lv_iload_n hx hb d_Reader_term_35 rfl (lv_at hl 0 rfl) ?_
      obtain ⟨q8, e9, hs⟩ := ob hs
      refine pg_callSN C hw hl.1 ml_Reader_70 (As := [.int q4]) (rest := []) (c_AdjoinedSets_isLetter l g e9) rfl (rm_ok (by omega) (by omega)) (Nat.le_of_ble_eq_true rfl) rfl (st1 := [.int q8]) rfl d_Reader_term_36 (fun H locs hw => ?_)
      refine lv_if_eq hx hb d_Reader_term_39 (tgt := 68) (by decide) (fun hc => ?_) (fun hc => ?_)
      · have hs := oi_t hc hs
        refine lv_iload_n hx hb d_Reader_term_68 rfl (lv_at hl 0 rfl) ?_
        obtain ⟨q10, e11, hs⟩ := ob hs
        refine pg_callSN C hw hl.1 ml_Reader_76 (As := [.int q4]) (rest := []) (c_AdjoinedSets_isFunction l g e11) rfl (rm_ok (by omega) (by omega)) (Nat.le_of_ble_eq_true rfl) rfl (st1 := [.int q10]) rfl d_Reader_term_69 (fun H locs hw => ?_)
        refine lv_if_eq hx hb d_Reader_term_72 (tgt := 86) (by decide) (fun hc => ?_) (fun hc => ?_)
        · have hs := oi_t hc hs
          refine lv_aload_n hx hb d_Reader_term_86 rfl (lv_at hl 1 rfl) ?_
          refine lv_iload_n hx hb d_Reader_term_87 rfl (lv_at hl 2 rfl) ?_
          refine lv_iload_n hx hb d_Reader_term_88 rfl (lv_at hl 3 rfl) ?_
          obtain ⟨_, e12, hs⟩ := ob hs
          obtain ⟨q13, e14, hs⟩ := ob hs
          refine pg_callV C hw hl.1 ml_Reader_82 e12 (As := [.int x1, .int x2]) (rest := []) (hG.2.2.2.1 e14) rfl (rm_ok (by omega) (by omega)) (Nat.le_of_ble_eq_true rfl) rfl (st1 := [.int q13.1]) rfl d_Reader_term_89 (fun H locs hw => ?_)
          refine lv_istore hx hb d_Reader_term_92 hl (by decide) (lv' := [(4, .int q13.1), (3, .int q4), (0, .ref (aD g x0)), (1, .int x1), (2, .int x2)]) rfl (fun ls hl => ?_)
          exact k_Reader_term_94 C gf n hG hw (lv_sub hl [2, 3, 0] rfl) hs
        · have hs := oi_f hc hs
          refine lv_aload_n hx hb d_Reader_term_75 rfl (lv_at hl 1 rfl) ?_
          refine lv_iload_n hx hb d_Reader_term_76 rfl (lv_at hl 2 rfl) ?_
          refine lv_iload_n hx hb d_Reader_term_77 rfl (lv_at hl 3 rfl) ?_
          obtain ⟨_, e15, hs⟩ := ob hs
          obtain ⟨q16, e17, hs⟩ := ob hs
          refine pg_callV C hw hl.1 ml_Reader_79 e15 (As := [.int x1, .int x2]) (rest := []) (hG.2.2.1 e17) rfl (rm_ok (by omega) (by omega)) (Nat.le_of_ble_eq_true rfl) rfl (st1 := [.int q16.1]) rfl d_Reader_term_78 (fun H locs hw => ?_)
          refine lv_istore hx hb d_Reader_term_81 hl (by decide) (lv' := [(4, .int q16.1), (3, .int q4), (0, .ref (aD g x0)), (1, .int x1), (2, .int x2)]) rfl (fun ls hl => ?_)
          refine lv_goto hx hb d_Reader_term_83 (tgt := 94) (by decide) ?_
          exact k_Reader_term_94 C gf n hG hw (lv_sub hl [2, 3, 0] rfl) hs
      · have hs := oi_f hc hs
        refine lv_aload_n hx hb d_Reader_term_42 rfl (lv_at hl 1 rfl) ?_
        refine lv_iload_n hx hb d_Reader_term_43 rfl (lv_at hl 0 rfl) ?_
        refine lv_bipush (v := 97) hx hb d_Reader_term_44 (by decide) ?_
        refine lv_isub hx hb d_Reader_term_46 ?_
        obtain ⟨_, e18, hs⟩ := ob hs
        obtain ⟨q19, e20, hs⟩ := ob hs
        refine pg_callV C hw hl.1 ml_Reader_73 e18 (As := [.int (q4 - 97)]) (rest := []) (c_Reader_mayStand l g e20) rfl (rm_ok (by omega) (by omega)) (Nat.le_of_ble_eq_true rfl) rfl (st1 := [.int q19]) rfl d_Reader_term_47 (fun H locs hw => ?_)
        refine lv_if_eq hx hb d_Reader_term_50 (tgt := 59) (by decide) (fun hc => ?_) (fun hc => ?_)
        · have hs := oi_t hc hs
          refine lv_iload_n hx hb d_Reader_term_59 rfl (lv_at hl 2 rfl) ?_
          obtain ⟨q21, e22, hs⟩ := ob hs
          refine pg_callS C hw hl.1 ml_Reader_60 (As := [.int x1]) (rest := []) (c_Reader_wrong l g e22) rfl (rm_ok (by omega) (by omega)) (Nat.le_of_ble_eq_true rfl) rfl (st1 := [.int q21]) rfl d_Reader_term_60 (fun H locs hw => ?_)
          exact k_Reader_term_63 C gf n hG hw (lv_sub hl [1, 2] rfl) hs
        · have hs := oi_f hc hs
          refine lv_iload_n hx hb d_Reader_term_53 rfl (lv_at hl 2 rfl) ?_
          refine lv_iconst (v := 1) hx hb d_Reader_term_54 (by decide) ?_
          refine lv_iadd hx hb d_Reader_term_55 ?_
          refine lv_goto hx hb d_Reader_term_56 (tgt := 63) (by decide) ?_
          exact k_Reader_term_63 C gf n hG hw (lv_sub hl [1, 2] rfl) hs
    · have hs := oi_f hc hs
      refine lv_iload_n hx hb d_Reader_term_27 rfl (lv_at hl 2 rfl) ?_
      refine lv_iconst (v := 1) hx hb d_Reader_term_28 (by decide) ?_
      refine lv_iadd hx hb d_Reader_term_29 ?_
      refine lv_istore hx hb d_Reader_term_30 hl (by decide) (lv' := [(4, .int (x1 + 1)), (3, .int q4), (0, .ref (aD g x0)), (1, .int x1), (2, .int x2)]) rfl (fun ls hl => ?_)
      refine lv_goto hx hb d_Reader_term_32 (tgt := 94) (by decide) ?_
      exact k_Reader_term_94 C gf n hG hw (lv_sub hl [2, 3, 0] rfl) hs
  · have hs := oi_f hc hs
    refine lv_iload_n hx hb d_Reader_term_6 rfl (lv_at hl 1 rfl) ?_
    obtain ⟨q23, e24, hs⟩ := ob hs
    refine pg_callS C hw hl.1 ml_Reader_60 (As := [.int x1]) (rest := []) (c_Reader_wrong l g e24) rfl (rm_ok (by omega) (by omega)) (Nat.le_of_ble_eq_true rfl) rfl (st1 := [.int q23]) rfl d_Reader_term_7 (fun H locs hw => ?_)
    obtain rfl := Option.some.inj hs
    exact pg_iret C hw d_Reader_term_10

def s_grp_Reader_binder : Nat → GT_Reader_binder
  | 0 => (fun _ _ _ _ _ => none, fun _ _ _ _ => none, fun _ _ _ _ => none, fun _ _ _ _ => none, fun _ _ _ _ _ => none, fun _ _ _ _ _ _ => none, fun _ _ _ _ => none)
  | n + 1 => (s_Reader_binder (s_grp_Reader_binder n), s_Reader_formula (s_grp_Reader_binder n), s_Reader_functionTerm (s_grp_Reader_binder n), s_Reader_operation (s_grp_Reader_binder n), s_Reader_part (s_grp_Reader_binder n), s_Reader_parts (s_grp_Reader_binder n), s_Reader_term (s_grp_Reader_binder n))
theorem cg_Reader_binder (l : Launch) (g : GG) : ∀ n : Nat, HG_Reader_binder l g (s_grp_Reader_binder n) n := by
  intro n
  induction n with
  | zero => exact ⟨fun hs => (no_s hs).elim, fun hs => (no_s hs).elim, fun hs => (no_s hs).elim, fun hs => (no_s hs).elim, fun hs => (no_s hs).elim, fun hs => (no_s hs).elim, fun hs => (no_s hs).elim⟩
  | succ n ih => exact ⟨fun hs => c_Reader_binder l g (s_grp_Reader_binder n) n ih hs, fun hs => c_Reader_formula l g (s_grp_Reader_binder n) n ih hs, fun hs => c_Reader_functionTerm l g (s_grp_Reader_binder n) n ih hs, fun hs => c_Reader_operation l g (s_grp_Reader_binder n) n ih hs, fun hs => c_Reader_part l g (s_grp_Reader_binder n) n ih hs, fun hs => c_Reader_parts l g (s_grp_Reader_binder n) n ih hs, fun hs => c_Reader_term l g (s_grp_Reader_binder n) n ih hs⟩

end
