section
variable {p : Program} {l : Launch} {e : Env} {s : State} {m : MethodId} {args : Array Value} {below : List Frame} {meth : Method} {c : Code} {g : GG}
theorem d_AdjoinedSetsModel_take_0 : decode b_AdjoinedSetsModel_take 0 = .ok (.iload_n 2, 1) := by decide +kernel
theorem d_AdjoinedSetsModel_take_1 : decode b_AdjoinedSetsModel_take 1 = .ok (.invokestatic 115, 3) := by decide +kernel
theorem d_AdjoinedSetsModel_take_4 : decode b_AdjoinedSetsModel_take 4 = .ok (.ifCond .eq 170, 3) := by decide +kernel
theorem d_AdjoinedSetsModel_take_7 : decode b_AdjoinedSetsModel_take 7 = .ok (.aload_n 0, 1) := by decide +kernel
theorem d_AdjoinedSetsModel_take_8 : decode b_AdjoinedSetsModel_take 8 = .ok (.getfield 51, 3) := by decide +kernel
theorem d_AdjoinedSetsModel_take_11 : decode b_AdjoinedSetsModel_take 11 = .ok (.iload_n 1, 1) := by decide +kernel
theorem d_AdjoinedSetsModel_take_12 : decode b_AdjoinedSetsModel_take 12 = .ok (.iaload, 1) := by decide +kernel
theorem d_AdjoinedSetsModel_take_13 : decode b_AdjoinedSetsModel_take 13 = .ok (.ifCond .ne 42, 3) := by decide +kernel
theorem d_AdjoinedSetsModel_take_16 : decode b_AdjoinedSetsModel_take 16 = .ok (.aload_n 0, 1) := by decide +kernel
theorem d_AdjoinedSetsModel_take_17 : decode b_AdjoinedSetsModel_take 17 = .ok (.getfield 57, 3) := by decide +kernel
theorem d_AdjoinedSetsModel_take_20 : decode b_AdjoinedSetsModel_take 20 = .ok (.iload_n 1, 1) := by decide +kernel
theorem d_AdjoinedSetsModel_take_21 : decode b_AdjoinedSetsModel_take 21 = .ok (.aload_n 0, 1) := by decide +kernel
theorem d_AdjoinedSetsModel_take_22 : decode b_AdjoinedSetsModel_take 22 = .ok (.getfield 193, 3) := by decide +kernel
theorem d_AdjoinedSetsModel_take_25 : decode b_AdjoinedSetsModel_take 25 = .ok (.lastore, 1) := by decide +kernel
theorem d_AdjoinedSetsModel_take_26 : decode b_AdjoinedSetsModel_take 26 = .ok (.aload_n 0, 1) := by decide +kernel
theorem d_AdjoinedSetsModel_take_27 : decode b_AdjoinedSetsModel_take 27 = .ok (.getfield 60, 3) := by decide +kernel
theorem d_AdjoinedSetsModel_take_30 : decode b_AdjoinedSetsModel_take 30 = .ok (.iload_n 1, 1) := by decide +kernel
theorem d_AdjoinedSetsModel_take_31 : decode b_AdjoinedSetsModel_take 31 = .ok (.iload_n 2, 1) := by decide +kernel
theorem d_AdjoinedSetsModel_take_32 : decode b_AdjoinedSetsModel_take 32 = .ok (.bipush 76, 2) := by decide +kernel
theorem d_AdjoinedSetsModel_take_34 : decode b_AdjoinedSetsModel_take 34 = .ok (.if_icmp .ne 7, 3) := by decide +kernel
theorem d_AdjoinedSetsModel_take_37 : decode b_AdjoinedSetsModel_take 37 = .ok (.lconst 1, 1) := by decide +kernel
theorem d_AdjoinedSetsModel_take_38 : decode b_AdjoinedSetsModel_take 38 = .ok (.goto 4, 3) := by decide +kernel
theorem d_AdjoinedSetsModel_take_41 : decode b_AdjoinedSetsModel_take 41 = .ok (.lconst 0, 1) := by decide +kernel
theorem d_AdjoinedSetsModel_take_42 : decode b_AdjoinedSetsModel_take 42 = .ok (.lastore, 1) := by decide +kernel
theorem d_AdjoinedSetsModel_take_43 : decode b_AdjoinedSetsModel_take 43 = .ok (.aload_n 0, 1) := by decide +kernel
theorem d_AdjoinedSetsModel_take_44 : decode b_AdjoinedSetsModel_take 44 = .ok (.getfield 63, 3) := by decide +kernel
theorem d_AdjoinedSetsModel_take_47 : decode b_AdjoinedSetsModel_take 47 = .ok (.iload_n 1, 1) := by decide +kernel
theorem d_AdjoinedSetsModel_take_48 : decode b_AdjoinedSetsModel_take 48 = .ok (.ldc2_w 178, 3) := by decide +kernel
theorem d_AdjoinedSetsModel_take_51 : decode b_AdjoinedSetsModel_take 51 = .ok (.lastore, 1) := by decide +kernel
theorem d_AdjoinedSetsModel_take_52 : decode b_AdjoinedSetsModel_take 52 = .ok (.goto 114, 3) := by decide +kernel
theorem d_AdjoinedSetsModel_take_55 : decode b_AdjoinedSetsModel_take 55 = .ok (.iload_n 2, 1) := by decide +kernel
theorem d_AdjoinedSetsModel_take_56 : decode b_AdjoinedSetsModel_take 56 = .ok (.bipush 123, 2) := by decide +kernel
theorem d_AdjoinedSetsModel_take_58 : decode b_AdjoinedSetsModel_take 58 = .ok (.if_icmp .ne 47, 3) := by decide +kernel
theorem d_AdjoinedSetsModel_take_61 : decode b_AdjoinedSetsModel_take 61 = .ok (.aload_n 0, 1) := by decide +kernel
theorem d_AdjoinedSetsModel_take_62 : decode b_AdjoinedSetsModel_take 62 = .ok (.getfield 60, 3) := by decide +kernel
theorem d_AdjoinedSetsModel_take_65 : decode b_AdjoinedSetsModel_take 65 = .ok (.iload_n 1, 1) := by decide +kernel
theorem d_AdjoinedSetsModel_take_66 : decode b_AdjoinedSetsModel_take 66 = .ok (.aload_n 0, 1) := by decide +kernel
theorem d_AdjoinedSetsModel_take_67 : decode b_AdjoinedSetsModel_take 67 = .ok (.getfield 193, 3) := by decide +kernel
theorem d_AdjoinedSetsModel_take_70 : decode b_AdjoinedSetsModel_take 70 = .ok (.lconst 1, 1) := by decide +kernel
theorem d_AdjoinedSetsModel_take_71 : decode b_AdjoinedSetsModel_take 71 = .ok (.lcmp, 1) := by decide +kernel
theorem d_AdjoinedSetsModel_take_72 : decode b_AdjoinedSetsModel_take 72 = .ok (.ifCond .ne 23, 3) := by decide +kernel
theorem d_AdjoinedSetsModel_take_75 : decode b_AdjoinedSetsModel_take 75 = .ok (.aload_n 0, 1) := by decide +kernel
theorem d_AdjoinedSetsModel_take_76 : decode b_AdjoinedSetsModel_take 76 = .ok (.getfield 60, 3) := by decide +kernel
theorem d_AdjoinedSetsModel_take_79 : decode b_AdjoinedSetsModel_take 79 = .ok (.iload_n 1, 1) := by decide +kernel
theorem d_AdjoinedSetsModel_take_80 : decode b_AdjoinedSetsModel_take 80 = .ok (.laload, 1) := by decide +kernel
theorem d_AdjoinedSetsModel_take_81 : decode b_AdjoinedSetsModel_take 81 = .ok (.aload_n 0, 1) := by decide +kernel
theorem d_AdjoinedSetsModel_take_82 : decode b_AdjoinedSetsModel_take 82 = .ok (.aload_n 0, 1) := by decide +kernel
theorem d_AdjoinedSetsModel_take_83 : decode b_AdjoinedSetsModel_take 83 = .ok (.getfield 63, 3) := by decide +kernel
theorem d_AdjoinedSetsModel_take_86 : decode b_AdjoinedSetsModel_take 86 = .ok (.iload_n 1, 1) := by decide +kernel
theorem d_AdjoinedSetsModel_take_87 : decode b_AdjoinedSetsModel_take 87 = .ok (.laload, 1) := by decide +kernel
theorem d_AdjoinedSetsModel_take_88 : decode b_AdjoinedSetsModel_take 88 = .ok (.invokevirtual 180, 3) := by decide +kernel
theorem d_AdjoinedSetsModel_take_91 : decode b_AdjoinedSetsModel_take 91 = .ok (.lor, 1) := by decide +kernel
theorem d_AdjoinedSetsModel_take_92 : decode b_AdjoinedSetsModel_take 92 = .ok (.goto 9, 3) := by decide +kernel
theorem d_AdjoinedSetsModel_take_95 : decode b_AdjoinedSetsModel_take 95 = .ok (.aload_n 0, 1) := by decide +kernel
theorem d_AdjoinedSetsModel_take_96 : decode b_AdjoinedSetsModel_take 96 = .ok (.getfield 60, 3) := by decide +kernel
theorem d_AdjoinedSetsModel_take_99 : decode b_AdjoinedSetsModel_take 99 = .ok (.iload_n 1, 1) := by decide +kernel
theorem d_AdjoinedSetsModel_take_100 : decode b_AdjoinedSetsModel_take 100 = .ok (.laload, 1) := by decide +kernel
theorem d_AdjoinedSetsModel_take_101 : decode b_AdjoinedSetsModel_take 101 = .ok (.lastore, 1) := by decide +kernel
theorem d_AdjoinedSetsModel_take_102 : decode b_AdjoinedSetsModel_take 102 = .ok (.goto 64, 3) := by decide +kernel
theorem d_AdjoinedSetsModel_take_105 : decode b_AdjoinedSetsModel_take 105 = .ok (.aload_n 0, 1) := by decide +kernel
theorem d_AdjoinedSetsModel_take_106 : decode b_AdjoinedSetsModel_take 106 = .ok (.getfield 60, 3) := by decide +kernel
theorem d_AdjoinedSetsModel_take_109 : decode b_AdjoinedSetsModel_take 109 = .ok (.iload_n 1, 1) := by decide +kernel
theorem d_AdjoinedSetsModel_take_110 : decode b_AdjoinedSetsModel_take 110 = .ok (.iload_n 2, 1) := by decide +kernel
theorem d_AdjoinedSetsModel_take_111 : decode b_AdjoinedSetsModel_take 111 = .ok (.bipush 73, 2) := by decide +kernel
theorem d_AdjoinedSetsModel_take_113 : decode b_AdjoinedSetsModel_take 113 = .ok (.if_icmp .ne 21, 3) := by decide +kernel
theorem d_AdjoinedSetsModel_take_116 : decode b_AdjoinedSetsModel_take 116 = .ok (.aload_n 0, 1) := by decide +kernel
theorem d_AdjoinedSetsModel_take_117 : decode b_AdjoinedSetsModel_take 117 = .ok (.getfield 60, 3) := by decide +kernel
theorem d_AdjoinedSetsModel_take_120 : decode b_AdjoinedSetsModel_take 120 = .ok (.iload_n 1, 1) := by decide +kernel
theorem d_AdjoinedSetsModel_take_121 : decode b_AdjoinedSetsModel_take 121 = .ok (.laload, 1) := by decide +kernel
theorem d_AdjoinedSetsModel_take_122 : decode b_AdjoinedSetsModel_take 122 = .ok (.aload_n 0, 1) := by decide +kernel
theorem d_AdjoinedSetsModel_take_123 : decode b_AdjoinedSetsModel_take 123 = .ok (.aload_n 0, 1) := by decide +kernel
theorem d_AdjoinedSetsModel_take_124 : decode b_AdjoinedSetsModel_take 124 = .ok (.getfield 193, 3) := by decide +kernel
theorem d_AdjoinedSetsModel_take_127 : decode b_AdjoinedSetsModel_take 127 = .ok (.invokevirtual 180, 3) := by decide +kernel
theorem d_AdjoinedSetsModel_take_130 : decode b_AdjoinedSetsModel_take 130 = .ok (.lor, 1) := by decide +kernel
theorem d_AdjoinedSetsModel_take_131 : decode b_AdjoinedSetsModel_take 131 = .ok (.goto 34, 3) := by decide +kernel
theorem d_AdjoinedSetsModel_take_134 : decode b_AdjoinedSetsModel_take 134 = .ok (.iload_n 2, 1) := by decide +kernel
theorem d_AdjoinedSetsModel_take_135 : decode b_AdjoinedSetsModel_take 135 = .ok (.bipush 69, 2) := by decide +kernel
theorem d_AdjoinedSetsModel_take_137 : decode b_AdjoinedSetsModel_take 137 = .ok (.if_icmp .ne 17, 3) := by decide +kernel
theorem d_AdjoinedSetsModel_take_140 : decode b_AdjoinedSetsModel_take 140 = .ok (.aload_n 0, 1) := by decide +kernel
theorem d_AdjoinedSetsModel_take_141 : decode b_AdjoinedSetsModel_take 141 = .ok (.getfield 60, 3) := by decide +kernel
theorem d_AdjoinedSetsModel_take_144 : decode b_AdjoinedSetsModel_take 144 = .ok (.iload_n 1, 1) := by decide +kernel
theorem d_AdjoinedSetsModel_take_145 : decode b_AdjoinedSetsModel_take 145 = .ok (.laload, 1) := by decide +kernel
theorem d_AdjoinedSetsModel_take_146 : decode b_AdjoinedSetsModel_take 146 = .ok (.aload_n 0, 1) := by decide +kernel
theorem d_AdjoinedSetsModel_take_147 : decode b_AdjoinedSetsModel_take 147 = .ok (.getfield 193, 3) := by decide +kernel
theorem d_AdjoinedSetsModel_take_150 : decode b_AdjoinedSetsModel_take 150 = .ok (.lor, 1) := by decide +kernel
theorem d_AdjoinedSetsModel_take_151 : decode b_AdjoinedSetsModel_take 151 = .ok (.goto 14, 3) := by decide +kernel
theorem d_AdjoinedSetsModel_take_154 : decode b_AdjoinedSetsModel_take 154 = .ok (.aload_n 0, 1) := by decide +kernel
theorem d_AdjoinedSetsModel_take_155 : decode b_AdjoinedSetsModel_take 155 = .ok (.getfield 60, 3) := by decide +kernel
theorem d_AdjoinedSetsModel_take_158 : decode b_AdjoinedSetsModel_take 158 = .ok (.iload_n 1, 1) := by decide +kernel
theorem d_AdjoinedSetsModel_take_159 : decode b_AdjoinedSetsModel_take 159 = .ok (.laload, 1) := by decide +kernel
theorem d_AdjoinedSetsModel_take_160 : decode b_AdjoinedSetsModel_take 160 = .ok (.aload_n 0, 1) := by decide +kernel
theorem d_AdjoinedSetsModel_take_161 : decode b_AdjoinedSetsModel_take 161 = .ok (.getfield 193, 3) := by decide +kernel
theorem d_AdjoinedSetsModel_take_164 : decode b_AdjoinedSetsModel_take 164 = .ok (.land, 1) := by decide +kernel
theorem d_AdjoinedSetsModel_take_165 : decode b_AdjoinedSetsModel_take 165 = .ok (.lastore, 1) := by decide +kernel
theorem d_AdjoinedSetsModel_take_166 : decode b_AdjoinedSetsModel_take 166 = .ok (.aload_n 0, 1) := by decide +kernel
theorem d_AdjoinedSetsModel_take_167 : decode b_AdjoinedSetsModel_take 167 = .ok (.getfield 51, 3) := by decide +kernel
theorem d_AdjoinedSetsModel_take_170 : decode b_AdjoinedSetsModel_take 170 = .ok (.iload_n 1, 1) := by decide +kernel
theorem d_AdjoinedSetsModel_take_171 : decode b_AdjoinedSetsModel_take 171 = .ok (.iconst 1, 1) := by decide +kernel
theorem d_AdjoinedSetsModel_take_172 : decode b_AdjoinedSetsModel_take 172 = .ok (.iastore, 1) := by decide +kernel
theorem d_AdjoinedSetsModel_take_173 : decode b_AdjoinedSetsModel_take 173 = .ok (.return_, 1) := by decide +kernel
theorem d_AdjoinedSetsModel_take_174 : decode b_AdjoinedSetsModel_take 174 = .ok (.aload_n 0, 1) := by decide +kernel
theorem d_AdjoinedSetsModel_take_175 : decode b_AdjoinedSetsModel_take 175 = .ok (.getfield 51, 3) := by decide +kernel
theorem d_AdjoinedSetsModel_take_178 : decode b_AdjoinedSetsModel_take 178 = .ok (.iload_n 1, 1) := by decide +kernel
theorem d_AdjoinedSetsModel_take_179 : decode b_AdjoinedSetsModel_take 179 = .ok (.iaload, 1) := by decide +kernel
theorem d_AdjoinedSetsModel_take_180 : decode b_AdjoinedSetsModel_take 180 = .ok (.ifCond .ne 13, 3) := by decide +kernel
theorem d_AdjoinedSetsModel_take_183 : decode b_AdjoinedSetsModel_take 183 = .ok (.aload_n 0, 1) := by decide +kernel
theorem d_AdjoinedSetsModel_take_184 : decode b_AdjoinedSetsModel_take 184 = .ok (.getfield 57, 3) := by decide +kernel
theorem d_AdjoinedSetsModel_take_187 : decode b_AdjoinedSetsModel_take 187 = .ok (.iload_n 1, 1) := by decide +kernel
theorem d_AdjoinedSetsModel_take_188 : decode b_AdjoinedSetsModel_take 188 = .ok (.aload_n 0, 1) := by decide +kernel
theorem d_AdjoinedSetsModel_take_189 : decode b_AdjoinedSetsModel_take 189 = .ok (.getfield 193, 3) := by decide +kernel
theorem d_AdjoinedSetsModel_take_192 : decode b_AdjoinedSetsModel_take 192 = .ok (.lastore, 1) := by decide +kernel
theorem d_AdjoinedSetsModel_take_193 : decode b_AdjoinedSetsModel_take 193 = .ok (.aload_n 0, 1) := by decide +kernel
theorem d_AdjoinedSetsModel_take_194 : decode b_AdjoinedSetsModel_take 194 = .ok (.getfield 51, 3) := by decide +kernel
theorem d_AdjoinedSetsModel_take_197 : decode b_AdjoinedSetsModel_take 197 = .ok (.iload_n 1, 1) := by decide +kernel
theorem d_AdjoinedSetsModel_take_198 : decode b_AdjoinedSetsModel_take 198 = .ok (.iaload, 1) := by decide +kernel
theorem d_AdjoinedSetsModel_take_199 : decode b_AdjoinedSetsModel_take 199 = .ok (.iconst 1, 1) := by decide +kernel
theorem d_AdjoinedSetsModel_take_200 : decode b_AdjoinedSetsModel_take 200 = .ok (.if_icmp .ne 13, 3) := by decide +kernel
theorem d_AdjoinedSetsModel_take_203 : decode b_AdjoinedSetsModel_take 203 = .ok (.aload_n 0, 1) := by decide +kernel
theorem d_AdjoinedSetsModel_take_204 : decode b_AdjoinedSetsModel_take 204 = .ok (.getfield 60, 3) := by decide +kernel
theorem d_AdjoinedSetsModel_take_207 : decode b_AdjoinedSetsModel_take 207 = .ok (.iload_n 1, 1) := by decide +kernel
theorem d_AdjoinedSetsModel_take_208 : decode b_AdjoinedSetsModel_take 208 = .ok (.aload_n 0, 1) := by decide +kernel
theorem d_AdjoinedSetsModel_take_209 : decode b_AdjoinedSetsModel_take 209 = .ok (.getfield 193, 3) := by decide +kernel
theorem d_AdjoinedSetsModel_take_212 : decode b_AdjoinedSetsModel_take 212 = .ok (.lastore, 1) := by decide +kernel
theorem d_AdjoinedSetsModel_take_213 : decode b_AdjoinedSetsModel_take 213 = .ok (.aload_n 0, 1) := by decide +kernel
theorem d_AdjoinedSetsModel_take_214 : decode b_AdjoinedSetsModel_take 214 = .ok (.getfield 51, 3) := by decide +kernel
theorem d_AdjoinedSetsModel_take_217 : decode b_AdjoinedSetsModel_take 217 = .ok (.iload_n 1, 1) := by decide +kernel
theorem d_AdjoinedSetsModel_take_218 : decode b_AdjoinedSetsModel_take 218 = .ok (.iaload, 1) := by decide +kernel
theorem d_AdjoinedSetsModel_take_219 : decode b_AdjoinedSetsModel_take 219 = .ok (.iconst 2, 1) := by decide +kernel
theorem d_AdjoinedSetsModel_take_220 : decode b_AdjoinedSetsModel_take 220 = .ok (.if_icmp .ne 13, 3) := by decide +kernel
theorem d_AdjoinedSetsModel_take_223 : decode b_AdjoinedSetsModel_take 223 = .ok (.aload_n 0, 1) := by decide +kernel
theorem d_AdjoinedSetsModel_take_224 : decode b_AdjoinedSetsModel_take 224 = .ok (.getfield 63, 3) := by decide +kernel
theorem d_AdjoinedSetsModel_take_227 : decode b_AdjoinedSetsModel_take 227 = .ok (.iload_n 1, 1) := by decide +kernel
theorem d_AdjoinedSetsModel_take_228 : decode b_AdjoinedSetsModel_take 228 = .ok (.aload_n 0, 1) := by decide +kernel
theorem d_AdjoinedSetsModel_take_229 : decode b_AdjoinedSetsModel_take 229 = .ok (.getfield 193, 3) := by decide +kernel
theorem d_AdjoinedSetsModel_take_232 : decode b_AdjoinedSetsModel_take 232 = .ok (.lastore, 1) := by decide +kernel
theorem d_AdjoinedSetsModel_take_233 : decode b_AdjoinedSetsModel_take 233 = .ok (.aload_n 0, 1) := by decide +kernel
theorem d_AdjoinedSetsModel_take_234 : decode b_AdjoinedSetsModel_take 234 = .ok (.getfield 51, 3) := by decide +kernel
theorem d_AdjoinedSetsModel_take_237 : decode b_AdjoinedSetsModel_take 237 = .ok (.iload_n 1, 1) := by decide +kernel
theorem d_AdjoinedSetsModel_take_238 : decode b_AdjoinedSetsModel_take 238 = .ok (.dup2, 1) := by decide +kernel
theorem d_AdjoinedSetsModel_take_239 : decode b_AdjoinedSetsModel_take 239 = .ok (.iaload, 1) := by decide +kernel
theorem d_AdjoinedSetsModel_take_240 : decode b_AdjoinedSetsModel_take 240 = .ok (.iconst 1, 1) := by decide +kernel
theorem d_AdjoinedSetsModel_take_241 : decode b_AdjoinedSetsModel_take 241 = .ok (.iadd, 1) := by decide +kernel
theorem d_AdjoinedSetsModel_take_242 : decode b_AdjoinedSetsModel_take 242 = .ok (.iastore, 1) := by decide +kernel
theorem d_AdjoinedSetsModel_take_243 : decode b_AdjoinedSetsModel_take 243 = .ok (.aload_n 0, 1) := by decide +kernel
theorem d_AdjoinedSetsModel_take_244 : decode b_AdjoinedSetsModel_take 244 = .ok (.getfield 54, 3) := by decide +kernel
theorem d_AdjoinedSetsModel_take_247 : decode b_AdjoinedSetsModel_take 247 = .ok (.iload_n 1, 1) := by decide +kernel
theorem d_AdjoinedSetsModel_take_248 : decode b_AdjoinedSetsModel_take 248 = .ok (.aload_n 0, 1) := by decide +kernel
theorem d_AdjoinedSetsModel_take_249 : decode b_AdjoinedSetsModel_take 249 = .ok (.aload_n 0, 1) := by decide +kernel
theorem d_AdjoinedSetsModel_take_250 : decode b_AdjoinedSetsModel_take 250 = .ok (.getfield 54, 3) := by decide +kernel
theorem d_AdjoinedSetsModel_take_253 : decode b_AdjoinedSetsModel_take 253 = .ok (.iload_n 1, 1) := by decide +kernel
theorem d_AdjoinedSetsModel_take_254 : decode b_AdjoinedSetsModel_take 254 = .ok (.iaload, 1) := by decide +kernel
theorem d_AdjoinedSetsModel_take_255 : decode b_AdjoinedSetsModel_take 255 = .ok (.invokevirtual 197, 3) := by decide +kernel
theorem d_AdjoinedSetsModel_take_258 : decode b_AdjoinedSetsModel_take 258 = .ok (.iastore, 1) := by decide +kernel
theorem d_AdjoinedSetsModel_take_259 : decode b_AdjoinedSetsModel_take 259 = .ok (.return_, 1) := by decide +kernel
def s_AdjoinedSetsModel_take_42 (x0 : Nat) (x1 : Int32) (t0 : Nat) (t1 : Int32) (t2 : Int64) (h : HP) : Option (HP) :=
  (uL h t0 2 t1 t2).bind fun h1 =>
  (gR h1 x0 9 24).bind fun v3 =>
  (uL h1 v3 2 x1 (-1)).bind fun h5 =>
  (gR h5 x0 9 20).bind fun v7 =>
  (uI h5 v7 0 x1 1).bind fun h9 =>
  some h9
set_option maxHeartbeats 4000000 in
set_option maxRecDepth 100000 in
theorem k_AdjoinedSetsModel_take_42 {x0 : Nat} {x1 : Int32} {t0 : Nat} {t1 : Int32} {t2 : Int64} {h : HP} {z : HP} (C : CX g R_AdjoinedSetsModel b_AdjoinedSetsModel_take 3 none p s m args meth c) {H : Heap} {locs : List Loc} {ls : Array Slot} (hw : WD g h s.heap H locs) (hl : lv_has ls 3 [(0, .ref (aD g x0)), (1, .int x1)]) (hs : s_AdjoinedSetsModel_take_42 x0 x1 t0 t1 t2 h = some z) : W p l e (rmS 3 64) s m args below meth c H locs 0 0 (MQ below (Qq g none z) args s 0 0 (inA g)) (F0 m 42 ls [.long t2, .int t1, .ref (aD g t0)]) := by
  unfold s_AdjoinedSetsModel_take_42 at hs
  have hx := C.1
  have hb := C.2.1
  obtain ⟨h1, e2, hs⟩ := ob hs
  refine pg_lastore C hw (t0 := 2) rfl e2 d_AdjoinedSetsModel_take_42 (fun H locs hw => ?_)
  refine lv_aload_n hx hb d_AdjoinedSetsModel_take_43 rfl (lv_at hl 0 rfl) ?_
  obtain ⟨v3, e4, hs⟩ := ob hs
  refine pg_getR C hw fl_AdjoinedSetsModel_63 e4 d_AdjoinedSetsModel_take_44 ?_
  refine lv_iload_n hx hb d_AdjoinedSetsModel_take_47 rfl (lv_at hl 1 rfl) ?_
  refine lv_ldc2 (v := (-1)) hx hb C.own (C.w kc_AdjoinedSetsModel_178) d_AdjoinedSetsModel_take_48 ?_
  obtain ⟨h5, e6, hs⟩ := ob hs
  refine pg_lastore C hw (t0 := 2) rfl e6 d_AdjoinedSetsModel_take_51 (fun H locs hw => ?_)
  refine lv_goto hx hb d_AdjoinedSetsModel_take_52 (tgt := 166) (by decide) ?_
  refine lv_aload_n hx hb d_AdjoinedSetsModel_take_166 rfl (lv_at hl 0 rfl) ?_
  obtain ⟨v7, e8, hs⟩ := ob hs
  refine pg_getR C hw fl_AdjoinedSetsModel_51 e8 d_AdjoinedSetsModel_take_167 ?_
  refine lv_iload_n hx hb d_AdjoinedSetsModel_take_170 rfl (lv_at hl 1 rfl) ?_
  refine lv_iconst (v := 1) hx hb d_AdjoinedSetsModel_take_171 (by decide) ?_
  obtain ⟨h9, e10, hs⟩ := ob hs
  refine pg_iastore C hw (t0 := 0) rfl e10 d_AdjoinedSetsModel_take_172 (fun H locs hw => ?_)
  obtain rfl := Option.some.inj hs
  exact pg_vret C hw d_AdjoinedSetsModel_take_173

def s_AdjoinedSetsModel_take_101 (x0 : Nat) (x1 : Int32) (t0 : Nat) (t1 : Int32) (t2 : Int64) (h : HP) : Option (HP) :=
  (uL h t0 2 t1 t2).bind fun h1 =>
  (gR h1 x0 9 20).bind fun v3 =>
  (uI h1 v3 0 x1 1).bind fun h5 =>
  some h5
set_option maxHeartbeats 4000000 in
set_option maxRecDepth 100000 in
theorem k_AdjoinedSetsModel_take_101 {x0 : Nat} {x1 : Int32} {t0 : Nat} {t1 : Int32} {t2 : Int64} {h : HP} {z : HP} (C : CX g R_AdjoinedSetsModel b_AdjoinedSetsModel_take 3 none p s m args meth c) {H : Heap} {locs : List Loc} {ls : Array Slot} (hw : WD g h s.heap H locs) (hl : lv_has ls 3 [(0, .ref (aD g x0)), (1, .int x1)]) (hs : s_AdjoinedSetsModel_take_101 x0 x1 t0 t1 t2 h = some z) : W p l e (rmS 3 64) s m args below meth c H locs 0 0 (MQ below (Qq g none z) args s 0 0 (inA g)) (F0 m 101 ls [.long t2, .int t1, .ref (aD g t0)]) := by
  unfold s_AdjoinedSetsModel_take_101 at hs
  have hx := C.1
  have hb := C.2.1
  obtain ⟨h1, e2, hs⟩ := ob hs
  refine pg_lastore C hw (t0 := 2) rfl e2 d_AdjoinedSetsModel_take_101 (fun H locs hw => ?_)
  refine lv_goto hx hb d_AdjoinedSetsModel_take_102 (tgt := 166) (by decide) ?_
  refine lv_aload_n hx hb d_AdjoinedSetsModel_take_166 rfl (lv_at hl 0 rfl) ?_
  obtain ⟨v3, e4, hs⟩ := ob hs
  refine pg_getR C hw fl_AdjoinedSetsModel_51 e4 d_AdjoinedSetsModel_take_167 ?_
  refine lv_iload_n hx hb d_AdjoinedSetsModel_take_170 rfl (lv_at hl 1 rfl) ?_
  refine lv_iconst (v := 1) hx hb d_AdjoinedSetsModel_take_171 (by decide) ?_
  obtain ⟨h5, e6, hs⟩ := ob hs
  refine pg_iastore C hw (t0 := 0) rfl e6 d_AdjoinedSetsModel_take_172 (fun H locs hw => ?_)
  obtain rfl := Option.some.inj hs
  exact pg_vret C hw d_AdjoinedSetsModel_take_173

def s_AdjoinedSetsModel_take_165 (x0 : Nat) (x1 : Int32) (t0 : Nat) (t1 : Int32) (t2 : Int64) (h : HP) : Option (HP) :=
  (uL h t0 2 t1 t2).bind fun h1 =>
  (gR h1 x0 9 20).bind fun v3 =>
  (uI h1 v3 0 x1 1).bind fun h5 =>
  some h5
set_option maxHeartbeats 4000000 in
set_option maxRecDepth 100000 in
theorem k_AdjoinedSetsModel_take_165 {x0 : Nat} {x1 : Int32} {t0 : Nat} {t1 : Int32} {t2 : Int64} {h : HP} {z : HP} (C : CX g R_AdjoinedSetsModel b_AdjoinedSetsModel_take 3 none p s m args meth c) {H : Heap} {locs : List Loc} {ls : Array Slot} (hw : WD g h s.heap H locs) (hl : lv_has ls 3 [(0, .ref (aD g x0)), (1, .int x1)]) (hs : s_AdjoinedSetsModel_take_165 x0 x1 t0 t1 t2 h = some z) : W p l e (rmS 3 64) s m args below meth c H locs 0 0 (MQ below (Qq g none z) args s 0 0 (inA g)) (F0 m 165 ls [.long t2, .int t1, .ref (aD g t0)]) := by
  unfold s_AdjoinedSetsModel_take_165 at hs
  have hx := C.1
  have hb := C.2.1
  obtain ⟨h1, e2, hs⟩ := ob hs
  refine pg_lastore C hw (t0 := 2) rfl e2 d_AdjoinedSetsModel_take_165 (fun H locs hw => ?_)
  refine lv_aload_n hx hb d_AdjoinedSetsModel_take_166 rfl (lv_at hl 0 rfl) ?_
  obtain ⟨v3, e4, hs⟩ := ob hs
  refine pg_getR C hw fl_AdjoinedSetsModel_51 e4 d_AdjoinedSetsModel_take_167 ?_
  refine lv_iload_n hx hb d_AdjoinedSetsModel_take_170 rfl (lv_at hl 1 rfl) ?_
  refine lv_iconst (v := 1) hx hb d_AdjoinedSetsModel_take_171 (by decide) ?_
  obtain ⟨h5, e6, hs⟩ := ob hs
  refine pg_iastore C hw (t0 := 0) rfl e6 d_AdjoinedSetsModel_take_172 (fun H locs hw => ?_)
  obtain rfl := Option.some.inj hs
  exact pg_vret C hw d_AdjoinedSetsModel_take_173

def s_AdjoinedSetsModel_take_233 (x0 : Nat) (x1 : Int32) (h : HP) : Option (HP) :=
  (gR h x0 9 20).bind fun v1 =>
  (aI h v1 0 x1).bind fun v3 =>
  (uI h v1 0 x1 (v3 + 1)).bind fun h5 =>
  (gR h5 x0 9 21).bind fun v7 =>
  (gR h5 x0 9 21).bind fun v9 =>
  (aI h5 v9 0 x1).bind fun v11 =>
  (kd x0 9).bind fun _ =>
  (s_AdjoinedSetsModel_endOf x0 v11 h5).bind fun q14 =>
  (uI h5 v7 0 x1 q14).bind fun h16 =>
  some h16
set_option maxHeartbeats 4000000 in
set_option maxRecDepth 100000 in
theorem k_AdjoinedSetsModel_take_233 {x0 : Nat} {x1 : Int32} {h : HP} {z : HP} (C : CX g R_AdjoinedSetsModel b_AdjoinedSetsModel_take 3 none p s m args meth c) {H : Heap} {locs : List Loc} {ls : Array Slot} (hw : WD g h s.heap H locs) (hl : lv_has ls 3 [(0, .ref (aD g x0)), (1, .int x1)]) (hs : s_AdjoinedSetsModel_take_233 x0 x1 h = some z) : W p l e (rmS 3 64) s m args below meth c H locs 0 0 (MQ below (Qq g none z) args s 0 0 (inA g)) (F0 m 233 ls []) := by
  unfold s_AdjoinedSetsModel_take_233 at hs
  have hx := C.1
  have hb := C.2.1
  refine lv_aload_n hx hb d_AdjoinedSetsModel_take_233 rfl (lv_at hl 0 rfl) ?_
  obtain ⟨v1, e2, hs⟩ := ob hs
  refine pg_getR C hw fl_AdjoinedSetsModel_51 e2 d_AdjoinedSetsModel_take_234 ?_
  refine lv_iload_n hx hb d_AdjoinedSetsModel_take_237 rfl (lv_at hl 1 rfl) ?_
  refine lv_dup2_11 hx hb d_AdjoinedSetsModel_take_238 rfl rfl ?_
  obtain ⟨v3, e4, hs⟩ := ob hs
  refine pg_iaload C hw (t0 := 0) rfl e4 d_AdjoinedSetsModel_take_239 ?_
  refine lv_iconst (v := 1) hx hb d_AdjoinedSetsModel_take_240 (by decide) ?_
  refine lv_iadd hx hb d_AdjoinedSetsModel_take_241 ?_
  obtain ⟨h5, e6, hs⟩ := ob hs
  refine pg_iastore C hw (t0 := 0) rfl e6 d_AdjoinedSetsModel_take_242 (fun H locs hw => ?_)
  refine lv_aload_n hx hb d_AdjoinedSetsModel_take_243 rfl (lv_at hl 0 rfl) ?_
  obtain ⟨v7, e8, hs⟩ := ob hs
  refine pg_getR C hw fl_AdjoinedSetsModel_54 e8 d_AdjoinedSetsModel_take_244 ?_
  refine lv_iload_n hx hb d_AdjoinedSetsModel_take_247 rfl (lv_at hl 1 rfl) ?_
  refine lv_aload_n hx hb d_AdjoinedSetsModel_take_248 rfl (lv_at hl 0 rfl) ?_
  refine lv_aload_n hx hb d_AdjoinedSetsModel_take_249 rfl (lv_at hl 0 rfl) ?_
  obtain ⟨v9, e10, hs⟩ := ob hs
  refine pg_getR C hw fl_AdjoinedSetsModel_54 e10 d_AdjoinedSetsModel_take_250 ?_
  refine lv_iload_n hx hb d_AdjoinedSetsModel_take_253 rfl (lv_at hl 1 rfl) ?_
  obtain ⟨v11, e12, hs⟩ := ob hs
  refine pg_iaload C hw (t0 := 0) rfl e12 d_AdjoinedSetsModel_take_254 ?_
  obtain ⟨_, e13, hs⟩ := ob hs
  obtain ⟨q14, e15, hs⟩ := ob hs
  refine pg_callV C hw hl.1 ml_AdjoinedSetsModel_197 e13 (As := [.int v11]) (rest := [.int x1, .ref (aD g v7)]) (c_AdjoinedSetsModel_endOf l g e15) rfl (rm_ok (Nat.le_of_ble_eq_true rfl) (Nat.le_of_ble_eq_true rfl)) (Nat.le_of_ble_eq_true rfl) rfl (st1 := [.int q14, .int x1, .ref (aD g v7)]) rfl d_AdjoinedSetsModel_take_255 (fun H locs hw => ?_)
  obtain ⟨h16, e17, hs⟩ := ob hs
  refine pg_iastore C hw (t0 := 0) rfl e17 d_AdjoinedSetsModel_take_258 (fun H locs hw => ?_)
  obtain rfl := Option.some.inj hs
  exact pg_vret C hw d_AdjoinedSetsModel_take_259

def s_AdjoinedSetsModel_take_213 (x0 : Nat) (x1 : Int32) (h : HP) : Option (HP) :=
  (gR h x0 9 20).bind fun v1 =>
  (aI h v1 0 x1).bind fun v3 =>
  if v3 = 2 then (
    (gR h x0 9 24).bind fun v5 =>
    (gL h x0 9 25).bind fun v7 =>
    (uL h v5 2 x1 v7).bind fun h9 =>
    s_AdjoinedSetsModel_take_233 x0 x1 h9)
  else (
    s_AdjoinedSetsModel_take_233 x0 x1 h)
set_option maxHeartbeats 4000000 in
set_option maxRecDepth 100000 in
theorem k_AdjoinedSetsModel_take_213 {x0 : Nat} {x1 : Int32} {h : HP} {z : HP} (C : CX g R_AdjoinedSetsModel b_AdjoinedSetsModel_take 3 none p s m args meth c) {H : Heap} {locs : List Loc} {ls : Array Slot} (hw : WD g h s.heap H locs) (hl : lv_has ls 3 [(0, .ref (aD g x0)), (1, .int x1)]) (hs : s_AdjoinedSetsModel_take_213 x0 x1 h = some z) : W p l e (rmS 3 64) s m args below meth c H locs 0 0 (MQ below (Qq g none z) args s 0 0 (inA g)) (F0 m 213 ls []) := by
  unfold s_AdjoinedSetsModel_take_213 at hs
  have hx := C.1
  have hb := C.2.1
  refine lv_aload_n hx hb d_AdjoinedSetsModel_take_213 rfl (lv_at hl 0 rfl) ?_
  obtain ⟨v1, e2, hs⟩ := ob hs
  refine pg_getR C hw fl_AdjoinedSetsModel_51 e2 d_AdjoinedSetsModel_take_214 ?_
  refine lv_iload_n hx hb d_AdjoinedSetsModel_take_217 rfl (lv_at hl 1 rfl) ?_
  obtain ⟨v3, e4, hs⟩ := ob hs
  refine pg_iaload C hw (t0 := 0) rfl e4 d_AdjoinedSetsModel_take_218 ?_
  refine lv_iconst (v := 2) hx hb d_AdjoinedSetsModel_take_219 (by decide) ?_
  refine lv_icmp_ne hx hb d_AdjoinedSetsModel_take_220 (tgt := 233) (by decide) (fun hc => ?_) (fun hc => ?_)
  · have hs := oi_f hc hs
    exact k_AdjoinedSetsModel_take_233 C hw (lv_sub hl [0, 1] rfl) hs
  · have hs := oi_t hc hs
    refine lv_aload_n hx hb d_AdjoinedSetsModel_take_223 rfl (lv_at hl 0 rfl) ?_
    obtain ⟨v5, e6, hs⟩ := ob hs
    refine pg_getR C hw fl_AdjoinedSetsModel_63 e6 d_AdjoinedSetsModel_take_224 ?_
    refine lv_iload_n hx hb d_AdjoinedSetsModel_take_227 rfl (lv_at hl 1 rfl) ?_
    refine lv_aload_n hx hb d_AdjoinedSetsModel_take_228 rfl (lv_at hl 0 rfl) ?_
    obtain ⟨v7, e8, hs⟩ := ob hs
    refine pg_getL C hw fl_AdjoinedSetsModel_193 e8 d_AdjoinedSetsModel_take_229 ?_
    obtain ⟨h9, e10, hs⟩ := ob hs
    refine pg_lastore C hw (t0 := 2) rfl e10 d_AdjoinedSetsModel_take_232 (fun H locs hw => ?_)
    exact k_AdjoinedSetsModel_take_233 C hw (lv_sub hl [0, 1] rfl) hs

def s_AdjoinedSetsModel_take_193 (x0 : Nat) (x1 : Int32) (h : HP) : Option (HP) :=
  (gR h x0 9 20).bind fun v1 =>
  (aI h v1 0 x1).bind fun v3 =>
  if v3 = 1 then (
    (gR h x0 9 23).bind fun v5 =>
    (gL h x0 9 25).bind fun v7 =>
    (uL h v5 2 x1 v7).bind fun h9 =>
    s_AdjoinedSetsModel_take_213 x0 x1 h9)
  else (
    s_AdjoinedSetsModel_take_213 x0 x1 h)
set_option maxHeartbeats 4000000 in
set_option maxRecDepth 100000 in
theorem k_AdjoinedSetsModel_take_193 {x0 : Nat} {x1 : Int32} {h : HP} {z : HP} (C : CX g R_AdjoinedSetsModel b_AdjoinedSetsModel_take 3 none p s m args meth c) {H : Heap} {locs : List Loc} {ls : Array Slot} (hw : WD g h s.heap H locs) (hl : lv_has ls 3 [(0, .ref (aD g x0)), (1, .int x1)]) (hs : s_AdjoinedSetsModel_take_193 x0 x1 h = some z) : W p l e (rmS 3 64) s m args below meth c H locs 0 0 (MQ below (Qq g none z) args s 0 0 (inA g)) (F0 m 193 ls []) := by
  unfold s_AdjoinedSetsModel_take_193 at hs
  have hx := C.1
  have hb := C.2.1
  refine lv_aload_n hx hb d_AdjoinedSetsModel_take_193 rfl (lv_at hl 0 rfl) ?_
  obtain ⟨v1, e2, hs⟩ := ob hs
  refine pg_getR C hw fl_AdjoinedSetsModel_51 e2 d_AdjoinedSetsModel_take_194 ?_
  refine lv_iload_n hx hb d_AdjoinedSetsModel_take_197 rfl (lv_at hl 1 rfl) ?_
  obtain ⟨v3, e4, hs⟩ := ob hs
  refine pg_iaload C hw (t0 := 0) rfl e4 d_AdjoinedSetsModel_take_198 ?_
  refine lv_iconst (v := 1) hx hb d_AdjoinedSetsModel_take_199 (by decide) ?_
  refine lv_icmp_ne hx hb d_AdjoinedSetsModel_take_200 (tgt := 213) (by decide) (fun hc => ?_) (fun hc => ?_)
  · have hs := oi_f hc hs
    exact k_AdjoinedSetsModel_take_213 C hw (lv_sub hl [0, 1] rfl) hs
  · have hs := oi_t hc hs
    refine lv_aload_n hx hb d_AdjoinedSetsModel_take_203 rfl (lv_at hl 0 rfl) ?_
    obtain ⟨v5, e6, hs⟩ := ob hs
    refine pg_getR C hw fl_AdjoinedSetsModel_60 e6 d_AdjoinedSetsModel_take_204 ?_
    refine lv_iload_n hx hb d_AdjoinedSetsModel_take_207 rfl (lv_at hl 1 rfl) ?_
    refine lv_aload_n hx hb d_AdjoinedSetsModel_take_208 rfl (lv_at hl 0 rfl) ?_
    obtain ⟨v7, e8, hs⟩ := ob hs
    refine pg_getL C hw fl_AdjoinedSetsModel_193 e8 d_AdjoinedSetsModel_take_209 ?_
    obtain ⟨h9, e10, hs⟩ := ob hs
    refine pg_lastore C hw (t0 := 2) rfl e10 d_AdjoinedSetsModel_take_212 (fun H locs hw => ?_)
    exact k_AdjoinedSetsModel_take_213 C hw (lv_sub hl [0, 1] rfl) hs

def s_AdjoinedSetsModel_take (x0 : Nat) (x1 : Int32) (x2 : Int32) (h : HP) : Option (HP) :=
  (s_AdjoinedSetsModel_isBinder x2).bind fun q1 =>
  if q1 = 0 then (
    (gR h x0 9 20).bind fun v3 =>
    (aI h v3 0 x1).bind fun v5 =>
    if v5 = 0 then (
      (gR h x0 9 22).bind fun v7 =>
      (gL h x0 9 25).bind fun v9 =>
      (uL h v7 2 x1 v9).bind fun h11 =>
      s_AdjoinedSetsModel_take_193 x0 x1 h11)
    else (
      s_AdjoinedSetsModel_take_193 x0 x1 h))
  else (
    (gR h x0 9 20).bind fun v13 =>
    (aI h v13 0 x1).bind fun v15 =>
    if v15 = 0 then (
      (gR h x0 9 22).bind fun v59 =>
      (gL h x0 9 25).bind fun v61 =>
      (uL h v59 2 x1 v61).bind fun h63 =>
      (gR h63 x0 9 23).bind fun v65 =>
      if x2 = 76 then (
        s_AdjoinedSetsModel_take_42 x0 x1 v65 x1 1 h63)
      else (
        s_AdjoinedSetsModel_take_42 x0 x1 v65 x1 0 h63))
    else (
      if x2 = 123 then (
        (gR h x0 9 23).bind fun v40 =>
        (gL h x0 9 25).bind fun v42 =>
        if (lg_cmp v42 1) = 0 then (
          (gR h x0 9 23).bind fun v48 =>
          (aL h v48 2 x1).bind fun v50 =>
          (gR h x0 9 24).bind fun v52 =>
          (aL h v52 2 x1).bind fun v54 =>
          (kd x0 9).bind fun _ =>
          (s_AdjoinedSetsModel_only x0 v54 h).bind fun q57 =>
          s_AdjoinedSetsModel_take_101 x0 x1 v40 x1 (v50 ||| q57.1) q57.2)
        else (
          (gR h x0 9 23).bind fun v44 =>
          (aL h v44 2 x1).bind fun v46 =>
          s_AdjoinedSetsModel_take_101 x0 x1 v40 x1 v46 h))
      else (
        (gR h x0 9 23).bind fun v17 =>
        if x2 = 73 then (
          (gR h x0 9 23).bind fun v31 =>
          (aL h v31 2 x1).bind fun v33 =>
          (gL h x0 9 25).bind fun v35 =>
          (kd x0 9).bind fun _ =>
          (s_AdjoinedSetsModel_only x0 v35 h).bind fun q38 =>
          s_AdjoinedSetsModel_take_165 x0 x1 v17 x1 (v33 ||| q38.1) q38.2)
        else (
          if x2 = 69 then (
            (gR h x0 9 23).bind fun v25 =>
            (aL h v25 2 x1).bind fun v27 =>
            (gL h x0 9 25).bind fun v29 =>
            s_AdjoinedSetsModel_take_165 x0 x1 v17 x1 (v27 ||| v29) h)
          else (
            (gR h x0 9 23).bind fun v19 =>
            (aL h v19 2 x1).bind fun v21 =>
            (gL h x0 9 25).bind fun v23 =>
            s_AdjoinedSetsModel_take_165 x0 x1 v17 x1 (v21 &&& v23) h)))))
set_option maxHeartbeats 4000000 in
set_option maxRecDepth 100000 in
theorem c_AdjoinedSetsModel_take (l : Launch) (g : GG) {x0 : Nat} {x1 : Int32} {x2 : Int32} {h : HP} {z : HP} (hs : s_AdjoinedSetsModel_take x0 x1 x2 h = some z) : Ct l g y_AdjoinedSetsModel_take w_AdjoinedSetsModel_take (rmS 3 64) [.ref (aD g x0), .int x1, .int x2] h none z := by
  refine Ct.of (own := R_AdjoinedSetsModel) (by decide) rfl rfl (Nat.le_of_ble_eq_true rfl) ?_
  intro p e s m args below meth c ls C hl hw
  have hx := C.1
  have hb := C.2.1
  have hl : lv_has ls 3 [(0, .ref (aD g x0)), (1, .int x1), (2, .int x2)] := hl
  unfold s_AdjoinedSetsModel_take at hs
  refine lv_iload_n hx hb d_AdjoinedSetsModel_take_0 rfl (lv_at hl 2 rfl) ?_
  obtain ⟨q1, e2, hs⟩ := ob hs
  refine pg_callS C hw hl.1 ml_AdjoinedSetsModel_115 (As := [.int x2]) (rest := []) (c_AdjoinedSetsModel_isBinder l g e2) rfl (rm_ok (Nat.le_of_ble_eq_true rfl) (Nat.le_of_ble_eq_true rfl)) (Nat.le_of_ble_eq_true rfl) rfl (st1 := [.int q1]) rfl d_AdjoinedSetsModel_take_1 (fun H locs hw => ?_)
  refine lv_if_eq hx hb d_AdjoinedSetsModel_take_4 (tgt := 174) (by decide) (fun hc => ?_) (fun hc => ?_)
  · have hs := oi_t hc hs
    refine lv_aload_n hx hb d_AdjoinedSetsModel_take_174 rfl (lv_at hl 0 rfl) ?_
    obtain ⟨v3, e4, hs⟩ := ob hs
    refine pg_getR C hw fl_AdjoinedSetsModel_51 e4 d_AdjoinedSetsModel_take_175 ?_
    refine lv_iload_n hx hb d_AdjoinedSetsModel_take_178 rfl (lv_at hl 1 rfl) ?_
    obtain ⟨v5, e6, hs⟩ := ob hs
    refine pg_iaload C hw (t0 := 0) rfl e6 d_AdjoinedSetsModel_take_179 ?_
    refine lv_if_ne hx hb d_AdjoinedSetsModel_take_180 (tgt := 193) (by decide) (fun hc => ?_) (fun hc => ?_)
    · have hs := oi_f hc hs
      exact k_AdjoinedSetsModel_take_193 C hw (lv_sub hl [0, 1] rfl) hs
    · have hs := oi_t hc hs
      refine lv_aload_n hx hb d_AdjoinedSetsModel_take_183 rfl (lv_at hl 0 rfl) ?_
      obtain ⟨v7, e8, hs⟩ := ob hs
      refine pg_getR C hw fl_AdjoinedSetsModel_57 e8 d_AdjoinedSetsModel_take_184 ?_
      refine lv_iload_n hx hb d_AdjoinedSetsModel_take_187 rfl (lv_at hl 1 rfl) ?_
      refine lv_aload_n hx hb d_AdjoinedSetsModel_take_188 rfl (lv_at hl 0 rfl) ?_
      obtain ⟨v9, e10, hs⟩ := ob hs
      refine pg_getL C hw fl_AdjoinedSetsModel_193 e10 d_AdjoinedSetsModel_take_189 ?_
      obtain ⟨h11, e12, hs⟩ := ob hs
      refine pg_lastore C hw (t0 := 2) rfl e12 d_AdjoinedSetsModel_take_192 (fun H locs hw => ?_)
      exact k_AdjoinedSetsModel_take_193 C hw (lv_sub hl [0, 1] rfl) hs
  · have hs := oi_f hc hs
    refine lv_aload_n hx hb d_AdjoinedSetsModel_take_7 rfl (lv_at hl 0 rfl) ?_
    obtain ⟨v13, e14, hs⟩ := ob hs
    refine pg_getR C hw fl_AdjoinedSetsModel_51 e14 d_AdjoinedSetsModel_take_8 ?_
    refine lv_iload_n hx hb d_AdjoinedSetsModel_take_11 rfl (lv_at hl 1 rfl) ?_
    obtain ⟨v15, e16, hs⟩ := ob hs
    refine pg_iaload C hw (t0 := 0) rfl e16 d_AdjoinedSetsModel_take_12 ?_
    refine lv_if_ne hx hb d_AdjoinedSetsModel_take_13 (tgt := 55) (by decide) (fun hc => ?_) (fun hc => ?_)
    · have hs := oi_f hc hs
      refine lv_iload_n hx hb d_AdjoinedSetsModel_take_55 rfl (lv_at hl 2 rfl) ?_
      refine lv_bipush (v := 123) hx hb d_AdjoinedSetsModel_take_56 (by decide) ?_
      refine lv_icmp_ne hx hb d_AdjoinedSetsModel_take_58 (tgt := 105) (by decide) (fun hc => ?_) (fun hc => ?_)
      · have hs := oi_f hc hs
        refine lv_aload_n hx hb d_AdjoinedSetsModel_take_105 rfl (lv_at hl 0 rfl) ?_
        obtain ⟨v17, e18, hs⟩ := ob hs
        refine pg_getR C hw fl_AdjoinedSetsModel_60 e18 d_AdjoinedSetsModel_take_106 ?_
        refine lv_iload_n hx hb d_AdjoinedSetsModel_take_109 rfl (lv_at hl 1 rfl) ?_
        refine lv_iload_n hx hb d_AdjoinedSetsModel_take_110 rfl (lv_at hl 2 rfl) ?_
        refine lv_bipush (v := 73) hx hb d_AdjoinedSetsModel_take_111 (by decide) ?_
        refine lv_icmp_ne hx hb d_AdjoinedSetsModel_take_113 (tgt := 134) (by decide) (fun hc => ?_) (fun hc => ?_)
        · have hs := oi_f hc hs
          refine lv_iload_n hx hb d_AdjoinedSetsModel_take_134 rfl (lv_at hl 2 rfl) ?_
          refine lv_bipush (v := 69) hx hb d_AdjoinedSetsModel_take_135 (by decide) ?_
          refine lv_icmp_ne hx hb d_AdjoinedSetsModel_take_137 (tgt := 154) (by decide) (fun hc => ?_) (fun hc => ?_)
          · have hs := oi_f hc hs
            refine lv_aload_n hx hb d_AdjoinedSetsModel_take_154 rfl (lv_at hl 0 rfl) ?_
            obtain ⟨v19, e20, hs⟩ := ob hs
            refine pg_getR C hw fl_AdjoinedSetsModel_60 e20 d_AdjoinedSetsModel_take_155 ?_
            refine lv_iload_n hx hb d_AdjoinedSetsModel_take_158 rfl (lv_at hl 1 rfl) ?_
            obtain ⟨v21, e22, hs⟩ := ob hs
            refine pg_laload C hw (t0 := 2) rfl e22 d_AdjoinedSetsModel_take_159 ?_
            refine lv_aload_n hx hb d_AdjoinedSetsModel_take_160 rfl (lv_at hl 0 rfl) ?_
            obtain ⟨v23, e24, hs⟩ := ob hs
            refine pg_getL C hw fl_AdjoinedSetsModel_193 e24 d_AdjoinedSetsModel_take_161 ?_
            refine lv_land hx hb d_AdjoinedSetsModel_take_164 ?_
            exact k_AdjoinedSetsModel_take_165 C hw (lv_sub hl [0, 1] rfl) hs
          · have hs := oi_t hc hs
            refine lv_aload_n hx hb d_AdjoinedSetsModel_take_140 rfl (lv_at hl 0 rfl) ?_
            obtain ⟨v25, e26, hs⟩ := ob hs
            refine pg_getR C hw fl_AdjoinedSetsModel_60 e26 d_AdjoinedSetsModel_take_141 ?_
            refine lv_iload_n hx hb d_AdjoinedSetsModel_take_144 rfl (lv_at hl 1 rfl) ?_
            obtain ⟨v27, e28, hs⟩ := ob hs
            refine pg_laload C hw (t0 := 2) rfl e28 d_AdjoinedSetsModel_take_145 ?_
            refine lv_aload_n hx hb d_AdjoinedSetsModel_take_146 rfl (lv_at hl 0 rfl) ?_
            obtain ⟨v29, e30, hs⟩ := ob hs
            refine pg_getL C hw fl_AdjoinedSetsModel_193 e30 d_AdjoinedSetsModel_take_147 ?_
            refine lv_lor hx hb d_AdjoinedSetsModel_take_150 ?_
            refine lv_goto hx hb d_AdjoinedSetsModel_take_151 (tgt := 165) (by decide) ?_
            exact k_AdjoinedSetsModel_take_165 C hw (lv_sub hl [0, 1] rfl) hs
        · have hs := oi_t hc hs
          refine lv_aload_n hx hb d_AdjoinedSetsModel_take_116 rfl (lv_at hl 0 rfl) ?_
          obtain ⟨v31, e32, hs⟩ := ob hs
          refine pg_getR C hw fl_AdjoinedSetsModel_60 e32 d_AdjoinedSetsModel_take_117 ?_
          refine lv_iload_n hx hb d_AdjoinedSetsModel_take_120 rfl (lv_at hl 1 rfl) ?_
          obtain ⟨v33, e34, hs⟩ := ob hs
          refine pg_laload C hw (t0 := 2) rfl e34 d_AdjoinedSetsModel_take_121 ?_
          refine lv_aload_n hx hb d_AdjoinedSetsModel_take_122 rfl (lv_at hl 0 rfl) ?_
          refine lv_aload_n hx hb d_AdjoinedSetsModel_take_123 rfl (lv_at hl 0 rfl) ?_
          obtain ⟨v35, e36, hs⟩ := ob hs
          refine pg_getL C hw fl_AdjoinedSetsModel_193 e36 d_AdjoinedSetsModel_take_124 ?_
          obtain ⟨_, e37, hs⟩ := ob hs
          obtain ⟨q38, e39, hs⟩ := ob hs
          refine pg_callV C hw hl.1 ml_AdjoinedSetsModel_180 e37 (As := [.long v35]) (rest := [.long v33, .int x1, .ref (aD g v17)]) (c_AdjoinedSetsModel_only l g e39) rfl (rm_ok (Nat.le_of_ble_eq_true rfl) (Nat.le_of_ble_eq_true rfl)) (Nat.le_of_ble_eq_true rfl) rfl (st1 := [.long q38.1, .long v33, .int x1, .ref (aD g v17)]) rfl d_AdjoinedSetsModel_take_127 (fun H locs hw => ?_)
          refine lv_lor hx hb d_AdjoinedSetsModel_take_130 ?_
          refine lv_goto hx hb d_AdjoinedSetsModel_take_131 (tgt := 165) (by decide) ?_
          exact k_AdjoinedSetsModel_take_165 C hw (lv_sub hl [0, 1] rfl) hs
      · have hs := oi_t hc hs
        refine lv_aload_n hx hb d_AdjoinedSetsModel_take_61 rfl (lv_at hl 0 rfl) ?_
        obtain ⟨v40, e41, hs⟩ := ob hs
        refine pg_getR C hw fl_AdjoinedSetsModel_60 e41 d_AdjoinedSetsModel_take_62 ?_
        refine lv_iload_n hx hb d_AdjoinedSetsModel_take_65 rfl (lv_at hl 1 rfl) ?_
        refine lv_aload_n hx hb d_AdjoinedSetsModel_take_66 rfl (lv_at hl 0 rfl) ?_
        obtain ⟨v42, e43, hs⟩ := ob hs
        refine pg_getL C hw fl_AdjoinedSetsModel_193 e43 d_AdjoinedSetsModel_take_67 ?_
        refine lv_lconst (v := 1) hx hb d_AdjoinedSetsModel_take_70 (by decide) ?_
        refine W.lcmp hx hb d_AdjoinedSetsModel_take_71 ?_
        refine lv_if_ne hx hb d_AdjoinedSetsModel_take_72 (tgt := 95) (by decide) (fun hc => ?_) (fun hc => ?_)
        · have hs := oi_f hc hs
          refine lv_aload_n hx hb d_AdjoinedSetsModel_take_95 rfl (lv_at hl 0 rfl) ?_
          obtain ⟨v44, e45, hs⟩ := ob hs
          refine pg_getR C hw fl_AdjoinedSetsModel_60 e45 d_AdjoinedSetsModel_take_96 ?_
          refine lv_iload_n hx hb d_AdjoinedSetsModel_take_99 rfl (lv_at hl 1 rfl) ?_
          obtain ⟨v46, e47, hs⟩ := ob hs
          refine pg_laload C hw (t0 := 2) rfl e47 d_AdjoinedSetsModel_take_100 ?_
          exact k_AdjoinedSetsModel_take_101 C hw (lv_sub hl [0, 1] rfl) hs
        · have hs := oi_t hc hs
          refine lv_aload_n hx hb d_AdjoinedSetsModel_take_75 rfl (lv_at hl 0 rfl) ?_
          obtain ⟨v48, e49, hs⟩ := ob hs
          refine pg_getR C hw fl_AdjoinedSetsModel_60 e49 d_AdjoinedSetsModel_take_76 ?_
          refine lv_iload_n hx hb d_AdjoinedSetsModel_take_79 rfl (lv_at hl 1 rfl) ?_
          obtain ⟨v50, e51, hs⟩ := ob hs
          refine pg_laload C hw (t0 := 2) rfl e51 d_AdjoinedSetsModel_take_80 ?_
          refine lv_aload_n hx hb d_AdjoinedSetsModel_take_81 rfl (lv_at hl 0 rfl) ?_
          refine lv_aload_n hx hb d_AdjoinedSetsModel_take_82 rfl (lv_at hl 0 rfl) ?_
          obtain ⟨v52, e53, hs⟩ := ob hs
          refine pg_getR C hw fl_AdjoinedSetsModel_63 e53 d_AdjoinedSetsModel_take_83 ?_
          refine lv_iload_n hx hb d_AdjoinedSetsModel_take_86 rfl (lv_at hl 1 rfl) ?_
          obtain ⟨v54, e55, hs⟩ := ob hs
          refine pg_laload C hw (t0 := 2) rfl e55 d_AdjoinedSetsModel_take_87 ?_
          obtain ⟨_, e56, hs⟩ := ob hs
          obtain ⟨q57, e58, hs⟩ := ob hs
          refine pg_callV C hw hl.1 ml_AdjoinedSetsModel_180 e56 (As := [.long v54]) (rest := [.long v50, .int x1, .ref (aD g v40)]) (c_AdjoinedSetsModel_only l g e58) rfl (rm_ok (Nat.le_of_ble_eq_true rfl) (Nat.le_of_ble_eq_true rfl)) (Nat.le_of_ble_eq_true rfl) rfl (st1 := [.long q57.1, .long v50, .int x1, .ref (aD g v40)]) rfl d_AdjoinedSetsModel_take_88 (fun H locs hw => ?_)
          refine lv_lor hx hb d_AdjoinedSetsModel_take_91 ?_
          refine lv_goto hx hb d_AdjoinedSetsModel_take_92 (tgt := 101) (by decide) ?_
          exact k_AdjoinedSetsModel_take_101 C hw (lv_sub hl [0, 1] rfl) hs
    · have hs := oi_t hc hs
      refine lv_aload_n hx hb d_AdjoinedSetsModel_take_16 rfl (lv_at hl 0 rfl) ?_
      obtain ⟨v59, e60, hs⟩ := ob hs
      refine pg_getR C hw fl_AdjoinedSetsModel_57 e60 d_AdjoinedSetsModel_take_17 ?_
      refine lv_iload_n hx hb d_AdjoinedSetsModel_take_20 rfl (lv_at hl 1 rfl) ?_
      refine lv_aload_n hx hb d_AdjoinedSetsModel_take_21 rfl (lv_at hl 0 rfl) ?_
      obtain ⟨v61, e62, hs⟩ := ob hs
      refine pg_getL C hw fl_AdjoinedSetsModel_193 e62 d_AdjoinedSetsModel_take_22 ?_
      obtain ⟨h63, e64, hs⟩ := ob hs
      refine pg_lastore C hw (t0 := 2) rfl e64 d_AdjoinedSetsModel_take_25 (fun H locs hw => ?_)
      refine lv_aload_n hx hb d_AdjoinedSetsModel_take_26 rfl (lv_at hl 0 rfl) ?_
      obtain ⟨v65, e66, hs⟩ := ob hs
      refine pg_getR C hw fl_AdjoinedSetsModel_60 e66 d_AdjoinedSetsModel_take_27 ?_
      refine lv_iload_n hx hb d_AdjoinedSetsModel_take_30 rfl (lv_at hl 1 rfl) ?_
      refine lv_iload_n hx hb d_AdjoinedSetsModel_take_31 rfl (lv_at hl 2 rfl) ?_
      refine lv_bipush (v := 76) hx hb d_AdjoinedSetsModel_take_32 (by decide) ?_
      refine lv_icmp_ne hx hb d_AdjoinedSetsModel_take_34 (tgt := 41) (by decide) (fun hc => ?_) (fun hc => ?_)
      · have hs := oi_f hc hs
        refine lv_lconst (v := 0) hx hb d_AdjoinedSetsModel_take_41 (by decide) ?_
        exact k_AdjoinedSetsModel_take_42 C hw (lv_sub hl [0, 1] rfl) hs
      · have hs := oi_t hc hs
        refine lv_lconst (v := 1) hx hb d_AdjoinedSetsModel_take_37 (by decide) ?_
        refine lv_goto hx hb d_AdjoinedSetsModel_take_38 (tgt := 42) (by decide) ?_
        exact k_AdjoinedSetsModel_take_42 C hw (lv_sub hl [0, 1] rfl) hs

end
section
variable {p : Program} {l : Launch} {e : Env} {s : State} {m : MethodId} {args : Array Value} {below : List Frame} {meth : Method} {c : Code} {g : GG}
theorem d_AdjoinedSetsModel_finish_0 : decode b_AdjoinedSetsModel_finish 0 = .ok (.aload_n 0, 1) := by decide +kernel
theorem d_AdjoinedSetsModel_finish_1 : decode b_AdjoinedSetsModel_finish 1 = .ok (.lload_n 1, 1) := by decide +kernel
theorem d_AdjoinedSetsModel_finish_2 : decode b_AdjoinedSetsModel_finish 2 = .ok (.putfield 193, 3) := by decide +kernel
theorem d_AdjoinedSetsModel_finish_5 : decode b_AdjoinedSetsModel_finish 5 = .ok (.aload_n 0, 1) := by decide +kernel
theorem d_AdjoinedSetsModel_finish_6 : decode b_AdjoinedSetsModel_finish 6 = .ok (.dup, 1) := by decide +kernel
theorem d_AdjoinedSetsModel_finish_7 : decode b_AdjoinedSetsModel_finish 7 = .ok (.getfield 163, 3) := by decide +kernel
theorem d_AdjoinedSetsModel_finish_10 : decode b_AdjoinedSetsModel_finish 10 = .ok (.iconst 1, 1) := by decide +kernel
theorem d_AdjoinedSetsModel_finish_11 : decode b_AdjoinedSetsModel_finish 11 = .ok (.isub, 1) := by decide +kernel
theorem d_AdjoinedSetsModel_finish_12 : decode b_AdjoinedSetsModel_finish 12 = .ok (.putfield 163, 3) := by decide +kernel
theorem d_AdjoinedSetsModel_finish_15 : decode b_AdjoinedSetsModel_finish 15 = .ok (.return_, 1) := by decide +kernel
def s_AdjoinedSetsModel_finish (x0 : Nat) (x1 : Int64) (h : HP) : Option (HP) :=
  (pL h x0 9 25 x1).bind fun h1 =>
  (gI h1 x0 9 15).bind fun v3 =>
  (pI h1 x0 9 15 (v3 - 1)).bind fun h5 =>
  some h5
set_option maxHeartbeats 4000000 in
set_option maxRecDepth 100000 in
theorem c_AdjoinedSetsModel_finish (l : Launch) (g : GG) {x0 : Nat} {x1 : Int64} {h : HP} {z : HP} (hs : s_AdjoinedSetsModel_finish x0 x1 h = some z) : Ct l g y_AdjoinedSetsModel_finish w_AdjoinedSetsModel_finish (rmS 0 0) [.ref (aD g x0), .long x1] h none z := by
  refine Ct.of (own := R_AdjoinedSetsModel) (by decide) rfl rfl (Nat.le_of_ble_eq_true rfl) ?_
  intro p e s m args below meth c ls C hl hw
  have hx := C.1
  have hb := C.2.1
  have hl : lv_has ls 3 [(0, .ref (aD g x0)), (1, .long x1)] := hl
  unfold s_AdjoinedSetsModel_finish at hs
  refine lv_aload_n hx hb d_AdjoinedSetsModel_finish_0 rfl (lv_at hl 0 rfl) ?_
  refine lv_lload_n hx hb d_AdjoinedSetsModel_finish_1 rfl (lv_at hl 1 rfl) ?_
  obtain ⟨h1, e2, hs⟩ := ob hs
  refine pg_putL C hw pl_AdjoinedSetsModel_193 e2 d_AdjoinedSetsModel_finish_2 (fun H locs hw => ?_)
  refine lv_aload_n hx hb d_AdjoinedSetsModel_finish_5 rfl (lv_at hl 0 rfl) ?_
  refine lv_dup hx hb d_AdjoinedSetsModel_finish_6 rfl ?_
  obtain ⟨v3, e4, hs⟩ := ob hs
  refine pg_getI C hw fl_AdjoinedSetsModel_163 e4 d_AdjoinedSetsModel_finish_7 ?_
  refine lv_iconst (v := 1) hx hb d_AdjoinedSetsModel_finish_10 (by decide) ?_
  refine lv_isub hx hb d_AdjoinedSetsModel_finish_11 ?_
  obtain ⟨h5, e6, hs⟩ := ob hs
  refine pg_putI C hw pl_AdjoinedSetsModel_163 e6 d_AdjoinedSetsModel_finish_12 (fun H locs hw => ?_)
  obtain rfl := Option.some.inj hs
  exact pg_vret C hw d_AdjoinedSetsModel_finish_15

end
