section
variable {p : Program} {l : Launch} {e : Env} {s : State} {m : MethodId} {args : Array Value} {below : List Frame} {meth : Method} {c : Code} {g : GG}
theorem d_AdjoinedSetsModel_prove_0 : decode b_AdjoinedSetsModel_prove 0 = .ok (.iload_n 1, 1) := by decide +kernel
theorem d_AdjoinedSetsModel_prove_1 : decode b_AdjoinedSetsModel_prove 1 = .ok (.bipush 9, 2) := by decide +kernel
theorem d_AdjoinedSetsModel_prove_3 : decode b_AdjoinedSetsModel_prove 3 = .ok (.if_icmp .lt 13, 3) := by decide +kernel
theorem d_AdjoinedSetsModel_prove_6 : decode b_AdjoinedSetsModel_prove 6 = .ok (.iload_n 1, 1) := by decide +kernel
theorem d_AdjoinedSetsModel_prove_7 : decode b_AdjoinedSetsModel_prove 7 = .ok (.bipush 12, 2) := by decide +kernel
theorem d_AdjoinedSetsModel_prove_9 : decode b_AdjoinedSetsModel_prove 9 = .ok (.if_icmp .gt 7, 3) := by decide +kernel
theorem d_AdjoinedSetsModel_prove_12 : decode b_AdjoinedSetsModel_prove 12 = .ok (.iconst 1, 1) := by decide +kernel
theorem d_AdjoinedSetsModel_prove_13 : decode b_AdjoinedSetsModel_prove 13 = .ok (.goto 4, 3) := by decide +kernel
theorem d_AdjoinedSetsModel_prove_16 : decode b_AdjoinedSetsModel_prove 16 = .ok (.iconst 0, 1) := by decide +kernel
theorem d_AdjoinedSetsModel_prove_17 : decode b_AdjoinedSetsModel_prove 17 = .ok (.istore 4, 2) := by decide +kernel
theorem d_AdjoinedSetsModel_prove_19 : decode b_AdjoinedSetsModel_prove 19 = .ok (.iload_n 1, 1) := by decide +kernel
theorem d_AdjoinedSetsModel_prove_20 : decode b_AdjoinedSetsModel_prove 20 = .ok (.bipush 9, 2) := by decide +kernel
theorem d_AdjoinedSetsModel_prove_22 : decode b_AdjoinedSetsModel_prove 22 = .ok (.if_icmp .eq 9, 3) := by decide +kernel
theorem d_AdjoinedSetsModel_prove_25 : decode b_AdjoinedSetsModel_prove 25 = .ok (.iload_n 1, 1) := by decide +kernel
theorem d_AdjoinedSetsModel_prove_26 : decode b_AdjoinedSetsModel_prove 26 = .ok (.bipush 12, 2) := by decide +kernel
theorem d_AdjoinedSetsModel_prove_28 : decode b_AdjoinedSetsModel_prove 28 = .ok (.if_icmp .ne 7, 3) := by decide +kernel
theorem d_AdjoinedSetsModel_prove_31 : decode b_AdjoinedSetsModel_prove 31 = .ok (.iconst 1, 1) := by decide +kernel
theorem d_AdjoinedSetsModel_prove_32 : decode b_AdjoinedSetsModel_prove 32 = .ok (.goto 4, 3) := by decide +kernel
theorem d_AdjoinedSetsModel_prove_35 : decode b_AdjoinedSetsModel_prove 35 = .ok (.iconst 0, 1) := by decide +kernel
theorem d_AdjoinedSetsModel_prove_36 : decode b_AdjoinedSetsModel_prove 36 = .ok (.istore 5, 2) := by decide +kernel
theorem d_AdjoinedSetsModel_prove_38 : decode b_AdjoinedSetsModel_prove 38 = .ok (.iload_n 1, 1) := by decide +kernel
theorem d_AdjoinedSetsModel_prove_39 : decode b_AdjoinedSetsModel_prove 39 = .ok (.ifCond .lt 51, 3) := by decide +kernel
theorem d_AdjoinedSetsModel_prove_42 : decode b_AdjoinedSetsModel_prove 42 = .ok (.iload_n 1, 1) := by decide +kernel
theorem d_AdjoinedSetsModel_prove_43 : decode b_AdjoinedSetsModel_prove 43 = .ok (.bipush 17, 2) := by decide +kernel
theorem d_AdjoinedSetsModel_prove_45 : decode b_AdjoinedSetsModel_prove 45 = .ok (.if_icmp .gt 45, 3) := by decide +kernel
theorem d_AdjoinedSetsModel_prove_48 : decode b_AdjoinedSetsModel_prove 48 = .ok (.iload 4, 2) := by decide +kernel
theorem d_AdjoinedSetsModel_prove_50 : decode b_AdjoinedSetsModel_prove 50 = .ok (.ifCond .eq 11, 3) := by decide +kernel
theorem d_AdjoinedSetsModel_prove_53 : decode b_AdjoinedSetsModel_prove 53 = .ok (.aload_n 0, 1) := by decide +kernel
theorem d_AdjoinedSetsModel_prove_54 : decode b_AdjoinedSetsModel_prove 54 = .ok (.iload_n 2, 1) := by decide +kernel
theorem d_AdjoinedSetsModel_prove_55 : decode b_AdjoinedSetsModel_prove 55 = .ok (.invokevirtual 303, 3) := by decide +kernel
theorem d_AdjoinedSetsModel_prove_58 : decode b_AdjoinedSetsModel_prove 58 = .ok (.ifCond .eq 32, 3) := by decide +kernel
theorem d_AdjoinedSetsModel_prove_61 : decode b_AdjoinedSetsModel_prove 61 = .ok (.iload 5, 2) := by decide +kernel
theorem d_AdjoinedSetsModel_prove_63 : decode b_AdjoinedSetsModel_prove 63 = .ok (.ifCond .eq 11, 3) := by decide +kernel
theorem d_AdjoinedSetsModel_prove_66 : decode b_AdjoinedSetsModel_prove 66 = .ok (.aload_n 0, 1) := by decide +kernel
theorem d_AdjoinedSetsModel_prove_67 : decode b_AdjoinedSetsModel_prove 67 = .ok (.iload_n 3, 1) := by decide +kernel
theorem d_AdjoinedSetsModel_prove_68 : decode b_AdjoinedSetsModel_prove 68 = .ok (.invokevirtual 303, 3) := by decide +kernel
theorem d_AdjoinedSetsModel_prove_71 : decode b_AdjoinedSetsModel_prove 71 = .ok (.ifCond .eq 19, 3) := by decide +kernel
theorem d_AdjoinedSetsModel_prove_74 : decode b_AdjoinedSetsModel_prove 74 = .ok (.iload_n 1, 1) := by decide +kernel
theorem d_AdjoinedSetsModel_prove_75 : decode b_AdjoinedSetsModel_prove 75 = .ok (.bipush 10, 2) := by decide +kernel
theorem d_AdjoinedSetsModel_prove_77 : decode b_AdjoinedSetsModel_prove 77 = .ok (.if_icmp .ne 15, 3) := by decide +kernel
theorem d_AdjoinedSetsModel_prove_80 : decode b_AdjoinedSetsModel_prove 80 = .ok (.iload_n 3, 1) := by decide +kernel
theorem d_AdjoinedSetsModel_prove_81 : decode b_AdjoinedSetsModel_prove 81 = .ok (.ifCond .lt 9, 3) := by decide +kernel
theorem d_AdjoinedSetsModel_prove_84 : decode b_AdjoinedSetsModel_prove 84 = .ok (.iload_n 3, 1) := by decide +kernel
theorem d_AdjoinedSetsModel_prove_85 : decode b_AdjoinedSetsModel_prove 85 = .ok (.bipush 7, 2) := by decide +kernel
theorem d_AdjoinedSetsModel_prove_87 : decode b_AdjoinedSetsModel_prove 87 = .ok (.if_icmp .le 5, 3) := by decide +kernel
theorem d_AdjoinedSetsModel_prove_90 : decode b_AdjoinedSetsModel_prove 90 = .ok (.iconst (-1), 1) := by decide +kernel
theorem d_AdjoinedSetsModel_prove_91 : decode b_AdjoinedSetsModel_prove 91 = .ok (.ireturn, 1) := by decide +kernel
theorem d_AdjoinedSetsModel_prove_92 : decode b_AdjoinedSetsModel_prove 92 = .ok (.aload_n 0, 1) := by decide +kernel
theorem d_AdjoinedSetsModel_prove_93 : decode b_AdjoinedSetsModel_prove 93 = .ok (.iconst 1, 1) := by decide +kernel
theorem d_AdjoinedSetsModel_prove_94 : decode b_AdjoinedSetsModel_prove 94 = .ok (.iconst (-1), 1) := by decide +kernel
theorem d_AdjoinedSetsModel_prove_95 : decode b_AdjoinedSetsModel_prove 95 = .ok (.iconst 0, 1) := by decide +kernel
theorem d_AdjoinedSetsModel_prove_96 : decode b_AdjoinedSetsModel_prove 96 = .ok (.invokevirtual 156, 3) := by decide +kernel
theorem d_AdjoinedSetsModel_prove_99 : decode b_AdjoinedSetsModel_prove 99 = .ok (.istore 6, 2) := by decide +kernel
theorem d_AdjoinedSetsModel_prove_101 : decode b_AdjoinedSetsModel_prove 101 = .ok (.iload 6, 2) := by decide +kernel
theorem d_AdjoinedSetsModel_prove_103 : decode b_AdjoinedSetsModel_prove 103 = .ok (.ifCond .lt 11, 3) := by decide +kernel
theorem d_AdjoinedSetsModel_prove_106 : decode b_AdjoinedSetsModel_prove 106 = .ok (.bipush (-100), 2) := by decide +kernel
theorem d_AdjoinedSetsModel_prove_108 : decode b_AdjoinedSetsModel_prove 108 = .ok (.iload 6, 2) := by decide +kernel
theorem d_AdjoinedSetsModel_prove_110 : decode b_AdjoinedSetsModel_prove 110 = .ok (.isub, 1) := by decide +kernel
theorem d_AdjoinedSetsModel_prove_111 : decode b_AdjoinedSetsModel_prove 111 = .ok (.goto 36, 3) := by decide +kernel
theorem d_AdjoinedSetsModel_prove_114 : decode b_AdjoinedSetsModel_prove 114 = .ok (.aload_n 0, 1) := by decide +kernel
theorem d_AdjoinedSetsModel_prove_115 : decode b_AdjoinedSetsModel_prove 115 = .ok (.getfield 300, 3) := by decide +kernel
theorem d_AdjoinedSetsModel_prove_118 : decode b_AdjoinedSetsModel_prove 118 = .ok (.bipush 16, 2) := by decide +kernel
theorem d_AdjoinedSetsModel_prove_120 : decode b_AdjoinedSetsModel_prove 120 = .ok (.if_icmp .ne 8, 3) := by decide +kernel
theorem d_AdjoinedSetsModel_prove_123 : decode b_AdjoinedSetsModel_prove 123 = .ok (.bipush (-2), 2) := by decide +kernel
theorem d_AdjoinedSetsModel_prove_125 : decode b_AdjoinedSetsModel_prove 125 = .ok (.goto 22, 3) := by decide +kernel
theorem d_AdjoinedSetsModel_prove_128 : decode b_AdjoinedSetsModel_prove 128 = .ok (.aload_n 0, 1) := by decide +kernel
theorem d_AdjoinedSetsModel_prove_129 : decode b_AdjoinedSetsModel_prove 129 = .ok (.iload_n 1, 1) := by decide +kernel
theorem d_AdjoinedSetsModel_prove_130 : decode b_AdjoinedSetsModel_prove 130 = .ok (.iload_n 2, 1) := by decide +kernel
theorem d_AdjoinedSetsModel_prove_131 : decode b_AdjoinedSetsModel_prove 131 = .ok (.iload_n 3, 1) := by decide +kernel
theorem d_AdjoinedSetsModel_prove_132 : decode b_AdjoinedSetsModel_prove 132 = .ok (.invokevirtual 306, 3) := by decide +kernel
theorem d_AdjoinedSetsModel_prove_135 : decode b_AdjoinedSetsModel_prove 135 = .ok (.ifCond .eq 10, 3) := by decide +kernel
theorem d_AdjoinedSetsModel_prove_138 : decode b_AdjoinedSetsModel_prove 138 = .ok (.aload_n 0, 1) := by decide +kernel
theorem d_AdjoinedSetsModel_prove_139 : decode b_AdjoinedSetsModel_prove 139 = .ok (.getfield 300, 3) := by decide +kernel
theorem d_AdjoinedSetsModel_prove_142 : decode b_AdjoinedSetsModel_prove 142 = .ok (.goto 5, 3) := by decide +kernel
theorem d_AdjoinedSetsModel_prove_145 : decode b_AdjoinedSetsModel_prove 145 = .ok (.bipush (-4), 2) := by decide +kernel
theorem d_AdjoinedSetsModel_prove_147 : decode b_AdjoinedSetsModel_prove 147 = .ok (.istore 7, 2) := by decide +kernel
theorem d_AdjoinedSetsModel_prove_149 : decode b_AdjoinedSetsModel_prove 149 = .ok (.iload 7, 2) := by decide +kernel
theorem d_AdjoinedSetsModel_prove_151 : decode b_AdjoinedSetsModel_prove 151 = .ok (.ifCond .lt 106, 3) := by decide +kernel
theorem d_AdjoinedSetsModel_prove_154 : decode b_AdjoinedSetsModel_prove 154 = .ok (.iconst 0, 1) := by decide +kernel
theorem d_AdjoinedSetsModel_prove_155 : decode b_AdjoinedSetsModel_prove 155 = .ok (.istore 8, 2) := by decide +kernel
theorem d_AdjoinedSetsModel_prove_157 : decode b_AdjoinedSetsModel_prove 157 = .ok (.iload 8, 2) := by decide +kernel
theorem d_AdjoinedSetsModel_prove_159 : decode b_AdjoinedSetsModel_prove 159 = .ok (.aload_n 0, 1) := by decide +kernel
theorem d_AdjoinedSetsModel_prove_160 : decode b_AdjoinedSetsModel_prove 160 = .ok (.getfield 124, 3) := by decide +kernel
theorem d_AdjoinedSetsModel_prove_163 : decode b_AdjoinedSetsModel_prove 163 = .ok (.if_icmp .ge 30, 3) := by decide +kernel
theorem d_AdjoinedSetsModel_prove_166 : decode b_AdjoinedSetsModel_prove 166 = .ok (.aload_n 0, 1) := by decide +kernel
theorem d_AdjoinedSetsModel_prove_167 : decode b_AdjoinedSetsModel_prove 167 = .ok (.getfield 7, 3) := by decide +kernel
theorem d_AdjoinedSetsModel_prove_170 : decode b_AdjoinedSetsModel_prove 170 = .ok (.aload_n 0, 1) := by decide +kernel
theorem d_AdjoinedSetsModel_prove_171 : decode b_AdjoinedSetsModel_prove 171 = .ok (.iload 7, 2) := by decide +kernel
theorem d_AdjoinedSetsModel_prove_173 : decode b_AdjoinedSetsModel_prove 173 = .ok (.invokevirtual 271, 3) := by decide +kernel
theorem d_AdjoinedSetsModel_prove_176 : decode b_AdjoinedSetsModel_prove 176 = .ok (.iload 8, 2) := by decide +kernel
theorem d_AdjoinedSetsModel_prove_178 : decode b_AdjoinedSetsModel_prove 178 = .ok (.iadd, 1) := by decide +kernel
theorem d_AdjoinedSetsModel_prove_179 : decode b_AdjoinedSetsModel_prove 179 = .ok (.aload_n 0, 1) := by decide +kernel
theorem d_AdjoinedSetsModel_prove_180 : decode b_AdjoinedSetsModel_prove 180 = .ok (.getfield 7, 3) := by decide +kernel
theorem d_AdjoinedSetsModel_prove_183 : decode b_AdjoinedSetsModel_prove 183 = .ok (.iload 8, 2) := by decide +kernel
theorem d_AdjoinedSetsModel_prove_185 : decode b_AdjoinedSetsModel_prove 185 = .ok (.iaload, 1) := by decide +kernel
theorem d_AdjoinedSetsModel_prove_186 : decode b_AdjoinedSetsModel_prove 186 = .ok (.iastore, 1) := by decide +kernel
theorem d_AdjoinedSetsModel_prove_187 : decode b_AdjoinedSetsModel_prove 187 = .ok (.iinc 8 1, 3) := by decide +kernel
theorem d_AdjoinedSetsModel_prove_190 : decode b_AdjoinedSetsModel_prove 190 = .ok (.goto (-33), 3) := by decide +kernel
theorem d_AdjoinedSetsModel_prove_193 : decode b_AdjoinedSetsModel_prove 193 = .ok (.aload_n 0, 1) := by decide +kernel
theorem d_AdjoinedSetsModel_prove_194 : decode b_AdjoinedSetsModel_prove 194 = .ok (.getfield 20, 3) := by decide +kernel
theorem d_AdjoinedSetsModel_prove_197 : decode b_AdjoinedSetsModel_prove 197 = .ok (.iload 7, 2) := by decide +kernel
theorem d_AdjoinedSetsModel_prove_199 : decode b_AdjoinedSetsModel_prove 199 = .ok (.aload_n 0, 1) := by decide +kernel
theorem d_AdjoinedSetsModel_prove_200 : decode b_AdjoinedSetsModel_prove 200 = .ok (.getfield 124, 3) := by decide +kernel
theorem d_AdjoinedSetsModel_prove_203 : decode b_AdjoinedSetsModel_prove 203 = .ok (.iastore, 1) := by decide +kernel
theorem d_AdjoinedSetsModel_prove_204 : decode b_AdjoinedSetsModel_prove 204 = .ok (.aload_n 0, 1) := by decide +kernel
theorem d_AdjoinedSetsModel_prove_205 : decode b_AdjoinedSetsModel_prove 205 = .ok (.getfield 23, 3) := by decide +kernel
theorem d_AdjoinedSetsModel_prove_208 : decode b_AdjoinedSetsModel_prove 208 = .ok (.iload 7, 2) := by decide +kernel
theorem d_AdjoinedSetsModel_prove_210 : decode b_AdjoinedSetsModel_prove 210 = .ok (.iconst 1, 1) := by decide +kernel
theorem d_AdjoinedSetsModel_prove_211 : decode b_AdjoinedSetsModel_prove 211 = .ok (.iload 7, 2) := by decide +kernel
theorem d_AdjoinedSetsModel_prove_213 : decode b_AdjoinedSetsModel_prove 213 = .ok (.ishl, 1) := by decide +kernel
theorem d_AdjoinedSetsModel_prove_214 : decode b_AdjoinedSetsModel_prove 214 = .ok (.iload 4, 2) := by decide +kernel
theorem d_AdjoinedSetsModel_prove_216 : decode b_AdjoinedSetsModel_prove 216 = .ok (.ifCond .eq 12, 3) := by decide +kernel
theorem d_AdjoinedSetsModel_prove_219 : decode b_AdjoinedSetsModel_prove 219 = .ok (.aload_n 0, 1) := by decide +kernel
theorem d_AdjoinedSetsModel_prove_220 : decode b_AdjoinedSetsModel_prove 220 = .ok (.getfield 23, 3) := by decide +kernel
theorem d_AdjoinedSetsModel_prove_223 : decode b_AdjoinedSetsModel_prove 223 = .ok (.iload_n 2, 1) := by decide +kernel
theorem d_AdjoinedSetsModel_prove_224 : decode b_AdjoinedSetsModel_prove 224 = .ok (.iaload, 1) := by decide +kernel
theorem d_AdjoinedSetsModel_prove_225 : decode b_AdjoinedSetsModel_prove 225 = .ok (.goto 4, 3) := by decide +kernel
theorem d_AdjoinedSetsModel_prove_228 : decode b_AdjoinedSetsModel_prove 228 = .ok (.iconst 0, 1) := by decide +kernel
theorem d_AdjoinedSetsModel_prove_229 : decode b_AdjoinedSetsModel_prove 229 = .ok (.ior, 1) := by decide +kernel
theorem d_AdjoinedSetsModel_prove_230 : decode b_AdjoinedSetsModel_prove 230 = .ok (.iload 5, 2) := by decide +kernel
theorem d_AdjoinedSetsModel_prove_232 : decode b_AdjoinedSetsModel_prove 232 = .ok (.ifCond .eq 12, 3) := by decide +kernel
theorem d_AdjoinedSetsModel_prove_235 : decode b_AdjoinedSetsModel_prove 235 = .ok (.aload_n 0, 1) := by decide +kernel
theorem d_AdjoinedSetsModel_prove_236 : decode b_AdjoinedSetsModel_prove 236 = .ok (.getfield 23, 3) := by decide +kernel
theorem d_AdjoinedSetsModel_prove_239 : decode b_AdjoinedSetsModel_prove 239 = .ok (.iload_n 3, 1) := by decide +kernel
theorem d_AdjoinedSetsModel_prove_240 : decode b_AdjoinedSetsModel_prove 240 = .ok (.iaload, 1) := by decide +kernel
theorem d_AdjoinedSetsModel_prove_241 : decode b_AdjoinedSetsModel_prove 241 = .ok (.goto 4, 3) := by decide +kernel
theorem d_AdjoinedSetsModel_prove_244 : decode b_AdjoinedSetsModel_prove 244 = .ok (.iconst 0, 1) := by decide +kernel
theorem d_AdjoinedSetsModel_prove_245 : decode b_AdjoinedSetsModel_prove 245 = .ok (.ior, 1) := by decide +kernel
theorem d_AdjoinedSetsModel_prove_246 : decode b_AdjoinedSetsModel_prove 246 = .ok (.iastore, 1) := by decide +kernel
theorem d_AdjoinedSetsModel_prove_247 : decode b_AdjoinedSetsModel_prove 247 = .ok (.aload_n 0, 1) := by decide +kernel
theorem d_AdjoinedSetsModel_prove_248 : decode b_AdjoinedSetsModel_prove 248 = .ok (.dup, 1) := by decide +kernel
theorem d_AdjoinedSetsModel_prove_249 : decode b_AdjoinedSetsModel_prove 249 = .ok (.getfield 300, 3) := by decide +kernel
theorem d_AdjoinedSetsModel_prove_252 : decode b_AdjoinedSetsModel_prove 252 = .ok (.iconst 1, 1) := by decide +kernel
theorem d_AdjoinedSetsModel_prove_253 : decode b_AdjoinedSetsModel_prove 253 = .ok (.iadd, 1) := by decide +kernel
theorem d_AdjoinedSetsModel_prove_254 : decode b_AdjoinedSetsModel_prove 254 = .ok (.putfield 300, 3) := by decide +kernel
theorem d_AdjoinedSetsModel_prove_257 : decode b_AdjoinedSetsModel_prove 257 = .ok (.aload_n 0, 1) := by decide +kernel
theorem d_AdjoinedSetsModel_prove_258 : decode b_AdjoinedSetsModel_prove 258 = .ok (.iconst 0, 1) := by decide +kernel
theorem d_AdjoinedSetsModel_prove_259 : decode b_AdjoinedSetsModel_prove 259 = .ok (.putfield 124, 3) := by decide +kernel
theorem d_AdjoinedSetsModel_prove_262 : decode b_AdjoinedSetsModel_prove 262 = .ok (.iload 7, 2) := by decide +kernel
theorem d_AdjoinedSetsModel_prove_264 : decode b_AdjoinedSetsModel_prove 264 = .ok (.ireturn, 1) := by decide +kernel
def s_AdjoinedSetsModel_prove_245 (x0 : Nat) (x7 : Int32) (t0 : Nat) (t1 : Int32) (t2 : Int32) (t3 : Int32) (h : HP) : Option (Int32 × HP) :=
  (uI h t0 0 t1 (t2 ||| t3)).bind fun h1 =>
  (gI h1 x0 9 4).bind fun v3 =>
  (pI h1 x0 9 4 (v3 + 1)).bind fun h5 =>
  (pI h5 x0 9 1 0).bind fun h7 =>
  some (x7, h7)
set_option maxHeartbeats 4000000 in
set_option maxRecDepth 100000 in
theorem k_AdjoinedSetsModel_prove_245 {x0 : Nat} {x7 : Int32} {t0 : Nat} {t1 : Int32} {t2 : Int32} {t3 : Int32} {h : HP} {z : Int32 × HP} (C : CX g R_AdjoinedSetsModel b_AdjoinedSetsModel_prove 9 (some .int) p s m args meth c) {H : Heap} {locs : List Loc} {ls : Array Slot} (hw : WD g h s.heap H locs) (hl : lv_has ls 9 [(0, .ref (aD g x0)), (7, .int x7)]) (hs : s_AdjoinedSetsModel_prove_245 x0 x7 t0 t1 t2 t3 h = some z) : W p l e (rmS 8 188) s m args below meth c H locs 0 0 (MQ below (Qq g (some (.int z.1)) z.2) args s 0 0 (inA g)) (F0 m 245 ls [.int t3, .int t2, .int t1, .ref (aD g t0)]) := by
  unfold s_AdjoinedSetsModel_prove_245 at hs
  have hx := C.1
  have hb := C.2.1
  refine lv_ior hx hb d_AdjoinedSetsModel_prove_245 ?_
  obtain ⟨h1, e2, hs⟩ := ob hs
  refine pg_iastore C hw (t0 := 0) rfl e2 d_AdjoinedSetsModel_prove_246 (fun H locs hw => ?_)
  refine lv_aload_n hx hb d_AdjoinedSetsModel_prove_247 rfl (lv_at hl 0 rfl) ?_
  refine lv_dup hx hb d_AdjoinedSetsModel_prove_248 rfl ?_
  obtain ⟨v3, e4, hs⟩ := ob hs
  refine pg_getI C hw fl_AdjoinedSetsModel_300 e4 d_AdjoinedSetsModel_prove_249 ?_
  refine lv_iconst (v := 1) hx hb d_AdjoinedSetsModel_prove_252 (by decide) ?_
  refine lv_iadd hx hb d_AdjoinedSetsModel_prove_253 ?_
  obtain ⟨h5, e6, hs⟩ := ob hs
  refine pg_putI C hw pl_AdjoinedSetsModel_300 e6 d_AdjoinedSetsModel_prove_254 (fun H locs hw => ?_)
  refine lv_aload_n hx hb d_AdjoinedSetsModel_prove_257 rfl (lv_at hl 0 rfl) ?_
  refine lv_iconst (v := 0) hx hb d_AdjoinedSetsModel_prove_258 (by decide) ?_
  obtain ⟨h7, e8, hs⟩ := ob hs
  refine pg_putI C hw pl_AdjoinedSetsModel_124 e8 d_AdjoinedSetsModel_prove_259 (fun H locs hw => ?_)
  refine lv_iload hx hb d_AdjoinedSetsModel_prove_262 (lv_at hl 1 rfl) ?_
  obtain rfl := Option.some.inj hs
  exact pg_iret C hw d_AdjoinedSetsModel_prove_264

def s_AdjoinedSetsModel_prove_229 (x0 : Nat) (x3 : Int32) (x5 : Int32) (x7 : Int32) (t0 : Nat) (t1 : Int32) (t2 : Int32) (t3 : Int32) (h : HP) : Option (Int32 × HP) :=
  if x5 = 0 then (
    s_AdjoinedSetsModel_prove_245 x0 x7 t0 t1 (t2 ||| t3) 0 h)
  else (
    (gR h x0 9 6).bind fun v1 =>
    (aI h v1 0 x3).bind fun v3 =>
    s_AdjoinedSetsModel_prove_245 x0 x7 t0 t1 (t2 ||| t3) v3 h)
set_option maxHeartbeats 4000000 in
set_option maxRecDepth 100000 in
theorem k_AdjoinedSetsModel_prove_229 {x0 : Nat} {x3 : Int32} {x5 : Int32} {x7 : Int32} {t0 : Nat} {t1 : Int32} {t2 : Int32} {t3 : Int32} {h : HP} {z : Int32 × HP} (C : CX g R_AdjoinedSetsModel b_AdjoinedSetsModel_prove 9 (some .int) p s m args meth c) {H : Heap} {locs : List Loc} {ls : Array Slot} (hw : WD g h s.heap H locs) (hl : lv_has ls 9 [(0, .ref (aD g x0)), (3, .int x3), (5, .int x5), (7, .int x7)]) (hs : s_AdjoinedSetsModel_prove_229 x0 x3 x5 x7 t0 t1 t2 t3 h = some z) : W p l e (rmS 8 188) s m args below meth c H locs 0 0 (MQ below (Qq g (some (.int z.1)) z.2) args s 0 0 (inA g)) (F0 m 229 ls [.int t3, .int t2, .int t1, .ref (aD g t0)]) := by
  unfold s_AdjoinedSetsModel_prove_229 at hs
  have hx := C.1
  have hb := C.2.1
  refine lv_ior hx hb d_AdjoinedSetsModel_prove_229 ?_
  refine lv_iload hx hb d_AdjoinedSetsModel_prove_230 (lv_at hl 2 rfl) ?_
  refine lv_if_eq hx hb d_AdjoinedSetsModel_prove_232 (tgt := 244) (by decide) (fun hc => ?_) (fun hc => ?_)
  · have hs := oi_t hc hs
    refine lv_iconst (v := 0) hx hb d_AdjoinedSetsModel_prove_244 (by decide) ?_
    exact k_AdjoinedSetsModel_prove_245 C hw (lv_sub hl [0, 3] rfl) hs
  · have hs := oi_f hc hs
    refine lv_aload_n hx hb d_AdjoinedSetsModel_prove_235 rfl (lv_at hl 0 rfl) ?_
    obtain ⟨v1, e2, hs⟩ := ob hs
    refine pg_getR C hw fl_AdjoinedSetsModel_23 e2 d_AdjoinedSetsModel_prove_236 ?_
    refine lv_iload_n hx hb d_AdjoinedSetsModel_prove_239 rfl (lv_at hl 1 rfl) ?_
    obtain ⟨v3, e4, hs⟩ := ob hs
    refine pg_iaload C hw (t0 := 0) rfl e4 d_AdjoinedSetsModel_prove_240 ?_
    refine lv_goto hx hb d_AdjoinedSetsModel_prove_241 (tgt := 245) (by decide) ?_
    exact k_AdjoinedSetsModel_prove_245 C hw (lv_sub hl [0, 3] rfl) hs

def s_AdjoinedSetsModel_prove_157 : Nat → Nat → Int32 → Int32 → Int32 → Int32 → Int32 → Int32 → HP → Option (Int32 × HP)
  | 0 => fun _ _ _ _ _ _ _ _ => none
  | k + 1 => fun x0 x2 x3 x4 x5 x7 x8 h =>
  (gI h x0 9 1).bind fun v1 =>
  if v1 ≤ x8 then (
    (gR h x0 9 5).bind fun v3 =>
    (gI h x0 9 1).bind fun v5 =>
    (uI h v3 0 x7 v5).bind fun h7 =>
    (gR h7 x0 9 6).bind fun v9 =>
    if x4 = 0 then (
      s_AdjoinedSetsModel_prove_229 x0 x3 x5 x7 v9 x7 ((1 : Int32) <<< (x7 &&& 31)) 0 h7)
    else (
      (gR h7 x0 9 6).bind fun v11 =>
      (aI h7 v11 0 x2).bind fun v13 =>
      s_AdjoinedSetsModel_prove_229 x0 x3 x5 x7 v9 x7 ((1 : Int32) <<< (x7 &&& 31)) v13 h7))
  else (
    (gR h x0 9 0).bind fun v15 =>
    (kd x0 9).bind fun _ =>
    (s_AdjoinedSetsModel_theoremAt x0 x7).bind fun q18 =>
    (gR h x0 9 0).bind fun v20 =>
    (aI h v20 0 x8).bind fun v22 =>
    (uI h v15 0 (q18 + x8) v22).bind fun h24 =>
    (s_AdjoinedSetsModel_prove_157 k) x0 x2 x3 x4 x5 x7 (x8 + 1) h24)
set_option maxHeartbeats 4000000 in
set_option maxRecDepth 100000 in
theorem k_AdjoinedSetsModel_prove_157 {z : Int32 × HP} (C : CX g R_AdjoinedSetsModel b_AdjoinedSetsModel_prove 9 (some .int) p s m args meth c) : ∀ (k : Nat) {x0 : Nat} {x2 : Int32} {x3 : Int32} {x4 : Int32} {x5 : Int32} {x7 : Int32} {x8 : Int32} {h : HP} {H : Heap} {locs : List Loc} {ls : Array Slot}, WD g h s.heap H locs → lv_has ls 9 [(0, .ref (aD g x0)), (2, .int x2), (3, .int x3), (4, .int x4), (5, .int x5), (7, .int x7), (8, .int x8)] → s_AdjoinedSetsModel_prove_157 k x0 x2 x3 x4 x5 x7 x8 h = some z → W p l e (rmS 8 188) s m args below meth c H locs 0 0 (MQ below (Qq g (some (.int z.1)) z.2) args s 0 0 (inA g)) (F0 m 157 ls []) := by
  have hx := C.1
  have hb := C.2.1
  intro k
  induction k with
  | zero =>
    intro x0 x2 x3 x4 x5 x7 x8 h H locs ls hw hl hs
    exact (no_s hs).elim
  | succ k ih =>
    intro x0 x2 x3 x4 x5 x7 x8 h H locs ls hw hl hs
    rw [s_AdjoinedSetsModel_prove_157] at hs
    refine lv_iload hx hb d_AdjoinedSetsModel_prove_157 (lv_at hl 6 rfl) ?_
    refine lv_aload_n hx hb d_AdjoinedSetsModel_prove_159 rfl (lv_at hl 0 rfl) ?_
    obtain ⟨v1, e2, hs⟩ := ob hs
    refine pg_getI C hw fl_AdjoinedSetsModel_124 e2 d_AdjoinedSetsModel_prove_160 ?_
    refine lv_icmp_ge hx hb d_AdjoinedSetsModel_prove_163 (tgt := 193) (by decide) (fun hc => ?_) (fun hc => ?_)
    · have hs := oi_t hc hs
      refine lv_aload_n hx hb d_AdjoinedSetsModel_prove_193 rfl (lv_at hl 0 rfl) ?_
      obtain ⟨v3, e4, hs⟩ := ob hs
      refine pg_getR C hw fl_AdjoinedSetsModel_20 e4 d_AdjoinedSetsModel_prove_194 ?_
      refine lv_iload hx hb d_AdjoinedSetsModel_prove_197 (lv_at hl 5 rfl) ?_
      refine lv_aload_n hx hb d_AdjoinedSetsModel_prove_199 rfl (lv_at hl 0 rfl) ?_
      obtain ⟨v5, e6, hs⟩ := ob hs
      refine pg_getI C hw fl_AdjoinedSetsModel_124 e6 d_AdjoinedSetsModel_prove_200 ?_
      obtain ⟨h7, e8, hs⟩ := ob hs
      refine pg_iastore C hw (t0 := 0) rfl e8 d_AdjoinedSetsModel_prove_203 (fun H locs hw => ?_)
      refine lv_aload_n hx hb d_AdjoinedSetsModel_prove_204 rfl (lv_at hl 0 rfl) ?_
      obtain ⟨v9, e10, hs⟩ := ob hs
      refine pg_getR C hw fl_AdjoinedSetsModel_23 e10 d_AdjoinedSetsModel_prove_205 ?_
      refine lv_iload hx hb d_AdjoinedSetsModel_prove_208 (lv_at hl 5 rfl) ?_
      refine lv_iconst (v := 1) hx hb d_AdjoinedSetsModel_prove_210 (by decide) ?_
      refine lv_iload hx hb d_AdjoinedSetsModel_prove_211 (lv_at hl 5 rfl) ?_
      refine lv_ishl hx hb d_AdjoinedSetsModel_prove_213 ?_
      refine lv_iload hx hb d_AdjoinedSetsModel_prove_214 (lv_at hl 3 rfl) ?_
      refine lv_if_eq hx hb d_AdjoinedSetsModel_prove_216 (tgt := 228) (by decide) (fun hc => ?_) (fun hc => ?_)
      · have hs := oi_t hc hs
        refine lv_iconst (v := 0) hx hb d_AdjoinedSetsModel_prove_228 (by decide) ?_
        exact k_AdjoinedSetsModel_prove_229 C hw (lv_sub hl [0, 2, 4, 5] rfl) hs
      · have hs := oi_f hc hs
        refine lv_aload_n hx hb d_AdjoinedSetsModel_prove_219 rfl (lv_at hl 0 rfl) ?_
        obtain ⟨v11, e12, hs⟩ := ob hs
        refine pg_getR C hw fl_AdjoinedSetsModel_23 e12 d_AdjoinedSetsModel_prove_220 ?_
        refine lv_iload_n hx hb d_AdjoinedSetsModel_prove_223 rfl (lv_at hl 1 rfl) ?_
        obtain ⟨v13, e14, hs⟩ := ob hs
        refine pg_iaload C hw (t0 := 0) rfl e14 d_AdjoinedSetsModel_prove_224 ?_
        refine lv_goto hx hb d_AdjoinedSetsModel_prove_225 (tgt := 229) (by decide) ?_
        exact k_AdjoinedSetsModel_prove_229 C hw (lv_sub hl [0, 2, 4, 5] rfl) hs
    · have hs := oi_f hc hs
      refine lv_aload_n hx hb d_AdjoinedSetsModel_prove_166 rfl (lv_at hl 0 rfl) ?_
      obtain ⟨v15, e16, hs⟩ := ob hs
      refine pg_getR C hw fl_AdjoinedSetsModel_7 e16 d_AdjoinedSetsModel_prove_167 ?_
      refine lv_aload_n hx hb d_AdjoinedSetsModel_prove_170 rfl (lv_at hl 0 rfl) ?_
      refine lv_iload hx hb d_AdjoinedSetsModel_prove_171 (lv_at hl 5 rfl) ?_
      obtain ⟨_, e17, hs⟩ := ob hs
      obtain ⟨q18, e19, hs⟩ := ob hs
      refine pg_callV C hw hl.1 ml_AdjoinedSetsModel_271 e17 (As := [.int x7]) (rest := [.ref (aD g v15)]) (c_AdjoinedSetsModel_theoremAt l g e19) rfl (rm_ok (Nat.le_of_ble_eq_true rfl) (Nat.le_of_ble_eq_true rfl)) (Nat.le_of_ble_eq_true rfl) rfl (st1 := [.int q18, .ref (aD g v15)]) rfl d_AdjoinedSetsModel_prove_173 (fun H locs hw => ?_)
      refine lv_iload hx hb d_AdjoinedSetsModel_prove_176 (lv_at hl 6 rfl) ?_
      refine lv_iadd hx hb d_AdjoinedSetsModel_prove_178 ?_
      refine lv_aload_n hx hb d_AdjoinedSetsModel_prove_179 rfl (lv_at hl 0 rfl) ?_
      obtain ⟨v20, e21, hs⟩ := ob hs
      refine pg_getR C hw fl_AdjoinedSetsModel_7 e21 d_AdjoinedSetsModel_prove_180 ?_
      refine lv_iload hx hb d_AdjoinedSetsModel_prove_183 (lv_at hl 6 rfl) ?_
      obtain ⟨v22, e23, hs⟩ := ob hs
      refine pg_iaload C hw (t0 := 0) rfl e23 d_AdjoinedSetsModel_prove_185 ?_
      obtain ⟨h24, e25, hs⟩ := ob hs
      refine pg_iastore C hw (t0 := 0) rfl e25 d_AdjoinedSetsModel_prove_186 (fun H locs hw => ?_)
      refine lv_iinc hx hb d_AdjoinedSetsModel_prove_187 hl (k := 6) rfl (v := (x8 + 1)) (iinc_e _ (by decide)) (by decide) (lv' := [(8, .int (x8 + 1)), (0, .ref (aD g x0)), (2, .int x2), (3, .int x3), (4, .int x4), (5, .int x5), (7, .int x7)]) rfl (fun ls hl => ?_)
      refine lv_goto hx hb d_AdjoinedSetsModel_prove_190 (tgt := 157) (by decide) ?_
      exact ih hw (lv_sub hl [1, 2, 3, 4, 5, 6, 0] rfl) hs

def s_AdjoinedSetsModel_prove_147 (x0 : Nat) (x2 : Int32) (x3 : Int32) (x4 : Int32) (x5 : Int32) (t0 : Int32) (h : HP) : Option (Int32 × HP) :=
  if t0 < 0 then (
    (pI h x0 9 1 0).bind fun h1 =>
    some (t0, h1))
  else (
    s_AdjoinedSetsModel_prove_157 20000 x0 x2 x3 x4 x5 t0 0 h)
set_option maxHeartbeats 4000000 in
set_option maxRecDepth 100000 in
theorem k_AdjoinedSetsModel_prove_147 {x0 : Nat} {x2 : Int32} {x3 : Int32} {x4 : Int32} {x5 : Int32} {t0 : Int32} {h : HP} {z : Int32 × HP} (C : CX g R_AdjoinedSetsModel b_AdjoinedSetsModel_prove 9 (some .int) p s m args meth c) {H : Heap} {locs : List Loc} {ls : Array Slot} (hw : WD g h s.heap H locs) (hl : lv_has ls 9 [(0, .ref (aD g x0)), (2, .int x2), (3, .int x3), (4, .int x4), (5, .int x5)]) (hs : s_AdjoinedSetsModel_prove_147 x0 x2 x3 x4 x5 t0 h = some z) : W p l e (rmS 8 188) s m args below meth c H locs 0 0 (MQ below (Qq g (some (.int z.1)) z.2) args s 0 0 (inA g)) (F0 m 147 ls [.int t0]) := by
  unfold s_AdjoinedSetsModel_prove_147 at hs
  have hx := C.1
  have hb := C.2.1
  refine lv_istore hx hb d_AdjoinedSetsModel_prove_147 hl (by decide) (lv' := [(7, .int t0), (0, .ref (aD g x0)), (2, .int x2), (3, .int x3), (4, .int x4), (5, .int x5)]) rfl (fun ls hl => ?_)
  refine lv_iload hx hb d_AdjoinedSetsModel_prove_149 (lv_at hl 0 rfl) ?_
  refine lv_if_lt hx hb d_AdjoinedSetsModel_prove_151 (tgt := 257) (by decide) (fun hc => ?_) (fun hc => ?_)
  · have hs := oi_t hc hs
    refine lv_aload_n hx hb d_AdjoinedSetsModel_prove_257 rfl (lv_at hl 1 rfl) ?_
    refine lv_iconst (v := 0) hx hb d_AdjoinedSetsModel_prove_258 (by decide) ?_
    obtain ⟨h1, e2, hs⟩ := ob hs
    refine pg_putI C hw pl_AdjoinedSetsModel_124 e2 d_AdjoinedSetsModel_prove_259 (fun H locs hw => ?_)
    refine lv_iload hx hb d_AdjoinedSetsModel_prove_262 (lv_at hl 0 rfl) ?_
    obtain rfl := Option.some.inj hs
    exact pg_iret C hw d_AdjoinedSetsModel_prove_264
  · have hs := oi_f hc hs
    refine lv_iconst (v := 0) hx hb d_AdjoinedSetsModel_prove_154 (by decide) ?_
    refine lv_istore hx hb d_AdjoinedSetsModel_prove_155 hl (by decide) (lv' := [(8, .int 0), (7, .int t0), (0, .ref (aD g x0)), (2, .int x2), (3, .int x3), (4, .int x4), (5, .int x5)]) rfl (fun ls hl => ?_)
    exact k_AdjoinedSetsModel_prove_157 C 20000 hw (lv_sub hl [2, 3, 4, 5, 6, 1, 0] rfl) hs

def s_AdjoinedSetsModel_prove_92 (x0 : Nat) (x1 : Int32) (x2 : Int32) (x3 : Int32) (x4 : Int32) (x5 : Int32) (h : HP) : Option (Int32 × HP) :=
  (kd x0 9).bind fun _ =>
  (s_AdjoinedSetsModel_wrong x0 1 (-1) 0 h).bind fun q2 =>
  if q2.1 < 0 then (
    (gI q2.2 x0 9 4).bind fun v4 =>
    if v4 = 16 then (
      s_AdjoinedSetsModel_prove_147 x0 x2 x3 x4 x5 (-2) q2.2)
    else (
      (kd x0 9).bind fun _ =>
      (s_AdjoinedSetsModel_allows x0 x1 x2 x3 q2.2).bind fun q7 =>
      if q7.1 = 0 then (
        s_AdjoinedSetsModel_prove_147 x0 x2 x3 x4 x5 (-4) q7.2)
      else (
        (gI q7.2 x0 9 4).bind fun v9 =>
        s_AdjoinedSetsModel_prove_147 x0 x2 x3 x4 x5 v9 q7.2)))
  else (
    s_AdjoinedSetsModel_prove_147 x0 x2 x3 x4 x5 ((-100) - q2.1) q2.2)
set_option maxHeartbeats 4000000 in
set_option maxRecDepth 100000 in
theorem k_AdjoinedSetsModel_prove_92 {x0 : Nat} {x1 : Int32} {x2 : Int32} {x3 : Int32} {x4 : Int32} {x5 : Int32} {h : HP} {z : Int32 × HP} (C : CX g R_AdjoinedSetsModel b_AdjoinedSetsModel_prove 9 (some .int) p s m args meth c) {H : Heap} {locs : List Loc} {ls : Array Slot} (hw : WD g h s.heap H locs) (hl : lv_has ls 9 [(0, .ref (aD g x0)), (1, .int x1), (2, .int x2), (3, .int x3), (4, .int x4), (5, .int x5)]) (hs : s_AdjoinedSetsModel_prove_92 x0 x1 x2 x3 x4 x5 h = some z) : W p l e (rmS 8 188) s m args below meth c H locs 0 0 (MQ below (Qq g (some (.int z.1)) z.2) args s 0 0 (inA g)) (F0 m 92 ls []) := by
  unfold s_AdjoinedSetsModel_prove_92 at hs
  have hx := C.1
  have hb := C.2.1
  refine lv_aload_n hx hb d_AdjoinedSetsModel_prove_92 rfl (lv_at hl 0 rfl) ?_
  refine lv_iconst (v := 1) hx hb d_AdjoinedSetsModel_prove_93 (by decide) ?_
  refine lv_iconst (v := (-1)) hx hb d_AdjoinedSetsModel_prove_94 (by decide) ?_
  refine lv_iconst (v := 0) hx hb d_AdjoinedSetsModel_prove_95 (by decide) ?_
  obtain ⟨_, e1, hs⟩ := ob hs
  obtain ⟨q2, e3, hs⟩ := ob hs
  refine pg_callV C hw hl.1 ml_AdjoinedSetsModel_156 e1 (As := [.int 1, .int (-1), .int 0]) (rest := []) (c_AdjoinedSetsModel_wrong l g e3) rfl (rm_ok (Nat.le_of_ble_eq_true rfl) (Nat.le_of_ble_eq_true rfl)) (Nat.le_of_ble_eq_true rfl) rfl (st1 := [.int q2.1]) rfl d_AdjoinedSetsModel_prove_96 (fun H locs hw => ?_)
  refine lv_istore hx hb d_AdjoinedSetsModel_prove_99 hl (by decide) (lv' := [(6, .int q2.1), (0, .ref (aD g x0)), (1, .int x1), (2, .int x2), (3, .int x3), (4, .int x4), (5, .int x5)]) rfl (fun ls hl => ?_)
  refine lv_iload hx hb d_AdjoinedSetsModel_prove_101 (lv_at hl 0 rfl) ?_
  refine lv_if_lt hx hb d_AdjoinedSetsModel_prove_103 (tgt := 114) (by decide) (fun hc => ?_) (fun hc => ?_)
  · have hs := oi_t hc hs
    refine lv_aload_n hx hb d_AdjoinedSetsModel_prove_114 rfl (lv_at hl 1 rfl) ?_
    obtain ⟨v4, e5, hs⟩ := ob hs
    refine pg_getI C hw fl_AdjoinedSetsModel_300 e5 d_AdjoinedSetsModel_prove_115 ?_
    refine lv_bipush (v := 16) hx hb d_AdjoinedSetsModel_prove_118 (by decide) ?_
    refine lv_icmp_ne hx hb d_AdjoinedSetsModel_prove_120 (tgt := 128) (by decide) (fun hc => ?_) (fun hc => ?_)
    · have hs := oi_f hc hs
      refine lv_aload_n hx hb d_AdjoinedSetsModel_prove_128 rfl (lv_at hl 1 rfl) ?_
      refine lv_iload_n hx hb d_AdjoinedSetsModel_prove_129 rfl (lv_at hl 2 rfl) ?_
      refine lv_iload_n hx hb d_AdjoinedSetsModel_prove_130 rfl (lv_at hl 3 rfl) ?_
      refine lv_iload_n hx hb d_AdjoinedSetsModel_prove_131 rfl (lv_at hl 4 rfl) ?_
      obtain ⟨_, e6, hs⟩ := ob hs
      obtain ⟨q7, e8, hs⟩ := ob hs
      refine pg_callV C hw hl.1 ml_AdjoinedSetsModel_306 e6 (As := [.int x1, .int x2, .int x3]) (rest := []) (c_AdjoinedSetsModel_allows l g e8) rfl (rm_ok (Nat.le_of_ble_eq_true rfl) (Nat.le_of_ble_eq_true rfl)) (Nat.le_of_ble_eq_true rfl) rfl (st1 := [.int q7.1]) rfl d_AdjoinedSetsModel_prove_132 (fun H locs hw => ?_)
      refine lv_if_eq hx hb d_AdjoinedSetsModel_prove_135 (tgt := 145) (by decide) (fun hc => ?_) (fun hc => ?_)
      · have hs := oi_t hc hs
        refine lv_bipush (v := (-4)) hx hb d_AdjoinedSetsModel_prove_145 (by decide) ?_
        exact k_AdjoinedSetsModel_prove_147 C hw (lv_sub hl [1, 3, 4, 5, 6] rfl) hs
      · have hs := oi_f hc hs
        refine lv_aload_n hx hb d_AdjoinedSetsModel_prove_138 rfl (lv_at hl 1 rfl) ?_
        obtain ⟨v9, e10, hs⟩ := ob hs
        refine pg_getI C hw fl_AdjoinedSetsModel_300 e10 d_AdjoinedSetsModel_prove_139 ?_
        refine lv_goto hx hb d_AdjoinedSetsModel_prove_142 (tgt := 147) (by decide) ?_
        exact k_AdjoinedSetsModel_prove_147 C hw (lv_sub hl [1, 3, 4, 5, 6] rfl) hs
    · have hs := oi_t hc hs
      refine lv_bipush (v := (-2)) hx hb d_AdjoinedSetsModel_prove_123 (by decide) ?_
      refine lv_goto hx hb d_AdjoinedSetsModel_prove_125 (tgt := 147) (by decide) ?_
      exact k_AdjoinedSetsModel_prove_147 C hw (lv_sub hl [1, 3, 4, 5, 6] rfl) hs
  · have hs := oi_f hc hs
    refine lv_bipush (v := (-100)) hx hb d_AdjoinedSetsModel_prove_106 (by decide) ?_
    refine lv_iload hx hb d_AdjoinedSetsModel_prove_108 (lv_at hl 0 rfl) ?_
    refine lv_isub hx hb d_AdjoinedSetsModel_prove_110 ?_
    refine lv_goto hx hb d_AdjoinedSetsModel_prove_111 (tgt := 147) (by decide) ?_
    exact k_AdjoinedSetsModel_prove_147 C hw (lv_sub hl [1, 3, 4, 5, 6] rfl) hs

def s_AdjoinedSetsModel_prove_74 (x0 : Nat) (x1 : Int32) (x2 : Int32) (x3 : Int32) (x4 : Int32) (x5 : Int32) (h : HP) : Option (Int32 × HP) :=
  if x1 = 10 then (
    if x3 < 0 then (
      some ((-1), h))
    else (
      if x3 ≤ 7 then (
        s_AdjoinedSetsModel_prove_92 x0 x1 x2 x3 x4 x5 h)
      else (
        some ((-1), h))))
  else (
    s_AdjoinedSetsModel_prove_92 x0 x1 x2 x3 x4 x5 h)
set_option maxHeartbeats 4000000 in
set_option maxRecDepth 100000 in
theorem k_AdjoinedSetsModel_prove_74 {x0 : Nat} {x1 : Int32} {x2 : Int32} {x3 : Int32} {x4 : Int32} {x5 : Int32} {h : HP} {z : Int32 × HP} (C : CX g R_AdjoinedSetsModel b_AdjoinedSetsModel_prove 9 (some .int) p s m args meth c) {H : Heap} {locs : List Loc} {ls : Array Slot} (hw : WD g h s.heap H locs) (hl : lv_has ls 9 [(0, .ref (aD g x0)), (1, .int x1), (2, .int x2), (3, .int x3), (4, .int x4), (5, .int x5)]) (hs : s_AdjoinedSetsModel_prove_74 x0 x1 x2 x3 x4 x5 h = some z) : W p l e (rmS 8 188) s m args below meth c H locs 0 0 (MQ below (Qq g (some (.int z.1)) z.2) args s 0 0 (inA g)) (F0 m 74 ls []) := by
  unfold s_AdjoinedSetsModel_prove_74 at hs
  have hx := C.1
  have hb := C.2.1
  refine lv_iload_n hx hb d_AdjoinedSetsModel_prove_74 rfl (lv_at hl 1 rfl) ?_
  refine lv_bipush (v := 10) hx hb d_AdjoinedSetsModel_prove_75 (by decide) ?_
  refine lv_icmp_ne hx hb d_AdjoinedSetsModel_prove_77 (tgt := 92) (by decide) (fun hc => ?_) (fun hc => ?_)
  · have hs := oi_f hc hs
    exact k_AdjoinedSetsModel_prove_92 C hw (lv_sub hl [0, 1, 2, 3, 4, 5] rfl) hs
  · have hs := oi_t hc hs
    refine lv_iload_n hx hb d_AdjoinedSetsModel_prove_80 rfl (lv_at hl 3 rfl) ?_
    refine lv_if_lt hx hb d_AdjoinedSetsModel_prove_81 (tgt := 90) (by decide) (fun hc => ?_) (fun hc => ?_)
    · have hs := oi_t hc hs
      refine lv_iconst (v := (-1)) hx hb d_AdjoinedSetsModel_prove_90 (by decide) ?_
      obtain rfl := Option.some.inj hs
      exact pg_iret C hw d_AdjoinedSetsModel_prove_91
    · have hs := oi_f hc hs
      refine lv_iload_n hx hb d_AdjoinedSetsModel_prove_84 rfl (lv_at hl 3 rfl) ?_
      refine lv_bipush (v := 7) hx hb d_AdjoinedSetsModel_prove_85 (by decide) ?_
      refine lv_icmp_le hx hb d_AdjoinedSetsModel_prove_87 (tgt := 92) (by decide) (fun hc => ?_) (fun hc => ?_)
      · have hs := oi_t hc hs
        exact k_AdjoinedSetsModel_prove_92 C hw (lv_sub hl [0, 1, 2, 3, 4, 5] rfl) hs
      · have hs := oi_f hc hs
        refine lv_iconst (v := (-1)) hx hb d_AdjoinedSetsModel_prove_90 (by decide) ?_
        obtain rfl := Option.some.inj hs
        exact pg_iret C hw d_AdjoinedSetsModel_prove_91

def s_AdjoinedSetsModel_prove_61 (x0 : Nat) (x1 : Int32) (x2 : Int32) (x3 : Int32) (x4 : Int32) (x5 : Int32) (h : HP) : Option (Int32 × HP) :=
  if x5 = 0 then (
    s_AdjoinedSetsModel_prove_74 x0 x1 x2 x3 x4 x5 h)
  else (
    (kd x0 9).bind fun _ =>
    (s_AdjoinedSetsModel_isTheorem x0 x3 h).bind fun q2 =>
    if q2 = 0 then (
      some ((-1), h))
    else (
      s_AdjoinedSetsModel_prove_74 x0 x1 x2 x3 x4 x5 h))
set_option maxHeartbeats 4000000 in
set_option maxRecDepth 100000 in
theorem k_AdjoinedSetsModel_prove_61 {x0 : Nat} {x1 : Int32} {x2 : Int32} {x3 : Int32} {x4 : Int32} {x5 : Int32} {h : HP} {z : Int32 × HP} (C : CX g R_AdjoinedSetsModel b_AdjoinedSetsModel_prove 9 (some .int) p s m args meth c) {H : Heap} {locs : List Loc} {ls : Array Slot} (hw : WD g h s.heap H locs) (hl : lv_has ls 9 [(0, .ref (aD g x0)), (1, .int x1), (2, .int x2), (3, .int x3), (4, .int x4), (5, .int x5)]) (hs : s_AdjoinedSetsModel_prove_61 x0 x1 x2 x3 x4 x5 h = some z) : W p l e (rmS 8 188) s m args below meth c H locs 0 0 (MQ below (Qq g (some (.int z.1)) z.2) args s 0 0 (inA g)) (F0 m 61 ls []) := by
  unfold s_AdjoinedSetsModel_prove_61 at hs
  have hx := C.1
  have hb := C.2.1
  refine lv_iload hx hb d_AdjoinedSetsModel_prove_61 (lv_at hl 5 rfl) ?_
  refine lv_if_eq hx hb d_AdjoinedSetsModel_prove_63 (tgt := 74) (by decide) (fun hc => ?_) (fun hc => ?_)
  · have hs := oi_t hc hs
    exact k_AdjoinedSetsModel_prove_74 C hw (lv_sub hl [0, 1, 2, 3, 4, 5] rfl) hs
  · have hs := oi_f hc hs
    refine lv_aload_n hx hb d_AdjoinedSetsModel_prove_66 rfl (lv_at hl 0 rfl) ?_
    refine lv_iload_n hx hb d_AdjoinedSetsModel_prove_67 rfl (lv_at hl 3 rfl) ?_
    obtain ⟨_, e1, hs⟩ := ob hs
    obtain ⟨q2, e3, hs⟩ := ob hs
    refine pg_callV C hw hl.1 ml_AdjoinedSetsModel_303 e1 (As := [.int x3]) (rest := []) (c_AdjoinedSetsModel_isTheorem l g e3) rfl (rm_ok (Nat.le_of_ble_eq_true rfl) (Nat.le_of_ble_eq_true rfl)) (Nat.le_of_ble_eq_true rfl) rfl (st1 := [.int q2]) rfl d_AdjoinedSetsModel_prove_68 (fun H locs hw => ?_)
    refine lv_if_eq hx hb d_AdjoinedSetsModel_prove_71 (tgt := 90) (by decide) (fun hc => ?_) (fun hc => ?_)
    · have hs := oi_t hc hs
      refine lv_iconst (v := (-1)) hx hb d_AdjoinedSetsModel_prove_90 (by decide) ?_
      obtain rfl := Option.some.inj hs
      exact pg_iret C hw d_AdjoinedSetsModel_prove_91
    · have hs := oi_f hc hs
      exact k_AdjoinedSetsModel_prove_74 C hw (lv_sub hl [0, 1, 2, 3, 4, 5] rfl) hs

def s_AdjoinedSetsModel_prove_36 (x0 : Nat) (x1 : Int32) (x2 : Int32) (x3 : Int32) (x4 : Int32) (t0 : Int32) (h : HP) : Option (Int32 × HP) :=
  if x1 < 0 then (
    some ((-1), h))
  else (
    if 17 < x1 then (
      some ((-1), h))
    else (
      if x4 = 0 then (
        s_AdjoinedSetsModel_prove_61 x0 x1 x2 x3 x4 t0 h)
      else (
        (kd x0 9).bind fun _ =>
        (s_AdjoinedSetsModel_isTheorem x0 x2 h).bind fun q2 =>
        if q2 = 0 then (
          some ((-1), h))
        else (
          s_AdjoinedSetsModel_prove_61 x0 x1 x2 x3 x4 t0 h))))
set_option maxHeartbeats 4000000 in
set_option maxRecDepth 100000 in
theorem k_AdjoinedSetsModel_prove_36 {x0 : Nat} {x1 : Int32} {x2 : Int32} {x3 : Int32} {x4 : Int32} {t0 : Int32} {h : HP} {z : Int32 × HP} (C : CX g R_AdjoinedSetsModel b_AdjoinedSetsModel_prove 9 (some .int) p s m args meth c) {H : Heap} {locs : List Loc} {ls : Array Slot} (hw : WD g h s.heap H locs) (hl : lv_has ls 9 [(0, .ref (aD g x0)), (1, .int x1), (2, .int x2), (3, .int x3), (4, .int x4)]) (hs : s_AdjoinedSetsModel_prove_36 x0 x1 x2 x3 x4 t0 h = some z) : W p l e (rmS 8 188) s m args below meth c H locs 0 0 (MQ below (Qq g (some (.int z.1)) z.2) args s 0 0 (inA g)) (F0 m 36 ls [.int t0]) := by
  unfold s_AdjoinedSetsModel_prove_36 at hs
  have hx := C.1
  have hb := C.2.1
  refine lv_istore hx hb d_AdjoinedSetsModel_prove_36 hl (by decide) (lv' := [(5, .int t0), (0, .ref (aD g x0)), (1, .int x1), (2, .int x2), (3, .int x3), (4, .int x4)]) rfl (fun ls hl => ?_)
  refine lv_iload_n hx hb d_AdjoinedSetsModel_prove_38 rfl (lv_at hl 2 rfl) ?_
  refine lv_if_lt hx hb d_AdjoinedSetsModel_prove_39 (tgt := 90) (by decide) (fun hc => ?_) (fun hc => ?_)
  · have hs := oi_t hc hs
    refine lv_iconst (v := (-1)) hx hb d_AdjoinedSetsModel_prove_90 (by decide) ?_
    obtain rfl := Option.some.inj hs
    exact pg_iret C hw d_AdjoinedSetsModel_prove_91
  · have hs := oi_f hc hs
    refine lv_iload_n hx hb d_AdjoinedSetsModel_prove_42 rfl (lv_at hl 2 rfl) ?_
    refine lv_bipush (v := 17) hx hb d_AdjoinedSetsModel_prove_43 (by decide) ?_
    refine lv_icmp_gt hx hb d_AdjoinedSetsModel_prove_45 (tgt := 90) (by decide) (fun hc => ?_) (fun hc => ?_)
    · have hs := oi_t hc hs
      refine lv_iconst (v := (-1)) hx hb d_AdjoinedSetsModel_prove_90 (by decide) ?_
      obtain rfl := Option.some.inj hs
      exact pg_iret C hw d_AdjoinedSetsModel_prove_91
    · have hs := oi_f hc hs
      refine lv_iload hx hb d_AdjoinedSetsModel_prove_48 (lv_at hl 5 rfl) ?_
      refine lv_if_eq hx hb d_AdjoinedSetsModel_prove_50 (tgt := 61) (by decide) (fun hc => ?_) (fun hc => ?_)
      · have hs := oi_t hc hs
        exact k_AdjoinedSetsModel_prove_61 C hw (lv_sub hl [1, 2, 3, 4, 5, 0] rfl) hs
      · have hs := oi_f hc hs
        refine lv_aload_n hx hb d_AdjoinedSetsModel_prove_53 rfl (lv_at hl 1 rfl) ?_
        refine lv_iload_n hx hb d_AdjoinedSetsModel_prove_54 rfl (lv_at hl 3 rfl) ?_
        obtain ⟨_, e1, hs⟩ := ob hs
        obtain ⟨q2, e3, hs⟩ := ob hs
        refine pg_callV C hw hl.1 ml_AdjoinedSetsModel_303 e1 (As := [.int x2]) (rest := []) (c_AdjoinedSetsModel_isTheorem l g e3) rfl (rm_ok (Nat.le_of_ble_eq_true rfl) (Nat.le_of_ble_eq_true rfl)) (Nat.le_of_ble_eq_true rfl) rfl (st1 := [.int q2]) rfl d_AdjoinedSetsModel_prove_55 (fun H locs hw => ?_)
        refine lv_if_eq hx hb d_AdjoinedSetsModel_prove_58 (tgt := 90) (by decide) (fun hc => ?_) (fun hc => ?_)
        · have hs := oi_t hc hs
          refine lv_iconst (v := (-1)) hx hb d_AdjoinedSetsModel_prove_90 (by decide) ?_
          obtain rfl := Option.some.inj hs
          exact pg_iret C hw d_AdjoinedSetsModel_prove_91
        · have hs := oi_f hc hs
          exact k_AdjoinedSetsModel_prove_61 C hw (lv_sub hl [1, 2, 3, 4, 5, 0] rfl) hs

def s_AdjoinedSetsModel_prove_31 (x0 : Nat) (x1 : Int32) (x2 : Int32) (x3 : Int32) (x4 : Int32) (h : HP) : Option (Int32 × HP) :=
  s_AdjoinedSetsModel_prove_36 x0 x1 x2 x3 x4 1 h
set_option maxHeartbeats 4000000 in
set_option maxRecDepth 100000 in
theorem k_AdjoinedSetsModel_prove_31 {x0 : Nat} {x1 : Int32} {x2 : Int32} {x3 : Int32} {x4 : Int32} {h : HP} {z : Int32 × HP} (C : CX g R_AdjoinedSetsModel b_AdjoinedSetsModel_prove 9 (some .int) p s m args meth c) {H : Heap} {locs : List Loc} {ls : Array Slot} (hw : WD g h s.heap H locs) (hl : lv_has ls 9 [(0, .ref (aD g x0)), (1, .int x1), (2, .int x2), (3, .int x3), (4, .int x4)]) (hs : s_AdjoinedSetsModel_prove_31 x0 x1 x2 x3 x4 h = some z) : W p l e (rmS 8 188) s m args below meth c H locs 0 0 (MQ below (Qq g (some (.int z.1)) z.2) args s 0 0 (inA g)) (F0 m 31 ls []) := by
  unfold s_AdjoinedSetsModel_prove_31 at hs
  have hx := C.1
  have hb := C.2.1
  refine lv_iconst (v := 1) hx hb d_AdjoinedSetsModel_prove_31 (by decide) ?_
  refine lv_goto hx hb d_AdjoinedSetsModel_prove_32 (tgt := 36) (by decide) ?_
  exact k_AdjoinedSetsModel_prove_36 C hw (lv_sub hl [0, 1, 2, 3, 4] rfl) hs

def s_AdjoinedSetsModel_prove_17 (x0 : Nat) (x1 : Int32) (x2 : Int32) (x3 : Int32) (t0 : Int32) (h : HP) : Option (Int32 × HP) :=
  if x1 = 9 then (
    s_AdjoinedSetsModel_prove_31 x0 x1 x2 x3 t0 h)
  else (
    if x1 = 12 then (
      s_AdjoinedSetsModel_prove_31 x0 x1 x2 x3 t0 h)
    else (
      s_AdjoinedSetsModel_prove_36 x0 x1 x2 x3 t0 0 h))
set_option maxHeartbeats 4000000 in
set_option maxRecDepth 100000 in
theorem k_AdjoinedSetsModel_prove_17 {x0 : Nat} {x1 : Int32} {x2 : Int32} {x3 : Int32} {t0 : Int32} {h : HP} {z : Int32 × HP} (C : CX g R_AdjoinedSetsModel b_AdjoinedSetsModel_prove 9 (some .int) p s m args meth c) {H : Heap} {locs : List Loc} {ls : Array Slot} (hw : WD g h s.heap H locs) (hl : lv_has ls 9 [(0, .ref (aD g x0)), (1, .int x1), (2, .int x2), (3, .int x3)]) (hs : s_AdjoinedSetsModel_prove_17 x0 x1 x2 x3 t0 h = some z) : W p l e (rmS 8 188) s m args below meth c H locs 0 0 (MQ below (Qq g (some (.int z.1)) z.2) args s 0 0 (inA g)) (F0 m 17 ls [.int t0]) := by
  unfold s_AdjoinedSetsModel_prove_17 at hs
  have hx := C.1
  have hb := C.2.1
  refine lv_istore hx hb d_AdjoinedSetsModel_prove_17 hl (by decide) (lv' := [(4, .int t0), (0, .ref (aD g x0)), (1, .int x1), (2, .int x2), (3, .int x3)]) rfl (fun ls hl => ?_)
  refine lv_iload_n hx hb d_AdjoinedSetsModel_prove_19 rfl (lv_at hl 2 rfl) ?_
  refine lv_bipush (v := 9) hx hb d_AdjoinedSetsModel_prove_20 (by decide) ?_
  refine lv_icmp_eq hx hb d_AdjoinedSetsModel_prove_22 (tgt := 31) (by decide) (fun hc => ?_) (fun hc => ?_)
  · have hs := oi_t hc hs
    exact k_AdjoinedSetsModel_prove_31 C hw (lv_sub hl [1, 2, 3, 4, 0] rfl) hs
  · have hs := oi_f hc hs
    refine lv_iload_n hx hb d_AdjoinedSetsModel_prove_25 rfl (lv_at hl 2 rfl) ?_
    refine lv_bipush (v := 12) hx hb d_AdjoinedSetsModel_prove_26 (by decide) ?_
    refine lv_icmp_ne hx hb d_AdjoinedSetsModel_prove_28 (tgt := 35) (by decide) (fun hc => ?_) (fun hc => ?_)
    · have hs := oi_f hc hs
      refine lv_iconst (v := 0) hx hb d_AdjoinedSetsModel_prove_35 (by decide) ?_
      exact k_AdjoinedSetsModel_prove_36 C hw (lv_sub hl [1, 2, 3, 4, 0] rfl) hs
    · have hs := oi_t hc hs
      exact k_AdjoinedSetsModel_prove_31 C hw (lv_sub hl [1, 2, 3, 4, 0] rfl) hs

def s_AdjoinedSetsModel_prove_16 (x0 : Nat) (x1 : Int32) (x2 : Int32) (x3 : Int32) (h : HP) : Option (Int32 × HP) :=
  s_AdjoinedSetsModel_prove_17 x0 x1 x2 x3 0 h
set_option maxHeartbeats 4000000 in
set_option maxRecDepth 100000 in
theorem k_AdjoinedSetsModel_prove_16 {x0 : Nat} {x1 : Int32} {x2 : Int32} {x3 : Int32} {h : HP} {z : Int32 × HP} (C : CX g R_AdjoinedSetsModel b_AdjoinedSetsModel_prove 9 (some .int) p s m args meth c) {H : Heap} {locs : List Loc} {ls : Array Slot} (hw : WD g h s.heap H locs) (hl : lv_has ls 9 [(0, .ref (aD g x0)), (1, .int x1), (2, .int x2), (3, .int x3)]) (hs : s_AdjoinedSetsModel_prove_16 x0 x1 x2 x3 h = some z) : W p l e (rmS 8 188) s m args below meth c H locs 0 0 (MQ below (Qq g (some (.int z.1)) z.2) args s 0 0 (inA g)) (F0 m 16 ls []) := by
  unfold s_AdjoinedSetsModel_prove_16 at hs
  have hx := C.1
  have hb := C.2.1
  refine lv_iconst (v := 0) hx hb d_AdjoinedSetsModel_prove_16 (by decide) ?_
  exact k_AdjoinedSetsModel_prove_17 C hw (lv_sub hl [0, 1, 2, 3] rfl) hs

def s_AdjoinedSetsModel_prove (x0 : Nat) (x1 : Int32) (x2 : Int32) (x3 : Int32) (h : HP) : Option (Int32 × HP) :=
  if x1 < 9 then (
    s_AdjoinedSetsModel_prove_16 x0 x1 x2 x3 h)
  else (
    if 12 < x1 then (
      s_AdjoinedSetsModel_prove_16 x0 x1 x2 x3 h)
    else (
      s_AdjoinedSetsModel_prove_17 x0 x1 x2 x3 1 h))
set_option maxHeartbeats 4000000 in
set_option maxRecDepth 100000 in
theorem c_AdjoinedSetsModel_prove (l : Launch) (g : GG) {x0 : Nat} {x1 : Int32} {x2 : Int32} {x3 : Int32} {h : HP} {z : Int32 × HP} (hs : s_AdjoinedSetsModel_prove x0 x1 x2 x3 h = some z) : Ct l g y_AdjoinedSetsModel_prove w_AdjoinedSetsModel_prove (rmS 8 188) [.ref (aD g x0), .int x1, .int x2, .int x3] h (some (.int z.1)) z.2 := by
  refine Ct.of (own := R_AdjoinedSetsModel) (by decide) rfl rfl (Nat.le_of_ble_eq_true rfl) ?_
  intro p e s m args below meth c ls C hl hw
  have hx := C.1
  have hb := C.2.1
  have hl : lv_has ls 9 [(0, .ref (aD g x0)), (1, .int x1), (2, .int x2), (3, .int x3)] := hl
  unfold s_AdjoinedSetsModel_prove at hs
  refine lv_iload_n hx hb d_AdjoinedSetsModel_prove_0 rfl (lv_at hl 1 rfl) ?_
  refine lv_bipush (v := 9) hx hb d_AdjoinedSetsModel_prove_1 (by decide) ?_
  refine lv_icmp_lt hx hb d_AdjoinedSetsModel_prove_3 (tgt := 16) (by decide) (fun hc => ?_) (fun hc => ?_)
  · have hs := oi_t hc hs
    exact k_AdjoinedSetsModel_prove_16 C hw (lv_sub hl [0, 1, 2, 3] rfl) hs
  · have hs := oi_f hc hs
    refine lv_iload_n hx hb d_AdjoinedSetsModel_prove_6 rfl (lv_at hl 1 rfl) ?_
    refine lv_bipush (v := 12) hx hb d_AdjoinedSetsModel_prove_7 (by decide) ?_
    refine lv_icmp_gt hx hb d_AdjoinedSetsModel_prove_9 (tgt := 16) (by decide) (fun hc => ?_) (fun hc => ?_)
    · have hs := oi_t hc hs
      exact k_AdjoinedSetsModel_prove_16 C hw (lv_sub hl [0, 1, 2, 3] rfl) hs
    · have hs := oi_f hc hs
      refine lv_iconst (v := 1) hx hb d_AdjoinedSetsModel_prove_12 (by decide) ?_
      refine lv_goto hx hb d_AdjoinedSetsModel_prove_13 (tgt := 17) (by decide) ?_
      exact k_AdjoinedSetsModel_prove_17 C hw (lv_sub hl [0, 1, 2, 3] rfl) hs

end
section
variable {p : Program} {l : Launch} {e : Env} {s : State} {m : MethodId} {args : Array Value} {below : List Frame} {meth : Method} {c : Code} {g : GG}
theorem d_AdjoinedSetsModel_truth_0 : decode b_AdjoinedSetsModel_truth 0 = .ok (.aload_n 0, 1) := by decide +kernel
theorem d_AdjoinedSetsModel_truth_1 : decode b_AdjoinedSetsModel_truth 1 = .ok (.iconst 1, 1) := by decide +kernel
theorem d_AdjoinedSetsModel_truth_2 : decode b_AdjoinedSetsModel_truth 2 = .ok (.iconst (-1), 1) := by decide +kernel
theorem d_AdjoinedSetsModel_truth_3 : decode b_AdjoinedSetsModel_truth 3 = .ok (.iconst 0, 1) := by decide +kernel
theorem d_AdjoinedSetsModel_truth_4 : decode b_AdjoinedSetsModel_truth 4 = .ok (.invokevirtual 156, 3) := by decide +kernel
theorem d_AdjoinedSetsModel_truth_7 : decode b_AdjoinedSetsModel_truth 7 = .ok (.istore_n 1, 1) := by decide +kernel
theorem d_AdjoinedSetsModel_truth_8 : decode b_AdjoinedSetsModel_truth 8 = .ok (.iload_n 1, 1) := by decide +kernel
theorem d_AdjoinedSetsModel_truth_9 : decode b_AdjoinedSetsModel_truth 9 = .ok (.ifCond .lt 10, 3) := by decide +kernel
theorem d_AdjoinedSetsModel_truth_12 : decode b_AdjoinedSetsModel_truth 12 = .ok (.bipush (-100), 2) := by decide +kernel
theorem d_AdjoinedSetsModel_truth_14 : decode b_AdjoinedSetsModel_truth 14 = .ok (.iload_n 1, 1) := by decide +kernel
theorem d_AdjoinedSetsModel_truth_15 : decode b_AdjoinedSetsModel_truth 15 = .ok (.isub, 1) := by decide +kernel
theorem d_AdjoinedSetsModel_truth_16 : decode b_AdjoinedSetsModel_truth 16 = .ok (.goto 9, 3) := by decide +kernel
theorem d_AdjoinedSetsModel_truth_19 : decode b_AdjoinedSetsModel_truth 19 = .ok (.aload_n 0, 1) := by decide +kernel
theorem d_AdjoinedSetsModel_truth_20 : decode b_AdjoinedSetsModel_truth 20 = .ok (.iconst 0, 1) := by decide +kernel
theorem d_AdjoinedSetsModel_truth_21 : decode b_AdjoinedSetsModel_truth 21 = .ok (.invokevirtual 230, 3) := by decide +kernel
theorem d_AdjoinedSetsModel_truth_24 : decode b_AdjoinedSetsModel_truth 24 = .ok (.l2i, 1) := by decide +kernel
theorem d_AdjoinedSetsModel_truth_25 : decode b_AdjoinedSetsModel_truth 25 = .ok (.istore_n 2, 1) := by decide +kernel
theorem d_AdjoinedSetsModel_truth_26 : decode b_AdjoinedSetsModel_truth 26 = .ok (.aload_n 0, 1) := by decide +kernel
theorem d_AdjoinedSetsModel_truth_27 : decode b_AdjoinedSetsModel_truth 27 = .ok (.iconst 0, 1) := by decide +kernel
theorem d_AdjoinedSetsModel_truth_28 : decode b_AdjoinedSetsModel_truth 28 = .ok (.putfield 124, 3) := by decide +kernel
theorem d_AdjoinedSetsModel_truth_31 : decode b_AdjoinedSetsModel_truth 31 = .ok (.iload_n 2, 1) := by decide +kernel
theorem d_AdjoinedSetsModel_truth_32 : decode b_AdjoinedSetsModel_truth 32 = .ok (.ireturn, 1) := by decide +kernel
def s_AdjoinedSetsModel_truth (x0 : Nat) (h : HP) : Option (Int32 × HP) :=
  (kd x0 9).bind fun _ =>
  (s_AdjoinedSetsModel_wrong x0 1 (-1) 0 h).bind fun q2 =>
  if q2.1 < 0 then (
    (kd x0 9).bind fun _ =>
    (s_AdjoinedSetsModel_work x0 0 q2.2).bind fun q5 =>
    (pI q5.2 x0 9 1 0).bind fun h7 =>
    some (q5.1.toInt32, h7))
  else (
    (pI q2.2 x0 9 1 0).bind fun h9 =>
    some (((-100) - q2.1), h9))
set_option maxHeartbeats 4000000 in
set_option maxRecDepth 100000 in
theorem c_AdjoinedSetsModel_truth (l : Launch) (g : GG) {x0 : Nat} {h : HP} {z : Int32 × HP} (hs : s_AdjoinedSetsModel_truth x0 h = some z) : Ct l g y_AdjoinedSetsModel_truth w_AdjoinedSetsModel_truth (rmS 6 133) [.ref (aD g x0)] h (some (.int z.1)) z.2 := by
  refine Ct.of (own := R_AdjoinedSetsModel) (by decide) rfl rfl (Nat.le_of_ble_eq_true rfl) ?_
  intro p e s m args below meth c ls C hl hw
  have hx := C.1
  have hb := C.2.1
  have hl : lv_has ls 3 [(0, .ref (aD g x0))] := hl
  unfold s_AdjoinedSetsModel_truth at hs
  refine lv_aload_n hx hb d_AdjoinedSetsModel_truth_0 rfl (lv_at hl 0 rfl) ?_
  refine lv_iconst (v := 1) hx hb d_AdjoinedSetsModel_truth_1 (by decide) ?_
  refine lv_iconst (v := (-1)) hx hb d_AdjoinedSetsModel_truth_2 (by decide) ?_
  refine lv_iconst (v := 0) hx hb d_AdjoinedSetsModel_truth_3 (by decide) ?_
  obtain ⟨_, e1, hs⟩ := ob hs
  obtain ⟨q2, e3, hs⟩ := ob hs
  refine pg_callV C hw hl.1 ml_AdjoinedSetsModel_156 e1 (As := [.int 1, .int (-1), .int 0]) (rest := []) (c_AdjoinedSetsModel_wrong l g e3) rfl (rm_ok (Nat.le_of_ble_eq_true rfl) (Nat.le_of_ble_eq_true rfl)) (Nat.le_of_ble_eq_true rfl) rfl (st1 := [.int q2.1]) rfl d_AdjoinedSetsModel_truth_4 (fun H locs hw => ?_)
  refine lv_istore_n hx hb d_AdjoinedSetsModel_truth_7 rfl hl (by decide) (lv' := [(1, .int q2.1), (0, .ref (aD g x0))]) rfl (fun ls hl => ?_)
  refine lv_iload_n hx hb d_AdjoinedSetsModel_truth_8 rfl (lv_at hl 0 rfl) ?_
  refine lv_if_lt hx hb d_AdjoinedSetsModel_truth_9 (tgt := 19) (by decide) (fun hc => ?_) (fun hc => ?_)
  · have hs := oi_t hc hs
    refine lv_aload_n hx hb d_AdjoinedSetsModel_truth_19 rfl (lv_at hl 1 rfl) ?_
    refine lv_iconst (v := 0) hx hb d_AdjoinedSetsModel_truth_20 (by decide) ?_
    obtain ⟨_, e4, hs⟩ := ob hs
    obtain ⟨q5, e6, hs⟩ := ob hs
    refine pg_callV C hw hl.1 ml_AdjoinedSetsModel_230 e4 (As := [.int 0]) (rest := []) (c_AdjoinedSetsModel_work l g e6) rfl (rm_ok (Nat.le_of_ble_eq_true rfl) (Nat.le_of_ble_eq_true rfl)) (Nat.le_of_ble_eq_true rfl) rfl (st1 := [.long q5.1]) rfl d_AdjoinedSetsModel_truth_21 (fun H locs hw => ?_)
    refine lv_l2i (v := q5.1.toInt32) hx hb d_AdjoinedSetsModel_truth_24 rfl ?_
    refine lv_istore_n hx hb d_AdjoinedSetsModel_truth_25 rfl hl (by decide) (lv' := [(2, .int q5.1.toInt32), (1, .int q2.1), (0, .ref (aD g x0))]) rfl (fun ls hl => ?_)
    refine lv_aload_n hx hb d_AdjoinedSetsModel_truth_26 rfl (lv_at hl 2 rfl) ?_
    refine lv_iconst (v := 0) hx hb d_AdjoinedSetsModel_truth_27 (by decide) ?_
    obtain ⟨h7, e8, hs⟩ := ob hs
    refine pg_putI C hw pl_AdjoinedSetsModel_124 e8 d_AdjoinedSetsModel_truth_28 (fun H locs hw => ?_)
    refine lv_iload_n hx hb d_AdjoinedSetsModel_truth_31 rfl (lv_at hl 0 rfl) ?_
    obtain rfl := Option.some.inj hs
    exact pg_iret C hw d_AdjoinedSetsModel_truth_32
  · have hs := oi_f hc hs
    refine lv_bipush (v := (-100)) hx hb d_AdjoinedSetsModel_truth_12 (by decide) ?_
    refine lv_iload_n hx hb d_AdjoinedSetsModel_truth_14 rfl (lv_at hl 0 rfl) ?_
    refine lv_isub hx hb d_AdjoinedSetsModel_truth_15 ?_
    refine lv_goto hx hb d_AdjoinedSetsModel_truth_16 (tgt := 25) (by decide) ?_
    refine lv_istore_n hx hb d_AdjoinedSetsModel_truth_25 rfl hl (by decide) (lv' := [(2, .int ((-100) - q2.1)), (1, .int q2.1), (0, .ref (aD g x0))]) rfl (fun ls hl => ?_)
    refine lv_aload_n hx hb d_AdjoinedSetsModel_truth_26 rfl (lv_at hl 2 rfl) ?_
    refine lv_iconst (v := 0) hx hb d_AdjoinedSetsModel_truth_27 (by decide) ?_
    obtain ⟨h9, e10, hs⟩ := ob hs
    refine pg_putI C hw pl_AdjoinedSetsModel_124 e10 d_AdjoinedSetsModel_truth_28 (fun H locs hw => ?_)
    refine lv_iload_n hx hb d_AdjoinedSetsModel_truth_31 rfl (lv_at hl 0 rfl) ?_
    obtain rfl := Option.some.inj hs
    exact pg_iret C hw d_AdjoinedSetsModel_truth_32

end
