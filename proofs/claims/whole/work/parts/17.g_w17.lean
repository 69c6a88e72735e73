section
variable {p : Program} {l : Launch} {e : Env} {s : State} {m : MethodId} {args : Array Value} {below : List Frame} {meth : Method} {c : Code} {g : GG}
theorem d_AdjoinedSetsModel_holds_0 : decode b_AdjoinedSetsModel_holds 0 = .ok (.iconst 0, 1) := by decide +kernel
theorem d_AdjoinedSetsModel_holds_1 : decode b_AdjoinedSetsModel_holds 1 = .ok (.istore_n 3, 1) := by decide +kernel
theorem d_AdjoinedSetsModel_holds_2 : decode b_AdjoinedSetsModel_holds 2 = .ok (.iload_n 1, 1) := by decide +kernel
theorem d_AdjoinedSetsModel_holds_3 : decode b_AdjoinedSetsModel_holds 3 = .ok (.iconst 1, 1) := by decide +kernel
theorem d_AdjoinedSetsModel_holds_4 : decode b_AdjoinedSetsModel_holds 4 = .ok (.isub, 1) := by decide +kernel
theorem d_AdjoinedSetsModel_holds_5 : decode b_AdjoinedSetsModel_holds 5 = .ok (.istore 4, 2) := by decide +kernel
theorem d_AdjoinedSetsModel_holds_7 : decode b_AdjoinedSetsModel_holds 7 = .ok (.iload 4, 2) := by decide +kernel
theorem d_AdjoinedSetsModel_holds_9 : decode b_AdjoinedSetsModel_holds 9 = .ok (.ifCond .lt 187, 3) := by decide +kernel
theorem d_AdjoinedSetsModel_holds_12 : decode b_AdjoinedSetsModel_holds 12 = .ok (.aload_n 0, 1) := by decide +kernel
theorem d_AdjoinedSetsModel_holds_13 : decode b_AdjoinedSetsModel_holds 13 = .ok (.getfield 84, 3) := by decide +kernel
theorem d_AdjoinedSetsModel_holds_16 : decode b_AdjoinedSetsModel_holds 16 = .ok (.iload 4, 2) := by decide +kernel
theorem d_AdjoinedSetsModel_holds_18 : decode b_AdjoinedSetsModel_holds 18 = .ok (.iaload, 1) := by decide +kernel
theorem d_AdjoinedSetsModel_holds_19 : decode b_AdjoinedSetsModel_holds 19 = .ok (.istore 5, 2) := by decide +kernel
theorem d_AdjoinedSetsModel_holds_21 : decode b_AdjoinedSetsModel_holds 21 = .ok (.iload 5, 2) := by decide +kernel
theorem d_AdjoinedSetsModel_holds_23 : decode b_AdjoinedSetsModel_holds 23 = .ok (.sipush 1000, 3) := by decide +kernel
theorem d_AdjoinedSetsModel_holds_26 : decode b_AdjoinedSetsModel_holds 26 = .ok (.if_icmp .lt 34, 3) := by decide +kernel
theorem d_AdjoinedSetsModel_holds_29 : decode b_AdjoinedSetsModel_holds 29 = .ok (.aload_n 0, 1) := by decide +kernel
theorem d_AdjoinedSetsModel_holds_30 : decode b_AdjoinedSetsModel_holds 30 = .ok (.getfield 93, 3) := by decide +kernel
theorem d_AdjoinedSetsModel_holds_33 : decode b_AdjoinedSetsModel_holds 33 = .ok (.iload_n 3, 1) := by decide +kernel
theorem d_AdjoinedSetsModel_holds_34 : decode b_AdjoinedSetsModel_holds 34 = .ok (.iload_n 2, 1) := by decide +kernel
theorem d_AdjoinedSetsModel_holds_35 : decode b_AdjoinedSetsModel_holds 35 = .ok (.iload 5, 2) := by decide +kernel
theorem d_AdjoinedSetsModel_holds_37 : decode b_AdjoinedSetsModel_holds 37 = .ok (.sipush 1000, 3) := by decide +kernel
theorem d_AdjoinedSetsModel_holds_40 : decode b_AdjoinedSetsModel_holds 40 = .ok (.isub, 1) := by decide +kernel
theorem d_AdjoinedSetsModel_holds_41 : decode b_AdjoinedSetsModel_holds 41 = .ok (.ishr, 1) := by decide +kernel
theorem d_AdjoinedSetsModel_holds_42 : decode b_AdjoinedSetsModel_holds 42 = .ok (.iconst 1, 1) := by decide +kernel
theorem d_AdjoinedSetsModel_holds_43 : decode b_AdjoinedSetsModel_holds 43 = .ok (.iand, 1) := by decide +kernel
theorem d_AdjoinedSetsModel_holds_44 : decode b_AdjoinedSetsModel_holds 44 = .ok (.iconst 1, 1) := by decide +kernel
theorem d_AdjoinedSetsModel_holds_45 : decode b_AdjoinedSetsModel_holds 45 = .ok (.if_icmp .ne 7, 3) := by decide +kernel
theorem d_AdjoinedSetsModel_holds_48 : decode b_AdjoinedSetsModel_holds 48 = .ok (.iconst 1, 1) := by decide +kernel
theorem d_AdjoinedSetsModel_holds_49 : decode b_AdjoinedSetsModel_holds 49 = .ok (.goto 4, 3) := by decide +kernel
theorem d_AdjoinedSetsModel_holds_52 : decode b_AdjoinedSetsModel_holds 52 = .ok (.iconst 0, 1) := by decide +kernel
theorem d_AdjoinedSetsModel_holds_53 : decode b_AdjoinedSetsModel_holds 53 = .ok (.bastore, 1) := by decide +kernel
theorem d_AdjoinedSetsModel_holds_54 : decode b_AdjoinedSetsModel_holds 54 = .ok (.iinc 3 1, 3) := by decide +kernel
theorem d_AdjoinedSetsModel_holds_57 : decode b_AdjoinedSetsModel_holds 57 = .ok (.goto 133, 3) := by decide +kernel
theorem d_AdjoinedSetsModel_holds_60 : decode b_AdjoinedSetsModel_holds 60 = .ok (.iload 5, 2) := by decide +kernel
theorem d_AdjoinedSetsModel_holds_62 : decode b_AdjoinedSetsModel_holds 62 = .ok (.bipush 33, 2) := by decide +kernel
theorem d_AdjoinedSetsModel_holds_64 : decode b_AdjoinedSetsModel_holds 64 = .ok (.if_icmp .ne 30, 3) := by decide +kernel
theorem d_AdjoinedSetsModel_holds_67 : decode b_AdjoinedSetsModel_holds 67 = .ok (.aload_n 0, 1) := by decide +kernel
theorem d_AdjoinedSetsModel_holds_68 : decode b_AdjoinedSetsModel_holds 68 = .ok (.getfield 93, 3) := by decide +kernel
theorem d_AdjoinedSetsModel_holds_71 : decode b_AdjoinedSetsModel_holds 71 = .ok (.iload_n 3, 1) := by decide +kernel
theorem d_AdjoinedSetsModel_holds_72 : decode b_AdjoinedSetsModel_holds 72 = .ok (.iconst 1, 1) := by decide +kernel
theorem d_AdjoinedSetsModel_holds_73 : decode b_AdjoinedSetsModel_holds 73 = .ok (.isub, 1) := by decide +kernel
theorem d_AdjoinedSetsModel_holds_74 : decode b_AdjoinedSetsModel_holds 74 = .ok (.aload_n 0, 1) := by decide +kernel
theorem d_AdjoinedSetsModel_holds_75 : decode b_AdjoinedSetsModel_holds 75 = .ok (.getfield 93, 3) := by decide +kernel
theorem d_AdjoinedSetsModel_holds_78 : decode b_AdjoinedSetsModel_holds 78 = .ok (.iload_n 3, 1) := by decide +kernel
theorem d_AdjoinedSetsModel_holds_79 : decode b_AdjoinedSetsModel_holds 79 = .ok (.iconst 1, 1) := by decide +kernel
theorem d_AdjoinedSetsModel_holds_80 : decode b_AdjoinedSetsModel_holds 80 = .ok (.isub, 1) := by decide +kernel
theorem d_AdjoinedSetsModel_holds_81 : decode b_AdjoinedSetsModel_holds 81 = .ok (.baload, 1) := by decide +kernel
theorem d_AdjoinedSetsModel_holds_82 : decode b_AdjoinedSetsModel_holds 82 = .ok (.ifCond .ne 7, 3) := by decide +kernel
theorem d_AdjoinedSetsModel_holds_85 : decode b_AdjoinedSetsModel_holds 85 = .ok (.iconst 1, 1) := by decide +kernel
theorem d_AdjoinedSetsModel_holds_86 : decode b_AdjoinedSetsModel_holds 86 = .ok (.goto 4, 3) := by decide +kernel
theorem d_AdjoinedSetsModel_holds_89 : decode b_AdjoinedSetsModel_holds 89 = .ok (.iconst 0, 1) := by decide +kernel
theorem d_AdjoinedSetsModel_holds_90 : decode b_AdjoinedSetsModel_holds 90 = .ok (.bastore, 1) := by decide +kernel
theorem d_AdjoinedSetsModel_holds_91 : decode b_AdjoinedSetsModel_holds 91 = .ok (.goto 99, 3) := by decide +kernel
theorem d_AdjoinedSetsModel_holds_94 : decode b_AdjoinedSetsModel_holds 94 = .ok (.aload_n 0, 1) := by decide +kernel
theorem d_AdjoinedSetsModel_holds_95 : decode b_AdjoinedSetsModel_holds 95 = .ok (.getfield 93, 3) := by decide +kernel
theorem d_AdjoinedSetsModel_holds_98 : decode b_AdjoinedSetsModel_holds 98 = .ok (.iload_n 3, 1) := by decide +kernel
theorem d_AdjoinedSetsModel_holds_99 : decode b_AdjoinedSetsModel_holds 99 = .ok (.iconst 1, 1) := by decide +kernel
theorem d_AdjoinedSetsModel_holds_100 : decode b_AdjoinedSetsModel_holds 100 = .ok (.isub, 1) := by decide +kernel
theorem d_AdjoinedSetsModel_holds_101 : decode b_AdjoinedSetsModel_holds 101 = .ok (.baload, 1) := by decide +kernel
theorem d_AdjoinedSetsModel_holds_102 : decode b_AdjoinedSetsModel_holds 102 = .ok (.istore 6, 2) := by decide +kernel
theorem d_AdjoinedSetsModel_holds_104 : decode b_AdjoinedSetsModel_holds 104 = .ok (.aload_n 0, 1) := by decide +kernel
theorem d_AdjoinedSetsModel_holds_105 : decode b_AdjoinedSetsModel_holds 105 = .ok (.getfield 93, 3) := by decide +kernel
theorem d_AdjoinedSetsModel_holds_108 : decode b_AdjoinedSetsModel_holds 108 = .ok (.iload_n 3, 1) := by decide +kernel
theorem d_AdjoinedSetsModel_holds_109 : decode b_AdjoinedSetsModel_holds 109 = .ok (.iconst 2, 1) := by decide +kernel
theorem d_AdjoinedSetsModel_holds_110 : decode b_AdjoinedSetsModel_holds 110 = .ok (.isub, 1) := by decide +kernel
theorem d_AdjoinedSetsModel_holds_111 : decode b_AdjoinedSetsModel_holds 111 = .ok (.baload, 1) := by decide +kernel
theorem d_AdjoinedSetsModel_holds_112 : decode b_AdjoinedSetsModel_holds 112 = .ok (.istore 7, 2) := by decide +kernel
theorem d_AdjoinedSetsModel_holds_114 : decode b_AdjoinedSetsModel_holds 114 = .ok (.iinc 3 (-1), 3) := by decide +kernel
theorem d_AdjoinedSetsModel_holds_117 : decode b_AdjoinedSetsModel_holds 117 = .ok (.aload_n 0, 1) := by decide +kernel
theorem d_AdjoinedSetsModel_holds_118 : decode b_AdjoinedSetsModel_holds 118 = .ok (.getfield 93, 3) := by decide +kernel
theorem d_AdjoinedSetsModel_holds_121 : decode b_AdjoinedSetsModel_holds 121 = .ok (.iload_n 3, 1) := by decide +kernel
theorem d_AdjoinedSetsModel_holds_122 : decode b_AdjoinedSetsModel_holds 122 = .ok (.iconst 1, 1) := by decide +kernel
theorem d_AdjoinedSetsModel_holds_123 : decode b_AdjoinedSetsModel_holds 123 = .ok (.isub, 1) := by decide +kernel
theorem d_AdjoinedSetsModel_holds_124 : decode b_AdjoinedSetsModel_holds 124 = .ok (.iload 5, 2) := by decide +kernel
theorem d_AdjoinedSetsModel_holds_126 : decode b_AdjoinedSetsModel_holds 126 = .ok (.bipush 94, 2) := by decide +kernel
theorem d_AdjoinedSetsModel_holds_128 : decode b_AdjoinedSetsModel_holds 128 = .ok (.if_icmp .ne 21, 3) := by decide +kernel
theorem d_AdjoinedSetsModel_holds_131 : decode b_AdjoinedSetsModel_holds 131 = .ok (.iload 6, 2) := by decide +kernel
theorem d_AdjoinedSetsModel_holds_133 : decode b_AdjoinedSetsModel_holds 133 = .ok (.ifCond .eq 12, 3) := by decide +kernel
theorem d_AdjoinedSetsModel_holds_136 : decode b_AdjoinedSetsModel_holds 136 = .ok (.iload 7, 2) := by decide +kernel
theorem d_AdjoinedSetsModel_holds_138 : decode b_AdjoinedSetsModel_holds 138 = .ok (.ifCond .eq 7, 3) := by decide +kernel
theorem d_AdjoinedSetsModel_holds_141 : decode b_AdjoinedSetsModel_holds 141 = .ok (.iconst 1, 1) := by decide +kernel
theorem d_AdjoinedSetsModel_holds_142 : decode b_AdjoinedSetsModel_holds 142 = .ok (.goto 47, 3) := by decide +kernel
theorem d_AdjoinedSetsModel_holds_145 : decode b_AdjoinedSetsModel_holds 145 = .ok (.iconst 0, 1) := by decide +kernel
theorem d_AdjoinedSetsModel_holds_146 : decode b_AdjoinedSetsModel_holds 146 = .ok (.goto 43, 3) := by decide +kernel
theorem d_AdjoinedSetsModel_holds_149 : decode b_AdjoinedSetsModel_holds 149 = .ok (.iload 5, 2) := by decide +kernel
theorem d_AdjoinedSetsModel_holds_151 : decode b_AdjoinedSetsModel_holds 151 = .ok (.bipush 118, 2) := by decide +kernel
theorem d_AdjoinedSetsModel_holds_153 : decode b_AdjoinedSetsModel_holds 153 = .ok (.if_icmp .ne 21, 3) := by decide +kernel
theorem d_AdjoinedSetsModel_holds_156 : decode b_AdjoinedSetsModel_holds 156 = .ok (.iload 6, 2) := by decide +kernel
theorem d_AdjoinedSetsModel_holds_158 : decode b_AdjoinedSetsModel_holds 158 = .ok (.ifCond .ne 8, 3) := by decide +kernel
theorem d_AdjoinedSetsModel_holds_161 : decode b_AdjoinedSetsModel_holds 161 = .ok (.iload 7, 2) := by decide +kernel
theorem d_AdjoinedSetsModel_holds_163 : decode b_AdjoinedSetsModel_holds 163 = .ok (.ifCond .eq 7, 3) := by decide +kernel
theorem d_AdjoinedSetsModel_holds_166 : decode b_AdjoinedSetsModel_holds 166 = .ok (.iconst 1, 1) := by decide +kernel
theorem d_AdjoinedSetsModel_holds_167 : decode b_AdjoinedSetsModel_holds 167 = .ok (.goto 22, 3) := by decide +kernel
theorem d_AdjoinedSetsModel_holds_170 : decode b_AdjoinedSetsModel_holds 170 = .ok (.iconst 0, 1) := by decide +kernel
theorem d_AdjoinedSetsModel_holds_171 : decode b_AdjoinedSetsModel_holds 171 = .ok (.goto 18, 3) := by decide +kernel
theorem d_AdjoinedSetsModel_holds_174 : decode b_AdjoinedSetsModel_holds 174 = .ok (.iload 6, 2) := by decide +kernel
theorem d_AdjoinedSetsModel_holds_176 : decode b_AdjoinedSetsModel_holds 176 = .ok (.ifCond .eq 8, 3) := by decide +kernel
theorem d_AdjoinedSetsModel_holds_179 : decode b_AdjoinedSetsModel_holds 179 = .ok (.iload 7, 2) := by decide +kernel
theorem d_AdjoinedSetsModel_holds_181 : decode b_AdjoinedSetsModel_holds 181 = .ok (.ifCond .eq 7, 3) := by decide +kernel
theorem d_AdjoinedSetsModel_holds_184 : decode b_AdjoinedSetsModel_holds 184 = .ok (.iconst 1, 1) := by decide +kernel
theorem d_AdjoinedSetsModel_holds_185 : decode b_AdjoinedSetsModel_holds 185 = .ok (.goto 4, 3) := by decide +kernel
theorem d_AdjoinedSetsModel_holds_188 : decode b_AdjoinedSetsModel_holds 188 = .ok (.iconst 0, 1) := by decide +kernel
theorem d_AdjoinedSetsModel_holds_189 : decode b_AdjoinedSetsModel_holds 189 = .ok (.bastore, 1) := by decide +kernel
theorem d_AdjoinedSetsModel_holds_190 : decode b_AdjoinedSetsModel_holds 190 = .ok (.iinc 4 (-1), 3) := by decide +kernel
theorem d_AdjoinedSetsModel_holds_193 : decode b_AdjoinedSetsModel_holds 193 = .ok (.goto (-186), 3) := by decide +kernel
theorem d_AdjoinedSetsModel_holds_196 : decode b_AdjoinedSetsModel_holds 196 = .ok (.aload_n 0, 1) := by decide +kernel
theorem d_AdjoinedSetsModel_holds_197 : decode b_AdjoinedSetsModel_holds 197 = .ok (.getfield 93, 3) := by decide +kernel
theorem d_AdjoinedSetsModel_holds_200 : decode b_AdjoinedSetsModel_holds 200 = .ok (.iconst 0, 1) := by decide +kernel
theorem d_AdjoinedSetsModel_holds_201 : decode b_AdjoinedSetsModel_holds 201 = .ok (.baload, 1) := by decide +kernel
theorem d_AdjoinedSetsModel_holds_202 : decode b_AdjoinedSetsModel_holds 202 = .ok (.ireturn, 1) := by decide +kernel
def s_AdjoinedSetsModel_holds_190 (c7 : Nat → Int32 → Int32 → Int32 → HP → Option (Int32 × HP)) (x0 : Nat) (x2 : Int32) (x3 : Int32) (x4 : Int32) (h : HP) : Option (Int32 × HP) :=
  c7 x0 x2 x3 (x4 + (-1)) h
set_option maxHeartbeats 4000000 in
set_option maxRecDepth 100000 in
theorem k_AdjoinedSetsModel_holds_190 {x0 : Nat} {x2 : Int32} {x3 : Int32} {x4 : Int32} {h : HP} {z : Int32 × HP} (C : CX g R_AdjoinedSetsModel b_AdjoinedSetsModel_holds 8 (some .boolean) p s m args meth c) (c7 : Nat → Int32 → Int32 → Int32 → HP → Option (Int32 × HP))
    (hc7 : ∀ {x0 : Nat} {x2 : Int32} {x3 : Int32} {x4 : Int32} {h : HP} {H : Heap} {locs : List Loc} {ls : Array Slot}, WD g h s.heap H locs → lv_has ls 8 [(0, .ref (aD g x0)), (2, .int x2), (3, .int x3), (4, .int x4)] → c7 x0 x2 x3 x4 h = some z → W p l e (rmS 0 0) s m args below meth c H locs 0 0 (MQ below (Qq g (some (.int z.1)) z.2) args s 0 0 (inA g)) (F0 m 7 ls [])) {H : Heap} {locs : List Loc} {ls : Array Slot} (hw : WD g h s.heap H locs) (hl : lv_has ls 8 [(0, .ref (aD g x0)), (2, .int x2), (3, .int x3), (4, .int x4)]) (hs : s_AdjoinedSetsModel_holds_190 c7 x0 x2 x3 x4 h = some z) : W p l e (rmS 0 0) s m args below meth c H locs 0 0 (MQ below (Qq g (some (.int z.1)) z.2) args s 0 0 (inA g)) (F0 m 190 ls []) := by
  unfold s_AdjoinedSetsModel_holds_190 at hs
  have hx := C.1
  have hb := C.2.1
  refine lv_iinc hx hb d_AdjoinedSetsModel_holds_190 hl (k := 3) rfl (v := (x4 + (-1))) (iinc_e _ (by decide)) (by decide) (lv' := [(4, .int (x4 + (-1))), (0, .ref (aD g x0)), (2, .int x2), (3, .int x3)]) rfl (fun ls hl => ?_)
  refine lv_goto hx hb d_AdjoinedSetsModel_holds_193 (tgt := 7) (by decide) ?_
  exact hc7 hw (lv_sub hl [1, 2, 3, 0] rfl) hs

def s_AdjoinedSetsModel_holds_53 (c7 : Nat → Int32 → Int32 → Int32 → HP → Option (Int32 × HP)) (x0 : Nat) (x2 : Int32) (x3 : Int32) (x4 : Int32) (t0 : Nat) (t1 : Int32) (t2 : Int32) (h : HP) : Option (Int32 × HP) :=
  (uI h t0 5 t1 (vp_nar .boolean t2)).bind fun h1 =>
  s_AdjoinedSetsModel_holds_190 c7 x0 x2 (x3 + 1) x4 h1
set_option maxHeartbeats 4000000 in
set_option maxRecDepth 100000 in
theorem k_AdjoinedSetsModel_holds_53 {x0 : Nat} {x2 : Int32} {x3 : Int32} {x4 : Int32} {t0 : Nat} {t1 : Int32} {t2 : Int32} {h : HP} {z : Int32 × HP} (C : CX g R_AdjoinedSetsModel b_AdjoinedSetsModel_holds 8 (some .boolean) p s m args meth c) (c7 : Nat → Int32 → Int32 → Int32 → HP → Option (Int32 × HP))
    (hc7 : ∀ {x0 : Nat} {x2 : Int32} {x3 : Int32} {x4 : Int32} {h : HP} {H : Heap} {locs : List Loc} {ls : Array Slot}, WD g h s.heap H locs → lv_has ls 8 [(0, .ref (aD g x0)), (2, .int x2), (3, .int x3), (4, .int x4)] → c7 x0 x2 x3 x4 h = some z → W p l e (rmS 0 0) s m args below meth c H locs 0 0 (MQ below (Qq g (some (.int z.1)) z.2) args s 0 0 (inA g)) (F0 m 7 ls [])) {H : Heap} {locs : List Loc} {ls : Array Slot} (hw : WD g h s.heap H locs) (hl : lv_has ls 8 [(0, .ref (aD g x0)), (2, .int x2), (3, .int x3), (4, .int x4)]) (hs : s_AdjoinedSetsModel_holds_53 c7 x0 x2 x3 x4 t0 t1 t2 h = some z) : W p l e (rmS 0 0) s m args below meth c H locs 0 0 (MQ below (Qq g (some (.int z.1)) z.2) args s 0 0 (inA g)) (F0 m 53 ls [.int t2, .int t1, .ref (aD g t0)]) := by
  unfold s_AdjoinedSetsModel_holds_53 at hs
  have hx := C.1
  have hb := C.2.1
  obtain ⟨h1, e2, hs⟩ := ob hs
  refine pg_bastore C hw (t0 := 5) rfl e2 d_AdjoinedSetsModel_holds_53 (fun H locs hw => ?_)
  refine lv_iinc hx hb d_AdjoinedSetsModel_holds_54 hl (k := 2) rfl (v := (x3 + 1)) (iinc_e _ (by decide)) (by decide) (lv' := [(3, .int (x3 + 1)), (0, .ref (aD g x0)), (2, .int x2), (4, .int x4)]) rfl (fun ls hl => ?_)
  refine lv_goto hx hb d_AdjoinedSetsModel_holds_57 (tgt := 190) (by decide) ?_
  exact k_AdjoinedSetsModel_holds_190 C c7 hc7 hw (lv_sub hl [1, 2, 0, 3] rfl) hs

def s_AdjoinedSetsModel_holds_90 (c7 : Nat → Int32 → Int32 → Int32 → HP → Option (Int32 × HP)) (x0 : Nat) (x2 : Int32) (x3 : Int32) (x4 : Int32) (t0 : Nat) (t1 : Int32) (t2 : Int32) (h : HP) : Option (Int32 × HP) :=
  (uI h t0 5 t1 (vp_nar .boolean t2)).bind fun h1 =>
  s_AdjoinedSetsModel_holds_190 c7 x0 x2 x3 x4 h1
set_option maxHeartbeats 4000000 in
set_option maxRecDepth 100000 in
theorem k_AdjoinedSetsModel_holds_90 {x0 : Nat} {x2 : Int32} {x3 : Int32} {x4 : Int32} {t0 : Nat} {t1 : Int32} {t2 : Int32} {h : HP} {z : Int32 × HP} (C : CX g R_AdjoinedSetsModel b_AdjoinedSetsModel_holds 8 (some .boolean) p s m args meth c) (c7 : Nat → Int32 → Int32 → Int32 → HP → Option (Int32 × HP))
    (hc7 : ∀ {x0 : Nat} {x2 : Int32} {x3 : Int32} {x4 : Int32} {h : HP} {H : Heap} {locs : List Loc} {ls : Array Slot}, WD g h s.heap H locs → lv_has ls 8 [(0, .ref (aD g x0)), (2, .int x2), (3, .int x3), (4, .int x4)] → c7 x0 x2 x3 x4 h = some z → W p l e (rmS 0 0) s m args below meth c H locs 0 0 (MQ below (Qq g (some (.int z.1)) z.2) args s 0 0 (inA g)) (F0 m 7 ls [])) {H : Heap} {locs : List Loc} {ls : Array Slot} (hw : WD g h s.heap H locs) (hl : lv_has ls 8 [(0, .ref (aD g x0)), (2, .int x2), (3, .int x3), (4, .int x4)]) (hs : s_AdjoinedSetsModel_holds_90 c7 x0 x2 x3 x4 t0 t1 t2 h = some z) : W p l e (rmS 0 0) s m args below meth c H locs 0 0 (MQ below (Qq g (some (.int z.1)) z.2) args s 0 0 (inA g)) (F0 m 90 ls [.int t2, .int t1, .ref (aD g t0)]) := by
  unfold s_AdjoinedSetsModel_holds_90 at hs
  have hx := C.1
  have hb := C.2.1
  obtain ⟨h1, e2, hs⟩ := ob hs
  refine pg_bastore C hw (t0 := 5) rfl e2 d_AdjoinedSetsModel_holds_90 (fun H locs hw => ?_)
  refine lv_goto hx hb d_AdjoinedSetsModel_holds_91 (tgt := 190) (by decide) ?_
  exact k_AdjoinedSetsModel_holds_190 C c7 hc7 hw (lv_sub hl [0, 1, 2, 3] rfl) hs

def s_AdjoinedSetsModel_holds_189 (c7 : Nat → Int32 → Int32 → Int32 → HP → Option (Int32 × HP)) (x0 : Nat) (x2 : Int32) (x3 : Int32) (x4 : Int32) (t0 : Nat) (t1 : Int32) (t2 : Int32) (h : HP) : Option (Int32 × HP) :=
  (uI h t0 5 t1 (vp_nar .boolean t2)).bind fun h1 =>
  s_AdjoinedSetsModel_holds_190 c7 x0 x2 x3 x4 h1
set_option maxHeartbeats 4000000 in
set_option maxRecDepth 100000 in
theorem k_AdjoinedSetsModel_holds_189 {x0 : Nat} {x2 : Int32} {x3 : Int32} {x4 : Int32} {t0 : Nat} {t1 : Int32} {t2 : Int32} {h : HP} {z : Int32 × HP} (C : CX g R_AdjoinedSetsModel b_AdjoinedSetsModel_holds 8 (some .boolean) p s m args meth c) (c7 : Nat → Int32 → Int32 → Int32 → HP → Option (Int32 × HP))
    (hc7 : ∀ {x0 : Nat} {x2 : Int32} {x3 : Int32} {x4 : Int32} {h : HP} {H : Heap} {locs : List Loc} {ls : Array Slot}, WD g h s.heap H locs → lv_has ls 8 [(0, .ref (aD g x0)), (2, .int x2), (3, .int x3), (4, .int x4)] → c7 x0 x2 x3 x4 h = some z → W p l e (rmS 0 0) s m args below meth c H locs 0 0 (MQ below (Qq g (some (.int z.1)) z.2) args s 0 0 (inA g)) (F0 m 7 ls [])) {H : Heap} {locs : List Loc} {ls : Array Slot} (hw : WD g h s.heap H locs) (hl : lv_has ls 8 [(0, .ref (aD g x0)), (2, .int x2), (3, .int x3), (4, .int x4)]) (hs : s_AdjoinedSetsModel_holds_189 c7 x0 x2 x3 x4 t0 t1 t2 h = some z) : W p l e (rmS 0 0) s m args below meth c H locs 0 0 (MQ below (Qq g (some (.int z.1)) z.2) args s 0 0 (inA g)) (F0 m 189 ls [.int t2, .int t1, .ref (aD g t0)]) := by
  unfold s_AdjoinedSetsModel_holds_189 at hs
  have hx := C.1
  have hb := C.2.1
  obtain ⟨h1, e2, hs⟩ := ob hs
  refine pg_bastore C hw (t0 := 5) rfl e2 d_AdjoinedSetsModel_holds_189 (fun H locs hw => ?_)
  exact k_AdjoinedSetsModel_holds_190 C c7 hc7 hw (lv_sub hl [0, 1, 2, 3] rfl) hs

def s_AdjoinedSetsModel_holds_145 (c7 : Nat → Int32 → Int32 → Int32 → HP → Option (Int32 × HP)) (x0 : Nat) (x2 : Int32) (x3 : Int32) (x4 : Int32) (t0 : Nat) (t1 : Int32) (h : HP) : Option (Int32 × HP) :=
  s_AdjoinedSetsModel_holds_189 c7 x0 x2 x3 x4 t0 t1 0 h
set_option maxHeartbeats 4000000 in
set_option maxRecDepth 100000 in
theorem k_AdjoinedSetsModel_holds_145 {x0 : Nat} {x2 : Int32} {x3 : Int32} {x4 : Int32} {t0 : Nat} {t1 : Int32} {h : HP} {z : Int32 × HP} (C : CX g R_AdjoinedSetsModel b_AdjoinedSetsModel_holds 8 (some .boolean) p s m args meth c) (c7 : Nat → Int32 → Int32 → Int32 → HP → Option (Int32 × HP))
    (hc7 : ∀ {x0 : Nat} {x2 : Int32} {x3 : Int32} {x4 : Int32} {h : HP} {H : Heap} {locs : List Loc} {ls : Array Slot}, WD g h s.heap H locs → lv_has ls 8 [(0, .ref (aD g x0)), (2, .int x2), (3, .int x3), (4, .int x4)] → c7 x0 x2 x3 x4 h = some z → W p l e (rmS 0 0) s m args below meth c H locs 0 0 (MQ below (Qq g (some (.int z.1)) z.2) args s 0 0 (inA g)) (F0 m 7 ls [])) {H : Heap} {locs : List Loc} {ls : Array Slot} (hw : WD g h s.heap H locs) (hl : lv_has ls 8 [(0, .ref (aD g x0)), (2, .int x2), (3, .int x3), (4, .int x4)]) (hs : s_AdjoinedSetsModel_holds_145 c7 x0 x2 x3 x4 t0 t1 h = some z) : W p l e (rmS 0 0) s m args below meth c H locs 0 0 (MQ below (Qq g (some (.int z.1)) z.2) args s 0 0 (inA g)) (F0 m 145 ls [.int t1, .ref (aD g t0)]) := by
  unfold s_AdjoinedSetsModel_holds_145 at hs
  have hx := C.1
  have hb := C.2.1
  refine lv_iconst (v := 0) hx hb d_AdjoinedSetsModel_holds_145 (by decide) ?_
  refine lv_goto hx hb d_AdjoinedSetsModel_holds_146 (tgt := 189) (by decide) ?_
  exact k_AdjoinedSetsModel_holds_189 C c7 hc7 hw (lv_sub hl [0, 1, 2, 3] rfl) hs

def s_AdjoinedSetsModel_holds_166 (c7 : Nat → Int32 → Int32 → Int32 → HP → Option (Int32 × HP)) (x0 : Nat) (x2 : Int32) (x3 : Int32) (x4 : Int32) (t0 : Nat) (t1 : Int32) (h : HP) : Option (Int32 × HP) :=
  s_AdjoinedSetsModel_holds_189 c7 x0 x2 x3 x4 t0 t1 1 h
set_option maxHeartbeats 4000000 in
set_option maxRecDepth 100000 in
theorem k_AdjoinedSetsModel_holds_166 {x0 : Nat} {x2 : Int32} {x3 : Int32} {x4 : Int32} {t0 : Nat} {t1 : Int32} {h : HP} {z : Int32 × HP} (C : CX g R_AdjoinedSetsModel b_AdjoinedSetsModel_holds 8 (some .boolean) p s m args meth c) (c7 : Nat → Int32 → Int32 → Int32 → HP → Option (Int32 × HP))
    (hc7 : ∀ {x0 : Nat} {x2 : Int32} {x3 : Int32} {x4 : Int32} {h : HP} {H : Heap} {locs : List Loc} {ls : Array Slot}, WD g h s.heap H locs → lv_has ls 8 [(0, .ref (aD g x0)), (2, .int x2), (3, .int x3), (4, .int x4)] → c7 x0 x2 x3 x4 h = some z → W p l e (rmS 0 0) s m args below meth c H locs 0 0 (MQ below (Qq g (some (.int z.1)) z.2) args s 0 0 (inA g)) (F0 m 7 ls [])) {H : Heap} {locs : List Loc} {ls : Array Slot} (hw : WD g h s.heap H locs) (hl : lv_has ls 8 [(0, .ref (aD g x0)), (2, .int x2), (3, .int x3), (4, .int x4)]) (hs : s_AdjoinedSetsModel_holds_166 c7 x0 x2 x3 x4 t0 t1 h = some z) : W p l e (rmS 0 0) s m args below meth c H locs 0 0 (MQ below (Qq g (some (.int z.1)) z.2) args s 0 0 (inA g)) (F0 m 166 ls [.int t1, .ref (aD g t0)]) := by
  unfold s_AdjoinedSetsModel_holds_166 at hs
  have hx := C.1
  have hb := C.2.1
  refine lv_iconst (v := 1) hx hb d_AdjoinedSetsModel_holds_166 (by decide) ?_
  refine lv_goto hx hb d_AdjoinedSetsModel_holds_167 (tgt := 189) (by decide) ?_
  exact k_AdjoinedSetsModel_holds_189 C c7 hc7 hw (lv_sub hl [0, 1, 2, 3] rfl) hs

def s_AdjoinedSetsModel_holds_184 (c7 : Nat → Int32 → Int32 → Int32 → HP → Option (Int32 × HP)) (x0 : Nat) (x2 : Int32) (x3 : Int32) (x4 : Int32) (t0 : Nat) (t1 : Int32) (h : HP) : Option (Int32 × HP) :=
  s_AdjoinedSetsModel_holds_189 c7 x0 x2 x3 x4 t0 t1 1 h
set_option maxHeartbeats 4000000 in
set_option maxRecDepth 100000 in
theorem k_AdjoinedSetsModel_holds_184 {x0 : Nat} {x2 : Int32} {x3 : Int32} {x4 : Int32} {t0 : Nat} {t1 : Int32} {h : HP} {z : Int32 × HP} (C : CX g R_AdjoinedSetsModel b_AdjoinedSetsModel_holds 8 (some .boolean) p s m args meth c) (c7 : Nat → Int32 → Int32 → Int32 → HP → Option (Int32 × HP))
    (hc7 : ∀ {x0 : Nat} {x2 : Int32} {x3 : Int32} {x4 : Int32} {h : HP} {H : Heap} {locs : List Loc} {ls : Array Slot}, WD g h s.heap H locs → lv_has ls 8 [(0, .ref (aD g x0)), (2, .int x2), (3, .int x3), (4, .int x4)] → c7 x0 x2 x3 x4 h = some z → W p l e (rmS 0 0) s m args below meth c H locs 0 0 (MQ below (Qq g (some (.int z.1)) z.2) args s 0 0 (inA g)) (F0 m 7 ls [])) {H : Heap} {locs : List Loc} {ls : Array Slot} (hw : WD g h s.heap H locs) (hl : lv_has ls 8 [(0, .ref (aD g x0)), (2, .int x2), (3, .int x3), (4, .int x4)]) (hs : s_AdjoinedSetsModel_holds_184 c7 x0 x2 x3 x4 t0 t1 h = some z) : W p l e (rmS 0 0) s m args below meth c H locs 0 0 (MQ below (Qq g (some (.int z.1)) z.2) args s 0 0 (inA g)) (F0 m 184 ls [.int t1, .ref (aD g t0)]) := by
  unfold s_AdjoinedSetsModel_holds_184 at hs
  have hx := C.1
  have hb := C.2.1
  refine lv_iconst (v := 1) hx hb d_AdjoinedSetsModel_holds_184 (by decide) ?_
  refine lv_goto hx hb d_AdjoinedSetsModel_holds_185 (tgt := 189) (by decide) ?_
  exact k_AdjoinedSetsModel_holds_189 C c7 hc7 hw (lv_sub hl [0, 1, 2, 3] rfl) hs

def s_AdjoinedSetsModel_holds_7 : Nat → Nat → Int32 → Int32 → Int32 → HP → Option (Int32 × HP)
  | 0 => fun _ _ _ _ _ => none
  | k + 1 => fun x0 x2 x3 x4 h =>
  if x4 < 0 then (
    (gR h x0 9 35).bind fun v1 =>
    (aI h v1 5 0).bind fun v3 =>
    (zr v3).bind fun _ => some (v3, h))
  else (
    (gR h x0 9 32).bind fun v6 =>
    (aI h v6 0 x4).bind fun v8 =>
    if v8 < 1000 then (
      if v8 = 33 then (
        (gR h x0 9 35).bind fun v20 =>
        (gR h x0 9 35).bind fun v22 =>
        (aI h v22 5 (x3 - 1)).bind fun v24 =>
        if v24 = 0 then (
          s_AdjoinedSetsModel_holds_90 (s_AdjoinedSetsModel_holds_7 k) x0 x2 x3 x4 v20 (x3 - 1) 1 h)
        else (
          s_AdjoinedSetsModel_holds_90 (s_AdjoinedSetsModel_holds_7 k) x0 x2 x3 x4 v20 (x3 - 1) 0 h))
      else (
        (gR h x0 9 35).bind fun v10 =>
        (aI h v10 5 (x3 - 1)).bind fun v12 =>
        (gR h x0 9 35).bind fun v14 =>
        (aI h v14 5 (x3 - 2)).bind fun v16 =>
        (gR h x0 9 35).bind fun v18 =>
        if v8 = 94 then (
          if v12 = 0 then (
            s_AdjoinedSetsModel_holds_145 (s_AdjoinedSetsModel_holds_7 k) x0 x2 (x3 + (-1)) x4 v18 ((x3 + (-1)) - 1) h)
          else (
            if v16 = 0 then (
              s_AdjoinedSetsModel_holds_145 (s_AdjoinedSetsModel_holds_7 k) x0 x2 (x3 + (-1)) x4 v18 ((x3 + (-1)) - 1) h)
            else (
              s_AdjoinedSetsModel_holds_189 (s_AdjoinedSetsModel_holds_7 k) x0 x2 (x3 + (-1)) x4 v18 ((x3 + (-1)) - 1) 1 h)))
        else (
          if v8 = 118 then (
            if v12 = 0 then (
              if v16 = 0 then (
                s_AdjoinedSetsModel_holds_189 (s_AdjoinedSetsModel_holds_7 k) x0 x2 (x3 + (-1)) x4 v18 ((x3 + (-1)) - 1) 0 h)
              else (
                s_AdjoinedSetsModel_holds_166 (s_AdjoinedSetsModel_holds_7 k) x0 x2 (x3 + (-1)) x4 v18 ((x3 + (-1)) - 1) h))
            else (
              s_AdjoinedSetsModel_holds_166 (s_AdjoinedSetsModel_holds_7 k) x0 x2 (x3 + (-1)) x4 v18 ((x3 + (-1)) - 1) h))
          else (
            if v12 = 0 then (
              s_AdjoinedSetsModel_holds_184 (s_AdjoinedSetsModel_holds_7 k) x0 x2 (x3 + (-1)) x4 v18 ((x3 + (-1)) - 1) h)
            else (
              if v16 = 0 then (
                s_AdjoinedSetsModel_holds_189 (s_AdjoinedSetsModel_holds_7 k) x0 x2 (x3 + (-1)) x4 v18 ((x3 + (-1)) - 1) 0 h)
              else (
                s_AdjoinedSetsModel_holds_184 (s_AdjoinedSetsModel_holds_7 k) x0 x2 (x3 + (-1)) x4 v18 ((x3 + (-1)) - 1) h))))))
    else (
      (gR h x0 9 35).bind fun v26 =>
      if ((x2 >>> ((v8 - 1000) &&& 31)) &&& 1) = 1 then (
        s_AdjoinedSetsModel_holds_53 (s_AdjoinedSetsModel_holds_7 k) x0 x2 x3 x4 v26 x3 1 h)
      else (
        s_AdjoinedSetsModel_holds_53 (s_AdjoinedSetsModel_holds_7 k) x0 x2 x3 x4 v26 x3 0 h)))
set_option maxHeartbeats 4000000 in
set_option maxRecDepth 100000 in
theorem k_AdjoinedSetsModel_holds_7 {z : Int32 × HP} (C : CX g R_AdjoinedSetsModel b_AdjoinedSetsModel_holds 8 (some .boolean) p s m args meth c) : ∀ (k : Nat) {x0 : Nat} {x2 : Int32} {x3 : Int32} {x4 : Int32} {h : HP} {H : Heap} {locs : List Loc} {ls : Array Slot}, WD g h s.heap H locs → lv_has ls 8 [(0, .ref (aD g x0)), (2, .int x2), (3, .int x3), (4, .int x4)] → s_AdjoinedSetsModel_holds_7 k x0 x2 x3 x4 h = some z → W p l e (rmS 0 0) s m args below meth c H locs 0 0 (MQ below (Qq g (some (.int z.1)) z.2) args s 0 0 (inA g)) (F0 m 7 ls []) := by
  have hx := C.1
  have hb := C.2.1
  intro k
  induction k with
  | zero =>
    intro x0 x2 x3 x4 h H locs ls hw hl hs
    exact (no_s hs).elim
  | succ k ih =>
    intro x0 x2 x3 x4 h H locs ls hw hl hs
    rw [s_AdjoinedSetsModel_holds_7] at hs
    refine lv_iload hx hb d_AdjoinedSetsModel_holds_7 (lv_at hl 3 rfl) ?_
    refine lv_if_lt hx hb d_AdjoinedSetsModel_holds_9 (tgt := 196) (by decide) (fun hc => ?_) (fun hc => ?_)
    · have hs := oi_t hc hs
      refine lv_aload_n hx hb d_AdjoinedSetsModel_holds_196 rfl (lv_at hl 0 rfl) ?_
      obtain ⟨v1, e2, hs⟩ := ob hs
      refine pg_getR C hw fl_AdjoinedSetsModel_93 e2 d_AdjoinedSetsModel_holds_197 ?_
      refine lv_iconst (v := 0) hx hb d_AdjoinedSetsModel_holds_200 (by decide) ?_
      obtain ⟨v3, e4, hs⟩ := ob hs
      refine pg_baload C hw (t0 := 5) rfl e4 d_AdjoinedSetsModel_holds_201 ?_
      obtain ⟨_, e5, hs⟩ := ob hs
      obtain rfl := Option.some.inj hs
      exact pg_zret (v := v3) C hw (zr_n e5) d_AdjoinedSetsModel_holds_202
    · have hs := oi_f hc hs
      refine lv_aload_n hx hb d_AdjoinedSetsModel_holds_12 rfl (lv_at hl 0 rfl) ?_
      obtain ⟨v6, e7, hs⟩ := ob hs
      refine pg_getR C hw fl_AdjoinedSetsModel_84 e7 d_AdjoinedSetsModel_holds_13 ?_
      refine lv_iload hx hb d_AdjoinedSetsModel_holds_16 (lv_at hl 3 rfl) ?_
      obtain ⟨v8, e9, hs⟩ := ob hs
      refine pg_iaload C hw (t0 := 0) rfl e9 d_AdjoinedSetsModel_holds_18 ?_
      refine lv_istore hx hb d_AdjoinedSetsModel_holds_19 hl (by decide) (lv' := [(5, .int v8), (0, .ref (aD g x0)), (2, .int x2), (3, .int x3), (4, .int x4)]) rfl (fun ls hl => ?_)
      refine lv_iload hx hb d_AdjoinedSetsModel_holds_21 (lv_at hl 0 rfl) ?_
      refine lv_sipush (v := 1000) hx hb d_AdjoinedSetsModel_holds_23 (by decide) ?_
      refine lv_icmp_lt hx hb d_AdjoinedSetsModel_holds_26 (tgt := 60) (by decide) (fun hc => ?_) (fun hc => ?_)
      · have hs := oi_t hc hs
        refine lv_iload hx hb d_AdjoinedSetsModel_holds_60 (lv_at hl 0 rfl) ?_
        refine lv_bipush (v := 33) hx hb d_AdjoinedSetsModel_holds_62 (by decide) ?_
        refine lv_icmp_ne hx hb d_AdjoinedSetsModel_holds_64 (tgt := 94) (by decide) (fun hc => ?_) (fun hc => ?_)
        · have hs := oi_f hc hs
          refine lv_aload_n hx hb d_AdjoinedSetsModel_holds_94 rfl (lv_at hl 1 rfl) ?_
          obtain ⟨v10, e11, hs⟩ := ob hs
          refine pg_getR C hw fl_AdjoinedSetsModel_93 e11 d_AdjoinedSetsModel_holds_95 ?_
          refine lv_iload_n hx hb d_AdjoinedSetsModel_holds_98 rfl (lv_at hl 3 rfl) ?_
          refine lv_iconst (v := 1) hx hb d_AdjoinedSetsModel_holds_99 (by decide) ?_
          refine lv_isub hx hb d_AdjoinedSetsModel_holds_100 ?_
          obtain ⟨v12, e13, hs⟩ := ob hs
          refine pg_baload C hw (t0 := 5) rfl e13 d_AdjoinedSetsModel_holds_101 ?_
          refine lv_istore hx hb d_AdjoinedSetsModel_holds_102 hl (by decide) (lv' := [(6, .int v12), (5, .int v8), (0, .ref (aD g x0)), (2, .int x2), (3, .int x3), (4, .int x4)]) rfl (fun ls hl => ?_)
          refine lv_aload_n hx hb d_AdjoinedSetsModel_holds_104 rfl (lv_at hl 2 rfl) ?_
          obtain ⟨v14, e15, hs⟩ := ob hs
          refine pg_getR C hw fl_AdjoinedSetsModel_93 e15 d_AdjoinedSetsModel_holds_105 ?_
          refine lv_iload_n hx hb d_AdjoinedSetsModel_holds_108 rfl (lv_at hl 4 rfl) ?_
          refine lv_iconst (v := 2) hx hb d_AdjoinedSetsModel_holds_109 (by decide) ?_
          refine lv_isub hx hb d_AdjoinedSetsModel_holds_110 ?_
          obtain ⟨v16, e17, hs⟩ := ob hs
          refine pg_baload C hw (t0 := 5) rfl e17 d_AdjoinedSetsModel_holds_111 ?_
          refine lv_istore hx hb d_AdjoinedSetsModel_holds_112 hl (by decide) (lv' := [(7, .int v16), (6, .int v12), (5, .int v8), (0, .ref (aD g x0)), (2, .int x2), (3, .int x3), (4, .int x4)]) rfl (fun ls hl => ?_)
          refine lv_iinc hx hb d_AdjoinedSetsModel_holds_114 hl (k := 5) rfl (v := (x3 + (-1))) (iinc_e _ (by decide)) (by decide) (lv' := [(3, .int (x3 + (-1))), (7, .int v16), (6, .int v12), (5, .int v8), (0, .ref (aD g x0)), (2, .int x2), (4, .int x4)]) rfl (fun ls hl => ?_)
          refine lv_aload_n hx hb d_AdjoinedSetsModel_holds_117 rfl (lv_at hl 4 rfl) ?_
          obtain ⟨v18, e19, hs⟩ := ob hs
          refine pg_getR C hw fl_AdjoinedSetsModel_93 e19 d_AdjoinedSetsModel_holds_118 ?_
          refine lv_iload_n hx hb d_AdjoinedSetsModel_holds_121 rfl (lv_at hl 0 rfl) ?_
          refine lv_iconst (v := 1) hx hb d_AdjoinedSetsModel_holds_122 (by decide) ?_
          refine lv_isub hx hb d_AdjoinedSetsModel_holds_123 ?_
          refine lv_iload hx hb d_AdjoinedSetsModel_holds_124 (lv_at hl 3 rfl) ?_
          refine lv_bipush (v := 94) hx hb d_AdjoinedSetsModel_holds_126 (by decide) ?_
          refine lv_icmp_ne hx hb d_AdjoinedSetsModel_holds_128 (tgt := 149) (by decide) (fun hc => ?_) (fun hc => ?_)
          · have hs := oi_f hc hs
            refine lv_iload hx hb d_AdjoinedSetsModel_holds_149 (lv_at hl 3 rfl) ?_
            refine lv_bipush (v := 118) hx hb d_AdjoinedSetsModel_holds_151 (by decide) ?_
            refine lv_icmp_ne hx hb d_AdjoinedSetsModel_holds_153 (tgt := 174) (by decide) (fun hc => ?_) (fun hc => ?_)
            · have hs := oi_f hc hs
              refine lv_iload hx hb d_AdjoinedSetsModel_holds_174 (lv_at hl 2 rfl) ?_
              refine lv_if_eq hx hb d_AdjoinedSetsModel_holds_176 (tgt := 184) (by decide) (fun hc => ?_) (fun hc => ?_)
              · have hs := oi_t hc hs
                exact k_AdjoinedSetsModel_holds_184 C (s_AdjoinedSetsModel_holds_7 k) ih hw (lv_sub hl [4, 5, 0, 6] rfl) hs
              · have hs := oi_f hc hs
                refine lv_iload hx hb d_AdjoinedSetsModel_holds_179 (lv_at hl 1 rfl) ?_
                refine lv_if_eq hx hb d_AdjoinedSetsModel_holds_181 (tgt := 188) (by decide) (fun hc => ?_) (fun hc => ?_)
                · have hs := oi_t hc hs
                  refine lv_iconst (v := 0) hx hb d_AdjoinedSetsModel_holds_188 (by decide) ?_
                  exact k_AdjoinedSetsModel_holds_189 C (s_AdjoinedSetsModel_holds_7 k) ih hw (lv_sub hl [4, 5, 0, 6] rfl) hs
                · have hs := oi_f hc hs
                  exact k_AdjoinedSetsModel_holds_184 C (s_AdjoinedSetsModel_holds_7 k) ih hw (lv_sub hl [4, 5, 0, 6] rfl) hs
            · have hs := oi_t hc hs
              refine lv_iload hx hb d_AdjoinedSetsModel_holds_156 (lv_at hl 2 rfl) ?_
              refine lv_if_ne hx hb d_AdjoinedSetsModel_holds_158 (tgt := 166) (by decide) (fun hc => ?_) (fun hc => ?_)
              · have hs := oi_f hc hs
                exact k_AdjoinedSetsModel_holds_166 C (s_AdjoinedSetsModel_holds_7 k) ih hw (lv_sub hl [4, 5, 0, 6] rfl) hs
              · have hs := oi_t hc hs
                refine lv_iload hx hb d_AdjoinedSetsModel_holds_161 (lv_at hl 1 rfl) ?_
                refine lv_if_eq hx hb d_AdjoinedSetsModel_holds_163 (tgt := 170) (by decide) (fun hc => ?_) (fun hc => ?_)
                · have hs := oi_t hc hs
                  refine lv_iconst (v := 0) hx hb d_AdjoinedSetsModel_holds_170 (by decide) ?_
                  refine lv_goto hx hb d_AdjoinedSetsModel_holds_171 (tgt := 189) (by decide) ?_
                  exact k_AdjoinedSetsModel_holds_189 C (s_AdjoinedSetsModel_holds_7 k) ih hw (lv_sub hl [4, 5, 0, 6] rfl) hs
                · have hs := oi_f hc hs
                  exact k_AdjoinedSetsModel_holds_166 C (s_AdjoinedSetsModel_holds_7 k) ih hw (lv_sub hl [4, 5, 0, 6] rfl) hs
          · have hs := oi_t hc hs
            refine lv_iload hx hb d_AdjoinedSetsModel_holds_131 (lv_at hl 2 rfl) ?_
            refine lv_if_eq hx hb d_AdjoinedSetsModel_holds_133 (tgt := 145) (by decide) (fun hc => ?_) (fun hc => ?_)
            · have hs := oi_t hc hs
              exact k_AdjoinedSetsModel_holds_145 C (s_AdjoinedSetsModel_holds_7 k) ih hw (lv_sub hl [4, 5, 0, 6] rfl) hs
            · have hs := oi_f hc hs
              refine lv_iload hx hb d_AdjoinedSetsModel_holds_136 (lv_at hl 1 rfl) ?_
              refine lv_if_eq hx hb d_AdjoinedSetsModel_holds_138 (tgt := 145) (by decide) (fun hc => ?_) (fun hc => ?_)
              · have hs := oi_t hc hs
                exact k_AdjoinedSetsModel_holds_145 C (s_AdjoinedSetsModel_holds_7 k) ih hw (lv_sub hl [4, 5, 0, 6] rfl) hs
              · have hs := oi_f hc hs
                refine lv_iconst (v := 1) hx hb d_AdjoinedSetsModel_holds_141 (by decide) ?_
                refine lv_goto hx hb d_AdjoinedSetsModel_holds_142 (tgt := 189) (by decide) ?_
                exact k_AdjoinedSetsModel_holds_189 C (s_AdjoinedSetsModel_holds_7 k) ih hw (lv_sub hl [4, 5, 0, 6] rfl) hs
        · have hs := oi_t hc hs
          refine lv_aload_n hx hb d_AdjoinedSetsModel_holds_67 rfl (lv_at hl 1 rfl) ?_
          obtain ⟨v20, e21, hs⟩ := ob hs
          refine pg_getR C hw fl_AdjoinedSetsModel_93 e21 d_AdjoinedSetsModel_holds_68 ?_
          refine lv_iload_n hx hb d_AdjoinedSetsModel_holds_71 rfl (lv_at hl 3 rfl) ?_
          refine lv_iconst (v := 1) hx hb d_AdjoinedSetsModel_holds_72 (by decide) ?_
          refine lv_isub hx hb d_AdjoinedSetsModel_holds_73 ?_
          refine lv_aload_n hx hb d_AdjoinedSetsModel_holds_74 rfl (lv_at hl 1 rfl) ?_
          obtain ⟨v22, e23, hs⟩ := ob hs
          refine pg_getR C hw fl_AdjoinedSetsModel_93 e23 d_AdjoinedSetsModel_holds_75 ?_
          refine lv_iload_n hx hb d_AdjoinedSetsModel_holds_78 rfl (lv_at hl 3 rfl) ?_
          refine lv_iconst (v := 1) hx hb d_AdjoinedSetsModel_holds_79 (by decide) ?_
          refine lv_isub hx hb d_AdjoinedSetsModel_holds_80 ?_
          obtain ⟨v24, e25, hs⟩ := ob hs
          refine pg_baload C hw (t0 := 5) rfl e25 d_AdjoinedSetsModel_holds_81 ?_
          refine lv_if_ne hx hb d_AdjoinedSetsModel_holds_82 (tgt := 89) (by decide) (fun hc => ?_) (fun hc => ?_)
          · have hs := oi_f hc hs
            refine lv_iconst (v := 0) hx hb d_AdjoinedSetsModel_holds_89 (by decide) ?_
            exact k_AdjoinedSetsModel_holds_90 C (s_AdjoinedSetsModel_holds_7 k) ih hw (lv_sub hl [1, 2, 3, 4] rfl) hs
          · have hs := oi_t hc hs
            refine lv_iconst (v := 1) hx hb d_AdjoinedSetsModel_holds_85 (by decide) ?_
            refine lv_goto hx hb d_AdjoinedSetsModel_holds_86 (tgt := 90) (by decide) ?_
            exact k_AdjoinedSetsModel_holds_90 C (s_AdjoinedSetsModel_holds_7 k) ih hw (lv_sub hl [1, 2, 3, 4] rfl) hs
      · have hs := oi_f hc hs
        refine lv_aload_n hx hb d_AdjoinedSetsModel_holds_29 rfl (lv_at hl 1 rfl) ?_
        obtain ⟨v26, e27, hs⟩ := ob hs
        refine pg_getR C hw fl_AdjoinedSetsModel_93 e27 d_AdjoinedSetsModel_holds_30 ?_
        refine lv_iload_n hx hb d_AdjoinedSetsModel_holds_33 rfl (lv_at hl 3 rfl) ?_
        refine lv_iload_n hx hb d_AdjoinedSetsModel_holds_34 rfl (lv_at hl 2 rfl) ?_
        refine lv_iload hx hb d_AdjoinedSetsModel_holds_35 (lv_at hl 0 rfl) ?_
        refine lv_sipush (v := 1000) hx hb d_AdjoinedSetsModel_holds_37 (by decide) ?_
        refine lv_isub hx hb d_AdjoinedSetsModel_holds_40 ?_
        refine lv_ishr hx hb d_AdjoinedSetsModel_holds_41 ?_
        refine lv_iconst (v := 1) hx hb d_AdjoinedSetsModel_holds_42 (by decide) ?_
        refine lv_iand hx hb d_AdjoinedSetsModel_holds_43 ?_
        refine lv_iconst (v := 1) hx hb d_AdjoinedSetsModel_holds_44 (by decide) ?_
        refine lv_icmp_ne hx hb d_AdjoinedSetsModel_holds_45 (tgt := 52) (by decide) (fun hc => ?_) (fun hc => ?_)
        · have hs := oi_f hc hs
          refine lv_iconst (v := 0) hx hb d_AdjoinedSetsModel_holds_52 (by decide) ?_
          exact k_AdjoinedSetsModel_holds_53 C (s_AdjoinedSetsModel_holds_7 k) ih hw (lv_sub hl [1, 2, 3, 4] rfl) hs
        · have hs := oi_t hc hs
          refine lv_iconst (v := 1) hx hb d_AdjoinedSetsModel_holds_48 (by decide) ?_
          refine lv_goto hx hb d_AdjoinedSetsModel_holds_49 (tgt := 53) (by decide) ?_
          exact k_AdjoinedSetsModel_holds_53 C (s_AdjoinedSetsModel_holds_7 k) ih hw (lv_sub hl [1, 2, 3, 4] rfl) hs

def s_AdjoinedSetsModel_holds (x0 : Nat) (x1 : Int32) (x2 : Int32) (h : HP) : Option (Int32 × HP) :=
  s_AdjoinedSetsModel_holds_7 20000 x0 x2 0 (x1 - 1) h
set_option maxHeartbeats 4000000 in
set_option maxRecDepth 100000 in
theorem c_AdjoinedSetsModel_holds (l : Launch) (g : GG) {x0 : Nat} {x1 : Int32} {x2 : Int32} {h : HP} {z : Int32 × HP} (hs : s_AdjoinedSetsModel_holds x0 x1 x2 h = some z) : Ct l g y_AdjoinedSetsModel_holds w_AdjoinedSetsModel_holds (rmS 0 0) [.ref (aD g x0), .int x1, .int x2] h (some (.int z.1)) z.2 := by
  refine Ct.of (own := R_AdjoinedSetsModel) (by decide) rfl rfl (Nat.le_of_ble_eq_true rfl) ?_
  intro p e s m args below meth c ls C hl hw
  have hx := C.1
  have hb := C.2.1
  have hl : lv_has ls 8 [(0, .ref (aD g x0)), (1, .int x1), (2, .int x2)] := hl
  unfold s_AdjoinedSetsModel_holds at hs
  refine lv_iconst (v := 0) hx hb d_AdjoinedSetsModel_holds_0 (by decide) ?_
  refine lv_istore_n hx hb d_AdjoinedSetsModel_holds_1 rfl hl (by decide) (lv' := [(3, .int 0), (0, .ref (aD g x0)), (1, .int x1), (2, .int x2)]) rfl (fun ls hl => ?_)
  refine lv_iload_n hx hb d_AdjoinedSetsModel_holds_2 rfl (lv_at hl 2 rfl) ?_
  refine lv_iconst (v := 1) hx hb d_AdjoinedSetsModel_holds_3 (by decide) ?_
  refine lv_isub hx hb d_AdjoinedSetsModel_holds_4 ?_
  refine lv_istore hx hb d_AdjoinedSetsModel_holds_5 hl (by decide) (lv' := [(4, .int (x1 - 1)), (3, .int 0), (0, .ref (aD g x0)), (1, .int x1), (2, .int x2)]) rfl (fun ls hl => ?_)
  exact k_AdjoinedSetsModel_holds_7 C 20000 hw (lv_sub hl [2, 4, 1, 0] rfl) hs

end
section
variable {p : Program} {l : Launch} {e : Env} {s : State} {m : MethodId} {args : Array Value} {below : List Frame} {meth : Method} {c : Code} {g : GG}
theorem d_AdjoinedSetsModel_isTautology_0 : decode b_AdjoinedSetsModel_isTautology 0 = .ok (.aload_n 0, 1) := by decide +kernel
theorem d_AdjoinedSetsModel_isTautology_1 : decode b_AdjoinedSetsModel_isTautology 1 = .ok (.invokevirtual 263, 3) := by decide +kernel
theorem d_AdjoinedSetsModel_isTautology_4 : decode b_AdjoinedSetsModel_isTautology 4 = .ok (.istore_n 1, 1) := by decide +kernel
theorem d_AdjoinedSetsModel_isTautology_5 : decode b_AdjoinedSetsModel_isTautology 5 = .ok (.iload_n 1, 1) := by decide +kernel
theorem d_AdjoinedSetsModel_isTautology_6 : decode b_AdjoinedSetsModel_isTautology 6 = .ok (.ifCond .le 7, 3) := by decide +kernel
theorem d_AdjoinedSetsModel_isTautology_9 : decode b_AdjoinedSetsModel_isTautology 9 = .ok (.iconst 1, 1) := by decide +kernel
theorem d_AdjoinedSetsModel_isTautology_10 : decode b_AdjoinedSetsModel_isTautology 10 = .ok (.goto 4, 3) := by decide +kernel
theorem d_AdjoinedSetsModel_isTautology_13 : decode b_AdjoinedSetsModel_isTautology 13 = .ok (.iconst 0, 1) := by decide +kernel
theorem d_AdjoinedSetsModel_isTautology_14 : decode b_AdjoinedSetsModel_isTautology 14 = .ok (.istore_n 2, 1) := by decide +kernel
theorem d_AdjoinedSetsModel_isTautology_15 : decode b_AdjoinedSetsModel_isTautology 15 = .ok (.iconst 0, 1) := by decide +kernel
theorem d_AdjoinedSetsModel_isTautology_16 : decode b_AdjoinedSetsModel_isTautology 16 = .ok (.istore_n 3, 1) := by decide +kernel
theorem d_AdjoinedSetsModel_isTautology_17 : decode b_AdjoinedSetsModel_isTautology 17 = .ok (.iload_n 3, 1) := by decide +kernel
theorem d_AdjoinedSetsModel_isTautology_18 : decode b_AdjoinedSetsModel_isTautology 18 = .ok (.bipush 64, 2) := by decide +kernel
theorem d_AdjoinedSetsModel_isTautology_20 : decode b_AdjoinedSetsModel_isTautology 20 = .ok (.if_icmp .ge 20, 3) := by decide +kernel
theorem d_AdjoinedSetsModel_isTautology_23 : decode b_AdjoinedSetsModel_isTautology 23 = .ok (.iload_n 2, 1) := by decide +kernel
theorem d_AdjoinedSetsModel_isTautology_24 : decode b_AdjoinedSetsModel_isTautology 24 = .ok (.ifCond .eq 16, 3) := by decide +kernel
theorem d_AdjoinedSetsModel_isTautology_27 : decode b_AdjoinedSetsModel_isTautology 27 = .ok (.aload_n 0, 1) := by decide +kernel
theorem d_AdjoinedSetsModel_isTautology_28 : decode b_AdjoinedSetsModel_isTautology 28 = .ok (.iload_n 1, 1) := by decide +kernel
theorem d_AdjoinedSetsModel_isTautology_29 : decode b_AdjoinedSetsModel_isTautology 29 = .ok (.iload_n 3, 1) := by decide +kernel
theorem d_AdjoinedSetsModel_isTautology_30 : decode b_AdjoinedSetsModel_isTautology 30 = .ok (.invokevirtual 267, 3) := by decide +kernel
theorem d_AdjoinedSetsModel_isTautology_33 : decode b_AdjoinedSetsModel_isTautology 33 = .ok (.istore_n 2, 1) := by decide +kernel
theorem d_AdjoinedSetsModel_isTautology_34 : decode b_AdjoinedSetsModel_isTautology 34 = .ok (.iinc 3 1, 3) := by decide +kernel
theorem d_AdjoinedSetsModel_isTautology_37 : decode b_AdjoinedSetsModel_isTautology 37 = .ok (.goto (-20), 3) := by decide +kernel
theorem d_AdjoinedSetsModel_isTautology_40 : decode b_AdjoinedSetsModel_isTautology 40 = .ok (.iload_n 2, 1) := by decide +kernel
theorem d_AdjoinedSetsModel_isTautology_41 : decode b_AdjoinedSetsModel_isTautology 41 = .ok (.ireturn, 1) := by decide +kernel
def s_AdjoinedSetsModel_isTautology_17 : Nat → Nat → Int32 → Int32 → Int32 → HP → Option (Int32 × HP)
  | 0 => fun _ _ _ _ _ => none
  | k + 1 => fun x0 x1 x2 x3 h =>
  if 64 ≤ x3 then (
    (zr x2).bind fun _ => some (x2, h))
  else (
    if x2 = 0 then (
      (zr x2).bind fun _ => some (x2, h))
    else (
      (kd x0 9).bind fun _ =>
      (s_AdjoinedSetsModel_holds x0 x1 x3 h).bind fun q4 =>
      (s_AdjoinedSetsModel_isTautology_17 k) x0 x1 q4.1 (x3 + 1) q4.2))
set_option maxHeartbeats 4000000 in
set_option maxRecDepth 100000 in
theorem k_AdjoinedSetsModel_isTautology_17 {z : Int32 × HP} (C : CX g R_AdjoinedSetsModel b_AdjoinedSetsModel_isTautology 4 (some .boolean) p s m args meth c) : ∀ (k : Nat) {x0 : Nat} {x1 : Int32} {x2 : Int32} {x3 : Int32} {h : HP} {H : Heap} {locs : List Loc} {ls : Array Slot}, WD g h s.heap H locs → lv_has ls 4 [(0, .ref (aD g x0)), (1, .int x1), (2, .int x2), (3, .int x3)] → s_AdjoinedSetsModel_isTautology_17 k x0 x1 x2 x3 h = some z → W p l e (rmS 4 91) s m args below meth c H locs 0 0 (MQ below (Qq g (some (.int z.1)) z.2) args s 0 0 (inA g)) (F0 m 17 ls []) := by
  have hx := C.1
  have hb := C.2.1
  intro k
  induction k with
  | zero =>
    intro x0 x1 x2 x3 h H locs ls hw hl hs
    exact (no_s hs).elim
  | succ k ih =>
    intro x0 x1 x2 x3 h H locs ls hw hl hs
    rw [s_AdjoinedSetsModel_isTautology_17] at hs
    refine lv_iload_n hx hb d_AdjoinedSetsModel_isTautology_17 rfl (lv_at hl 3 rfl) ?_
    refine lv_bipush (v := 64) hx hb d_AdjoinedSetsModel_isTautology_18 (by decide) ?_
    refine lv_icmp_ge hx hb d_AdjoinedSetsModel_isTautology_20 (tgt := 40) (by decide) (fun hc => ?_) (fun hc => ?_)
    · have hs := oi_t hc hs
      refine lv_iload_n hx hb d_AdjoinedSetsModel_isTautology_40 rfl (lv_at hl 2 rfl) ?_
      obtain ⟨_, e1, hs⟩ := ob hs
      obtain rfl := Option.some.inj hs
      exact pg_zret (v := x2) C hw (zr_n e1) d_AdjoinedSetsModel_isTautology_41
    · have hs := oi_f hc hs
      refine lv_iload_n hx hb d_AdjoinedSetsModel_isTautology_23 rfl (lv_at hl 2 rfl) ?_
      refine lv_if_eq hx hb d_AdjoinedSetsModel_isTautology_24 (tgt := 40) (by decide) (fun hc => ?_) (fun hc => ?_)
      · have hs := oi_t hc hs
        refine lv_iload_n hx hb d_AdjoinedSetsModel_isTautology_40 rfl (lv_at hl 2 rfl) ?_
        obtain ⟨_, e2, hs⟩ := ob hs
        obtain rfl := Option.some.inj hs
        exact pg_zret (v := x2) C hw (zr_n e2) d_AdjoinedSetsModel_isTautology_41
      · have hs := oi_f hc hs
        refine lv_aload_n hx hb d_AdjoinedSetsModel_isTautology_27 rfl (lv_at hl 0 rfl) ?_
        refine lv_iload_n hx hb d_AdjoinedSetsModel_isTautology_28 rfl (lv_at hl 1 rfl) ?_
        refine lv_iload_n hx hb d_AdjoinedSetsModel_isTautology_29 rfl (lv_at hl 3 rfl) ?_
        obtain ⟨_, e3, hs⟩ := ob hs
        obtain ⟨q4, e5, hs⟩ := ob hs
        refine pg_callV C hw hl.1 ml_AdjoinedSetsModel_267 e3 (As := [.int x1, .int x3]) (rest := []) (c_AdjoinedSetsModel_holds l g e5) rfl (rm_ok (Nat.le_of_ble_eq_true rfl) (Nat.le_of_ble_eq_true rfl)) (Nat.le_of_ble_eq_true rfl) rfl (st1 := [.int q4.1]) rfl d_AdjoinedSetsModel_isTautology_30 (fun H locs hw => ?_)
        refine lv_istore_n hx hb d_AdjoinedSetsModel_isTautology_33 rfl hl (by decide) (lv' := [(2, .int q4.1), (0, .ref (aD g x0)), (1, .int x1), (3, .int x3)]) rfl (fun ls hl => ?_)
        refine lv_iinc hx hb d_AdjoinedSetsModel_isTautology_34 hl (k := 3) rfl (v := (x3 + 1)) (iinc_e _ (by decide)) (by decide) (lv' := [(3, .int (x3 + 1)), (2, .int q4.1), (0, .ref (aD g x0)), (1, .int x1)]) rfl (fun ls hl => ?_)
        refine lv_goto hx hb d_AdjoinedSetsModel_isTautology_37 (tgt := 17) (by decide) ?_
        exact ih hw (lv_sub hl [2, 3, 1, 0] rfl) hs

def s_AdjoinedSetsModel_isTautology_14 (x0 : Nat) (x1 : Int32) (t0 : Int32) (h : HP) : Option (Int32 × HP) :=
  s_AdjoinedSetsModel_isTautology_17 20000 x0 x1 t0 0 h
set_option maxHeartbeats 4000000 in
set_option maxRecDepth 100000 in
theorem k_AdjoinedSetsModel_isTautology_14 {x0 : Nat} {x1 : Int32} {t0 : Int32} {h : HP} {z : Int32 × HP} (C : CX g R_AdjoinedSetsModel b_AdjoinedSetsModel_isTautology 4 (some .boolean) p s m args meth c) {H : Heap} {locs : List Loc} {ls : Array Slot} (hw : WD g h s.heap H locs) (hl : lv_has ls 4 [(0, .ref (aD g x0)), (1, .int x1)]) (hs : s_AdjoinedSetsModel_isTautology_14 x0 x1 t0 h = some z) : W p l e (rmS 4 91) s m args below meth c H locs 0 0 (MQ below (Qq g (some (.int z.1)) z.2) args s 0 0 (inA g)) (F0 m 14 ls [.int t0]) := by
  unfold s_AdjoinedSetsModel_isTautology_14 at hs
  have hx := C.1
  have hb := C.2.1
  refine lv_istore_n hx hb d_AdjoinedSetsModel_isTautology_14 rfl hl (by decide) (lv' := [(2, .int t0), (0, .ref (aD g x0)), (1, .int x1)]) rfl (fun ls hl => ?_)
  refine lv_iconst (v := 0) hx hb d_AdjoinedSetsModel_isTautology_15 (by decide) ?_
  refine lv_istore_n hx hb d_AdjoinedSetsModel_isTautology_16 rfl hl (by decide) (lv' := [(3, .int 0), (2, .int t0), (0, .ref (aD g x0)), (1, .int x1)]) rfl (fun ls hl => ?_)
  exact k_AdjoinedSetsModel_isTautology_17 C 20000 hw (lv_sub hl [2, 3, 1, 0] rfl) hs

def s_AdjoinedSetsModel_isTautology (x0 : Nat) (h : HP) : Option (Int32 × HP) :=
  (kd x0 9).bind fun _ =>
  (s_AdjoinedSetsModel_tokenize x0 h).bind fun q2 =>
  if q2.1 ≤ 0 then (
    s_AdjoinedSetsModel_isTautology_14 x0 q2.1 0 q2.2)
  else (
    s_AdjoinedSetsModel_isTautology_14 x0 q2.1 1 q2.2)
set_option maxHeartbeats 4000000 in
set_option maxRecDepth 100000 in
theorem c_AdjoinedSetsModel_isTautology (l : Launch) (g : GG) {x0 : Nat} {h : HP} {z : Int32 × HP} (hs : s_AdjoinedSetsModel_isTautology x0 h = some z) : Ct l g y_AdjoinedSetsModel_isTautology w_AdjoinedSetsModel_isTautology (rmS 4 91) [.ref (aD g x0)] h (some (.int z.1)) z.2 := by
  refine Ct.of (own := R_AdjoinedSetsModel) (by decide) rfl rfl (Nat.le_of_ble_eq_true rfl) ?_
  intro p e s m args below meth c ls C hl hw
  have hx := C.1
  have hb := C.2.1
  have hl : lv_has ls 4 [(0, .ref (aD g x0))] := hl
  unfold s_AdjoinedSetsModel_isTautology at hs
  refine lv_aload_n hx hb d_AdjoinedSetsModel_isTautology_0 rfl (lv_at hl 0 rfl) ?_
  obtain ⟨_, e1, hs⟩ := ob hs
  obtain ⟨q2, e3, hs⟩ := ob hs
  refine pg_callV C hw hl.1 ml_AdjoinedSetsModel_263 e1 (As := []) (rest := []) (c_AdjoinedSetsModel_tokenize l g e3) rfl (rm_ok (Nat.le_of_ble_eq_true rfl) (Nat.le_of_ble_eq_true rfl)) (Nat.le_of_ble_eq_true rfl) rfl (st1 := [.int q2.1]) rfl d_AdjoinedSetsModel_isTautology_1 (fun H locs hw => ?_)
  refine lv_istore_n hx hb d_AdjoinedSetsModel_isTautology_4 rfl hl (by decide) (lv' := [(1, .int q2.1), (0, .ref (aD g x0))]) rfl (fun ls hl => ?_)
  refine lv_iload_n hx hb d_AdjoinedSetsModel_isTautology_5 rfl (lv_at hl 0 rfl) ?_
  refine lv_if_le hx hb d_AdjoinedSetsModel_isTautology_6 (tgt := 13) (by decide) (fun hc => ?_) (fun hc => ?_)
  · have hs := oi_t hc hs
    refine lv_iconst (v := 0) hx hb d_AdjoinedSetsModel_isTautology_13 (by decide) ?_
    exact k_AdjoinedSetsModel_isTautology_14 C hw (lv_sub hl [1, 0] rfl) hs
  · have hs := oi_f hc hs
    refine lv_iconst (v := 1) hx hb d_AdjoinedSetsModel_isTautology_9 (by decide) ?_
    refine lv_goto hx hb d_AdjoinedSetsModel_isTautology_10 (tgt := 14) (by decide) ?_
    exact k_AdjoinedSetsModel_isTautology_14 C hw (lv_sub hl [1, 0] rfl) hs

end
