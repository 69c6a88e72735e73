section
variable {p : Program} {l : Launch} {e : Env} {s : State} {m : MethodId} {args : Array Value} {below : List Frame} {meth : Method} {c : Code} {g : GG}
theorem d_AdjoinedSetsModel_isInstance_0 : decode b_AdjoinedSetsModel_isInstance 0 = .ok (.aload_n 0, 1) := by decide +kernel
theorem d_AdjoinedSetsModel_isInstance_1 : decode b_AdjoinedSetsModel_isInstance 1 = .ok (.iload_n 1, 1) := by decide +kernel
theorem d_AdjoinedSetsModel_isInstance_2 : decode b_AdjoinedSetsModel_isInstance 2 = .ok (.invokevirtual 271, 3) := by decide +kernel
theorem d_AdjoinedSetsModel_isInstance_5 : decode b_AdjoinedSetsModel_isInstance 5 = .ok (.istore_n 3, 1) := by decide +kernel
theorem d_AdjoinedSetsModel_isInstance_6 : decode b_AdjoinedSetsModel_isInstance 6 = .ok (.aload_n 0, 1) := by decide +kernel
theorem d_AdjoinedSetsModel_isInstance_7 : decode b_AdjoinedSetsModel_isInstance 7 = .ok (.iload_n 3, 1) := by decide +kernel
theorem d_AdjoinedSetsModel_isInstance_8 : decode b_AdjoinedSetsModel_isInstance 8 = .ok (.invokevirtual 234, 3) := by decide +kernel
theorem d_AdjoinedSetsModel_isInstance_11 : decode b_AdjoinedSetsModel_isInstance 11 = .ok (.istore 4, 2) := by decide +kernel
theorem d_AdjoinedSetsModel_isInstance_13 : decode b_AdjoinedSetsModel_isInstance 13 = .ok (.iconst (-1), 1) := by decide +kernel
theorem d_AdjoinedSetsModel_isInstance_14 : decode b_AdjoinedSetsModel_isInstance 14 = .ok (.istore 5, 2) := by decide +kernel
theorem d_AdjoinedSetsModel_isInstance_16 : decode b_AdjoinedSetsModel_isInstance 16 = .ok (.iload 4, 2) := by decide +kernel
theorem d_AdjoinedSetsModel_isInstance_18 : decode b_AdjoinedSetsModel_isInstance 18 = .ok (.iconst 1, 1) := by decide +kernel
theorem d_AdjoinedSetsModel_isInstance_19 : decode b_AdjoinedSetsModel_isInstance 19 = .ok (.isub, 1) := by decide +kernel
theorem d_AdjoinedSetsModel_isInstance_20 : decode b_AdjoinedSetsModel_isInstance 20 = .ok (.istore 6, 2) := by decide +kernel
theorem d_AdjoinedSetsModel_isInstance_22 : decode b_AdjoinedSetsModel_isInstance 22 = .ok (.iload 6, 2) := by decide +kernel
theorem d_AdjoinedSetsModel_isInstance_24 : decode b_AdjoinedSetsModel_isInstance 24 = .ok (.iload_n 3, 1) := by decide +kernel
theorem d_AdjoinedSetsModel_isInstance_25 : decode b_AdjoinedSetsModel_isInstance 25 = .ok (.if_icmp .lt 74, 3) := by decide +kernel
theorem d_AdjoinedSetsModel_isInstance_28 : decode b_AdjoinedSetsModel_isInstance 28 = .ok (.aload_n 0, 1) := by decide +kernel
theorem d_AdjoinedSetsModel_isInstance_29 : decode b_AdjoinedSetsModel_isInstance 29 = .ok (.getfield 38, 3) := by decide +kernel
theorem d_AdjoinedSetsModel_isInstance_32 : decode b_AdjoinedSetsModel_isInstance 32 = .ok (.iload 6, 2) := by decide +kernel
theorem d_AdjoinedSetsModel_isInstance_34 : decode b_AdjoinedSetsModel_isInstance 34 = .ok (.iload_n 3, 1) := by decide +kernel
theorem d_AdjoinedSetsModel_isInstance_35 : decode b_AdjoinedSetsModel_isInstance 35 = .ok (.isub, 1) := by decide +kernel
theorem d_AdjoinedSetsModel_isInstance_36 : decode b_AdjoinedSetsModel_isInstance 36 = .ok (.baload, 1) := by decide +kernel
theorem d_AdjoinedSetsModel_isInstance_37 : decode b_AdjoinedSetsModel_isInstance 37 = .ok (.ifCond .eq 37, 3) := by decide +kernel
theorem d_AdjoinedSetsModel_isInstance_40 : decode b_AdjoinedSetsModel_isInstance 40 = .ok (.aload_n 0, 1) := by decide +kernel
theorem d_AdjoinedSetsModel_isInstance_41 : decode b_AdjoinedSetsModel_isInstance 41 = .ok (.getfield 7, 3) := by decide +kernel
theorem d_AdjoinedSetsModel_isInstance_44 : decode b_AdjoinedSetsModel_isInstance 44 = .ok (.iload 6, 2) := by decide +kernel
theorem d_AdjoinedSetsModel_isInstance_46 : decode b_AdjoinedSetsModel_isInstance 46 = .ok (.iaload, 1) := by decide +kernel
theorem d_AdjoinedSetsModel_isInstance_47 : decode b_AdjoinedSetsModel_isInstance 47 = .ok (.bipush 97, 2) := by decide +kernel
theorem d_AdjoinedSetsModel_isInstance_49 : decode b_AdjoinedSetsModel_isInstance 49 = .ok (.isub, 1) := by decide +kernel
theorem d_AdjoinedSetsModel_isInstance_50 : decode b_AdjoinedSetsModel_isInstance 50 = .ok (.iload_n 2, 1) := by decide +kernel
theorem d_AdjoinedSetsModel_isInstance_51 : decode b_AdjoinedSetsModel_isInstance 51 = .ok (.if_icmp .ne 23, 3) := by decide +kernel
theorem d_AdjoinedSetsModel_isInstance_54 : decode b_AdjoinedSetsModel_isInstance 54 = .ok (.aload_n 0, 1) := by decide +kernel
theorem d_AdjoinedSetsModel_isInstance_55 : decode b_AdjoinedSetsModel_isInstance 55 = .ok (.getfield 42, 3) := by decide +kernel
theorem d_AdjoinedSetsModel_isInstance_58 : decode b_AdjoinedSetsModel_isInstance 58 = .ok (.iload 6, 2) := by decide +kernel
theorem d_AdjoinedSetsModel_isInstance_60 : decode b_AdjoinedSetsModel_isInstance 60 = .ok (.iload_n 3, 1) := by decide +kernel
theorem d_AdjoinedSetsModel_isInstance_61 : decode b_AdjoinedSetsModel_isInstance 61 = .ok (.isub, 1) := by decide +kernel
theorem d_AdjoinedSetsModel_isInstance_62 : decode b_AdjoinedSetsModel_isInstance 62 = .ok (.iaload, 1) := by decide +kernel
theorem d_AdjoinedSetsModel_isInstance_63 : decode b_AdjoinedSetsModel_isInstance 63 = .ok (.iconst 1, 1) := by decide +kernel
theorem d_AdjoinedSetsModel_isInstance_64 : decode b_AdjoinedSetsModel_isInstance 64 = .ok (.iload_n 2, 1) := by decide +kernel
theorem d_AdjoinedSetsModel_isInstance_65 : decode b_AdjoinedSetsModel_isInstance 65 = .ok (.ishl, 1) := by decide +kernel
theorem d_AdjoinedSetsModel_isInstance_66 : decode b_AdjoinedSetsModel_isInstance 66 = .ok (.iand, 1) := by decide +kernel
theorem d_AdjoinedSetsModel_isInstance_67 : decode b_AdjoinedSetsModel_isInstance 67 = .ok (.ifCond .ne 7, 3) := by decide +kernel
theorem d_AdjoinedSetsModel_isInstance_70 : decode b_AdjoinedSetsModel_isInstance 70 = .ok (.iconst 1, 1) := by decide +kernel
theorem d_AdjoinedSetsModel_isInstance_71 : decode b_AdjoinedSetsModel_isInstance 71 = .ok (.goto 4, 3) := by decide +kernel
theorem d_AdjoinedSetsModel_isInstance_74 : decode b_AdjoinedSetsModel_isInstance 74 = .ok (.iconst 0, 1) := by decide +kernel
theorem d_AdjoinedSetsModel_isInstance_75 : decode b_AdjoinedSetsModel_isInstance 75 = .ok (.istore 7, 2) := by decide +kernel
theorem d_AdjoinedSetsModel_isInstance_77 : decode b_AdjoinedSetsModel_isInstance 77 = .ok (.iload 7, 2) := by decide +kernel
theorem d_AdjoinedSetsModel_isInstance_79 : decode b_AdjoinedSetsModel_isInstance 79 = .ok (.ifCond .eq 10, 3) := by decide +kernel
theorem d_AdjoinedSetsModel_isInstance_82 : decode b_AdjoinedSetsModel_isInstance 82 = .ok (.iload 6, 2) := by decide +kernel
theorem d_AdjoinedSetsModel_isInstance_84 : decode b_AdjoinedSetsModel_isInstance 84 = .ok (.iload_n 3, 1) := by decide +kernel
theorem d_AdjoinedSetsModel_isInstance_85 : decode b_AdjoinedSetsModel_isInstance 85 = .ok (.isub, 1) := by decide +kernel
theorem d_AdjoinedSetsModel_isInstance_86 : decode b_AdjoinedSetsModel_isInstance 86 = .ok (.goto 5, 3) := by decide +kernel
theorem d_AdjoinedSetsModel_isInstance_89 : decode b_AdjoinedSetsModel_isInstance 89 = .ok (.iload 5, 2) := by decide +kernel
theorem d_AdjoinedSetsModel_isInstance_91 : decode b_AdjoinedSetsModel_isInstance 91 = .ok (.istore 5, 2) := by decide +kernel
theorem d_AdjoinedSetsModel_isInstance_93 : decode b_AdjoinedSetsModel_isInstance 93 = .ok (.iinc 6 (-1), 3) := by decide +kernel
theorem d_AdjoinedSetsModel_isInstance_96 : decode b_AdjoinedSetsModel_isInstance 96 = .ok (.goto (-74), 3) := by decide +kernel
theorem d_AdjoinedSetsModel_isInstance_99 : decode b_AdjoinedSetsModel_isInstance 99 = .ok (.aload_n 0, 1) := by decide +kernel
theorem d_AdjoinedSetsModel_isInstance_100 : decode b_AdjoinedSetsModel_isInstance 100 = .ok (.invokevirtual 247, 3) := by decide +kernel
theorem d_AdjoinedSetsModel_isInstance_103 : decode b_AdjoinedSetsModel_isInstance 103 = .ok (.iload 5, 2) := by decide +kernel
theorem d_AdjoinedSetsModel_isInstance_105 : decode b_AdjoinedSetsModel_isInstance 105 = .ok (.aload_n 0, 1) := by decide +kernel
theorem d_AdjoinedSetsModel_isInstance_106 : decode b_AdjoinedSetsModel_isInstance 106 = .ok (.getfield 124, 3) := by decide +kernel
theorem d_AdjoinedSetsModel_isInstance_109 : decode b_AdjoinedSetsModel_isInstance 109 = .ok (.if_icmp .lt 5, 3) := by decide +kernel
theorem d_AdjoinedSetsModel_isInstance_112 : decode b_AdjoinedSetsModel_isInstance 112 = .ok (.iconst 0, 1) := by decide +kernel
theorem d_AdjoinedSetsModel_isInstance_113 : decode b_AdjoinedSetsModel_isInstance 113 = .ok (.ireturn, 1) := by decide +kernel
theorem d_AdjoinedSetsModel_isInstance_114 : decode b_AdjoinedSetsModel_isInstance 114 = .ok (.iload 5, 2) := by decide +kernel
theorem d_AdjoinedSetsModel_isInstance_116 : decode b_AdjoinedSetsModel_isInstance 116 = .ok (.ifCond .lt 23, 3) := by decide +kernel
theorem d_AdjoinedSetsModel_isInstance_119 : decode b_AdjoinedSetsModel_isInstance 119 = .ok (.aload_n 0, 1) := by decide +kernel
theorem d_AdjoinedSetsModel_isInstance_120 : decode b_AdjoinedSetsModel_isInstance 120 = .ok (.iload_n 3, 1) := by decide +kernel
theorem d_AdjoinedSetsModel_isInstance_121 : decode b_AdjoinedSetsModel_isInstance 121 = .ok (.iconst 0, 1) := by decide +kernel
theorem d_AdjoinedSetsModel_isInstance_122 : decode b_AdjoinedSetsModel_isInstance 122 = .ok (.iload 5, 2) := by decide +kernel
theorem d_AdjoinedSetsModel_isInstance_124 : decode b_AdjoinedSetsModel_isInstance 124 = .ok (.invokevirtual 240, 3) := by decide +kernel
theorem d_AdjoinedSetsModel_isInstance_127 : decode b_AdjoinedSetsModel_isInstance 127 = .ok (.ifCond .ne 5, 3) := by decide +kernel
theorem d_AdjoinedSetsModel_isInstance_130 : decode b_AdjoinedSetsModel_isInstance 130 = .ok (.iconst 0, 1) := by decide +kernel
theorem d_AdjoinedSetsModel_isInstance_131 : decode b_AdjoinedSetsModel_isInstance 131 = .ok (.ireturn, 1) := by decide +kernel
theorem d_AdjoinedSetsModel_isInstance_132 : decode b_AdjoinedSetsModel_isInstance 132 = .ok (.aload_n 0, 1) := by decide +kernel
theorem d_AdjoinedSetsModel_isInstance_133 : decode b_AdjoinedSetsModel_isInstance 133 = .ok (.iload_n 2, 1) := by decide +kernel
theorem d_AdjoinedSetsModel_isInstance_134 : decode b_AdjoinedSetsModel_isInstance 134 = .ok (.iload 5, 2) := by decide +kernel
theorem d_AdjoinedSetsModel_isInstance_136 : decode b_AdjoinedSetsModel_isInstance 136 = .ok (.invokevirtual 250, 3) := by decide +kernel
theorem d_AdjoinedSetsModel_isInstance_139 : decode b_AdjoinedSetsModel_isInstance 139 = .ok (.aload_n 0, 1) := by decide +kernel
theorem d_AdjoinedSetsModel_isInstance_140 : decode b_AdjoinedSetsModel_isInstance 140 = .ok (.iload_n 3, 1) := by decide +kernel
theorem d_AdjoinedSetsModel_isInstance_141 : decode b_AdjoinedSetsModel_isInstance 141 = .ok (.iconst 0, 1) := by decide +kernel
theorem d_AdjoinedSetsModel_isInstance_142 : decode b_AdjoinedSetsModel_isInstance 142 = .ok (.invokevirtual 253, 3) := by decide +kernel
theorem d_AdjoinedSetsModel_isInstance_145 : decode b_AdjoinedSetsModel_isInstance 145 = .ok (.aload_n 0, 1) := by decide +kernel
theorem d_AdjoinedSetsModel_isInstance_146 : decode b_AdjoinedSetsModel_isInstance 146 = .ok (.getfield 124, 3) := by decide +kernel
theorem d_AdjoinedSetsModel_isInstance_149 : decode b_AdjoinedSetsModel_isInstance 149 = .ok (.if_icmp .ne 7, 3) := by decide +kernel
theorem d_AdjoinedSetsModel_isInstance_152 : decode b_AdjoinedSetsModel_isInstance 152 = .ok (.iconst 1, 1) := by decide +kernel
theorem d_AdjoinedSetsModel_isInstance_153 : decode b_AdjoinedSetsModel_isInstance 153 = .ok (.goto 4, 3) := by decide +kernel
theorem d_AdjoinedSetsModel_isInstance_156 : decode b_AdjoinedSetsModel_isInstance 156 = .ok (.iconst 0, 1) := by decide +kernel
theorem d_AdjoinedSetsModel_isInstance_157 : decode b_AdjoinedSetsModel_isInstance 157 = .ok (.ireturn, 1) := by decide +kernel
def s_AdjoinedSetsModel_isInstance_91 (c22 : Nat → Int32 → Int32 → Int32 → Int32 → HP → Option (Int32 × HP)) (x0 : Nat) (x2 : Int32) (x3 : Int32) (x6 : Int32) (t0 : Int32) (h : HP) : Option (Int32 × HP) :=
  c22 x0 x2 x3 t0 (x6 + (-1)) h
set_option maxHeartbeats 4000000 in
set_option maxRecDepth 100000 in
theorem k_AdjoinedSetsModel_isInstance_91 {x0 : Nat} {x2 : Int32} {x3 : Int32} {x6 : Int32} {t0 : Int32} {h : HP} {z : Int32 × HP} (C : CX g R_AdjoinedSetsModel b_AdjoinedSetsModel_isInstance 8 (some .boolean) p s m args meth c) (c22 : Nat → Int32 → Int32 → Int32 → Int32 → HP → Option (Int32 × HP))
    (hc22 : ∀ {x0 : Nat} {x2 : Int32} {x3 : Int32} {x5 : Int32} {x6 : Int32} {h : HP} {H : Heap} {locs : List Loc} {ls : Array Slot}, WD g h s.heap H locs → lv_has ls 8 [(0, .ref (aD g x0)), (2, .int x2), (3, .int x3), (5, .int x5), (6, .int x6)] → c22 x0 x2 x3 x5 x6 h = some z → W p l e (rmS 5 113) s m args below meth c H locs 0 0 (MQ below (Qq g (some (.int z.1)) z.2) args s 0 0 (inA g)) (F0 m 22 ls [])) {H : Heap} {locs : List Loc} {ls : Array Slot} (hw : WD g h s.heap H locs) (hl : lv_has ls 8 [(0, .ref (aD g x0)), (2, .int x2), (3, .int x3), (6, .int x6)]) (hs : s_AdjoinedSetsModel_isInstance_91 c22 x0 x2 x3 x6 t0 h = some z) : W p l e (rmS 5 113) s m args below meth c H locs 0 0 (MQ below (Qq g (some (.int z.1)) z.2) args s 0 0 (inA g)) (F0 m 91 ls [.int t0]) := by
  unfold s_AdjoinedSetsModel_isInstance_91 at hs
  have hx := C.1
  have hb := C.2.1
  refine lv_istore hx hb d_AdjoinedSetsModel_isInstance_91 hl (by decide) (lv' := [(5, .int t0), (0, .ref (aD g x0)), (2, .int x2), (3, .int x3), (6, .int x6)]) rfl (fun ls hl => ?_)
  refine lv_iinc hx hb d_AdjoinedSetsModel_isInstance_93 hl (k := 4) rfl (v := (x6 + (-1))) (iinc_e _ (by decide)) (by decide) (lv' := [(6, .int (x6 + (-1))), (5, .int t0), (0, .ref (aD g x0)), (2, .int x2), (3, .int x3)]) rfl (fun ls hl => ?_)
  refine lv_goto hx hb d_AdjoinedSetsModel_isInstance_96 (tgt := 22) (by decide) ?_
  exact hc22 hw (lv_sub hl [2, 3, 4, 1, 0] rfl) hs

def s_AdjoinedSetsModel_isInstance_75 (c22 : Nat → Int32 → Int32 → Int32 → Int32 → HP → Option (Int32 × HP)) (x0 : Nat) (x2 : Int32) (x3 : Int32) (x5 : Int32) (x6 : Int32) (t0 : Int32) (h : HP) : Option (Int32 × HP) :=
  if t0 = 0 then (
    s_AdjoinedSetsModel_isInstance_91 c22 x0 x2 x3 x6 x5 h)
  else (
    s_AdjoinedSetsModel_isInstance_91 c22 x0 x2 x3 x6 (x6 - x3) h)
set_option maxHeartbeats 4000000 in
set_option maxRecDepth 100000 in
theorem k_AdjoinedSetsModel_isInstance_75 {x0 : Nat} {x2 : Int32} {x3 : Int32} {x5 : Int32} {x6 : Int32} {t0 : Int32} {h : HP} {z : Int32 × HP} (C : CX g R_AdjoinedSetsModel b_AdjoinedSetsModel_isInstance 8 (some .boolean) p s m args meth c) (c22 : Nat → Int32 → Int32 → Int32 → Int32 → HP → Option (Int32 × HP))
    (hc22 : ∀ {x0 : Nat} {x2 : Int32} {x3 : Int32} {x5 : Int32} {x6 : Int32} {h : HP} {H : Heap} {locs : List Loc} {ls : Array Slot}, WD g h s.heap H locs → lv_has ls 8 [(0, .ref (aD g x0)), (2, .int x2), (3, .int x3), (5, .int x5), (6, .int x6)] → c22 x0 x2 x3 x5 x6 h = some z → W p l e (rmS 5 113) s m args below meth c H locs 0 0 (MQ below (Qq g (some (.int z.1)) z.2) args s 0 0 (inA g)) (F0 m 22 ls [])) {H : Heap} {locs : List Loc} {ls : Array Slot} (hw : WD g h s.heap H locs) (hl : lv_has ls 8 [(0, .ref (aD g x0)), (2, .int x2), (3, .int x3), (5, .int x5), (6, .int x6)]) (hs : s_AdjoinedSetsModel_isInstance_75 c22 x0 x2 x3 x5 x6 t0 h = some z) : W p l e (rmS 5 113) s m args below meth c H locs 0 0 (MQ below (Qq g (some (.int z.1)) z.2) args s 0 0 (inA g)) (F0 m 75 ls [.int t0]) := by
  unfold s_AdjoinedSetsModel_isInstance_75 at hs
  have hx := C.1
  have hb := C.2.1
  refine lv_istore hx hb d_AdjoinedSetsModel_isInstance_75 hl (by decide) (lv' := [(7, .int t0), (0, .ref (aD g x0)), (2, .int x2), (3, .int x3), (5, .int x5), (6, .int x6)]) rfl (fun ls hl => ?_)
  refine lv_iload hx hb d_AdjoinedSetsModel_isInstance_77 (lv_at hl 0 rfl) ?_
  refine lv_if_eq hx hb d_AdjoinedSetsModel_isInstance_79 (tgt := 89) (by decide) (fun hc => ?_) (fun hc => ?_)
  · have hs := oi_t hc hs
    refine lv_iload hx hb d_AdjoinedSetsModel_isInstance_89 (lv_at hl 4 rfl) ?_
    exact k_AdjoinedSetsModel_isInstance_91 C c22 hc22 hw (lv_sub hl [1, 2, 3, 5] rfl) hs
  · have hs := oi_f hc hs
    refine lv_iload hx hb d_AdjoinedSetsModel_isInstance_82 (lv_at hl 5 rfl) ?_
    refine lv_iload_n hx hb d_AdjoinedSetsModel_isInstance_84 rfl (lv_at hl 3 rfl) ?_
    refine lv_isub hx hb d_AdjoinedSetsModel_isInstance_85 ?_
    refine lv_goto hx hb d_AdjoinedSetsModel_isInstance_86 (tgt := 91) (by decide) ?_
    exact k_AdjoinedSetsModel_isInstance_91 C c22 hc22 hw (lv_sub hl [1, 2, 3, 5] rfl) hs

def s_AdjoinedSetsModel_isInstance_74 (c22 : Nat → Int32 → Int32 → Int32 → Int32 → HP → Option (Int32 × HP)) (x0 : Nat) (x2 : Int32) (x3 : Int32) (x5 : Int32) (x6 : Int32) (h : HP) : Option (Int32 × HP) :=
  s_AdjoinedSetsModel_isInstance_75 c22 x0 x2 x3 x5 x6 0 h
set_option maxHeartbeats 4000000 in
set_option maxRecDepth 100000 in
theorem k_AdjoinedSetsModel_isInstance_74 {x0 : Nat} {x2 : Int32} {x3 : Int32} {x5 : Int32} {x6 : Int32} {h : HP} {z : Int32 × HP} (C : CX g R_AdjoinedSetsModel b_AdjoinedSetsModel_isInstance 8 (some .boolean) p s m args meth c) (c22 : Nat → Int32 → Int32 → Int32 → Int32 → HP → Option (Int32 × HP))
    (hc22 : ∀ {x0 : Nat} {x2 : Int32} {x3 : Int32} {x5 : Int32} {x6 : Int32} {h : HP} {H : Heap} {locs : List Loc} {ls : Array Slot}, WD g h s.heap H locs → lv_has ls 8 [(0, .ref (aD g x0)), (2, .int x2), (3, .int x3), (5, .int x5), (6, .int x6)] → c22 x0 x2 x3 x5 x6 h = some z → W p l e (rmS 5 113) s m args below meth c H locs 0 0 (MQ below (Qq g (some (.int z.1)) z.2) args s 0 0 (inA g)) (F0 m 22 ls [])) {H : Heap} {locs : List Loc} {ls : Array Slot} (hw : WD g h s.heap H locs) (hl : lv_has ls 8 [(0, .ref (aD g x0)), (2, .int x2), (3, .int x3), (5, .int x5), (6, .int x6)]) (hs : s_AdjoinedSetsModel_isInstance_74 c22 x0 x2 x3 x5 x6 h = some z) : W p l e (rmS 5 113) s m args below meth c H locs 0 0 (MQ below (Qq g (some (.int z.1)) z.2) args s 0 0 (inA g)) (F0 m 74 ls []) := by
  unfold s_AdjoinedSetsModel_isInstance_74 at hs
  have hx := C.1
  have hb := C.2.1
  refine lv_iconst (v := 0) hx hb d_AdjoinedSetsModel_isInstance_74 (by decide) ?_
  exact k_AdjoinedSetsModel_isInstance_75 C c22 hc22 hw (lv_sub hl [0, 1, 2, 3, 4] rfl) hs

def s_AdjoinedSetsModel_isInstance_139 (x0 : Nat) (x3 : Int32) (h : HP) : Option (Int32 × HP) :=
  (kd x0 9).bind fun _ =>
  (s_AdjoinedSetsModel_replaced x0 x3 0 h).bind fun q2 =>
  (gI q2.2 x0 9 1).bind fun v4 =>
  if q2.1 = v4 then (
    some (1, q2.2))
  else (
    some (0, q2.2))
set_option maxHeartbeats 4000000 in
set_option maxRecDepth 100000 in
theorem k_AdjoinedSetsModel_isInstance_139 {x0 : Nat} {x3 : Int32} {h : HP} {z : Int32 × HP} (C : CX g R_AdjoinedSetsModel b_AdjoinedSetsModel_isInstance 8 (some .boolean) p s m args meth c) {H : Heap} {locs : List Loc} {ls : Array Slot} (hw : WD g h s.heap H locs) (hl : lv_has ls 8 [(0, .ref (aD g x0)), (3, .int x3)]) (hs : s_AdjoinedSetsModel_isInstance_139 x0 x3 h = some z) : W p l e (rmS 5 113) s m args below meth c H locs 0 0 (MQ below (Qq g (some (.int z.1)) z.2) args s 0 0 (inA g)) (F0 m 139 ls []) := by
  unfold s_AdjoinedSetsModel_isInstance_139 at hs
  have hx := C.1
  have hb := C.2.1
  refine lv_aload_n hx hb d_AdjoinedSetsModel_isInstance_139 rfl (lv_at hl 0 rfl) ?_
  refine lv_iload_n hx hb d_AdjoinedSetsModel_isInstance_140 rfl (lv_at hl 1 rfl) ?_
  refine lv_iconst (v := 0) hx hb d_AdjoinedSetsModel_isInstance_141 (by decide) ?_
  obtain ⟨_, e1, hs⟩ := ob hs
  obtain ⟨q2, e3, hs⟩ := ob hs
  refine pg_callV C hw hl.1 ml_AdjoinedSetsModel_253 e1 (As := [.int x3, .int 0]) (rest := []) (c_AdjoinedSetsModel_replaced l g e3) rfl (rm_ok (Nat.le_of_ble_eq_true rfl) (Nat.le_of_ble_eq_true rfl)) (Nat.le_of_ble_eq_true rfl) rfl (st1 := [.int q2.1]) rfl d_AdjoinedSetsModel_isInstance_142 (fun H locs hw => ?_)
  refine lv_aload_n hx hb d_AdjoinedSetsModel_isInstance_145 rfl (lv_at hl 0 rfl) ?_
  obtain ⟨v4, e5, hs⟩ := ob hs
  refine pg_getI C hw fl_AdjoinedSetsModel_124 e5 d_AdjoinedSetsModel_isInstance_146 ?_
  refine lv_icmp_ne hx hb d_AdjoinedSetsModel_isInstance_149 (tgt := 156) (by decide) (fun hc => ?_) (fun hc => ?_)
  · have hs := oi_f hc hs
    refine lv_iconst (v := 0) hx hb d_AdjoinedSetsModel_isInstance_156 (by decide) ?_
    obtain rfl := Option.some.inj hs
    exact pg_zret (v := 0) C hw rfl d_AdjoinedSetsModel_isInstance_157
  · have hs := oi_t hc hs
    refine lv_iconst (v := 1) hx hb d_AdjoinedSetsModel_isInstance_152 (by decide) ?_
    refine lv_goto hx hb d_AdjoinedSetsModel_isInstance_153 (tgt := 157) (by decide) ?_
    obtain rfl := Option.some.inj hs
    exact pg_zret (v := 1) C hw rfl d_AdjoinedSetsModel_isInstance_157

def s_AdjoinedSetsModel_isInstance_22 : Nat → Nat → Int32 → Int32 → Int32 → Int32 → HP → Option (Int32 × HP)
  | 0 => fun _ _ _ _ _ _ => none
  | k + 1 => fun x0 x2 x3 x5 x6 h =>
  if x6 < x3 then (
    (kd x0 9).bind fun _ =>
    (s_AdjoinedSetsModel_noReplacing x0 h).bind fun q2 =>
    (gI q2 x0 9 1).bind fun v4 =>
    if x5 < v4 then (
      if x5 < 0 then (
        s_AdjoinedSetsModel_isInstance_139 x0 x3 q2)
      else (
        (kd x0 9).bind fun _ =>
        (s_AdjoinedSetsModel_isSame x0 x3 0 x5 q2).bind fun q7 =>
        if q7 = 0 then (
          some (0, q2))
        else (
          (kd x0 9).bind fun _ =>
          (s_AdjoinedSetsModel_replace x0 x2 x5 q2).bind fun q10 =>
          s_AdjoinedSetsModel_isInstance_139 x0 x3 q10)))
    else (
      some (0, q2)))
  else (
    (gR h x0 9 13).bind fun v14 =>
    (aI h v14 5 (x6 - x3)).bind fun v16 =>
    if v16 = 0 then (
      s_AdjoinedSetsModel_isInstance_74 (s_AdjoinedSetsModel_isInstance_22 k) x0 x2 x3 x5 x6 h)
    else (
      (gR h x0 9 0).bind fun v18 =>
      (aI h v18 0 x6).bind fun v20 =>
      if (v20 - 97) = x2 then (
        (gR h x0 9 14).bind fun v22 =>
        (aI h v22 0 (x6 - x3)).bind fun v24 =>
        if (v24 &&& ((1 : Int32) <<< (x2 &&& 31))) = 0 then (
          s_AdjoinedSetsModel_isInstance_75 (s_AdjoinedSetsModel_isInstance_22 k) x0 x2 x3 x5 x6 1 h)
        else (
          s_AdjoinedSetsModel_isInstance_74 (s_AdjoinedSetsModel_isInstance_22 k) x0 x2 x3 x5 x6 h))
      else (
        s_AdjoinedSetsModel_isInstance_74 (s_AdjoinedSetsModel_isInstance_22 k) x0 x2 x3 x5 x6 h)))
set_option maxHeartbeats 4000000 in
set_option maxRecDepth 100000 in
theorem k_AdjoinedSetsModel_isInstance_22 {z : Int32 × HP} (C : CX g R_AdjoinedSetsModel b_AdjoinedSetsModel_isInstance 8 (some .boolean) p s m args meth c) : ∀ (k : Nat) {x0 : Nat} {x2 : Int32} {x3 : Int32} {x5 : Int32} {x6 : Int32} {h : HP} {H : Heap} {locs : List Loc} {ls : Array Slot}, WD g h s.heap H locs → lv_has ls 8 [(0, .ref (aD g x0)), (2, .int x2), (3, .int x3), (5, .int x5), (6, .int x6)] → s_AdjoinedSetsModel_isInstance_22 k x0 x2 x3 x5 x6 h = some z → W p l e (rmS 5 113) s m args below meth c H locs 0 0 (MQ below (Qq g (some (.int z.1)) z.2) args s 0 0 (inA g)) (F0 m 22 ls []) := by
  have hx := C.1
  have hb := C.2.1
  intro k
  induction k with
  | zero =>
    intro x0 x2 x3 x5 x6 h H locs ls hw hl hs
    exact (no_s hs).elim
  | succ k ih =>
    intro x0 x2 x3 x5 x6 h H locs ls hw hl hs
    rw [s_AdjoinedSetsModel_isInstance_22] at hs
    refine lv_iload hx hb d_AdjoinedSetsModel_isInstance_22 (lv_at hl 4 rfl) ?_
    refine lv_iload_n hx hb d_AdjoinedSetsModel_isInstance_24 rfl (lv_at hl 2 rfl) ?_
    refine lv_icmp_lt hx hb d_AdjoinedSetsModel_isInstance_25 (tgt := 99) (by decide) (fun hc => ?_) (fun hc => ?_)
    · have hs := oi_t hc hs
      refine lv_aload_n hx hb d_AdjoinedSetsModel_isInstance_99 rfl (lv_at hl 0 rfl) ?_
      obtain ⟨_, e1, hs⟩ := ob hs
      obtain ⟨q2, e3, hs⟩ := ob hs
      refine pg_callV C hw hl.1 ml_AdjoinedSetsModel_247 e1 (As := []) (rest := []) (c_AdjoinedSetsModel_noReplacing l g e3) rfl (rm_ok (Nat.le_of_ble_eq_true rfl) (Nat.le_of_ble_eq_true rfl)) (Nat.le_of_ble_eq_true rfl) rfl (st1 := []) rfl d_AdjoinedSetsModel_isInstance_100 (fun H locs hw => ?_)
      refine lv_iload hx hb d_AdjoinedSetsModel_isInstance_103 (lv_at hl 3 rfl) ?_
      refine lv_aload_n hx hb d_AdjoinedSetsModel_isInstance_105 rfl (lv_at hl 0 rfl) ?_
      obtain ⟨v4, e5, hs⟩ := ob hs
      refine pg_getI C hw fl_AdjoinedSetsModel_124 e5 d_AdjoinedSetsModel_isInstance_106 ?_
      refine lv_icmp_lt hx hb d_AdjoinedSetsModel_isInstance_109 (tgt := 114) (by decide) (fun hc => ?_) (fun hc => ?_)
      · have hs := oi_t hc hs
        refine lv_iload hx hb d_AdjoinedSetsModel_isInstance_114 (lv_at hl 3 rfl) ?_
        refine lv_if_lt hx hb d_AdjoinedSetsModel_isInstance_116 (tgt := 139) (by decide) (fun hc => ?_) (fun hc => ?_)
        · have hs := oi_t hc hs
          exact k_AdjoinedSetsModel_isInstance_139 C hw (lv_sub hl [0, 2] rfl) hs
        · have hs := oi_f hc hs
          refine lv_aload_n hx hb d_AdjoinedSetsModel_isInstance_119 rfl (lv_at hl 0 rfl) ?_
          refine lv_iload_n hx hb d_AdjoinedSetsModel_isInstance_120 rfl (lv_at hl 2 rfl) ?_
          refine lv_iconst (v := 0) hx hb d_AdjoinedSetsModel_isInstance_121 (by decide) ?_
          refine lv_iload hx hb d_AdjoinedSetsModel_isInstance_122 (lv_at hl 3 rfl) ?_
          obtain ⟨_, e6, hs⟩ := ob hs
          obtain ⟨q7, e8, hs⟩ := ob hs
          refine pg_callV C hw hl.1 ml_AdjoinedSetsModel_240 e6 (As := [.int x3, .int 0, .int x5]) (rest := []) (c_AdjoinedSetsModel_isSame l g e8) rfl (rm_ok (Nat.le_of_ble_eq_true rfl) (Nat.le_of_ble_eq_true rfl)) (Nat.le_of_ble_eq_true rfl) rfl (st1 := [.int q7]) rfl d_AdjoinedSetsModel_isInstance_124 (fun H locs hw => ?_)
          refine lv_if_ne hx hb d_AdjoinedSetsModel_isInstance_127 (tgt := 132) (by decide) (fun hc => ?_) (fun hc => ?_)
          · have hs := oi_f hc hs
            refine lv_aload_n hx hb d_AdjoinedSetsModel_isInstance_132 rfl (lv_at hl 0 rfl) ?_
            refine lv_iload_n hx hb d_AdjoinedSetsModel_isInstance_133 rfl (lv_at hl 1 rfl) ?_
            refine lv_iload hx hb d_AdjoinedSetsModel_isInstance_134 (lv_at hl 3 rfl) ?_
            obtain ⟨_, e9, hs⟩ := ob hs
            obtain ⟨q10, e11, hs⟩ := ob hs
            refine pg_callV C hw hl.1 ml_AdjoinedSetsModel_250 e9 (As := [.int x2, .int x5]) (rest := []) (c_AdjoinedSetsModel_replace l g e11) rfl (rm_ok (Nat.le_of_ble_eq_true rfl) (Nat.le_of_ble_eq_true rfl)) (Nat.le_of_ble_eq_true rfl) rfl (st1 := []) rfl d_AdjoinedSetsModel_isInstance_136 (fun H locs hw => ?_)
            exact k_AdjoinedSetsModel_isInstance_139 C hw (lv_sub hl [0, 2] rfl) hs
          · have hs := oi_t hc hs
            refine lv_iconst (v := 0) hx hb d_AdjoinedSetsModel_isInstance_130 (by decide) ?_
            obtain rfl := Option.some.inj hs
            exact pg_zret (v := 0) C hw rfl d_AdjoinedSetsModel_isInstance_131
      · have hs := oi_f hc hs
        refine lv_iconst (v := 0) hx hb d_AdjoinedSetsModel_isInstance_112 (by decide) ?_
        obtain rfl := Option.some.inj hs
        exact pg_zret (v := 0) C hw rfl d_AdjoinedSetsModel_isInstance_113
    · have hs := oi_f hc hs
      refine lv_aload_n hx hb d_AdjoinedSetsModel_isInstance_28 rfl (lv_at hl 0 rfl) ?_
      obtain ⟨v14, e15, hs⟩ := ob hs
      refine pg_getR C hw fl_AdjoinedSetsModel_38 e15 d_AdjoinedSetsModel_isInstance_29 ?_
      refine lv_iload hx hb d_AdjoinedSetsModel_isInstance_32 (lv_at hl 4 rfl) ?_
      refine lv_iload_n hx hb d_AdjoinedSetsModel_isInstance_34 rfl (lv_at hl 2 rfl) ?_
      refine lv_isub hx hb d_AdjoinedSetsModel_isInstance_35 ?_
      obtain ⟨v16, e17, hs⟩ := ob hs
      refine pg_baload C hw (t0 := 5) rfl e17 d_AdjoinedSetsModel_isInstance_36 ?_
      refine lv_if_eq hx hb d_AdjoinedSetsModel_isInstance_37 (tgt := 74) (by decide) (fun hc => ?_) (fun hc => ?_)
      · have hs := oi_t hc hs
        exact k_AdjoinedSetsModel_isInstance_74 C (s_AdjoinedSetsModel_isInstance_22 k) ih hw (lv_sub hl [0, 1, 2, 3, 4] rfl) hs
      · have hs := oi_f hc hs
        refine lv_aload_n hx hb d_AdjoinedSetsModel_isInstance_40 rfl (lv_at hl 0 rfl) ?_
        obtain ⟨v18, e19, hs⟩ := ob hs
        refine pg_getR C hw fl_AdjoinedSetsModel_7 e19 d_AdjoinedSetsModel_isInstance_41 ?_
        refine lv_iload hx hb d_AdjoinedSetsModel_isInstance_44 (lv_at hl 4 rfl) ?_
        obtain ⟨v20, e21, hs⟩ := ob hs
        refine pg_iaload C hw (t0 := 0) rfl e21 d_AdjoinedSetsModel_isInstance_46 ?_
        refine lv_bipush (v := 97) hx hb d_AdjoinedSetsModel_isInstance_47 (by decide) ?_
        refine lv_isub hx hb d_AdjoinedSetsModel_isInstance_49 ?_
        refine lv_iload_n hx hb d_AdjoinedSetsModel_isInstance_50 rfl (lv_at hl 1 rfl) ?_
        refine lv_icmp_ne hx hb d_AdjoinedSetsModel_isInstance_51 (tgt := 74) (by decide) (fun hc => ?_) (fun hc => ?_)
        · have hs := oi_f hc hs
          exact k_AdjoinedSetsModel_isInstance_74 C (s_AdjoinedSetsModel_isInstance_22 k) ih hw (lv_sub hl [0, 1, 2, 3, 4] rfl) hs
        · have hs := oi_t hc hs
          refine lv_aload_n hx hb d_AdjoinedSetsModel_isInstance_54 rfl (lv_at hl 0 rfl) ?_
          obtain ⟨v22, e23, hs⟩ := ob hs
          refine pg_getR C hw fl_AdjoinedSetsModel_42 e23 d_AdjoinedSetsModel_isInstance_55 ?_
          refine lv_iload hx hb d_AdjoinedSetsModel_isInstance_58 (lv_at hl 4 rfl) ?_
          refine lv_iload_n hx hb d_AdjoinedSetsModel_isInstance_60 rfl (lv_at hl 2 rfl) ?_
          refine lv_isub hx hb d_AdjoinedSetsModel_isInstance_61 ?_
          obtain ⟨v24, e25, hs⟩ := ob hs
          refine pg_iaload C hw (t0 := 0) rfl e25 d_AdjoinedSetsModel_isInstance_62 ?_
          refine lv_iconst (v := 1) hx hb d_AdjoinedSetsModel_isInstance_63 (by decide) ?_
          refine lv_iload_n hx hb d_AdjoinedSetsModel_isInstance_64 rfl (lv_at hl 1 rfl) ?_
          refine lv_ishl hx hb d_AdjoinedSetsModel_isInstance_65 ?_
          refine lv_iand hx hb d_AdjoinedSetsModel_isInstance_66 ?_
          refine lv_if_ne hx hb d_AdjoinedSetsModel_isInstance_67 (tgt := 74) (by decide) (fun hc => ?_) (fun hc => ?_)
          · have hs := oi_f hc hs
            exact k_AdjoinedSetsModel_isInstance_74 C (s_AdjoinedSetsModel_isInstance_22 k) ih hw (lv_sub hl [0, 1, 2, 3, 4] rfl) hs
          · have hs := oi_t hc hs
            refine lv_iconst (v := 1) hx hb d_AdjoinedSetsModel_isInstance_70 (by decide) ?_
            refine lv_goto hx hb d_AdjoinedSetsModel_isInstance_71 (tgt := 75) (by decide) ?_
            exact k_AdjoinedSetsModel_isInstance_75 C (s_AdjoinedSetsModel_isInstance_22 k) ih hw (lv_sub hl [0, 1, 2, 3, 4] rfl) hs

def s_AdjoinedSetsModel_isInstance (x0 : Nat) (x1 : Int32) (x2 : Int32) (h : HP) : Option (Int32 × HP) :=
  (kd x0 9).bind fun _ =>
  (s_AdjoinedSetsModel_theoremAt x0 x1).bind fun q2 =>
  (kd x0 9).bind fun _ =>
  (s_AdjoinedSetsModel_scan x0 q2 h).bind fun q5 =>
  s_AdjoinedSetsModel_isInstance_22 20000 x0 x2 q2 (-1) (q5.1 - 1) q5.2
set_option maxHeartbeats 4000000 in
set_option maxRecDepth 100000 in
theorem c_AdjoinedSetsModel_isInstance (l : Launch) (g : GG) {x0 : Nat} {x1 : Int32} {x2 : Int32} {h : HP} {z : Int32 × HP} (hs : s_AdjoinedSetsModel_isInstance x0 x1 x2 h = some z) : Ct l g y_AdjoinedSetsModel_isInstance w_AdjoinedSetsModel_isInstance (rmS 5 113) [.ref (aD g x0), .int x1, .int x2] h (some (.int z.1)) z.2 := by
  refine Ct.of (own := R_AdjoinedSetsModel) (by decide) rfl rfl (Nat.le_of_ble_eq_true rfl) ?_
  intro p e s m args below meth c ls C hl hw
  have hx := C.1
  have hb := C.2.1
  have hl : lv_has ls 8 [(0, .ref (aD g x0)), (1, .int x1), (2, .int x2)] := hl
  unfold s_AdjoinedSetsModel_isInstance at hs
  refine lv_aload_n hx hb d_AdjoinedSetsModel_isInstance_0 rfl (lv_at hl 0 rfl) ?_
  refine lv_iload_n hx hb d_AdjoinedSetsModel_isInstance_1 rfl (lv_at hl 1 rfl) ?_
  obtain ⟨_, e1, hs⟩ := ob hs
  obtain ⟨q2, e3, hs⟩ := ob hs
  refine pg_callV C hw hl.1 ml_AdjoinedSetsModel_271 e1 (As := [.int x1]) (rest := []) (c_AdjoinedSetsModel_theoremAt l g e3) rfl (rm_ok (Nat.le_of_ble_eq_true rfl) (Nat.le_of_ble_eq_true rfl)) (Nat.le_of_ble_eq_true rfl) rfl (st1 := [.int q2]) rfl d_AdjoinedSetsModel_isInstance_2 (fun H locs hw => ?_)
  refine lv_istore_n hx hb d_AdjoinedSetsModel_isInstance_5 rfl hl (by decide) (lv' := [(3, .int q2), (0, .ref (aD g x0)), (1, .int x1), (2, .int x2)]) rfl (fun ls hl => ?_)
  refine lv_aload_n hx hb d_AdjoinedSetsModel_isInstance_6 rfl (lv_at hl 1 rfl) ?_
  refine lv_iload_n hx hb d_AdjoinedSetsModel_isInstance_7 rfl (lv_at hl 0 rfl) ?_
  obtain ⟨_, e4, hs⟩ := ob hs
  obtain ⟨q5, e6, hs⟩ := ob hs
  refine pg_callV C hw hl.1 ml_AdjoinedSetsModel_234 e4 (As := [.int q2]) (rest := []) (c_AdjoinedSetsModel_scan l g e6) rfl (rm_ok (Nat.le_of_ble_eq_true rfl) (Nat.le_of_ble_eq_true rfl)) (Nat.le_of_ble_eq_true rfl) rfl (st1 := [.int q5.1]) rfl d_AdjoinedSetsModel_isInstance_8 (fun H locs hw => ?_)
  refine lv_istore hx hb d_AdjoinedSetsModel_isInstance_11 hl (by decide) (lv' := [(4, .int q5.1), (3, .int q2), (0, .ref (aD g x0)), (1, .int x1), (2, .int x2)]) rfl (fun ls hl => ?_)
  refine lv_iconst (v := (-1)) hx hb d_AdjoinedSetsModel_isInstance_13 (by decide) ?_
  refine lv_istore hx hb d_AdjoinedSetsModel_isInstance_14 hl (by decide) (lv' := [(5, .int (-1)), (4, .int q5.1), (3, .int q2), (0, .ref (aD g x0)), (1, .int x1), (2, .int x2)]) rfl (fun ls hl => ?_)
  refine lv_iload hx hb d_AdjoinedSetsModel_isInstance_16 (lv_at hl 1 rfl) ?_
  refine lv_iconst (v := 1) hx hb d_AdjoinedSetsModel_isInstance_18 (by decide) ?_
  refine lv_isub hx hb d_AdjoinedSetsModel_isInstance_19 ?_
  refine lv_istore hx hb d_AdjoinedSetsModel_isInstance_20 hl (by decide) (lv' := [(6, .int (q5.1 - 1)), (5, .int (-1)), (4, .int q5.1), (3, .int q2), (0, .ref (aD g x0)), (1, .int x1), (2, .int x2)]) rfl (fun ls hl => ?_)
  exact k_AdjoinedSetsModel_isInstance_22 C 20000 hw (lv_sub hl [4, 6, 3, 1, 0] rfl) hs

end
section
variable {p : Program} {l : Launch} {e : Env} {s : State} {m : MethodId} {args : Array Value} {below : List Frame} {meth : Method} {c : Code} {g : GG}
theorem d_AdjoinedSetsModel_isForAll_0 : decode b_AdjoinedSetsModel_isForAll 0 = .ok (.aload_n 0, 1) := by decide +kernel
theorem d_AdjoinedSetsModel_isForAll_1 : decode b_AdjoinedSetsModel_isForAll 1 = .ok (.getfield 7, 3) := by decide +kernel
theorem d_AdjoinedSetsModel_isForAll_4 : decode b_AdjoinedSetsModel_isForAll 4 = .ok (.iconst 0, 1) := by decide +kernel
theorem d_AdjoinedSetsModel_isForAll_5 : decode b_AdjoinedSetsModel_isForAll 5 = .ok (.iaload, 1) := by decide +kernel
theorem d_AdjoinedSetsModel_isForAll_6 : decode b_AdjoinedSetsModel_isForAll 6 = .ok (.bipush 76, 2) := by decide +kernel
theorem d_AdjoinedSetsModel_isForAll_8 : decode b_AdjoinedSetsModel_isForAll 8 = .ok (.if_icmp .eq 5, 3) := by decide +kernel
theorem d_AdjoinedSetsModel_isForAll_11 : decode b_AdjoinedSetsModel_isForAll 11 = .ok (.iconst 0, 1) := by decide +kernel
theorem d_AdjoinedSetsModel_isForAll_12 : decode b_AdjoinedSetsModel_isForAll 12 = .ok (.ireturn, 1) := by decide +kernel
theorem d_AdjoinedSetsModel_isForAll_13 : decode b_AdjoinedSetsModel_isForAll 13 = .ok (.aload_n 0, 1) := by decide +kernel
theorem d_AdjoinedSetsModel_isForAll_14 : decode b_AdjoinedSetsModel_isForAll 14 = .ok (.iload_n 1, 1) := by decide +kernel
theorem d_AdjoinedSetsModel_isForAll_15 : decode b_AdjoinedSetsModel_isForAll 15 = .ok (.invokevirtual 271, 3) := by decide +kernel
theorem d_AdjoinedSetsModel_isForAll_18 : decode b_AdjoinedSetsModel_isForAll 18 = .ok (.istore_n 2, 1) := by decide +kernel
theorem d_AdjoinedSetsModel_isForAll_19 : decode b_AdjoinedSetsModel_isForAll 19 = .ok (.aload_n 0, 1) := by decide +kernel
theorem d_AdjoinedSetsModel_isForAll_20 : decode b_AdjoinedSetsModel_isForAll 20 = .ok (.getfield 20, 3) := by decide +kernel
theorem d_AdjoinedSetsModel_isForAll_23 : decode b_AdjoinedSetsModel_isForAll 23 = .ok (.iload_n 1, 1) := by decide +kernel
theorem d_AdjoinedSetsModel_isForAll_24 : decode b_AdjoinedSetsModel_isForAll 24 = .ok (.iaload, 1) := by decide +kernel
theorem d_AdjoinedSetsModel_isForAll_25 : decode b_AdjoinedSetsModel_isForAll 25 = .ok (.aload_n 0, 1) := by decide +kernel
theorem d_AdjoinedSetsModel_isForAll_26 : decode b_AdjoinedSetsModel_isForAll 26 = .ok (.getfield 124, 3) := by decide +kernel
theorem d_AdjoinedSetsModel_isForAll_29 : decode b_AdjoinedSetsModel_isForAll 29 = .ok (.iconst 1, 1) := by decide +kernel
theorem d_AdjoinedSetsModel_isForAll_30 : decode b_AdjoinedSetsModel_isForAll 30 = .ok (.iadd, 1) := by decide +kernel
theorem d_AdjoinedSetsModel_isForAll_31 : decode b_AdjoinedSetsModel_isForAll 31 = .ok (.if_icmp .ne 44, 3) := by decide +kernel
theorem d_AdjoinedSetsModel_isForAll_34 : decode b_AdjoinedSetsModel_isForAll 34 = .ok (.aload_n 0, 1) := by decide +kernel
theorem d_AdjoinedSetsModel_isForAll_35 : decode b_AdjoinedSetsModel_isForAll 35 = .ok (.getfield 7, 3) := by decide +kernel
theorem d_AdjoinedSetsModel_isForAll_38 : decode b_AdjoinedSetsModel_isForAll 38 = .ok (.iload_n 2, 1) := by decide +kernel
theorem d_AdjoinedSetsModel_isForAll_39 : decode b_AdjoinedSetsModel_isForAll 39 = .ok (.iaload, 1) := by decide +kernel
theorem d_AdjoinedSetsModel_isForAll_40 : decode b_AdjoinedSetsModel_isForAll 40 = .ok (.bipush 62, 2) := by decide +kernel
theorem d_AdjoinedSetsModel_isForAll_42 : decode b_AdjoinedSetsModel_isForAll 42 = .ok (.if_icmp .ne 33, 3) := by decide +kernel
theorem d_AdjoinedSetsModel_isForAll_45 : decode b_AdjoinedSetsModel_isForAll 45 = .ok (.aload_n 0, 1) := by decide +kernel
theorem d_AdjoinedSetsModel_isForAll_46 : decode b_AdjoinedSetsModel_isForAll 46 = .ok (.getfield 7, 3) := by decide +kernel
theorem d_AdjoinedSetsModel_isForAll_49 : decode b_AdjoinedSetsModel_isForAll 49 = .ok (.iload_n 2, 1) := by decide +kernel
theorem d_AdjoinedSetsModel_isForAll_50 : decode b_AdjoinedSetsModel_isForAll 50 = .ok (.iconst 1, 1) := by decide +kernel
theorem d_AdjoinedSetsModel_isForAll_51 : decode b_AdjoinedSetsModel_isForAll 51 = .ok (.iadd, 1) := by decide +kernel
theorem d_AdjoinedSetsModel_isForAll_52 : decode b_AdjoinedSetsModel_isForAll 52 = .ok (.iaload, 1) := by decide +kernel
theorem d_AdjoinedSetsModel_isForAll_53 : decode b_AdjoinedSetsModel_isForAll 53 = .ok (.bipush 60, 2) := by decide +kernel
theorem d_AdjoinedSetsModel_isForAll_55 : decode b_AdjoinedSetsModel_isForAll 55 = .ok (.if_icmp .ne 20, 3) := by decide +kernel
theorem d_AdjoinedSetsModel_isForAll_58 : decode b_AdjoinedSetsModel_isForAll 58 = .ok (.aload_n 0, 1) := by decide +kernel
theorem d_AdjoinedSetsModel_isForAll_59 : decode b_AdjoinedSetsModel_isForAll 59 = .ok (.iload_n 2, 1) := by decide +kernel
theorem d_AdjoinedSetsModel_isForAll_60 : decode b_AdjoinedSetsModel_isForAll 60 = .ok (.iconst 2, 1) := by decide +kernel
theorem d_AdjoinedSetsModel_isForAll_61 : decode b_AdjoinedSetsModel_isForAll 61 = .ok (.iadd, 1) := by decide +kernel
theorem d_AdjoinedSetsModel_isForAll_62 : decode b_AdjoinedSetsModel_isForAll 62 = .ok (.iconst 1, 1) := by decide +kernel
theorem d_AdjoinedSetsModel_isForAll_63 : decode b_AdjoinedSetsModel_isForAll 63 = .ok (.aload_n 0, 1) := by decide +kernel
theorem d_AdjoinedSetsModel_isForAll_64 : decode b_AdjoinedSetsModel_isForAll 64 = .ok (.getfield 124, 3) := by decide +kernel
theorem d_AdjoinedSetsModel_isForAll_67 : decode b_AdjoinedSetsModel_isForAll 67 = .ok (.iconst 1, 1) := by decide +kernel
theorem d_AdjoinedSetsModel_isForAll_68 : decode b_AdjoinedSetsModel_isForAll 68 = .ok (.isub, 1) := by decide +kernel
theorem d_AdjoinedSetsModel_isForAll_69 : decode b_AdjoinedSetsModel_isForAll 69 = .ok (.invokevirtual 240, 3) := by decide +kernel
theorem d_AdjoinedSetsModel_isForAll_72 : decode b_AdjoinedSetsModel_isForAll 72 = .ok (.ifCond .ne 5, 3) := by decide +kernel
theorem d_AdjoinedSetsModel_isForAll_75 : decode b_AdjoinedSetsModel_isForAll 75 = .ok (.iconst 0, 1) := by decide +kernel
theorem d_AdjoinedSetsModel_isForAll_76 : decode b_AdjoinedSetsModel_isForAll 76 = .ok (.ireturn, 1) := by decide +kernel
theorem d_AdjoinedSetsModel_isForAll_77 : decode b_AdjoinedSetsModel_isForAll 77 = .ok (.aload_n 0, 1) := by decide +kernel
theorem d_AdjoinedSetsModel_isForAll_78 : decode b_AdjoinedSetsModel_isForAll 78 = .ok (.iconst 2, 1) := by decide +kernel
theorem d_AdjoinedSetsModel_isForAll_79 : decode b_AdjoinedSetsModel_isForAll 79 = .ok (.invokevirtual 237, 3) := by decide +kernel
theorem d_AdjoinedSetsModel_isForAll_82 : decode b_AdjoinedSetsModel_isForAll 82 = .ok (.aload_n 0, 1) := by decide +kernel
theorem d_AdjoinedSetsModel_isForAll_83 : decode b_AdjoinedSetsModel_isForAll 83 = .ok (.getfield 7, 3) := by decide +kernel
theorem d_AdjoinedSetsModel_isForAll_86 : decode b_AdjoinedSetsModel_isForAll 86 = .ok (.iconst 1, 1) := by decide +kernel
theorem d_AdjoinedSetsModel_isForAll_87 : decode b_AdjoinedSetsModel_isForAll 87 = .ok (.iaload, 1) := by decide +kernel
theorem d_AdjoinedSetsModel_isForAll_88 : decode b_AdjoinedSetsModel_isForAll 88 = .ok (.invokestatic 138, 3) := by decide +kernel
theorem d_AdjoinedSetsModel_isForAll_91 : decode b_AdjoinedSetsModel_isForAll 91 = .ok (.iand, 1) := by decide +kernel
theorem d_AdjoinedSetsModel_isForAll_92 : decode b_AdjoinedSetsModel_isForAll 92 = .ok (.ifCond .ne 7, 3) := by decide +kernel
theorem d_AdjoinedSetsModel_isForAll_95 : decode b_AdjoinedSetsModel_isForAll 95 = .ok (.iconst 1, 1) := by decide +kernel
theorem d_AdjoinedSetsModel_isForAll_96 : decode b_AdjoinedSetsModel_isForAll 96 = .ok (.goto 4, 3) := by decide +kernel
theorem d_AdjoinedSetsModel_isForAll_99 : decode b_AdjoinedSetsModel_isForAll 99 = .ok (.iconst 0, 1) := by decide +kernel
theorem d_AdjoinedSetsModel_isForAll_100 : decode b_AdjoinedSetsModel_isForAll 100 = .ok (.ireturn, 1) := by decide +kernel
def s_AdjoinedSetsModel_isForAll (x0 : Nat) (x1 : Int32) (h : HP) : Option (Int32 × HP) :=
  (gR h x0 9 0).bind fun v1 =>
  (aI h v1 0 0).bind fun v3 =>
  if v3 = 76 then (
    (kd x0 9).bind fun _ =>
    (s_AdjoinedSetsModel_theoremAt x0 x1).bind fun q6 =>
    (gR h x0 9 5).bind fun v8 =>
    (aI h v8 0 x1).bind fun v10 =>
    (gI h x0 9 1).bind fun v12 =>
    if v10 = (v12 + 1) then (
      (gR h x0 9 0).bind fun v15 =>
      (aI h v15 0 q6).bind fun v17 =>
      if v17 = 62 then (
        (gR h x0 9 0).bind fun v20 =>
        (aI h v20 0 (q6 + 1)).bind fun v22 =>
        if v22 = 60 then (
          (gI h x0 9 1).bind fun v25 =>
          (kd x0 9).bind fun _ =>
          (s_AdjoinedSetsModel_isSame x0 (q6 + 2) 1 (v25 - 1) h).bind fun q28 =>
          if q28 = 0 then (
            some (0, h))
          else (
            (kd x0 9).bind fun _ =>
            (s_AdjoinedSetsModel_freeIn x0 2 h).bind fun q31 =>
            (gR q31.2 x0 9 0).bind fun v33 =>
            (aI q31.2 v33 0 1).bind fun v35 =>
            (s_AdjoinedSetsModel_bit v35).bind fun q37 =>
            if (q31.1 &&& q37) = 0 then (
              some (1, q31.2))
            else (
              some (0, q31.2))))
        else (
          some (0, h)))
      else (
        some (0, h)))
    else (
      some (0, h)))
  else (
    some (0, h))
set_option maxHeartbeats 4000000 in
set_option maxRecDepth 100000 in
theorem c_AdjoinedSetsModel_isForAll (l : Launch) (g : GG) {x0 : Nat} {x1 : Int32} {h : HP} {z : Int32 × HP} (hs : s_AdjoinedSetsModel_isForAll x0 x1 h = some z) : Ct l g y_AdjoinedSetsModel_isForAll w_AdjoinedSetsModel_isForAll (rmS 4 91) [.ref (aD g x0), .int x1] h (some (.int z.1)) z.2 := by
  refine Ct.of (own := R_AdjoinedSetsModel) (by decide) rfl rfl (Nat.le_of_ble_eq_true rfl) ?_
  intro p e s m args below meth c ls C hl hw
  have hx := C.1
  have hb := C.2.1
  have hl : lv_has ls 3 [(0, .ref (aD g x0)), (1, .int x1)] := hl
  unfold s_AdjoinedSetsModel_isForAll at hs
  refine lv_aload_n hx hb d_AdjoinedSetsModel_isForAll_0 rfl (lv_at hl 0 rfl) ?_
  obtain ⟨v1, e2, hs⟩ := ob hs
  refine pg_getR C hw fl_AdjoinedSetsModel_7 e2 d_AdjoinedSetsModel_isForAll_1 ?_
  refine lv_iconst (v := 0) hx hb d_AdjoinedSetsModel_isForAll_4 (by decide) ?_
  obtain ⟨v3, e4, hs⟩ := ob hs
  refine pg_iaload C hw (t0 := 0) rfl e4 d_AdjoinedSetsModel_isForAll_5 ?_
  refine lv_bipush (v := 76) hx hb d_AdjoinedSetsModel_isForAll_6 (by decide) ?_
  refine lv_icmp_eq hx hb d_AdjoinedSetsModel_isForAll_8 (tgt := 13) (by decide) (fun hc => ?_) (fun hc => ?_)
  · have hs := oi_t hc hs
    refine lv_aload_n hx hb d_AdjoinedSetsModel_isForAll_13 rfl (lv_at hl 0 rfl) ?_
    refine lv_iload_n hx hb d_AdjoinedSetsModel_isForAll_14 rfl (lv_at hl 1 rfl) ?_
    obtain ⟨_, e5, hs⟩ := ob hs
    obtain ⟨q6, e7, hs⟩ := ob hs
    refine pg_callV C hw hl.1 ml_AdjoinedSetsModel_271 e5 (As := [.int x1]) (rest := []) (c_AdjoinedSetsModel_theoremAt l g e7) rfl (rm_ok (Nat.le_of_ble_eq_true rfl) (Nat.le_of_ble_eq_true rfl)) (Nat.le_of_ble_eq_true rfl) rfl (st1 := [.int q6]) rfl d_AdjoinedSetsModel_isForAll_15 (fun H locs hw => ?_)
    refine lv_istore_n hx hb d_AdjoinedSetsModel_isForAll_18 rfl hl (by decide) (lv' := [(2, .int q6), (0, .ref (aD g x0)), (1, .int x1)]) rfl (fun ls hl => ?_)
    refine lv_aload_n hx hb d_AdjoinedSetsModel_isForAll_19 rfl (lv_at hl 1 rfl) ?_
    obtain ⟨v8, e9, hs⟩ := ob hs
    refine pg_getR C hw fl_AdjoinedSetsModel_20 e9 d_AdjoinedSetsModel_isForAll_20 ?_
    refine lv_iload_n hx hb d_AdjoinedSetsModel_isForAll_23 rfl (lv_at hl 2 rfl) ?_
    obtain ⟨v10, e11, hs⟩ := ob hs
    refine pg_iaload C hw (t0 := 0) rfl e11 d_AdjoinedSetsModel_isForAll_24 ?_
    refine lv_aload_n hx hb d_AdjoinedSetsModel_isForAll_25 rfl (lv_at hl 1 rfl) ?_
    obtain ⟨v12, e13, hs⟩ := ob hs
    refine pg_getI C hw fl_AdjoinedSetsModel_124 e13 d_AdjoinedSetsModel_isForAll_26 ?_
    refine lv_iconst (v := 1) hx hb d_AdjoinedSetsModel_isForAll_29 (by decide) ?_
    refine lv_iadd hx hb d_AdjoinedSetsModel_isForAll_30 ?_
    refine lv_icmp_ne hx hb d_AdjoinedSetsModel_isForAll_31 (tgt := 75) (by decide) (fun hc => ?_) (fun hc => ?_)
    · have hs := oi_f hc hs
      refine lv_iconst (v := 0) hx hb d_AdjoinedSetsModel_isForAll_75 (by decide) ?_
      obtain rfl := Option.some.inj hs
      exact pg_zret (v := 0) C hw rfl d_AdjoinedSetsModel_isForAll_76
    · have hs := oi_t hc hs
      refine lv_aload_n hx hb d_AdjoinedSetsModel_isForAll_34 rfl (lv_at hl 1 rfl) ?_
      obtain ⟨v15, e16, hs⟩ := ob hs
      refine pg_getR C hw fl_AdjoinedSetsModel_7 e16 d_AdjoinedSetsModel_isForAll_35 ?_
      refine lv_iload_n hx hb d_AdjoinedSetsModel_isForAll_38 rfl (lv_at hl 0 rfl) ?_
      obtain ⟨v17, e18, hs⟩ := ob hs
      refine pg_iaload C hw (t0 := 0) rfl e18 d_AdjoinedSetsModel_isForAll_39 ?_
      refine lv_bipush (v := 62) hx hb d_AdjoinedSetsModel_isForAll_40 (by decide) ?_
      refine lv_icmp_ne hx hb d_AdjoinedSetsModel_isForAll_42 (tgt := 75) (by decide) (fun hc => ?_) (fun hc => ?_)
      · have hs := oi_f hc hs
        refine lv_iconst (v := 0) hx hb d_AdjoinedSetsModel_isForAll_75 (by decide) ?_
        obtain rfl := Option.some.inj hs
        exact pg_zret (v := 0) C hw rfl d_AdjoinedSetsModel_isForAll_76
      · have hs := oi_t hc hs
        refine lv_aload_n hx hb d_AdjoinedSetsModel_isForAll_45 rfl (lv_at hl 1 rfl) ?_
        obtain ⟨v20, e21, hs⟩ := ob hs
        refine pg_getR C hw fl_AdjoinedSetsModel_7 e21 d_AdjoinedSetsModel_isForAll_46 ?_
        refine lv_iload_n hx hb d_AdjoinedSetsModel_isForAll_49 rfl (lv_at hl 0 rfl) ?_
        refine lv_iconst (v := 1) hx hb d_AdjoinedSetsModel_isForAll_50 (by decide) ?_
        refine lv_iadd hx hb d_AdjoinedSetsModel_isForAll_51 ?_
        obtain ⟨v22, e23, hs⟩ := ob hs
        refine pg_iaload C hw (t0 := 0) rfl e23 d_AdjoinedSetsModel_isForAll_52 ?_
        refine lv_bipush (v := 60) hx hb d_AdjoinedSetsModel_isForAll_53 (by decide) ?_
        refine lv_icmp_ne hx hb d_AdjoinedSetsModel_isForAll_55 (tgt := 75) (by decide) (fun hc => ?_) (fun hc => ?_)
        · have hs := oi_f hc hs
          refine lv_iconst (v := 0) hx hb d_AdjoinedSetsModel_isForAll_75 (by decide) ?_
          obtain rfl := Option.some.inj hs
          exact pg_zret (v := 0) C hw rfl d_AdjoinedSetsModel_isForAll_76
        · have hs := oi_t hc hs
          refine lv_aload_n hx hb d_AdjoinedSetsModel_isForAll_58 rfl (lv_at hl 1 rfl) ?_
          refine lv_iload_n hx hb d_AdjoinedSetsModel_isForAll_59 rfl (lv_at hl 0 rfl) ?_
          refine lv_iconst (v := 2) hx hb d_AdjoinedSetsModel_isForAll_60 (by decide) ?_
          refine lv_iadd hx hb d_AdjoinedSetsModel_isForAll_61 ?_
          refine lv_iconst (v := 1) hx hb d_AdjoinedSetsModel_isForAll_62 (by decide) ?_
          refine lv_aload_n hx hb d_AdjoinedSetsModel_isForAll_63 rfl (lv_at hl 1 rfl) ?_
          obtain ⟨v25, e26, hs⟩ := ob hs
          refine pg_getI C hw fl_AdjoinedSetsModel_124 e26 d_AdjoinedSetsModel_isForAll_64 ?_
          refine lv_iconst (v := 1) hx hb d_AdjoinedSetsModel_isForAll_67 (by decide) ?_
          refine lv_isub hx hb d_AdjoinedSetsModel_isForAll_68 ?_
          obtain ⟨_, e27, hs⟩ := ob hs
          obtain ⟨q28, e29, hs⟩ := ob hs
          refine pg_callV C hw hl.1 ml_AdjoinedSetsModel_240 e27 (As := [.int (q6 + 2), .int 1, .int (v25 - 1)]) (rest := []) (c_AdjoinedSetsModel_isSame l g e29) rfl (rm_ok (Nat.le_of_ble_eq_true rfl) (Nat.le_of_ble_eq_true rfl)) (Nat.le_of_ble_eq_true rfl) rfl (st1 := [.int q28]) rfl d_AdjoinedSetsModel_isForAll_69 (fun H locs hw => ?_)
          refine lv_if_ne hx hb d_AdjoinedSetsModel_isForAll_72 (tgt := 77) (by decide) (fun hc => ?_) (fun hc => ?_)
          · have hs := oi_f hc hs
            refine lv_aload_n hx hb d_AdjoinedSetsModel_isForAll_77 rfl (lv_at hl 1 rfl) ?_
            refine lv_iconst (v := 2) hx hb d_AdjoinedSetsModel_isForAll_78 (by decide) ?_
            obtain ⟨_, e30, hs⟩ := ob hs
            obtain ⟨q31, e32, hs⟩ := ob hs
            refine pg_callV C hw hl.1 ml_AdjoinedSetsModel_237 e30 (As := [.int 2]) (rest := []) (c_AdjoinedSetsModel_freeIn l g e32) rfl (rm_ok (Nat.le_of_ble_eq_true rfl) (Nat.le_of_ble_eq_true rfl)) (Nat.le_of_ble_eq_true rfl) rfl (st1 := [.int q31.1]) rfl d_AdjoinedSetsModel_isForAll_79 (fun H locs hw => ?_)
            refine lv_aload_n hx hb d_AdjoinedSetsModel_isForAll_82 rfl (lv_at hl 1 rfl) ?_
            obtain ⟨v33, e34, hs⟩ := ob hs
            refine pg_getR C hw fl_AdjoinedSetsModel_7 e34 d_AdjoinedSetsModel_isForAll_83 ?_
            refine lv_iconst (v := 1) hx hb d_AdjoinedSetsModel_isForAll_86 (by decide) ?_
            obtain ⟨v35, e36, hs⟩ := ob hs
            refine pg_iaload C hw (t0 := 0) rfl e36 d_AdjoinedSetsModel_isForAll_87 ?_
            obtain ⟨q37, e38, hs⟩ := ob hs
            refine pg_callS C hw hl.1 ml_AdjoinedSetsModel_138 (As := [.int v35]) (rest := [.int q31.1]) (c_AdjoinedSetsModel_bit l g e38) rfl (rm_ok (Nat.le_of_ble_eq_true rfl) (Nat.le_of_ble_eq_true rfl)) (Nat.le_of_ble_eq_true rfl) rfl (st1 := [.int q37, .int q31.1]) rfl d_AdjoinedSetsModel_isForAll_88 (fun H locs hw => ?_)
            refine lv_iand hx hb d_AdjoinedSetsModel_isForAll_91 ?_
            refine lv_if_ne hx hb d_AdjoinedSetsModel_isForAll_92 (tgt := 99) (by decide) (fun hc => ?_) (fun hc => ?_)
            · have hs := oi_f hc hs
              refine lv_iconst (v := 0) hx hb d_AdjoinedSetsModel_isForAll_99 (by decide) ?_
              obtain rfl := Option.some.inj hs
              exact pg_zret (v := 0) C hw rfl d_AdjoinedSetsModel_isForAll_100
            · have hs := oi_t hc hs
              refine lv_iconst (v := 1) hx hb d_AdjoinedSetsModel_isForAll_95 (by decide) ?_
              refine lv_goto hx hb d_AdjoinedSetsModel_isForAll_96 (tgt := 100) (by decide) ?_
              obtain rfl := Option.some.inj hs
              exact pg_zret (v := 1) C hw rfl d_AdjoinedSetsModel_isForAll_100
          · have hs := oi_t hc hs
            refine lv_iconst (v := 0) hx hb d_AdjoinedSetsModel_isForAll_75 (by decide) ?_
            obtain rfl := Option.some.inj hs
            exact pg_zret (v := 0) C hw rfl d_AdjoinedSetsModel_isForAll_76
  · have hs := oi_f hc hs
    refine lv_iconst (v := 0) hx hb d_AdjoinedSetsModel_isForAll_11 (by decide) ?_
    obtain rfl := Option.some.inj hs
    exact pg_zret (v := 0) C hw rfl d_AdjoinedSetsModel_isForAll_12

end
