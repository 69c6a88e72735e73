section
variable {p : Program} {l : Launch} {e : Env} {s : State} {m : MethodId} {args : Array Value} {below : List Frame} {meth : Method} {c : Code} {g : GG}
theorem d_AdjoinedSetsModel_refute_0 : decode b_AdjoinedSetsModel_refute 0 = .ok (.iload_n 1, 1) := by decide +kernel
theorem d_AdjoinedSetsModel_refute_1 : decode b_AdjoinedSetsModel_refute 1 = .ok (.iconst 1, 1) := by decide +kernel
theorem d_AdjoinedSetsModel_refute_2 : decode b_AdjoinedSetsModel_refute 2 = .ok (.if_icmp .lt 9, 3) := by decide +kernel
theorem d_AdjoinedSetsModel_refute_5 : decode b_AdjoinedSetsModel_refute 5 = .ok (.iload_n 1, 1) := by decide +kernel
theorem d_AdjoinedSetsModel_refute_6 : decode b_AdjoinedSetsModel_refute 6 = .ok (.bipush 8, 2) := by decide +kernel
theorem d_AdjoinedSetsModel_refute_8 : decode b_AdjoinedSetsModel_refute 8 = .ok (.if_icmp .le 5, 3) := by decide +kernel
theorem d_AdjoinedSetsModel_refute_11 : decode b_AdjoinedSetsModel_refute 11 = .ok (.iconst (-1), 1) := by decide +kernel
theorem d_AdjoinedSetsModel_refute_12 : decode b_AdjoinedSetsModel_refute 12 = .ok (.ireturn, 1) := by decide +kernel
theorem d_AdjoinedSetsModel_refute_13 : decode b_AdjoinedSetsModel_refute 13 = .ok (.aload_n 0, 1) := by decide +kernel
theorem d_AdjoinedSetsModel_refute_14 : decode b_AdjoinedSetsModel_refute 14 = .ok (.iconst 1, 1) := by decide +kernel
theorem d_AdjoinedSetsModel_refute_15 : decode b_AdjoinedSetsModel_refute 15 = .ok (.iconst (-1), 1) := by decide +kernel
theorem d_AdjoinedSetsModel_refute_16 : decode b_AdjoinedSetsModel_refute 16 = .ok (.iconst 0, 1) := by decide +kernel
theorem d_AdjoinedSetsModel_refute_17 : decode b_AdjoinedSetsModel_refute 17 = .ok (.invokevirtual 156, 3) := by decide +kernel
theorem d_AdjoinedSetsModel_refute_20 : decode b_AdjoinedSetsModel_refute 20 = .ok (.istore_n 2, 1) := by decide +kernel
theorem d_AdjoinedSetsModel_refute_21 : decode b_AdjoinedSetsModel_refute 21 = .ok (.bipush (-100), 2) := by decide +kernel
theorem d_AdjoinedSetsModel_refute_23 : decode b_AdjoinedSetsModel_refute 23 = .ok (.iload_n 2, 1) := by decide +kernel
theorem d_AdjoinedSetsModel_refute_24 : decode b_AdjoinedSetsModel_refute 24 = .ok (.isub, 1) := by decide +kernel
theorem d_AdjoinedSetsModel_refute_25 : decode b_AdjoinedSetsModel_refute 25 = .ok (.istore_n 3, 1) := by decide +kernel
theorem d_AdjoinedSetsModel_refute_26 : decode b_AdjoinedSetsModel_refute 26 = .ok (.iload_n 2, 1) := by decide +kernel
theorem d_AdjoinedSetsModel_refute_27 : decode b_AdjoinedSetsModel_refute 27 = .ok (.ifCond .ge 129, 3) := by decide +kernel
theorem d_AdjoinedSetsModel_refute_30 : decode b_AdjoinedSetsModel_refute 30 = .ok (.aload_n 0, 1) := by decide +kernel
theorem d_AdjoinedSetsModel_refute_31 : decode b_AdjoinedSetsModel_refute 31 = .ok (.iconst 0, 1) := by decide +kernel
theorem d_AdjoinedSetsModel_refute_32 : decode b_AdjoinedSetsModel_refute 32 = .ok (.invokevirtual 237, 3) := by decide +kernel
theorem d_AdjoinedSetsModel_refute_35 : decode b_AdjoinedSetsModel_refute 35 = .ok (.istore 4, 2) := by decide +kernel
theorem d_AdjoinedSetsModel_refute_37 : decode b_AdjoinedSetsModel_refute 37 = .ok (.iload 4, 2) := by decide +kernel
theorem d_AdjoinedSetsModel_refute_39 : decode b_AdjoinedSetsModel_refute 39 = .ok (.iconst 0, 1) := by decide +kernel
theorem d_AdjoinedSetsModel_refute_40 : decode b_AdjoinedSetsModel_refute 40 = .ok (.invokestatic 309, 3) := by decide +kernel
theorem d_AdjoinedSetsModel_refute_43 : decode b_AdjoinedSetsModel_refute 43 = .ok (.istore 5, 2) := by decide +kernel
theorem d_AdjoinedSetsModel_refute_45 : decode b_AdjoinedSetsModel_refute 45 = .ok (.iload 4, 2) := by decide +kernel
theorem d_AdjoinedSetsModel_refute_47 : decode b_AdjoinedSetsModel_refute 47 = .ok (.iload 5, 2) := by decide +kernel
theorem d_AdjoinedSetsModel_refute_49 : decode b_AdjoinedSetsModel_refute 49 = .ok (.iconst 1, 1) := by decide +kernel
theorem d_AdjoinedSetsModel_refute_50 : decode b_AdjoinedSetsModel_refute 50 = .ok (.iadd, 1) := by decide +kernel
theorem d_AdjoinedSetsModel_refute_51 : decode b_AdjoinedSetsModel_refute 51 = .ok (.invokestatic 309, 3) := by decide +kernel
theorem d_AdjoinedSetsModel_refute_54 : decode b_AdjoinedSetsModel_refute 54 = .ok (.istore 6, 2) := by decide +kernel
theorem d_AdjoinedSetsModel_refute_56 : decode b_AdjoinedSetsModel_refute 56 = .ok (.iload 5, 2) := by decide +kernel
theorem d_AdjoinedSetsModel_refute_58 : decode b_AdjoinedSetsModel_refute 58 = .ok (.bipush 8, 2) := by decide +kernel
theorem d_AdjoinedSetsModel_refute_60 : decode b_AdjoinedSetsModel_refute 60 = .ok (.if_icmp .ge 13, 3) := by decide +kernel
theorem d_AdjoinedSetsModel_refute_63 : decode b_AdjoinedSetsModel_refute 63 = .ok (.aload_n 0, 1) := by decide +kernel
theorem d_AdjoinedSetsModel_refute_64 : decode b_AdjoinedSetsModel_refute 64 = .ok (.getfield 13, 3) := by decide +kernel
theorem d_AdjoinedSetsModel_refute_67 : decode b_AdjoinedSetsModel_refute 67 = .ok (.iload 5, 2) := by decide +kernel
theorem d_AdjoinedSetsModel_refute_69 : decode b_AdjoinedSetsModel_refute 69 = .ok (.laload, 1) := by decide +kernel
theorem d_AdjoinedSetsModel_refute_70 : decode b_AdjoinedSetsModel_refute 70 = .ok (.goto 4, 3) := by decide +kernel
theorem d_AdjoinedSetsModel_refute_73 : decode b_AdjoinedSetsModel_refute 73 = .ok (.lconst 0, 1) := by decide +kernel
theorem d_AdjoinedSetsModel_refute_74 : decode b_AdjoinedSetsModel_refute 74 = .ok (.lstore 7, 2) := by decide +kernel
theorem d_AdjoinedSetsModel_refute_76 : decode b_AdjoinedSetsModel_refute 76 = .ok (.iload 6, 2) := by decide +kernel
theorem d_AdjoinedSetsModel_refute_78 : decode b_AdjoinedSetsModel_refute 78 = .ok (.bipush 8, 2) := by decide +kernel
theorem d_AdjoinedSetsModel_refute_80 : decode b_AdjoinedSetsModel_refute 80 = .ok (.if_icmp .ge 13, 3) := by decide +kernel
theorem d_AdjoinedSetsModel_refute_83 : decode b_AdjoinedSetsModel_refute 83 = .ok (.aload_n 0, 1) := by decide +kernel
theorem d_AdjoinedSetsModel_refute_84 : decode b_AdjoinedSetsModel_refute 84 = .ok (.getfield 13, 3) := by decide +kernel
theorem d_AdjoinedSetsModel_refute_87 : decode b_AdjoinedSetsModel_refute 87 = .ok (.iload 6, 2) := by decide +kernel
theorem d_AdjoinedSetsModel_refute_89 : decode b_AdjoinedSetsModel_refute 89 = .ok (.laload, 1) := by decide +kernel
theorem d_AdjoinedSetsModel_refute_90 : decode b_AdjoinedSetsModel_refute 90 = .ok (.goto 4, 3) := by decide +kernel
theorem d_AdjoinedSetsModel_refute_93 : decode b_AdjoinedSetsModel_refute 93 = .ok (.lconst 0, 1) := by decide +kernel
theorem d_AdjoinedSetsModel_refute_94 : decode b_AdjoinedSetsModel_refute 94 = .ok (.lstore 9, 2) := by decide +kernel
theorem d_AdjoinedSetsModel_refute_96 : decode b_AdjoinedSetsModel_refute 96 = .ok (.iload 4, 2) := by decide +kernel
theorem d_AdjoinedSetsModel_refute_98 : decode b_AdjoinedSetsModel_refute 98 = .ok (.iload 6, 2) := by decide +kernel
theorem d_AdjoinedSetsModel_refute_100 : decode b_AdjoinedSetsModel_refute 100 = .ok (.iconst 1, 1) := by decide +kernel
theorem d_AdjoinedSetsModel_refute_101 : decode b_AdjoinedSetsModel_refute 101 = .ok (.iadd, 1) := by decide +kernel
theorem d_AdjoinedSetsModel_refute_102 : decode b_AdjoinedSetsModel_refute 102 = .ok (.invokestatic 309, 3) := by decide +kernel
theorem d_AdjoinedSetsModel_refute_105 : decode b_AdjoinedSetsModel_refute 105 = .ok (.bipush 8, 2) := by decide +kernel
theorem d_AdjoinedSetsModel_refute_107 : decode b_AdjoinedSetsModel_refute 107 = .ok (.if_icmp .ge 7, 3) := by decide +kernel
theorem d_AdjoinedSetsModel_refute_110 : decode b_AdjoinedSetsModel_refute 110 = .ok (.iconst (-1), 1) := by decide +kernel
theorem d_AdjoinedSetsModel_refute_111 : decode b_AdjoinedSetsModel_refute 111 = .ok (.goto 12, 3) := by decide +kernel
theorem d_AdjoinedSetsModel_refute_114 : decode b_AdjoinedSetsModel_refute 114 = .ok (.aload_n 0, 1) := by decide +kernel
theorem d_AdjoinedSetsModel_refute_115 : decode b_AdjoinedSetsModel_refute 115 = .ok (.iload_n 1, 1) := by decide +kernel
theorem d_AdjoinedSetsModel_refute_116 : decode b_AdjoinedSetsModel_refute 116 = .ok (.iload 5, 2) := by decide +kernel
theorem d_AdjoinedSetsModel_refute_118 : decode b_AdjoinedSetsModel_refute 118 = .ok (.iload 6, 2) := by decide +kernel
theorem d_AdjoinedSetsModel_refute_120 : decode b_AdjoinedSetsModel_refute 120 = .ok (.invokevirtual 312, 3) := by decide +kernel
theorem d_AdjoinedSetsModel_refute_123 : decode b_AdjoinedSetsModel_refute 123 = .ok (.istore_n 3, 1) := by decide +kernel
theorem d_AdjoinedSetsModel_refute_124 : decode b_AdjoinedSetsModel_refute 124 = .ok (.iload 5, 2) := by decide +kernel
theorem d_AdjoinedSetsModel_refute_126 : decode b_AdjoinedSetsModel_refute 126 = .ok (.bipush 8, 2) := by decide +kernel
theorem d_AdjoinedSetsModel_refute_128 : decode b_AdjoinedSetsModel_refute 128 = .ok (.if_icmp .ge 12, 3) := by decide +kernel
theorem d_AdjoinedSetsModel_refute_131 : decode b_AdjoinedSetsModel_refute 131 = .ok (.aload_n 0, 1) := by decide +kernel
theorem d_AdjoinedSetsModel_refute_132 : decode b_AdjoinedSetsModel_refute 132 = .ok (.getfield 13, 3) := by decide +kernel
theorem d_AdjoinedSetsModel_refute_135 : decode b_AdjoinedSetsModel_refute 135 = .ok (.iload 5, 2) := by decide +kernel
theorem d_AdjoinedSetsModel_refute_137 : decode b_AdjoinedSetsModel_refute 137 = .ok (.lload 7, 2) := by decide +kernel
theorem d_AdjoinedSetsModel_refute_139 : decode b_AdjoinedSetsModel_refute 139 = .ok (.lastore, 1) := by decide +kernel
theorem d_AdjoinedSetsModel_refute_140 : decode b_AdjoinedSetsModel_refute 140 = .ok (.iload 6, 2) := by decide +kernel
theorem d_AdjoinedSetsModel_refute_142 : decode b_AdjoinedSetsModel_refute 142 = .ok (.bipush 8, 2) := by decide +kernel
theorem d_AdjoinedSetsModel_refute_144 : decode b_AdjoinedSetsModel_refute 144 = .ok (.if_icmp .ge 12, 3) := by decide +kernel
theorem d_AdjoinedSetsModel_refute_147 : decode b_AdjoinedSetsModel_refute 147 = .ok (.aload_n 0, 1) := by decide +kernel
theorem d_AdjoinedSetsModel_refute_148 : decode b_AdjoinedSetsModel_refute 148 = .ok (.getfield 13, 3) := by decide +kernel
theorem d_AdjoinedSetsModel_refute_151 : decode b_AdjoinedSetsModel_refute 151 = .ok (.iload 6, 2) := by decide +kernel
theorem d_AdjoinedSetsModel_refute_153 : decode b_AdjoinedSetsModel_refute 153 = .ok (.lload 9, 2) := by decide +kernel
theorem d_AdjoinedSetsModel_refute_155 : decode b_AdjoinedSetsModel_refute 155 = .ok (.lastore, 1) := by decide +kernel
theorem d_AdjoinedSetsModel_refute_156 : decode b_AdjoinedSetsModel_refute 156 = .ok (.aload_n 0, 1) := by decide +kernel
theorem d_AdjoinedSetsModel_refute_157 : decode b_AdjoinedSetsModel_refute 157 = .ok (.iconst 0, 1) := by decide +kernel
theorem d_AdjoinedSetsModel_refute_158 : decode b_AdjoinedSetsModel_refute 158 = .ok (.putfield 124, 3) := by decide +kernel
theorem d_AdjoinedSetsModel_refute_161 : decode b_AdjoinedSetsModel_refute 161 = .ok (.iload_n 3, 1) := by decide +kernel
theorem d_AdjoinedSetsModel_refute_162 : decode b_AdjoinedSetsModel_refute 162 = .ok (.ireturn, 1) := by decide +kernel
def s_AdjoinedSetsModel_refute_140 (x0 : Nat) (x3 : Int32) (x6 : Int32) (x9 : Int64) (h : HP) : Option (Int32 × HP) :=
  if 8 ≤ x6 then (
    (pI h x0 9 1 0).bind fun h1 =>
    some (x3, h1))
  else (
    (gR h x0 9 2).bind fun v3 =>
    (uL h v3 2 x6 x9).bind fun h5 =>
    (pI h5 x0 9 1 0).bind fun h7 =>
    some (x3, h7))
set_option maxHeartbeats 4000000 in
set_option maxRecDepth 100000 in
theorem k_AdjoinedSetsModel_refute_140 {x0 : Nat} {x3 : Int32} {x6 : Int32} {x9 : Int64} {h : HP} {z : Int32 × HP} (C : CX g R_AdjoinedSetsModel b_AdjoinedSetsModel_refute 11 (some .int) p s m args meth c) {H : Heap} {locs : List Loc} {ls : Array Slot} (hw : WD g h s.heap H locs) (hl : lv_has ls 11 [(0, .ref (aD g x0)), (3, .int x3), (6, .int x6), (9, .long x9)]) (hs : s_AdjoinedSetsModel_refute_140 x0 x3 x6 x9 h = some z) : W p l e (rmS 7 160) s m args below meth c H locs 0 0 (MQ below (Qq g (some (.int z.1)) z.2) args s 0 0 (inA g)) (F0 m 140 ls []) := by
  unfold s_AdjoinedSetsModel_refute_140 at hs
  have hx := C.1
  have hb := C.2.1
  refine lv_iload hx hb d_AdjoinedSetsModel_refute_140 (lv_at hl 2 rfl) ?_
  refine lv_bipush (v := 8) hx hb d_AdjoinedSetsModel_refute_142 (by decide) ?_
  refine lv_icmp_ge hx hb d_AdjoinedSetsModel_refute_144 (tgt := 156) (by decide) (fun hc => ?_) (fun hc => ?_)
  · have hs := oi_t hc hs
    refine lv_aload_n hx hb d_AdjoinedSetsModel_refute_156 rfl (lv_at hl 0 rfl) ?_
    refine lv_iconst (v := 0) hx hb d_AdjoinedSetsModel_refute_157 (by decide) ?_
    obtain ⟨h1, e2, hs⟩ := ob hs
    refine pg_putI C hw pl_AdjoinedSetsModel_124 e2 d_AdjoinedSetsModel_refute_158 (fun H locs hw => ?_)
    refine lv_iload_n hx hb d_AdjoinedSetsModel_refute_161 rfl (lv_at hl 1 rfl) ?_
    obtain rfl := Option.some.inj hs
    exact pg_iret C hw d_AdjoinedSetsModel_refute_162
  · have hs := oi_f hc hs
    refine lv_aload_n hx hb d_AdjoinedSetsModel_refute_147 rfl (lv_at hl 0 rfl) ?_
    obtain ⟨v3, e4, hs⟩ := ob hs
    refine pg_getR C hw fl_AdjoinedSetsModel_13 e4 d_AdjoinedSetsModel_refute_148 ?_
    refine lv_iload hx hb d_AdjoinedSetsModel_refute_151 (lv_at hl 2 rfl) ?_
    refine lv_lload hx hb d_AdjoinedSetsModel_refute_153 (lv_at hl 3 rfl) ?_
    obtain ⟨h5, e6, hs⟩ := ob hs
    refine pg_lastore C hw (t0 := 2) rfl e6 d_AdjoinedSetsModel_refute_155 (fun H locs hw => ?_)
    refine lv_aload_n hx hb d_AdjoinedSetsModel_refute_156 rfl (lv_at hl 0 rfl) ?_
    refine lv_iconst (v := 0) hx hb d_AdjoinedSetsModel_refute_157 (by decide) ?_
    obtain ⟨h7, e8, hs⟩ := ob hs
    refine pg_putI C hw pl_AdjoinedSetsModel_124 e8 d_AdjoinedSetsModel_refute_158 (fun H locs hw => ?_)
    refine lv_iload_n hx hb d_AdjoinedSetsModel_refute_161 rfl (lv_at hl 1 rfl) ?_
    obtain rfl := Option.some.inj hs
    exact pg_iret C hw d_AdjoinedSetsModel_refute_162

def s_AdjoinedSetsModel_refute_123 (x0 : Nat) (x5 : Int32) (x6 : Int32) (x7 : Int64) (x9 : Int64) (t0 : Int32) (h : HP) : Option (Int32 × HP) :=
  if 8 ≤ x5 then (
    s_AdjoinedSetsModel_refute_140 x0 t0 x6 x9 h)
  else (
    (gR h x0 9 2).bind fun v1 =>
    (uL h v1 2 x5 x7).bind fun h3 =>
    s_AdjoinedSetsModel_refute_140 x0 t0 x6 x9 h3)
set_option maxHeartbeats 4000000 in
set_option maxRecDepth 100000 in
theorem k_AdjoinedSetsModel_refute_123 {x0 : Nat} {x5 : Int32} {x6 : Int32} {x7 : Int64} {x9 : Int64} {t0 : Int32} {h : HP} {z : Int32 × HP} (C : CX g R_AdjoinedSetsModel b_AdjoinedSetsModel_refute 11 (some .int) p s m args meth c) {H : Heap} {locs : List Loc} {ls : Array Slot} (hw : WD g h s.heap H locs) (hl : lv_has ls 11 [(0, .ref (aD g x0)), (5, .int x5), (6, .int x6), (7, .long x7), (9, .long x9)]) (hs : s_AdjoinedSetsModel_refute_123 x0 x5 x6 x7 x9 t0 h = some z) : W p l e (rmS 7 160) s m args below meth c H locs 0 0 (MQ below (Qq g (some (.int z.1)) z.2) args s 0 0 (inA g)) (F0 m 123 ls [.int t0]) := by
  unfold s_AdjoinedSetsModel_refute_123 at hs
  have hx := C.1
  have hb := C.2.1
  refine lv_istore_n hx hb d_AdjoinedSetsModel_refute_123 rfl hl (by decide) (lv' := [(3, .int t0), (0, .ref (aD g x0)), (5, .int x5), (6, .int x6), (7, .long x7), (9, .long x9)]) rfl (fun ls hl => ?_)
  refine lv_iload hx hb d_AdjoinedSetsModel_refute_124 (lv_at hl 2 rfl) ?_
  refine lv_bipush (v := 8) hx hb d_AdjoinedSetsModel_refute_126 (by decide) ?_
  refine lv_icmp_ge hx hb d_AdjoinedSetsModel_refute_128 (tgt := 140) (by decide) (fun hc => ?_) (fun hc => ?_)
  · have hs := oi_t hc hs
    exact k_AdjoinedSetsModel_refute_140 C hw (lv_sub hl [1, 0, 3, 5] rfl) hs
  · have hs := oi_f hc hs
    refine lv_aload_n hx hb d_AdjoinedSetsModel_refute_131 rfl (lv_at hl 1 rfl) ?_
    obtain ⟨v1, e2, hs⟩ := ob hs
    refine pg_getR C hw fl_AdjoinedSetsModel_13 e2 d_AdjoinedSetsModel_refute_132 ?_
    refine lv_iload hx hb d_AdjoinedSetsModel_refute_135 (lv_at hl 2 rfl) ?_
    refine lv_lload hx hb d_AdjoinedSetsModel_refute_137 (lv_at hl 4 rfl) ?_
    obtain ⟨h3, e4, hs⟩ := ob hs
    refine pg_lastore C hw (t0 := 2) rfl e4 d_AdjoinedSetsModel_refute_139 (fun H locs hw => ?_)
    exact k_AdjoinedSetsModel_refute_140 C hw (lv_sub hl [1, 0, 3, 5] rfl) hs

def s_AdjoinedSetsModel_refute_94 (x0 : Nat) (x1 : Int32) (x4 : Int32) (x5 : Int32) (x6 : Int32) (x7 : Int64) (t0 : Int64) (h : HP) : Option (Int32 × HP) :=
  (s_AdjoinedSetsModel_letterFrom x4 (x6 + 1)).bind fun q1 =>
  if 8 ≤ q1 then (
    (kd x0 9).bind fun _ =>
    (s_AdjoinedSetsModel_refuted x0 x1 x5 x6 h).bind fun q4 =>
    s_AdjoinedSetsModel_refute_123 x0 x5 x6 x7 t0 q4.1 q4.2)
  else (
    s_AdjoinedSetsModel_refute_123 x0 x5 x6 x7 t0 (-1) h)
set_option maxHeartbeats 4000000 in
set_option maxRecDepth 100000 in
theorem k_AdjoinedSetsModel_refute_94 {x0 : Nat} {x1 : Int32} {x4 : Int32} {x5 : Int32} {x6 : Int32} {x7 : Int64} {t0 : Int64} {h : HP} {z : Int32 × HP} (C : CX g R_AdjoinedSetsModel b_AdjoinedSetsModel_refute 11 (some .int) p s m args meth c) {H : Heap} {locs : List Loc} {ls : Array Slot} (hw : WD g h s.heap H locs) (hl : lv_has ls 11 [(0, .ref (aD g x0)), (1, .int x1), (4, .int x4), (5, .int x5), (6, .int x6), (7, .long x7)]) (hs : s_AdjoinedSetsModel_refute_94 x0 x1 x4 x5 x6 x7 t0 h = some z) : W p l e (rmS 7 160) s m args below meth c H locs 0 0 (MQ below (Qq g (some (.int z.1)) z.2) args s 0 0 (inA g)) (F0 m 94 ls [.long t0]) := by
  unfold s_AdjoinedSetsModel_refute_94 at hs
  have hx := C.1
  have hb := C.2.1
  refine lv_lstore hx hb d_AdjoinedSetsModel_refute_94 hl (by decide) (lv' := [(9, .long t0), (0, .ref (aD g x0)), (1, .int x1), (4, .int x4), (5, .int x5), (6, .int x6), (7, .long x7)]) rfl (fun ls hl => ?_)
  refine lv_iload hx hb d_AdjoinedSetsModel_refute_96 (lv_at hl 3 rfl) ?_
  refine lv_iload hx hb d_AdjoinedSetsModel_refute_98 (lv_at hl 5 rfl) ?_
  refine lv_iconst (v := 1) hx hb d_AdjoinedSetsModel_refute_100 (by decide) ?_
  refine lv_iadd hx hb d_AdjoinedSetsModel_refute_101 ?_
  obtain ⟨q1, e2, hs⟩ := ob hs
  refine pg_callS C hw hl.1 ml_AdjoinedSetsModel_309 (As := [.int x4, .int (x6 + 1)]) (rest := []) (c_AdjoinedSetsModel_letterFrom l g e2) rfl (rm_ok (Nat.le_of_ble_eq_true rfl) (Nat.le_of_ble_eq_true rfl)) (Nat.le_of_ble_eq_true rfl) rfl (st1 := [.int q1]) rfl d_AdjoinedSetsModel_refute_102 (fun H locs hw => ?_)
  refine lv_bipush (v := 8) hx hb d_AdjoinedSetsModel_refute_105 (by decide) ?_
  refine lv_icmp_ge hx hb d_AdjoinedSetsModel_refute_107 (tgt := 114) (by decide) (fun hc => ?_) (fun hc => ?_)
  · have hs := oi_t hc hs
    refine lv_aload_n hx hb d_AdjoinedSetsModel_refute_114 rfl (lv_at hl 1 rfl) ?_
    refine lv_iload_n hx hb d_AdjoinedSetsModel_refute_115 rfl (lv_at hl 2 rfl) ?_
    refine lv_iload hx hb d_AdjoinedSetsModel_refute_116 (lv_at hl 4 rfl) ?_
    refine lv_iload hx hb d_AdjoinedSetsModel_refute_118 (lv_at hl 5 rfl) ?_
    obtain ⟨_, e3, hs⟩ := ob hs
    obtain ⟨q4, e5, hs⟩ := ob hs
    refine pg_callV C hw hl.1 ml_AdjoinedSetsModel_312 e3 (As := [.int x1, .int x5, .int x6]) (rest := []) (c_AdjoinedSetsModel_refuted l g e5) rfl (rm_ok (Nat.le_of_ble_eq_true rfl) (Nat.le_of_ble_eq_true rfl)) (Nat.le_of_ble_eq_true rfl) rfl (st1 := [.int q4.1]) rfl d_AdjoinedSetsModel_refute_120 (fun H locs hw => ?_)
    exact k_AdjoinedSetsModel_refute_123 C hw (lv_sub hl [1, 4, 5, 6, 0] rfl) hs
  · have hs := oi_f hc hs
    refine lv_iconst (v := (-1)) hx hb d_AdjoinedSetsModel_refute_110 (by decide) ?_
    refine lv_goto hx hb d_AdjoinedSetsModel_refute_111 (tgt := 123) (by decide) ?_
    exact k_AdjoinedSetsModel_refute_123 C hw (lv_sub hl [1, 4, 5, 6, 0] rfl) hs

def s_AdjoinedSetsModel_refute_74 (x0 : Nat) (x1 : Int32) (x4 : Int32) (x5 : Int32) (x6 : Int32) (t0 : Int64) (h : HP) : Option (Int32 × HP) :=
  if 8 ≤ x6 then (
    s_AdjoinedSetsModel_refute_94 x0 x1 x4 x5 x6 t0 0 h)
  else (
    (gR h x0 9 2).bind fun v1 =>
    (aL h v1 2 x6).bind fun v3 =>
    s_AdjoinedSetsModel_refute_94 x0 x1 x4 x5 x6 t0 v3 h)
set_option maxHeartbeats 4000000 in
set_option maxRecDepth 100000 in
theorem k_AdjoinedSetsModel_refute_74 {x0 : Nat} {x1 : Int32} {x4 : Int32} {x5 : Int32} {x6 : Int32} {t0 : Int64} {h : HP} {z : Int32 × HP} (C : CX g R_AdjoinedSetsModel b_AdjoinedSetsModel_refute 11 (some .int) p s m args meth c) {H : Heap} {locs : List Loc} {ls : Array Slot} (hw : WD g h s.heap H locs) (hl : lv_has ls 11 [(0, .ref (aD g x0)), (1, .int x1), (4, .int x4), (5, .int x5), (6, .int x6)]) (hs : s_AdjoinedSetsModel_refute_74 x0 x1 x4 x5 x6 t0 h = some z) : W p l e (rmS 7 160) s m args below meth c H locs 0 0 (MQ below (Qq g (some (.int z.1)) z.2) args s 0 0 (inA g)) (F0 m 74 ls [.long t0]) := by
  unfold s_AdjoinedSetsModel_refute_74 at hs
  have hx := C.1
  have hb := C.2.1
  refine lv_lstore hx hb d_AdjoinedSetsModel_refute_74 hl (by decide) (lv' := [(7, .long t0), (0, .ref (aD g x0)), (1, .int x1), (4, .int x4), (5, .int x5), (6, .int x6)]) rfl (fun ls hl => ?_)
  refine lv_iload hx hb d_AdjoinedSetsModel_refute_76 (lv_at hl 5 rfl) ?_
  refine lv_bipush (v := 8) hx hb d_AdjoinedSetsModel_refute_78 (by decide) ?_
  refine lv_icmp_ge hx hb d_AdjoinedSetsModel_refute_80 (tgt := 93) (by decide) (fun hc => ?_) (fun hc => ?_)
  · have hs := oi_t hc hs
    refine lv_lconst (v := 0) hx hb d_AdjoinedSetsModel_refute_93 (by decide) ?_
    exact k_AdjoinedSetsModel_refute_94 C hw (lv_sub hl [1, 2, 3, 4, 5, 0] rfl) hs
  · have hs := oi_f hc hs
    refine lv_aload_n hx hb d_AdjoinedSetsModel_refute_83 rfl (lv_at hl 1 rfl) ?_
    obtain ⟨v1, e2, hs⟩ := ob hs
    refine pg_getR C hw fl_AdjoinedSetsModel_13 e2 d_AdjoinedSetsModel_refute_84 ?_
    refine lv_iload hx hb d_AdjoinedSetsModel_refute_87 (lv_at hl 5 rfl) ?_
    obtain ⟨v3, e4, hs⟩ := ob hs
    refine pg_laload C hw (t0 := 2) rfl e4 d_AdjoinedSetsModel_refute_89 ?_
    refine lv_goto hx hb d_AdjoinedSetsModel_refute_90 (tgt := 94) (by decide) ?_
    exact k_AdjoinedSetsModel_refute_94 C hw (lv_sub hl [1, 2, 3, 4, 5, 0] rfl) hs

def s_AdjoinedSetsModel_refute (x0 : Nat) (x1 : Int32) (h : HP) : Option (Int32 × HP) :=
  if x1 < 1 then (
    some ((-1), h))
  else (
    if x1 ≤ 8 then (
      (kd x0 9).bind fun _ =>
      (s_AdjoinedSetsModel_wrong x0 1 (-1) 0 h).bind fun q2 =>
      if 0 ≤ q2.1 then (
        (pI q2.2 x0 9 1 0).bind fun h4 =>
        some (((-100) - q2.1), h4))
      else (
        (kd x0 9).bind fun _ =>
        (s_AdjoinedSetsModel_freeIn x0 0 q2.2).bind fun q7 =>
        (s_AdjoinedSetsModel_letterFrom q7.1 0).bind fun q9 =>
        (s_AdjoinedSetsModel_letterFrom q7.1 (q9 + 1)).bind fun q11 =>
        if 8 ≤ q9 then (
          s_AdjoinedSetsModel_refute_74 x0 x1 q7.1 q9 q11 0 q7.2)
        else (
          (gR q7.2 x0 9 2).bind fun v13 =>
          (aL q7.2 v13 2 q9).bind fun v15 =>
          s_AdjoinedSetsModel_refute_74 x0 x1 q7.1 q9 q11 v15 q7.2)))
    else (
      some ((-1), h)))
set_option maxHeartbeats 4000000 in
set_option maxRecDepth 100000 in
theorem c_AdjoinedSetsModel_refute (l : Launch) (g : GG) {x0 : Nat} {x1 : Int32} {h : HP} {z : Int32 × HP} (hs : s_AdjoinedSetsModel_refute x0 x1 h = some z) : Ct l g y_AdjoinedSetsModel_refute w_AdjoinedSetsModel_refute (rmS 7 160) [.ref (aD g x0), .int x1] h (some (.int z.1)) z.2 := by
  refine Ct.of (own := R_AdjoinedSetsModel) (by decide) rfl rfl (Nat.le_of_ble_eq_true rfl) ?_
  intro p e s m args below meth c ls C hl hw
  have hx := C.1
  have hb := C.2.1
  have hl : lv_has ls 11 [(0, .ref (aD g x0)), (1, .int x1)] := hl
  unfold s_AdjoinedSetsModel_refute at hs
  refine lv_iload_n hx hb d_AdjoinedSetsModel_refute_0 rfl (lv_at hl 1 rfl) ?_
  refine lv_iconst (v := 1) hx hb d_AdjoinedSetsModel_refute_1 (by decide) ?_
  refine lv_icmp_lt hx hb d_AdjoinedSetsModel_refute_2 (tgt := 11) (by decide) (fun hc => ?_) (fun hc => ?_)
  · have hs := oi_t hc hs
    refine lv_iconst (v := (-1)) hx hb d_AdjoinedSetsModel_refute_11 (by decide) ?_
    obtain rfl := Option.some.inj hs
    exact pg_iret C hw d_AdjoinedSetsModel_refute_12
  · have hs := oi_f hc hs
    refine lv_iload_n hx hb d_AdjoinedSetsModel_refute_5 rfl (lv_at hl 1 rfl) ?_
    refine lv_bipush (v := 8) hx hb d_AdjoinedSetsModel_refute_6 (by decide) ?_
    refine lv_icmp_le hx hb d_AdjoinedSetsModel_refute_8 (tgt := 13) (by decide) (fun hc => ?_) (fun hc => ?_)
    · have hs := oi_t hc hs
      refine lv_aload_n hx hb d_AdjoinedSetsModel_refute_13 rfl (lv_at hl 0 rfl) ?_
      refine lv_iconst (v := 1) hx hb d_AdjoinedSetsModel_refute_14 (by decide) ?_
      refine lv_iconst (v := (-1)) hx hb d_AdjoinedSetsModel_refute_15 (by decide) ?_
      refine lv_iconst (v := 0) hx hb d_AdjoinedSetsModel_refute_16 (by decide) ?_
      obtain ⟨_, e1, hs⟩ := ob hs
      obtain ⟨q2, e3, hs⟩ := ob hs
      refine pg_callV C hw hl.1 ml_AdjoinedSetsModel_156 e1 (As := [.int 1, .int (-1), .int 0]) (rest := []) (c_AdjoinedSetsModel_wrong l g e3) rfl (rm_ok (Nat.le_of_ble_eq_true rfl) (Nat.le_of_ble_eq_true rfl)) (Nat.le_of_ble_eq_true rfl) rfl (st1 := [.int q2.1]) rfl d_AdjoinedSetsModel_refute_17 (fun H locs hw => ?_)
      refine lv_istore_n hx hb d_AdjoinedSetsModel_refute_20 rfl hl (by decide) (lv' := [(2, .int q2.1), (0, .ref (aD g x0)), (1, .int x1)]) rfl (fun ls hl => ?_)
      refine lv_bipush (v := (-100)) hx hb d_AdjoinedSetsModel_refute_21 (by decide) ?_
      refine lv_iload_n hx hb d_AdjoinedSetsModel_refute_23 rfl (lv_at hl 0 rfl) ?_
      refine lv_isub hx hb d_AdjoinedSetsModel_refute_24 ?_
      refine lv_istore_n hx hb d_AdjoinedSetsModel_refute_25 rfl hl (by decide) (lv' := [(3, .int ((-100) - q2.1)), (2, .int q2.1), (0, .ref (aD g x0)), (1, .int x1)]) rfl (fun ls hl => ?_)
      refine lv_iload_n hx hb d_AdjoinedSetsModel_refute_26 rfl (lv_at hl 1 rfl) ?_
      refine lv_if_ge hx hb d_AdjoinedSetsModel_refute_27 (tgt := 156) (by decide) (fun hc => ?_) (fun hc => ?_)
      · have hs := oi_t hc hs
        refine lv_aload_n hx hb d_AdjoinedSetsModel_refute_156 rfl (lv_at hl 2 rfl) ?_
        refine lv_iconst (v := 0) hx hb d_AdjoinedSetsModel_refute_157 (by decide) ?_
        obtain ⟨h4, e5, hs⟩ := ob hs
        refine pg_putI C hw pl_AdjoinedSetsModel_124 e5 d_AdjoinedSetsModel_refute_158 (fun H locs hw => ?_)
        refine lv_iload_n hx hb d_AdjoinedSetsModel_refute_161 rfl (lv_at hl 0 rfl) ?_
        obtain rfl := Option.some.inj hs
        exact pg_iret C hw d_AdjoinedSetsModel_refute_162
      · have hs := oi_f hc hs
        refine lv_aload_n hx hb d_AdjoinedSetsModel_refute_30 rfl (lv_at hl 2 rfl) ?_
        refine lv_iconst (v := 0) hx hb d_AdjoinedSetsModel_refute_31 (by decide) ?_
        obtain ⟨_, e6, hs⟩ := ob hs
        obtain ⟨q7, e8, hs⟩ := ob hs
        refine pg_callV C hw hl.1 ml_AdjoinedSetsModel_237 e6 (As := [.int 0]) (rest := []) (c_AdjoinedSetsModel_freeIn l g e8) rfl (rm_ok (Nat.le_of_ble_eq_true rfl) (Nat.le_of_ble_eq_true rfl)) (Nat.le_of_ble_eq_true rfl) rfl (st1 := [.int q7.1]) rfl d_AdjoinedSetsModel_refute_32 (fun H locs hw => ?_)
        refine lv_istore hx hb d_AdjoinedSetsModel_refute_35 hl (by decide) (lv' := [(4, .int q7.1), (3, .int ((-100) - q2.1)), (2, .int q2.1), (0, .ref (aD g x0)), (1, .int x1)]) rfl (fun ls hl => ?_)
        refine lv_iload hx hb d_AdjoinedSetsModel_refute_37 (lv_at hl 0 rfl) ?_
        refine lv_iconst (v := 0) hx hb d_AdjoinedSetsModel_refute_39 (by decide) ?_
        obtain ⟨q9, e10, hs⟩ := ob hs
        refine pg_callS C hw hl.1 ml_AdjoinedSetsModel_309 (As := [.int q7.1, .int 0]) (rest := []) (c_AdjoinedSetsModel_letterFrom l g e10) rfl (rm_ok (Nat.le_of_ble_eq_true rfl) (Nat.le_of_ble_eq_true rfl)) (Nat.le_of_ble_eq_true rfl) rfl (st1 := [.int q9]) rfl d_AdjoinedSetsModel_refute_40 (fun H locs hw => ?_)
        refine lv_istore hx hb d_AdjoinedSetsModel_refute_43 hl (by decide) (lv' := [(5, .int q9), (4, .int q7.1), (3, .int ((-100) - q2.1)), (2, .int q2.1), (0, .ref (aD g x0)), (1, .int x1)]) rfl (fun ls hl => ?_)
        refine lv_iload hx hb d_AdjoinedSetsModel_refute_45 (lv_at hl 1 rfl) ?_
        refine lv_iload hx hb d_AdjoinedSetsModel_refute_47 (lv_at hl 0 rfl) ?_
        refine lv_iconst (v := 1) hx hb d_AdjoinedSetsModel_refute_49 (by decide) ?_
        refine lv_iadd hx hb d_AdjoinedSetsModel_refute_50 ?_
        obtain ⟨q11, e12, hs⟩ := ob hs
        refine pg_callS C hw hl.1 ml_AdjoinedSetsModel_309 (As := [.int q7.1, .int (q9 + 1)]) (rest := []) (c_AdjoinedSetsModel_letterFrom l g e12) rfl (rm_ok (Nat.le_of_ble_eq_true rfl) (Nat.le_of_ble_eq_true rfl)) (Nat.le_of_ble_eq_true rfl) rfl (st1 := [.int q11]) rfl d_AdjoinedSetsModel_refute_51 (fun H locs hw => ?_)
        refine lv_istore hx hb d_AdjoinedSetsModel_refute_54 hl (by decide) (lv' := [(6, .int q11), (5, .int q9), (4, .int q7.1), (3, .int ((-100) - q2.1)), (2, .int q2.1), (0, .ref (aD g x0)), (1, .int x1)]) rfl (fun ls hl => ?_)
        refine lv_iload hx hb d_AdjoinedSetsModel_refute_56 (lv_at hl 1 rfl) ?_
        refine lv_bipush (v := 8) hx hb d_AdjoinedSetsModel_refute_58 (by decide) ?_
        refine lv_icmp_ge hx hb d_AdjoinedSetsModel_refute_60 (tgt := 73) (by decide) (fun hc => ?_) (fun hc => ?_)
        · have hs := oi_t hc hs
          refine lv_lconst (v := 0) hx hb d_AdjoinedSetsModel_refute_73 (by decide) ?_
          exact k_AdjoinedSetsModel_refute_74 C hw (lv_sub hl [5, 6, 2, 1, 0] rfl) hs
        · have hs := oi_f hc hs
          refine lv_aload_n hx hb d_AdjoinedSetsModel_refute_63 rfl (lv_at hl 5 rfl) ?_
          obtain ⟨v13, e14, hs⟩ := ob hs
          refine pg_getR C hw fl_AdjoinedSetsModel_13 e14 d_AdjoinedSetsModel_refute_64 ?_
          refine lv_iload hx hb d_AdjoinedSetsModel_refute_67 (lv_at hl 1 rfl) ?_
          obtain ⟨v15, e16, hs⟩ := ob hs
          refine pg_laload C hw (t0 := 2) rfl e16 d_AdjoinedSetsModel_refute_69 ?_
          refine lv_goto hx hb d_AdjoinedSetsModel_refute_70 (tgt := 74) (by decide) ?_
          exact k_AdjoinedSetsModel_refute_74 C hw (lv_sub hl [5, 6, 2, 1, 0] rfl) hs
    · have hs := oi_f hc hs
      refine lv_iconst (v := (-1)) hx hb d_AdjoinedSetsModel_refute_11 (by decide) ?_
      obtain rfl := Option.some.inj hs
      exact pg_iret C hw d_AdjoinedSetsModel_refute_12

end
section
variable {p : Program} {l : Launch} {e : Env} {s : State} {m : MethodId} {args : Array Value} {below : List Frame} {meth : Method} {c : Code} {g : GG}
theorem d_AdjoinedSetsModel_isTheorem_0 : decode b_AdjoinedSetsModel_isTheorem 0 = .ok (.iload_n 1, 1) := by decide +kernel
theorem d_AdjoinedSetsModel_isTheorem_1 : decode b_AdjoinedSetsModel_isTheorem 1 = .ok (.ifCond .lt 15, 3) := by decide +kernel
theorem d_AdjoinedSetsModel_isTheorem_4 : decode b_AdjoinedSetsModel_isTheorem 4 = .ok (.iload_n 1, 1) := by decide +kernel
theorem d_AdjoinedSetsModel_isTheorem_5 : decode b_AdjoinedSetsModel_isTheorem 5 = .ok (.aload_n 0, 1) := by decide +kernel
theorem d_AdjoinedSetsModel_isTheorem_6 : decode b_AdjoinedSetsModel_isTheorem 6 = .ok (.getfield 300, 3) := by decide +kernel
theorem d_AdjoinedSetsModel_isTheorem_9 : decode b_AdjoinedSetsModel_isTheorem 9 = .ok (.if_icmp .ge 7, 3) := by decide +kernel
theorem d_AdjoinedSetsModel_isTheorem_12 : decode b_AdjoinedSetsModel_isTheorem 12 = .ok (.iconst 1, 1) := by decide +kernel
theorem d_AdjoinedSetsModel_isTheorem_13 : decode b_AdjoinedSetsModel_isTheorem 13 = .ok (.goto 4, 3) := by decide +kernel
theorem d_AdjoinedSetsModel_isTheorem_16 : decode b_AdjoinedSetsModel_isTheorem 16 = .ok (.iconst 0, 1) := by decide +kernel
theorem d_AdjoinedSetsModel_isTheorem_17 : decode b_AdjoinedSetsModel_isTheorem 17 = .ok (.ireturn, 1) := by decide +kernel
def s_AdjoinedSetsModel_isTheorem (x0 : Nat) (x1 : Int32) (h : HP) : Option (Int32) :=
  if x1 < 0 then (
    some 0)
  else (
    (gI h x0 9 4).bind fun v2 =>
    if v2 ≤ x1 then (
      some 0)
    else (
      some 1))
set_option maxHeartbeats 4000000 in
set_option maxRecDepth 100000 in
theorem c_AdjoinedSetsModel_isTheorem (l : Launch) (g : GG) {h : HP} {x0 : Nat} {x1 : Int32} {z : Int32} (hs : s_AdjoinedSetsModel_isTheorem x0 x1 h = some z) : Ct l g y_AdjoinedSetsModel_isTheorem w_AdjoinedSetsModel_isTheorem (rmS 0 0) [.ref (aD g x0), .int x1] h (some (.int z)) h := by
  refine Ct.of (own := R_AdjoinedSetsModel) (by decide) rfl rfl (Nat.le_of_ble_eq_true rfl) ?_
  intro p e s m args below meth c ls C hl hw
  have hx := C.1
  have hb := C.2.1
  have hl : lv_has ls 2 [(0, .ref (aD g x0)), (1, .int x1)] := hl
  unfold s_AdjoinedSetsModel_isTheorem at hs
  refine lv_iload_n hx hb d_AdjoinedSetsModel_isTheorem_0 rfl (lv_at hl 1 rfl) ?_
  refine lv_if_lt hx hb d_AdjoinedSetsModel_isTheorem_1 (tgt := 16) (by decide) (fun hc => ?_) (fun hc => ?_)
  · have hs := oi_t hc hs
    refine lv_iconst (v := 0) hx hb d_AdjoinedSetsModel_isTheorem_16 (by decide) ?_
    obtain rfl := Option.some.inj hs
    exact pg_zret (v := 0) C hw rfl d_AdjoinedSetsModel_isTheorem_17
  · have hs := oi_f hc hs
    refine lv_iload_n hx hb d_AdjoinedSetsModel_isTheorem_4 rfl (lv_at hl 1 rfl) ?_
    refine lv_aload_n hx hb d_AdjoinedSetsModel_isTheorem_5 rfl (lv_at hl 0 rfl) ?_
    obtain ⟨v2, e3, hs⟩ := ob hs
    refine pg_getI C hw fl_AdjoinedSetsModel_300 e3 d_AdjoinedSetsModel_isTheorem_6 ?_
    refine lv_icmp_ge hx hb d_AdjoinedSetsModel_isTheorem_9 (tgt := 16) (by decide) (fun hc => ?_) (fun hc => ?_)
    · have hs := oi_t hc hs
      refine lv_iconst (v := 0) hx hb d_AdjoinedSetsModel_isTheorem_16 (by decide) ?_
      obtain rfl := Option.some.inj hs
      exact pg_zret (v := 0) C hw rfl d_AdjoinedSetsModel_isTheorem_17
    · have hs := oi_f hc hs
      refine lv_iconst (v := 1) hx hb d_AdjoinedSetsModel_isTheorem_12 (by decide) ?_
      refine lv_goto hx hb d_AdjoinedSetsModel_isTheorem_13 (tgt := 17) (by decide) ?_
      obtain rfl := Option.some.inj hs
      exact pg_zret (v := 1) C hw rfl d_AdjoinedSetsModel_isTheorem_17

end
section
variable {p : Program} {l : Launch} {e : Env} {s : State} {m : MethodId} {args : Array Value} {below : List Frame} {meth : Method} {c : Code} {g : GG}
theorem d_AdjoinedSetsModel_rests_0 : decode b_AdjoinedSetsModel_rests 0 = .ok (.aload_n 0, 1) := by decide +kernel
theorem d_AdjoinedSetsModel_rests_1 : decode b_AdjoinedSetsModel_rests 1 = .ok (.iload_n 1, 1) := by decide +kernel
theorem d_AdjoinedSetsModel_rests_2 : decode b_AdjoinedSetsModel_rests 2 = .ok (.invokevirtual 303, 3) := by decide +kernel
theorem d_AdjoinedSetsModel_rests_5 : decode b_AdjoinedSetsModel_rests 5 = .ok (.ifCond .eq 12, 3) := by decide +kernel
theorem d_AdjoinedSetsModel_rests_8 : decode b_AdjoinedSetsModel_rests 8 = .ok (.aload_n 0, 1) := by decide +kernel
theorem d_AdjoinedSetsModel_rests_9 : decode b_AdjoinedSetsModel_rests 9 = .ok (.getfield 23, 3) := by decide +kernel
theorem d_AdjoinedSetsModel_rests_12 : decode b_AdjoinedSetsModel_rests 12 = .ok (.iload_n 1, 1) := by decide +kernel
theorem d_AdjoinedSetsModel_rests_13 : decode b_AdjoinedSetsModel_rests 13 = .ok (.iaload, 1) := by decide +kernel
theorem d_AdjoinedSetsModel_rests_14 : decode b_AdjoinedSetsModel_rests 14 = .ok (.goto 4, 3) := by decide +kernel
theorem d_AdjoinedSetsModel_rests_17 : decode b_AdjoinedSetsModel_rests 17 = .ok (.iconst (-1), 1) := by decide +kernel
theorem d_AdjoinedSetsModel_rests_18 : decode b_AdjoinedSetsModel_rests 18 = .ok (.ireturn, 1) := by decide +kernel
def s_AdjoinedSetsModel_rests (x0 : Nat) (x1 : Int32) (h : HP) : Option (Int32) :=
  (kd x0 9).bind fun _ =>
  (s_AdjoinedSetsModel_isTheorem x0 x1 h).bind fun q2 =>
  if q2 = 0 then (
    some (-1))
  else (
    (gR h x0 9 6).bind fun v4 =>
    (aI h v4 0 x1).bind fun v6 =>
    some v6)
set_option maxHeartbeats 4000000 in
set_option maxRecDepth 100000 in
theorem c_AdjoinedSetsModel_rests (l : Launch) (g : GG) {h : HP} {x0 : Nat} {x1 : Int32} {z : Int32} (hs : s_AdjoinedSetsModel_rests x0 x1 h = some z) : Ct l g y_AdjoinedSetsModel_rests w_AdjoinedSetsModel_rests (rmS 1 21) [.ref (aD g x0), .int x1] h (some (.int z)) h := by
  refine Ct.of (own := R_AdjoinedSetsModel) (by decide) rfl rfl (Nat.le_of_ble_eq_true rfl) ?_
  intro p e s m args below meth c ls C hl hw
  have hx := C.1
  have hb := C.2.1
  have hl : lv_has ls 2 [(0, .ref (aD g x0)), (1, .int x1)] := hl
  unfold s_AdjoinedSetsModel_rests at hs
  refine lv_aload_n hx hb d_AdjoinedSetsModel_rests_0 rfl (lv_at hl 0 rfl) ?_
  refine lv_iload_n hx hb d_AdjoinedSetsModel_rests_1 rfl (lv_at hl 1 rfl) ?_
  obtain ⟨_, e1, hs⟩ := ob hs
  obtain ⟨q2, e3, hs⟩ := ob hs
  refine pg_callV C hw hl.1 ml_AdjoinedSetsModel_303 e1 (As := [.int x1]) (rest := []) (c_AdjoinedSetsModel_isTheorem l g e3) rfl (rm_ok (Nat.le_of_ble_eq_true rfl) (Nat.le_of_ble_eq_true rfl)) (Nat.le_of_ble_eq_true rfl) rfl (st1 := [.int q2]) rfl d_AdjoinedSetsModel_rests_2 (fun H locs hw => ?_)
  refine lv_if_eq hx hb d_AdjoinedSetsModel_rests_5 (tgt := 17) (by decide) (fun hc => ?_) (fun hc => ?_)
  · have hs := oi_t hc hs
    refine lv_iconst (v := (-1)) hx hb d_AdjoinedSetsModel_rests_17 (by decide) ?_
    obtain rfl := Option.some.inj hs
    exact pg_iret C hw d_AdjoinedSetsModel_rests_18
  · have hs := oi_f hc hs
    refine lv_aload_n hx hb d_AdjoinedSetsModel_rests_8 rfl (lv_at hl 0 rfl) ?_
    obtain ⟨v4, e5, hs⟩ := ob hs
    refine pg_getR C hw fl_AdjoinedSetsModel_23 e5 d_AdjoinedSetsModel_rests_9 ?_
    refine lv_iload_n hx hb d_AdjoinedSetsModel_rests_12 rfl (lv_at hl 1 rfl) ?_
    obtain ⟨v6, e7, hs⟩ := ob hs
    refine pg_iaload C hw (t0 := 0) rfl e7 d_AdjoinedSetsModel_rests_13 ?_
    refine lv_goto hx hb d_AdjoinedSetsModel_rests_14 (tgt := 18) (by decide) ?_
    obtain rfl := Option.some.inj hs
    exact pg_iret C hw d_AdjoinedSetsModel_rests_18

end
section
variable {p : Program} {l : Launch} {e : Env} {s : State} {m : MethodId} {args : Array Value} {below : List Frame} {meth : Method} {c : Code} {g : GG}
theorem d_AdjoinedSetsModel_theoremAt_0 : decode b_AdjoinedSetsModel_theoremAt 0 = .ok (.bipush 100, 2) := by decide +kernel
theorem d_AdjoinedSetsModel_theoremAt_2 : decode b_AdjoinedSetsModel_theoremAt 2 = .ok (.bipush 60, 2) := by decide +kernel
theorem d_AdjoinedSetsModel_theoremAt_4 : decode b_AdjoinedSetsModel_theoremAt 4 = .ok (.iload_n 1, 1) := by decide +kernel
theorem d_AdjoinedSetsModel_theoremAt_5 : decode b_AdjoinedSetsModel_theoremAt 5 = .ok (.imul, 1) := by decide +kernel
theorem d_AdjoinedSetsModel_theoremAt_6 : decode b_AdjoinedSetsModel_theoremAt 6 = .ok (.iadd, 1) := by decide +kernel
theorem d_AdjoinedSetsModel_theoremAt_7 : decode b_AdjoinedSetsModel_theoremAt 7 = .ok (.ireturn, 1) := by decide +kernel
def s_AdjoinedSetsModel_theoremAt (x0 : Nat) (x1 : Int32) : Option (Int32) :=
  some (100 + (60 * x1))
set_option maxHeartbeats 4000000 in
set_option maxRecDepth 100000 in
theorem c_AdjoinedSetsModel_theoremAt (l : Launch) (g : GG) {h : HP} {x0 : Nat} {x1 : Int32} {z : Int32} (hs : s_AdjoinedSetsModel_theoremAt x0 x1 = some z) : Ct l g y_AdjoinedSetsModel_theoremAt w_AdjoinedSetsModel_theoremAt (rmS 0 0) [.ref (aD g x0), .int x1] h (some (.int z)) h := by
  refine Ct.of (own := R_AdjoinedSetsModel) (by decide) rfl rfl (Nat.le_of_ble_eq_true rfl) ?_
  intro p e s m args below meth c ls C hl hw
  have hx := C.1
  have hb := C.2.1
  have hl : lv_has ls 2 [(0, .ref (aD g x0)), (1, .int x1)] := hl
  unfold s_AdjoinedSetsModel_theoremAt at hs
  refine lv_bipush (v := 100) hx hb d_AdjoinedSetsModel_theoremAt_0 (by decide) ?_
  refine lv_bipush (v := 60) hx hb d_AdjoinedSetsModel_theoremAt_2 (by decide) ?_
  refine lv_iload_n hx hb d_AdjoinedSetsModel_theoremAt_4 rfl (lv_at hl 1 rfl) ?_
  refine lv_imul hx hb d_AdjoinedSetsModel_theoremAt_5 ?_
  refine lv_iadd hx hb d_AdjoinedSetsModel_theoremAt_6 ?_
  obtain rfl := Option.some.inj hs
  exact pg_iret C hw d_AdjoinedSetsModel_theoremAt_7

end
section
variable {p : Program} {l : Launch} {e : Env} {s : State} {m : MethodId} {args : Array Value} {below : List Frame} {meth : Method} {c : Code} {g : GG}
theorem d_AdjoinedSetsModel_theorem_0 : decode b_AdjoinedSetsModel_theorem 0 = .ok (.aload_n 0, 1) := by decide +kernel
theorem d_AdjoinedSetsModel_theorem_1 : decode b_AdjoinedSetsModel_theorem 1 = .ok (.iload_n 1, 1) := by decide +kernel
theorem d_AdjoinedSetsModel_theorem_2 : decode b_AdjoinedSetsModel_theorem 2 = .ok (.invokevirtual 303, 3) := by decide +kernel
theorem d_AdjoinedSetsModel_theorem_5 : decode b_AdjoinedSetsModel_theorem 5 = .ok (.ifCond .eq 32, 3) := by decide +kernel
theorem d_AdjoinedSetsModel_theorem_8 : decode b_AdjoinedSetsModel_theorem 8 = .ok (.iload_n 2, 1) := by decide +kernel
theorem d_AdjoinedSetsModel_theorem_9 : decode b_AdjoinedSetsModel_theorem 9 = .ok (.ifCond .lt 28, 3) := by decide +kernel
theorem d_AdjoinedSetsModel_theorem_12 : decode b_AdjoinedSetsModel_theorem 12 = .ok (.iload_n 2, 1) := by decide +kernel
theorem d_AdjoinedSetsModel_theorem_13 : decode b_AdjoinedSetsModel_theorem 13 = .ok (.aload_n 0, 1) := by decide +kernel
theorem d_AdjoinedSetsModel_theorem_14 : decode b_AdjoinedSetsModel_theorem 14 = .ok (.getfield 20, 3) := by decide +kernel
theorem d_AdjoinedSetsModel_theorem_17 : decode b_AdjoinedSetsModel_theorem 17 = .ok (.iload_n 1, 1) := by decide +kernel
theorem d_AdjoinedSetsModel_theorem_18 : decode b_AdjoinedSetsModel_theorem 18 = .ok (.iaload, 1) := by decide +kernel
theorem d_AdjoinedSetsModel_theorem_19 : decode b_AdjoinedSetsModel_theorem 19 = .ok (.if_icmp .ge 18, 3) := by decide +kernel
theorem d_AdjoinedSetsModel_theorem_22 : decode b_AdjoinedSetsModel_theorem 22 = .ok (.aload_n 0, 1) := by decide +kernel
theorem d_AdjoinedSetsModel_theorem_23 : decode b_AdjoinedSetsModel_theorem 23 = .ok (.getfield 7, 3) := by decide +kernel
theorem d_AdjoinedSetsModel_theorem_26 : decode b_AdjoinedSetsModel_theorem 26 = .ok (.aload_n 0, 1) := by decide +kernel
theorem d_AdjoinedSetsModel_theorem_27 : decode b_AdjoinedSetsModel_theorem 27 = .ok (.iload_n 1, 1) := by decide +kernel
theorem d_AdjoinedSetsModel_theorem_28 : decode b_AdjoinedSetsModel_theorem 28 = .ok (.invokevirtual 271, 3) := by decide +kernel
theorem d_AdjoinedSetsModel_theorem_31 : decode b_AdjoinedSetsModel_theorem 31 = .ok (.iload_n 2, 1) := by decide +kernel
theorem d_AdjoinedSetsModel_theorem_32 : decode b_AdjoinedSetsModel_theorem 32 = .ok (.iadd, 1) := by decide +kernel
theorem d_AdjoinedSetsModel_theorem_33 : decode b_AdjoinedSetsModel_theorem 33 = .ok (.iaload, 1) := by decide +kernel
theorem d_AdjoinedSetsModel_theorem_34 : decode b_AdjoinedSetsModel_theorem 34 = .ok (.goto 4, 3) := by decide +kernel
theorem d_AdjoinedSetsModel_theorem_37 : decode b_AdjoinedSetsModel_theorem 37 = .ok (.iconst (-1), 1) := by decide +kernel
theorem d_AdjoinedSetsModel_theorem_38 : decode b_AdjoinedSetsModel_theorem 38 = .ok (.ireturn, 1) := by decide +kernel
def s_AdjoinedSetsModel_theorem (x0 : Nat) (x1 : Int32) (x2 : Int32) (h : HP) : Option (Int32) :=
  (kd x0 9).bind fun _ =>
  (s_AdjoinedSetsModel_isTheorem x0 x1 h).bind fun q2 =>
  if q2 = 0 then (
    some (-1))
  else (
    if x2 < 0 then (
      some (-1))
    else (
      (gR h x0 9 5).bind fun v4 =>
      (aI h v4 0 x1).bind fun v6 =>
      if v6 ≤ x2 then (
        some (-1))
      else (
        (gR h x0 9 0).bind fun v8 =>
        (kd x0 9).bind fun _ =>
        (s_AdjoinedSetsModel_theoremAt x0 x1).bind fun q11 =>
        (aI h v8 0 (q11 + x2)).bind fun v13 =>
        some v13)))
set_option maxHeartbeats 4000000 in
set_option maxRecDepth 100000 in
theorem c_AdjoinedSetsModel_theorem (l : Launch) (g : GG) {h : HP} {x0 : Nat} {x1 : Int32} {x2 : Int32} {z : Int32} (hs : s_AdjoinedSetsModel_theorem x0 x1 x2 h = some z) : Ct l g y_AdjoinedSetsModel_theorem w_AdjoinedSetsModel_theorem (rmS 1 21) [.ref (aD g x0), .int x1, .int x2] h (some (.int z)) h := by
  refine Ct.of (own := R_AdjoinedSetsModel) (by decide) rfl rfl (Nat.le_of_ble_eq_true rfl) ?_
  intro p e s m args below meth c ls C hl hw
  have hx := C.1
  have hb := C.2.1
  have hl : lv_has ls 3 [(0, .ref (aD g x0)), (1, .int x1), (2, .int x2)] := hl
  unfold s_AdjoinedSetsModel_theorem at hs
  refine lv_aload_n hx hb d_AdjoinedSetsModel_theorem_0 rfl (lv_at hl 0 rfl) ?_
  refine lv_iload_n hx hb d_AdjoinedSetsModel_theorem_1 rfl (lv_at hl 1 rfl) ?_
  obtain ⟨_, e1, hs⟩ := ob hs
  obtain ⟨q2, e3, hs⟩ := ob hs
  refine pg_callV C hw hl.1 ml_AdjoinedSetsModel_303 e1 (As := [.int x1]) (rest := []) (c_AdjoinedSetsModel_isTheorem l g e3) rfl (rm_ok (Nat.le_of_ble_eq_true rfl) (Nat.le_of_ble_eq_true rfl)) (Nat.le_of_ble_eq_true rfl) rfl (st1 := [.int q2]) rfl d_AdjoinedSetsModel_theorem_2 (fun H locs hw => ?_)
  refine lv_if_eq hx hb d_AdjoinedSetsModel_theorem_5 (tgt := 37) (by decide) (fun hc => ?_) (fun hc => ?_)
  · have hs := oi_t hc hs
    refine lv_iconst (v := (-1)) hx hb d_AdjoinedSetsModel_theorem_37 (by decide) ?_
    obtain rfl := Option.some.inj hs
    exact pg_iret C hw d_AdjoinedSetsModel_theorem_38
  · have hs := oi_f hc hs
    refine lv_iload_n hx hb d_AdjoinedSetsModel_theorem_8 rfl (lv_at hl 2 rfl) ?_
    refine lv_if_lt hx hb d_AdjoinedSetsModel_theorem_9 (tgt := 37) (by decide) (fun hc => ?_) (fun hc => ?_)
    · have hs := oi_t hc hs
      refine lv_iconst (v := (-1)) hx hb d_AdjoinedSetsModel_theorem_37 (by decide) ?_
      obtain rfl := Option.some.inj hs
      exact pg_iret C hw d_AdjoinedSetsModel_theorem_38
    · have hs := oi_f hc hs
      refine lv_iload_n hx hb d_AdjoinedSetsModel_theorem_12 rfl (lv_at hl 2 rfl) ?_
      refine lv_aload_n hx hb d_AdjoinedSetsModel_theorem_13 rfl (lv_at hl 0 rfl) ?_
      obtain ⟨v4, e5, hs⟩ := ob hs
      refine pg_getR C hw fl_AdjoinedSetsModel_20 e5 d_AdjoinedSetsModel_theorem_14 ?_
      refine lv_iload_n hx hb d_AdjoinedSetsModel_theorem_17 rfl (lv_at hl 1 rfl) ?_
      obtain ⟨v6, e7, hs⟩ := ob hs
      refine pg_iaload C hw (t0 := 0) rfl e7 d_AdjoinedSetsModel_theorem_18 ?_
      refine lv_icmp_ge hx hb d_AdjoinedSetsModel_theorem_19 (tgt := 37) (by decide) (fun hc => ?_) (fun hc => ?_)
      · have hs := oi_t hc hs
        refine lv_iconst (v := (-1)) hx hb d_AdjoinedSetsModel_theorem_37 (by decide) ?_
        obtain rfl := Option.some.inj hs
        exact pg_iret C hw d_AdjoinedSetsModel_theorem_38
      · have hs := oi_f hc hs
        refine lv_aload_n hx hb d_AdjoinedSetsModel_theorem_22 rfl (lv_at hl 0 rfl) ?_
        obtain ⟨v8, e9, hs⟩ := ob hs
        refine pg_getR C hw fl_AdjoinedSetsModel_7 e9 d_AdjoinedSetsModel_theorem_23 ?_
        refine lv_aload_n hx hb d_AdjoinedSetsModel_theorem_26 rfl (lv_at hl 0 rfl) ?_
        refine lv_iload_n hx hb d_AdjoinedSetsModel_theorem_27 rfl (lv_at hl 1 rfl) ?_
        obtain ⟨_, e10, hs⟩ := ob hs
        obtain ⟨q11, e12, hs⟩ := ob hs
        refine pg_callV C hw hl.1 ml_AdjoinedSetsModel_271 e10 (As := [.int x1]) (rest := [.ref (aD g v8)]) (c_AdjoinedSetsModel_theoremAt l g e12) rfl (rm_ok (Nat.le_of_ble_eq_true rfl) (Nat.le_of_ble_eq_true rfl)) (Nat.le_of_ble_eq_true rfl) rfl (st1 := [.int q11, .ref (aD g v8)]) rfl d_AdjoinedSetsModel_theorem_28 (fun H locs hw => ?_)
        refine lv_iload_n hx hb d_AdjoinedSetsModel_theorem_31 rfl (lv_at hl 2 rfl) ?_
        refine lv_iadd hx hb d_AdjoinedSetsModel_theorem_32 ?_
        obtain ⟨v13, e14, hs⟩ := ob hs
        refine pg_iaload C hw (t0 := 0) rfl e14 d_AdjoinedSetsModel_theorem_33 ?_
        refine lv_goto hx hb d_AdjoinedSetsModel_theorem_34 (tgt := 38) (by decide) ?_
        obtain rfl := Option.some.inj hs
        exact pg_iret C hw d_AdjoinedSetsModel_theorem_38

end
section
variable {p : Program} {l : Launch} {e : Env} {s : State} {m : MethodId} {args : Array Value} {below : List Frame} {meth : Method} {c : Code} {g : GG}
theorem d_AdjoinedSetsModel_theorems_0 : decode b_AdjoinedSetsModel_theorems 0 = .ok (.aload_n 0, 1) := by decide +kernel
theorem d_AdjoinedSetsModel_theorems_1 : decode b_AdjoinedSetsModel_theorems 1 = .ok (.getfield 300, 3) := by decide +kernel
theorem d_AdjoinedSetsModel_theorems_4 : decode b_AdjoinedSetsModel_theorems 4 = .ok (.ireturn, 1) := by decide +kernel
def s_AdjoinedSetsModel_theorems (x0 : Nat) (h : HP) : Option (Int32) :=
  (gI h x0 9 4).bind fun v1 =>
  some v1
set_option maxHeartbeats 4000000 in
set_option maxRecDepth 100000 in
theorem c_AdjoinedSetsModel_theorems (l : Launch) (g : GG) {h : HP} {x0 : Nat} {z : Int32} (hs : s_AdjoinedSetsModel_theorems x0 h = some z) : Ct l g y_AdjoinedSetsModel_theorems w_AdjoinedSetsModel_theorems (rmS 0 0) [.ref (aD g x0)] h (some (.int z)) h := by
  refine Ct.of (own := R_AdjoinedSetsModel) (by decide) rfl rfl (Nat.le_of_ble_eq_true rfl) ?_
  intro p e s m args below meth c ls C hl hw
  have hx := C.1
  have hb := C.2.1
  have hl : lv_has ls 1 [(0, .ref (aD g x0))] := hl
  unfold s_AdjoinedSetsModel_theorems at hs
  refine lv_aload_n hx hb d_AdjoinedSetsModel_theorems_0 rfl (lv_at hl 0 rfl) ?_
  obtain ⟨v1, e2, hs⟩ := ob hs
  refine pg_getI C hw fl_AdjoinedSetsModel_300 e2 d_AdjoinedSetsModel_theorems_1 ?_
  obtain rfl := Option.some.inj hs
  exact pg_iret C hw d_AdjoinedSetsModel_theorems_4

end
