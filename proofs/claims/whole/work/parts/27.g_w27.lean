section
variable {p : Program} {l : Launch} {e : Env} {s : State} {m : MethodId} {args : Array Value} {below : List Frame} {meth : Method} {c : Code} {g : GG}
theorem d_AdjoinedSetsModel_type_0 : decode b_AdjoinedSetsModel_type 0 = .ok (.iload_n 3, 1) := by decide +kernel
theorem d_AdjoinedSetsModel_type_1 : decode b_AdjoinedSetsModel_type 1 = .ok (.iconst 1, 1) := by decide +kernel
theorem d_AdjoinedSetsModel_type_2 : decode b_AdjoinedSetsModel_type 2 = .ok (.if_icmp .lt 13, 3) := by decide +kernel
theorem d_AdjoinedSetsModel_type_5 : decode b_AdjoinedSetsModel_type 5 = .ok (.iload_n 3, 1) := by decide +kernel
theorem d_AdjoinedSetsModel_type_6 : decode b_AdjoinedSetsModel_type 6 = .ok (.bipush 8, 2) := by decide +kernel
theorem d_AdjoinedSetsModel_type_8 : decode b_AdjoinedSetsModel_type 8 = .ok (.if_icmp .gt 7, 3) := by decide +kernel
theorem d_AdjoinedSetsModel_type_11 : decode b_AdjoinedSetsModel_type 11 = .ok (.iconst 1, 1) := by decide +kernel
theorem d_AdjoinedSetsModel_type_12 : decode b_AdjoinedSetsModel_type 12 = .ok (.goto 4, 3) := by decide +kernel
theorem d_AdjoinedSetsModel_type_15 : decode b_AdjoinedSetsModel_type 15 = .ok (.iconst 0, 1) := by decide +kernel
theorem d_AdjoinedSetsModel_type_16 : decode b_AdjoinedSetsModel_type 16 = .ok (.istore 4, 2) := by decide +kernel
theorem d_AdjoinedSetsModel_type_18 : decode b_AdjoinedSetsModel_type 18 = .ok (.iconst 0, 1) := by decide +kernel
theorem d_AdjoinedSetsModel_type_19 : decode b_AdjoinedSetsModel_type 19 = .ok (.istore 5, 2) := by decide +kernel
theorem d_AdjoinedSetsModel_type_21 : decode b_AdjoinedSetsModel_type 21 = .ok (.iload 5, 2) := by decide +kernel
theorem d_AdjoinedSetsModel_type_23 : decode b_AdjoinedSetsModel_type 23 = .ok (.iload_n 3, 1) := by decide +kernel
theorem d_AdjoinedSetsModel_type_24 : decode b_AdjoinedSetsModel_type 24 = .ok (.if_icmp .ge 49, 3) := by decide +kernel
theorem d_AdjoinedSetsModel_type_27 : decode b_AdjoinedSetsModel_type 27 = .ok (.iload 4, 2) := by decide +kernel
theorem d_AdjoinedSetsModel_type_29 : decode b_AdjoinedSetsModel_type 29 = .ok (.ifCond .eq 44, 3) := by decide +kernel
theorem d_AdjoinedSetsModel_type_32 : decode b_AdjoinedSetsModel_type 32 = .ok (.lload_n 1, 1) := by decide +kernel
theorem d_AdjoinedSetsModel_type_33 : decode b_AdjoinedSetsModel_type 33 = .ok (.bipush 8, 2) := by decide +kernel
theorem d_AdjoinedSetsModel_type_35 : decode b_AdjoinedSetsModel_type 35 = .ok (.iload 5, 2) := by decide +kernel
theorem d_AdjoinedSetsModel_type_37 : decode b_AdjoinedSetsModel_type 37 = .ok (.imul, 1) := by decide +kernel
theorem d_AdjoinedSetsModel_type_38 : decode b_AdjoinedSetsModel_type 38 = .ok (.lshr, 1) := by decide +kernel
theorem d_AdjoinedSetsModel_type_39 : decode b_AdjoinedSetsModel_type 39 = .ok (.ldc2_w 122, 3) := by decide +kernel
theorem d_AdjoinedSetsModel_type_42 : decode b_AdjoinedSetsModel_type 42 = .ok (.land, 1) := by decide +kernel
theorem d_AdjoinedSetsModel_type_43 : decode b_AdjoinedSetsModel_type 43 = .ok (.l2i, 1) := by decide +kernel
theorem d_AdjoinedSetsModel_type_44 : decode b_AdjoinedSetsModel_type 44 = .ok (.istore 6, 2) := by decide +kernel
theorem d_AdjoinedSetsModel_type_46 : decode b_AdjoinedSetsModel_type 46 = .ok (.iload 6, 2) := by decide +kernel
theorem d_AdjoinedSetsModel_type_48 : decode b_AdjoinedSetsModel_type 48 = .ok (.bipush 33, 2) := by decide +kernel
theorem d_AdjoinedSetsModel_type_50 : decode b_AdjoinedSetsModel_type 50 = .ok (.if_icmp .lt 14, 3) := by decide +kernel
theorem d_AdjoinedSetsModel_type_53 : decode b_AdjoinedSetsModel_type 53 = .ok (.iload 6, 2) := by decide +kernel
theorem d_AdjoinedSetsModel_type_55 : decode b_AdjoinedSetsModel_type 55 = .ok (.bipush 126, 2) := by decide +kernel
theorem d_AdjoinedSetsModel_type_57 : decode b_AdjoinedSetsModel_type 57 = .ok (.if_icmp .gt 7, 3) := by decide +kernel
theorem d_AdjoinedSetsModel_type_60 : decode b_AdjoinedSetsModel_type 60 = .ok (.iconst 1, 1) := by decide +kernel
theorem d_AdjoinedSetsModel_type_61 : decode b_AdjoinedSetsModel_type 61 = .ok (.goto 4, 3) := by decide +kernel
theorem d_AdjoinedSetsModel_type_64 : decode b_AdjoinedSetsModel_type 64 = .ok (.iconst 0, 1) := by decide +kernel
theorem d_AdjoinedSetsModel_type_65 : decode b_AdjoinedSetsModel_type 65 = .ok (.istore 4, 2) := by decide +kernel
theorem d_AdjoinedSetsModel_type_67 : decode b_AdjoinedSetsModel_type 67 = .ok (.iinc 5 1, 3) := by decide +kernel
theorem d_AdjoinedSetsModel_type_70 : decode b_AdjoinedSetsModel_type 70 = .ok (.goto (-49), 3) := by decide +kernel
theorem d_AdjoinedSetsModel_type_73 : decode b_AdjoinedSetsModel_type 73 = .ok (.iload 4, 2) := by decide +kernel
theorem d_AdjoinedSetsModel_type_75 : decode b_AdjoinedSetsModel_type 75 = .ok (.ifCond .ne 5, 3) := by decide +kernel
theorem d_AdjoinedSetsModel_type_78 : decode b_AdjoinedSetsModel_type 78 = .ok (.iconst (-1), 1) := by decide +kernel
theorem d_AdjoinedSetsModel_type_79 : decode b_AdjoinedSetsModel_type 79 = .ok (.ireturn, 1) := by decide +kernel
theorem d_AdjoinedSetsModel_type_80 : decode b_AdjoinedSetsModel_type 80 = .ok (.aload_n 0, 1) := by decide +kernel
theorem d_AdjoinedSetsModel_type_81 : decode b_AdjoinedSetsModel_type 81 = .ok (.getfield 124, 3) := by decide +kernel
theorem d_AdjoinedSetsModel_type_84 : decode b_AdjoinedSetsModel_type 84 = .ok (.iload_n 3, 1) := by decide +kernel
theorem d_AdjoinedSetsModel_type_85 : decode b_AdjoinedSetsModel_type 85 = .ok (.iadd, 1) := by decide +kernel
theorem d_AdjoinedSetsModel_type_86 : decode b_AdjoinedSetsModel_type 86 = .ok (.bipush 60, 2) := by decide +kernel
theorem d_AdjoinedSetsModel_type_88 : decode b_AdjoinedSetsModel_type 88 = .ok (.if_icmp .le 6, 3) := by decide +kernel
theorem d_AdjoinedSetsModel_type_91 : decode b_AdjoinedSetsModel_type 91 = .ok (.bipush (-2), 2) := by decide +kernel
theorem d_AdjoinedSetsModel_type_93 : decode b_AdjoinedSetsModel_type 93 = .ok (.ireturn, 1) := by decide +kernel
theorem d_AdjoinedSetsModel_type_94 : decode b_AdjoinedSetsModel_type 94 = .ok (.iload_n 3, 1) := by decide +kernel
theorem d_AdjoinedSetsModel_type_95 : decode b_AdjoinedSetsModel_type 95 = .ok (.iconst 1, 1) := by decide +kernel
theorem d_AdjoinedSetsModel_type_96 : decode b_AdjoinedSetsModel_type 96 = .ok (.isub, 1) := by decide +kernel
theorem d_AdjoinedSetsModel_type_97 : decode b_AdjoinedSetsModel_type 97 = .ok (.istore 5, 2) := by decide +kernel
theorem d_AdjoinedSetsModel_type_99 : decode b_AdjoinedSetsModel_type 99 = .ok (.iload 5, 2) := by decide +kernel
theorem d_AdjoinedSetsModel_type_101 : decode b_AdjoinedSetsModel_type 101 = .ok (.ifCond .lt 40, 3) := by decide +kernel
theorem d_AdjoinedSetsModel_type_104 : decode b_AdjoinedSetsModel_type 104 = .ok (.aload_n 0, 1) := by decide +kernel
theorem d_AdjoinedSetsModel_type_105 : decode b_AdjoinedSetsModel_type 105 = .ok (.getfield 7, 3) := by decide +kernel
theorem d_AdjoinedSetsModel_type_108 : decode b_AdjoinedSetsModel_type 108 = .ok (.aload_n 0, 1) := by decide +kernel
theorem d_AdjoinedSetsModel_type_109 : decode b_AdjoinedSetsModel_type 109 = .ok (.getfield 124, 3) := by decide +kernel
theorem d_AdjoinedSetsModel_type_112 : decode b_AdjoinedSetsModel_type 112 = .ok (.lload_n 1, 1) := by decide +kernel
theorem d_AdjoinedSetsModel_type_113 : decode b_AdjoinedSetsModel_type 113 = .ok (.bipush 8, 2) := by decide +kernel
theorem d_AdjoinedSetsModel_type_115 : decode b_AdjoinedSetsModel_type 115 = .ok (.iload 5, 2) := by decide +kernel
theorem d_AdjoinedSetsModel_type_117 : decode b_AdjoinedSetsModel_type 117 = .ok (.imul, 1) := by decide +kernel
theorem d_AdjoinedSetsModel_type_118 : decode b_AdjoinedSetsModel_type 118 = .ok (.lshr, 1) := by decide +kernel
theorem d_AdjoinedSetsModel_type_119 : decode b_AdjoinedSetsModel_type 119 = .ok (.ldc2_w 122, 3) := by decide +kernel
theorem d_AdjoinedSetsModel_type_122 : decode b_AdjoinedSetsModel_type 122 = .ok (.land, 1) := by decide +kernel
theorem d_AdjoinedSetsModel_type_123 : decode b_AdjoinedSetsModel_type 123 = .ok (.l2i, 1) := by decide +kernel
theorem d_AdjoinedSetsModel_type_124 : decode b_AdjoinedSetsModel_type 124 = .ok (.iastore, 1) := by decide +kernel
theorem d_AdjoinedSetsModel_type_125 : decode b_AdjoinedSetsModel_type 125 = .ok (.aload_n 0, 1) := by decide +kernel
theorem d_AdjoinedSetsModel_type_126 : decode b_AdjoinedSetsModel_type 126 = .ok (.dup, 1) := by decide +kernel
theorem d_AdjoinedSetsModel_type_127 : decode b_AdjoinedSetsModel_type 127 = .ok (.getfield 124, 3) := by decide +kernel
theorem d_AdjoinedSetsModel_type_130 : decode b_AdjoinedSetsModel_type 130 = .ok (.iconst 1, 1) := by decide +kernel
theorem d_AdjoinedSetsModel_type_131 : decode b_AdjoinedSetsModel_type 131 = .ok (.iadd, 1) := by decide +kernel
theorem d_AdjoinedSetsModel_type_132 : decode b_AdjoinedSetsModel_type 132 = .ok (.putfield 124, 3) := by decide +kernel
theorem d_AdjoinedSetsModel_type_135 : decode b_AdjoinedSetsModel_type 135 = .ok (.iinc 5 (-1), 3) := by decide +kernel
theorem d_AdjoinedSetsModel_type_138 : decode b_AdjoinedSetsModel_type 138 = .ok (.goto (-39), 3) := by decide +kernel
theorem d_AdjoinedSetsModel_type_141 : decode b_AdjoinedSetsModel_type 141 = .ok (.aload_n 0, 1) := by decide +kernel
theorem d_AdjoinedSetsModel_type_142 : decode b_AdjoinedSetsModel_type 142 = .ok (.getfield 124, 3) := by decide +kernel
theorem d_AdjoinedSetsModel_type_145 : decode b_AdjoinedSetsModel_type 145 = .ok (.ireturn, 1) := by decide +kernel
def s_AdjoinedSetsModel_type_65 (c21 : Nat → Int64 → Int32 → Int32 → Int32 → HP → Option (Int32 × HP)) (x0 : Nat) (x1 : Int64) (x3 : Int32) (x5 : Int32) (t0 : Int32) (h : HP) : Option (Int32 × HP) :=
  c21 x0 x1 x3 t0 (x5 + 1) h
set_option maxHeartbeats 4000000 in
set_option maxRecDepth 100000 in
theorem k_AdjoinedSetsModel_type_65 {x0 : Nat} {x1 : Int64} {x3 : Int32} {x5 : Int32} {t0 : Int32} {h : HP} {z : Int32 × HP} (C : CX g R_AdjoinedSetsModel b_AdjoinedSetsModel_type 7 (some .int) p s m args meth c) (c21 : Nat → Int64 → Int32 → Int32 → Int32 → HP → Option (Int32 × HP))
    (hc21 : ∀ {x0 : Nat} {x1 : Int64} {x3 : Int32} {x4 : Int32} {x5 : Int32} {h : HP} {H : Heap} {locs : List Loc} {ls : Array Slot}, WD g h s.heap H locs → lv_has ls 7 [(0, .ref (aD g x0)), (1, .long x1), (3, .int x3), (4, .int x4), (5, .int x5)] → c21 x0 x1 x3 x4 x5 h = some z → W p l e (rmS 0 0) s m args below meth c H locs 0 0 (MQ below (Qq g (some (.int z.1)) z.2) args s 0 0 (inA g)) (F0 m 21 ls [])) {H : Heap} {locs : List Loc} {ls : Array Slot} (hw : WD g h s.heap H locs) (hl : lv_has ls 7 [(0, .ref (aD g x0)), (1, .long x1), (3, .int x3), (5, .int x5)]) (hs : s_AdjoinedSetsModel_type_65 c21 x0 x1 x3 x5 t0 h = some z) : W p l e (rmS 0 0) s m args below meth c H locs 0 0 (MQ below (Qq g (some (.int z.1)) z.2) args s 0 0 (inA g)) (F0 m 65 ls [.int t0]) := by
  unfold s_AdjoinedSetsModel_type_65 at hs
  have hx := C.1
  have hb := C.2.1
  refine lv_istore hx hb d_AdjoinedSetsModel_type_65 hl (by decide) (lv' := [(4, .int t0), (0, .ref (aD g x0)), (1, .long x1), (3, .int x3), (5, .int x5)]) rfl (fun ls hl => ?_)
  refine lv_iinc hx hb d_AdjoinedSetsModel_type_67 hl (k := 4) rfl (v := (x5 + 1)) (iinc_e _ (by decide)) (by decide) (lv' := [(5, .int (x5 + 1)), (4, .int t0), (0, .ref (aD g x0)), (1, .long x1), (3, .int x3)]) rfl (fun ls hl => ?_)
  refine lv_goto hx hb d_AdjoinedSetsModel_type_70 (tgt := 21) (by decide) ?_
  exact hc21 hw (lv_sub hl [2, 3, 4, 1, 0] rfl) hs

def s_AdjoinedSetsModel_type_64 (c21 : Nat → Int64 → Int32 → Int32 → Int32 → HP → Option (Int32 × HP)) (x0 : Nat) (x1 : Int64) (x3 : Int32) (x5 : Int32) (h : HP) : Option (Int32 × HP) :=
  s_AdjoinedSetsModel_type_65 c21 x0 x1 x3 x5 0 h
set_option maxHeartbeats 4000000 in
set_option maxRecDepth 100000 in
theorem k_AdjoinedSetsModel_type_64 {x0 : Nat} {x1 : Int64} {x3 : Int32} {x5 : Int32} {h : HP} {z : Int32 × HP} (C : CX g R_AdjoinedSetsModel b_AdjoinedSetsModel_type 7 (some .int) p s m args meth c) (c21 : Nat → Int64 → Int32 → Int32 → Int32 → HP → Option (Int32 × HP))
    (hc21 : ∀ {x0 : Nat} {x1 : Int64} {x3 : Int32} {x4 : Int32} {x5 : Int32} {h : HP} {H : Heap} {locs : List Loc} {ls : Array Slot}, WD g h s.heap H locs → lv_has ls 7 [(0, .ref (aD g x0)), (1, .long x1), (3, .int x3), (4, .int x4), (5, .int x5)] → c21 x0 x1 x3 x4 x5 h = some z → W p l e (rmS 0 0) s m args below meth c H locs 0 0 (MQ below (Qq g (some (.int z.1)) z.2) args s 0 0 (inA g)) (F0 m 21 ls [])) {H : Heap} {locs : List Loc} {ls : Array Slot} (hw : WD g h s.heap H locs) (hl : lv_has ls 7 [(0, .ref (aD g x0)), (1, .long x1), (3, .int x3), (5, .int x5)]) (hs : s_AdjoinedSetsModel_type_64 c21 x0 x1 x3 x5 h = some z) : W p l e (rmS 0 0) s m args below meth c H locs 0 0 (MQ below (Qq g (some (.int z.1)) z.2) args s 0 0 (inA g)) (F0 m 64 ls []) := by
  unfold s_AdjoinedSetsModel_type_64 at hs
  have hx := C.1
  have hb := C.2.1
  refine lv_iconst (v := 0) hx hb d_AdjoinedSetsModel_type_64 (by decide) ?_
  exact k_AdjoinedSetsModel_type_65 C c21 hc21 hw (lv_sub hl [0, 1, 2, 3] rfl) hs

def s_AdjoinedSetsModel_type_99 : Nat → Nat → Int64 → Int32 → HP → Option (Int32 × HP)
  | 0 => fun _ _ _ _ => none
  | k + 1 => fun x0 x1 x5 h =>
  if x5 < 0 then (
    (gI h x0 9 1).bind fun v1 =>
    some (v1, h))
  else (
    (gR h x0 9 0).bind fun v3 =>
    (gI h x0 9 1).bind fun v5 =>
    (uI h v3 0 v5 (((x1 >>> ((8 * x5).toInt64 &&& 63)) &&& 255).toInt32)).bind fun h7 =>
    (gI h7 x0 9 1).bind fun v9 =>
    (pI h7 x0 9 1 (v9 + 1)).bind fun h11 =>
    (s_AdjoinedSetsModel_type_99 k) x0 x1 (x5 + (-1)) h11)
set_option maxHeartbeats 4000000 in
set_option maxRecDepth 100000 in
theorem k_AdjoinedSetsModel_type_99 {z : Int32 × HP} (C : CX g R_AdjoinedSetsModel b_AdjoinedSetsModel_type 7 (some .int) p s m args meth c) : ∀ (k : Nat) {x0 : Nat} {x1 : Int64} {x5 : Int32} {h : HP} {H : Heap} {locs : List Loc} {ls : Array Slot}, WD g h s.heap H locs → lv_has ls 7 [(0, .ref (aD g x0)), (1, .long x1), (5, .int x5)] → s_AdjoinedSetsModel_type_99 k x0 x1 x5 h = some z → W p l e (rmS 0 0) s m args below meth c H locs 0 0 (MQ below (Qq g (some (.int z.1)) z.2) args s 0 0 (inA g)) (F0 m 99 ls []) := by
  have hx := C.1
  have hb := C.2.1
  intro k
  induction k with
  | zero =>
    intro x0 x1 x5 h H locs ls hw hl hs
    exact (no_s hs).elim
  | succ k ih =>
    intro x0 x1 x5 h H locs ls hw hl hs
    rw [s_AdjoinedSetsModel_type_99] at hs
    refine lv_iload hx hb d_AdjoinedSetsModel_type_99 (lv_at hl 2 rfl) ?_
    refine lv_if_lt hx hb d_AdjoinedSetsModel_type_101 (tgt := 141) (by decide) (fun hc => ?_) (fun hc => ?_)
    · have hs := oi_t hc hs
      refine lv_aload_n hx hb d_AdjoinedSetsModel_type_141 rfl (lv_at hl 0 rfl) ?_
      obtain ⟨v1, e2, hs⟩ := ob hs
      refine pg_getI C hw fl_AdjoinedSetsModel_124 e2 d_AdjoinedSetsModel_type_142 ?_
      obtain rfl := Option.some.inj hs
      exact pg_iret C hw d_AdjoinedSetsModel_type_145
    · have hs := oi_f hc hs
      refine lv_aload_n hx hb d_AdjoinedSetsModel_type_104 rfl (lv_at hl 0 rfl) ?_
      obtain ⟨v3, e4, hs⟩ := ob hs
      refine pg_getR C hw fl_AdjoinedSetsModel_7 e4 d_AdjoinedSetsModel_type_105 ?_
      refine lv_aload_n hx hb d_AdjoinedSetsModel_type_108 rfl (lv_at hl 0 rfl) ?_
      obtain ⟨v5, e6, hs⟩ := ob hs
      refine pg_getI C hw fl_AdjoinedSetsModel_124 e6 d_AdjoinedSetsModel_type_109 ?_
      refine lv_lload_n hx hb d_AdjoinedSetsModel_type_112 rfl (lv_at hl 1 rfl) ?_
      refine lv_bipush (v := 8) hx hb d_AdjoinedSetsModel_type_113 (by decide) ?_
      refine lv_iload hx hb d_AdjoinedSetsModel_type_115 (lv_at hl 2 rfl) ?_
      refine lv_imul hx hb d_AdjoinedSetsModel_type_117 ?_
      refine lv_lshr (v := (x1 >>> ((8 * x5).toInt64 &&& 63))) hx hb d_AdjoinedSetsModel_type_118 rfl ?_
      refine lv_ldc2 (v := 255) hx hb C.own (C.w kc_AdjoinedSetsModel_122) d_AdjoinedSetsModel_type_119 ?_
      refine lv_land hx hb d_AdjoinedSetsModel_type_122 ?_
      refine lv_l2i (v := ((x1 >>> ((8 * x5).toInt64 &&& 63)) &&& 255).toInt32) hx hb d_AdjoinedSetsModel_type_123 rfl ?_
      obtain ⟨h7, e8, hs⟩ := ob hs
      refine pg_iastore C hw (t0 := 0) rfl e8 d_AdjoinedSetsModel_type_124 (fun H locs hw => ?_)
      refine lv_aload_n hx hb d_AdjoinedSetsModel_type_125 rfl (lv_at hl 0 rfl) ?_
      refine lv_dup hx hb d_AdjoinedSetsModel_type_126 rfl ?_
      obtain ⟨v9, e10, hs⟩ := ob hs
      refine pg_getI C hw fl_AdjoinedSetsModel_124 e10 d_AdjoinedSetsModel_type_127 ?_
      refine lv_iconst (v := 1) hx hb d_AdjoinedSetsModel_type_130 (by decide) ?_
      refine lv_iadd hx hb d_AdjoinedSetsModel_type_131 ?_
      obtain ⟨h11, e12, hs⟩ := ob hs
      refine pg_putI C hw pl_AdjoinedSetsModel_124 e12 d_AdjoinedSetsModel_type_132 (fun H locs hw => ?_)
      refine lv_iinc hx hb d_AdjoinedSetsModel_type_135 hl (k := 2) rfl (v := (x5 + (-1))) (iinc_e _ (by decide)) (by decide) (lv' := [(5, .int (x5 + (-1))), (0, .ref (aD g x0)), (1, .long x1)]) rfl (fun ls hl => ?_)
      refine lv_goto hx hb d_AdjoinedSetsModel_type_138 (tgt := 99) (by decide) ?_
      exact ih hw (lv_sub hl [1, 2, 0] rfl) hs

def s_AdjoinedSetsModel_type_73 (x0 : Nat) (x1 : Int64) (x3 : Int32) (x4 : Int32) (h : HP) : Option (Int32 × HP) :=
  if x4 = 0 then (
    some ((-1), h))
  else (
    (gI h x0 9 1).bind fun v1 =>
    if (v1 + x3) ≤ 60 then (
      s_AdjoinedSetsModel_type_99 20000 x0 x1 (x3 - 1) h)
    else (
      some ((-2), h)))
set_option maxHeartbeats 4000000 in
set_option maxRecDepth 100000 in
theorem k_AdjoinedSetsModel_type_73 {x0 : Nat} {x1 : Int64} {x3 : Int32} {x4 : Int32} {h : HP} {z : Int32 × HP} (C : CX g R_AdjoinedSetsModel b_AdjoinedSetsModel_type 7 (some .int) p s m args meth c) {H : Heap} {locs : List Loc} {ls : Array Slot} (hw : WD g h s.heap H locs) (hl : lv_has ls 7 [(0, .ref (aD g x0)), (1, .long x1), (3, .int x3), (4, .int x4)]) (hs : s_AdjoinedSetsModel_type_73 x0 x1 x3 x4 h = some z) : W p l e (rmS 0 0) s m args below meth c H locs 0 0 (MQ below (Qq g (some (.int z.1)) z.2) args s 0 0 (inA g)) (F0 m 73 ls []) := by
  unfold s_AdjoinedSetsModel_type_73 at hs
  have hx := C.1
  have hb := C.2.1
  refine lv_iload hx hb d_AdjoinedSetsModel_type_73 (lv_at hl 3 rfl) ?_
  refine lv_if_ne hx hb d_AdjoinedSetsModel_type_75 (tgt := 80) (by decide) (fun hc => ?_) (fun hc => ?_)
  · have hs := oi_f hc hs
    refine lv_aload_n hx hb d_AdjoinedSetsModel_type_80 rfl (lv_at hl 0 rfl) ?_
    obtain ⟨v1, e2, hs⟩ := ob hs
    refine pg_getI C hw fl_AdjoinedSetsModel_124 e2 d_AdjoinedSetsModel_type_81 ?_
    refine lv_iload_n hx hb d_AdjoinedSetsModel_type_84 rfl (lv_at hl 2 rfl) ?_
    refine lv_iadd hx hb d_AdjoinedSetsModel_type_85 ?_
    refine lv_bipush (v := 60) hx hb d_AdjoinedSetsModel_type_86 (by decide) ?_
    refine lv_icmp_le hx hb d_AdjoinedSetsModel_type_88 (tgt := 94) (by decide) (fun hc => ?_) (fun hc => ?_)
    · have hs := oi_t hc hs
      refine lv_iload_n hx hb d_AdjoinedSetsModel_type_94 rfl (lv_at hl 2 rfl) ?_
      refine lv_iconst (v := 1) hx hb d_AdjoinedSetsModel_type_95 (by decide) ?_
      refine lv_isub hx hb d_AdjoinedSetsModel_type_96 ?_
      refine lv_istore hx hb d_AdjoinedSetsModel_type_97 hl (by decide) (lv' := [(5, .int (x3 - 1)), (0, .ref (aD g x0)), (1, .long x1), (3, .int x3), (4, .int x4)]) rfl (fun ls hl => ?_)
      exact k_AdjoinedSetsModel_type_99 C 20000 hw (lv_sub hl [1, 2, 0] rfl) hs
    · have hs := oi_f hc hs
      refine lv_bipush (v := (-2)) hx hb d_AdjoinedSetsModel_type_91 (by decide) ?_
      obtain rfl := Option.some.inj hs
      exact pg_iret C hw d_AdjoinedSetsModel_type_93
  · have hs := oi_t hc hs
    refine lv_iconst (v := (-1)) hx hb d_AdjoinedSetsModel_type_78 (by decide) ?_
    obtain rfl := Option.some.inj hs
    exact pg_iret C hw d_AdjoinedSetsModel_type_79

def s_AdjoinedSetsModel_type_21 : Nat → Nat → Int64 → Int32 → Int32 → Int32 → HP → Option (Int32 × HP)
  | 0 => fun _ _ _ _ _ _ => none
  | k + 1 => fun x0 x1 x3 x4 x5 h =>
  if x3 ≤ x5 then (
    s_AdjoinedSetsModel_type_73 x0 x1 x3 x4 h)
  else (
    if x4 = 0 then (
      s_AdjoinedSetsModel_type_73 x0 x1 x3 x4 h)
    else (
      if ((x1 >>> ((8 * x5).toInt64 &&& 63)) &&& 255).toInt32 < 33 then (
        s_AdjoinedSetsModel_type_64 (s_AdjoinedSetsModel_type_21 k) x0 x1 x3 x5 h)
      else (
        if 126 < ((x1 >>> ((8 * x5).toInt64 &&& 63)) &&& 255).toInt32 then (
          s_AdjoinedSetsModel_type_64 (s_AdjoinedSetsModel_type_21 k) x0 x1 x3 x5 h)
        else (
          s_AdjoinedSetsModel_type_65 (s_AdjoinedSetsModel_type_21 k) x0 x1 x3 x5 1 h))))
set_option maxHeartbeats 4000000 in
set_option maxRecDepth 100000 in
theorem k_AdjoinedSetsModel_type_21 {z : Int32 × HP} (C : CX g R_AdjoinedSetsModel b_AdjoinedSetsModel_type 7 (some .int) p s m args meth c) : ∀ (k : Nat) {x0 : Nat} {x1 : Int64} {x3 : Int32} {x4 : Int32} {x5 : Int32} {h : HP} {H : Heap} {locs : List Loc} {ls : Array Slot}, WD g h s.heap H locs → lv_has ls 7 [(0, .ref (aD g x0)), (1, .long x1), (3, .int x3), (4, .int x4), (5, .int x5)] → s_AdjoinedSetsModel_type_21 k x0 x1 x3 x4 x5 h = some z → W p l e (rmS 0 0) s m args below meth c H locs 0 0 (MQ below (Qq g (some (.int z.1)) z.2) args s 0 0 (inA g)) (F0 m 21 ls []) := by
  have hx := C.1
  have hb := C.2.1
  intro k
  induction k with
  | zero =>
    intro x0 x1 x3 x4 x5 h H locs ls hw hl hs
    exact (no_s hs).elim
  | succ k ih =>
    intro x0 x1 x3 x4 x5 h H locs ls hw hl hs
    rw [s_AdjoinedSetsModel_type_21] at hs
    refine lv_iload hx hb d_AdjoinedSetsModel_type_21 (lv_at hl 4 rfl) ?_
    refine lv_iload_n hx hb d_AdjoinedSetsModel_type_23 rfl (lv_at hl 2 rfl) ?_
    refine lv_icmp_ge hx hb d_AdjoinedSetsModel_type_24 (tgt := 73) (by decide) (fun hc => ?_) (fun hc => ?_)
    · have hs := oi_t hc hs
      exact k_AdjoinedSetsModel_type_73 C hw (lv_sub hl [0, 1, 2, 3] rfl) hs
    · have hs := oi_f hc hs
      refine lv_iload hx hb d_AdjoinedSetsModel_type_27 (lv_at hl 3 rfl) ?_
      refine lv_if_eq hx hb d_AdjoinedSetsModel_type_29 (tgt := 73) (by decide) (fun hc => ?_) (fun hc => ?_)
      · have hs := oi_t hc hs
        exact k_AdjoinedSetsModel_type_73 C hw (lv_sub hl [0, 1, 2, 3] rfl) hs
      · have hs := oi_f hc hs
        refine lv_lload_n hx hb d_AdjoinedSetsModel_type_32 rfl (lv_at hl 1 rfl) ?_
        refine lv_bipush (v := 8) hx hb d_AdjoinedSetsModel_type_33 (by decide) ?_
        refine lv_iload hx hb d_AdjoinedSetsModel_type_35 (lv_at hl 4 rfl) ?_
        refine lv_imul hx hb d_AdjoinedSetsModel_type_37 ?_
        refine lv_lshr (v := (x1 >>> ((8 * x5).toInt64 &&& 63))) hx hb d_AdjoinedSetsModel_type_38 rfl ?_
        refine lv_ldc2 (v := 255) hx hb C.own (C.w kc_AdjoinedSetsModel_122) d_AdjoinedSetsModel_type_39 ?_
        refine lv_land hx hb d_AdjoinedSetsModel_type_42 ?_
        refine lv_l2i (v := ((x1 >>> ((8 * x5).toInt64 &&& 63)) &&& 255).toInt32) hx hb d_AdjoinedSetsModel_type_43 rfl ?_
        refine lv_istore hx hb d_AdjoinedSetsModel_type_44 hl (by decide) (lv' := [(6, .int ((x1 >>> ((8 * x5).toInt64 &&& 63)) &&& 255).toInt32), (0, .ref (aD g x0)), (1, .long x1), (3, .int x3), (4, .int x4), (5, .int x5)]) rfl (fun ls hl => ?_)
        refine lv_iload hx hb d_AdjoinedSetsModel_type_46 (lv_at hl 0 rfl) ?_
        refine lv_bipush (v := 33) hx hb d_AdjoinedSetsModel_type_48 (by decide) ?_
        refine lv_icmp_lt hx hb d_AdjoinedSetsModel_type_50 (tgt := 64) (by decide) (fun hc => ?_) (fun hc => ?_)
        · have hs := oi_t hc hs
          exact k_AdjoinedSetsModel_type_64 C (s_AdjoinedSetsModel_type_21 k) ih hw (lv_sub hl [1, 2, 3, 5] rfl) hs
        · have hs := oi_f hc hs
          refine lv_iload hx hb d_AdjoinedSetsModel_type_53 (lv_at hl 0 rfl) ?_
          refine lv_bipush (v := 126) hx hb d_AdjoinedSetsModel_type_55 (by decide) ?_
          refine lv_icmp_gt hx hb d_AdjoinedSetsModel_type_57 (tgt := 64) (by decide) (fun hc => ?_) (fun hc => ?_)
          · have hs := oi_t hc hs
            exact k_AdjoinedSetsModel_type_64 C (s_AdjoinedSetsModel_type_21 k) ih hw (lv_sub hl [1, 2, 3, 5] rfl) hs
          · have hs := oi_f hc hs
            refine lv_iconst (v := 1) hx hb d_AdjoinedSetsModel_type_60 (by decide) ?_
            refine lv_goto hx hb d_AdjoinedSetsModel_type_61 (tgt := 65) (by decide) ?_
            exact k_AdjoinedSetsModel_type_65 C (s_AdjoinedSetsModel_type_21 k) ih hw (lv_sub hl [1, 2, 3, 5] rfl) hs

def s_AdjoinedSetsModel_type_16 (x0 : Nat) (x1 : Int64) (x3 : Int32) (t0 : Int32) (h : HP) : Option (Int32 × HP) :=
  s_AdjoinedSetsModel_type_21 20000 x0 x1 x3 t0 0 h
set_option maxHeartbeats 4000000 in
set_option maxRecDepth 100000 in
theorem k_AdjoinedSetsModel_type_16 {x0 : Nat} {x1 : Int64} {x3 : Int32} {t0 : Int32} {h : HP} {z : Int32 × HP} (C : CX g R_AdjoinedSetsModel b_AdjoinedSetsModel_type 7 (some .int) p s m args meth c) {H : Heap} {locs : List Loc} {ls : Array Slot} (hw : WD g h s.heap H locs) (hl : lv_has ls 7 [(0, .ref (aD g x0)), (1, .long x1), (3, .int x3)]) (hs : s_AdjoinedSetsModel_type_16 x0 x1 x3 t0 h = some z) : W p l e (rmS 0 0) s m args below meth c H locs 0 0 (MQ below (Qq g (some (.int z.1)) z.2) args s 0 0 (inA g)) (F0 m 16 ls [.int t0]) := by
  unfold s_AdjoinedSetsModel_type_16 at hs
  have hx := C.1
  have hb := C.2.1
  refine lv_istore hx hb d_AdjoinedSetsModel_type_16 hl (by decide) (lv' := [(4, .int t0), (0, .ref (aD g x0)), (1, .long x1), (3, .int x3)]) rfl (fun ls hl => ?_)
  refine lv_iconst (v := 0) hx hb d_AdjoinedSetsModel_type_18 (by decide) ?_
  refine lv_istore hx hb d_AdjoinedSetsModel_type_19 hl (by decide) (lv' := [(5, .int 0), (4, .int t0), (0, .ref (aD g x0)), (1, .long x1), (3, .int x3)]) rfl (fun ls hl => ?_)
  exact k_AdjoinedSetsModel_type_21 C 20000 hw (lv_sub hl [2, 3, 4, 1, 0] rfl) hs

def s_AdjoinedSetsModel_type_15 (x0 : Nat) (x1 : Int64) (x3 : Int32) (h : HP) : Option (Int32 × HP) :=
  s_AdjoinedSetsModel_type_16 x0 x1 x3 0 h
set_option maxHeartbeats 4000000 in
set_option maxRecDepth 100000 in
theorem k_AdjoinedSetsModel_type_15 {x0 : Nat} {x1 : Int64} {x3 : Int32} {h : HP} {z : Int32 × HP} (C : CX g R_AdjoinedSetsModel b_AdjoinedSetsModel_type 7 (some .int) p s m args meth c) {H : Heap} {locs : List Loc} {ls : Array Slot} (hw : WD g h s.heap H locs) (hl : lv_has ls 7 [(0, .ref (aD g x0)), (1, .long x1), (3, .int x3)]) (hs : s_AdjoinedSetsModel_type_15 x0 x1 x3 h = some z) : W p l e (rmS 0 0) s m args below meth c H locs 0 0 (MQ below (Qq g (some (.int z.1)) z.2) args s 0 0 (inA g)) (F0 m 15 ls []) := by
  unfold s_AdjoinedSetsModel_type_15 at hs
  have hx := C.1
  have hb := C.2.1
  refine lv_iconst (v := 0) hx hb d_AdjoinedSetsModel_type_15 (by decide) ?_
  exact k_AdjoinedSetsModel_type_16 C hw (lv_sub hl [0, 1, 2] rfl) hs

def s_AdjoinedSetsModel_type (x0 : Nat) (x1 : Int64) (x3 : Int32) (h : HP) : Option (Int32 × HP) :=
  if x3 < 1 then (
    s_AdjoinedSetsModel_type_15 x0 x1 x3 h)
  else (
    if 8 < x3 then (
      s_AdjoinedSetsModel_type_15 x0 x1 x3 h)
    else (
      s_AdjoinedSetsModel_type_16 x0 x1 x3 1 h))
set_option maxHeartbeats 4000000 in
set_option maxRecDepth 100000 in
theorem c_AdjoinedSetsModel_type (l : Launch) (g : GG) {x0 : Nat} {x1 : Int64} {x3 : Int32} {h : HP} {z : Int32 × HP} (hs : s_AdjoinedSetsModel_type x0 x1 x3 h = some z) : Ct l g y_AdjoinedSetsModel_type w_AdjoinedSetsModel_type (rmS 0 0) [.ref (aD g x0), .long x1, .int x3] h (some (.int z.1)) z.2 := by
  refine Ct.of (own := R_AdjoinedSetsModel) (by decide) rfl rfl (Nat.le_of_ble_eq_true rfl) ?_
  intro p e s m args below meth c ls C hl hw
  have hx := C.1
  have hb := C.2.1
  have hl : lv_has ls 7 [(0, .ref (aD g x0)), (1, .long x1), (3, .int x3)] := hl
  unfold s_AdjoinedSetsModel_type at hs
  refine lv_iload_n hx hb d_AdjoinedSetsModel_type_0 rfl (lv_at hl 2 rfl) ?_
  refine lv_iconst (v := 1) hx hb d_AdjoinedSetsModel_type_1 (by decide) ?_
  refine lv_icmp_lt hx hb d_AdjoinedSetsModel_type_2 (tgt := 15) (by decide) (fun hc => ?_) (fun hc => ?_)
  · have hs := oi_t hc hs
    exact k_AdjoinedSetsModel_type_15 C hw (lv_sub hl [0, 1, 2] rfl) hs
  · have hs := oi_f hc hs
    refine lv_iload_n hx hb d_AdjoinedSetsModel_type_5 rfl (lv_at hl 2 rfl) ?_
    refine lv_bipush (v := 8) hx hb d_AdjoinedSetsModel_type_6 (by decide) ?_
    refine lv_icmp_gt hx hb d_AdjoinedSetsModel_type_8 (tgt := 15) (by decide) (fun hc => ?_) (fun hc => ?_)
    · have hs := oi_t hc hs
      exact k_AdjoinedSetsModel_type_15 C hw (lv_sub hl [0, 1, 2] rfl) hs
    · have hs := oi_f hc hs
      refine lv_iconst (v := 1) hx hb d_AdjoinedSetsModel_type_11 (by decide) ?_
      refine lv_goto hx hb d_AdjoinedSetsModel_type_12 (tgt := 16) (by decide) ?_
      exact k_AdjoinedSetsModel_type_16 C hw (lv_sub hl [0, 1, 2] rfl) hs

end
section
variable {p : Program} {l : Launch} {e : Env} {s : State} {m : MethodId} {args : Array Value} {below : List Frame} {meth : Method} {c : Code} {g : GG}
theorem d_AdjoinedSets_isConnective_0 : decode b_AdjoinedSets_isConnective 0 = .ok (.iload_n 0, 1) := by decide +kernel
theorem d_AdjoinedSets_isConnective_1 : decode b_AdjoinedSets_isConnective 1 = .ok (.bipush 33, 2) := by decide +kernel
theorem d_AdjoinedSets_isConnective_3 : decode b_AdjoinedSets_isConnective 3 = .ok (.if_icmp .eq 21, 3) := by decide +kernel
theorem d_AdjoinedSets_isConnective_6 : decode b_AdjoinedSets_isConnective 6 = .ok (.iload_n 0, 1) := by decide +kernel
theorem d_AdjoinedSets_isConnective_7 : decode b_AdjoinedSets_isConnective 7 = .ok (.bipush 94, 2) := by decide +kernel
theorem d_AdjoinedSets_isConnective_9 : decode b_AdjoinedSets_isConnective 9 = .ok (.if_icmp .eq 15, 3) := by decide +kernel
theorem d_AdjoinedSets_isConnective_12 : decode b_AdjoinedSets_isConnective 12 = .ok (.iload_n 0, 1) := by decide +kernel
theorem d_AdjoinedSets_isConnective_13 : decode b_AdjoinedSets_isConnective 13 = .ok (.bipush 118, 2) := by decide +kernel
theorem d_AdjoinedSets_isConnective_15 : decode b_AdjoinedSets_isConnective 15 = .ok (.if_icmp .eq 9, 3) := by decide +kernel
theorem d_AdjoinedSets_isConnective_18 : decode b_AdjoinedSets_isConnective 18 = .ok (.iload_n 0, 1) := by decide +kernel
theorem d_AdjoinedSets_isConnective_19 : decode b_AdjoinedSets_isConnective 19 = .ok (.bipush 62, 2) := by decide +kernel
theorem d_AdjoinedSets_isConnective_21 : decode b_AdjoinedSets_isConnective 21 = .ok (.if_icmp .ne 7, 3) := by decide +kernel
theorem d_AdjoinedSets_isConnective_24 : decode b_AdjoinedSets_isConnective 24 = .ok (.iconst 1, 1) := by decide +kernel
theorem d_AdjoinedSets_isConnective_25 : decode b_AdjoinedSets_isConnective 25 = .ok (.goto 4, 3) := by decide +kernel
theorem d_AdjoinedSets_isConnective_28 : decode b_AdjoinedSets_isConnective 28 = .ok (.iconst 0, 1) := by decide +kernel
theorem d_AdjoinedSets_isConnective_29 : decode b_AdjoinedSets_isConnective 29 = .ok (.ireturn, 1) := by decide +kernel
def s_AdjoinedSets_isConnective (x0 : Int32) : Option (Int32) :=
  if x0 = 33 then (
    some 1)
  else (
    if x0 = 94 then (
      some 1)
    else (
      if x0 = 118 then (
        some 1)
      else (
        if x0 = 62 then (
          some 1)
        else (
          some 0))))
set_option maxHeartbeats 4000000 in
set_option maxRecDepth 100000 in
theorem c_AdjoinedSets_isConnective (l : Launch) (g : GG) {h : HP} {x0 : Int32} {z : Int32} (hs : s_AdjoinedSets_isConnective x0 = some z) : Ct l g y_AdjoinedSets_isConnective w_AdjoinedSets_isConnective (rmS 0 0) [.int x0] h (some (.int z)) h := by
  refine Ct.of (own := R_AdjoinedSets) (by decide) rfl rfl (Nat.le_of_ble_eq_true rfl) ?_
  intro p e s m args below meth c ls C hl hw
  have hx := C.1
  have hb := C.2.1
  have hl : lv_has ls 1 [(0, .int x0)] := hl
  unfold s_AdjoinedSets_isConnective at hs
  refine lv_iload_n hx hb d_AdjoinedSets_isConnective_0 rfl (lv_at hl 0 rfl) ?_
  refine lv_bipush (v := 33) hx hb d_AdjoinedSets_isConnective_1 (by decide) ?_
  refine lv_icmp_eq hx hb d_AdjoinedSets_isConnective_3 (tgt := 24) (by decide) (fun hc => ?_) (fun hc => ?_)
  · have hs := oi_t hc hs
    refine lv_iconst (v := 1) hx hb d_AdjoinedSets_isConnective_24 (by decide) ?_
    refine lv_goto hx hb d_AdjoinedSets_isConnective_25 (tgt := 29) (by decide) ?_
    obtain rfl := Option.some.inj hs
    exact pg_zret (v := 1) C hw rfl d_AdjoinedSets_isConnective_29
  · have hs := oi_f hc hs
    refine lv_iload_n hx hb d_AdjoinedSets_isConnective_6 rfl (lv_at hl 0 rfl) ?_
    refine lv_bipush (v := 94) hx hb d_AdjoinedSets_isConnective_7 (by decide) ?_
    refine lv_icmp_eq hx hb d_AdjoinedSets_isConnective_9 (tgt := 24) (by decide) (fun hc => ?_) (fun hc => ?_)
    · have hs := oi_t hc hs
      refine lv_iconst (v := 1) hx hb d_AdjoinedSets_isConnective_24 (by decide) ?_
      refine lv_goto hx hb d_AdjoinedSets_isConnective_25 (tgt := 29) (by decide) ?_
      obtain rfl := Option.some.inj hs
      exact pg_zret (v := 1) C hw rfl d_AdjoinedSets_isConnective_29
    · have hs := oi_f hc hs
      refine lv_iload_n hx hb d_AdjoinedSets_isConnective_12 rfl (lv_at hl 0 rfl) ?_
      refine lv_bipush (v := 118) hx hb d_AdjoinedSets_isConnective_13 (by decide) ?_
      refine lv_icmp_eq hx hb d_AdjoinedSets_isConnective_15 (tgt := 24) (by decide) (fun hc => ?_) (fun hc => ?_)
      · have hs := oi_t hc hs
        refine lv_iconst (v := 1) hx hb d_AdjoinedSets_isConnective_24 (by decide) ?_
        refine lv_goto hx hb d_AdjoinedSets_isConnective_25 (tgt := 29) (by decide) ?_
        obtain rfl := Option.some.inj hs
        exact pg_zret (v := 1) C hw rfl d_AdjoinedSets_isConnective_29
      · have hs := oi_f hc hs
        refine lv_iload_n hx hb d_AdjoinedSets_isConnective_18 rfl (lv_at hl 0 rfl) ?_
        refine lv_bipush (v := 62) hx hb d_AdjoinedSets_isConnective_19 (by decide) ?_
        refine lv_icmp_ne hx hb d_AdjoinedSets_isConnective_21 (tgt := 28) (by decide) (fun hc => ?_) (fun hc => ?_)
        · have hs := oi_f hc hs
          refine lv_iconst (v := 0) hx hb d_AdjoinedSets_isConnective_28 (by decide) ?_
          obtain rfl := Option.some.inj hs
          exact pg_zret (v := 0) C hw rfl d_AdjoinedSets_isConnective_29
        · have hs := oi_t hc hs
          refine lv_iconst (v := 1) hx hb d_AdjoinedSets_isConnective_24 (by decide) ?_
          refine lv_goto hx hb d_AdjoinedSets_isConnective_25 (tgt := 29) (by decide) ?_
          obtain rfl := Option.some.inj hs
          exact pg_zret (v := 1) C hw rfl d_AdjoinedSets_isConnective_29

end
section
variable {p : Program} {l : Launch} {e : Env} {s : State} {m : MethodId} {args : Array Value} {below : List Frame} {meth : Method} {c : Code} {g : GG}
theorem d_AdjoinedSets_isBinder_0 : decode b_AdjoinedSets_isBinder 0 = .ok (.iload_n 0, 1) := by decide +kernel
theorem d_AdjoinedSets_isBinder_1 : decode b_AdjoinedSets_isBinder 1 = .ok (.bipush 123, 2) := by decide +kernel
theorem d_AdjoinedSets_isBinder_3 : decode b_AdjoinedSets_isBinder 3 = .ok (.if_icmp .eq 21, 3) := by decide +kernel
theorem d_AdjoinedSets_isBinder_6 : decode b_AdjoinedSets_isBinder 6 = .ok (.iload_n 0, 1) := by decide +kernel
theorem d_AdjoinedSets_isBinder_7 : decode b_AdjoinedSets_isBinder 7 = .ok (.bipush 73, 2) := by decide +kernel
theorem d_AdjoinedSets_isBinder_9 : decode b_AdjoinedSets_isBinder 9 = .ok (.if_icmp .eq 15, 3) := by decide +kernel
theorem d_AdjoinedSets_isBinder_12 : decode b_AdjoinedSets_isBinder 12 = .ok (.iload_n 0, 1) := by decide +kernel
theorem d_AdjoinedSets_isBinder_13 : decode b_AdjoinedSets_isBinder 13 = .ok (.bipush 69, 2) := by decide +kernel
theorem d_AdjoinedSets_isBinder_15 : decode b_AdjoinedSets_isBinder 15 = .ok (.if_icmp .eq 9, 3) := by decide +kernel
theorem d_AdjoinedSets_isBinder_18 : decode b_AdjoinedSets_isBinder 18 = .ok (.iload_n 0, 1) := by decide +kernel
theorem d_AdjoinedSets_isBinder_19 : decode b_AdjoinedSets_isBinder 19 = .ok (.bipush 76, 2) := by decide +kernel
theorem d_AdjoinedSets_isBinder_21 : decode b_AdjoinedSets_isBinder 21 = .ok (.if_icmp .ne 7, 3) := by decide +kernel
theorem d_AdjoinedSets_isBinder_24 : decode b_AdjoinedSets_isBinder 24 = .ok (.iconst 1, 1) := by decide +kernel
theorem d_AdjoinedSets_isBinder_25 : decode b_AdjoinedSets_isBinder 25 = .ok (.goto 4, 3) := by decide +kernel
theorem d_AdjoinedSets_isBinder_28 : decode b_AdjoinedSets_isBinder 28 = .ok (.iconst 0, 1) := by decide +kernel
theorem d_AdjoinedSets_isBinder_29 : decode b_AdjoinedSets_isBinder 29 = .ok (.ireturn, 1) := by decide +kernel
def s_AdjoinedSets_isBinder (x0 : Int32) : Option (Int32) :=
  if x0 = 123 then (
    some 1)
  else (
    if x0 = 73 then (
      some 1)
    else (
      if x0 = 69 then (
        some 1)
      else (
        if x0 = 76 then (
          some 1)
        else (
          some 0))))
set_option maxHeartbeats 4000000 in
set_option maxRecDepth 100000 in
theorem c_AdjoinedSets_isBinder (l : Launch) (g : GG) {h : HP} {x0 : Int32} {z : Int32} (hs : s_AdjoinedSets_isBinder x0 = some z) : Ct l g y_AdjoinedSets_isBinder w_AdjoinedSets_isBinder (rmS 0 0) [.int x0] h (some (.int z)) h := by
  refine Ct.of (own := R_AdjoinedSets) (by decide) rfl rfl (Nat.le_of_ble_eq_true rfl) ?_
  intro p e s m args below meth c ls C hl hw
  have hx := C.1
  have hb := C.2.1
  have hl : lv_has ls 1 [(0, .int x0)] := hl
  unfold s_AdjoinedSets_isBinder at hs
  refine lv_iload_n hx hb d_AdjoinedSets_isBinder_0 rfl (lv_at hl 0 rfl) ?_
  refine lv_bipush (v := 123) hx hb d_AdjoinedSets_isBinder_1 (by decide) ?_
  refine lv_icmp_eq hx hb d_AdjoinedSets_isBinder_3 (tgt := 24) (by decide) (fun hc => ?_) (fun hc => ?_)
  · have hs := oi_t hc hs
    refine lv_iconst (v := 1) hx hb d_AdjoinedSets_isBinder_24 (by decide) ?_
    refine lv_goto hx hb d_AdjoinedSets_isBinder_25 (tgt := 29) (by decide) ?_
    obtain rfl := Option.some.inj hs
    exact pg_zret (v := 1) C hw rfl d_AdjoinedSets_isBinder_29
  · have hs := oi_f hc hs
    refine lv_iload_n hx hb d_AdjoinedSets_isBinder_6 rfl (lv_at hl 0 rfl) ?_
    refine lv_bipush (v := 73) hx hb d_AdjoinedSets_isBinder_7 (by decide) ?_
    refine lv_icmp_eq hx hb d_AdjoinedSets_isBinder_9 (tgt := 24) (by decide) (fun hc => ?_) (fun hc => ?_)
    · have hs := oi_t hc hs
      refine lv_iconst (v := 1) hx hb d_AdjoinedSets_isBinder_24 (by decide) ?_
      refine lv_goto hx hb d_AdjoinedSets_isBinder_25 (tgt := 29) (by decide) ?_
      obtain rfl := Option.some.inj hs
      exact pg_zret (v := 1) C hw rfl d_AdjoinedSets_isBinder_29
    · have hs := oi_f hc hs
      refine lv_iload_n hx hb d_AdjoinedSets_isBinder_12 rfl (lv_at hl 0 rfl) ?_
      refine lv_bipush (v := 69) hx hb d_AdjoinedSets_isBinder_13 (by decide) ?_
      refine lv_icmp_eq hx hb d_AdjoinedSets_isBinder_15 (tgt := 24) (by decide) (fun hc => ?_) (fun hc => ?_)
      · have hs := oi_t hc hs
        refine lv_iconst (v := 1) hx hb d_AdjoinedSets_isBinder_24 (by decide) ?_
        refine lv_goto hx hb d_AdjoinedSets_isBinder_25 (tgt := 29) (by decide) ?_
        obtain rfl := Option.some.inj hs
        exact pg_zret (v := 1) C hw rfl d_AdjoinedSets_isBinder_29
      · have hs := oi_f hc hs
        refine lv_iload_n hx hb d_AdjoinedSets_isBinder_18 rfl (lv_at hl 0 rfl) ?_
        refine lv_bipush (v := 76) hx hb d_AdjoinedSets_isBinder_19 (by decide) ?_
        refine lv_icmp_ne hx hb d_AdjoinedSets_isBinder_21 (tgt := 28) (by decide) (fun hc => ?_) (fun hc => ?_)
        · have hs := oi_f hc hs
          refine lv_iconst (v := 0) hx hb d_AdjoinedSets_isBinder_28 (by decide) ?_
          obtain rfl := Option.some.inj hs
          exact pg_zret (v := 0) C hw rfl d_AdjoinedSets_isBinder_29
        · have hs := oi_t hc hs
          refine lv_iconst (v := 1) hx hb d_AdjoinedSets_isBinder_24 (by decide) ?_
          refine lv_goto hx hb d_AdjoinedSets_isBinder_25 (tgt := 29) (by decide) ?_
          obtain rfl := Option.some.inj hs
          exact pg_zret (v := 1) C hw rfl d_AdjoinedSets_isBinder_29

end
section
variable {p : Program} {l : Launch} {e : Env} {s : State} {m : MethodId} {args : Array Value} {below : List Frame} {meth : Method} {c : Code} {g : GG}
theorem d_AdjoinedSets_isFunction_0 : decode b_AdjoinedSets_isFunction 0 = .ok (.iload_n 0, 1) := by decide +kernel
theorem d_AdjoinedSets_isFunction_1 : decode b_AdjoinedSets_isFunction 1 = .ok (.bipush 65, 2) := by decide +kernel
theorem d_AdjoinedSets_isFunction_3 : decode b_AdjoinedSets_isFunction 3 = .ok (.if_icmp .lt 13, 3) := by decide +kernel
theorem d_AdjoinedSets_isFunction_6 : decode b_AdjoinedSets_isFunction 6 = .ok (.iload_n 0, 1) := by decide +kernel
theorem d_AdjoinedSets_isFunction_7 : decode b_AdjoinedSets_isFunction 7 = .ok (.bipush 69, 2) := by decide +kernel
theorem d_AdjoinedSets_isFunction_9 : decode b_AdjoinedSets_isFunction 9 = .ok (.if_icmp .ge 7, 3) := by decide +kernel
theorem d_AdjoinedSets_isFunction_12 : decode b_AdjoinedSets_isFunction 12 = .ok (.iconst 1, 1) := by decide +kernel
theorem d_AdjoinedSets_isFunction_13 : decode b_AdjoinedSets_isFunction 13 = .ok (.goto 4, 3) := by decide +kernel
theorem d_AdjoinedSets_isFunction_16 : decode b_AdjoinedSets_isFunction 16 = .ok (.iconst 0, 1) := by decide +kernel
theorem d_AdjoinedSets_isFunction_17 : decode b_AdjoinedSets_isFunction 17 = .ok (.ireturn, 1) := by decide +kernel
def s_AdjoinedSets_isFunction (x0 : Int32) : Option (Int32) :=
  if x0 < 65 then (
    some 0)
  else (
    if 69 ≤ x0 then (
      some 0)
    else (
      some 1))
set_option maxHeartbeats 4000000 in
set_option maxRecDepth 100000 in
theorem c_AdjoinedSets_isFunction (l : Launch) (g : GG) {h : HP} {x0 : Int32} {z : Int32} (hs : s_AdjoinedSets_isFunction x0 = some z) : Ct l g y_AdjoinedSets_isFunction w_AdjoinedSets_isFunction (rmS 0 0) [.int x0] h (some (.int z)) h := by
  refine Ct.of (own := R_AdjoinedSets) (by decide) rfl rfl (Nat.le_of_ble_eq_true rfl) ?_
  intro p e s m args below meth c ls C hl hw
  have hx := C.1
  have hb := C.2.1
  have hl : lv_has ls 1 [(0, .int x0)] := hl
  unfold s_AdjoinedSets_isFunction at hs
  refine lv_iload_n hx hb d_AdjoinedSets_isFunction_0 rfl (lv_at hl 0 rfl) ?_
  refine lv_bipush (v := 65) hx hb d_AdjoinedSets_isFunction_1 (by decide) ?_
  refine lv_icmp_lt hx hb d_AdjoinedSets_isFunction_3 (tgt := 16) (by decide) (fun hc => ?_) (fun hc => ?_)
  · have hs := oi_t hc hs
    refine lv_iconst (v := 0) hx hb d_AdjoinedSets_isFunction_16 (by decide) ?_
    obtain rfl := Option.some.inj hs
    exact pg_zret (v := 0) C hw rfl d_AdjoinedSets_isFunction_17
  · have hs := oi_f hc hs
    refine lv_iload_n hx hb d_AdjoinedSets_isFunction_6 rfl (lv_at hl 0 rfl) ?_
    refine lv_bipush (v := 69) hx hb d_AdjoinedSets_isFunction_7 (by decide) ?_
    refine lv_icmp_ge hx hb d_AdjoinedSets_isFunction_9 (tgt := 16) (by decide) (fun hc => ?_) (fun hc => ?_)
    · have hs := oi_t hc hs
      refine lv_iconst (v := 0) hx hb d_AdjoinedSets_isFunction_16 (by decide) ?_
      obtain rfl := Option.some.inj hs
      exact pg_zret (v := 0) C hw rfl d_AdjoinedSets_isFunction_17
    · have hs := oi_f hc hs
      refine lv_iconst (v := 1) hx hb d_AdjoinedSets_isFunction_12 (by decide) ?_
      refine lv_goto hx hb d_AdjoinedSets_isFunction_13 (tgt := 17) (by decide) ?_
      obtain rfl := Option.some.inj hs
      exact pg_zret (v := 1) C hw rfl d_AdjoinedSets_isFunction_17

end
section
variable {p : Program} {l : Launch} {e : Env} {s : State} {m : MethodId} {args : Array Value} {below : List Frame} {meth : Method} {c : Code} {g : GG}
theorem d_AdjoinedSets_isLetter_0 : decode b_AdjoinedSets_isLetter 0 = .ok (.iload_n 0, 1) := by decide +kernel
theorem d_AdjoinedSets_isLetter_1 : decode b_AdjoinedSets_isLetter 1 = .ok (.bipush 97, 2) := by decide +kernel
theorem d_AdjoinedSets_isLetter_3 : decode b_AdjoinedSets_isLetter 3 = .ok (.if_icmp .lt 13, 3) := by decide +kernel
theorem d_AdjoinedSets_isLetter_6 : decode b_AdjoinedSets_isLetter 6 = .ok (.iload_n 0, 1) := by decide +kernel
theorem d_AdjoinedSets_isLetter_7 : decode b_AdjoinedSets_isLetter 7 = .ok (.bipush 105, 2) := by decide +kernel
theorem d_AdjoinedSets_isLetter_9 : decode b_AdjoinedSets_isLetter 9 = .ok (.if_icmp .ge 7, 3) := by decide +kernel
theorem d_AdjoinedSets_isLetter_12 : decode b_AdjoinedSets_isLetter 12 = .ok (.iconst 1, 1) := by decide +kernel
theorem d_AdjoinedSets_isLetter_13 : decode b_AdjoinedSets_isLetter 13 = .ok (.goto 4, 3) := by decide +kernel
theorem d_AdjoinedSets_isLetter_16 : decode b_AdjoinedSets_isLetter 16 = .ok (.iconst 0, 1) := by decide +kernel
theorem d_AdjoinedSets_isLetter_17 : decode b_AdjoinedSets_isLetter 17 = .ok (.ireturn, 1) := by decide +kernel
def s_AdjoinedSets_isLetter (x0 : Int32) : Option (Int32) :=
  if x0 < 97 then (
    some 0)
  else (
    if 105 ≤ x0 then (
      some 0)
    else (
      some 1))
set_option maxHeartbeats 4000000 in
set_option maxRecDepth 100000 in
theorem c_AdjoinedSets_isLetter (l : Launch) (g : GG) {h : HP} {x0 : Int32} {z : Int32} (hs : s_AdjoinedSets_isLetter x0 = some z) : Ct l g y_AdjoinedSets_isLetter w_AdjoinedSets_isLetter (rmS 0 0) [.int x0] h (some (.int z)) h := by
  refine Ct.of (own := R_AdjoinedSets) (by decide) rfl rfl (Nat.le_of_ble_eq_true rfl) ?_
  intro p e s m args below meth c ls C hl hw
  have hx := C.1
  have hb := C.2.1
  have hl : lv_has ls 1 [(0, .int x0)] := hl
  unfold s_AdjoinedSets_isLetter at hs
  refine lv_iload_n hx hb d_AdjoinedSets_isLetter_0 rfl (lv_at hl 0 rfl) ?_
  refine lv_bipush (v := 97) hx hb d_AdjoinedSets_isLetter_1 (by decide) ?_
  refine lv_icmp_lt hx hb d_AdjoinedSets_isLetter_3 (tgt := 16) (by decide) (fun hc => ?_) (fun hc => ?_)
  · have hs := oi_t hc hs
    refine lv_iconst (v := 0) hx hb d_AdjoinedSets_isLetter_16 (by decide) ?_
    obtain rfl := Option.some.inj hs
    exact pg_zret (v := 0) C hw rfl d_AdjoinedSets_isLetter_17
  · have hs := oi_f hc hs
    refine lv_iload_n hx hb d_AdjoinedSets_isLetter_6 rfl (lv_at hl 0 rfl) ?_
    refine lv_bipush (v := 105) hx hb d_AdjoinedSets_isLetter_7 (by decide) ?_
    refine lv_icmp_ge hx hb d_AdjoinedSets_isLetter_9 (tgt := 16) (by decide) (fun hc => ?_) (fun hc => ?_)
    · have hs := oi_t hc hs
      refine lv_iconst (v := 0) hx hb d_AdjoinedSets_isLetter_16 (by decide) ?_
      obtain rfl := Option.some.inj hs
      exact pg_zret (v := 0) C hw rfl d_AdjoinedSets_isLetter_17
    · have hs := oi_f hc hs
      refine lv_iconst (v := 1) hx hb d_AdjoinedSets_isLetter_12 (by decide) ?_
      refine lv_goto hx hb d_AdjoinedSets_isLetter_13 (tgt := 17) (by decide) ?_
      obtain rfl := Option.some.inj hs
      exact pg_zret (v := 1) C hw rfl d_AdjoinedSets_isLetter_17

end
section
variable {p : Program} {l : Launch} {e : Env} {s : State} {m : MethodId} {args : Array Value} {below : List Frame} {meth : Method} {c : Code} {g : GG}
theorem d_AdjoinedSets_isDigit_0 : decode b_AdjoinedSets_isDigit 0 = .ok (.iload_n 0, 1) := by decide +kernel
theorem d_AdjoinedSets_isDigit_1 : decode b_AdjoinedSets_isDigit 1 = .ok (.bipush 48, 2) := by decide +kernel
theorem d_AdjoinedSets_isDigit_3 : decode b_AdjoinedSets_isDigit 3 = .ok (.if_icmp .lt 13, 3) := by decide +kernel
theorem d_AdjoinedSets_isDigit_6 : decode b_AdjoinedSets_isDigit 6 = .ok (.iload_n 0, 1) := by decide +kernel
theorem d_AdjoinedSets_isDigit_7 : decode b_AdjoinedSets_isDigit 7 = .ok (.bipush 57, 2) := by decide +kernel
theorem d_AdjoinedSets_isDigit_9 : decode b_AdjoinedSets_isDigit 9 = .ok (.if_icmp .gt 7, 3) := by decide +kernel
theorem d_AdjoinedSets_isDigit_12 : decode b_AdjoinedSets_isDigit 12 = .ok (.iconst 1, 1) := by decide +kernel
theorem d_AdjoinedSets_isDigit_13 : decode b_AdjoinedSets_isDigit 13 = .ok (.goto 4, 3) := by decide +kernel
theorem d_AdjoinedSets_isDigit_16 : decode b_AdjoinedSets_isDigit 16 = .ok (.iconst 0, 1) := by decide +kernel
theorem d_AdjoinedSets_isDigit_17 : decode b_AdjoinedSets_isDigit 17 = .ok (.ireturn, 1) := by decide +kernel
def s_AdjoinedSets_isDigit (x0 : Int32) : Option (Int32) :=
  if x0 < 48 then (
    some 0)
  else (
    if 57 < x0 then (
      some 0)
    else (
      some 1))
set_option maxHeartbeats 4000000 in
set_option maxRecDepth 100000 in
theorem c_AdjoinedSets_isDigit (l : Launch) (g : GG) {h : HP} {x0 : Int32} {z : Int32} (hs : s_AdjoinedSets_isDigit x0 = some z) : Ct l g y_AdjoinedSets_isDigit w_AdjoinedSets_isDigit (rmS 0 0) [.int x0] h (some (.int z)) h := by
  refine Ct.of (own := R_AdjoinedSets) (by decide) rfl rfl (Nat.le_of_ble_eq_true rfl) ?_
  intro p e s m args below meth c ls C hl hw
  have hx := C.1
  have hb := C.2.1
  have hl : lv_has ls 1 [(0, .int x0)] := hl
  unfold s_AdjoinedSets_isDigit at hs
  refine lv_iload_n hx hb d_AdjoinedSets_isDigit_0 rfl (lv_at hl 0 rfl) ?_
  refine lv_bipush (v := 48) hx hb d_AdjoinedSets_isDigit_1 (by decide) ?_
  refine lv_icmp_lt hx hb d_AdjoinedSets_isDigit_3 (tgt := 16) (by decide) (fun hc => ?_) (fun hc => ?_)
  · have hs := oi_t hc hs
    refine lv_iconst (v := 0) hx hb d_AdjoinedSets_isDigit_16 (by decide) ?_
    obtain rfl := Option.some.inj hs
    exact pg_zret (v := 0) C hw rfl d_AdjoinedSets_isDigit_17
  · have hs := oi_f hc hs
    refine lv_iload_n hx hb d_AdjoinedSets_isDigit_6 rfl (lv_at hl 0 rfl) ?_
    refine lv_bipush (v := 57) hx hb d_AdjoinedSets_isDigit_7 (by decide) ?_
    refine lv_icmp_gt hx hb d_AdjoinedSets_isDigit_9 (tgt := 16) (by decide) (fun hc => ?_) (fun hc => ?_)
    · have hs := oi_t hc hs
      refine lv_iconst (v := 0) hx hb d_AdjoinedSets_isDigit_16 (by decide) ?_
      obtain rfl := Option.some.inj hs
      exact pg_zret (v := 0) C hw rfl d_AdjoinedSets_isDigit_17
    · have hs := oi_f hc hs
      refine lv_iconst (v := 1) hx hb d_AdjoinedSets_isDigit_12 (by decide) ?_
      refine lv_goto hx hb d_AdjoinedSets_isDigit_13 (tgt := 17) (by decide) ?_
      obtain rfl := Option.some.inj hs
      exact pg_zret (v := 1) C hw rfl d_AdjoinedSets_isDigit_17

end
section
variable {p : Program} {l : Launch} {e : Env} {s : State} {m : MethodId} {args : Array Value} {below : List Frame} {meth : Method} {c : Code} {g : GG}
theorem d_AdjoinedSets_lowestLetter_0 : decode b_AdjoinedSets_lowestLetter 0 = .ok (.iconst 0, 1) := by decide +kernel
theorem d_AdjoinedSets_lowestLetter_1 : decode b_AdjoinedSets_lowestLetter 1 = .ok (.istore_n 1, 1) := by decide +kernel
theorem d_AdjoinedSets_lowestLetter_2 : decode b_AdjoinedSets_lowestLetter 2 = .ok (.iload_n 1, 1) := by decide +kernel
theorem d_AdjoinedSets_lowestLetter_3 : decode b_AdjoinedSets_lowestLetter 3 = .ok (.bipush 8, 2) := by decide +kernel
theorem d_AdjoinedSets_lowestLetter_5 : decode b_AdjoinedSets_lowestLetter 5 = .ok (.if_icmp .ge 17, 3) := by decide +kernel
theorem d_AdjoinedSets_lowestLetter_8 : decode b_AdjoinedSets_lowestLetter 8 = .ok (.iload_n 0, 1) := by decide +kernel
theorem d_AdjoinedSets_lowestLetter_9 : decode b_AdjoinedSets_lowestLetter 9 = .ok (.iload_n 1, 1) := by decide +kernel
theorem d_AdjoinedSets_lowestLetter_10 : decode b_AdjoinedSets_lowestLetter 10 = .ok (.ishr, 1) := by decide +kernel
theorem d_AdjoinedSets_lowestLetter_11 : decode b_AdjoinedSets_lowestLetter 11 = .ok (.iconst 1, 1) := by decide +kernel
theorem d_AdjoinedSets_lowestLetter_12 : decode b_AdjoinedSets_lowestLetter 12 = .ok (.iand, 1) := by decide +kernel
theorem d_AdjoinedSets_lowestLetter_13 : decode b_AdjoinedSets_lowestLetter 13 = .ok (.ifCond .ne 9, 3) := by decide +kernel
theorem d_AdjoinedSets_lowestLetter_16 : decode b_AdjoinedSets_lowestLetter 16 = .ok (.iinc 1 1, 3) := by decide +kernel
theorem d_AdjoinedSets_lowestLetter_19 : decode b_AdjoinedSets_lowestLetter 19 = .ok (.goto (-17), 3) := by decide +kernel
theorem d_AdjoinedSets_lowestLetter_22 : decode b_AdjoinedSets_lowestLetter 22 = .ok (.iload_n 1, 1) := by decide +kernel
theorem d_AdjoinedSets_lowestLetter_23 : decode b_AdjoinedSets_lowestLetter 23 = .ok (.ireturn, 1) := by decide +kernel
def s_AdjoinedSets_lowestLetter_2 : Nat → Int32 → Int32 → Option (Int32)
  | 0 => fun _ _ => none
  | k + 1 => fun x0 x1 =>
  if 8 ≤ x1 then (
    some x1)
  else (
    if ((x0 >>> (x1 &&& 31)) &&& 1) = 0 then (
      (s_AdjoinedSets_lowestLetter_2 k) x0 (x1 + 1))
    else (
      some x1))
set_option maxHeartbeats 4000000 in
set_option maxRecDepth 100000 in
theorem k_AdjoinedSets_lowestLetter_2 {h : HP} {z : Int32} (C : CX g R_AdjoinedSets b_AdjoinedSets_lowestLetter 2 (some .int) p s m args meth c) : ∀ (k : Nat) {x0 : Int32} {x1 : Int32} {H : Heap} {locs : List Loc} {ls : Array Slot}, WD g h s.heap H locs → lv_has ls 2 [(0, .int x0), (1, .int x1)] → s_AdjoinedSets_lowestLetter_2 k x0 x1 = some z → W p l e (rmS 0 0) s m args below meth c H locs 0 0 (MQ below (Qq g (some (.int z)) h) args s 0 0 (inA g)) (F0 m 2 ls []) := by
  have hx := C.1
  have hb := C.2.1
  intro k
  induction k with
  | zero =>
    intro x0 x1 H locs ls hw hl hs
    exact (no_s hs).elim
  | succ k ih =>
    intro x0 x1 H locs ls hw hl hs
    rw [s_AdjoinedSets_lowestLetter_2] at hs
    refine lv_iload_n hx hb d_AdjoinedSets_lowestLetter_2 rfl (lv_at hl 1 rfl) ?_
    refine lv_bipush (v := 8) hx hb d_AdjoinedSets_lowestLetter_3 (by decide) ?_
    refine lv_icmp_ge hx hb d_AdjoinedSets_lowestLetter_5 (tgt := 22) (by decide) (fun hc => ?_) (fun hc => ?_)
    · have hs := oi_t hc hs
      refine lv_iload_n hx hb d_AdjoinedSets_lowestLetter_22 rfl (lv_at hl 1 rfl) ?_
      obtain rfl := Option.some.inj hs
      exact pg_iret C hw d_AdjoinedSets_lowestLetter_23
    · have hs := oi_f hc hs
      refine lv_iload_n hx hb d_AdjoinedSets_lowestLetter_8 rfl (lv_at hl 0 rfl) ?_
      refine lv_iload_n hx hb d_AdjoinedSets_lowestLetter_9 rfl (lv_at hl 1 rfl) ?_
      refine lv_ishr hx hb d_AdjoinedSets_lowestLetter_10 ?_
      refine lv_iconst (v := 1) hx hb d_AdjoinedSets_lowestLetter_11 (by decide) ?_
      refine lv_iand hx hb d_AdjoinedSets_lowestLetter_12 ?_
      refine lv_if_ne hx hb d_AdjoinedSets_lowestLetter_13 (tgt := 22) (by decide) (fun hc => ?_) (fun hc => ?_)
      · have hs := oi_f hc hs
        refine lv_iload_n hx hb d_AdjoinedSets_lowestLetter_22 rfl (lv_at hl 1 rfl) ?_
        obtain rfl := Option.some.inj hs
        exact pg_iret C hw d_AdjoinedSets_lowestLetter_23
      · have hs := oi_t hc hs
        refine lv_iinc hx hb d_AdjoinedSets_lowestLetter_16 hl (k := 1) rfl (v := (x1 + 1)) (iinc_e _ (by decide)) (by decide) (lv' := [(1, .int (x1 + 1)), (0, .int x0)]) rfl (fun ls hl => ?_)
        refine lv_goto hx hb d_AdjoinedSets_lowestLetter_19 (tgt := 2) (by decide) ?_
        exact ih hw (lv_sub hl [1, 0] rfl) hs

def s_AdjoinedSets_lowestLetter (x0 : Int32) : Option (Int32) :=
  s_AdjoinedSets_lowestLetter_2 20000 x0 0
set_option maxHeartbeats 4000000 in
set_option maxRecDepth 100000 in
theorem c_AdjoinedSets_lowestLetter (l : Launch) (g : GG) {h : HP} {x0 : Int32} {z : Int32} (hs : s_AdjoinedSets_lowestLetter x0 = some z) : Ct l g y_AdjoinedSets_lowestLetter w_AdjoinedSets_lowestLetter (rmS 0 0) [.int x0] h (some (.int z)) h := by
  refine Ct.of (own := R_AdjoinedSets) (by decide) rfl rfl (Nat.le_of_ble_eq_true rfl) ?_
  intro p e s m args below meth c ls C hl hw
  have hx := C.1
  have hb := C.2.1
  have hl : lv_has ls 2 [(0, .int x0)] := hl
  unfold s_AdjoinedSets_lowestLetter at hs
  refine lv_iconst (v := 0) hx hb d_AdjoinedSets_lowestLetter_0 (by decide) ?_
  refine lv_istore_n hx hb d_AdjoinedSets_lowestLetter_1 rfl hl (by decide) (lv' := [(1, .int 0), (0, .int x0)]) rfl (fun ls hl => ?_)
  exact k_AdjoinedSets_lowestLetter_2 C 20000 hw (lv_sub hl [1, 0] rfl) hs

end
section
variable {p : Program} {l : Launch} {e : Env} {s : State} {m : MethodId} {args : Array Value} {below : List Frame} {meth : Method} {c : Code} {g : GG}
theorem d_Worker_give_0 : decode b_Worker_give 0 = .ok (.iload_n 1, 1) := by decide +kernel
theorem d_Worker_give_1 : decode b_Worker_give 1 = .ok (.ifCond .lt 16, 3) := by decide +kernel
theorem d_Worker_give_4 : decode b_Worker_give 4 = .ok (.iload_n 1, 1) := by decide +kernel
theorem d_Worker_give_5 : decode b_Worker_give 5 = .ok (.bipush 8, 2) := by decide +kernel
theorem d_Worker_give_7 : decode b_Worker_give 7 = .ok (.if_icmp .ge 10, 3) := by decide +kernel
theorem d_Worker_give_10 : decode b_Worker_give 10 = .ok (.aload_n 0, 1) := by decide +kernel
theorem d_Worker_give_11 : decode b_Worker_give 11 = .ok (.getfield 9, 3) := by decide +kernel
theorem d_Worker_give_14 : decode b_Worker_give 14 = .ok (.iload_n 1, 1) := by decide +kernel
theorem d_Worker_give_15 : decode b_Worker_give 15 = .ok (.lload_n 2, 1) := by decide +kernel
theorem d_Worker_give_16 : decode b_Worker_give 16 = .ok (.lastore, 1) := by decide +kernel
theorem d_Worker_give_17 : decode b_Worker_give 17 = .ok (.return_, 1) := by decide +kernel
def s_Worker_give (x0 : Nat) (x1 : Int32) (x2 : Int64) (h : HP) : Option (HP) :=
  if x1 < 0 then (
    some h)
  else (
    if 8 ≤ x1 then (
      some h)
    else (
      (gR h x0 4 1).bind fun v1 =>
      (uL h v1 2 x1 x2).bind fun h3 =>
      some h3))
set_option maxHeartbeats 4000000 in
set_option maxRecDepth 100000 in
theorem c_Worker_give (l : Launch) (g : GG) {x0 : Nat} {x1 : Int32} {x2 : Int64} {h : HP} {z : HP} (hs : s_Worker_give x0 x1 x2 h = some z) : Ct l g y_Worker_give w_Worker_give (rmS 0 0) [.ref (aD g x0), .int x1, .long x2] h none z := by
  refine Ct.of (own := R_Worker) (by decide) rfl rfl (Nat.le_of_ble_eq_true rfl) ?_
  intro p e s m args below meth c ls C hl hw
  have hx := C.1
  have hb := C.2.1
  have hl : lv_has ls 4 [(0, .ref (aD g x0)), (1, .int x1), (2, .long x2)] := hl
  unfold s_Worker_give at hs
  refine lv_iload_n hx hb d_Worker_give_0 rfl (lv_at hl 1 rfl) ?_
  refine lv_if_lt hx hb d_Worker_give_1 (tgt := 17) (by decide) (fun hc => ?_) (fun hc => ?_)
  · have hs := oi_t hc hs
    obtain rfl := Option.some.inj hs
    exact pg_vret C hw d_Worker_give_17
  · have hs := oi_f hc hs
    refine lv_iload_n hx hb d_Worker_give_4 rfl (lv_at hl 1 rfl) ?_
    refine lv_bipush (v := 8) hx hb d_Worker_give_5 (by decide) ?_
    refine lv_icmp_ge hx hb d_Worker_give_7 (tgt := 17) (by decide) (fun hc => ?_) (fun hc => ?_)
    · have hs := oi_t hc hs
      obtain rfl := Option.some.inj hs
      exact pg_vret C hw d_Worker_give_17
    · have hs := oi_f hc hs
      refine lv_aload_n hx hb d_Worker_give_10 rfl (lv_at hl 0 rfl) ?_
      obtain ⟨v1, e2, hs⟩ := ob hs
      refine pg_getR C hw fl_Worker_9 e2 d_Worker_give_11 ?_
      refine lv_iload_n hx hb d_Worker_give_14 rfl (lv_at hl 1 rfl) ?_
      refine lv_lload_n hx hb d_Worker_give_15 rfl (lv_at hl 2 rfl) ?_
      obtain ⟨h3, e4, hs⟩ := ob hs
      refine pg_lastore C hw (t0 := 2) rfl e4 d_Worker_give_16 (fun H locs hw => ?_)
      obtain rfl := Option.some.inj hs
      exact pg_vret C hw d_Worker_give_17

end
