section
variable {p : Program} {l : Launch} {e : Env} {s : State} {m : MethodId} {args : Array Value} {below : List Frame} {meth : Method} {c : Code} {g : GG}
theorem d_AdjoinedSetsModel_work_0 : decode b_AdjoinedSetsModel_work 0 = .ok (.aload_n 0, 1) := by decide +kernel
theorem d_AdjoinedSetsModel_work_1 : decode b_AdjoinedSetsModel_work 1 = .ok (.iconst 0, 1) := by decide +kernel
theorem d_AdjoinedSetsModel_work_2 : decode b_AdjoinedSetsModel_work 2 = .ok (.putfield 163, 3) := by decide +kernel
theorem d_AdjoinedSetsModel_work_5 : decode b_AdjoinedSetsModel_work 5 = .ok (.aload_n 0, 1) := by decide +kernel
theorem d_AdjoinedSetsModel_work_6 : decode b_AdjoinedSetsModel_work 6 = .ok (.iconst 0, 1) := by decide +kernel
theorem d_AdjoinedSetsModel_work_7 : decode b_AdjoinedSetsModel_work 7 = .ok (.putfield 160, 3) := by decide +kernel
theorem d_AdjoinedSetsModel_work_10 : decode b_AdjoinedSetsModel_work 10 = .ok (.aload_n 0, 1) := by decide +kernel
theorem d_AdjoinedSetsModel_work_11 : decode b_AdjoinedSetsModel_work 11 = .ok (.iconst 0, 1) := by decide +kernel
theorem d_AdjoinedSetsModel_work_12 : decode b_AdjoinedSetsModel_work 12 = .ok (.putfield 166, 3) := by decide +kernel
theorem d_AdjoinedSetsModel_work_15 : decode b_AdjoinedSetsModel_work 15 = .ok (.aload_n 0, 1) := by decide +kernel
theorem d_AdjoinedSetsModel_work_16 : decode b_AdjoinedSetsModel_work 16 = .ok (.iload_n 1, 1) := by decide +kernel
theorem d_AdjoinedSetsModel_work_17 : decode b_AdjoinedSetsModel_work 17 = .ok (.iconst (-1), 1) := by decide +kernel
theorem d_AdjoinedSetsModel_work_18 : decode b_AdjoinedSetsModel_work 18 = .ok (.invokevirtual 212, 3) := by decide +kernel
theorem d_AdjoinedSetsModel_work_21 : decode b_AdjoinedSetsModel_work 21 = .ok (.iconst 0, 1) := by decide +kernel
theorem d_AdjoinedSetsModel_work_22 : decode b_AdjoinedSetsModel_work 22 = .ok (.istore_n 2, 1) := by decide +kernel
theorem d_AdjoinedSetsModel_work_23 : decode b_AdjoinedSetsModel_work 23 = .ok (.aload_n 0, 1) := by decide +kernel
theorem d_AdjoinedSetsModel_work_24 : decode b_AdjoinedSetsModel_work 24 = .ok (.getfield 163, 3) := by decide +kernel
theorem d_AdjoinedSetsModel_work_27 : decode b_AdjoinedSetsModel_work 27 = .ok (.ifCond .le 109, 3) := by decide +kernel
theorem d_AdjoinedSetsModel_work_30 : decode b_AdjoinedSetsModel_work 30 = .ok (.aload_n 0, 1) := by decide +kernel
theorem d_AdjoinedSetsModel_work_31 : decode b_AdjoinedSetsModel_work 31 = .ok (.getfield 166, 3) := by decide +kernel
theorem d_AdjoinedSetsModel_work_34 : decode b_AdjoinedSetsModel_work 34 = .ok (.ifCond .ne 102, 3) := by decide +kernel
theorem d_AdjoinedSetsModel_work_37 : decode b_AdjoinedSetsModel_work 37 = .ok (.aload_n 0, 1) := by decide +kernel
theorem d_AdjoinedSetsModel_work_38 : decode b_AdjoinedSetsModel_work 38 = .ok (.getfield 163, 3) := by decide +kernel
theorem d_AdjoinedSetsModel_work_41 : decode b_AdjoinedSetsModel_work 41 = .ok (.iconst 1, 1) := by decide +kernel
theorem d_AdjoinedSetsModel_work_42 : decode b_AdjoinedSetsModel_work 42 = .ok (.isub, 1) := by decide +kernel
theorem d_AdjoinedSetsModel_work_43 : decode b_AdjoinedSetsModel_work 43 = .ok (.istore_n 3, 1) := by decide +kernel
theorem d_AdjoinedSetsModel_work_44 : decode b_AdjoinedSetsModel_work 44 = .ok (.aload_n 0, 1) := by decide +kernel
theorem d_AdjoinedSetsModel_work_45 : decode b_AdjoinedSetsModel_work 45 = .ok (.getfield 7, 3) := by decide +kernel
theorem d_AdjoinedSetsModel_work_48 : decode b_AdjoinedSetsModel_work 48 = .ok (.aload_n 0, 1) := by decide +kernel
theorem d_AdjoinedSetsModel_work_49 : decode b_AdjoinedSetsModel_work 49 = .ok (.getfield 45, 3) := by decide +kernel
theorem d_AdjoinedSetsModel_work_52 : decode b_AdjoinedSetsModel_work 52 = .ok (.iload_n 3, 1) := by decide +kernel
theorem d_AdjoinedSetsModel_work_53 : decode b_AdjoinedSetsModel_work 53 = .ok (.iaload, 1) := by decide +kernel
theorem d_AdjoinedSetsModel_work_54 : decode b_AdjoinedSetsModel_work 54 = .ok (.iaload, 1) := by decide +kernel
theorem d_AdjoinedSetsModel_work_55 : decode b_AdjoinedSetsModel_work 55 = .ok (.istore 4, 2) := by decide +kernel
theorem d_AdjoinedSetsModel_work_57 : decode b_AdjoinedSetsModel_work 57 = .ok (.iload_n 2, 1) := by decide +kernel
theorem d_AdjoinedSetsModel_work_58 : decode b_AdjoinedSetsModel_work 58 = .ok (.ifCond .eq 43, 3) := by decide +kernel
theorem d_AdjoinedSetsModel_work_61 : decode b_AdjoinedSetsModel_work 61 = .ok (.iload 4, 2) := by decide +kernel
theorem d_AdjoinedSetsModel_work_63 : decode b_AdjoinedSetsModel_work 63 = .ok (.invokestatic 103, 3) := by decide +kernel
theorem d_AdjoinedSetsModel_work_66 : decode b_AdjoinedSetsModel_work 66 = .ok (.ifCond .eq 35, 3) := by decide +kernel
theorem d_AdjoinedSetsModel_work_69 : decode b_AdjoinedSetsModel_work 69 = .ok (.aload_n 0, 1) := by decide +kernel
theorem d_AdjoinedSetsModel_work_70 : decode b_AdjoinedSetsModel_work 70 = .ok (.getfield 51, 3) := by decide +kernel
theorem d_AdjoinedSetsModel_work_73 : decode b_AdjoinedSetsModel_work 73 = .ok (.iload_n 3, 1) := by decide +kernel
theorem d_AdjoinedSetsModel_work_74 : decode b_AdjoinedSetsModel_work 74 = .ok (.iaload, 1) := by decide +kernel
theorem d_AdjoinedSetsModel_work_75 : decode b_AdjoinedSetsModel_work 75 = .ok (.aload_n 0, 1) := by decide +kernel
theorem d_AdjoinedSetsModel_work_76 : decode b_AdjoinedSetsModel_work 76 = .ok (.getfield 17, 3) := by decide +kernel
theorem d_AdjoinedSetsModel_work_79 : decode b_AdjoinedSetsModel_work 79 = .ok (.iload 4, 2) := by decide +kernel
theorem d_AdjoinedSetsModel_work_81 : decode b_AdjoinedSetsModel_work 81 = .ok (.bipush 65, 2) := by decide +kernel
theorem d_AdjoinedSetsModel_work_83 : decode b_AdjoinedSetsModel_work 83 = .ok (.isub, 1) := by decide +kernel
theorem d_AdjoinedSetsModel_work_84 : decode b_AdjoinedSetsModel_work 84 = .ok (.iaload, 1) := by decide +kernel
theorem d_AdjoinedSetsModel_work_85 : decode b_AdjoinedSetsModel_work 85 = .ok (.if_icmp .ne 16, 3) := by decide +kernel
theorem d_AdjoinedSetsModel_work_88 : decode b_AdjoinedSetsModel_work 88 = .ok (.aload_n 0, 1) := by decide +kernel
theorem d_AdjoinedSetsModel_work_89 : decode b_AdjoinedSetsModel_work 89 = .ok (.dup, 1) := by decide +kernel
theorem d_AdjoinedSetsModel_work_90 : decode b_AdjoinedSetsModel_work 90 = .ok (.getfield 163, 3) := by decide +kernel
theorem d_AdjoinedSetsModel_work_93 : decode b_AdjoinedSetsModel_work 93 = .ok (.iconst 1, 1) := by decide +kernel
theorem d_AdjoinedSetsModel_work_94 : decode b_AdjoinedSetsModel_work 94 = .ok (.isub, 1) := by decide +kernel
theorem d_AdjoinedSetsModel_work_95 : decode b_AdjoinedSetsModel_work 95 = .ok (.putfield 163, 3) := by decide +kernel
theorem d_AdjoinedSetsModel_work_98 : decode b_AdjoinedSetsModel_work 98 = .ok (.goto 21, 3) := by decide +kernel
theorem d_AdjoinedSetsModel_work_101 : decode b_AdjoinedSetsModel_work 101 = .ok (.iload_n 2, 1) := by decide +kernel
theorem d_AdjoinedSetsModel_work_102 : decode b_AdjoinedSetsModel_work 102 = .ok (.ifCond .eq 10, 3) := by decide +kernel
theorem d_AdjoinedSetsModel_work_105 : decode b_AdjoinedSetsModel_work 105 = .ok (.aload_n 0, 1) := by decide +kernel
theorem d_AdjoinedSetsModel_work_106 : decode b_AdjoinedSetsModel_work 106 = .ok (.iload_n 3, 1) := by decide +kernel
theorem d_AdjoinedSetsModel_work_107 : decode b_AdjoinedSetsModel_work 107 = .ok (.iload 4, 2) := by decide +kernel
theorem d_AdjoinedSetsModel_work_109 : decode b_AdjoinedSetsModel_work 109 = .ok (.invokevirtual 220, 3) := by decide +kernel
theorem d_AdjoinedSetsModel_work_112 : decode b_AdjoinedSetsModel_work 112 = .ok (.aload_n 0, 1) := by decide +kernel
theorem d_AdjoinedSetsModel_work_113 : decode b_AdjoinedSetsModel_work 113 = .ok (.iload_n 3, 1) := by decide +kernel
theorem d_AdjoinedSetsModel_work_114 : decode b_AdjoinedSetsModel_work 114 = .ok (.iload 4, 2) := by decide +kernel
theorem d_AdjoinedSetsModel_work_116 : decode b_AdjoinedSetsModel_work 116 = .ok (.invokevirtual 223, 3) := by decide +kernel
theorem d_AdjoinedSetsModel_work_119 : decode b_AdjoinedSetsModel_work 119 = .ok (.aload_n 0, 1) := by decide +kernel
theorem d_AdjoinedSetsModel_work_120 : decode b_AdjoinedSetsModel_work 120 = .ok (.getfield 163, 3) := by decide +kernel
theorem d_AdjoinedSetsModel_work_123 : decode b_AdjoinedSetsModel_work 123 = .ok (.iload_n 3, 1) := by decide +kernel
theorem d_AdjoinedSetsModel_work_124 : decode b_AdjoinedSetsModel_work 124 = .ok (.if_icmp .gt 7, 3) := by decide +kernel
theorem d_AdjoinedSetsModel_work_127 : decode b_AdjoinedSetsModel_work 127 = .ok (.iconst 1, 1) := by decide +kernel
theorem d_AdjoinedSetsModel_work_128 : decode b_AdjoinedSetsModel_work 128 = .ok (.goto 4, 3) := by decide +kernel
theorem d_AdjoinedSetsModel_work_131 : decode b_AdjoinedSetsModel_work 131 = .ok (.iconst 0, 1) := by decide +kernel
theorem d_AdjoinedSetsModel_work_132 : decode b_AdjoinedSetsModel_work 132 = .ok (.istore_n 2, 1) := by decide +kernel
theorem d_AdjoinedSetsModel_work_133 : decode b_AdjoinedSetsModel_work 133 = .ok (.goto (-110), 3) := by decide +kernel
theorem d_AdjoinedSetsModel_work_136 : decode b_AdjoinedSetsModel_work 136 = .ok (.aload_n 0, 1) := by decide +kernel
theorem d_AdjoinedSetsModel_work_137 : decode b_AdjoinedSetsModel_work 137 = .ok (.getfield 166, 3) := by decide +kernel
theorem d_AdjoinedSetsModel_work_140 : decode b_AdjoinedSetsModel_work 140 = .ok (.ifCond .eq 9, 3) := by decide +kernel
theorem d_AdjoinedSetsModel_work_143 : decode b_AdjoinedSetsModel_work 143 = .ok (.ldc2_w 226, 3) := by decide +kernel
theorem d_AdjoinedSetsModel_work_146 : decode b_AdjoinedSetsModel_work 146 = .ok (.goto 7, 3) := by decide +kernel
theorem d_AdjoinedSetsModel_work_149 : decode b_AdjoinedSetsModel_work 149 = .ok (.aload_n 0, 1) := by decide +kernel
theorem d_AdjoinedSetsModel_work_150 : decode b_AdjoinedSetsModel_work 150 = .ok (.getfield 193, 3) := by decide +kernel
theorem d_AdjoinedSetsModel_work_153 : decode b_AdjoinedSetsModel_work 153 = .ok (.lreturn, 1) := by decide +kernel
def s_AdjoinedSetsModel_work_132 (c23 : Nat → Int32 → HP → Option (Int64 × HP)) (x0 : Nat) (t0 : Int32) (h : HP) : Option (Int64 × HP) :=
  c23 x0 t0 h
set_option maxHeartbeats 4000000 in
set_option maxRecDepth 100000 in
theorem k_AdjoinedSetsModel_work_132 {x0 : Nat} {t0 : Int32} {h : HP} {z : Int64 × HP} (C : CX g R_AdjoinedSetsModel b_AdjoinedSetsModel_work 5 (some .long) p s m args meth c) (c23 : Nat → Int32 → HP → Option (Int64 × HP))
    (hc23 : ∀ {x0 : Nat} {x2 : Int32} {h : HP} {H : Heap} {locs : List Loc} {ls : Array Slot}, WD g h s.heap H locs → lv_has ls 5 [(0, .ref (aD g x0)), (2, .int x2)] → c23 x0 x2 h = some z → W p l e (rmS 5 109) s m args below meth c H locs 0 0 (MQ below (Qq g (some (.long z.1)) z.2) args s 0 0 (inA g)) (F0 m 23 ls [])) {H : Heap} {locs : List Loc} {ls : Array Slot} (hw : WD g h s.heap H locs) (hl : lv_has ls 5 [(0, .ref (aD g x0))]) (hs : s_AdjoinedSetsModel_work_132 c23 x0 t0 h = some z) : W p l e (rmS 5 109) s m args below meth c H locs 0 0 (MQ below (Qq g (some (.long z.1)) z.2) args s 0 0 (inA g)) (F0 m 132 ls [.int t0]) := by
  unfold s_AdjoinedSetsModel_work_132 at hs
  have hx := C.1
  have hb := C.2.1
  refine lv_istore_n hx hb d_AdjoinedSetsModel_work_132 rfl hl (by decide) (lv' := [(2, .int t0), (0, .ref (aD g x0))]) rfl (fun ls hl => ?_)
  refine lv_goto hx hb d_AdjoinedSetsModel_work_133 (tgt := 23) (by decide) ?_
  exact hc23 hw (lv_sub hl [1, 0] rfl) hs

def s_AdjoinedSetsModel_work_119 (c23 : Nat → Int32 → HP → Option (Int64 × HP)) (x0 : Nat) (x3 : Int32) (h : HP) : Option (Int64 × HP) :=
  (gI h x0 9 15).bind fun v1 =>
  if x3 < v1 then (
    s_AdjoinedSetsModel_work_132 c23 x0 0 h)
  else (
    s_AdjoinedSetsModel_work_132 c23 x0 1 h)
set_option maxHeartbeats 4000000 in
set_option maxRecDepth 100000 in
theorem k_AdjoinedSetsModel_work_119 {x0 : Nat} {x3 : Int32} {h : HP} {z : Int64 × HP} (C : CX g R_AdjoinedSetsModel b_AdjoinedSetsModel_work 5 (some .long) p s m args meth c) (c23 : Nat → Int32 → HP → Option (Int64 × HP))
    (hc23 : ∀ {x0 : Nat} {x2 : Int32} {h : HP} {H : Heap} {locs : List Loc} {ls : Array Slot}, WD g h s.heap H locs → lv_has ls 5 [(0, .ref (aD g x0)), (2, .int x2)] → c23 x0 x2 h = some z → W p l e (rmS 5 109) s m args below meth c H locs 0 0 (MQ below (Qq g (some (.long z.1)) z.2) args s 0 0 (inA g)) (F0 m 23 ls [])) {H : Heap} {locs : List Loc} {ls : Array Slot} (hw : WD g h s.heap H locs) (hl : lv_has ls 5 [(0, .ref (aD g x0)), (3, .int x3)]) (hs : s_AdjoinedSetsModel_work_119 c23 x0 x3 h = some z) : W p l e (rmS 5 109) s m args below meth c H locs 0 0 (MQ below (Qq g (some (.long z.1)) z.2) args s 0 0 (inA g)) (F0 m 119 ls []) := by
  unfold s_AdjoinedSetsModel_work_119 at hs
  have hx := C.1
  have hb := C.2.1
  refine lv_aload_n hx hb d_AdjoinedSetsModel_work_119 rfl (lv_at hl 0 rfl) ?_
  obtain ⟨v1, e2, hs⟩ := ob hs
  refine pg_getI C hw fl_AdjoinedSetsModel_163 e2 d_AdjoinedSetsModel_work_120 ?_
  refine lv_iload_n hx hb d_AdjoinedSetsModel_work_123 rfl (lv_at hl 1 rfl) ?_
  refine lv_icmp_gt hx hb d_AdjoinedSetsModel_work_124 (tgt := 131) (by decide) (fun hc => ?_) (fun hc => ?_)
  · have hs := oi_t hc hs
    refine lv_iconst (v := 0) hx hb d_AdjoinedSetsModel_work_131 (by decide) ?_
    exact k_AdjoinedSetsModel_work_132 C c23 hc23 hw (lv_sub hl [0] rfl) hs
  · have hs := oi_f hc hs
    refine lv_iconst (v := 1) hx hb d_AdjoinedSetsModel_work_127 (by decide) ?_
    refine lv_goto hx hb d_AdjoinedSetsModel_work_128 (tgt := 132) (by decide) ?_
    exact k_AdjoinedSetsModel_work_132 C c23 hc23 hw (lv_sub hl [0] rfl) hs

def s_AdjoinedSetsModel_work_112 (c23 : Nat → Int32 → HP → Option (Int64 × HP)) (x0 : Nat) (x3 : Int32) (x4 : Int32) (h : HP) : Option (Int64 × HP) :=
  (kd x0 9).bind fun _ =>
  (s_AdjoinedSetsModel_goOn x0 x3 x4 h).bind fun q2 =>
  s_AdjoinedSetsModel_work_119 c23 x0 x3 q2
set_option maxHeartbeats 4000000 in
set_option maxRecDepth 100000 in
theorem k_AdjoinedSetsModel_work_112 {x0 : Nat} {x3 : Int32} {x4 : Int32} {h : HP} {z : Int64 × HP} (C : CX g R_AdjoinedSetsModel b_AdjoinedSetsModel_work 5 (some .long) p s m args meth c) (c23 : Nat → Int32 → HP → Option (Int64 × HP))
    (hc23 : ∀ {x0 : Nat} {x2 : Int32} {h : HP} {H : Heap} {locs : List Loc} {ls : Array Slot}, WD g h s.heap H locs → lv_has ls 5 [(0, .ref (aD g x0)), (2, .int x2)] → c23 x0 x2 h = some z → W p l e (rmS 5 109) s m args below meth c H locs 0 0 (MQ below (Qq g (some (.long z.1)) z.2) args s 0 0 (inA g)) (F0 m 23 ls [])) {H : Heap} {locs : List Loc} {ls : Array Slot} (hw : WD g h s.heap H locs) (hl : lv_has ls 5 [(0, .ref (aD g x0)), (3, .int x3), (4, .int x4)]) (hs : s_AdjoinedSetsModel_work_112 c23 x0 x3 x4 h = some z) : W p l e (rmS 5 109) s m args below meth c H locs 0 0 (MQ below (Qq g (some (.long z.1)) z.2) args s 0 0 (inA g)) (F0 m 112 ls []) := by
  unfold s_AdjoinedSetsModel_work_112 at hs
  have hx := C.1
  have hb := C.2.1
  refine lv_aload_n hx hb d_AdjoinedSetsModel_work_112 rfl (lv_at hl 0 rfl) ?_
  refine lv_iload_n hx hb d_AdjoinedSetsModel_work_113 rfl (lv_at hl 1 rfl) ?_
  refine lv_iload hx hb d_AdjoinedSetsModel_work_114 (lv_at hl 2 rfl) ?_
  obtain ⟨_, e1, hs⟩ := ob hs
  obtain ⟨q2, e3, hs⟩ := ob hs
  refine pg_callV C hw hl.1 ml_AdjoinedSetsModel_223 e1 (As := [.int x3, .int x4]) (rest := []) (c_AdjoinedSetsModel_goOn l g e3) rfl (rm_ok (Nat.le_of_ble_eq_true rfl) (Nat.le_of_ble_eq_true rfl)) (Nat.le_of_ble_eq_true rfl) rfl (st1 := []) rfl d_AdjoinedSetsModel_work_116 (fun H locs hw => ?_)
  exact k_AdjoinedSetsModel_work_119 C c23 hc23 hw (lv_sub hl [0, 1] rfl) hs

def s_AdjoinedSetsModel_work_101 (c23 : Nat → Int32 → HP → Option (Int64 × HP)) (x0 : Nat) (x2 : Int32) (x3 : Int32) (x4 : Int32) (h : HP) : Option (Int64 × HP) :=
  if x2 = 0 then (
    s_AdjoinedSetsModel_work_112 c23 x0 x3 x4 h)
  else (
    (kd x0 9).bind fun _ =>
    (s_AdjoinedSetsModel_take x0 x3 x4 h).bind fun q2 =>
    s_AdjoinedSetsModel_work_112 c23 x0 x3 x4 q2)
set_option maxHeartbeats 4000000 in
set_option maxRecDepth 100000 in
theorem k_AdjoinedSetsModel_work_101 {x0 : Nat} {x2 : Int32} {x3 : Int32} {x4 : Int32} {h : HP} {z : Int64 × HP} (C : CX g R_AdjoinedSetsModel b_AdjoinedSetsModel_work 5 (some .long) p s m args meth c) (c23 : Nat → Int32 → HP → Option (Int64 × HP))
    (hc23 : ∀ {x0 : Nat} {x2 : Int32} {h : HP} {H : Heap} {locs : List Loc} {ls : Array Slot}, WD g h s.heap H locs → lv_has ls 5 [(0, .ref (aD g x0)), (2, .int x2)] → c23 x0 x2 h = some z → W p l e (rmS 5 109) s m args below meth c H locs 0 0 (MQ below (Qq g (some (.long z.1)) z.2) args s 0 0 (inA g)) (F0 m 23 ls [])) {H : Heap} {locs : List Loc} {ls : Array Slot} (hw : WD g h s.heap H locs) (hl : lv_has ls 5 [(0, .ref (aD g x0)), (2, .int x2), (3, .int x3), (4, .int x4)]) (hs : s_AdjoinedSetsModel_work_101 c23 x0 x2 x3 x4 h = some z) : W p l e (rmS 5 109) s m args below meth c H locs 0 0 (MQ below (Qq g (some (.long z.1)) z.2) args s 0 0 (inA g)) (F0 m 101 ls []) := by
  unfold s_AdjoinedSetsModel_work_101 at hs
  have hx := C.1
  have hb := C.2.1
  refine lv_iload_n hx hb d_AdjoinedSetsModel_work_101 rfl (lv_at hl 1 rfl) ?_
  refine lv_if_eq hx hb d_AdjoinedSetsModel_work_102 (tgt := 112) (by decide) (fun hc => ?_) (fun hc => ?_)
  · have hs := oi_t hc hs
    exact k_AdjoinedSetsModel_work_112 C c23 hc23 hw (lv_sub hl [0, 2, 3] rfl) hs
  · have hs := oi_f hc hs
    refine lv_aload_n hx hb d_AdjoinedSetsModel_work_105 rfl (lv_at hl 0 rfl) ?_
    refine lv_iload_n hx hb d_AdjoinedSetsModel_work_106 rfl (lv_at hl 2 rfl) ?_
    refine lv_iload hx hb d_AdjoinedSetsModel_work_107 (lv_at hl 3 rfl) ?_
    obtain ⟨_, e1, hs⟩ := ob hs
    obtain ⟨q2, e3, hs⟩ := ob hs
    refine pg_callV C hw hl.1 ml_AdjoinedSetsModel_220 e1 (As := [.int x3, .int x4]) (rest := []) (c_AdjoinedSetsModel_take l g e3) rfl (rm_ok (Nat.le_of_ble_eq_true rfl) (Nat.le_of_ble_eq_true rfl)) (Nat.le_of_ble_eq_true rfl) rfl (st1 := []) rfl d_AdjoinedSetsModel_work_109 (fun H locs hw => ?_)
    exact k_AdjoinedSetsModel_work_112 C c23 hc23 hw (lv_sub hl [0, 2, 3] rfl) hs

def s_AdjoinedSetsModel_work_136 (x0 : Nat) (h : HP) : Option (Int64 × HP) :=
  (gI h x0 9 17).bind fun v1 =>
  if v1 = 0 then (
    (gL h x0 9 25).bind fun v3 =>
    some (v3, h))
  else (
    some ((-3), h))
set_option maxHeartbeats 4000000 in
set_option maxRecDepth 100000 in
theorem k_AdjoinedSetsModel_work_136 {x0 : Nat} {h : HP} {z : Int64 × HP} (C : CX g R_AdjoinedSetsModel b_AdjoinedSetsModel_work 5 (some .long) p s m args meth c) {H : Heap} {locs : List Loc} {ls : Array Slot} (hw : WD g h s.heap H locs) (hl : lv_has ls 5 [(0, .ref (aD g x0))]) (hs : s_AdjoinedSetsModel_work_136 x0 h = some z) : W p l e (rmS 5 109) s m args below meth c H locs 0 0 (MQ below (Qq g (some (.long z.1)) z.2) args s 0 0 (inA g)) (F0 m 136 ls []) := by
  unfold s_AdjoinedSetsModel_work_136 at hs
  have hx := C.1
  have hb := C.2.1
  refine lv_aload_n hx hb d_AdjoinedSetsModel_work_136 rfl (lv_at hl 0 rfl) ?_
  obtain ⟨v1, e2, hs⟩ := ob hs
  refine pg_getI C hw fl_AdjoinedSetsModel_166 e2 d_AdjoinedSetsModel_work_137 ?_
  refine lv_if_eq hx hb d_AdjoinedSetsModel_work_140 (tgt := 149) (by decide) (fun hc => ?_) (fun hc => ?_)
  · have hs := oi_t hc hs
    refine lv_aload_n hx hb d_AdjoinedSetsModel_work_149 rfl (lv_at hl 0 rfl) ?_
    obtain ⟨v3, e4, hs⟩ := ob hs
    refine pg_getL C hw fl_AdjoinedSetsModel_193 e4 d_AdjoinedSetsModel_work_150 ?_
    obtain rfl := Option.some.inj hs
    exact pg_lret C hw d_AdjoinedSetsModel_work_153
  · have hs := oi_f hc hs
    refine lv_ldc2 (v := (-3)) hx hb C.own (C.w kc_AdjoinedSetsModel_226) d_AdjoinedSetsModel_work_143 ?_
    refine lv_goto hx hb d_AdjoinedSetsModel_work_146 (tgt := 153) (by decide) ?_
    obtain rfl := Option.some.inj hs
    exact pg_lret C hw d_AdjoinedSetsModel_work_153

def s_AdjoinedSetsModel_work_23 : Nat → Nat → Int32 → HP → Option (Int64 × HP)
  | 0 => fun _ _ _ => none
  | k + 1 => fun x0 x2 h =>
  (gI h x0 9 15).bind fun v1 =>
  if v1 ≤ 0 then (
    s_AdjoinedSetsModel_work_136 x0 h)
  else (
    (gI h x0 9 17).bind fun v3 =>
    if v3 = 0 then (
      (gI h x0 9 15).bind fun v5 =>
      (gR h x0 9 0).bind fun v7 =>
      (gR h x0 9 18).bind fun v9 =>
      (aI h v9 0 (v5 - 1)).bind fun v11 =>
      (aI h v7 0 v11).bind fun v13 =>
      if x2 = 0 then (
        s_AdjoinedSetsModel_work_101 (s_AdjoinedSetsModel_work_23 k) x0 x2 (v5 - 1) v13 h)
      else (
        (s_AdjoinedSetsModel_isFunction v13).bind fun q15 =>
        if q15 = 0 then (
          s_AdjoinedSetsModel_work_101 (s_AdjoinedSetsModel_work_23 k) x0 x2 (v5 - 1) v13 h)
        else (
          (gR h x0 9 20).bind fun v17 =>
          (aI h v17 0 (v5 - 1)).bind fun v19 =>
          (gR h x0 9 3).bind fun v21 =>
          (aI h v21 0 (v13 - 65)).bind fun v23 =>
          if v19 = v23 then (
            (gI h x0 9 15).bind fun v25 =>
            (pI h x0 9 15 (v25 - 1)).bind fun h27 =>
            s_AdjoinedSetsModel_work_119 (s_AdjoinedSetsModel_work_23 k) x0 (v5 - 1) h27)
          else (
            s_AdjoinedSetsModel_work_101 (s_AdjoinedSetsModel_work_23 k) x0 x2 (v5 - 1) v13 h))))
    else (
      s_AdjoinedSetsModel_work_136 x0 h))
set_option maxHeartbeats 4000000 in
set_option maxRecDepth 100000 in
theorem k_AdjoinedSetsModel_work_23 {z : Int64 × HP} (C : CX g R_AdjoinedSetsModel b_AdjoinedSetsModel_work 5 (some .long) p s m args meth c) : ∀ (k : Nat) {x0 : Nat} {x2 : Int32} {h : HP} {H : Heap} {locs : List Loc} {ls : Array Slot}, WD g h s.heap H locs → lv_has ls 5 [(0, .ref (aD g x0)), (2, .int x2)] → s_AdjoinedSetsModel_work_23 k x0 x2 h = some z → W p l e (rmS 5 109) s m args below meth c H locs 0 0 (MQ below (Qq g (some (.long z.1)) z.2) args s 0 0 (inA g)) (F0 m 23 ls []) := by
  have hx := C.1
  have hb := C.2.1
  intro k
  induction k with
  | zero =>
    intro x0 x2 h H locs ls hw hl hs
    exact (no_s hs).elim
  | succ k ih =>
    intro x0 x2 h H locs ls hw hl hs
    rw [s_AdjoinedSetsModel_work_23] at hs
    refine lv_aload_n hx hb d_AdjoinedSetsModel_work_23 rfl (lv_at hl 0 rfl) ?_
    obtain ⟨v1, e2, hs⟩ := ob hs
    refine pg_getI C hw fl_AdjoinedSetsModel_163 e2 d_AdjoinedSetsModel_work_24 ?_
    refine lv_if_le hx hb d_AdjoinedSetsModel_work_27 (tgt := 136) (by decide) (fun hc => ?_) (fun hc => ?_)
    · have hs := oi_t hc hs
      exact k_AdjoinedSetsModel_work_136 C hw (lv_sub hl [0] rfl) hs
    · have hs := oi_f hc hs
      refine lv_aload_n hx hb d_AdjoinedSetsModel_work_30 rfl (lv_at hl 0 rfl) ?_
      obtain ⟨v3, e4, hs⟩ := ob hs
      refine pg_getI C hw fl_AdjoinedSetsModel_166 e4 d_AdjoinedSetsModel_work_31 ?_
      refine lv_if_ne hx hb d_AdjoinedSetsModel_work_34 (tgt := 136) (by decide) (fun hc => ?_) (fun hc => ?_)
      · have hs := oi_f hc hs
        exact k_AdjoinedSetsModel_work_136 C hw (lv_sub hl [0] rfl) hs
      · have hs := oi_t hc hs
        refine lv_aload_n hx hb d_AdjoinedSetsModel_work_37 rfl (lv_at hl 0 rfl) ?_
        obtain ⟨v5, e6, hs⟩ := ob hs
        refine pg_getI C hw fl_AdjoinedSetsModel_163 e6 d_AdjoinedSetsModel_work_38 ?_
        refine lv_iconst (v := 1) hx hb d_AdjoinedSetsModel_work_41 (by decide) ?_
        refine lv_isub hx hb d_AdjoinedSetsModel_work_42 ?_
        refine lv_istore_n hx hb d_AdjoinedSetsModel_work_43 rfl hl (by decide) (lv' := [(3, .int (v5 - 1)), (0, .ref (aD g x0)), (2, .int x2)]) rfl (fun ls hl => ?_)
        refine lv_aload_n hx hb d_AdjoinedSetsModel_work_44 rfl (lv_at hl 1 rfl) ?_
        obtain ⟨v7, e8, hs⟩ := ob hs
        refine pg_getR C hw fl_AdjoinedSetsModel_7 e8 d_AdjoinedSetsModel_work_45 ?_
        refine lv_aload_n hx hb d_AdjoinedSetsModel_work_48 rfl (lv_at hl 1 rfl) ?_
        obtain ⟨v9, e10, hs⟩ := ob hs
        refine pg_getR C hw fl_AdjoinedSetsModel_45 e10 d_AdjoinedSetsModel_work_49 ?_
        refine lv_iload_n hx hb d_AdjoinedSetsModel_work_52 rfl (lv_at hl 0 rfl) ?_
        obtain ⟨v11, e12, hs⟩ := ob hs
        refine pg_iaload C hw (t0 := 0) rfl e12 d_AdjoinedSetsModel_work_53 ?_
        obtain ⟨v13, e14, hs⟩ := ob hs
        refine pg_iaload C hw (t0 := 0) rfl e14 d_AdjoinedSetsModel_work_54 ?_
        refine lv_istore hx hb d_AdjoinedSetsModel_work_55 hl (by decide) (lv' := [(4, .int v13), (3, .int (v5 - 1)), (0, .ref (aD g x0)), (2, .int x2)]) rfl (fun ls hl => ?_)
        refine lv_iload_n hx hb d_AdjoinedSetsModel_work_57 rfl (lv_at hl 3 rfl) ?_
        refine lv_if_eq hx hb d_AdjoinedSetsModel_work_58 (tgt := 101) (by decide) (fun hc => ?_) (fun hc => ?_)
        · have hs := oi_t hc hs
          exact k_AdjoinedSetsModel_work_101 C (s_AdjoinedSetsModel_work_23 k) ih hw (lv_sub hl [2, 3, 1, 0] rfl) hs
        · have hs := oi_f hc hs
          refine lv_iload hx hb d_AdjoinedSetsModel_work_61 (lv_at hl 0 rfl) ?_
          obtain ⟨q15, e16, hs⟩ := ob hs
          refine pg_callS C hw hl.1 ml_AdjoinedSetsModel_103 (As := [.int v13]) (rest := []) (c_AdjoinedSetsModel_isFunction l g e16) rfl (rm_ok (Nat.le_of_ble_eq_true rfl) (Nat.le_of_ble_eq_true rfl)) (Nat.le_of_ble_eq_true rfl) rfl (st1 := [.int q15]) rfl d_AdjoinedSetsModel_work_63 (fun H locs hw => ?_)
          refine lv_if_eq hx hb d_AdjoinedSetsModel_work_66 (tgt := 101) (by decide) (fun hc => ?_) (fun hc => ?_)
          · have hs := oi_t hc hs
            exact k_AdjoinedSetsModel_work_101 C (s_AdjoinedSetsModel_work_23 k) ih hw (lv_sub hl [2, 3, 1, 0] rfl) hs
          · have hs := oi_f hc hs
            refine lv_aload_n hx hb d_AdjoinedSetsModel_work_69 rfl (lv_at hl 2 rfl) ?_
            obtain ⟨v17, e18, hs⟩ := ob hs
            refine pg_getR C hw fl_AdjoinedSetsModel_51 e18 d_AdjoinedSetsModel_work_70 ?_
            refine lv_iload_n hx hb d_AdjoinedSetsModel_work_73 rfl (lv_at hl 1 rfl) ?_
            obtain ⟨v19, e20, hs⟩ := ob hs
            refine pg_iaload C hw (t0 := 0) rfl e20 d_AdjoinedSetsModel_work_74 ?_
            refine lv_aload_n hx hb d_AdjoinedSetsModel_work_75 rfl (lv_at hl 2 rfl) ?_
            obtain ⟨v21, e22, hs⟩ := ob hs
            refine pg_getR C hw fl_AdjoinedSetsModel_17 e22 d_AdjoinedSetsModel_work_76 ?_
            refine lv_iload hx hb d_AdjoinedSetsModel_work_79 (lv_at hl 0 rfl) ?_
            refine lv_bipush (v := 65) hx hb d_AdjoinedSetsModel_work_81 (by decide) ?_
            refine lv_isub hx hb d_AdjoinedSetsModel_work_83 ?_
            obtain ⟨v23, e24, hs⟩ := ob hs
            refine pg_iaload C hw (t0 := 0) rfl e24 d_AdjoinedSetsModel_work_84 ?_
            refine lv_icmp_ne hx hb d_AdjoinedSetsModel_work_85 (tgt := 101) (by decide) (fun hc => ?_) (fun hc => ?_)
            · have hs := oi_f hc hs
              exact k_AdjoinedSetsModel_work_101 C (s_AdjoinedSetsModel_work_23 k) ih hw (lv_sub hl [2, 3, 1, 0] rfl) hs
            · have hs := oi_t hc hs
              refine lv_aload_n hx hb d_AdjoinedSetsModel_work_88 rfl (lv_at hl 2 rfl) ?_
              refine lv_dup hx hb d_AdjoinedSetsModel_work_89 rfl ?_
              obtain ⟨v25, e26, hs⟩ := ob hs
              refine pg_getI C hw fl_AdjoinedSetsModel_163 e26 d_AdjoinedSetsModel_work_90 ?_
              refine lv_iconst (v := 1) hx hb d_AdjoinedSetsModel_work_93 (by decide) ?_
              refine lv_isub hx hb d_AdjoinedSetsModel_work_94 ?_
              obtain ⟨h27, e28, hs⟩ := ob hs
              refine pg_putI C hw pl_AdjoinedSetsModel_163 e28 d_AdjoinedSetsModel_work_95 (fun H locs hw => ?_)
              refine lv_goto hx hb d_AdjoinedSetsModel_work_98 (tgt := 119) (by decide) ?_
              exact k_AdjoinedSetsModel_work_119 C (s_AdjoinedSetsModel_work_23 k) ih hw (lv_sub hl [2, 1] rfl) hs

def s_AdjoinedSetsModel_work (x0 : Nat) (x1 : Int32) (h : HP) : Option (Int64 × HP) :=
  (pI h x0 9 15 0).bind fun h1 =>
  (pI h1 x0 9 16 0).bind fun h3 =>
  (pI h3 x0 9 17 0).bind fun h5 =>
  (kd x0 9).bind fun _ =>
  (s_AdjoinedSetsModel_push x0 x1 (-1) h5).bind fun q8 =>
  s_AdjoinedSetsModel_work_23 20000 x0 0 q8
set_option maxHeartbeats 4000000 in
set_option maxRecDepth 100000 in
theorem c_AdjoinedSetsModel_work (l : Launch) (g : GG) {x0 : Nat} {x1 : Int32} {h : HP} {z : Int64 × HP} (hs : s_AdjoinedSetsModel_work x0 x1 h = some z) : Ct l g y_AdjoinedSetsModel_work w_AdjoinedSetsModel_work (rmS 5 109) [.ref (aD g x0), .int x1] h (some (.long z.1)) z.2 := by
  refine Ct.of (own := R_AdjoinedSetsModel) (by decide) rfl rfl (Nat.le_of_ble_eq_true rfl) ?_
  intro p e s m args below meth c ls C hl hw
  have hx := C.1
  have hb := C.2.1
  have hl : lv_has ls 5 [(0, .ref (aD g x0)), (1, .int x1)] := hl
  unfold s_AdjoinedSetsModel_work at hs
  refine lv_aload_n hx hb d_AdjoinedSetsModel_work_0 rfl (lv_at hl 0 rfl) ?_
  refine lv_iconst (v := 0) hx hb d_AdjoinedSetsModel_work_1 (by decide) ?_
  obtain ⟨h1, e2, hs⟩ := ob hs
  refine pg_putI C hw pl_AdjoinedSetsModel_163 e2 d_AdjoinedSetsModel_work_2 (fun H locs hw => ?_)
  refine lv_aload_n hx hb d_AdjoinedSetsModel_work_5 rfl (lv_at hl 0 rfl) ?_
  refine lv_iconst (v := 0) hx hb d_AdjoinedSetsModel_work_6 (by decide) ?_
  obtain ⟨h3, e4, hs⟩ := ob hs
  refine pg_putI C hw pl_AdjoinedSetsModel_160 e4 d_AdjoinedSetsModel_work_7 (fun H locs hw => ?_)
  refine lv_aload_n hx hb d_AdjoinedSetsModel_work_10 rfl (lv_at hl 0 rfl) ?_
  refine lv_iconst (v := 0) hx hb d_AdjoinedSetsModel_work_11 (by decide) ?_
  obtain ⟨h5, e6, hs⟩ := ob hs
  refine pg_putZ C hw pl_AdjoinedSetsModel_166 (Or.inl rfl) e6 d_AdjoinedSetsModel_work_12 (fun H locs hw => ?_)
  refine lv_aload_n hx hb d_AdjoinedSetsModel_work_15 rfl (lv_at hl 0 rfl) ?_
  refine lv_iload_n hx hb d_AdjoinedSetsModel_work_16 rfl (lv_at hl 1 rfl) ?_
  refine lv_iconst (v := (-1)) hx hb d_AdjoinedSetsModel_work_17 (by decide) ?_
  obtain ⟨_, e7, hs⟩ := ob hs
  obtain ⟨q8, e9, hs⟩ := ob hs
  refine pg_callV C hw hl.1 ml_AdjoinedSetsModel_212 e7 (As := [.int x1, .int (-1)]) (rest := []) (c_AdjoinedSetsModel_push l g e9) rfl (rm_ok (Nat.le_of_ble_eq_true rfl) (Nat.le_of_ble_eq_true rfl)) (Nat.le_of_ble_eq_true rfl) rfl (st1 := []) rfl d_AdjoinedSetsModel_work_18 (fun H locs hw => ?_)
  refine lv_iconst (v := 0) hx hb d_AdjoinedSetsModel_work_21 (by decide) ?_
  refine lv_istore_n hx hb d_AdjoinedSetsModel_work_22 rfl hl (by decide) (lv' := [(2, .int 0), (0, .ref (aD g x0)), (1, .int x1)]) rfl (fun ls hl => ?_)
  exact k_AdjoinedSetsModel_work_23 C 20000 hw (lv_sub hl [1, 0] rfl) hs

end
section
variable {p : Program} {l : Launch} {e : Env} {s : State} {m : MethodId} {args : Array Value} {below : List Frame} {meth : Method} {c : Code} {g : GG}
theorem d_AdjoinedSetsModel_refuted_0 : decode b_AdjoinedSetsModel_refuted 0 = .ok (.iload_n 2, 1) := by decide +kernel
theorem d_AdjoinedSetsModel_refuted_1 : decode b_AdjoinedSetsModel_refuted 1 = .ok (.bipush 8, 2) := by decide +kernel
theorem d_AdjoinedSetsModel_refuted_3 : decode b_AdjoinedSetsModel_refuted 3 = .ok (.if_icmp .ge 7, 3) := by decide +kernel
theorem d_AdjoinedSetsModel_refuted_6 : decode b_AdjoinedSetsModel_refuted 6 = .ok (.iload_n 1, 1) := by decide +kernel
theorem d_AdjoinedSetsModel_refuted_7 : decode b_AdjoinedSetsModel_refuted 7 = .ok (.goto 4, 3) := by decide +kernel
theorem d_AdjoinedSetsModel_refuted_10 : decode b_AdjoinedSetsModel_refuted 10 = .ok (.iconst 1, 1) := by decide +kernel
theorem d_AdjoinedSetsModel_refuted_11 : decode b_AdjoinedSetsModel_refuted 11 = .ok (.istore 4, 2) := by decide +kernel
theorem d_AdjoinedSetsModel_refuted_13 : decode b_AdjoinedSetsModel_refuted 13 = .ok (.iload_n 3, 1) := by decide +kernel
theorem d_AdjoinedSetsModel_refuted_14 : decode b_AdjoinedSetsModel_refuted 14 = .ok (.bipush 8, 2) := by decide +kernel
theorem d_AdjoinedSetsModel_refuted_16 : decode b_AdjoinedSetsModel_refuted 16 = .ok (.if_icmp .ge 7, 3) := by decide +kernel
theorem d_AdjoinedSetsModel_refuted_19 : decode b_AdjoinedSetsModel_refuted 19 = .ok (.iload_n 1, 1) := by decide +kernel
theorem d_AdjoinedSetsModel_refuted_20 : decode b_AdjoinedSetsModel_refuted 20 = .ok (.goto 4, 3) := by decide +kernel
theorem d_AdjoinedSetsModel_refuted_23 : decode b_AdjoinedSetsModel_refuted 23 = .ok (.iconst 1, 1) := by decide +kernel
theorem d_AdjoinedSetsModel_refuted_24 : decode b_AdjoinedSetsModel_refuted 24 = .ok (.istore 5, 2) := by decide +kernel
theorem d_AdjoinedSetsModel_refuted_26 : decode b_AdjoinedSetsModel_refuted 26 = .ok (.iconst 0, 1) := by decide +kernel
theorem d_AdjoinedSetsModel_refuted_27 : decode b_AdjoinedSetsModel_refuted 27 = .ok (.istore 6, 2) := by decide +kernel
theorem d_AdjoinedSetsModel_refuted_29 : decode b_AdjoinedSetsModel_refuted 29 = .ok (.iload 6, 2) := by decide +kernel
theorem d_AdjoinedSetsModel_refuted_31 : decode b_AdjoinedSetsModel_refuted 31 = .ok (.iload 4, 2) := by decide +kernel
theorem d_AdjoinedSetsModel_refuted_33 : decode b_AdjoinedSetsModel_refuted 33 = .ok (.if_icmp .ge 74, 3) := by decide +kernel
theorem d_AdjoinedSetsModel_refuted_36 : decode b_AdjoinedSetsModel_refuted 36 = .ok (.iconst 0, 1) := by decide +kernel
theorem d_AdjoinedSetsModel_refuted_37 : decode b_AdjoinedSetsModel_refuted 37 = .ok (.istore 7, 2) := by decide +kernel
theorem d_AdjoinedSetsModel_refuted_39 : decode b_AdjoinedSetsModel_refuted 39 = .ok (.iload 7, 2) := by decide +kernel
theorem d_AdjoinedSetsModel_refuted_41 : decode b_AdjoinedSetsModel_refuted 41 = .ok (.iload 5, 2) := by decide +kernel
theorem d_AdjoinedSetsModel_refuted_43 : decode b_AdjoinedSetsModel_refuted 43 = .ok (.if_icmp .ge 58, 3) := by decide +kernel
theorem d_AdjoinedSetsModel_refuted_46 : decode b_AdjoinedSetsModel_refuted 46 = .ok (.iload_n 2, 1) := by decide +kernel
theorem d_AdjoinedSetsModel_refuted_47 : decode b_AdjoinedSetsModel_refuted 47 = .ok (.bipush 8, 2) := by decide +kernel
theorem d_AdjoinedSetsModel_refuted_49 : decode b_AdjoinedSetsModel_refuted 49 = .ok (.if_icmp .ge 12, 3) := by decide +kernel
theorem d_AdjoinedSetsModel_refuted_52 : decode b_AdjoinedSetsModel_refuted 52 = .ok (.aload_n 0, 1) := by decide +kernel
theorem d_AdjoinedSetsModel_refuted_53 : decode b_AdjoinedSetsModel_refuted 53 = .ok (.getfield 13, 3) := by decide +kernel
theorem d_AdjoinedSetsModel_refuted_56 : decode b_AdjoinedSetsModel_refuted 56 = .ok (.iload_n 2, 1) := by decide +kernel
theorem d_AdjoinedSetsModel_refuted_57 : decode b_AdjoinedSetsModel_refuted 57 = .ok (.iload 6, 2) := by decide +kernel
theorem d_AdjoinedSetsModel_refuted_59 : decode b_AdjoinedSetsModel_refuted 59 = .ok (.i2l, 1) := by decide +kernel
theorem d_AdjoinedSetsModel_refuted_60 : decode b_AdjoinedSetsModel_refuted 60 = .ok (.lastore, 1) := by decide +kernel
theorem d_AdjoinedSetsModel_refuted_61 : decode b_AdjoinedSetsModel_refuted 61 = .ok (.iload_n 3, 1) := by decide +kernel
theorem d_AdjoinedSetsModel_refuted_62 : decode b_AdjoinedSetsModel_refuted 62 = .ok (.bipush 8, 2) := by decide +kernel
theorem d_AdjoinedSetsModel_refuted_64 : decode b_AdjoinedSetsModel_refuted 64 = .ok (.if_icmp .ge 12, 3) := by decide +kernel
theorem d_AdjoinedSetsModel_refuted_67 : decode b_AdjoinedSetsModel_refuted 67 = .ok (.aload_n 0, 1) := by decide +kernel
theorem d_AdjoinedSetsModel_refuted_68 : decode b_AdjoinedSetsModel_refuted 68 = .ok (.getfield 13, 3) := by decide +kernel
theorem d_AdjoinedSetsModel_refuted_71 : decode b_AdjoinedSetsModel_refuted 71 = .ok (.iload_n 3, 1) := by decide +kernel
theorem d_AdjoinedSetsModel_refuted_72 : decode b_AdjoinedSetsModel_refuted 72 = .ok (.iload 7, 2) := by decide +kernel
theorem d_AdjoinedSetsModel_refuted_74 : decode b_AdjoinedSetsModel_refuted 74 = .ok (.i2l, 1) := by decide +kernel
theorem d_AdjoinedSetsModel_refuted_75 : decode b_AdjoinedSetsModel_refuted 75 = .ok (.lastore, 1) := by decide +kernel
theorem d_AdjoinedSetsModel_refuted_76 : decode b_AdjoinedSetsModel_refuted 76 = .ok (.aload_n 0, 1) := by decide +kernel
theorem d_AdjoinedSetsModel_refuted_77 : decode b_AdjoinedSetsModel_refuted 77 = .ok (.iconst 0, 1) := by decide +kernel
theorem d_AdjoinedSetsModel_refuted_78 : decode b_AdjoinedSetsModel_refuted 78 = .ok (.invokevirtual 230, 3) := by decide +kernel
theorem d_AdjoinedSetsModel_refuted_81 : decode b_AdjoinedSetsModel_refuted 81 = .ok (.lconst 0, 1) := by decide +kernel
theorem d_AdjoinedSetsModel_refuted_82 : decode b_AdjoinedSetsModel_refuted 82 = .ok (.lcmp, 1) := by decide +kernel
theorem d_AdjoinedSetsModel_refuted_83 : decode b_AdjoinedSetsModel_refuted 83 = .ok (.ifCond .ne 12, 3) := by decide +kernel
theorem d_AdjoinedSetsModel_refuted_86 : decode b_AdjoinedSetsModel_refuted 86 = .ok (.bipush 64, 2) := by decide +kernel
theorem d_AdjoinedSetsModel_refuted_88 : decode b_AdjoinedSetsModel_refuted 88 = .ok (.iload 6, 2) := by decide +kernel
theorem d_AdjoinedSetsModel_refuted_90 : decode b_AdjoinedSetsModel_refuted 90 = .ok (.imul, 1) := by decide +kernel
theorem d_AdjoinedSetsModel_refuted_91 : decode b_AdjoinedSetsModel_refuted 91 = .ok (.iload 7, 2) := by decide +kernel
theorem d_AdjoinedSetsModel_refuted_93 : decode b_AdjoinedSetsModel_refuted 93 = .ok (.iadd, 1) := by decide +kernel
theorem d_AdjoinedSetsModel_refuted_94 : decode b_AdjoinedSetsModel_refuted 94 = .ok (.ireturn, 1) := by decide +kernel
theorem d_AdjoinedSetsModel_refuted_95 : decode b_AdjoinedSetsModel_refuted 95 = .ok (.iinc 7 1, 3) := by decide +kernel
theorem d_AdjoinedSetsModel_refuted_98 : decode b_AdjoinedSetsModel_refuted 98 = .ok (.goto (-59), 3) := by decide +kernel
theorem d_AdjoinedSetsModel_refuted_101 : decode b_AdjoinedSetsModel_refuted 101 = .ok (.iinc 6 1, 3) := by decide +kernel
theorem d_AdjoinedSetsModel_refuted_104 : decode b_AdjoinedSetsModel_refuted 104 = .ok (.goto (-75), 3) := by decide +kernel
theorem d_AdjoinedSetsModel_refuted_107 : decode b_AdjoinedSetsModel_refuted 107 = .ok (.bipush (-4), 2) := by decide +kernel
theorem d_AdjoinedSetsModel_refuted_109 : decode b_AdjoinedSetsModel_refuted 109 = .ok (.ireturn, 1) := by decide +kernel
def s_AdjoinedSetsModel_refuted_76 (c29 : Nat → Int32 → Int32 → Int32 → Int32 → Int32 → HP → Option (Int32 × HP)) (c39 : Nat → Int32 → Int32 → Int32 → Int32 → Int32 → Int32 → HP → Option (Int32 × HP)) (x0 : Nat) (x2 : Int32) (x3 : Int32) (x4 : Int32) (x5 : Int32) (x6 : Int32) (x7 : Int32) (h : HP) : Option (Int32 × HP) :=
  (kd x0 9).bind fun _ =>
  (s_AdjoinedSetsModel_work x0 0 h).bind fun q2 =>
  if (lg_cmp q2.1 0) = 0 then (
    some (((64 * x6) + x7), q2.2))
  else (
    c39 x0 x2 x3 x4 x5 x6 (x7 + 1) q2.2)
set_option maxHeartbeats 4000000 in
set_option maxRecDepth 100000 in
theorem k_AdjoinedSetsModel_refuted_76 {x0 : Nat} {x2 : Int32} {x3 : Int32} {x4 : Int32} {x5 : Int32} {x6 : Int32} {x7 : Int32} {h : HP} {z : Int32 × HP} (C : CX g R_AdjoinedSetsModel b_AdjoinedSetsModel_refuted 8 (some .int) p s m args meth c) (c29 : Nat → Int32 → Int32 → Int32 → Int32 → Int32 → HP → Option (Int32 × HP)) (c39 : Nat → Int32 → Int32 → Int32 → Int32 → Int32 → Int32 → HP → Option (Int32 × HP))
    (hc29 : ∀ {x0 : Nat} {x2 : Int32} {x3 : Int32} {x4 : Int32} {x5 : Int32} {x6 : Int32} {h : HP} {H : Heap} {locs : List Loc} {ls : Array Slot}, WD g h s.heap H locs → lv_has ls 8 [(0, .ref (aD g x0)), (2, .int x2), (3, .int x3), (4, .int x4), (5, .int x5), (6, .int x6)] → c29 x0 x2 x3 x4 x5 x6 h = some z → W p l e (rmS 6 133) s m args below meth c H locs 0 0 (MQ below (Qq g (some (.int z.1)) z.2) args s 0 0 (inA g)) (F0 m 29 ls []))
    (hc39 : ∀ {x0 : Nat} {x2 : Int32} {x3 : Int32} {x4 : Int32} {x5 : Int32} {x6 : Int32} {x7 : Int32} {h : HP} {H : Heap} {locs : List Loc} {ls : Array Slot}, WD g h s.heap H locs → lv_has ls 8 [(0, .ref (aD g x0)), (2, .int x2), (3, .int x3), (4, .int x4), (5, .int x5), (6, .int x6), (7, .int x7)] → c39 x0 x2 x3 x4 x5 x6 x7 h = some z → W p l e (rmS 6 133) s m args below meth c H locs 0 0 (MQ below (Qq g (some (.int z.1)) z.2) args s 0 0 (inA g)) (F0 m 39 ls [])) {H : Heap} {locs : List Loc} {ls : Array Slot} (hw : WD g h s.heap H locs) (hl : lv_has ls 8 [(0, .ref (aD g x0)), (2, .int x2), (3, .int x3), (4, .int x4), (5, .int x5), (6, .int x6), (7, .int x7)]) (hs : s_AdjoinedSetsModel_refuted_76 c29 c39 x0 x2 x3 x4 x5 x6 x7 h = some z) : W p l e (rmS 6 133) s m args below meth c H locs 0 0 (MQ below (Qq g (some (.int z.1)) z.2) args s 0 0 (inA g)) (F0 m 76 ls []) := by
  unfold s_AdjoinedSetsModel_refuted_76 at hs
  have hx := C.1
  have hb := C.2.1
  refine lv_aload_n hx hb d_AdjoinedSetsModel_refuted_76 rfl (lv_at hl 0 rfl) ?_
  refine lv_iconst (v := 0) hx hb d_AdjoinedSetsModel_refuted_77 (by decide) ?_
  obtain ⟨_, e1, hs⟩ := ob hs
  obtain ⟨q2, e3, hs⟩ := ob hs
  refine pg_callV C hw hl.1 ml_AdjoinedSetsModel_230 e1 (As := [.int 0]) (rest := []) (c_AdjoinedSetsModel_work l g e3) rfl (rm_ok (Nat.le_of_ble_eq_true rfl) (Nat.le_of_ble_eq_true rfl)) (Nat.le_of_ble_eq_true rfl) rfl (st1 := [.long q2.1]) rfl d_AdjoinedSetsModel_refuted_78 (fun H locs hw => ?_)
  refine lv_lconst (v := 0) hx hb d_AdjoinedSetsModel_refuted_81 (by decide) ?_
  refine W.lcmp hx hb d_AdjoinedSetsModel_refuted_82 ?_
  refine lv_if_ne hx hb d_AdjoinedSetsModel_refuted_83 (tgt := 95) (by decide) (fun hc => ?_) (fun hc => ?_)
  · have hs := oi_f hc hs
    refine lv_iinc hx hb d_AdjoinedSetsModel_refuted_95 hl (k := 6) rfl (v := (x7 + 1)) (iinc_e _ (by decide)) (by decide) (lv' := [(7, .int (x7 + 1)), (0, .ref (aD g x0)), (2, .int x2), (3, .int x3), (4, .int x4), (5, .int x5), (6, .int x6)]) rfl (fun ls hl => ?_)
    refine lv_goto hx hb d_AdjoinedSetsModel_refuted_98 (tgt := 39) (by decide) ?_
    exact hc39 hw (lv_sub hl [1, 2, 3, 4, 5, 6, 0] rfl) hs
  · have hs := oi_t hc hs
    refine lv_bipush (v := 64) hx hb d_AdjoinedSetsModel_refuted_86 (by decide) ?_
    refine lv_iload hx hb d_AdjoinedSetsModel_refuted_88 (lv_at hl 5 rfl) ?_
    refine lv_imul hx hb d_AdjoinedSetsModel_refuted_90 ?_
    refine lv_iload hx hb d_AdjoinedSetsModel_refuted_91 (lv_at hl 6 rfl) ?_
    refine lv_iadd hx hb d_AdjoinedSetsModel_refuted_93 ?_
    obtain rfl := Option.some.inj hs
    exact pg_iret C hw d_AdjoinedSetsModel_refuted_94

def s_AdjoinedSetsModel_refuted_61 (c29 : Nat → Int32 → Int32 → Int32 → Int32 → Int32 → HP → Option (Int32 × HP)) (c39 : Nat → Int32 → Int32 → Int32 → Int32 → Int32 → Int32 → HP → Option (Int32 × HP)) (x0 : Nat) (x2 : Int32) (x3 : Int32) (x4 : Int32) (x5 : Int32) (x6 : Int32) (x7 : Int32) (h : HP) : Option (Int32 × HP) :=
  if 8 ≤ x3 then (
    s_AdjoinedSetsModel_refuted_76 c29 c39 x0 x2 x3 x4 x5 x6 x7 h)
  else (
    (gR h x0 9 2).bind fun v1 =>
    (uL h v1 2 x3 x7.toInt64).bind fun h3 =>
    s_AdjoinedSetsModel_refuted_76 c29 c39 x0 x2 x3 x4 x5 x6 x7 h3)
set_option maxHeartbeats 4000000 in
set_option maxRecDepth 100000 in
theorem k_AdjoinedSetsModel_refuted_61 {x0 : Nat} {x2 : Int32} {x3 : Int32} {x4 : Int32} {x5 : Int32} {x6 : Int32} {x7 : Int32} {h : HP} {z : Int32 × HP} (C : CX g R_AdjoinedSetsModel b_AdjoinedSetsModel_refuted 8 (some .int) p s m args meth c) (c29 : Nat → Int32 → Int32 → Int32 → Int32 → Int32 → HP → Option (Int32 × HP)) (c39 : Nat → Int32 → Int32 → Int32 → Int32 → Int32 → Int32 → HP → Option (Int32 × HP))
    (hc29 : ∀ {x0 : Nat} {x2 : Int32} {x3 : Int32} {x4 : Int32} {x5 : Int32} {x6 : Int32} {h : HP} {H : Heap} {locs : List Loc} {ls : Array Slot}, WD g h s.heap H locs → lv_has ls 8 [(0, .ref (aD g x0)), (2, .int x2), (3, .int x3), (4, .int x4), (5, .int x5), (6, .int x6)] → c29 x0 x2 x3 x4 x5 x6 h = some z → W p l e (rmS 6 133) s m args below meth c H locs 0 0 (MQ below (Qq g (some (.int z.1)) z.2) args s 0 0 (inA g)) (F0 m 29 ls []))
    (hc39 : ∀ {x0 : Nat} {x2 : Int32} {x3 : Int32} {x4 : Int32} {x5 : Int32} {x6 : Int32} {x7 : Int32} {h : HP} {H : Heap} {locs : List Loc} {ls : Array Slot}, WD g h s.heap H locs → lv_has ls 8 [(0, .ref (aD g x0)), (2, .int x2), (3, .int x3), (4, .int x4), (5, .int x5), (6, .int x6), (7, .int x7)] → c39 x0 x2 x3 x4 x5 x6 x7 h = some z → W p l e (rmS 6 133) s m args below meth c H locs 0 0 (MQ below (Qq g (some (.int z.1)) z.2) args s 0 0 (inA g)) (F0 m 39 ls [])) {H : Heap} {locs : List Loc} {ls : Array Slot} (hw : WD g h s.heap H locs) (hl : lv_has ls 8 [(0, .ref (aD g x0)), (2, .int x2), (3, .int x3), (4, .int x4), (5, .int x5), (6, .int x6), (7, .int x7)]) (hs : s_AdjoinedSetsModel_refuted_61 c29 c39 x0 x2 x3 x4 x5 x6 x7 h = some z) : W p l e (rmS 6 133) s m args below meth c H locs 0 0 (MQ below (Qq g (some (.int z.1)) z.2) args s 0 0 (inA g)) (F0 m 61 ls []) := by
  unfold s_AdjoinedSetsModel_refuted_61 at hs
  have hx := C.1
  have hb := C.2.1
  refine lv_iload_n hx hb d_AdjoinedSetsModel_refuted_61 rfl (lv_at hl 2 rfl) ?_
  refine lv_bipush (v := 8) hx hb d_AdjoinedSetsModel_refuted_62 (by decide) ?_
  refine lv_icmp_ge hx hb d_AdjoinedSetsModel_refuted_64 (tgt := 76) (by decide) (fun hc => ?_) (fun hc => ?_)
  · have hs := oi_t hc hs
    exact k_AdjoinedSetsModel_refuted_76 C c29 c39 hc29 hc39 hw (lv_sub hl [0, 1, 2, 3, 4, 5, 6] rfl) hs
  · have hs := oi_f hc hs
    refine lv_aload_n hx hb d_AdjoinedSetsModel_refuted_67 rfl (lv_at hl 0 rfl) ?_
    obtain ⟨v1, e2, hs⟩ := ob hs
    refine pg_getR C hw fl_AdjoinedSetsModel_13 e2 d_AdjoinedSetsModel_refuted_68 ?_
    refine lv_iload_n hx hb d_AdjoinedSetsModel_refuted_71 rfl (lv_at hl 2 rfl) ?_
    refine lv_iload hx hb d_AdjoinedSetsModel_refuted_72 (lv_at hl 6 rfl) ?_
    refine lv_i2l (v := x7.toInt64) hx hb d_AdjoinedSetsModel_refuted_74 rfl ?_
    obtain ⟨h3, e4, hs⟩ := ob hs
    refine pg_lastore C hw (t0 := 2) rfl e4 d_AdjoinedSetsModel_refuted_75 (fun H locs hw => ?_)
    exact k_AdjoinedSetsModel_refuted_76 C c29 c39 hc29 hc39 hw (lv_sub hl [0, 1, 2, 3, 4, 5, 6] rfl) hs

def s_AdjoinedSetsModel_refuted_39 (c29 : Nat → Int32 → Int32 → Int32 → Int32 → Int32 → HP → Option (Int32 × HP)) : Nat → Nat → Int32 → Int32 → Int32 → Int32 → Int32 → Int32 → HP → Option (Int32 × HP)
  | 0 => fun _ _ _ _ _ _ _ _ => none
  | k + 1 => fun x0 x2 x3 x4 x5 x6 x7 h =>
  if x5 ≤ x7 then (
    c29 x0 x2 x3 x4 x5 (x6 + 1) h)
  else (
    if 8 ≤ x2 then (
      s_AdjoinedSetsModel_refuted_61 c29 (s_AdjoinedSetsModel_refuted_39 c29 k) x0 x2 x3 x4 x5 x6 x7 h)
    else (
      (gR h x0 9 2).bind fun v1 =>
      (uL h v1 2 x2 x6.toInt64).bind fun h3 =>
      s_AdjoinedSetsModel_refuted_61 c29 (s_AdjoinedSetsModel_refuted_39 c29 k) x0 x2 x3 x4 x5 x6 x7 h3))
set_option maxHeartbeats 4000000 in
set_option maxRecDepth 100000 in
theorem k_AdjoinedSetsModel_refuted_39 {z : Int32 × HP} (C : CX g R_AdjoinedSetsModel b_AdjoinedSetsModel_refuted 8 (some .int) p s m args meth c) (c29 : Nat → Int32 → Int32 → Int32 → Int32 → Int32 → HP → Option (Int32 × HP))
    (hc29 : ∀ {x0 : Nat} {x2 : Int32} {x3 : Int32} {x4 : Int32} {x5 : Int32} {x6 : Int32} {h : HP} {H : Heap} {locs : List Loc} {ls : Array Slot}, WD g h s.heap H locs → lv_has ls 8 [(0, .ref (aD g x0)), (2, .int x2), (3, .int x3), (4, .int x4), (5, .int x5), (6, .int x6)] → c29 x0 x2 x3 x4 x5 x6 h = some z → W p l e (rmS 6 133) s m args below meth c H locs 0 0 (MQ below (Qq g (some (.int z.1)) z.2) args s 0 0 (inA g)) (F0 m 29 ls [])) : ∀ (k : Nat) {x0 : Nat} {x2 : Int32} {x3 : Int32} {x4 : Int32} {x5 : Int32} {x6 : Int32} {x7 : Int32} {h : HP} {H : Heap} {locs : List Loc} {ls : Array Slot}, WD g h s.heap H locs → lv_has ls 8 [(0, .ref (aD g x0)), (2, .int x2), (3, .int x3), (4, .int x4), (5, .int x5), (6, .int x6), (7, .int x7)] → s_AdjoinedSetsModel_refuted_39 c29 k x0 x2 x3 x4 x5 x6 x7 h = some z → W p l e (rmS 6 133) s m args below meth c H locs 0 0 (MQ below (Qq g (some (.int z.1)) z.2) args s 0 0 (inA g)) (F0 m 39 ls []) := by
  have hx := C.1
  have hb := C.2.1
  intro k
  induction k with
  | zero =>
    intro x0 x2 x3 x4 x5 x6 x7 h H locs ls hw hl hs
    exact (no_s hs).elim
  | succ k ih =>
    intro x0 x2 x3 x4 x5 x6 x7 h H locs ls hw hl hs
    rw [s_AdjoinedSetsModel_refuted_39] at hs
    refine lv_iload hx hb d_AdjoinedSetsModel_refuted_39 (lv_at hl 6 rfl) ?_
    refine lv_iload hx hb d_AdjoinedSetsModel_refuted_41 (lv_at hl 4 rfl) ?_
    refine lv_icmp_ge hx hb d_AdjoinedSetsModel_refuted_43 (tgt := 101) (by decide) (fun hc => ?_) (fun hc => ?_)
    · have hs := oi_t hc hs
      refine lv_iinc hx hb d_AdjoinedSetsModel_refuted_101 hl (k := 5) rfl (v := (x6 + 1)) (iinc_e _ (by decide)) (by decide) (lv' := [(6, .int (x6 + 1)), (0, .ref (aD g x0)), (2, .int x2), (3, .int x3), (4, .int x4), (5, .int x5), (7, .int x7)]) rfl (fun ls hl => ?_)
      refine lv_goto hx hb d_AdjoinedSetsModel_refuted_104 (tgt := 29) (by decide) ?_
      exact hc29 hw (lv_sub hl [1, 2, 3, 4, 5, 0] rfl) hs
    · have hs := oi_f hc hs
      refine lv_iload_n hx hb d_AdjoinedSetsModel_refuted_46 rfl (lv_at hl 1 rfl) ?_
      refine lv_bipush (v := 8) hx hb d_AdjoinedSetsModel_refuted_47 (by decide) ?_
      refine lv_icmp_ge hx hb d_AdjoinedSetsModel_refuted_49 (tgt := 61) (by decide) (fun hc => ?_) (fun hc => ?_)
      · have hs := oi_t hc hs
        exact k_AdjoinedSetsModel_refuted_61 C c29 (s_AdjoinedSetsModel_refuted_39 c29 k) hc29 ih hw (lv_sub hl [0, 1, 2, 3, 4, 5, 6] rfl) hs
      · have hs := oi_f hc hs
        refine lv_aload_n hx hb d_AdjoinedSetsModel_refuted_52 rfl (lv_at hl 0 rfl) ?_
        obtain ⟨v1, e2, hs⟩ := ob hs
        refine pg_getR C hw fl_AdjoinedSetsModel_13 e2 d_AdjoinedSetsModel_refuted_53 ?_
        refine lv_iload_n hx hb d_AdjoinedSetsModel_refuted_56 rfl (lv_at hl 1 rfl) ?_
        refine lv_iload hx hb d_AdjoinedSetsModel_refuted_57 (lv_at hl 5 rfl) ?_
        refine lv_i2l (v := x6.toInt64) hx hb d_AdjoinedSetsModel_refuted_59 rfl ?_
        obtain ⟨h3, e4, hs⟩ := ob hs
        refine pg_lastore C hw (t0 := 2) rfl e4 d_AdjoinedSetsModel_refuted_60 (fun H locs hw => ?_)
        exact k_AdjoinedSetsModel_refuted_61 C c29 (s_AdjoinedSetsModel_refuted_39 c29 k) hc29 ih hw (lv_sub hl [0, 1, 2, 3, 4, 5, 6] rfl) hs

def s_AdjoinedSetsModel_refuted_29 : Nat → Nat → Int32 → Int32 → Int32 → Int32 → Int32 → HP → Option (Int32 × HP)
  | 0 => fun _ _ _ _ _ _ _ => none
  | k + 1 => fun x0 x2 x3 x4 x5 x6 h =>
  if x4 ≤ x6 then (
    some ((-4), h))
  else (
    s_AdjoinedSetsModel_refuted_39 (s_AdjoinedSetsModel_refuted_29 k) 20000 x0 x2 x3 x4 x5 x6 0 h)
set_option maxHeartbeats 4000000 in
set_option maxRecDepth 100000 in
theorem k_AdjoinedSetsModel_refuted_29 {z : Int32 × HP} (C : CX g R_AdjoinedSetsModel b_AdjoinedSetsModel_refuted 8 (some .int) p s m args meth c) : ∀ (k : Nat) {x0 : Nat} {x2 : Int32} {x3 : Int32} {x4 : Int32} {x5 : Int32} {x6 : Int32} {h : HP} {H : Heap} {locs : List Loc} {ls : Array Slot}, WD g h s.heap H locs → lv_has ls 8 [(0, .ref (aD g x0)), (2, .int x2), (3, .int x3), (4, .int x4), (5, .int x5), (6, .int x6)] → s_AdjoinedSetsModel_refuted_29 k x0 x2 x3 x4 x5 x6 h = some z → W p l e (rmS 6 133) s m args below meth c H locs 0 0 (MQ below (Qq g (some (.int z.1)) z.2) args s 0 0 (inA g)) (F0 m 29 ls []) := by
  have hx := C.1
  have hb := C.2.1
  intro k
  induction k with
  | zero =>
    intro x0 x2 x3 x4 x5 x6 h H locs ls hw hl hs
    exact (no_s hs).elim
  | succ k ih =>
    intro x0 x2 x3 x4 x5 x6 h H locs ls hw hl hs
    rw [s_AdjoinedSetsModel_refuted_29] at hs
    refine lv_iload hx hb d_AdjoinedSetsModel_refuted_29 (lv_at hl 5 rfl) ?_
    refine lv_iload hx hb d_AdjoinedSetsModel_refuted_31 (lv_at hl 3 rfl) ?_
    refine lv_icmp_ge hx hb d_AdjoinedSetsModel_refuted_33 (tgt := 107) (by decide) (fun hc => ?_) (fun hc => ?_)
    · have hs := oi_t hc hs
      refine lv_bipush (v := (-4)) hx hb d_AdjoinedSetsModel_refuted_107 (by decide) ?_
      obtain rfl := Option.some.inj hs
      exact pg_iret C hw d_AdjoinedSetsModel_refuted_109
    · have hs := oi_f hc hs
      refine lv_iconst (v := 0) hx hb d_AdjoinedSetsModel_refuted_36 (by decide) ?_
      refine lv_istore hx hb d_AdjoinedSetsModel_refuted_37 hl (by decide) (lv' := [(7, .int 0), (0, .ref (aD g x0)), (2, .int x2), (3, .int x3), (4, .int x4), (5, .int x5), (6, .int x6)]) rfl (fun ls hl => ?_)
      exact k_AdjoinedSetsModel_refuted_39 C (s_AdjoinedSetsModel_refuted_29 k) ih 20000 hw (lv_sub hl [1, 2, 3, 4, 5, 6, 0] rfl) hs

def s_AdjoinedSetsModel_refuted_24 (x0 : Nat) (x2 : Int32) (x3 : Int32) (x4 : Int32) (t0 : Int32) (h : HP) : Option (Int32 × HP) :=
  s_AdjoinedSetsModel_refuted_29 20000 x0 x2 x3 x4 t0 0 h
set_option maxHeartbeats 4000000 in
set_option maxRecDepth 100000 in
theorem k_AdjoinedSetsModel_refuted_24 {x0 : Nat} {x2 : Int32} {x3 : Int32} {x4 : Int32} {t0 : Int32} {h : HP} {z : Int32 × HP} (C : CX g R_AdjoinedSetsModel b_AdjoinedSetsModel_refuted 8 (some .int) p s m args meth c) {H : Heap} {locs : List Loc} {ls : Array Slot} (hw : WD g h s.heap H locs) (hl : lv_has ls 8 [(0, .ref (aD g x0)), (2, .int x2), (3, .int x3), (4, .int x4)]) (hs : s_AdjoinedSetsModel_refuted_24 x0 x2 x3 x4 t0 h = some z) : W p l e (rmS 6 133) s m args below meth c H locs 0 0 (MQ below (Qq g (some (.int z.1)) z.2) args s 0 0 (inA g)) (F0 m 24 ls [.int t0]) := by
  unfold s_AdjoinedSetsModel_refuted_24 at hs
  have hx := C.1
  have hb := C.2.1
  refine lv_istore hx hb d_AdjoinedSetsModel_refuted_24 hl (by decide) (lv' := [(5, .int t0), (0, .ref (aD g x0)), (2, .int x2), (3, .int x3), (4, .int x4)]) rfl (fun ls hl => ?_)
  refine lv_iconst (v := 0) hx hb d_AdjoinedSetsModel_refuted_26 (by decide) ?_
  refine lv_istore hx hb d_AdjoinedSetsModel_refuted_27 hl (by decide) (lv' := [(6, .int 0), (5, .int t0), (0, .ref (aD g x0)), (2, .int x2), (3, .int x3), (4, .int x4)]) rfl (fun ls hl => ?_)
  exact k_AdjoinedSetsModel_refuted_29 C 20000 hw (lv_sub hl [2, 3, 4, 5, 1, 0] rfl) hs

def s_AdjoinedSetsModel_refuted_11 (x0 : Nat) (x1 : Int32) (x2 : Int32) (x3 : Int32) (t0 : Int32) (h : HP) : Option (Int32 × HP) :=
  if 8 ≤ x3 then (
    s_AdjoinedSetsModel_refuted_24 x0 x2 x3 t0 1 h)
  else (
    s_AdjoinedSetsModel_refuted_24 x0 x2 x3 t0 x1 h)
set_option maxHeartbeats 4000000 in
set_option maxRecDepth 100000 in
theorem k_AdjoinedSetsModel_refuted_11 {x0 : Nat} {x1 : Int32} {x2 : Int32} {x3 : Int32} {t0 : Int32} {h : HP} {z : Int32 × HP} (C : CX g R_AdjoinedSetsModel b_AdjoinedSetsModel_refuted 8 (some .int) p s m args meth c) {H : Heap} {locs : List Loc} {ls : Array Slot} (hw : WD g h s.heap H locs) (hl : lv_has ls 8 [(0, .ref (aD g x0)), (1, .int x1), (2, .int x2), (3, .int x3)]) (hs : s_AdjoinedSetsModel_refuted_11 x0 x1 x2 x3 t0 h = some z) : W p l e (rmS 6 133) s m args below meth c H locs 0 0 (MQ below (Qq g (some (.int z.1)) z.2) args s 0 0 (inA g)) (F0 m 11 ls [.int t0]) := by
  unfold s_AdjoinedSetsModel_refuted_11 at hs
  have hx := C.1
  have hb := C.2.1
  refine lv_istore hx hb d_AdjoinedSetsModel_refuted_11 hl (by decide) (lv' := [(4, .int t0), (0, .ref (aD g x0)), (1, .int x1), (2, .int x2), (3, .int x3)]) rfl (fun ls hl => ?_)
  refine lv_iload_n hx hb d_AdjoinedSetsModel_refuted_13 rfl (lv_at hl 4 rfl) ?_
  refine lv_bipush (v := 8) hx hb d_AdjoinedSetsModel_refuted_14 (by decide) ?_
  refine lv_icmp_ge hx hb d_AdjoinedSetsModel_refuted_16 (tgt := 23) (by decide) (fun hc => ?_) (fun hc => ?_)
  · have hs := oi_t hc hs
    refine lv_iconst (v := 1) hx hb d_AdjoinedSetsModel_refuted_23 (by decide) ?_
    exact k_AdjoinedSetsModel_refuted_24 C hw (lv_sub hl [1, 3, 4, 0] rfl) hs
  · have hs := oi_f hc hs
    refine lv_iload_n hx hb d_AdjoinedSetsModel_refuted_19 rfl (lv_at hl 2 rfl) ?_
    refine lv_goto hx hb d_AdjoinedSetsModel_refuted_20 (tgt := 24) (by decide) ?_
    exact k_AdjoinedSetsModel_refuted_24 C hw (lv_sub hl [1, 3, 4, 0] rfl) hs

def s_AdjoinedSetsModel_refuted (x0 : Nat) (x1 : Int32) (x2 : Int32) (x3 : Int32) (h : HP) : Option (Int32 × HP) :=
  if 8 ≤ x2 then (
    s_AdjoinedSetsModel_refuted_11 x0 x1 x2 x3 1 h)
  else (
    s_AdjoinedSetsModel_refuted_11 x0 x1 x2 x3 x1 h)
set_option maxHeartbeats 4000000 in
set_option maxRecDepth 100000 in
theorem c_AdjoinedSetsModel_refuted (l : Launch) (g : GG) {x0 : Nat} {x1 : Int32} {x2 : Int32} {x3 : Int32} {h : HP} {z : Int32 × HP} (hs : s_AdjoinedSetsModel_refuted x0 x1 x2 x3 h = some z) : Ct l g y_AdjoinedSetsModel_refuted w_AdjoinedSetsModel_refuted (rmS 6 133) [.ref (aD g x0), .int x1, .int x2, .int x3] h (some (.int z.1)) z.2 := by
  refine Ct.of (own := R_AdjoinedSetsModel) (by decide) rfl rfl (Nat.le_of_ble_eq_true rfl) ?_
  intro p e s m args below meth c ls C hl hw
  have hx := C.1
  have hb := C.2.1
  have hl : lv_has ls 8 [(0, .ref (aD g x0)), (1, .int x1), (2, .int x2), (3, .int x3)] := hl
  unfold s_AdjoinedSetsModel_refuted at hs
  refine lv_iload_n hx hb d_AdjoinedSetsModel_refuted_0 rfl (lv_at hl 2 rfl) ?_
  refine lv_bipush (v := 8) hx hb d_AdjoinedSetsModel_refuted_1 (by decide) ?_
  refine lv_icmp_ge hx hb d_AdjoinedSetsModel_refuted_3 (tgt := 10) (by decide) (fun hc => ?_) (fun hc => ?_)
  · have hs := oi_t hc hs
    refine lv_iconst (v := 1) hx hb d_AdjoinedSetsModel_refuted_10 (by decide) ?_
    exact k_AdjoinedSetsModel_refuted_11 C hw (lv_sub hl [0, 1, 2, 3] rfl) hs
  · have hs := oi_f hc hs
    refine lv_iload_n hx hb d_AdjoinedSetsModel_refuted_6 rfl (lv_at hl 1 rfl) ?_
    refine lv_goto hx hb d_AdjoinedSetsModel_refuted_7 (tgt := 11) (by decide) ?_
    exact k_AdjoinedSetsModel_refuted_11 C hw (lv_sub hl [0, 1, 2, 3] rfl) hs

end
