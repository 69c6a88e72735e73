section
variable {p : Program} {l : Launch} {e : Env} {s : State} {m : MethodId} {args : Array Value} {below : List Frame} {meth : Method} {c : Code} {g : GG}
theorem d_AdjoinedSetsModel_wrong_0 : decode b_AdjoinedSetsModel_wrong 0 = .ok (.aload_n 0, 1) := by decide +kernel
theorem d_AdjoinedSetsModel_wrong_1 : decode b_AdjoinedSetsModel_wrong 1 = .ok (.iconst 0, 1) := by decide +kernel
theorem d_AdjoinedSetsModel_wrong_2 : decode b_AdjoinedSetsModel_wrong 2 = .ok (.putfield 132, 3) := by decide +kernel
theorem d_AdjoinedSetsModel_wrong_5 : decode b_AdjoinedSetsModel_wrong 5 = .ok (.aload_n 0, 1) := by decide +kernel
theorem d_AdjoinedSetsModel_wrong_6 : decode b_AdjoinedSetsModel_wrong 6 = .ok (.iconst 1, 1) := by decide +kernel
theorem d_AdjoinedSetsModel_wrong_7 : decode b_AdjoinedSetsModel_wrong 7 = .ok (.putfield 135, 3) := by decide +kernel
theorem d_AdjoinedSetsModel_wrong_10 : decode b_AdjoinedSetsModel_wrong 10 = .ok (.aload_n 0, 1) := by decide +kernel
theorem d_AdjoinedSetsModel_wrong_11 : decode b_AdjoinedSetsModel_wrong 11 = .ok (.iload_n 1, 1) := by decide +kernel
theorem d_AdjoinedSetsModel_wrong_12 : decode b_AdjoinedSetsModel_wrong 12 = .ok (.iconst 0, 1) := by decide +kernel
theorem d_AdjoinedSetsModel_wrong_13 : decode b_AdjoinedSetsModel_wrong 13 = .ok (.iconst 0, 1) := by decide +kernel
theorem d_AdjoinedSetsModel_wrong_14 : decode b_AdjoinedSetsModel_wrong 14 = .ok (.invokevirtual 141, 3) := by decide +kernel
theorem d_AdjoinedSetsModel_wrong_17 : decode b_AdjoinedSetsModel_wrong 17 = .ok (.iconst 0, 1) := by decide +kernel
theorem d_AdjoinedSetsModel_wrong_18 : decode b_AdjoinedSetsModel_wrong 18 = .ok (.istore 4, 2) := by decide +kernel
theorem d_AdjoinedSetsModel_wrong_20 : decode b_AdjoinedSetsModel_wrong 20 = .ok (.aload_n 0, 1) := by decide +kernel
theorem d_AdjoinedSetsModel_wrong_21 : decode b_AdjoinedSetsModel_wrong 21 = .ok (.getfield 132, 3) := by decide +kernel
theorem d_AdjoinedSetsModel_wrong_24 : decode b_AdjoinedSetsModel_wrong 24 = .ok (.ifCond .le 148, 3) := by decide +kernel
theorem d_AdjoinedSetsModel_wrong_27 : decode b_AdjoinedSetsModel_wrong 27 = .ok (.iload 4, 2) := by decide +kernel
theorem d_AdjoinedSetsModel_wrong_29 : decode b_AdjoinedSetsModel_wrong 29 = .ok (.aload_n 0, 1) := by decide +kernel
theorem d_AdjoinedSetsModel_wrong_30 : decode b_AdjoinedSetsModel_wrong 30 = .ok (.getfield 124, 3) := by decide +kernel
theorem d_AdjoinedSetsModel_wrong_33 : decode b_AdjoinedSetsModel_wrong 33 = .ok (.if_icmp .ne 6, 3) := by decide +kernel
theorem d_AdjoinedSetsModel_wrong_36 : decode b_AdjoinedSetsModel_wrong 36 = .ok (.iload 4, 2) := by decide +kernel
theorem d_AdjoinedSetsModel_wrong_38 : decode b_AdjoinedSetsModel_wrong 38 = .ok (.ireturn, 1) := by decide +kernel
theorem d_AdjoinedSetsModel_wrong_39 : decode b_AdjoinedSetsModel_wrong 39 = .ok (.aload_n 0, 1) := by decide +kernel
theorem d_AdjoinedSetsModel_wrong_40 : decode b_AdjoinedSetsModel_wrong 40 = .ok (.dup, 1) := by decide +kernel
theorem d_AdjoinedSetsModel_wrong_41 : decode b_AdjoinedSetsModel_wrong 41 = .ok (.getfield 132, 3) := by decide +kernel
theorem d_AdjoinedSetsModel_wrong_44 : decode b_AdjoinedSetsModel_wrong 44 = .ok (.iconst 1, 1) := by decide +kernel
theorem d_AdjoinedSetsModel_wrong_45 : decode b_AdjoinedSetsModel_wrong 45 = .ok (.isub, 1) := by decide +kernel
theorem d_AdjoinedSetsModel_wrong_46 : decode b_AdjoinedSetsModel_wrong 46 = .ok (.putfield 132, 3) := by decide +kernel
theorem d_AdjoinedSetsModel_wrong_49 : decode b_AdjoinedSetsModel_wrong 49 = .ok (.aload_n 0, 1) := by decide +kernel
theorem d_AdjoinedSetsModel_wrong_50 : decode b_AdjoinedSetsModel_wrong 50 = .ok (.getfield 29, 3) := by decide +kernel
theorem d_AdjoinedSetsModel_wrong_53 : decode b_AdjoinedSetsModel_wrong 53 = .ok (.aload_n 0, 1) := by decide +kernel
theorem d_AdjoinedSetsModel_wrong_54 : decode b_AdjoinedSetsModel_wrong 54 = .ok (.getfield 132, 3) := by decide +kernel
theorem d_AdjoinedSetsModel_wrong_57 : decode b_AdjoinedSetsModel_wrong 57 = .ok (.iaload, 1) := by decide +kernel
theorem d_AdjoinedSetsModel_wrong_58 : decode b_AdjoinedSetsModel_wrong 58 = .ok (.istore 5, 2) := by decide +kernel
theorem d_AdjoinedSetsModel_wrong_60 : decode b_AdjoinedSetsModel_wrong 60 = .ok (.aload_n 0, 1) := by decide +kernel
theorem d_AdjoinedSetsModel_wrong_61 : decode b_AdjoinedSetsModel_wrong 61 = .ok (.getfield 32, 3) := by decide +kernel
theorem d_AdjoinedSetsModel_wrong_64 : decode b_AdjoinedSetsModel_wrong 64 = .ok (.aload_n 0, 1) := by decide +kernel
theorem d_AdjoinedSetsModel_wrong_65 : decode b_AdjoinedSetsModel_wrong 65 = .ok (.getfield 132, 3) := by decide +kernel
theorem d_AdjoinedSetsModel_wrong_68 : decode b_AdjoinedSetsModel_wrong 68 = .ok (.iaload, 1) := by decide +kernel
theorem d_AdjoinedSetsModel_wrong_69 : decode b_AdjoinedSetsModel_wrong 69 = .ok (.istore 6, 2) := by decide +kernel
theorem d_AdjoinedSetsModel_wrong_71 : decode b_AdjoinedSetsModel_wrong 71 = .ok (.aload_n 0, 1) := by decide +kernel
theorem d_AdjoinedSetsModel_wrong_72 : decode b_AdjoinedSetsModel_wrong 72 = .ok (.getfield 26, 3) := by decide +kernel
theorem d_AdjoinedSetsModel_wrong_75 : decode b_AdjoinedSetsModel_wrong 75 = .ok (.aload_n 0, 1) := by decide +kernel
theorem d_AdjoinedSetsModel_wrong_76 : decode b_AdjoinedSetsModel_wrong 76 = .ok (.getfield 132, 3) := by decide +kernel
theorem d_AdjoinedSetsModel_wrong_79 : decode b_AdjoinedSetsModel_wrong 79 = .ok (.iaload, 1) := by decide +kernel
theorem d_AdjoinedSetsModel_wrong_80 : decode b_AdjoinedSetsModel_wrong 80 = .ok (.istore 7, 2) := by decide +kernel
theorem d_AdjoinedSetsModel_wrong_82 : decode b_AdjoinedSetsModel_wrong 82 = .ok (.aload_n 0, 1) := by decide +kernel
theorem d_AdjoinedSetsModel_wrong_83 : decode b_AdjoinedSetsModel_wrong 83 = .ok (.aload_n 0, 1) := by decide +kernel
theorem d_AdjoinedSetsModel_wrong_84 : decode b_AdjoinedSetsModel_wrong 84 = .ok (.getfield 35, 3) := by decide +kernel
theorem d_AdjoinedSetsModel_wrong_87 : decode b_AdjoinedSetsModel_wrong 87 = .ok (.aload_n 0, 1) := by decide +kernel
theorem d_AdjoinedSetsModel_wrong_88 : decode b_AdjoinedSetsModel_wrong 88 = .ok (.getfield 132, 3) := by decide +kernel
theorem d_AdjoinedSetsModel_wrong_91 : decode b_AdjoinedSetsModel_wrong 91 = .ok (.iaload, 1) := by decide +kernel
theorem d_AdjoinedSetsModel_wrong_92 : decode b_AdjoinedSetsModel_wrong 92 = .ok (.iconst 1, 1) := by decide +kernel
theorem d_AdjoinedSetsModel_wrong_93 : decode b_AdjoinedSetsModel_wrong 93 = .ok (.iadd, 1) := by decide +kernel
theorem d_AdjoinedSetsModel_wrong_94 : decode b_AdjoinedSetsModel_wrong 94 = .ok (.putfield 135, 3) := by decide +kernel
theorem d_AdjoinedSetsModel_wrong_97 : decode b_AdjoinedSetsModel_wrong 97 = .ok (.iload 7, 2) := by decide +kernel
theorem d_AdjoinedSetsModel_wrong_99 : decode b_AdjoinedSetsModel_wrong 99 = .ok (.iconst 2, 1) := by decide +kernel
theorem d_AdjoinedSetsModel_wrong_100 : decode b_AdjoinedSetsModel_wrong 100 = .ok (.if_icmp .eq 12, 3) := by decide +kernel
theorem d_AdjoinedSetsModel_wrong_103 : decode b_AdjoinedSetsModel_wrong 103 = .ok (.aload_n 0, 1) := by decide +kernel
theorem d_AdjoinedSetsModel_wrong_104 : decode b_AdjoinedSetsModel_wrong 104 = .ok (.getfield 135, 3) := by decide +kernel
theorem d_AdjoinedSetsModel_wrong_107 : decode b_AdjoinedSetsModel_wrong 107 = .ok (.bipush 13, 2) := by decide +kernel
theorem d_AdjoinedSetsModel_wrong_109 : decode b_AdjoinedSetsModel_wrong 109 = .ok (.if_icmp .gt 25, 3) := by decide +kernel
theorem d_AdjoinedSetsModel_wrong_112 : decode b_AdjoinedSetsModel_wrong 112 = .ok (.aload_n 0, 1) := by decide +kernel
theorem d_AdjoinedSetsModel_wrong_113 : decode b_AdjoinedSetsModel_wrong 113 = .ok (.aload_n 0, 1) := by decide +kernel
theorem d_AdjoinedSetsModel_wrong_114 : decode b_AdjoinedSetsModel_wrong 114 = .ok (.getfield 7, 3) := by decide +kernel
theorem d_AdjoinedSetsModel_wrong_117 : decode b_AdjoinedSetsModel_wrong 117 = .ok (.iload 4, 2) := by decide +kernel
theorem d_AdjoinedSetsModel_wrong_119 : decode b_AdjoinedSetsModel_wrong 119 = .ok (.iaload, 1) := by decide +kernel
theorem d_AdjoinedSetsModel_wrong_120 : decode b_AdjoinedSetsModel_wrong 120 = .ok (.iload 7, 2) := by decide +kernel
theorem d_AdjoinedSetsModel_wrong_122 : decode b_AdjoinedSetsModel_wrong 122 = .ok (.iload_n 2, 1) := by decide +kernel
theorem d_AdjoinedSetsModel_wrong_123 : decode b_AdjoinedSetsModel_wrong 123 = .ok (.iload_n 3, 1) := by decide +kernel
theorem d_AdjoinedSetsModel_wrong_124 : decode b_AdjoinedSetsModel_wrong 124 = .ok (.iload 5, 2) := by decide +kernel
theorem d_AdjoinedSetsModel_wrong_126 : decode b_AdjoinedSetsModel_wrong 126 = .ok (.iload 6, 2) := by decide +kernel
theorem d_AdjoinedSetsModel_wrong_128 : decode b_AdjoinedSetsModel_wrong 128 = .ok (.invokevirtual 148, 3) := by decide +kernel
theorem d_AdjoinedSetsModel_wrong_131 : decode b_AdjoinedSetsModel_wrong 131 = .ok (.ifCond .ne 6, 3) := by decide +kernel
theorem d_AdjoinedSetsModel_wrong_134 : decode b_AdjoinedSetsModel_wrong 134 = .ok (.iload 4, 2) := by decide +kernel
theorem d_AdjoinedSetsModel_wrong_136 : decode b_AdjoinedSetsModel_wrong 136 = .ok (.ireturn, 1) := by decide +kernel
theorem d_AdjoinedSetsModel_wrong_137 : decode b_AdjoinedSetsModel_wrong 137 = .ok (.iload 7, 2) := by decide +kernel
theorem d_AdjoinedSetsModel_wrong_139 : decode b_AdjoinedSetsModel_wrong 139 = .ok (.ifCond .eq 9, 3) := by decide +kernel
theorem d_AdjoinedSetsModel_wrong_142 : decode b_AdjoinedSetsModel_wrong 142 = .ok (.iload 7, 2) := by decide +kernel
theorem d_AdjoinedSetsModel_wrong_144 : decode b_AdjoinedSetsModel_wrong 144 = .ok (.iconst 1, 1) := by decide +kernel
theorem d_AdjoinedSetsModel_wrong_145 : decode b_AdjoinedSetsModel_wrong 145 = .ok (.if_icmp .ne 21, 3) := by decide +kernel
theorem d_AdjoinedSetsModel_wrong_148 : decode b_AdjoinedSetsModel_wrong 148 = .ok (.aload_n 0, 1) := by decide +kernel
theorem d_AdjoinedSetsModel_wrong_149 : decode b_AdjoinedSetsModel_wrong 149 = .ok (.iload 4, 2) := by decide +kernel
theorem d_AdjoinedSetsModel_wrong_151 : decode b_AdjoinedSetsModel_wrong 151 = .ok (.aload_n 0, 1) := by decide +kernel
theorem d_AdjoinedSetsModel_wrong_152 : decode b_AdjoinedSetsModel_wrong 152 = .ok (.getfield 7, 3) := by decide +kernel
theorem d_AdjoinedSetsModel_wrong_155 : decode b_AdjoinedSetsModel_wrong 155 = .ok (.iload 4, 2) := by decide +kernel
theorem d_AdjoinedSetsModel_wrong_157 : decode b_AdjoinedSetsModel_wrong 157 = .ok (.iaload, 1) := by decide +kernel
theorem d_AdjoinedSetsModel_wrong_158 : decode b_AdjoinedSetsModel_wrong 158 = .ok (.iload_n 2, 1) := by decide +kernel
theorem d_AdjoinedSetsModel_wrong_159 : decode b_AdjoinedSetsModel_wrong 159 = .ok (.iload 5, 2) := by decide +kernel
theorem d_AdjoinedSetsModel_wrong_161 : decode b_AdjoinedSetsModel_wrong 161 = .ok (.iload 6, 2) := by decide +kernel
theorem d_AdjoinedSetsModel_wrong_163 : decode b_AdjoinedSetsModel_wrong 163 = .ok (.invokevirtual 152, 3) := by decide +kernel
theorem d_AdjoinedSetsModel_wrong_166 : decode b_AdjoinedSetsModel_wrong 166 = .ok (.iinc 4 1, 3) := by decide +kernel
theorem d_AdjoinedSetsModel_wrong_169 : decode b_AdjoinedSetsModel_wrong 169 = .ok (.goto (-149), 3) := by decide +kernel
theorem d_AdjoinedSetsModel_wrong_172 : decode b_AdjoinedSetsModel_wrong 172 = .ok (.iload 4, 2) := by decide +kernel
theorem d_AdjoinedSetsModel_wrong_174 : decode b_AdjoinedSetsModel_wrong 174 = .ok (.aload_n 0, 1) := by decide +kernel
theorem d_AdjoinedSetsModel_wrong_175 : decode b_AdjoinedSetsModel_wrong 175 = .ok (.getfield 124, 3) := by decide +kernel
theorem d_AdjoinedSetsModel_wrong_178 : decode b_AdjoinedSetsModel_wrong 178 = .ok (.if_icmp .ge 8, 3) := by decide +kernel
theorem d_AdjoinedSetsModel_wrong_181 : decode b_AdjoinedSetsModel_wrong 181 = .ok (.iload 4, 2) := by decide +kernel
theorem d_AdjoinedSetsModel_wrong_183 : decode b_AdjoinedSetsModel_wrong 183 = .ok (.goto 4, 3) := by decide +kernel
theorem d_AdjoinedSetsModel_wrong_186 : decode b_AdjoinedSetsModel_wrong 186 = .ok (.iconst (-1), 1) := by decide +kernel
theorem d_AdjoinedSetsModel_wrong_187 : decode b_AdjoinedSetsModel_wrong 187 = .ok (.ireturn, 1) := by decide +kernel
def s_AdjoinedSetsModel_wrong_166 (c20 : Nat → Int32 → Int32 → Int32 → HP → Option (Int32 × HP)) (x0 : Nat) (x2 : Int32) (x3 : Int32) (x4 : Int32) (h : HP) : Option (Int32 × HP) :=
  c20 x0 x2 x3 (x4 + 1) h
set_option maxHeartbeats 4000000 in
set_option maxRecDepth 100000 in
theorem k_AdjoinedSetsModel_wrong_166 {x0 : Nat} {x2 : Int32} {x3 : Int32} {x4 : Int32} {h : HP} {z : Int32 × HP} (C : CX g R_AdjoinedSetsModel b_AdjoinedSetsModel_wrong 8 (some .int) p s m args meth c) (c20 : Nat → Int32 → Int32 → Int32 → HP → Option (Int32 × HP))
    (hc20 : ∀ {x0 : Nat} {x2 : Int32} {x3 : Int32} {x4 : Int32} {h : HP} {H : Heap} {locs : List Loc} {ls : Array Slot}, WD g h s.heap H locs → lv_has ls 8 [(0, .ref (aD g x0)), (2, .int x2), (3, .int x3), (4, .int x4)] → c20 x0 x2 x3 x4 h = some z → W p l e (rmS 3 69) s m args below meth c H locs 0 0 (MQ below (Qq g (some (.int z.1)) z.2) args s 0 0 (inA g)) (F0 m 20 ls [])) {H : Heap} {locs : List Loc} {ls : Array Slot} (hw : WD g h s.heap H locs) (hl : lv_has ls 8 [(0, .ref (aD g x0)), (2, .int x2), (3, .int x3), (4, .int x4)]) (hs : s_AdjoinedSetsModel_wrong_166 c20 x0 x2 x3 x4 h = some z) : W p l e (rmS 3 69) s m args below meth c H locs 0 0 (MQ below (Qq g (some (.int z.1)) z.2) args s 0 0 (inA g)) (F0 m 166 ls []) := by
  unfold s_AdjoinedSetsModel_wrong_166 at hs
  have hx := C.1
  have hb := C.2.1
  refine lv_iinc hx hb d_AdjoinedSetsModel_wrong_166 hl (k := 3) rfl (v := (x4 + 1)) (iinc_e _ (by decide)) (by decide) (lv' := [(4, .int (x4 + 1)), (0, .ref (aD g x0)), (2, .int x2), (3, .int x3)]) rfl (fun ls hl => ?_)
  refine lv_goto hx hb d_AdjoinedSetsModel_wrong_169 (tgt := 20) (by decide) ?_
  exact hc20 hw (lv_sub hl [1, 2, 3, 0] rfl) hs

def s_AdjoinedSetsModel_wrong_148 (c20 : Nat → Int32 → Int32 → Int32 → HP → Option (Int32 × HP)) (x0 : Nat) (x2 : Int32) (x3 : Int32) (x4 : Int32) (x5 : Int32) (x6 : Int32) (h : HP) : Option (Int32 × HP) :=
  (gR h x0 9 0).bind fun v1 =>
  (aI h v1 0 x4).bind fun v3 =>
  (kd x0 9).bind fun _ =>
  (s_AdjoinedSetsModel_wantParts x0 x4 v3 x2 x5 x6 h).bind fun q6 =>
  s_AdjoinedSetsModel_wrong_166 c20 x0 x2 x3 x4 q6
set_option maxHeartbeats 4000000 in
set_option maxRecDepth 100000 in
theorem k_AdjoinedSetsModel_wrong_148 {x0 : Nat} {x2 : Int32} {x3 : Int32} {x4 : Int32} {x5 : Int32} {x6 : Int32} {h : HP} {z : Int32 × HP} (C : CX g R_AdjoinedSetsModel b_AdjoinedSetsModel_wrong 8 (some .int) p s m args meth c) (c20 : Nat → Int32 → Int32 → Int32 → HP → Option (Int32 × HP))
    (hc20 : ∀ {x0 : Nat} {x2 : Int32} {x3 : Int32} {x4 : Int32} {h : HP} {H : Heap} {locs : List Loc} {ls : Array Slot}, WD g h s.heap H locs → lv_has ls 8 [(0, .ref (aD g x0)), (2, .int x2), (3, .int x3), (4, .int x4)] → c20 x0 x2 x3 x4 h = some z → W p l e (rmS 3 69) s m args below meth c H locs 0 0 (MQ below (Qq g (some (.int z.1)) z.2) args s 0 0 (inA g)) (F0 m 20 ls [])) {H : Heap} {locs : List Loc} {ls : Array Slot} (hw : WD g h s.heap H locs) (hl : lv_has ls 8 [(0, .ref (aD g x0)), (2, .int x2), (3, .int x3), (4, .int x4), (5, .int x5), (6, .int x6)]) (hs : s_AdjoinedSetsModel_wrong_148 c20 x0 x2 x3 x4 x5 x6 h = some z) : W p l e (rmS 3 69) s m args below meth c H locs 0 0 (MQ below (Qq g (some (.int z.1)) z.2) args s 0 0 (inA g)) (F0 m 148 ls []) := by
  unfold s_AdjoinedSetsModel_wrong_148 at hs
  have hx := C.1
  have hb := C.2.1
  refine lv_aload_n hx hb d_AdjoinedSetsModel_wrong_148 rfl (lv_at hl 0 rfl) ?_
  refine lv_iload hx hb d_AdjoinedSetsModel_wrong_149 (lv_at hl 3 rfl) ?_
  refine lv_aload_n hx hb d_AdjoinedSetsModel_wrong_151 rfl (lv_at hl 0 rfl) ?_
  obtain ⟨v1, e2, hs⟩ := ob hs
  refine pg_getR C hw fl_AdjoinedSetsModel_7 e2 d_AdjoinedSetsModel_wrong_152 ?_
  refine lv_iload hx hb d_AdjoinedSetsModel_wrong_155 (lv_at hl 3 rfl) ?_
  obtain ⟨v3, e4, hs⟩ := ob hs
  refine pg_iaload C hw (t0 := 0) rfl e4 d_AdjoinedSetsModel_wrong_157 ?_
  refine lv_iload_n hx hb d_AdjoinedSetsModel_wrong_158 rfl (lv_at hl 1 rfl) ?_
  refine lv_iload hx hb d_AdjoinedSetsModel_wrong_159 (lv_at hl 4 rfl) ?_
  refine lv_iload hx hb d_AdjoinedSetsModel_wrong_161 (lv_at hl 5 rfl) ?_
  obtain ⟨_, e5, hs⟩ := ob hs
  obtain ⟨q6, e7, hs⟩ := ob hs
  refine pg_callV C hw hl.1 ml_AdjoinedSetsModel_152 e5 (As := [.int x4, .int v3, .int x2, .int x5, .int x6]) (rest := []) (c_AdjoinedSetsModel_wantParts l g e7) rfl (rm_ok (Nat.le_of_ble_eq_true rfl) (Nat.le_of_ble_eq_true rfl)) (Nat.le_of_ble_eq_true rfl) rfl (st1 := []) rfl d_AdjoinedSetsModel_wrong_163 (fun H locs hw => ?_)
  exact k_AdjoinedSetsModel_wrong_166 C c20 hc20 hw (lv_sub hl [0, 1, 2, 3] rfl) hs

def s_AdjoinedSetsModel_wrong_112 (c20 : Nat → Int32 → Int32 → Int32 → HP → Option (Int32 × HP)) (x0 : Nat) (x2 : Int32) (x3 : Int32) (x4 : Int32) (x5 : Int32) (x6 : Int32) (x7 : Int32) (h : HP) : Option (Int32 × HP) :=
  (gR h x0 9 0).bind fun v1 =>
  (aI h v1 0 x4).bind fun v3 =>
  (kd x0 9).bind fun _ =>
  (s_AdjoinedSetsModel_goesOn x0 v3 x7 x2 x3 x5 x6 h).bind fun q6 =>
  if q6 = 0 then (
    some (x4, h))
  else (
    if x7 = 0 then (
      s_AdjoinedSetsModel_wrong_148 c20 x0 x2 x3 x4 x5 x6 h)
    else (
      if x7 = 1 then (
        s_AdjoinedSetsModel_wrong_148 c20 x0 x2 x3 x4 x5 x6 h)
      else (
        s_AdjoinedSetsModel_wrong_166 c20 x0 x2 x3 x4 h)))
set_option maxHeartbeats 4000000 in
set_option maxRecDepth 100000 in
theorem k_AdjoinedSetsModel_wrong_112 {x0 : Nat} {x2 : Int32} {x3 : Int32} {x4 : Int32} {x5 : Int32} {x6 : Int32} {x7 : Int32} {h : HP} {z : Int32 × HP} (C : CX g R_AdjoinedSetsModel b_AdjoinedSetsModel_wrong 8 (some .int) p s m args meth c) (c20 : Nat → Int32 → Int32 → Int32 → HP → Option (Int32 × HP))
    (hc20 : ∀ {x0 : Nat} {x2 : Int32} {x3 : Int32} {x4 : Int32} {h : HP} {H : Heap} {locs : List Loc} {ls : Array Slot}, WD g h s.heap H locs → lv_has ls 8 [(0, .ref (aD g x0)), (2, .int x2), (3, .int x3), (4, .int x4)] → c20 x0 x2 x3 x4 h = some z → W p l e (rmS 3 69) s m args below meth c H locs 0 0 (MQ below (Qq g (some (.int z.1)) z.2) args s 0 0 (inA g)) (F0 m 20 ls [])) {H : Heap} {locs : List Loc} {ls : Array Slot} (hw : WD g h s.heap H locs) (hl : lv_has ls 8 [(0, .ref (aD g x0)), (2, .int x2), (3, .int x3), (4, .int x4), (5, .int x5), (6, .int x6), (7, .int x7)]) (hs : s_AdjoinedSetsModel_wrong_112 c20 x0 x2 x3 x4 x5 x6 x7 h = some z) : W p l e (rmS 3 69) s m args below meth c H locs 0 0 (MQ below (Qq g (some (.int z.1)) z.2) args s 0 0 (inA g)) (F0 m 112 ls []) := by
  unfold s_AdjoinedSetsModel_wrong_112 at hs
  have hx := C.1
  have hb := C.2.1
  refine lv_aload_n hx hb d_AdjoinedSetsModel_wrong_112 rfl (lv_at hl 0 rfl) ?_
  refine lv_aload_n hx hb d_AdjoinedSetsModel_wrong_113 rfl (lv_at hl 0 rfl) ?_
  obtain ⟨v1, e2, hs⟩ := ob hs
  refine pg_getR C hw fl_AdjoinedSetsModel_7 e2 d_AdjoinedSetsModel_wrong_114 ?_
  refine lv_iload hx hb d_AdjoinedSetsModel_wrong_117 (lv_at hl 3 rfl) ?_
  obtain ⟨v3, e4, hs⟩ := ob hs
  refine pg_iaload C hw (t0 := 0) rfl e4 d_AdjoinedSetsModel_wrong_119 ?_
  refine lv_iload hx hb d_AdjoinedSetsModel_wrong_120 (lv_at hl 6 rfl) ?_
  refine lv_iload_n hx hb d_AdjoinedSetsModel_wrong_122 rfl (lv_at hl 1 rfl) ?_
  refine lv_iload_n hx hb d_AdjoinedSetsModel_wrong_123 rfl (lv_at hl 2 rfl) ?_
  refine lv_iload hx hb d_AdjoinedSetsModel_wrong_124 (lv_at hl 4 rfl) ?_
  refine lv_iload hx hb d_AdjoinedSetsModel_wrong_126 (lv_at hl 5 rfl) ?_
  obtain ⟨_, e5, hs⟩ := ob hs
  obtain ⟨q6, e7, hs⟩ := ob hs
  refine pg_callV C hw hl.1 ml_AdjoinedSetsModel_148 e5 (As := [.int v3, .int x7, .int x2, .int x3, .int x5, .int x6]) (rest := []) (c_AdjoinedSetsModel_goesOn l g e7) rfl (rm_ok (Nat.le_of_ble_eq_true rfl) (Nat.le_of_ble_eq_true rfl)) (Nat.le_of_ble_eq_true rfl) rfl (st1 := [.int q6]) rfl d_AdjoinedSetsModel_wrong_128 (fun H locs hw => ?_)
  refine lv_if_ne hx hb d_AdjoinedSetsModel_wrong_131 (tgt := 137) (by decide) (fun hc => ?_) (fun hc => ?_)
  · have hs := oi_f hc hs
    refine lv_iload hx hb d_AdjoinedSetsModel_wrong_137 (lv_at hl 6 rfl) ?_
    refine lv_if_eq hx hb d_AdjoinedSetsModel_wrong_139 (tgt := 148) (by decide) (fun hc => ?_) (fun hc => ?_)
    · have hs := oi_t hc hs
      exact k_AdjoinedSetsModel_wrong_148 C c20 hc20 hw (lv_sub hl [0, 1, 2, 3, 4, 5] rfl) hs
    · have hs := oi_f hc hs
      refine lv_iload hx hb d_AdjoinedSetsModel_wrong_142 (lv_at hl 6 rfl) ?_
      refine lv_iconst (v := 1) hx hb d_AdjoinedSetsModel_wrong_144 (by decide) ?_
      refine lv_icmp_ne hx hb d_AdjoinedSetsModel_wrong_145 (tgt := 166) (by decide) (fun hc => ?_) (fun hc => ?_)
      · have hs := oi_f hc hs
        exact k_AdjoinedSetsModel_wrong_166 C c20 hc20 hw (lv_sub hl [0, 1, 2, 3] rfl) hs
      · have hs := oi_t hc hs
        exact k_AdjoinedSetsModel_wrong_148 C c20 hc20 hw (lv_sub hl [0, 1, 2, 3, 4, 5] rfl) hs
  · have hs := oi_t hc hs
    refine lv_iload hx hb d_AdjoinedSetsModel_wrong_134 (lv_at hl 3 rfl) ?_
    obtain rfl := Option.some.inj hs
    exact pg_iret C hw d_AdjoinedSetsModel_wrong_136

def s_AdjoinedSetsModel_wrong_20 : Nat → Nat → Int32 → Int32 → Int32 → HP → Option (Int32 × HP)
  | 0 => fun _ _ _ _ _ => none
  | k + 1 => fun x0 x2 x3 x4 h =>
  (gI h x0 9 7).bind fun v1 =>
  if v1 ≤ 0 then (
    (gI h x0 9 1).bind fun v3 =>
    if v3 ≤ x4 then (
      some ((-1), h))
    else (
      some (x4, h)))
  else (
    (gI h x0 9 1).bind fun v5 =>
    if x4 = v5 then (
      some (x4, h))
    else (
      (gI h x0 9 7).bind fun v7 =>
      (pI h x0 9 7 (v7 - 1)).bind fun h9 =>
      (gR h9 x0 9 9).bind fun v11 =>
      (gI h9 x0 9 7).bind fun v13 =>
      (aI h9 v11 0 v13).bind fun v15 =>
      (gR h9 x0 9 10).bind fun v17 =>
      (gI h9 x0 9 7).bind fun v19 =>
      (aI h9 v17 0 v19).bind fun v21 =>
      (gR h9 x0 9 8).bind fun v23 =>
      (gI h9 x0 9 7).bind fun v25 =>
      (aI h9 v23 0 v25).bind fun v27 =>
      (gR h9 x0 9 11).bind fun v29 =>
      (gI h9 x0 9 7).bind fun v31 =>
      (aI h9 v29 0 v31).bind fun v33 =>
      (pI h9 x0 9 12 (v33 + 1)).bind fun h35 =>
      if v27 = 2 then (
        s_AdjoinedSetsModel_wrong_112 (s_AdjoinedSetsModel_wrong_20 k) x0 x2 x3 x4 v15 v21 v27 h35)
      else (
        (gI h35 x0 9 12).bind fun v37 =>
        if 13 < v37 then (
          some (x4, h35))
        else (
          s_AdjoinedSetsModel_wrong_112 (s_AdjoinedSetsModel_wrong_20 k) x0 x2 x3 x4 v15 v21 v27 h35))))
set_option maxHeartbeats 4000000 in
set_option maxRecDepth 100000 in
theorem k_AdjoinedSetsModel_wrong_20 {z : Int32 × HP} (C : CX g R_AdjoinedSetsModel b_AdjoinedSetsModel_wrong 8 (some .int) p s m args meth c) : ∀ (k : Nat) {x0 : Nat} {x2 : Int32} {x3 : Int32} {x4 : Int32} {h : HP} {H : Heap} {locs : List Loc} {ls : Array Slot}, WD g h s.heap H locs → lv_has ls 8 [(0, .ref (aD g x0)), (2, .int x2), (3, .int x3), (4, .int x4)] → s_AdjoinedSetsModel_wrong_20 k x0 x2 x3 x4 h = some z → W p l e (rmS 3 69) s m args below meth c H locs 0 0 (MQ below (Qq g (some (.int z.1)) z.2) args s 0 0 (inA g)) (F0 m 20 ls []) := by
  have hx := C.1
  have hb := C.2.1
  intro k
  induction k with
  | zero =>
    intro x0 x2 x3 x4 h H locs ls hw hl hs
    exact (no_s hs).elim
  | succ k ih =>
    intro x0 x2 x3 x4 h H locs ls hw hl hs
    rw [s_AdjoinedSetsModel_wrong_20] at hs
    refine lv_aload_n hx hb d_AdjoinedSetsModel_wrong_20 rfl (lv_at hl 0 rfl) ?_
    obtain ⟨v1, e2, hs⟩ := ob hs
    refine pg_getI C hw fl_AdjoinedSetsModel_132 e2 d_AdjoinedSetsModel_wrong_21 ?_
    refine lv_if_le hx hb d_AdjoinedSetsModel_wrong_24 (tgt := 172) (by decide) (fun hc => ?_) (fun hc => ?_)
    · have hs := oi_t hc hs
      refine lv_iload hx hb d_AdjoinedSetsModel_wrong_172 (lv_at hl 3 rfl) ?_
      refine lv_aload_n hx hb d_AdjoinedSetsModel_wrong_174 rfl (lv_at hl 0 rfl) ?_
      obtain ⟨v3, e4, hs⟩ := ob hs
      refine pg_getI C hw fl_AdjoinedSetsModel_124 e4 d_AdjoinedSetsModel_wrong_175 ?_
      refine lv_icmp_ge hx hb d_AdjoinedSetsModel_wrong_178 (tgt := 186) (by decide) (fun hc => ?_) (fun hc => ?_)
      · have hs := oi_t hc hs
        refine lv_iconst (v := (-1)) hx hb d_AdjoinedSetsModel_wrong_186 (by decide) ?_
        obtain rfl := Option.some.inj hs
        exact pg_iret C hw d_AdjoinedSetsModel_wrong_187
      · have hs := oi_f hc hs
        refine lv_iload hx hb d_AdjoinedSetsModel_wrong_181 (lv_at hl 3 rfl) ?_
        refine lv_goto hx hb d_AdjoinedSetsModel_wrong_183 (tgt := 187) (by decide) ?_
        obtain rfl := Option.some.inj hs
        exact pg_iret C hw d_AdjoinedSetsModel_wrong_187
    · have hs := oi_f hc hs
      refine lv_iload hx hb d_AdjoinedSetsModel_wrong_27 (lv_at hl 3 rfl) ?_
      refine lv_aload_n hx hb d_AdjoinedSetsModel_wrong_29 rfl (lv_at hl 0 rfl) ?_
      obtain ⟨v5, e6, hs⟩ := ob hs
      refine pg_getI C hw fl_AdjoinedSetsModel_124 e6 d_AdjoinedSetsModel_wrong_30 ?_
      refine lv_icmp_ne hx hb d_AdjoinedSetsModel_wrong_33 (tgt := 39) (by decide) (fun hc => ?_) (fun hc => ?_)
      · have hs := oi_f hc hs
        refine lv_aload_n hx hb d_AdjoinedSetsModel_wrong_39 rfl (lv_at hl 0 rfl) ?_
        refine lv_dup hx hb d_AdjoinedSetsModel_wrong_40 rfl ?_
        obtain ⟨v7, e8, hs⟩ := ob hs
        refine pg_getI C hw fl_AdjoinedSetsModel_132 e8 d_AdjoinedSetsModel_wrong_41 ?_
        refine lv_iconst (v := 1) hx hb d_AdjoinedSetsModel_wrong_44 (by decide) ?_
        refine lv_isub hx hb d_AdjoinedSetsModel_wrong_45 ?_
        obtain ⟨h9, e10, hs⟩ := ob hs
        refine pg_putI C hw pl_AdjoinedSetsModel_132 e10 d_AdjoinedSetsModel_wrong_46 (fun H locs hw => ?_)
        refine lv_aload_n hx hb d_AdjoinedSetsModel_wrong_49 rfl (lv_at hl 0 rfl) ?_
        obtain ⟨v11, e12, hs⟩ := ob hs
        refine pg_getR C hw fl_AdjoinedSetsModel_29 e12 d_AdjoinedSetsModel_wrong_50 ?_
        refine lv_aload_n hx hb d_AdjoinedSetsModel_wrong_53 rfl (lv_at hl 0 rfl) ?_
        obtain ⟨v13, e14, hs⟩ := ob hs
        refine pg_getI C hw fl_AdjoinedSetsModel_132 e14 d_AdjoinedSetsModel_wrong_54 ?_
        obtain ⟨v15, e16, hs⟩ := ob hs
        refine pg_iaload C hw (t0 := 0) rfl e16 d_AdjoinedSetsModel_wrong_57 ?_
        refine lv_istore hx hb d_AdjoinedSetsModel_wrong_58 hl (by decide) (lv' := [(5, .int v15), (0, .ref (aD g x0)), (2, .int x2), (3, .int x3), (4, .int x4)]) rfl (fun ls hl => ?_)
        refine lv_aload_n hx hb d_AdjoinedSetsModel_wrong_60 rfl (lv_at hl 1 rfl) ?_
        obtain ⟨v17, e18, hs⟩ := ob hs
        refine pg_getR C hw fl_AdjoinedSetsModel_32 e18 d_AdjoinedSetsModel_wrong_61 ?_
        refine lv_aload_n hx hb d_AdjoinedSetsModel_wrong_64 rfl (lv_at hl 1 rfl) ?_
        obtain ⟨v19, e20, hs⟩ := ob hs
        refine pg_getI C hw fl_AdjoinedSetsModel_132 e20 d_AdjoinedSetsModel_wrong_65 ?_
        obtain ⟨v21, e22, hs⟩ := ob hs
        refine pg_iaload C hw (t0 := 0) rfl e22 d_AdjoinedSetsModel_wrong_68 ?_
        refine lv_istore hx hb d_AdjoinedSetsModel_wrong_69 hl (by decide) (lv' := [(6, .int v21), (5, .int v15), (0, .ref (aD g x0)), (2, .int x2), (3, .int x3), (4, .int x4)]) rfl (fun ls hl => ?_)
        refine lv_aload_n hx hb d_AdjoinedSetsModel_wrong_71 rfl (lv_at hl 2 rfl) ?_
        obtain ⟨v23, e24, hs⟩ := ob hs
        refine pg_getR C hw fl_AdjoinedSetsModel_26 e24 d_AdjoinedSetsModel_wrong_72 ?_
        refine lv_aload_n hx hb d_AdjoinedSetsModel_wrong_75 rfl (lv_at hl 2 rfl) ?_
        obtain ⟨v25, e26, hs⟩ := ob hs
        refine pg_getI C hw fl_AdjoinedSetsModel_132 e26 d_AdjoinedSetsModel_wrong_76 ?_
        obtain ⟨v27, e28, hs⟩ := ob hs
        refine pg_iaload C hw (t0 := 0) rfl e28 d_AdjoinedSetsModel_wrong_79 ?_
        refine lv_istore hx hb d_AdjoinedSetsModel_wrong_80 hl (by decide) (lv' := [(7, .int v27), (6, .int v21), (5, .int v15), (0, .ref (aD g x0)), (2, .int x2), (3, .int x3), (4, .int x4)]) rfl (fun ls hl => ?_)
        refine lv_aload_n hx hb d_AdjoinedSetsModel_wrong_82 rfl (lv_at hl 3 rfl) ?_
        refine lv_aload_n hx hb d_AdjoinedSetsModel_wrong_83 rfl (lv_at hl 3 rfl) ?_
        obtain ⟨v29, e30, hs⟩ := ob hs
        refine pg_getR C hw fl_AdjoinedSetsModel_35 e30 d_AdjoinedSetsModel_wrong_84 ?_
        refine lv_aload_n hx hb d_AdjoinedSetsModel_wrong_87 rfl (lv_at hl 3 rfl) ?_
        obtain ⟨v31, e32, hs⟩ := ob hs
        refine pg_getI C hw fl_AdjoinedSetsModel_132 e32 d_AdjoinedSetsModel_wrong_88 ?_
        obtain ⟨v33, e34, hs⟩ := ob hs
        refine pg_iaload C hw (t0 := 0) rfl e34 d_AdjoinedSetsModel_wrong_91 ?_
        refine lv_iconst (v := 1) hx hb d_AdjoinedSetsModel_wrong_92 (by decide) ?_
        refine lv_iadd hx hb d_AdjoinedSetsModel_wrong_93 ?_
        obtain ⟨h35, e36, hs⟩ := ob hs
        refine pg_putI C hw pl_AdjoinedSetsModel_135 e36 d_AdjoinedSetsModel_wrong_94 (fun H locs hw => ?_)
        refine lv_iload hx hb d_AdjoinedSetsModel_wrong_97 (lv_at hl 0 rfl) ?_
        refine lv_iconst (v := 2) hx hb d_AdjoinedSetsModel_wrong_99 (by decide) ?_
        refine lv_icmp_eq hx hb d_AdjoinedSetsModel_wrong_100 (tgt := 112) (by decide) (fun hc => ?_) (fun hc => ?_)
        · have hs := oi_t hc hs
          exact k_AdjoinedSetsModel_wrong_112 C (s_AdjoinedSetsModel_wrong_20 k) ih hw (lv_sub hl [3, 4, 5, 6, 2, 1, 0] rfl) hs
        · have hs := oi_f hc hs
          refine lv_aload_n hx hb d_AdjoinedSetsModel_wrong_103 rfl (lv_at hl 3 rfl) ?_
          obtain ⟨v37, e38, hs⟩ := ob hs
          refine pg_getI C hw fl_AdjoinedSetsModel_135 e38 d_AdjoinedSetsModel_wrong_104 ?_
          refine lv_bipush (v := 13) hx hb d_AdjoinedSetsModel_wrong_107 (by decide) ?_
          refine lv_icmp_gt hx hb d_AdjoinedSetsModel_wrong_109 (tgt := 134) (by decide) (fun hc => ?_) (fun hc => ?_)
          · have hs := oi_t hc hs
            refine lv_iload hx hb d_AdjoinedSetsModel_wrong_134 (lv_at hl 6 rfl) ?_
            obtain rfl := Option.some.inj hs
            exact pg_iret C hw d_AdjoinedSetsModel_wrong_136
          · have hs := oi_f hc hs
            exact k_AdjoinedSetsModel_wrong_112 C (s_AdjoinedSetsModel_wrong_20 k) ih hw (lv_sub hl [3, 4, 5, 6, 2, 1, 0] rfl) hs
      · have hs := oi_t hc hs
        refine lv_iload hx hb d_AdjoinedSetsModel_wrong_36 (lv_at hl 3 rfl) ?_
        obtain rfl := Option.some.inj hs
        exact pg_iret C hw d_AdjoinedSetsModel_wrong_38

def s_AdjoinedSetsModel_wrong (x0 : Nat) (x1 : Int32) (x2 : Int32) (x3 : Int32) (h : HP) : Option (Int32 × HP) :=
  (pI h x0 9 7 0).bind fun h1 =>
  (pI h1 x0 9 12 1).bind fun h3 =>
  (kd x0 9).bind fun _ =>
  (s_AdjoinedSetsModel_want x0 x1 0 0 h3).bind fun q6 =>
  s_AdjoinedSetsModel_wrong_20 20000 x0 x2 x3 0 q6
set_option maxHeartbeats 4000000 in
set_option maxRecDepth 100000 in
theorem c_AdjoinedSetsModel_wrong (l : Launch) (g : GG) {x0 : Nat} {x1 : Int32} {x2 : Int32} {x3 : Int32} {h : HP} {z : Int32 × HP} (hs : s_AdjoinedSetsModel_wrong x0 x1 x2 x3 h = some z) : Ct l g y_AdjoinedSetsModel_wrong w_AdjoinedSetsModel_wrong (rmS 3 69) [.ref (aD g x0), .int x1, .int x2, .int x3] h (some (.int z.1)) z.2 := by
  refine Ct.of (own := R_AdjoinedSetsModel) (by decide) rfl rfl (Nat.le_of_ble_eq_true rfl) ?_
  intro p e s m args below meth c ls C hl hw
  have hx := C.1
  have hb := C.2.1
  have hl : lv_has ls 8 [(0, .ref (aD g x0)), (1, .int x1), (2, .int x2), (3, .int x3)] := hl
  unfold s_AdjoinedSetsModel_wrong at hs
  refine lv_aload_n hx hb d_AdjoinedSetsModel_wrong_0 rfl (lv_at hl 0 rfl) ?_
  refine lv_iconst (v := 0) hx hb d_AdjoinedSetsModel_wrong_1 (by decide) ?_
  obtain ⟨h1, e2, hs⟩ := ob hs
  refine pg_putI C hw pl_AdjoinedSetsModel_132 e2 d_AdjoinedSetsModel_wrong_2 (fun H locs hw => ?_)
  refine lv_aload_n hx hb d_AdjoinedSetsModel_wrong_5 rfl (lv_at hl 0 rfl) ?_
  refine lv_iconst (v := 1) hx hb d_AdjoinedSetsModel_wrong_6 (by decide) ?_
  obtain ⟨h3, e4, hs⟩ := ob hs
  refine pg_putI C hw pl_AdjoinedSetsModel_135 e4 d_AdjoinedSetsModel_wrong_7 (fun H locs hw => ?_)
  refine lv_aload_n hx hb d_AdjoinedSetsModel_wrong_10 rfl (lv_at hl 0 rfl) ?_
  refine lv_iload_n hx hb d_AdjoinedSetsModel_wrong_11 rfl (lv_at hl 1 rfl) ?_
  refine lv_iconst (v := 0) hx hb d_AdjoinedSetsModel_wrong_12 (by decide) ?_
  refine lv_iconst (v := 0) hx hb d_AdjoinedSetsModel_wrong_13 (by decide) ?_
  obtain ⟨_, e5, hs⟩ := ob hs
  obtain ⟨q6, e7, hs⟩ := ob hs
  refine pg_callV C hw hl.1 ml_AdjoinedSetsModel_141 e5 (As := [.int x1, .int 0, .int 0]) (rest := []) (c_AdjoinedSetsModel_want l g e7) rfl (rm_ok (Nat.le_of_ble_eq_true rfl) (Nat.le_of_ble_eq_true rfl)) (Nat.le_of_ble_eq_true rfl) rfl (st1 := []) rfl d_AdjoinedSetsModel_wrong_14 (fun H locs hw => ?_)
  refine lv_iconst (v := 0) hx hb d_AdjoinedSetsModel_wrong_17 (by decide) ?_
  refine lv_istore hx hb d_AdjoinedSetsModel_wrong_18 hl (by decide) (lv' := [(4, .int 0), (0, .ref (aD g x0)), (1, .int x1), (2, .int x2), (3, .int x3)]) rfl (fun ls hl => ?_)
  exact k_AdjoinedSetsModel_wrong_20 C 20000 hw (lv_sub hl [1, 3, 4, 0] rfl) hs

end
