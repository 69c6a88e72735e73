section
variable {p : Program} {l : Launch} {e : Env} {s : State} {m : MethodId} {args : Array Value} {below : List Frame} {meth : Method} {c : Code} {g : GG}
theorem d_AdjoinedSetsModel_replaced_0 : decode b_AdjoinedSetsModel_replaced 0 = .ok (.aload_n 0, 1) := by decide +kernel
theorem d_AdjoinedSetsModel_replaced_1 : decode b_AdjoinedSetsModel_replaced 1 = .ok (.iload_n 1, 1) := by decide +kernel
theorem d_AdjoinedSetsModel_replaced_2 : decode b_AdjoinedSetsModel_replaced 2 = .ok (.invokevirtual 234, 3) := by decide +kernel
theorem d_AdjoinedSetsModel_replaced_5 : decode b_AdjoinedSetsModel_replaced 5 = .ok (.istore_n 3, 1) := by decide +kernel
theorem d_AdjoinedSetsModel_replaced_6 : decode b_AdjoinedSetsModel_replaced 6 = .ok (.iload_n 2, 1) := by decide +kernel
theorem d_AdjoinedSetsModel_replaced_7 : decode b_AdjoinedSetsModel_replaced 7 = .ok (.istore 4, 2) := by decide +kernel
theorem d_AdjoinedSetsModel_replaced_9 : decode b_AdjoinedSetsModel_replaced 9 = .ok (.iload_n 1, 1) := by decide +kernel
theorem d_AdjoinedSetsModel_replaced_10 : decode b_AdjoinedSetsModel_replaced 10 = .ok (.istore 5, 2) := by decide +kernel
theorem d_AdjoinedSetsModel_replaced_12 : decode b_AdjoinedSetsModel_replaced 12 = .ok (.iload 5, 2) := by decide +kernel
theorem d_AdjoinedSetsModel_replaced_14 : decode b_AdjoinedSetsModel_replaced 14 = .ok (.iload_n 3, 1) := by decide +kernel
theorem d_AdjoinedSetsModel_replaced_15 : decode b_AdjoinedSetsModel_replaced 15 = .ok (.if_icmp .ge 160, 3) := by decide +kernel
theorem d_AdjoinedSetsModel_replaced_18 : decode b_AdjoinedSetsModel_replaced 18 = .ok (.aload_n 0, 1) := by decide +kernel
theorem d_AdjoinedSetsModel_replaced_19 : decode b_AdjoinedSetsModel_replaced 19 = .ok (.getfield 7, 3) := by decide +kernel
theorem d_AdjoinedSetsModel_replaced_22 : decode b_AdjoinedSetsModel_replaced 22 = .ok (.iload 5, 2) := by decide +kernel
theorem d_AdjoinedSetsModel_replaced_24 : decode b_AdjoinedSetsModel_replaced 24 = .ok (.iaload, 1) := by decide +kernel
theorem d_AdjoinedSetsModel_replaced_25 : decode b_AdjoinedSetsModel_replaced 25 = .ok (.bipush 97, 2) := by decide +kernel
theorem d_AdjoinedSetsModel_replaced_27 : decode b_AdjoinedSetsModel_replaced 27 = .ok (.isub, 1) := by decide +kernel
theorem d_AdjoinedSetsModel_replaced_28 : decode b_AdjoinedSetsModel_replaced 28 = .ok (.istore 6, 2) := by decide +kernel
theorem d_AdjoinedSetsModel_replaced_30 : decode b_AdjoinedSetsModel_replaced 30 = .ok (.aload_n 0, 1) := by decide +kernel
theorem d_AdjoinedSetsModel_replaced_31 : decode b_AdjoinedSetsModel_replaced 31 = .ok (.getfield 38, 3) := by decide +kernel
theorem d_AdjoinedSetsModel_replaced_34 : decode b_AdjoinedSetsModel_replaced 34 = .ok (.iload 5, 2) := by decide +kernel
theorem d_AdjoinedSetsModel_replaced_36 : decode b_AdjoinedSetsModel_replaced 36 = .ok (.iload_n 1, 1) := by decide +kernel
theorem d_AdjoinedSetsModel_replaced_37 : decode b_AdjoinedSetsModel_replaced 37 = .ok (.isub, 1) := by decide +kernel
theorem d_AdjoinedSetsModel_replaced_38 : decode b_AdjoinedSetsModel_replaced 38 = .ok (.baload, 1) := by decide +kernel
theorem d_AdjoinedSetsModel_replaced_39 : decode b_AdjoinedSetsModel_replaced 39 = .ok (.ifCond .eq 30, 3) := by decide +kernel
theorem d_AdjoinedSetsModel_replaced_42 : decode b_AdjoinedSetsModel_replaced 42 = .ok (.aload_n 0, 1) := by decide +kernel
theorem d_AdjoinedSetsModel_replaced_43 : decode b_AdjoinedSetsModel_replaced 43 = .ok (.getfield 42, 3) := by decide +kernel
theorem d_AdjoinedSetsModel_replaced_46 : decode b_AdjoinedSetsModel_replaced 46 = .ok (.iload 5, 2) := by decide +kernel
theorem d_AdjoinedSetsModel_replaced_48 : decode b_AdjoinedSetsModel_replaced 48 = .ok (.iload_n 1, 1) := by decide +kernel
theorem d_AdjoinedSetsModel_replaced_49 : decode b_AdjoinedSetsModel_replaced 49 = .ok (.isub, 1) := by decide +kernel
theorem d_AdjoinedSetsModel_replaced_50 : decode b_AdjoinedSetsModel_replaced 50 = .ok (.iaload, 1) := by decide +kernel
theorem d_AdjoinedSetsModel_replaced_51 : decode b_AdjoinedSetsModel_replaced 51 = .ok (.aload_n 0, 1) := by decide +kernel
theorem d_AdjoinedSetsModel_replaced_52 : decode b_AdjoinedSetsModel_replaced 52 = .ok (.getfield 7, 3) := by decide +kernel
theorem d_AdjoinedSetsModel_replaced_55 : decode b_AdjoinedSetsModel_replaced 55 = .ok (.iload 5, 2) := by decide +kernel
theorem d_AdjoinedSetsModel_replaced_57 : decode b_AdjoinedSetsModel_replaced 57 = .ok (.iaload, 1) := by decide +kernel
theorem d_AdjoinedSetsModel_replaced_58 : decode b_AdjoinedSetsModel_replaced 58 = .ok (.invokestatic 138, 3) := by decide +kernel
theorem d_AdjoinedSetsModel_replaced_61 : decode b_AdjoinedSetsModel_replaced 61 = .ok (.iand, 1) := by decide +kernel
theorem d_AdjoinedSetsModel_replaced_62 : decode b_AdjoinedSetsModel_replaced 62 = .ok (.ifCond .ne 7, 3) := by decide +kernel
theorem d_AdjoinedSetsModel_replaced_65 : decode b_AdjoinedSetsModel_replaced 65 = .ok (.iconst 1, 1) := by decide +kernel
theorem d_AdjoinedSetsModel_replaced_66 : decode b_AdjoinedSetsModel_replaced 66 = .ok (.goto 4, 3) := by decide +kernel
theorem d_AdjoinedSetsModel_replaced_69 : decode b_AdjoinedSetsModel_replaced 69 = .ok (.iconst 0, 1) := by decide +kernel
theorem d_AdjoinedSetsModel_replaced_70 : decode b_AdjoinedSetsModel_replaced 70 = .ok (.istore 7, 2) := by decide +kernel
theorem d_AdjoinedSetsModel_replaced_72 : decode b_AdjoinedSetsModel_replaced 72 = .ok (.iload 7, 2) := by decide +kernel
theorem d_AdjoinedSetsModel_replaced_74 : decode b_AdjoinedSetsModel_replaced 74 = .ok (.ifCond .eq 73, 3) := by decide +kernel
theorem d_AdjoinedSetsModel_replaced_77 : decode b_AdjoinedSetsModel_replaced 77 = .ok (.aload_n 0, 1) := by decide +kernel
theorem d_AdjoinedSetsModel_replaced_78 : decode b_AdjoinedSetsModel_replaced 78 = .ok (.getfield 78, 3) := by decide +kernel
theorem d_AdjoinedSetsModel_replaced_81 : decode b_AdjoinedSetsModel_replaced 81 = .ok (.iload 6, 2) := by decide +kernel
theorem d_AdjoinedSetsModel_replaced_83 : decode b_AdjoinedSetsModel_replaced 83 = .ok (.iaload, 1) := by decide +kernel
theorem d_AdjoinedSetsModel_replaced_84 : decode b_AdjoinedSetsModel_replaced 84 = .ok (.ifCond .le 63, 3) := by decide +kernel
theorem d_AdjoinedSetsModel_replaced_87 : decode b_AdjoinedSetsModel_replaced 87 = .ok (.aload_n 0, 1) := by decide +kernel
theorem d_AdjoinedSetsModel_replaced_88 : decode b_AdjoinedSetsModel_replaced 88 = .ok (.getfield 42, 3) := by decide +kernel
theorem d_AdjoinedSetsModel_replaced_91 : decode b_AdjoinedSetsModel_replaced 91 = .ok (.iload 5, 2) := by decide +kernel
theorem d_AdjoinedSetsModel_replaced_93 : decode b_AdjoinedSetsModel_replaced 93 = .ok (.iload_n 1, 1) := by decide +kernel
theorem d_AdjoinedSetsModel_replaced_94 : decode b_AdjoinedSetsModel_replaced 94 = .ok (.isub, 1) := by decide +kernel
theorem d_AdjoinedSetsModel_replaced_95 : decode b_AdjoinedSetsModel_replaced 95 = .ok (.iaload, 1) := by decide +kernel
theorem d_AdjoinedSetsModel_replaced_96 : decode b_AdjoinedSetsModel_replaced 96 = .ok (.aload_n 0, 1) := by decide +kernel
theorem d_AdjoinedSetsModel_replaced_97 : decode b_AdjoinedSetsModel_replaced 97 = .ok (.getfield 81, 3) := by decide +kernel
theorem d_AdjoinedSetsModel_replaced_100 : decode b_AdjoinedSetsModel_replaced 100 = .ok (.iload 6, 2) := by decide +kernel
theorem d_AdjoinedSetsModel_replaced_102 : decode b_AdjoinedSetsModel_replaced 102 = .ok (.iaload, 1) := by decide +kernel
theorem d_AdjoinedSetsModel_replaced_103 : decode b_AdjoinedSetsModel_replaced 103 = .ok (.iand, 1) := by decide +kernel
theorem d_AdjoinedSetsModel_replaced_104 : decode b_AdjoinedSetsModel_replaced 104 = .ok (.ifCond .ne 26, 3) := by decide +kernel
theorem d_AdjoinedSetsModel_replaced_107 : decode b_AdjoinedSetsModel_replaced 107 = .ok (.aload_n 0, 1) := by decide +kernel
theorem d_AdjoinedSetsModel_replaced_108 : decode b_AdjoinedSetsModel_replaced 108 = .ok (.iload 4, 2) := by decide +kernel
theorem d_AdjoinedSetsModel_replaced_110 : decode b_AdjoinedSetsModel_replaced 110 = .ok (.aload_n 0, 1) := by decide +kernel
theorem d_AdjoinedSetsModel_replaced_111 : decode b_AdjoinedSetsModel_replaced 111 = .ok (.getfield 75, 3) := by decide +kernel
theorem d_AdjoinedSetsModel_replaced_114 : decode b_AdjoinedSetsModel_replaced 114 = .ok (.iload 6, 2) := by decide +kernel
theorem d_AdjoinedSetsModel_replaced_116 : decode b_AdjoinedSetsModel_replaced 116 = .ok (.iaload, 1) := by decide +kernel
theorem d_AdjoinedSetsModel_replaced_117 : decode b_AdjoinedSetsModel_replaced 117 = .ok (.aload_n 0, 1) := by decide +kernel
theorem d_AdjoinedSetsModel_replaced_118 : decode b_AdjoinedSetsModel_replaced 118 = .ok (.getfield 78, 3) := by decide +kernel
theorem d_AdjoinedSetsModel_replaced_121 : decode b_AdjoinedSetsModel_replaced 121 = .ok (.iload 6, 2) := by decide +kernel
theorem d_AdjoinedSetsModel_replaced_123 : decode b_AdjoinedSetsModel_replaced 123 = .ok (.iaload, 1) := by decide +kernel
theorem d_AdjoinedSetsModel_replaced_124 : decode b_AdjoinedSetsModel_replaced 124 = .ok (.invokevirtual 240, 3) := by decide +kernel
theorem d_AdjoinedSetsModel_replaced_127 : decode b_AdjoinedSetsModel_replaced 127 = .ok (.ifCond .ne 5, 3) := by decide +kernel
theorem d_AdjoinedSetsModel_replaced_130 : decode b_AdjoinedSetsModel_replaced 130 = .ok (.iconst (-1), 1) := by decide +kernel
theorem d_AdjoinedSetsModel_replaced_131 : decode b_AdjoinedSetsModel_replaced 131 = .ok (.ireturn, 1) := by decide +kernel
theorem d_AdjoinedSetsModel_replaced_132 : decode b_AdjoinedSetsModel_replaced 132 = .ok (.iload 4, 2) := by decide +kernel
theorem d_AdjoinedSetsModel_replaced_134 : decode b_AdjoinedSetsModel_replaced 134 = .ok (.aload_n 0, 1) := by decide +kernel
theorem d_AdjoinedSetsModel_replaced_135 : decode b_AdjoinedSetsModel_replaced 135 = .ok (.getfield 78, 3) := by decide +kernel
theorem d_AdjoinedSetsModel_replaced_138 : decode b_AdjoinedSetsModel_replaced 138 = .ok (.iload 6, 2) := by decide +kernel
theorem d_AdjoinedSetsModel_replaced_140 : decode b_AdjoinedSetsModel_replaced 140 = .ok (.iaload, 1) := by decide +kernel
theorem d_AdjoinedSetsModel_replaced_141 : decode b_AdjoinedSetsModel_replaced 141 = .ok (.iadd, 1) := by decide +kernel
theorem d_AdjoinedSetsModel_replaced_142 : decode b_AdjoinedSetsModel_replaced 142 = .ok (.istore 4, 2) := by decide +kernel
theorem d_AdjoinedSetsModel_replaced_144 : decode b_AdjoinedSetsModel_replaced 144 = .ok (.goto 25, 3) := by decide +kernel
theorem d_AdjoinedSetsModel_replaced_147 : decode b_AdjoinedSetsModel_replaced 147 = .ok (.aload_n 0, 1) := by decide +kernel
theorem d_AdjoinedSetsModel_replaced_148 : decode b_AdjoinedSetsModel_replaced 148 = .ok (.getfield 7, 3) := by decide +kernel
theorem d_AdjoinedSetsModel_replaced_151 : decode b_AdjoinedSetsModel_replaced 151 = .ok (.iload 4, 2) := by decide +kernel
theorem d_AdjoinedSetsModel_replaced_153 : decode b_AdjoinedSetsModel_replaced 153 = .ok (.iaload, 1) := by decide +kernel
theorem d_AdjoinedSetsModel_replaced_154 : decode b_AdjoinedSetsModel_replaced 154 = .ok (.aload_n 0, 1) := by decide +kernel
theorem d_AdjoinedSetsModel_replaced_155 : decode b_AdjoinedSetsModel_replaced 155 = .ok (.getfield 7, 3) := by decide +kernel
theorem d_AdjoinedSetsModel_replaced_158 : decode b_AdjoinedSetsModel_replaced 158 = .ok (.iload 5, 2) := by decide +kernel
theorem d_AdjoinedSetsModel_replaced_160 : decode b_AdjoinedSetsModel_replaced 160 = .ok (.iaload, 1) := by decide +kernel
theorem d_AdjoinedSetsModel_replaced_161 : decode b_AdjoinedSetsModel_replaced 161 = .ok (.if_icmp .eq 5, 3) := by decide +kernel
theorem d_AdjoinedSetsModel_replaced_164 : decode b_AdjoinedSetsModel_replaced 164 = .ok (.iconst (-1), 1) := by decide +kernel
theorem d_AdjoinedSetsModel_replaced_165 : decode b_AdjoinedSetsModel_replaced 165 = .ok (.ireturn, 1) := by decide +kernel
theorem d_AdjoinedSetsModel_replaced_166 : decode b_AdjoinedSetsModel_replaced 166 = .ok (.iinc 4 1, 3) := by decide +kernel
theorem d_AdjoinedSetsModel_replaced_169 : decode b_AdjoinedSetsModel_replaced 169 = .ok (.iinc 5 1, 3) := by decide +kernel
theorem d_AdjoinedSetsModel_replaced_172 : decode b_AdjoinedSetsModel_replaced 172 = .ok (.goto (-160), 3) := by decide +kernel
theorem d_AdjoinedSetsModel_replaced_175 : decode b_AdjoinedSetsModel_replaced 175 = .ok (.iload 4, 2) := by decide +kernel
theorem d_AdjoinedSetsModel_replaced_177 : decode b_AdjoinedSetsModel_replaced 177 = .ok (.ireturn, 1) := by decide +kernel
def s_AdjoinedSetsModel_replaced_169 (c12 : Nat → Int32 → Int32 → Int32 → Int32 → HP → Option (Int32 × HP)) (x0 : Nat) (x1 : Int32) (x3 : Int32) (x4 : Int32) (x5 : Int32) (h : HP) : Option (Int32 × HP) :=
  c12 x0 x1 x3 x4 (x5 + 1) h
set_option maxHeartbeats 4000000 in
set_option maxRecDepth 100000 in
theorem k_AdjoinedSetsModel_replaced_169 {x0 : Nat} {x1 : Int32} {x3 : Int32} {x4 : Int32} {x5 : Int32} {h : HP} {z : Int32 × HP} (C : CX g R_AdjoinedSetsModel b_AdjoinedSetsModel_replaced 8 (some .int) p s m args meth c) (c12 : Nat → Int32 → Int32 → Int32 → Int32 → HP → Option (Int32 × HP))
    (hc12 : ∀ {x0 : Nat} {x1 : Int32} {x3 : Int32} {x4 : Int32} {x5 : Int32} {h : HP} {H : Heap} {locs : List Loc} {ls : Array Slot}, WD g h s.heap H locs → lv_has ls 8 [(0, .ref (aD g x0)), (1, .int x1), (3, .int x3), (4, .int x4), (5, .int x5)] → c12 x0 x1 x3 x4 x5 h = some z → W p l e (rmS 3 67) s m args below meth c H locs 0 0 (MQ below (Qq g (some (.int z.1)) z.2) args s 0 0 (inA g)) (F0 m 12 ls [])) {H : Heap} {locs : List Loc} {ls : Array Slot} (hw : WD g h s.heap H locs) (hl : lv_has ls 8 [(0, .ref (aD g x0)), (1, .int x1), (3, .int x3), (4, .int x4), (5, .int x5)]) (hs : s_AdjoinedSetsModel_replaced_169 c12 x0 x1 x3 x4 x5 h = some z) : W p l e (rmS 3 67) s m args below meth c H locs 0 0 (MQ below (Qq g (some (.int z.1)) z.2) args s 0 0 (inA g)) (F0 m 169 ls []) := by
  unfold s_AdjoinedSetsModel_replaced_169 at hs
  have hx := C.1
  have hb := C.2.1
  refine lv_iinc hx hb d_AdjoinedSetsModel_replaced_169 hl (k := 4) rfl (v := (x5 + 1)) (iinc_e _ (by decide)) (by decide) (lv' := [(5, .int (x5 + 1)), (0, .ref (aD g x0)), (1, .int x1), (3, .int x3), (4, .int x4)]) rfl (fun ls hl => ?_)
  refine lv_goto hx hb d_AdjoinedSetsModel_replaced_172 (tgt := 12) (by decide) ?_
  exact hc12 hw (lv_sub hl [1, 2, 3, 4, 0] rfl) hs

def s_AdjoinedSetsModel_replaced_147 (c12 : Nat → Int32 → Int32 → Int32 → Int32 → HP → Option (Int32 × HP)) (x0 : Nat) (x1 : Int32) (x3 : Int32) (x4 : Int32) (x5 : Int32) (h : HP) : Option (Int32 × HP) :=
  (gR h x0 9 0).bind fun v1 =>
  (aI h v1 0 x4).bind fun v3 =>
  (gR h x0 9 0).bind fun v5 =>
  (aI h v5 0 x5).bind fun v7 =>
  if v3 = v7 then (
    s_AdjoinedSetsModel_replaced_169 c12 x0 x1 x3 (x4 + 1) x5 h)
  else (
    some ((-1), h))
set_option maxHeartbeats 4000000 in
set_option maxRecDepth 100000 in
theorem k_AdjoinedSetsModel_replaced_147 {x0 : Nat} {x1 : Int32} {x3 : Int32} {x4 : Int32} {x5 : Int32} {h : HP} {z : Int32 × HP} (C : CX g R_AdjoinedSetsModel b_AdjoinedSetsModel_replaced 8 (some .int) p s m args meth c) (c12 : Nat → Int32 → Int32 → Int32 → Int32 → HP → Option (Int32 × HP))
    (hc12 : ∀ {x0 : Nat} {x1 : Int32} {x3 : Int32} {x4 : Int32} {x5 : Int32} {h : HP} {H : Heap} {locs : List Loc} {ls : Array Slot}, WD g h s.heap H locs → lv_has ls 8 [(0, .ref (aD g x0)), (1, .int x1), (3, .int x3), (4, .int x4), (5, .int x5)] → c12 x0 x1 x3 x4 x5 h = some z → W p l e (rmS 3 67) s m args below meth c H locs 0 0 (MQ below (Qq g (some (.int z.1)) z.2) args s 0 0 (inA g)) (F0 m 12 ls [])) {H : Heap} {locs : List Loc} {ls : Array Slot} (hw : WD g h s.heap H locs) (hl : lv_has ls 8 [(0, .ref (aD g x0)), (1, .int x1), (3, .int x3), (4, .int x4), (5, .int x5)]) (hs : s_AdjoinedSetsModel_replaced_147 c12 x0 x1 x3 x4 x5 h = some z) : W p l e (rmS 3 67) s m args below meth c H locs 0 0 (MQ below (Qq g (some (.int z.1)) z.2) args s 0 0 (inA g)) (F0 m 147 ls []) := by
  unfold s_AdjoinedSetsModel_replaced_147 at hs
  have hx := C.1
  have hb := C.2.1
  refine lv_aload_n hx hb d_AdjoinedSetsModel_replaced_147 rfl (lv_at hl 0 rfl) ?_
  obtain ⟨v1, e2, hs⟩ := ob hs
  refine pg_getR C hw fl_AdjoinedSetsModel_7 e2 d_AdjoinedSetsModel_replaced_148 ?_
  refine lv_iload hx hb d_AdjoinedSetsModel_replaced_151 (lv_at hl 3 rfl) ?_
  obtain ⟨v3, e4, hs⟩ := ob hs
  refine pg_iaload C hw (t0 := 0) rfl e4 d_AdjoinedSetsModel_replaced_153 ?_
  refine lv_aload_n hx hb d_AdjoinedSetsModel_replaced_154 rfl (lv_at hl 0 rfl) ?_
  obtain ⟨v5, e6, hs⟩ := ob hs
  refine pg_getR C hw fl_AdjoinedSetsModel_7 e6 d_AdjoinedSetsModel_replaced_155 ?_
  refine lv_iload hx hb d_AdjoinedSetsModel_replaced_158 (lv_at hl 4 rfl) ?_
  obtain ⟨v7, e8, hs⟩ := ob hs
  refine pg_iaload C hw (t0 := 0) rfl e8 d_AdjoinedSetsModel_replaced_160 ?_
  refine lv_icmp_eq hx hb d_AdjoinedSetsModel_replaced_161 (tgt := 166) (by decide) (fun hc => ?_) (fun hc => ?_)
  · have hs := oi_t hc hs
    refine lv_iinc hx hb d_AdjoinedSetsModel_replaced_166 hl (k := 3) rfl (v := (x4 + 1)) (iinc_e _ (by decide)) (by decide) (lv' := [(4, .int (x4 + 1)), (0, .ref (aD g x0)), (1, .int x1), (3, .int x3), (5, .int x5)]) rfl (fun ls hl => ?_)
    exact k_AdjoinedSetsModel_replaced_169 C c12 hc12 hw (lv_sub hl [1, 2, 3, 0, 4] rfl) hs
  · have hs := oi_f hc hs
    refine lv_iconst (v := (-1)) hx hb d_AdjoinedSetsModel_replaced_164 (by decide) ?_
    obtain rfl := Option.some.inj hs
    exact pg_iret C hw d_AdjoinedSetsModel_replaced_165

def s_AdjoinedSetsModel_replaced_70 (c12 : Nat → Int32 → Int32 → Int32 → Int32 → HP → Option (Int32 × HP)) (x0 : Nat) (x1 : Int32) (x3 : Int32) (x4 : Int32) (x5 : Int32) (x6 : Int32) (t0 : Int32) (h : HP) : Option (Int32 × HP) :=
  if t0 = 0 then (
    s_AdjoinedSetsModel_replaced_147 c12 x0 x1 x3 x4 x5 h)
  else (
    (gR h x0 9 30).bind fun v1 =>
    (aI h v1 0 x6).bind fun v3 =>
    if v3 ≤ 0 then (
      s_AdjoinedSetsModel_replaced_147 c12 x0 x1 x3 x4 x5 h)
    else (
      (gR h x0 9 14).bind fun v5 =>
      (aI h v5 0 (x5 - x1)).bind fun v7 =>
      (gR h x0 9 31).bind fun v9 =>
      (aI h v9 0 x6).bind fun v11 =>
      if (v7 &&& v11) = 0 then (
        (gR h x0 9 29).bind fun v13 =>
        (aI h v13 0 x6).bind fun v15 =>
        (gR h x0 9 30).bind fun v17 =>
        (aI h v17 0 x6).bind fun v19 =>
        (kd x0 9).bind fun _ =>
        (s_AdjoinedSetsModel_isSame x0 x4 v15 v19 h).bind fun q22 =>
        if q22 = 0 then (
          some ((-1), h))
        else (
          (gR h x0 9 30).bind fun v24 =>
          (aI h v24 0 x6).bind fun v26 =>
          s_AdjoinedSetsModel_replaced_169 c12 x0 x1 x3 (x4 + v26) x5 h))
      else (
        some ((-1), h))))
set_option maxHeartbeats 4000000 in
set_option maxRecDepth 100000 in
theorem k_AdjoinedSetsModel_replaced_70 {x0 : Nat} {x1 : Int32} {x3 : Int32} {x4 : Int32} {x5 : Int32} {x6 : Int32} {t0 : Int32} {h : HP} {z : Int32 × HP} (C : CX g R_AdjoinedSetsModel b_AdjoinedSetsModel_replaced 8 (some .int) p s m args meth c) (c12 : Nat → Int32 → Int32 → Int32 → Int32 → HP → Option (Int32 × HP))
    (hc12 : ∀ {x0 : Nat} {x1 : Int32} {x3 : Int32} {x4 : Int32} {x5 : Int32} {h : HP} {H : Heap} {locs : List Loc} {ls : Array Slot}, WD g h s.heap H locs → lv_has ls 8 [(0, .ref (aD g x0)), (1, .int x1), (3, .int x3), (4, .int x4), (5, .int x5)] → c12 x0 x1 x3 x4 x5 h = some z → W p l e (rmS 3 67) s m args below meth c H locs 0 0 (MQ below (Qq g (some (.int z.1)) z.2) args s 0 0 (inA g)) (F0 m 12 ls [])) {H : Heap} {locs : List Loc} {ls : Array Slot} (hw : WD g h s.heap H locs) (hl : lv_has ls 8 [(0, .ref (aD g x0)), (1, .int x1), (3, .int x3), (4, .int x4), (5, .int x5), (6, .int x6)]) (hs : s_AdjoinedSetsModel_replaced_70 c12 x0 x1 x3 x4 x5 x6 t0 h = some z) : W p l e (rmS 3 67) s m args below meth c H locs 0 0 (MQ below (Qq g (some (.int z.1)) z.2) args s 0 0 (inA g)) (F0 m 70 ls [.int t0]) := by
  unfold s_AdjoinedSetsModel_replaced_70 at hs
  have hx := C.1
  have hb := C.2.1
  refine lv_istore hx hb d_AdjoinedSetsModel_replaced_70 hl (by decide) (lv' := [(7, .int t0), (0, .ref (aD g x0)), (1, .int x1), (3, .int x3), (4, .int x4), (5, .int x5), (6, .int x6)]) rfl (fun ls hl => ?_)
  refine lv_iload hx hb d_AdjoinedSetsModel_replaced_72 (lv_at hl 0 rfl) ?_
  refine lv_if_eq hx hb d_AdjoinedSetsModel_replaced_74 (tgt := 147) (by decide) (fun hc => ?_) (fun hc => ?_)
  · have hs := oi_t hc hs
    exact k_AdjoinedSetsModel_replaced_147 C c12 hc12 hw (lv_sub hl [1, 2, 3, 4, 5] rfl) hs
  · have hs := oi_f hc hs
    refine lv_aload_n hx hb d_AdjoinedSetsModel_replaced_77 rfl (lv_at hl 1 rfl) ?_
    obtain ⟨v1, e2, hs⟩ := ob hs
    refine pg_getR C hw fl_AdjoinedSetsModel_78 e2 d_AdjoinedSetsModel_replaced_78 ?_
    refine lv_iload hx hb d_AdjoinedSetsModel_replaced_81 (lv_at hl 6 rfl) ?_
    obtain ⟨v3, e4, hs⟩ := ob hs
    refine pg_iaload C hw (t0 := 0) rfl e4 d_AdjoinedSetsModel_replaced_83 ?_
    refine lv_if_le hx hb d_AdjoinedSetsModel_replaced_84 (tgt := 147) (by decide) (fun hc => ?_) (fun hc => ?_)
    · have hs := oi_t hc hs
      exact k_AdjoinedSetsModel_replaced_147 C c12 hc12 hw (lv_sub hl [1, 2, 3, 4, 5] rfl) hs
    · have hs := oi_f hc hs
      refine lv_aload_n hx hb d_AdjoinedSetsModel_replaced_87 rfl (lv_at hl 1 rfl) ?_
      obtain ⟨v5, e6, hs⟩ := ob hs
      refine pg_getR C hw fl_AdjoinedSetsModel_42 e6 d_AdjoinedSetsModel_replaced_88 ?_
      refine lv_iload hx hb d_AdjoinedSetsModel_replaced_91 (lv_at hl 5 rfl) ?_
      refine lv_iload_n hx hb d_AdjoinedSetsModel_replaced_93 rfl (lv_at hl 2 rfl) ?_
      refine lv_isub hx hb d_AdjoinedSetsModel_replaced_94 ?_
      obtain ⟨v7, e8, hs⟩ := ob hs
      refine pg_iaload C hw (t0 := 0) rfl e8 d_AdjoinedSetsModel_replaced_95 ?_
      refine lv_aload_n hx hb d_AdjoinedSetsModel_replaced_96 rfl (lv_at hl 1 rfl) ?_
      obtain ⟨v9, e10, hs⟩ := ob hs
      refine pg_getR C hw fl_AdjoinedSetsModel_81 e10 d_AdjoinedSetsModel_replaced_97 ?_
      refine lv_iload hx hb d_AdjoinedSetsModel_replaced_100 (lv_at hl 6 rfl) ?_
      obtain ⟨v11, e12, hs⟩ := ob hs
      refine pg_iaload C hw (t0 := 0) rfl e12 d_AdjoinedSetsModel_replaced_102 ?_
      refine lv_iand hx hb d_AdjoinedSetsModel_replaced_103 ?_
      refine lv_if_ne hx hb d_AdjoinedSetsModel_replaced_104 (tgt := 130) (by decide) (fun hc => ?_) (fun hc => ?_)
      · have hs := oi_f hc hs
        refine lv_iconst (v := (-1)) hx hb d_AdjoinedSetsModel_replaced_130 (by decide) ?_
        obtain rfl := Option.some.inj hs
        exact pg_iret C hw d_AdjoinedSetsModel_replaced_131
      · have hs := oi_t hc hs
        refine lv_aload_n hx hb d_AdjoinedSetsModel_replaced_107 rfl (lv_at hl 1 rfl) ?_
        refine lv_iload hx hb d_AdjoinedSetsModel_replaced_108 (lv_at hl 4 rfl) ?_
        refine lv_aload_n hx hb d_AdjoinedSetsModel_replaced_110 rfl (lv_at hl 1 rfl) ?_
        obtain ⟨v13, e14, hs⟩ := ob hs
        refine pg_getR C hw fl_AdjoinedSetsModel_75 e14 d_AdjoinedSetsModel_replaced_111 ?_
        refine lv_iload hx hb d_AdjoinedSetsModel_replaced_114 (lv_at hl 6 rfl) ?_
        obtain ⟨v15, e16, hs⟩ := ob hs
        refine pg_iaload C hw (t0 := 0) rfl e16 d_AdjoinedSetsModel_replaced_116 ?_
        refine lv_aload_n hx hb d_AdjoinedSetsModel_replaced_117 rfl (lv_at hl 1 rfl) ?_
        obtain ⟨v17, e18, hs⟩ := ob hs
        refine pg_getR C hw fl_AdjoinedSetsModel_78 e18 d_AdjoinedSetsModel_replaced_118 ?_
        refine lv_iload hx hb d_AdjoinedSetsModel_replaced_121 (lv_at hl 6 rfl) ?_
        obtain ⟨v19, e20, hs⟩ := ob hs
        refine pg_iaload C hw (t0 := 0) rfl e20 d_AdjoinedSetsModel_replaced_123 ?_
        obtain ⟨_, e21, hs⟩ := ob hs
        obtain ⟨q22, e23, hs⟩ := ob hs
        refine pg_callV C hw hl.1 ml_AdjoinedSetsModel_240 e21 (As := [.int x4, .int v15, .int v19]) (rest := []) (c_AdjoinedSetsModel_isSame l g e23) rfl (rm_ok (Nat.le_of_ble_eq_true rfl) (Nat.le_of_ble_eq_true rfl)) (Nat.le_of_ble_eq_true rfl) rfl (st1 := [.int q22]) rfl d_AdjoinedSetsModel_replaced_124 (fun H locs hw => ?_)
        refine lv_if_ne hx hb d_AdjoinedSetsModel_replaced_127 (tgt := 132) (by decide) (fun hc => ?_) (fun hc => ?_)
        · have hs := oi_f hc hs
          refine lv_iload hx hb d_AdjoinedSetsModel_replaced_132 (lv_at hl 4 rfl) ?_
          refine lv_aload_n hx hb d_AdjoinedSetsModel_replaced_134 rfl (lv_at hl 1 rfl) ?_
          obtain ⟨v24, e25, hs⟩ := ob hs
          refine pg_getR C hw fl_AdjoinedSetsModel_78 e25 d_AdjoinedSetsModel_replaced_135 ?_
          refine lv_iload hx hb d_AdjoinedSetsModel_replaced_138 (lv_at hl 6 rfl) ?_
          obtain ⟨v26, e27, hs⟩ := ob hs
          refine pg_iaload C hw (t0 := 0) rfl e27 d_AdjoinedSetsModel_replaced_140 ?_
          refine lv_iadd hx hb d_AdjoinedSetsModel_replaced_141 ?_
          refine lv_istore hx hb d_AdjoinedSetsModel_replaced_142 hl (by decide) (lv' := [(4, .int (x4 + v26)), (7, .int t0), (0, .ref (aD g x0)), (1, .int x1), (3, .int x3), (5, .int x5), (6, .int x6)]) rfl (fun ls hl => ?_)
          refine lv_goto hx hb d_AdjoinedSetsModel_replaced_144 (tgt := 169) (by decide) ?_
          exact k_AdjoinedSetsModel_replaced_169 C c12 hc12 hw (lv_sub hl [2, 3, 4, 0, 5] rfl) hs
        · have hs := oi_t hc hs
          refine lv_iconst (v := (-1)) hx hb d_AdjoinedSetsModel_replaced_130 (by decide) ?_
          obtain rfl := Option.some.inj hs
          exact pg_iret C hw d_AdjoinedSetsModel_replaced_131

def s_AdjoinedSetsModel_replaced_69 (c12 : Nat → Int32 → Int32 → Int32 → Int32 → HP → Option (Int32 × HP)) (x0 : Nat) (x1 : Int32) (x3 : Int32) (x4 : Int32) (x5 : Int32) (x6 : Int32) (h : HP) : Option (Int32 × HP) :=
  s_AdjoinedSetsModel_replaced_70 c12 x0 x1 x3 x4 x5 x6 0 h
set_option maxHeartbeats 4000000 in
set_option maxRecDepth 100000 in
theorem k_AdjoinedSetsModel_replaced_69 {x0 : Nat} {x1 : Int32} {x3 : Int32} {x4 : Int32} {x5 : Int32} {x6 : Int32} {h : HP} {z : Int32 × HP} (C : CX g R_AdjoinedSetsModel b_AdjoinedSetsModel_replaced 8 (some .int) p s m args meth c) (c12 : Nat → Int32 → Int32 → Int32 → Int32 → HP → Option (Int32 × HP))
    (hc12 : ∀ {x0 : Nat} {x1 : Int32} {x3 : Int32} {x4 : Int32} {x5 : Int32} {h : HP} {H : Heap} {locs : List Loc} {ls : Array Slot}, WD g h s.heap H locs → lv_has ls 8 [(0, .ref (aD g x0)), (1, .int x1), (3, .int x3), (4, .int x4), (5, .int x5)] → c12 x0 x1 x3 x4 x5 h = some z → W p l e (rmS 3 67) s m args below meth c H locs 0 0 (MQ below (Qq g (some (.int z.1)) z.2) args s 0 0 (inA g)) (F0 m 12 ls [])) {H : Heap} {locs : List Loc} {ls : Array Slot} (hw : WD g h s.heap H locs) (hl : lv_has ls 8 [(0, .ref (aD g x0)), (1, .int x1), (3, .int x3), (4, .int x4), (5, .int x5), (6, .int x6)]) (hs : s_AdjoinedSetsModel_replaced_69 c12 x0 x1 x3 x4 x5 x6 h = some z) : W p l e (rmS 3 67) s m args below meth c H locs 0 0 (MQ below (Qq g (some (.int z.1)) z.2) args s 0 0 (inA g)) (F0 m 69 ls []) := by
  unfold s_AdjoinedSetsModel_replaced_69 at hs
  have hx := C.1
  have hb := C.2.1
  refine lv_iconst (v := 0) hx hb d_AdjoinedSetsModel_replaced_69 (by decide) ?_
  exact k_AdjoinedSetsModel_replaced_70 C c12 hc12 hw (lv_sub hl [0, 1, 2, 3, 4, 5] rfl) hs

def s_AdjoinedSetsModel_replaced_12 : Nat → Nat → Int32 → Int32 → Int32 → Int32 → HP → Option (Int32 × HP)
  | 0 => fun _ _ _ _ _ _ => none
  | k + 1 => fun x0 x1 x3 x4 x5 h =>
  if x3 ≤ x5 then (
    some (x4, h))
  else (
    (gR h x0 9 0).bind fun v1 =>
    (aI h v1 0 x5).bind fun v3 =>
    (gR h x0 9 13).bind fun v5 =>
    (aI h v5 5 (x5 - x1)).bind fun v7 =>
    if v7 = 0 then (
      s_AdjoinedSetsModel_replaced_69 (s_AdjoinedSetsModel_replaced_12 k) x0 x1 x3 x4 x5 (v3 - 97) h)
    else (
      (gR h x0 9 14).bind fun v9 =>
      (aI h v9 0 (x5 - x1)).bind fun v11 =>
      (gR h x0 9 0).bind fun v13 =>
      (aI h v13 0 x5).bind fun v15 =>
      (s_AdjoinedSetsModel_bit v15).bind fun q17 =>
      if (v11 &&& q17) = 0 then (
        s_AdjoinedSetsModel_replaced_70 (s_AdjoinedSetsModel_replaced_12 k) x0 x1 x3 x4 x5 (v3 - 97) 1 h)
      else (
        s_AdjoinedSetsModel_replaced_69 (s_AdjoinedSetsModel_replaced_12 k) x0 x1 x3 x4 x5 (v3 - 97) h)))
set_option maxHeartbeats 4000000 in
set_option maxRecDepth 100000 in
theorem k_AdjoinedSetsModel_replaced_12 {z : Int32 × HP} (C : CX g R_AdjoinedSetsModel b_AdjoinedSetsModel_replaced 8 (some .int) p s m args meth c) : ∀ (k : Nat) {x0 : Nat} {x1 : Int32} {x3 : Int32} {x4 : Int32} {x5 : Int32} {h : HP} {H : Heap} {locs : List Loc} {ls : Array Slot}, WD g h s.heap H locs → lv_has ls 8 [(0, .ref (aD g x0)), (1, .int x1), (3, .int x3), (4, .int x4), (5, .int x5)] → s_AdjoinedSetsModel_replaced_12 k x0 x1 x3 x4 x5 h = some z → W p l e (rmS 3 67) s m args below meth c H locs 0 0 (MQ below (Qq g (some (.int z.1)) z.2) args s 0 0 (inA g)) (F0 m 12 ls []) := by
  have hx := C.1
  have hb := C.2.1
  intro k
  induction k with
  | zero =>
    intro x0 x1 x3 x4 x5 h H locs ls hw hl hs
    exact (no_s hs).elim
  | succ k ih =>
    intro x0 x1 x3 x4 x5 h H locs ls hw hl hs
    rw [s_AdjoinedSetsModel_replaced_12] at hs
    refine lv_iload hx hb d_AdjoinedSetsModel_replaced_12 (lv_at hl 4 rfl) ?_
    refine lv_iload_n hx hb d_AdjoinedSetsModel_replaced_14 rfl (lv_at hl 2 rfl) ?_
    refine lv_icmp_ge hx hb d_AdjoinedSetsModel_replaced_15 (tgt := 175) (by decide) (fun hc => ?_) (fun hc => ?_)
    · have hs := oi_t hc hs
      refine lv_iload hx hb d_AdjoinedSetsModel_replaced_175 (lv_at hl 3 rfl) ?_
      obtain rfl := Option.some.inj hs
      exact pg_iret C hw d_AdjoinedSetsModel_replaced_177
    · have hs := oi_f hc hs
      refine lv_aload_n hx hb d_AdjoinedSetsModel_replaced_18 rfl (lv_at hl 0 rfl) ?_
      obtain ⟨v1, e2, hs⟩ := ob hs
      refine pg_getR C hw fl_AdjoinedSetsModel_7 e2 d_AdjoinedSetsModel_replaced_19 ?_
      refine lv_iload hx hb d_AdjoinedSetsModel_replaced_22 (lv_at hl 4 rfl) ?_
      obtain ⟨v3, e4, hs⟩ := ob hs
      refine pg_iaload C hw (t0 := 0) rfl e4 d_AdjoinedSetsModel_replaced_24 ?_
      refine lv_bipush (v := 97) hx hb d_AdjoinedSetsModel_replaced_25 (by decide) ?_
      refine lv_isub hx hb d_AdjoinedSetsModel_replaced_27 ?_
      refine lv_istore hx hb d_AdjoinedSetsModel_replaced_28 hl (by decide) (lv' := [(6, .int (v3 - 97)), (0, .ref (aD g x0)), (1, .int x1), (3, .int x3), (4, .int x4), (5, .int x5)]) rfl (fun ls hl => ?_)
      refine lv_aload_n hx hb d_AdjoinedSetsModel_replaced_30 rfl (lv_at hl 1 rfl) ?_
      obtain ⟨v5, e6, hs⟩ := ob hs
      refine pg_getR C hw fl_AdjoinedSetsModel_38 e6 d_AdjoinedSetsModel_replaced_31 ?_
      refine lv_iload hx hb d_AdjoinedSetsModel_replaced_34 (lv_at hl 5 rfl) ?_
      refine lv_iload_n hx hb d_AdjoinedSetsModel_replaced_36 rfl (lv_at hl 2 rfl) ?_
      refine lv_isub hx hb d_AdjoinedSetsModel_replaced_37 ?_
      obtain ⟨v7, e8, hs⟩ := ob hs
      refine pg_baload C hw (t0 := 5) rfl e8 d_AdjoinedSetsModel_replaced_38 ?_
      refine lv_if_eq hx hb d_AdjoinedSetsModel_replaced_39 (tgt := 69) (by decide) (fun hc => ?_) (fun hc => ?_)
      · have hs := oi_t hc hs
        exact k_AdjoinedSetsModel_replaced_69 C (s_AdjoinedSetsModel_replaced_12 k) ih hw (lv_sub hl [1, 2, 3, 4, 5, 0] rfl) hs
      · have hs := oi_f hc hs
        refine lv_aload_n hx hb d_AdjoinedSetsModel_replaced_42 rfl (lv_at hl 1 rfl) ?_
        obtain ⟨v9, e10, hs⟩ := ob hs
        refine pg_getR C hw fl_AdjoinedSetsModel_42 e10 d_AdjoinedSetsModel_replaced_43 ?_
        refine lv_iload hx hb d_AdjoinedSetsModel_replaced_46 (lv_at hl 5 rfl) ?_
        refine lv_iload_n hx hb d_AdjoinedSetsModel_replaced_48 rfl (lv_at hl 2 rfl) ?_
        refine lv_isub hx hb d_AdjoinedSetsModel_replaced_49 ?_
        obtain ⟨v11, e12, hs⟩ := ob hs
        refine pg_iaload C hw (t0 := 0) rfl e12 d_AdjoinedSetsModel_replaced_50 ?_
        refine lv_aload_n hx hb d_AdjoinedSetsModel_replaced_51 rfl (lv_at hl 1 rfl) ?_
        obtain ⟨v13, e14, hs⟩ := ob hs
        refine pg_getR C hw fl_AdjoinedSetsModel_7 e14 d_AdjoinedSetsModel_replaced_52 ?_
        refine lv_iload hx hb d_AdjoinedSetsModel_replaced_55 (lv_at hl 5 rfl) ?_
        obtain ⟨v15, e16, hs⟩ := ob hs
        refine pg_iaload C hw (t0 := 0) rfl e16 d_AdjoinedSetsModel_replaced_57 ?_
        obtain ⟨q17, e18, hs⟩ := ob hs
        refine pg_callS C hw hl.1 ml_AdjoinedSetsModel_138 (As := [.int v15]) (rest := [.int v11]) (c_AdjoinedSetsModel_bit l g e18) rfl (rm_ok (Nat.le_of_ble_eq_true rfl) (Nat.le_of_ble_eq_true rfl)) (Nat.le_of_ble_eq_true rfl) rfl (st1 := [.int q17, .int v11]) rfl d_AdjoinedSetsModel_replaced_58 (fun H locs hw => ?_)
        refine lv_iand hx hb d_AdjoinedSetsModel_replaced_61 ?_
        refine lv_if_ne hx hb d_AdjoinedSetsModel_replaced_62 (tgt := 69) (by decide) (fun hc => ?_) (fun hc => ?_)
        · have hs := oi_f hc hs
          exact k_AdjoinedSetsModel_replaced_69 C (s_AdjoinedSetsModel_replaced_12 k) ih hw (lv_sub hl [1, 2, 3, 4, 5, 0] rfl) hs
        · have hs := oi_t hc hs
          refine lv_iconst (v := 1) hx hb d_AdjoinedSetsModel_replaced_65 (by decide) ?_
          refine lv_goto hx hb d_AdjoinedSetsModel_replaced_66 (tgt := 70) (by decide) ?_
          exact k_AdjoinedSetsModel_replaced_70 C (s_AdjoinedSetsModel_replaced_12 k) ih hw (lv_sub hl [1, 2, 3, 4, 5, 0] rfl) hs

def s_AdjoinedSetsModel_replaced (x0 : Nat) (x1 : Int32) (x2 : Int32) (h : HP) : Option (Int32 × HP) :=
  (kd x0 9).bind fun _ =>
  (s_AdjoinedSetsModel_scan x0 x1 h).bind fun q2 =>
  s_AdjoinedSetsModel_replaced_12 20000 x0 x1 q2.1 x2 x1 q2.2
set_option maxHeartbeats 4000000 in
set_option maxRecDepth 100000 in
theorem c_AdjoinedSetsModel_replaced (l : Launch) (g : GG) {x0 : Nat} {x1 : Int32} {x2 : Int32} {h : HP} {z : Int32 × HP} (hs : s_AdjoinedSetsModel_replaced x0 x1 x2 h = some z) : Ct l g y_AdjoinedSetsModel_replaced w_AdjoinedSetsModel_replaced (rmS 3 67) [.ref (aD g x0), .int x1, .int x2] h (some (.int z.1)) z.2 := by
  refine Ct.of (own := R_AdjoinedSetsModel) (by decide) rfl rfl (Nat.le_of_ble_eq_true rfl) ?_
  intro p e s m args below meth c ls C hl hw
  have hx := C.1
  have hb := C.2.1
  have hl : lv_has ls 8 [(0, .ref (aD g x0)), (1, .int x1), (2, .int x2)] := hl
  unfold s_AdjoinedSetsModel_replaced at hs
  refine lv_aload_n hx hb d_AdjoinedSetsModel_replaced_0 rfl (lv_at hl 0 rfl) ?_
  refine lv_iload_n hx hb d_AdjoinedSetsModel_replaced_1 rfl (lv_at hl 1 rfl) ?_
  obtain ⟨_, e1, hs⟩ := ob hs
  obtain ⟨q2, e3, hs⟩ := ob hs
  refine pg_callV C hw hl.1 ml_AdjoinedSetsModel_234 e1 (As := [.int x1]) (rest := []) (c_AdjoinedSetsModel_scan l g e3) rfl (rm_ok (Nat.le_of_ble_eq_true rfl) (Nat.le_of_ble_eq_true rfl)) (Nat.le_of_ble_eq_true rfl) rfl (st1 := [.int q2.1]) rfl d_AdjoinedSetsModel_replaced_2 (fun H locs hw => ?_)
  refine lv_istore_n hx hb d_AdjoinedSetsModel_replaced_5 rfl hl (by decide) (lv' := [(3, .int q2.1), (0, .ref (aD g x0)), (1, .int x1), (2, .int x2)]) rfl (fun ls hl => ?_)
  refine lv_iload_n hx hb d_AdjoinedSetsModel_replaced_6 rfl (lv_at hl 3 rfl) ?_
  refine lv_istore hx hb d_AdjoinedSetsModel_replaced_7 hl (by decide) (lv' := [(4, .int x2), (3, .int q2.1), (0, .ref (aD g x0)), (1, .int x1), (2, .int x2)]) rfl (fun ls hl => ?_)
  refine lv_iload_n hx hb d_AdjoinedSetsModel_replaced_9 rfl (lv_at hl 3 rfl) ?_
  refine lv_istore hx hb d_AdjoinedSetsModel_replaced_10 hl (by decide) (lv' := [(5, .int x1), (4, .int x2), (3, .int q2.1), (0, .ref (aD g x0)), (1, .int x1), (2, .int x2)]) rfl (fun ls hl => ?_)
  exact k_AdjoinedSetsModel_replaced_12 C 20000 hw (lv_sub hl [3, 4, 2, 1, 0] rfl) hs

end
