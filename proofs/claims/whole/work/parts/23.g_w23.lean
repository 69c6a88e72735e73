section
variable {p : Program} {l : Launch} {e : Env} {s : State} {m : MethodId} {args : Array Value} {below : List Frame} {meth : Method} {c : Code} {g : GG}
theorem d_AdjoinedSetsModel_fits_0 : decode b_AdjoinedSetsModel_fits 0 = .ok (.iconst 0, 1) := by decide +kernel
theorem d_AdjoinedSetsModel_fits_1 : decode b_AdjoinedSetsModel_fits 1 = .ok (.istore_n 2, 1) := by decide +kernel
theorem d_AdjoinedSetsModel_fits_2 : decode b_AdjoinedSetsModel_fits 2 = .ok (.iload_n 2, 1) := by decide +kernel
theorem d_AdjoinedSetsModel_fits_3 : decode b_AdjoinedSetsModel_fits 3 = .ok (.bipush 7, 2) := by decide +kernel
theorem d_AdjoinedSetsModel_fits_5 : decode b_AdjoinedSetsModel_fits 5 = .ok (.if_icmp .ge 16, 3) := by decide +kernel
theorem d_AdjoinedSetsModel_fits_8 : decode b_AdjoinedSetsModel_fits 8 = .ok (.aload_n 0, 1) := by decide +kernel
theorem d_AdjoinedSetsModel_fits_9 : decode b_AdjoinedSetsModel_fits 9 = .ok (.getfield 72, 3) := by decide +kernel
theorem d_AdjoinedSetsModel_fits_12 : decode b_AdjoinedSetsModel_fits 12 = .ok (.iload_n 2, 1) := by decide +kernel
theorem d_AdjoinedSetsModel_fits_13 : decode b_AdjoinedSetsModel_fits 13 = .ok (.iconst 0, 1) := by decide +kernel
theorem d_AdjoinedSetsModel_fits_14 : decode b_AdjoinedSetsModel_fits 14 = .ok (.iastore, 1) := by decide +kernel
theorem d_AdjoinedSetsModel_fits_15 : decode b_AdjoinedSetsModel_fits 15 = .ok (.iinc 2 1, 3) := by decide +kernel
theorem d_AdjoinedSetsModel_fits_18 : decode b_AdjoinedSetsModel_fits 18 = .ok (.goto (-16), 3) := by decide +kernel
theorem d_AdjoinedSetsModel_fits_21 : decode b_AdjoinedSetsModel_fits 21 = .ok (.iconst 0, 1) := by decide +kernel
theorem d_AdjoinedSetsModel_fits_22 : decode b_AdjoinedSetsModel_fits 22 = .ok (.istore_n 2, 1) := by decide +kernel
theorem d_AdjoinedSetsModel_fits_23 : decode b_AdjoinedSetsModel_fits 23 = .ok (.aload_n 0, 1) := by decide +kernel
theorem d_AdjoinedSetsModel_fits_24 : decode b_AdjoinedSetsModel_fits 24 = .ok (.iload_n 1, 1) := by decide +kernel
theorem d_AdjoinedSetsModel_fits_25 : decode b_AdjoinedSetsModel_fits 25 = .ok (.invokevirtual 244, 3) := by decide +kernel
theorem d_AdjoinedSetsModel_fits_28 : decode b_AdjoinedSetsModel_fits 28 = .ok (.istore_n 3, 1) := by decide +kernel
theorem d_AdjoinedSetsModel_fits_29 : decode b_AdjoinedSetsModel_fits 29 = .ok (.aload_n 0, 1) := by decide +kernel
theorem d_AdjoinedSetsModel_fits_30 : decode b_AdjoinedSetsModel_fits 30 = .ok (.getfield 66, 3) := by decide +kernel
theorem d_AdjoinedSetsModel_fits_33 : decode b_AdjoinedSetsModel_fits 33 = .ok (.iload_n 3, 1) := by decide +kernel
theorem d_AdjoinedSetsModel_fits_34 : decode b_AdjoinedSetsModel_fits 34 = .ok (.iaload, 1) := by decide +kernel
theorem d_AdjoinedSetsModel_fits_35 : decode b_AdjoinedSetsModel_fits 35 = .ok (.ifCond .eq 136, 3) := by decide +kernel
theorem d_AdjoinedSetsModel_fits_38 : decode b_AdjoinedSetsModel_fits 38 = .ok (.aload_n 0, 1) := by decide +kernel
theorem d_AdjoinedSetsModel_fits_39 : decode b_AdjoinedSetsModel_fits 39 = .ok (.getfield 66, 3) := by decide +kernel
theorem d_AdjoinedSetsModel_fits_42 : decode b_AdjoinedSetsModel_fits 42 = .ok (.iload_n 3, 1) := by decide +kernel
theorem d_AdjoinedSetsModel_fits_43 : decode b_AdjoinedSetsModel_fits 43 = .ok (.iaload, 1) := by decide +kernel
theorem d_AdjoinedSetsModel_fits_44 : decode b_AdjoinedSetsModel_fits 44 = .ok (.istore 4, 2) := by decide +kernel
theorem d_AdjoinedSetsModel_fits_46 : decode b_AdjoinedSetsModel_fits 46 = .ok (.iload_n 2, 1) := by decide +kernel
theorem d_AdjoinedSetsModel_fits_47 : decode b_AdjoinedSetsModel_fits 47 = .ok (.aload_n 0, 1) := by decide +kernel
theorem d_AdjoinedSetsModel_fits_48 : decode b_AdjoinedSetsModel_fits 48 = .ok (.getfield 124, 3) := by decide +kernel
theorem d_AdjoinedSetsModel_fits_51 : decode b_AdjoinedSetsModel_fits 51 = .ok (.if_icmp .lt 5, 3) := by decide +kernel
theorem d_AdjoinedSetsModel_fits_54 : decode b_AdjoinedSetsModel_fits 54 = .ok (.iconst 0, 1) := by decide +kernel
theorem d_AdjoinedSetsModel_fits_55 : decode b_AdjoinedSetsModel_fits 55 = .ok (.ireturn, 1) := by decide +kernel
theorem d_AdjoinedSetsModel_fits_56 : decode b_AdjoinedSetsModel_fits 56 = .ok (.iload 4, 2) := by decide +kernel
theorem d_AdjoinedSetsModel_fits_58 : decode b_AdjoinedSetsModel_fits 58 = .ok (.bipush 6, 2) := by decide +kernel
theorem d_AdjoinedSetsModel_fits_60 : decode b_AdjoinedSetsModel_fits 60 = .ok (.if_icmp .le 22, 3) := by decide +kernel
theorem d_AdjoinedSetsModel_fits_63 : decode b_AdjoinedSetsModel_fits 63 = .ok (.aload_n 0, 1) := by decide +kernel
theorem d_AdjoinedSetsModel_fits_64 : decode b_AdjoinedSetsModel_fits 64 = .ok (.getfield 7, 3) := by decide +kernel
theorem d_AdjoinedSetsModel_fits_67 : decode b_AdjoinedSetsModel_fits 67 = .ok (.iload_n 2, 1) := by decide +kernel
theorem d_AdjoinedSetsModel_fits_68 : decode b_AdjoinedSetsModel_fits 68 = .ok (.iaload, 1) := by decide +kernel
theorem d_AdjoinedSetsModel_fits_69 : decode b_AdjoinedSetsModel_fits 69 = .ok (.iload 4, 2) := by decide +kernel
theorem d_AdjoinedSetsModel_fits_71 : decode b_AdjoinedSetsModel_fits 71 = .ok (.if_icmp .eq 5, 3) := by decide +kernel
theorem d_AdjoinedSetsModel_fits_74 : decode b_AdjoinedSetsModel_fits 74 = .ok (.iconst 0, 1) := by decide +kernel
theorem d_AdjoinedSetsModel_fits_75 : decode b_AdjoinedSetsModel_fits 75 = .ok (.ireturn, 1) := by decide +kernel
theorem d_AdjoinedSetsModel_fits_76 : decode b_AdjoinedSetsModel_fits 76 = .ok (.iinc 2 1, 3) := by decide +kernel
theorem d_AdjoinedSetsModel_fits_79 : decode b_AdjoinedSetsModel_fits 79 = .ok (.goto 86, 3) := by decide +kernel
theorem d_AdjoinedSetsModel_fits_82 : decode b_AdjoinedSetsModel_fits 82 = .ok (.iload 4, 2) := by decide +kernel
theorem d_AdjoinedSetsModel_fits_84 : decode b_AdjoinedSetsModel_fits 84 = .ok (.bipush 6, 2) := by decide +kernel
theorem d_AdjoinedSetsModel_fits_86 : decode b_AdjoinedSetsModel_fits 86 = .ok (.if_icmp .ne 7, 3) := by decide +kernel
theorem d_AdjoinedSetsModel_fits_89 : decode b_AdjoinedSetsModel_fits 89 = .ok (.iconst 1, 1) := by decide +kernel
theorem d_AdjoinedSetsModel_fits_90 : decode b_AdjoinedSetsModel_fits 90 = .ok (.goto 10, 3) := by decide +kernel
theorem d_AdjoinedSetsModel_fits_93 : decode b_AdjoinedSetsModel_fits 93 = .ok (.aload_n 0, 1) := by decide +kernel
theorem d_AdjoinedSetsModel_fits_94 : decode b_AdjoinedSetsModel_fits 94 = .ok (.iload_n 2, 1) := by decide +kernel
theorem d_AdjoinedSetsModel_fits_95 : decode b_AdjoinedSetsModel_fits 95 = .ok (.invokevirtual 197, 3) := by decide +kernel
theorem d_AdjoinedSetsModel_fits_98 : decode b_AdjoinedSetsModel_fits 98 = .ok (.iload_n 2, 1) := by decide +kernel
theorem d_AdjoinedSetsModel_fits_99 : decode b_AdjoinedSetsModel_fits 99 = .ok (.isub, 1) := by decide +kernel
theorem d_AdjoinedSetsModel_fits_100 : decode b_AdjoinedSetsModel_fits 100 = .ok (.istore 5, 2) := by decide +kernel
theorem d_AdjoinedSetsModel_fits_102 : decode b_AdjoinedSetsModel_fits 102 = .ok (.aload_n 0, 1) := by decide +kernel
theorem d_AdjoinedSetsModel_fits_103 : decode b_AdjoinedSetsModel_fits 103 = .ok (.getfield 72, 3) := by decide +kernel
theorem d_AdjoinedSetsModel_fits_106 : decode b_AdjoinedSetsModel_fits 106 = .ok (.iload 4, 2) := by decide +kernel
theorem d_AdjoinedSetsModel_fits_108 : decode b_AdjoinedSetsModel_fits 108 = .ok (.iaload, 1) := by decide +kernel
theorem d_AdjoinedSetsModel_fits_109 : decode b_AdjoinedSetsModel_fits 109 = .ok (.ifCond .ne 20, 3) := by decide +kernel
theorem d_AdjoinedSetsModel_fits_112 : decode b_AdjoinedSetsModel_fits 112 = .ok (.aload_n 0, 1) := by decide +kernel
theorem d_AdjoinedSetsModel_fits_113 : decode b_AdjoinedSetsModel_fits 113 = .ok (.getfield 69, 3) := by decide +kernel
theorem d_AdjoinedSetsModel_fits_116 : decode b_AdjoinedSetsModel_fits 116 = .ok (.iload 4, 2) := by decide +kernel
theorem d_AdjoinedSetsModel_fits_118 : decode b_AdjoinedSetsModel_fits 118 = .ok (.iload_n 2, 1) := by decide +kernel
theorem d_AdjoinedSetsModel_fits_119 : decode b_AdjoinedSetsModel_fits 119 = .ok (.iastore, 1) := by decide +kernel
theorem d_AdjoinedSetsModel_fits_120 : decode b_AdjoinedSetsModel_fits 120 = .ok (.aload_n 0, 1) := by decide +kernel
theorem d_AdjoinedSetsModel_fits_121 : decode b_AdjoinedSetsModel_fits 121 = .ok (.getfield 72, 3) := by decide +kernel
theorem d_AdjoinedSetsModel_fits_124 : decode b_AdjoinedSetsModel_fits 124 = .ok (.iload 4, 2) := by decide +kernel
theorem d_AdjoinedSetsModel_fits_126 : decode b_AdjoinedSetsModel_fits 126 = .ok (.iload 5, 2) := by decide +kernel
theorem d_AdjoinedSetsModel_fits_128 : decode b_AdjoinedSetsModel_fits 128 = .ok (.iastore, 1) := by decide +kernel
theorem d_AdjoinedSetsModel_fits_129 : decode b_AdjoinedSetsModel_fits 129 = .ok (.aload_n 0, 1) := by decide +kernel
theorem d_AdjoinedSetsModel_fits_130 : decode b_AdjoinedSetsModel_fits 130 = .ok (.getfield 72, 3) := by decide +kernel
theorem d_AdjoinedSetsModel_fits_133 : decode b_AdjoinedSetsModel_fits 133 = .ok (.iload 4, 2) := by decide +kernel
theorem d_AdjoinedSetsModel_fits_135 : decode b_AdjoinedSetsModel_fits 135 = .ok (.iaload, 1) := by decide +kernel
theorem d_AdjoinedSetsModel_fits_136 : decode b_AdjoinedSetsModel_fits 136 = .ok (.iload 5, 2) := by decide +kernel
theorem d_AdjoinedSetsModel_fits_138 : decode b_AdjoinedSetsModel_fits 138 = .ok (.if_icmp .ne 20, 3) := by decide +kernel
theorem d_AdjoinedSetsModel_fits_141 : decode b_AdjoinedSetsModel_fits 141 = .ok (.aload_n 0, 1) := by decide +kernel
theorem d_AdjoinedSetsModel_fits_142 : decode b_AdjoinedSetsModel_fits 142 = .ok (.aload_n 0, 1) := by decide +kernel
theorem d_AdjoinedSetsModel_fits_143 : decode b_AdjoinedSetsModel_fits 143 = .ok (.getfield 69, 3) := by decide +kernel
theorem d_AdjoinedSetsModel_fits_146 : decode b_AdjoinedSetsModel_fits 146 = .ok (.iload 4, 2) := by decide +kernel
theorem d_AdjoinedSetsModel_fits_148 : decode b_AdjoinedSetsModel_fits 148 = .ok (.iaload, 1) := by decide +kernel
theorem d_AdjoinedSetsModel_fits_149 : decode b_AdjoinedSetsModel_fits 149 = .ok (.iload_n 2, 1) := by decide +kernel
theorem d_AdjoinedSetsModel_fits_150 : decode b_AdjoinedSetsModel_fits 150 = .ok (.iload 5, 2) := by decide +kernel
theorem d_AdjoinedSetsModel_fits_152 : decode b_AdjoinedSetsModel_fits 152 = .ok (.invokevirtual 240, 3) := by decide +kernel
theorem d_AdjoinedSetsModel_fits_155 : decode b_AdjoinedSetsModel_fits 155 = .ok (.ifCond .ne 5, 3) := by decide +kernel
theorem d_AdjoinedSetsModel_fits_158 : decode b_AdjoinedSetsModel_fits 158 = .ok (.iconst 0, 1) := by decide +kernel
theorem d_AdjoinedSetsModel_fits_159 : decode b_AdjoinedSetsModel_fits 159 = .ok (.ireturn, 1) := by decide +kernel
theorem d_AdjoinedSetsModel_fits_160 : decode b_AdjoinedSetsModel_fits 160 = .ok (.iload_n 2, 1) := by decide +kernel
theorem d_AdjoinedSetsModel_fits_161 : decode b_AdjoinedSetsModel_fits 161 = .ok (.iload 5, 2) := by decide +kernel
theorem d_AdjoinedSetsModel_fits_163 : decode b_AdjoinedSetsModel_fits 163 = .ok (.iadd, 1) := by decide +kernel
theorem d_AdjoinedSetsModel_fits_164 : decode b_AdjoinedSetsModel_fits 164 = .ok (.istore_n 2, 1) := by decide +kernel
theorem d_AdjoinedSetsModel_fits_165 : decode b_AdjoinedSetsModel_fits 165 = .ok (.iinc 3 1, 3) := by decide +kernel
theorem d_AdjoinedSetsModel_fits_168 : decode b_AdjoinedSetsModel_fits 168 = .ok (.goto (-139), 3) := by decide +kernel
theorem d_AdjoinedSetsModel_fits_171 : decode b_AdjoinedSetsModel_fits 171 = .ok (.iload_n 2, 1) := by decide +kernel
theorem d_AdjoinedSetsModel_fits_172 : decode b_AdjoinedSetsModel_fits 172 = .ok (.aload_n 0, 1) := by decide +kernel
theorem d_AdjoinedSetsModel_fits_173 : decode b_AdjoinedSetsModel_fits 173 = .ok (.getfield 124, 3) := by decide +kernel
theorem d_AdjoinedSetsModel_fits_176 : decode b_AdjoinedSetsModel_fits 176 = .ok (.if_icmp .ne 7, 3) := by decide +kernel
theorem d_AdjoinedSetsModel_fits_179 : decode b_AdjoinedSetsModel_fits 179 = .ok (.iconst 1, 1) := by decide +kernel
theorem d_AdjoinedSetsModel_fits_180 : decode b_AdjoinedSetsModel_fits 180 = .ok (.goto 4, 3) := by decide +kernel
theorem d_AdjoinedSetsModel_fits_183 : decode b_AdjoinedSetsModel_fits 183 = .ok (.iconst 0, 1) := by decide +kernel
theorem d_AdjoinedSetsModel_fits_184 : decode b_AdjoinedSetsModel_fits 184 = .ok (.ireturn, 1) := by decide +kernel
def s_AdjoinedSetsModel_fits_165 (c29 : Nat → Int32 → Int32 → HP → Option (Int32 × HP)) (x0 : Nat) (x2 : Int32) (x3 : Int32) (h : HP) : Option (Int32 × HP) :=
  c29 x0 x2 (x3 + 1) h
set_option maxHeartbeats 4000000 in
set_option maxRecDepth 100000 in
theorem k_AdjoinedSetsModel_fits_165 {x0 : Nat} {x2 : Int32} {x3 : Int32} {h : HP} {z : Int32 × HP} (C : CX g R_AdjoinedSetsModel b_AdjoinedSetsModel_fits 6 (some .boolean) p s m args meth c) (c29 : Nat → Int32 → Int32 → HP → Option (Int32 × HP))
    (hc29 : ∀ {x0 : Nat} {x2 : Int32} {x3 : Int32} {h : HP} {H : Heap} {locs : List Loc} {ls : Array Slot}, WD g h s.heap H locs → lv_has ls 6 [(0, .ref (aD g x0)), (2, .int x2), (3, .int x3)] → c29 x0 x2 x3 h = some z → W p l e (rmS 3 64) s m args below meth c H locs 0 0 (MQ below (Qq g (some (.int z.1)) z.2) args s 0 0 (inA g)) (F0 m 29 ls [])) {H : Heap} {locs : List Loc} {ls : Array Slot} (hw : WD g h s.heap H locs) (hl : lv_has ls 6 [(0, .ref (aD g x0)), (2, .int x2), (3, .int x3)]) (hs : s_AdjoinedSetsModel_fits_165 c29 x0 x2 x3 h = some z) : W p l e (rmS 3 64) s m args below meth c H locs 0 0 (MQ below (Qq g (some (.int z.1)) z.2) args s 0 0 (inA g)) (F0 m 165 ls []) := by
  unfold s_AdjoinedSetsModel_fits_165 at hs
  have hx := C.1
  have hb := C.2.1
  refine lv_iinc hx hb d_AdjoinedSetsModel_fits_165 hl (k := 2) rfl (v := (x3 + 1)) (iinc_e _ (by decide)) (by decide) (lv' := [(3, .int (x3 + 1)), (0, .ref (aD g x0)), (2, .int x2)]) rfl (fun ls hl => ?_)
  refine lv_goto hx hb d_AdjoinedSetsModel_fits_168 (tgt := 29) (by decide) ?_
  exact hc29 hw (lv_sub hl [1, 2, 0] rfl) hs

def s_AdjoinedSetsModel_fits_129 (c29 : Nat → Int32 → Int32 → HP → Option (Int32 × HP)) (x0 : Nat) (x2 : Int32) (x3 : Int32) (x4 : Int32) (x5 : Int32) (h : HP) : Option (Int32 × HP) :=
  (gR h x0 9 28).bind fun v1 =>
  (aI h v1 0 x4).bind fun v3 =>
  if v3 = x5 then (
    (gR h x0 9 27).bind fun v6 =>
    (aI h v6 0 x4).bind fun v8 =>
    (kd x0 9).bind fun _ =>
    (s_AdjoinedSetsModel_isSame x0 v8 x2 x5 h).bind fun q11 =>
    if q11 = 0 then (
      some (0, h))
    else (
      s_AdjoinedSetsModel_fits_165 c29 x0 (x2 + x5) x3 h))
  else (
    some (0, h))
set_option maxHeartbeats 4000000 in
set_option maxRecDepth 100000 in
theorem k_AdjoinedSetsModel_fits_129 {x0 : Nat} {x2 : Int32} {x3 : Int32} {x4 : Int32} {x5 : Int32} {h : HP} {z : Int32 × HP} (C : CX g R_AdjoinedSetsModel b_AdjoinedSetsModel_fits 6 (some .boolean) p s m args meth c) (c29 : Nat → Int32 → Int32 → HP → Option (Int32 × HP))
    (hc29 : ∀ {x0 : Nat} {x2 : Int32} {x3 : Int32} {h : HP} {H : Heap} {locs : List Loc} {ls : Array Slot}, WD g h s.heap H locs → lv_has ls 6 [(0, .ref (aD g x0)), (2, .int x2), (3, .int x3)] → c29 x0 x2 x3 h = some z → W p l e (rmS 3 64) s m args below meth c H locs 0 0 (MQ below (Qq g (some (.int z.1)) z.2) args s 0 0 (inA g)) (F0 m 29 ls [])) {H : Heap} {locs : List Loc} {ls : Array Slot} (hw : WD g h s.heap H locs) (hl : lv_has ls 6 [(0, .ref (aD g x0)), (2, .int x2), (3, .int x3), (4, .int x4), (5, .int x5)]) (hs : s_AdjoinedSetsModel_fits_129 c29 x0 x2 x3 x4 x5 h = some z) : W p l e (rmS 3 64) s m args below meth c H locs 0 0 (MQ below (Qq g (some (.int z.1)) z.2) args s 0 0 (inA g)) (F0 m 129 ls []) := by
  unfold s_AdjoinedSetsModel_fits_129 at hs
  have hx := C.1
  have hb := C.2.1
  refine lv_aload_n hx hb d_AdjoinedSetsModel_fits_129 rfl (lv_at hl 0 rfl) ?_
  obtain ⟨v1, e2, hs⟩ := ob hs
  refine pg_getR C hw fl_AdjoinedSetsModel_72 e2 d_AdjoinedSetsModel_fits_130 ?_
  refine lv_iload hx hb d_AdjoinedSetsModel_fits_133 (lv_at hl 3 rfl) ?_
  obtain ⟨v3, e4, hs⟩ := ob hs
  refine pg_iaload C hw (t0 := 0) rfl e4 d_AdjoinedSetsModel_fits_135 ?_
  refine lv_iload hx hb d_AdjoinedSetsModel_fits_136 (lv_at hl 4 rfl) ?_
  refine lv_icmp_ne hx hb d_AdjoinedSetsModel_fits_138 (tgt := 158) (by decide) (fun hc => ?_) (fun hc => ?_)
  · have hs := oi_f hc hs
    refine lv_iconst (v := 0) hx hb d_AdjoinedSetsModel_fits_158 (by decide) ?_
    obtain rfl := Option.some.inj hs
    exact pg_zret (v := 0) C hw rfl d_AdjoinedSetsModel_fits_159
  · have hs := oi_t hc hs
    refine lv_aload_n hx hb d_AdjoinedSetsModel_fits_141 rfl (lv_at hl 0 rfl) ?_
    refine lv_aload_n hx hb d_AdjoinedSetsModel_fits_142 rfl (lv_at hl 0 rfl) ?_
    obtain ⟨v6, e7, hs⟩ := ob hs
    refine pg_getR C hw fl_AdjoinedSetsModel_69 e7 d_AdjoinedSetsModel_fits_143 ?_
    refine lv_iload hx hb d_AdjoinedSetsModel_fits_146 (lv_at hl 3 rfl) ?_
    obtain ⟨v8, e9, hs⟩ := ob hs
    refine pg_iaload C hw (t0 := 0) rfl e9 d_AdjoinedSetsModel_fits_148 ?_
    refine lv_iload_n hx hb d_AdjoinedSetsModel_fits_149 rfl (lv_at hl 1 rfl) ?_
    refine lv_iload hx hb d_AdjoinedSetsModel_fits_150 (lv_at hl 4 rfl) ?_
    obtain ⟨_, e10, hs⟩ := ob hs
    obtain ⟨q11, e12, hs⟩ := ob hs
    refine pg_callV C hw hl.1 ml_AdjoinedSetsModel_240 e10 (As := [.int v8, .int x2, .int x5]) (rest := []) (c_AdjoinedSetsModel_isSame l g e12) rfl (rm_ok (Nat.le_of_ble_eq_true rfl) (Nat.le_of_ble_eq_true rfl)) (Nat.le_of_ble_eq_true rfl) rfl (st1 := [.int q11]) rfl d_AdjoinedSetsModel_fits_152 (fun H locs hw => ?_)
    refine lv_if_ne hx hb d_AdjoinedSetsModel_fits_155 (tgt := 160) (by decide) (fun hc => ?_) (fun hc => ?_)
    · have hs := oi_f hc hs
      refine lv_iload_n hx hb d_AdjoinedSetsModel_fits_160 rfl (lv_at hl 1 rfl) ?_
      refine lv_iload hx hb d_AdjoinedSetsModel_fits_161 (lv_at hl 4 rfl) ?_
      refine lv_iadd hx hb d_AdjoinedSetsModel_fits_163 ?_
      refine lv_istore_n hx hb d_AdjoinedSetsModel_fits_164 rfl hl (by decide) (lv' := [(2, .int (x2 + x5)), (0, .ref (aD g x0)), (3, .int x3), (4, .int x4), (5, .int x5)]) rfl (fun ls hl => ?_)
      exact k_AdjoinedSetsModel_fits_165 C c29 hc29 hw (lv_sub hl [1, 0, 2] rfl) hs
    · have hs := oi_t hc hs
      refine lv_iconst (v := 0) hx hb d_AdjoinedSetsModel_fits_158 (by decide) ?_
      obtain rfl := Option.some.inj hs
      exact pg_zret (v := 0) C hw rfl d_AdjoinedSetsModel_fits_159

def s_AdjoinedSetsModel_fits_100 (c29 : Nat → Int32 → Int32 → HP → Option (Int32 × HP)) (x0 : Nat) (x2 : Int32) (x3 : Int32) (x4 : Int32) (t0 : Int32) (h : HP) : Option (Int32 × HP) :=
  (gR h x0 9 28).bind fun v1 =>
  (aI h v1 0 x4).bind fun v3 =>
  if v3 = 0 then (
    (gR h x0 9 27).bind fun v5 =>
    (uI h v5 0 x4 x2).bind fun h7 =>
    (gR h7 x0 9 28).bind fun v9 =>
    (uI h7 v9 0 x4 t0).bind fun h11 =>
    s_AdjoinedSetsModel_fits_129 c29 x0 x2 x3 x4 t0 h11)
  else (
    s_AdjoinedSetsModel_fits_129 c29 x0 x2 x3 x4 t0 h)
set_option maxHeartbeats 4000000 in
set_option maxRecDepth 100000 in
theorem k_AdjoinedSetsModel_fits_100 {x0 : Nat} {x2 : Int32} {x3 : Int32} {x4 : Int32} {t0 : Int32} {h : HP} {z : Int32 × HP} (C : CX g R_AdjoinedSetsModel b_AdjoinedSetsModel_fits 6 (some .boolean) p s m args meth c) (c29 : Nat → Int32 → Int32 → HP → Option (Int32 × HP))
    (hc29 : ∀ {x0 : Nat} {x2 : Int32} {x3 : Int32} {h : HP} {H : Heap} {locs : List Loc} {ls : Array Slot}, WD g h s.heap H locs → lv_has ls 6 [(0, .ref (aD g x0)), (2, .int x2), (3, .int x3)] → c29 x0 x2 x3 h = some z → W p l e (rmS 3 64) s m args below meth c H locs 0 0 (MQ below (Qq g (some (.int z.1)) z.2) args s 0 0 (inA g)) (F0 m 29 ls [])) {H : Heap} {locs : List Loc} {ls : Array Slot} (hw : WD g h s.heap H locs) (hl : lv_has ls 6 [(0, .ref (aD g x0)), (2, .int x2), (3, .int x3), (4, .int x4)]) (hs : s_AdjoinedSetsModel_fits_100 c29 x0 x2 x3 x4 t0 h = some z) : W p l e (rmS 3 64) s m args below meth c H locs 0 0 (MQ below (Qq g (some (.int z.1)) z.2) args s 0 0 (inA g)) (F0 m 100 ls [.int t0]) := by
  unfold s_AdjoinedSetsModel_fits_100 at hs
  have hx := C.1
  have hb := C.2.1
  refine lv_istore hx hb d_AdjoinedSetsModel_fits_100 hl (by decide) (lv' := [(5, .int t0), (0, .ref (aD g x0)), (2, .int x2), (3, .int x3), (4, .int x4)]) rfl (fun ls hl => ?_)
  refine lv_aload_n hx hb d_AdjoinedSetsModel_fits_102 rfl (lv_at hl 1 rfl) ?_
  obtain ⟨v1, e2, hs⟩ := ob hs
  refine pg_getR C hw fl_AdjoinedSetsModel_72 e2 d_AdjoinedSetsModel_fits_103 ?_
  refine lv_iload hx hb d_AdjoinedSetsModel_fits_106 (lv_at hl 4 rfl) ?_
  obtain ⟨v3, e4, hs⟩ := ob hs
  refine pg_iaload C hw (t0 := 0) rfl e4 d_AdjoinedSetsModel_fits_108 ?_
  refine lv_if_ne hx hb d_AdjoinedSetsModel_fits_109 (tgt := 129) (by decide) (fun hc => ?_) (fun hc => ?_)
  · have hs := oi_f hc hs
    exact k_AdjoinedSetsModel_fits_129 C c29 hc29 hw (lv_sub hl [1, 2, 3, 4, 0] rfl) hs
  · have hs := oi_t hc hs
    refine lv_aload_n hx hb d_AdjoinedSetsModel_fits_112 rfl (lv_at hl 1 rfl) ?_
    obtain ⟨v5, e6, hs⟩ := ob hs
    refine pg_getR C hw fl_AdjoinedSetsModel_69 e6 d_AdjoinedSetsModel_fits_113 ?_
    refine lv_iload hx hb d_AdjoinedSetsModel_fits_116 (lv_at hl 4 rfl) ?_
    refine lv_iload_n hx hb d_AdjoinedSetsModel_fits_118 rfl (lv_at hl 2 rfl) ?_
    obtain ⟨h7, e8, hs⟩ := ob hs
    refine pg_iastore C hw (t0 := 0) rfl e8 d_AdjoinedSetsModel_fits_119 (fun H locs hw => ?_)
    refine lv_aload_n hx hb d_AdjoinedSetsModel_fits_120 rfl (lv_at hl 1 rfl) ?_
    obtain ⟨v9, e10, hs⟩ := ob hs
    refine pg_getR C hw fl_AdjoinedSetsModel_72 e10 d_AdjoinedSetsModel_fits_121 ?_
    refine lv_iload hx hb d_AdjoinedSetsModel_fits_124 (lv_at hl 4 rfl) ?_
    refine lv_iload hx hb d_AdjoinedSetsModel_fits_126 (lv_at hl 0 rfl) ?_
    obtain ⟨h11, e12, hs⟩ := ob hs
    refine pg_iastore C hw (t0 := 0) rfl e12 d_AdjoinedSetsModel_fits_128 (fun H locs hw => ?_)
    exact k_AdjoinedSetsModel_fits_129 C c29 hc29 hw (lv_sub hl [1, 2, 3, 4, 0] rfl) hs

def s_AdjoinedSetsModel_fits_29 : Nat → Nat → Int32 → Int32 → HP → Option (Int32 × HP)
  | 0 => fun _ _ _ _ => none
  | k + 1 => fun x0 x2 x3 h =>
  (gR h x0 9 26).bind fun v1 =>
  (aI h v1 0 x3).bind fun v3 =>
  if v3 = 0 then (
    (gI h x0 9 1).bind fun v5 =>
    if x2 = v5 then (
      some (1, h))
    else (
      some (0, h)))
  else (
    (gR h x0 9 26).bind fun v9 =>
    (aI h v9 0 x3).bind fun v11 =>
    (gI h x0 9 1).bind fun v13 =>
    if x2 < v13 then (
      if v11 ≤ 6 then (
        if v11 = 6 then (
          s_AdjoinedSetsModel_fits_100 (s_AdjoinedSetsModel_fits_29 k) x0 x2 x3 v11 1 h)
        else (
          (kd x0 9).bind fun _ =>
          (s_AdjoinedSetsModel_endOf x0 x2 h).bind fun q16 =>
          s_AdjoinedSetsModel_fits_100 (s_AdjoinedSetsModel_fits_29 k) x0 x2 x3 v11 (q16 - x2) h))
      else (
        (gR h x0 9 0).bind fun v18 =>
        (aI h v18 0 x2).bind fun v20 =>
        if v20 = v11 then (
          s_AdjoinedSetsModel_fits_165 (s_AdjoinedSetsModel_fits_29 k) x0 (x2 + 1) x3 h)
        else (
          some (0, h))))
    else (
      some (0, h)))
set_option maxHeartbeats 4000000 in
set_option maxRecDepth 100000 in
theorem k_AdjoinedSetsModel_fits_29 {z : Int32 × HP} (C : CX g R_AdjoinedSetsModel b_AdjoinedSetsModel_fits 6 (some .boolean) p s m args meth c) : ∀ (k : Nat) {x0 : Nat} {x2 : Int32} {x3 : Int32} {h : HP} {H : Heap} {locs : List Loc} {ls : Array Slot}, WD g h s.heap H locs → lv_has ls 6 [(0, .ref (aD g x0)), (2, .int x2), (3, .int x3)] → s_AdjoinedSetsModel_fits_29 k x0 x2 x3 h = some z → W p l e (rmS 3 64) s m args below meth c H locs 0 0 (MQ below (Qq g (some (.int z.1)) z.2) args s 0 0 (inA g)) (F0 m 29 ls []) := by
  have hx := C.1
  have hb := C.2.1
  intro k
  induction k with
  | zero =>
    intro x0 x2 x3 h H locs ls hw hl hs
    exact (no_s hs).elim
  | succ k ih =>
    intro x0 x2 x3 h H locs ls hw hl hs
    rw [s_AdjoinedSetsModel_fits_29] at hs
    refine lv_aload_n hx hb d_AdjoinedSetsModel_fits_29 rfl (lv_at hl 0 rfl) ?_
    obtain ⟨v1, e2, hs⟩ := ob hs
    refine pg_getR C hw fl_AdjoinedSetsModel_66 e2 d_AdjoinedSetsModel_fits_30 ?_
    refine lv_iload_n hx hb d_AdjoinedSetsModel_fits_33 rfl (lv_at hl 2 rfl) ?_
    obtain ⟨v3, e4, hs⟩ := ob hs
    refine pg_iaload C hw (t0 := 0) rfl e4 d_AdjoinedSetsModel_fits_34 ?_
    refine lv_if_eq hx hb d_AdjoinedSetsModel_fits_35 (tgt := 171) (by decide) (fun hc => ?_) (fun hc => ?_)
    · have hs := oi_t hc hs
      refine lv_iload_n hx hb d_AdjoinedSetsModel_fits_171 rfl (lv_at hl 1 rfl) ?_
      refine lv_aload_n hx hb d_AdjoinedSetsModel_fits_172 rfl (lv_at hl 0 rfl) ?_
      obtain ⟨v5, e6, hs⟩ := ob hs
      refine pg_getI C hw fl_AdjoinedSetsModel_124 e6 d_AdjoinedSetsModel_fits_173 ?_
      refine lv_icmp_ne hx hb d_AdjoinedSetsModel_fits_176 (tgt := 183) (by decide) (fun hc => ?_) (fun hc => ?_)
      · have hs := oi_f hc hs
        refine lv_iconst (v := 0) hx hb d_AdjoinedSetsModel_fits_183 (by decide) ?_
        obtain rfl := Option.some.inj hs
        exact pg_zret (v := 0) C hw rfl d_AdjoinedSetsModel_fits_184
      · have hs := oi_t hc hs
        refine lv_iconst (v := 1) hx hb d_AdjoinedSetsModel_fits_179 (by decide) ?_
        refine lv_goto hx hb d_AdjoinedSetsModel_fits_180 (tgt := 184) (by decide) ?_
        obtain rfl := Option.some.inj hs
        exact pg_zret (v := 1) C hw rfl d_AdjoinedSetsModel_fits_184
    · have hs := oi_f hc hs
      refine lv_aload_n hx hb d_AdjoinedSetsModel_fits_38 rfl (lv_at hl 0 rfl) ?_
      obtain ⟨v9, e10, hs⟩ := ob hs
      refine pg_getR C hw fl_AdjoinedSetsModel_66 e10 d_AdjoinedSetsModel_fits_39 ?_
      refine lv_iload_n hx hb d_AdjoinedSetsModel_fits_42 rfl (lv_at hl 2 rfl) ?_
      obtain ⟨v11, e12, hs⟩ := ob hs
      refine pg_iaload C hw (t0 := 0) rfl e12 d_AdjoinedSetsModel_fits_43 ?_
      refine lv_istore hx hb d_AdjoinedSetsModel_fits_44 hl (by decide) (lv' := [(4, .int v11), (0, .ref (aD g x0)), (2, .int x2), (3, .int x3)]) rfl (fun ls hl => ?_)
      refine lv_iload_n hx hb d_AdjoinedSetsModel_fits_46 rfl (lv_at hl 2 rfl) ?_
      refine lv_aload_n hx hb d_AdjoinedSetsModel_fits_47 rfl (lv_at hl 1 rfl) ?_
      obtain ⟨v13, e14, hs⟩ := ob hs
      refine pg_getI C hw fl_AdjoinedSetsModel_124 e14 d_AdjoinedSetsModel_fits_48 ?_
      refine lv_icmp_lt hx hb d_AdjoinedSetsModel_fits_51 (tgt := 56) (by decide) (fun hc => ?_) (fun hc => ?_)
      · have hs := oi_t hc hs
        refine lv_iload hx hb d_AdjoinedSetsModel_fits_56 (lv_at hl 0 rfl) ?_
        refine lv_bipush (v := 6) hx hb d_AdjoinedSetsModel_fits_58 (by decide) ?_
        refine lv_icmp_le hx hb d_AdjoinedSetsModel_fits_60 (tgt := 82) (by decide) (fun hc => ?_) (fun hc => ?_)
        · have hs := oi_t hc hs
          refine lv_iload hx hb d_AdjoinedSetsModel_fits_82 (lv_at hl 0 rfl) ?_
          refine lv_bipush (v := 6) hx hb d_AdjoinedSetsModel_fits_84 (by decide) ?_
          refine lv_icmp_ne hx hb d_AdjoinedSetsModel_fits_86 (tgt := 93) (by decide) (fun hc => ?_) (fun hc => ?_)
          · have hs := oi_f hc hs
            refine lv_aload_n hx hb d_AdjoinedSetsModel_fits_93 rfl (lv_at hl 1 rfl) ?_
            refine lv_iload_n hx hb d_AdjoinedSetsModel_fits_94 rfl (lv_at hl 2 rfl) ?_
            obtain ⟨_, e15, hs⟩ := ob hs
            obtain ⟨q16, e17, hs⟩ := ob hs
            refine pg_callV C hw hl.1 ml_AdjoinedSetsModel_197 e15 (As := [.int x2]) (rest := []) (c_AdjoinedSetsModel_endOf l g e17) rfl (rm_ok (Nat.le_of_ble_eq_true rfl) (Nat.le_of_ble_eq_true rfl)) (Nat.le_of_ble_eq_true rfl) rfl (st1 := [.int q16]) rfl d_AdjoinedSetsModel_fits_95 (fun H locs hw => ?_)
            refine lv_iload_n hx hb d_AdjoinedSetsModel_fits_98 rfl (lv_at hl 2 rfl) ?_
            refine lv_isub hx hb d_AdjoinedSetsModel_fits_99 ?_
            exact k_AdjoinedSetsModel_fits_100 C (s_AdjoinedSetsModel_fits_29 k) ih hw (lv_sub hl [1, 2, 3, 0] rfl) hs
          · have hs := oi_t hc hs
            refine lv_iconst (v := 1) hx hb d_AdjoinedSetsModel_fits_89 (by decide) ?_
            refine lv_goto hx hb d_AdjoinedSetsModel_fits_90 (tgt := 100) (by decide) ?_
            exact k_AdjoinedSetsModel_fits_100 C (s_AdjoinedSetsModel_fits_29 k) ih hw (lv_sub hl [1, 2, 3, 0] rfl) hs
        · have hs := oi_f hc hs
          refine lv_aload_n hx hb d_AdjoinedSetsModel_fits_63 rfl (lv_at hl 1 rfl) ?_
          obtain ⟨v18, e19, hs⟩ := ob hs
          refine pg_getR C hw fl_AdjoinedSetsModel_7 e19 d_AdjoinedSetsModel_fits_64 ?_
          refine lv_iload_n hx hb d_AdjoinedSetsModel_fits_67 rfl (lv_at hl 2 rfl) ?_
          obtain ⟨v20, e21, hs⟩ := ob hs
          refine pg_iaload C hw (t0 := 0) rfl e21 d_AdjoinedSetsModel_fits_68 ?_
          refine lv_iload hx hb d_AdjoinedSetsModel_fits_69 (lv_at hl 0 rfl) ?_
          refine lv_icmp_eq hx hb d_AdjoinedSetsModel_fits_71 (tgt := 76) (by decide) (fun hc => ?_) (fun hc => ?_)
          · have hs := oi_t hc hs
            refine lv_iinc hx hb d_AdjoinedSetsModel_fits_76 hl (k := 2) rfl (v := (x2 + 1)) (iinc_e _ (by decide)) (by decide) (lv' := [(2, .int (x2 + 1)), (4, .int v11), (0, .ref (aD g x0)), (3, .int x3)]) rfl (fun ls hl => ?_)
            refine lv_goto hx hb d_AdjoinedSetsModel_fits_79 (tgt := 165) (by decide) ?_
            exact k_AdjoinedSetsModel_fits_165 C (s_AdjoinedSetsModel_fits_29 k) ih hw (lv_sub hl [2, 0, 3] rfl) hs
          · have hs := oi_f hc hs
            refine lv_iconst (v := 0) hx hb d_AdjoinedSetsModel_fits_74 (by decide) ?_
            obtain rfl := Option.some.inj hs
            exact pg_zret (v := 0) C hw rfl d_AdjoinedSetsModel_fits_75
      · have hs := oi_f hc hs
        refine lv_iconst (v := 0) hx hb d_AdjoinedSetsModel_fits_54 (by decide) ?_
        obtain rfl := Option.some.inj hs
        exact pg_zret (v := 0) C hw rfl d_AdjoinedSetsModel_fits_55

def s_AdjoinedSetsModel_fits_2 : Nat → Nat → Int32 → Int32 → HP → Option (Int32 × HP)
  | 0 => fun _ _ _ _ => none
  | k + 1 => fun x0 x1 x2 h =>
  if 7 ≤ x2 then (
    (kd x0 9).bind fun _ =>
    (s_AdjoinedSetsModel_patternOf x0 x1 h).bind fun q2 =>
    s_AdjoinedSetsModel_fits_29 20000 x0 0 q2 h)
  else (
    (gR h x0 9 28).bind fun v4 =>
    (uI h v4 0 x2 0).bind fun h6 =>
    (s_AdjoinedSetsModel_fits_2 k) x0 x1 (x2 + 1) h6)
set_option maxHeartbeats 4000000 in
set_option maxRecDepth 100000 in
theorem k_AdjoinedSetsModel_fits_2 {z : Int32 × HP} (C : CX g R_AdjoinedSetsModel b_AdjoinedSetsModel_fits 6 (some .boolean) p s m args meth c) : ∀ (k : Nat) {x0 : Nat} {x1 : Int32} {x2 : Int32} {h : HP} {H : Heap} {locs : List Loc} {ls : Array Slot}, WD g h s.heap H locs → lv_has ls 6 [(0, .ref (aD g x0)), (1, .int x1), (2, .int x2)] → s_AdjoinedSetsModel_fits_2 k x0 x1 x2 h = some z → W p l e (rmS 3 64) s m args below meth c H locs 0 0 (MQ below (Qq g (some (.int z.1)) z.2) args s 0 0 (inA g)) (F0 m 2 ls []) := by
  have hx := C.1
  have hb := C.2.1
  intro k
  induction k with
  | zero =>
    intro x0 x1 x2 h H locs ls hw hl hs
    exact (no_s hs).elim
  | succ k ih =>
    intro x0 x1 x2 h H locs ls hw hl hs
    rw [s_AdjoinedSetsModel_fits_2] at hs
    refine lv_iload_n hx hb d_AdjoinedSetsModel_fits_2 rfl (lv_at hl 2 rfl) ?_
    refine lv_bipush (v := 7) hx hb d_AdjoinedSetsModel_fits_3 (by decide) ?_
    refine lv_icmp_ge hx hb d_AdjoinedSetsModel_fits_5 (tgt := 21) (by decide) (fun hc => ?_) (fun hc => ?_)
    · have hs := oi_t hc hs
      refine lv_iconst (v := 0) hx hb d_AdjoinedSetsModel_fits_21 (by decide) ?_
      refine lv_istore_n hx hb d_AdjoinedSetsModel_fits_22 rfl hl (by decide) (lv' := [(2, .int 0), (0, .ref (aD g x0)), (1, .int x1)]) rfl (fun ls hl => ?_)
      refine lv_aload_n hx hb d_AdjoinedSetsModel_fits_23 rfl (lv_at hl 1 rfl) ?_
      refine lv_iload_n hx hb d_AdjoinedSetsModel_fits_24 rfl (lv_at hl 2 rfl) ?_
      obtain ⟨_, e1, hs⟩ := ob hs
      obtain ⟨q2, e3, hs⟩ := ob hs
      refine pg_callV C hw hl.1 ml_AdjoinedSetsModel_244 e1 (As := [.int x1]) (rest := []) (c_AdjoinedSetsModel_patternOf l g e3) rfl (rm_ok (Nat.le_of_ble_eq_true rfl) (Nat.le_of_ble_eq_true rfl)) (Nat.le_of_ble_eq_true rfl) rfl (st1 := [.int q2]) rfl d_AdjoinedSetsModel_fits_25 (fun H locs hw => ?_)
      refine lv_istore_n hx hb d_AdjoinedSetsModel_fits_28 rfl hl (by decide) (lv' := [(3, .int q2), (2, .int 0), (0, .ref (aD g x0)), (1, .int x1)]) rfl (fun ls hl => ?_)
      exact k_AdjoinedSetsModel_fits_29 C 20000 hw (lv_sub hl [2, 1, 0] rfl) hs
    · have hs := oi_f hc hs
      refine lv_aload_n hx hb d_AdjoinedSetsModel_fits_8 rfl (lv_at hl 0 rfl) ?_
      obtain ⟨v4, e5, hs⟩ := ob hs
      refine pg_getR C hw fl_AdjoinedSetsModel_72 e5 d_AdjoinedSetsModel_fits_9 ?_
      refine lv_iload_n hx hb d_AdjoinedSetsModel_fits_12 rfl (lv_at hl 2 rfl) ?_
      refine lv_iconst (v := 0) hx hb d_AdjoinedSetsModel_fits_13 (by decide) ?_
      obtain ⟨h6, e7, hs⟩ := ob hs
      refine pg_iastore C hw (t0 := 0) rfl e7 d_AdjoinedSetsModel_fits_14 (fun H locs hw => ?_)
      refine lv_iinc hx hb d_AdjoinedSetsModel_fits_15 hl (k := 2) rfl (v := (x2 + 1)) (iinc_e _ (by decide)) (by decide) (lv' := [(2, .int (x2 + 1)), (0, .ref (aD g x0)), (1, .int x1)]) rfl (fun ls hl => ?_)
      refine lv_goto hx hb d_AdjoinedSetsModel_fits_18 (tgt := 2) (by decide) ?_
      exact ih hw (lv_sub hl [1, 2, 0] rfl) hs

def s_AdjoinedSetsModel_fits (x0 : Nat) (x1 : Int32) (h : HP) : Option (Int32 × HP) :=
  s_AdjoinedSetsModel_fits_2 20000 x0 x1 0 h
set_option maxHeartbeats 4000000 in
set_option maxRecDepth 100000 in
theorem c_AdjoinedSetsModel_fits (l : Launch) (g : GG) {x0 : Nat} {x1 : Int32} {h : HP} {z : Int32 × HP} (hs : s_AdjoinedSetsModel_fits x0 x1 h = some z) : Ct l g y_AdjoinedSetsModel_fits w_AdjoinedSetsModel_fits (rmS 3 64) [.ref (aD g x0), .int x1] h (some (.int z.1)) z.2 := by
  refine Ct.of (own := R_AdjoinedSetsModel) (by decide) rfl rfl (Nat.le_of_ble_eq_true rfl) ?_
  intro p e s m args below meth c ls C hl hw
  have hx := C.1
  have hb := C.2.1
  have hl : lv_has ls 6 [(0, .ref (aD g x0)), (1, .int x1)] := hl
  unfold s_AdjoinedSetsModel_fits at hs
  refine lv_iconst (v := 0) hx hb d_AdjoinedSetsModel_fits_0 (by decide) ?_
  refine lv_istore_n hx hb d_AdjoinedSetsModel_fits_1 rfl hl (by decide) (lv' := [(2, .int 0), (0, .ref (aD g x0)), (1, .int x1)]) rfl (fun ls hl => ?_)
  exact k_AdjoinedSetsModel_fits_2 C 20000 hw (lv_sub hl [1, 2, 0] rfl) hs

end
section
variable {p : Program} {l : Launch} {e : Env} {s : State} {m : MethodId} {args : Array Value} {below : List Frame} {meth : Method} {c : Code} {g : GG}
theorem d_AdjoinedSetsModel_isG_0 : decode b_AdjoinedSetsModel_isG 0 = .ok (.aload_n 0, 1) := by decide +kernel
theorem d_AdjoinedSetsModel_isG_1 : decode b_AdjoinedSetsModel_isG 1 = .ok (.invokevirtual 247, 3) := by decide +kernel
theorem d_AdjoinedSetsModel_isG_4 : decode b_AdjoinedSetsModel_isG 4 = .ok (.aload_n 0, 1) := by decide +kernel
theorem d_AdjoinedSetsModel_isG_5 : decode b_AdjoinedSetsModel_isG 5 = .ok (.aload_n 0, 1) := by decide +kernel
theorem d_AdjoinedSetsModel_isG_6 : decode b_AdjoinedSetsModel_isG 6 = .ok (.getfield 7, 3) := by decide +kernel
theorem d_AdjoinedSetsModel_isG_9 : decode b_AdjoinedSetsModel_isG 9 = .ok (.aload_n 0, 1) := by decide +kernel
theorem d_AdjoinedSetsModel_isG_10 : decode b_AdjoinedSetsModel_isG 10 = .ok (.getfield 69, 3) := by decide +kernel
theorem d_AdjoinedSetsModel_isG_13 : decode b_AdjoinedSetsModel_isG 13 = .ok (.bipush 6, 2) := by decide +kernel
theorem d_AdjoinedSetsModel_isG_15 : decode b_AdjoinedSetsModel_isG 15 = .ok (.iaload, 1) := by decide +kernel
theorem d_AdjoinedSetsModel_isG_16 : decode b_AdjoinedSetsModel_isG 16 = .ok (.iaload, 1) := by decide +kernel
theorem d_AdjoinedSetsModel_isG_17 : decode b_AdjoinedSetsModel_isG 17 = .ok (.bipush 97, 2) := by decide +kernel
theorem d_AdjoinedSetsModel_isG_19 : decode b_AdjoinedSetsModel_isG 19 = .ok (.isub, 1) := by decide +kernel
theorem d_AdjoinedSetsModel_isG_20 : decode b_AdjoinedSetsModel_isG 20 = .ok (.aload_n 0, 1) := by decide +kernel
theorem d_AdjoinedSetsModel_isG_21 : decode b_AdjoinedSetsModel_isG 21 = .ok (.getfield 69, 3) := by decide +kernel
theorem d_AdjoinedSetsModel_isG_24 : decode b_AdjoinedSetsModel_isG 24 = .ok (.iload_n 1, 1) := by decide +kernel
theorem d_AdjoinedSetsModel_isG_25 : decode b_AdjoinedSetsModel_isG 25 = .ok (.iaload, 1) := by decide +kernel
theorem d_AdjoinedSetsModel_isG_26 : decode b_AdjoinedSetsModel_isG 26 = .ok (.invokevirtual 250, 3) := by decide +kernel
theorem d_AdjoinedSetsModel_isG_29 : decode b_AdjoinedSetsModel_isG 29 = .ok (.aload_n 0, 1) := by decide +kernel
theorem d_AdjoinedSetsModel_isG_30 : decode b_AdjoinedSetsModel_isG 30 = .ok (.aload_n 0, 1) := by decide +kernel
theorem d_AdjoinedSetsModel_isG_31 : decode b_AdjoinedSetsModel_isG 31 = .ok (.getfield 69, 3) := by decide +kernel
theorem d_AdjoinedSetsModel_isG_34 : decode b_AdjoinedSetsModel_isG 34 = .ok (.iconst 4, 1) := by decide +kernel
theorem d_AdjoinedSetsModel_isG_35 : decode b_AdjoinedSetsModel_isG 35 = .ok (.iaload, 1) := by decide +kernel
theorem d_AdjoinedSetsModel_isG_36 : decode b_AdjoinedSetsModel_isG 36 = .ok (.aload_n 0, 1) := by decide +kernel
theorem d_AdjoinedSetsModel_isG_37 : decode b_AdjoinedSetsModel_isG 37 = .ok (.getfield 69, 3) := by decide +kernel
theorem d_AdjoinedSetsModel_isG_40 : decode b_AdjoinedSetsModel_isG 40 = .ok (.iconst 5, 1) := by decide +kernel
theorem d_AdjoinedSetsModel_isG_41 : decode b_AdjoinedSetsModel_isG 41 = .ok (.iaload, 1) := by decide +kernel
theorem d_AdjoinedSetsModel_isG_42 : decode b_AdjoinedSetsModel_isG 42 = .ok (.invokevirtual 253, 3) := by decide +kernel
theorem d_AdjoinedSetsModel_isG_45 : decode b_AdjoinedSetsModel_isG 45 = .ok (.aload_n 0, 1) := by decide +kernel
theorem d_AdjoinedSetsModel_isG_46 : decode b_AdjoinedSetsModel_isG 46 = .ok (.getfield 69, 3) := by decide +kernel
theorem d_AdjoinedSetsModel_isG_49 : decode b_AdjoinedSetsModel_isG 49 = .ok (.iconst 5, 1) := by decide +kernel
theorem d_AdjoinedSetsModel_isG_50 : decode b_AdjoinedSetsModel_isG 50 = .ok (.iaload, 1) := by decide +kernel
theorem d_AdjoinedSetsModel_isG_51 : decode b_AdjoinedSetsModel_isG 51 = .ok (.aload_n 0, 1) := by decide +kernel
theorem d_AdjoinedSetsModel_isG_52 : decode b_AdjoinedSetsModel_isG 52 = .ok (.getfield 72, 3) := by decide +kernel
theorem d_AdjoinedSetsModel_isG_55 : decode b_AdjoinedSetsModel_isG 55 = .ok (.iconst 5, 1) := by decide +kernel
theorem d_AdjoinedSetsModel_isG_56 : decode b_AdjoinedSetsModel_isG 56 = .ok (.iaload, 1) := by decide +kernel
theorem d_AdjoinedSetsModel_isG_57 : decode b_AdjoinedSetsModel_isG 57 = .ok (.iadd, 1) := by decide +kernel
theorem d_AdjoinedSetsModel_isG_58 : decode b_AdjoinedSetsModel_isG 58 = .ok (.if_icmp .ne 7, 3) := by decide +kernel
theorem d_AdjoinedSetsModel_isG_61 : decode b_AdjoinedSetsModel_isG 61 = .ok (.iconst 1, 1) := by decide +kernel
theorem d_AdjoinedSetsModel_isG_62 : decode b_AdjoinedSetsModel_isG 62 = .ok (.goto 4, 3) := by decide +kernel
theorem d_AdjoinedSetsModel_isG_65 : decode b_AdjoinedSetsModel_isG 65 = .ok (.iconst 0, 1) := by decide +kernel
theorem d_AdjoinedSetsModel_isG_66 : decode b_AdjoinedSetsModel_isG 66 = .ok (.ireturn, 1) := by decide +kernel
def s_AdjoinedSetsModel_isG (x0 : Nat) (x1 : Int32) (h : HP) : Option (Int32 × HP) :=
  (kd x0 9).bind fun _ =>
  (s_AdjoinedSetsModel_noReplacing x0 h).bind fun q2 =>
  (gR q2 x0 9 0).bind fun v4 =>
  (gR q2 x0 9 27).bind fun v6 =>
  (aI q2 v6 0 6).bind fun v8 =>
  (aI q2 v4 0 v8).bind fun v10 =>
  (gR q2 x0 9 27).bind fun v12 =>
  (aI q2 v12 0 x1).bind fun v14 =>
  (kd x0 9).bind fun _ =>
  (s_AdjoinedSetsModel_replace x0 (v10 - 97) v14 q2).bind fun q17 =>
  (gR q17 x0 9 27).bind fun v19 =>
  (aI q17 v19 0 4).bind fun v21 =>
  (gR q17 x0 9 27).bind fun v23 =>
  (aI q17 v23 0 5).bind fun v25 =>
  (kd x0 9).bind fun _ =>
  (s_AdjoinedSetsModel_replaced x0 v21 v25 q17).bind fun q28 =>
  (gR q28.2 x0 9 27).bind fun v30 =>
  (aI q28.2 v30 0 5).bind fun v32 =>
  (gR q28.2 x0 9 28).bind fun v34 =>
  (aI q28.2 v34 0 5).bind fun v36 =>
  if q28.1 = (v32 + v36) then (
    some (1, q28.2))
  else (
    some (0, q28.2))
set_option maxHeartbeats 4000000 in
set_option maxRecDepth 100000 in
theorem c_AdjoinedSetsModel_isG (l : Launch) (g : GG) {x0 : Nat} {x1 : Int32} {h : HP} {z : Int32 × HP} (hs : s_AdjoinedSetsModel_isG x0 x1 h = some z) : Ct l g y_AdjoinedSetsModel_isG w_AdjoinedSetsModel_isG (rmS 5 113) [.ref (aD g x0), .int x1] h (some (.int z.1)) z.2 := by
  refine Ct.of (own := R_AdjoinedSetsModel) (by decide) rfl rfl (Nat.le_of_ble_eq_true rfl) ?_
  intro p e s m args below meth c ls C hl hw
  have hx := C.1
  have hb := C.2.1
  have hl : lv_has ls 2 [(0, .ref (aD g x0)), (1, .int x1)] := hl
  unfold s_AdjoinedSetsModel_isG at hs
  refine lv_aload_n hx hb d_AdjoinedSetsModel_isG_0 rfl (lv_at hl 0 rfl) ?_
  obtain ⟨_, e1, hs⟩ := ob hs
  obtain ⟨q2, e3, hs⟩ := ob hs
  refine pg_callV C hw hl.1 ml_AdjoinedSetsModel_247 e1 (As := []) (rest := []) (c_AdjoinedSetsModel_noReplacing l g e3) rfl (rm_ok (Nat.le_of_ble_eq_true rfl) (Nat.le_of_ble_eq_true rfl)) (Nat.le_of_ble_eq_true rfl) rfl (st1 := []) rfl d_AdjoinedSetsModel_isG_1 (fun H locs hw => ?_)
  refine lv_aload_n hx hb d_AdjoinedSetsModel_isG_4 rfl (lv_at hl 0 rfl) ?_
  refine lv_aload_n hx hb d_AdjoinedSetsModel_isG_5 rfl (lv_at hl 0 rfl) ?_
  obtain ⟨v4, e5, hs⟩ := ob hs
  refine pg_getR C hw fl_AdjoinedSetsModel_7 e5 d_AdjoinedSetsModel_isG_6 ?_
  refine lv_aload_n hx hb d_AdjoinedSetsModel_isG_9 rfl (lv_at hl 0 rfl) ?_
  obtain ⟨v6, e7, hs⟩ := ob hs
  refine pg_getR C hw fl_AdjoinedSetsModel_69 e7 d_AdjoinedSetsModel_isG_10 ?_
  refine lv_bipush (v := 6) hx hb d_AdjoinedSetsModel_isG_13 (by decide) ?_
  obtain ⟨v8, e9, hs⟩ := ob hs
  refine pg_iaload C hw (t0 := 0) rfl e9 d_AdjoinedSetsModel_isG_15 ?_
  obtain ⟨v10, e11, hs⟩ := ob hs
  refine pg_iaload C hw (t0 := 0) rfl e11 d_AdjoinedSetsModel_isG_16 ?_
  refine lv_bipush (v := 97) hx hb d_AdjoinedSetsModel_isG_17 (by decide) ?_
  refine lv_isub hx hb d_AdjoinedSetsModel_isG_19 ?_
  refine lv_aload_n hx hb d_AdjoinedSetsModel_isG_20 rfl (lv_at hl 0 rfl) ?_
  obtain ⟨v12, e13, hs⟩ := ob hs
  refine pg_getR C hw fl_AdjoinedSetsModel_69 e13 d_AdjoinedSetsModel_isG_21 ?_
  refine lv_iload_n hx hb d_AdjoinedSetsModel_isG_24 rfl (lv_at hl 1 rfl) ?_
  obtain ⟨v14, e15, hs⟩ := ob hs
  refine pg_iaload C hw (t0 := 0) rfl e15 d_AdjoinedSetsModel_isG_25 ?_
  obtain ⟨_, e16, hs⟩ := ob hs
  obtain ⟨q17, e18, hs⟩ := ob hs
  refine pg_callV C hw hl.1 ml_AdjoinedSetsModel_250 e16 (As := [.int (v10 - 97), .int v14]) (rest := []) (c_AdjoinedSetsModel_replace l g e18) rfl (rm_ok (Nat.le_of_ble_eq_true rfl) (Nat.le_of_ble_eq_true rfl)) (Nat.le_of_ble_eq_true rfl) rfl (st1 := []) rfl d_AdjoinedSetsModel_isG_26 (fun H locs hw => ?_)
  refine lv_aload_n hx hb d_AdjoinedSetsModel_isG_29 rfl (lv_at hl 0 rfl) ?_
  refine lv_aload_n hx hb d_AdjoinedSetsModel_isG_30 rfl (lv_at hl 0 rfl) ?_
  obtain ⟨v19, e20, hs⟩ := ob hs
  refine pg_getR C hw fl_AdjoinedSetsModel_69 e20 d_AdjoinedSetsModel_isG_31 ?_
  refine lv_iconst (v := 4) hx hb d_AdjoinedSetsModel_isG_34 (by decide) ?_
  obtain ⟨v21, e22, hs⟩ := ob hs
  refine pg_iaload C hw (t0 := 0) rfl e22 d_AdjoinedSetsModel_isG_35 ?_
  refine lv_aload_n hx hb d_AdjoinedSetsModel_isG_36 rfl (lv_at hl 0 rfl) ?_
  obtain ⟨v23, e24, hs⟩ := ob hs
  refine pg_getR C hw fl_AdjoinedSetsModel_69 e24 d_AdjoinedSetsModel_isG_37 ?_
  refine lv_iconst (v := 5) hx hb d_AdjoinedSetsModel_isG_40 (by decide) ?_
  obtain ⟨v25, e26, hs⟩ := ob hs
  refine pg_iaload C hw (t0 := 0) rfl e26 d_AdjoinedSetsModel_isG_41 ?_
  obtain ⟨_, e27, hs⟩ := ob hs
  obtain ⟨q28, e29, hs⟩ := ob hs
  refine pg_callV C hw hl.1 ml_AdjoinedSetsModel_253 e27 (As := [.int v21, .int v25]) (rest := []) (c_AdjoinedSetsModel_replaced l g e29) rfl (rm_ok (Nat.le_of_ble_eq_true rfl) (Nat.le_of_ble_eq_true rfl)) (Nat.le_of_ble_eq_true rfl) rfl (st1 := [.int q28.1]) rfl d_AdjoinedSetsModel_isG_42 (fun H locs hw => ?_)
  refine lv_aload_n hx hb d_AdjoinedSetsModel_isG_45 rfl (lv_at hl 0 rfl) ?_
  obtain ⟨v30, e31, hs⟩ := ob hs
  refine pg_getR C hw fl_AdjoinedSetsModel_69 e31 d_AdjoinedSetsModel_isG_46 ?_
  refine lv_iconst (v := 5) hx hb d_AdjoinedSetsModel_isG_49 (by decide) ?_
  obtain ⟨v32, e33, hs⟩ := ob hs
  refine pg_iaload C hw (t0 := 0) rfl e33 d_AdjoinedSetsModel_isG_50 ?_
  refine lv_aload_n hx hb d_AdjoinedSetsModel_isG_51 rfl (lv_at hl 0 rfl) ?_
  obtain ⟨v34, e35, hs⟩ := ob hs
  refine pg_getR C hw fl_AdjoinedSetsModel_72 e35 d_AdjoinedSetsModel_isG_52 ?_
  refine lv_iconst (v := 5) hx hb d_AdjoinedSetsModel_isG_55 (by decide) ?_
  obtain ⟨v36, e37, hs⟩ := ob hs
  refine pg_iaload C hw (t0 := 0) rfl e37 d_AdjoinedSetsModel_isG_56 ?_
  refine lv_iadd hx hb d_AdjoinedSetsModel_isG_57 ?_
  refine lv_icmp_ne hx hb d_AdjoinedSetsModel_isG_58 (tgt := 65) (by decide) (fun hc => ?_) (fun hc => ?_)
  · have hs := oi_f hc hs
    refine lv_iconst (v := 0) hx hb d_AdjoinedSetsModel_isG_65 (by decide) ?_
    obtain rfl := Option.some.inj hs
    exact pg_zret (v := 0) C hw rfl d_AdjoinedSetsModel_isG_66
  · have hs := oi_t hc hs
    refine lv_iconst (v := 1) hx hb d_AdjoinedSetsModel_isG_61 (by decide) ?_
    refine lv_goto hx hb d_AdjoinedSetsModel_isG_62 (tgt := 66) (by decide) ?_
    obtain rfl := Option.some.inj hs
    exact pg_zret (v := 1) C hw rfl d_AdjoinedSetsModel_isG_66

end
