section
variable {p : Program} {l : Launch} {e : Env} {s : State} {m : MethodId} {args : Array Value} {below : List Frame} {meth : Method} {c : Code} {g : GG}
theorem d_AdjoinedSetsModel_scan_0 : decode b_AdjoinedSetsModel_scan 0 = .ok (.aload_n 0, 1) := by decide +kernel
theorem d_AdjoinedSetsModel_scan_1 : decode b_AdjoinedSetsModel_scan 1 = .ok (.iconst 0, 1) := by decide +kernel
theorem d_AdjoinedSetsModel_scan_2 : decode b_AdjoinedSetsModel_scan 2 = .ok (.putfield 132, 3) := by decide +kernel
theorem d_AdjoinedSetsModel_scan_5 : decode b_AdjoinedSetsModel_scan 5 = .ok (.aload_n 0, 1) := by decide +kernel
theorem d_AdjoinedSetsModel_scan_6 : decode b_AdjoinedSetsModel_scan 6 = .ok (.iconst 0, 1) := by decide +kernel
theorem d_AdjoinedSetsModel_scan_7 : decode b_AdjoinedSetsModel_scan 7 = .ok (.iconst 0, 1) := by decide +kernel
theorem d_AdjoinedSetsModel_scan_8 : decode b_AdjoinedSetsModel_scan 8 = .ok (.iconst 0, 1) := by decide +kernel
theorem d_AdjoinedSetsModel_scan_9 : decode b_AdjoinedSetsModel_scan 9 = .ok (.invokevirtual 141, 3) := by decide +kernel
theorem d_AdjoinedSetsModel_scan_12 : decode b_AdjoinedSetsModel_scan 12 = .ok (.iload_n 1, 1) := by decide +kernel
theorem d_AdjoinedSetsModel_scan_13 : decode b_AdjoinedSetsModel_scan 13 = .ok (.istore_n 2, 1) := by decide +kernel
theorem d_AdjoinedSetsModel_scan_14 : decode b_AdjoinedSetsModel_scan 14 = .ok (.aload_n 0, 1) := by decide +kernel
theorem d_AdjoinedSetsModel_scan_15 : decode b_AdjoinedSetsModel_scan 15 = .ok (.getfield 132, 3) := by decide +kernel
theorem d_AdjoinedSetsModel_scan_18 : decode b_AdjoinedSetsModel_scan 18 = .ok (.ifCond .le 166, 3) := by decide +kernel
theorem d_AdjoinedSetsModel_scan_21 : decode b_AdjoinedSetsModel_scan 21 = .ok (.aload_n 0, 1) := by decide +kernel
theorem d_AdjoinedSetsModel_scan_22 : decode b_AdjoinedSetsModel_scan 22 = .ok (.dup, 1) := by decide +kernel
theorem d_AdjoinedSetsModel_scan_23 : decode b_AdjoinedSetsModel_scan 23 = .ok (.getfield 132, 3) := by decide +kernel
theorem d_AdjoinedSetsModel_scan_26 : decode b_AdjoinedSetsModel_scan 26 = .ok (.iconst 1, 1) := by decide +kernel
theorem d_AdjoinedSetsModel_scan_27 : decode b_AdjoinedSetsModel_scan 27 = .ok (.isub, 1) := by decide +kernel
theorem d_AdjoinedSetsModel_scan_28 : decode b_AdjoinedSetsModel_scan 28 = .ok (.putfield 132, 3) := by decide +kernel
theorem d_AdjoinedSetsModel_scan_31 : decode b_AdjoinedSetsModel_scan 31 = .ok (.aload_n 0, 1) := by decide +kernel
theorem d_AdjoinedSetsModel_scan_32 : decode b_AdjoinedSetsModel_scan 32 = .ok (.getfield 29, 3) := by decide +kernel
theorem d_AdjoinedSetsModel_scan_35 : decode b_AdjoinedSetsModel_scan 35 = .ok (.aload_n 0, 1) := by decide +kernel
theorem d_AdjoinedSetsModel_scan_36 : decode b_AdjoinedSetsModel_scan 36 = .ok (.getfield 132, 3) := by decide +kernel
theorem d_AdjoinedSetsModel_scan_39 : decode b_AdjoinedSetsModel_scan 39 = .ok (.iaload, 1) := by decide +kernel
theorem d_AdjoinedSetsModel_scan_40 : decode b_AdjoinedSetsModel_scan 40 = .ok (.istore_n 3, 1) := by decide +kernel
theorem d_AdjoinedSetsModel_scan_41 : decode b_AdjoinedSetsModel_scan 41 = .ok (.aload_n 0, 1) := by decide +kernel
theorem d_AdjoinedSetsModel_scan_42 : decode b_AdjoinedSetsModel_scan 42 = .ok (.getfield 7, 3) := by decide +kernel
theorem d_AdjoinedSetsModel_scan_45 : decode b_AdjoinedSetsModel_scan 45 = .ok (.iload_n 2, 1) := by decide +kernel
theorem d_AdjoinedSetsModel_scan_46 : decode b_AdjoinedSetsModel_scan 46 = .ok (.iaload, 1) := by decide +kernel
theorem d_AdjoinedSetsModel_scan_47 : decode b_AdjoinedSetsModel_scan 47 = .ok (.istore 4, 2) := by decide +kernel
theorem d_AdjoinedSetsModel_scan_49 : decode b_AdjoinedSetsModel_scan 49 = .ok (.aload_n 0, 1) := by decide +kernel
theorem d_AdjoinedSetsModel_scan_50 : decode b_AdjoinedSetsModel_scan 50 = .ok (.getfield 38, 3) := by decide +kernel
theorem d_AdjoinedSetsModel_scan_53 : decode b_AdjoinedSetsModel_scan 53 = .ok (.iload_n 2, 1) := by decide +kernel
theorem d_AdjoinedSetsModel_scan_54 : decode b_AdjoinedSetsModel_scan 54 = .ok (.iload_n 1, 1) := by decide +kernel
theorem d_AdjoinedSetsModel_scan_55 : decode b_AdjoinedSetsModel_scan 55 = .ok (.isub, 1) := by decide +kernel
theorem d_AdjoinedSetsModel_scan_56 : decode b_AdjoinedSetsModel_scan 56 = .ok (.aload_n 0, 1) := by decide +kernel
theorem d_AdjoinedSetsModel_scan_57 : decode b_AdjoinedSetsModel_scan 57 = .ok (.getfield 26, 3) := by decide +kernel
theorem d_AdjoinedSetsModel_scan_60 : decode b_AdjoinedSetsModel_scan 60 = .ok (.aload_n 0, 1) := by decide +kernel
theorem d_AdjoinedSetsModel_scan_61 : decode b_AdjoinedSetsModel_scan 61 = .ok (.getfield 132, 3) := by decide +kernel
theorem d_AdjoinedSetsModel_scan_64 : decode b_AdjoinedSetsModel_scan 64 = .ok (.iaload, 1) := by decide +kernel
theorem d_AdjoinedSetsModel_scan_65 : decode b_AdjoinedSetsModel_scan 65 = .ok (.ifCond .ne 15, 3) := by decide +kernel
theorem d_AdjoinedSetsModel_scan_68 : decode b_AdjoinedSetsModel_scan 68 = .ok (.iload 4, 2) := by decide +kernel
theorem d_AdjoinedSetsModel_scan_70 : decode b_AdjoinedSetsModel_scan 70 = .ok (.invokestatic 100, 3) := by decide +kernel
theorem d_AdjoinedSetsModel_scan_73 : decode b_AdjoinedSetsModel_scan 73 = .ok (.ifCond .eq 7, 3) := by decide +kernel
theorem d_AdjoinedSetsModel_scan_76 : decode b_AdjoinedSetsModel_scan 76 = .ok (.iconst 1, 1) := by decide +kernel
theorem d_AdjoinedSetsModel_scan_77 : decode b_AdjoinedSetsModel_scan 77 = .ok (.goto 4, 3) := by decide +kernel
theorem d_AdjoinedSetsModel_scan_80 : decode b_AdjoinedSetsModel_scan 80 = .ok (.iconst 0, 1) := by decide +kernel
theorem d_AdjoinedSetsModel_scan_81 : decode b_AdjoinedSetsModel_scan 81 = .ok (.bastore, 1) := by decide +kernel
theorem d_AdjoinedSetsModel_scan_82 : decode b_AdjoinedSetsModel_scan 82 = .ok (.aload_n 0, 1) := by decide +kernel
theorem d_AdjoinedSetsModel_scan_83 : decode b_AdjoinedSetsModel_scan 83 = .ok (.getfield 42, 3) := by decide +kernel
theorem d_AdjoinedSetsModel_scan_86 : decode b_AdjoinedSetsModel_scan 86 = .ok (.iload_n 2, 1) := by decide +kernel
theorem d_AdjoinedSetsModel_scan_87 : decode b_AdjoinedSetsModel_scan 87 = .ok (.iload_n 1, 1) := by decide +kernel
theorem d_AdjoinedSetsModel_scan_88 : decode b_AdjoinedSetsModel_scan 88 = .ok (.isub, 1) := by decide +kernel
theorem d_AdjoinedSetsModel_scan_89 : decode b_AdjoinedSetsModel_scan 89 = .ok (.iload_n 3, 1) := by decide +kernel
theorem d_AdjoinedSetsModel_scan_90 : decode b_AdjoinedSetsModel_scan 90 = .ok (.iastore, 1) := by decide +kernel
theorem d_AdjoinedSetsModel_scan_91 : decode b_AdjoinedSetsModel_scan 91 = .ok (.aload_n 0, 1) := by decide +kernel
theorem d_AdjoinedSetsModel_scan_92 : decode b_AdjoinedSetsModel_scan 92 = .ok (.getfield 26, 3) := by decide +kernel
theorem d_AdjoinedSetsModel_scan_95 : decode b_AdjoinedSetsModel_scan 95 = .ok (.aload_n 0, 1) := by decide +kernel
theorem d_AdjoinedSetsModel_scan_96 : decode b_AdjoinedSetsModel_scan 96 = .ok (.getfield 132, 3) := by decide +kernel
theorem d_AdjoinedSetsModel_scan_99 : decode b_AdjoinedSetsModel_scan 99 = .ok (.iaload, 1) := by decide +kernel
theorem d_AdjoinedSetsModel_scan_100 : decode b_AdjoinedSetsModel_scan 100 = .ok (.ifCond .ne 78, 3) := by decide +kernel
theorem d_AdjoinedSetsModel_scan_103 : decode b_AdjoinedSetsModel_scan 103 = .ok (.iload 4, 2) := by decide +kernel
theorem d_AdjoinedSetsModel_scan_105 : decode b_AdjoinedSetsModel_scan 105 = .ok (.invokestatic 115, 3) := by decide +kernel
theorem d_AdjoinedSetsModel_scan_108 : decode b_AdjoinedSetsModel_scan 108 = .ok (.ifCond .eq 39, 3) := by decide +kernel
theorem d_AdjoinedSetsModel_scan_111 : decode b_AdjoinedSetsModel_scan 111 = .ok (.aload_n 0, 1) := by decide +kernel
theorem d_AdjoinedSetsModel_scan_112 : decode b_AdjoinedSetsModel_scan 112 = .ok (.iconst 0, 1) := by decide +kernel
theorem d_AdjoinedSetsModel_scan_113 : decode b_AdjoinedSetsModel_scan 113 = .ok (.iload_n 3, 1) := by decide +kernel
theorem d_AdjoinedSetsModel_scan_114 : decode b_AdjoinedSetsModel_scan 114 = .ok (.aload_n 0, 1) := by decide +kernel
theorem d_AdjoinedSetsModel_scan_115 : decode b_AdjoinedSetsModel_scan 115 = .ok (.getfield 7, 3) := by decide +kernel
theorem d_AdjoinedSetsModel_scan_118 : decode b_AdjoinedSetsModel_scan 118 = .ok (.iload_n 2, 1) := by decide +kernel
theorem d_AdjoinedSetsModel_scan_119 : decode b_AdjoinedSetsModel_scan 119 = .ok (.iconst 1, 1) := by decide +kernel
theorem d_AdjoinedSetsModel_scan_120 : decode b_AdjoinedSetsModel_scan 120 = .ok (.iadd, 1) := by decide +kernel
theorem d_AdjoinedSetsModel_scan_121 : decode b_AdjoinedSetsModel_scan 121 = .ok (.iaload, 1) := by decide +kernel
theorem d_AdjoinedSetsModel_scan_122 : decode b_AdjoinedSetsModel_scan 122 = .ok (.invokestatic 138, 3) := by decide +kernel
theorem d_AdjoinedSetsModel_scan_125 : decode b_AdjoinedSetsModel_scan 125 = .ok (.ior, 1) := by decide +kernel
theorem d_AdjoinedSetsModel_scan_126 : decode b_AdjoinedSetsModel_scan 126 = .ok (.iconst 0, 1) := by decide +kernel
theorem d_AdjoinedSetsModel_scan_127 : decode b_AdjoinedSetsModel_scan 127 = .ok (.invokevirtual 141, 3) := by decide +kernel
theorem d_AdjoinedSetsModel_scan_130 : decode b_AdjoinedSetsModel_scan 130 = .ok (.aload_n 0, 1) := by decide +kernel
theorem d_AdjoinedSetsModel_scan_131 : decode b_AdjoinedSetsModel_scan 131 = .ok (.iconst 0, 1) := by decide +kernel
theorem d_AdjoinedSetsModel_scan_132 : decode b_AdjoinedSetsModel_scan 132 = .ok (.iload_n 3, 1) := by decide +kernel
theorem d_AdjoinedSetsModel_scan_133 : decode b_AdjoinedSetsModel_scan 133 = .ok (.iconst 0, 1) := by decide +kernel
theorem d_AdjoinedSetsModel_scan_134 : decode b_AdjoinedSetsModel_scan 134 = .ok (.invokevirtual 141, 3) := by decide +kernel
theorem d_AdjoinedSetsModel_scan_137 : decode b_AdjoinedSetsModel_scan 137 = .ok (.aload_n 0, 1) := by decide +kernel
theorem d_AdjoinedSetsModel_scan_138 : decode b_AdjoinedSetsModel_scan 138 = .ok (.iconst 2, 1) := by decide +kernel
theorem d_AdjoinedSetsModel_scan_139 : decode b_AdjoinedSetsModel_scan 139 = .ok (.iload_n 3, 1) := by decide +kernel
theorem d_AdjoinedSetsModel_scan_140 : decode b_AdjoinedSetsModel_scan 140 = .ok (.iconst 0, 1) := by decide +kernel
theorem d_AdjoinedSetsModel_scan_141 : decode b_AdjoinedSetsModel_scan 141 = .ok (.invokevirtual 141, 3) := by decide +kernel
theorem d_AdjoinedSetsModel_scan_144 : decode b_AdjoinedSetsModel_scan 144 = .ok (.goto 34, 3) := by decide +kernel
theorem d_AdjoinedSetsModel_scan_147 : decode b_AdjoinedSetsModel_scan 147 = .ok (.aload_n 0, 1) := by decide +kernel
theorem d_AdjoinedSetsModel_scan_148 : decode b_AdjoinedSetsModel_scan 148 = .ok (.iload 4, 2) := by decide +kernel
theorem d_AdjoinedSetsModel_scan_150 : decode b_AdjoinedSetsModel_scan 150 = .ok (.invokevirtual 118, 3) := by decide +kernel
theorem d_AdjoinedSetsModel_scan_153 : decode b_AdjoinedSetsModel_scan 153 = .ok (.istore 5, 2) := by decide +kernel
theorem d_AdjoinedSetsModel_scan_155 : decode b_AdjoinedSetsModel_scan 155 = .ok (.iconst 0, 1) := by decide +kernel
theorem d_AdjoinedSetsModel_scan_156 : decode b_AdjoinedSetsModel_scan 156 = .ok (.istore 6, 2) := by decide +kernel
theorem d_AdjoinedSetsModel_scan_158 : decode b_AdjoinedSetsModel_scan 158 = .ok (.iload 6, 2) := by decide +kernel
theorem d_AdjoinedSetsModel_scan_160 : decode b_AdjoinedSetsModel_scan 160 = .ok (.iload 5, 2) := by decide +kernel
theorem d_AdjoinedSetsModel_scan_162 : decode b_AdjoinedSetsModel_scan 162 = .ok (.if_icmp .ge 16, 3) := by decide +kernel
theorem d_AdjoinedSetsModel_scan_165 : decode b_AdjoinedSetsModel_scan 165 = .ok (.aload_n 0, 1) := by decide +kernel
theorem d_AdjoinedSetsModel_scan_166 : decode b_AdjoinedSetsModel_scan 166 = .ok (.iconst 0, 1) := by decide +kernel
theorem d_AdjoinedSetsModel_scan_167 : decode b_AdjoinedSetsModel_scan 167 = .ok (.iload_n 3, 1) := by decide +kernel
theorem d_AdjoinedSetsModel_scan_168 : decode b_AdjoinedSetsModel_scan 168 = .ok (.iconst 0, 1) := by decide +kernel
theorem d_AdjoinedSetsModel_scan_169 : decode b_AdjoinedSetsModel_scan 169 = .ok (.invokevirtual 141, 3) := by decide +kernel
theorem d_AdjoinedSetsModel_scan_172 : decode b_AdjoinedSetsModel_scan 172 = .ok (.iinc 6 1, 3) := by decide +kernel
theorem d_AdjoinedSetsModel_scan_175 : decode b_AdjoinedSetsModel_scan 175 = .ok (.goto (-17), 3) := by decide +kernel
theorem d_AdjoinedSetsModel_scan_178 : decode b_AdjoinedSetsModel_scan 178 = .ok (.iinc 2 1, 3) := by decide +kernel
theorem d_AdjoinedSetsModel_scan_181 : decode b_AdjoinedSetsModel_scan 181 = .ok (.goto (-167), 3) := by decide +kernel
theorem d_AdjoinedSetsModel_scan_184 : decode b_AdjoinedSetsModel_scan 184 = .ok (.iload_n 2, 1) := by decide +kernel
theorem d_AdjoinedSetsModel_scan_185 : decode b_AdjoinedSetsModel_scan 185 = .ok (.ireturn, 1) := by decide +kernel
def s_AdjoinedSetsModel_scan_178 (c14 : Nat → Int32 → Int32 → HP → Option (Int32 × HP)) (x0 : Nat) (x1 : Int32) (x2 : Int32) (h : HP) : Option (Int32 × HP) :=
  c14 x0 x1 (x2 + 1) h
set_option maxHeartbeats 4000000 in
set_option maxRecDepth 100000 in
theorem k_AdjoinedSetsModel_scan_178 {x0 : Nat} {x1 : Int32} {x2 : Int32} {h : HP} {z : Int32 × HP} (C : CX g R_AdjoinedSetsModel b_AdjoinedSetsModel_scan 7 (some .int) p s m args meth c) (c14 : Nat → Int32 → Int32 → HP → Option (Int32 × HP))
    (hc14 : ∀ {x0 : Nat} {x1 : Int32} {x2 : Int32} {h : HP} {H : Heap} {locs : List Loc} {ls : Array Slot}, WD g h s.heap H locs → lv_has ls 7 [(0, .ref (aD g x0)), (1, .int x1), (2, .int x2)] → c14 x0 x1 x2 h = some z → W p l e (rmS 2 41) s m args below meth c H locs 0 0 (MQ below (Qq g (some (.int z.1)) z.2) args s 0 0 (inA g)) (F0 m 14 ls [])) {H : Heap} {locs : List Loc} {ls : Array Slot} (hw : WD g h s.heap H locs) (hl : lv_has ls 7 [(0, .ref (aD g x0)), (1, .int x1), (2, .int x2)]) (hs : s_AdjoinedSetsModel_scan_178 c14 x0 x1 x2 h = some z) : W p l e (rmS 2 41) s m args below meth c H locs 0 0 (MQ below (Qq g (some (.int z.1)) z.2) args s 0 0 (inA g)) (F0 m 178 ls []) := by
  unfold s_AdjoinedSetsModel_scan_178 at hs
  have hx := C.1
  have hb := C.2.1
  refine lv_iinc hx hb d_AdjoinedSetsModel_scan_178 hl (k := 2) rfl (v := (x2 + 1)) (iinc_e _ (by decide)) (by decide) (lv' := [(2, .int (x2 + 1)), (0, .ref (aD g x0)), (1, .int x1)]) rfl (fun ls hl => ?_)
  refine lv_goto hx hb d_AdjoinedSetsModel_scan_181 (tgt := 14) (by decide) ?_
  exact hc14 hw (lv_sub hl [1, 2, 0] rfl) hs

def s_AdjoinedSetsModel_scan_158 (c14 : Nat → Int32 → Int32 → HP → Option (Int32 × HP)) : Nat → Nat → Int32 → Int32 → Int32 → Int32 → Int32 → HP → Option (Int32 × HP)
  | 0 => fun _ _ _ _ _ _ _ => none
  | k + 1 => fun x0 x1 x2 x3 x5 x6 h =>
  if x5 ≤ x6 then (
    s_AdjoinedSetsModel_scan_178 c14 x0 x1 x2 h)
  else (
    (kd x0 9).bind fun _ =>
    (s_AdjoinedSetsModel_want x0 0 x3 0 h).bind fun q2 =>
    (s_AdjoinedSetsModel_scan_158 c14 k) x0 x1 x2 x3 x5 (x6 + 1) q2)
set_option maxHeartbeats 4000000 in
set_option maxRecDepth 100000 in
theorem k_AdjoinedSetsModel_scan_158 {z : Int32 × HP} (C : CX g R_AdjoinedSetsModel b_AdjoinedSetsModel_scan 7 (some .int) p s m args meth c) (c14 : Nat → Int32 → Int32 → HP → Option (Int32 × HP))
    (hc14 : ∀ {x0 : Nat} {x1 : Int32} {x2 : Int32} {h : HP} {H : Heap} {locs : List Loc} {ls : Array Slot}, WD g h s.heap H locs → lv_has ls 7 [(0, .ref (aD g x0)), (1, .int x1), (2, .int x2)] → c14 x0 x1 x2 h = some z → W p l e (rmS 2 41) s m args below meth c H locs 0 0 (MQ below (Qq g (some (.int z.1)) z.2) args s 0 0 (inA g)) (F0 m 14 ls [])) : ∀ (k : Nat) {x0 : Nat} {x1 : Int32} {x2 : Int32} {x3 : Int32} {x5 : Int32} {x6 : Int32} {h : HP} {H : Heap} {locs : List Loc} {ls : Array Slot}, WD g h s.heap H locs → lv_has ls 7 [(0, .ref (aD g x0)), (1, .int x1), (2, .int x2), (3, .int x3), (5, .int x5), (6, .int x6)] → s_AdjoinedSetsModel_scan_158 c14 k x0 x1 x2 x3 x5 x6 h = some z → W p l e (rmS 2 41) s m args below meth c H locs 0 0 (MQ below (Qq g (some (.int z.1)) z.2) args s 0 0 (inA g)) (F0 m 158 ls []) := by
  have hx := C.1
  have hb := C.2.1
  intro k
  induction k with
  | zero =>
    intro x0 x1 x2 x3 x5 x6 h H locs ls hw hl hs
    exact (no_s hs).elim
  | succ k ih =>
    intro x0 x1 x2 x3 x5 x6 h H locs ls hw hl hs
    rw [s_AdjoinedSetsModel_scan_158] at hs
    refine lv_iload hx hb d_AdjoinedSetsModel_scan_158 (lv_at hl 5 rfl) ?_
    refine lv_iload hx hb d_AdjoinedSetsModel_scan_160 (lv_at hl 4 rfl) ?_
    refine lv_icmp_ge hx hb d_AdjoinedSetsModel_scan_162 (tgt := 178) (by decide) (fun hc => ?_) (fun hc => ?_)
    · have hs := oi_t hc hs
      exact k_AdjoinedSetsModel_scan_178 C c14 hc14 hw (lv_sub hl [0, 1, 2] rfl) hs
    · have hs := oi_f hc hs
      refine lv_aload_n hx hb d_AdjoinedSetsModel_scan_165 rfl (lv_at hl 0 rfl) ?_
      refine lv_iconst (v := 0) hx hb d_AdjoinedSetsModel_scan_166 (by decide) ?_
      refine lv_iload_n hx hb d_AdjoinedSetsModel_scan_167 rfl (lv_at hl 3 rfl) ?_
      refine lv_iconst (v := 0) hx hb d_AdjoinedSetsModel_scan_168 (by decide) ?_
      obtain ⟨_, e1, hs⟩ := ob hs
      obtain ⟨q2, e3, hs⟩ := ob hs
      refine pg_callV C hw hl.1 ml_AdjoinedSetsModel_141 e1 (As := [.int 0, .int x3, .int 0]) (rest := []) (c_AdjoinedSetsModel_want l g e3) rfl (rm_ok (Nat.le_of_ble_eq_true rfl) (Nat.le_of_ble_eq_true rfl)) (Nat.le_of_ble_eq_true rfl) rfl (st1 := []) rfl d_AdjoinedSetsModel_scan_169 (fun H locs hw => ?_)
      refine lv_iinc hx hb d_AdjoinedSetsModel_scan_172 hl (k := 5) rfl (v := (x6 + 1)) (iinc_e _ (by decide)) (by decide) (lv' := [(6, .int (x6 + 1)), (0, .ref (aD g x0)), (1, .int x1), (2, .int x2), (3, .int x3), (5, .int x5)]) rfl (fun ls hl => ?_)
      refine lv_goto hx hb d_AdjoinedSetsModel_scan_175 (tgt := 158) (by decide) ?_
      exact ih hw (lv_sub hl [1, 2, 3, 4, 5, 0] rfl) hs

def s_AdjoinedSetsModel_scan_81 (c14 : Nat → Int32 → Int32 → HP → Option (Int32 × HP)) (x0 : Nat) (x1 : Int32) (x2 : Int32) (x3 : Int32) (x4 : Int32) (t0 : Nat) (t1 : Int32) (t2 : Int32) (h : HP) : Option (Int32 × HP) :=
  (uI h t0 5 t1 (vp_nar .boolean t2)).bind fun h1 =>
  (gR h1 x0 9 14).bind fun v3 =>
  (uI h1 v3 0 (x2 - x1) x3).bind fun h5 =>
  (gR h5 x0 9 8).bind fun v7 =>
  (gI h5 x0 9 7).bind fun v9 =>
  (aI h5 v7 0 v9).bind fun v11 =>
  if v11 = 0 then (
    (s_AdjoinedSetsModel_isBinder x4).bind fun q13 =>
    if q13 = 0 then (
      (kd x0 9).bind fun _ =>
      (s_AdjoinedSetsModel_partsOf x0 x4 h5).bind fun q16 =>
      s_AdjoinedSetsModel_scan_158 c14 20000 x0 x1 x2 x3 q16 0 h5)
    else (
      (gR h5 x0 9 0).bind fun v18 =>
      (aI h5 v18 0 (x2 + 1)).bind fun v20 =>
      (s_AdjoinedSetsModel_bit v20).bind fun q22 =>
      (kd x0 9).bind fun _ =>
      (s_AdjoinedSetsModel_want x0 0 (x3 ||| q22) 0 h5).bind fun q25 =>
      (kd x0 9).bind fun _ =>
      (s_AdjoinedSetsModel_want x0 0 x3 0 q25).bind fun q28 =>
      (kd x0 9).bind fun _ =>
      (s_AdjoinedSetsModel_want x0 2 x3 0 q28).bind fun q31 =>
      s_AdjoinedSetsModel_scan_178 c14 x0 x1 x2 q31))
  else (
    s_AdjoinedSetsModel_scan_178 c14 x0 x1 x2 h5)
set_option maxHeartbeats 4000000 in
set_option maxRecDepth 100000 in
theorem k_AdjoinedSetsModel_scan_81 {x0 : Nat} {x1 : Int32} {x2 : Int32} {x3 : Int32} {x4 : Int32} {t0 : Nat} {t1 : Int32} {t2 : Int32} {h : HP} {z : Int32 × HP} (C : CX g R_AdjoinedSetsModel b_AdjoinedSetsModel_scan 7 (some .int) p s m args meth c) (c14 : Nat → Int32 → Int32 → HP → Option (Int32 × HP))
    (hc14 : ∀ {x0 : Nat} {x1 : Int32} {x2 : Int32} {h : HP} {H : Heap} {locs : List Loc} {ls : Array Slot}, WD g h s.heap H locs → lv_has ls 7 [(0, .ref (aD g x0)), (1, .int x1), (2, .int x2)] → c14 x0 x1 x2 h = some z → W p l e (rmS 2 41) s m args below meth c H locs 0 0 (MQ below (Qq g (some (.int z.1)) z.2) args s 0 0 (inA g)) (F0 m 14 ls [])) {H : Heap} {locs : List Loc} {ls : Array Slot} (hw : WD g h s.heap H locs) (hl : lv_has ls 7 [(0, .ref (aD g x0)), (1, .int x1), (2, .int x2), (3, .int x3), (4, .int x4)]) (hs : s_AdjoinedSetsModel_scan_81 c14 x0 x1 x2 x3 x4 t0 t1 t2 h = some z) : W p l e (rmS 2 41) s m args below meth c H locs 0 0 (MQ below (Qq g (some (.int z.1)) z.2) args s 0 0 (inA g)) (F0 m 81 ls [.int t2, .int t1, .ref (aD g t0)]) := by
  unfold s_AdjoinedSetsModel_scan_81 at hs
  have hx := C.1
  have hb := C.2.1
  obtain ⟨h1, e2, hs⟩ := ob hs
  refine pg_bastore C hw (t0 := 5) rfl e2 d_AdjoinedSetsModel_scan_81 (fun H locs hw => ?_)
  refine lv_aload_n hx hb d_AdjoinedSetsModel_scan_82 rfl (lv_at hl 0 rfl) ?_
  obtain ⟨v3, e4, hs⟩ := ob hs
  refine pg_getR C hw fl_AdjoinedSetsModel_42 e4 d_AdjoinedSetsModel_scan_83 ?_
  refine lv_iload_n hx hb d_AdjoinedSetsModel_scan_86 rfl (lv_at hl 2 rfl) ?_
  refine lv_iload_n hx hb d_AdjoinedSetsModel_scan_87 rfl (lv_at hl 1 rfl) ?_
  refine lv_isub hx hb d_AdjoinedSetsModel_scan_88 ?_
  refine lv_iload_n hx hb d_AdjoinedSetsModel_scan_89 rfl (lv_at hl 3 rfl) ?_
  obtain ⟨h5, e6, hs⟩ := ob hs
  refine pg_iastore C hw (t0 := 0) rfl e6 d_AdjoinedSetsModel_scan_90 (fun H locs hw => ?_)
  refine lv_aload_n hx hb d_AdjoinedSetsModel_scan_91 rfl (lv_at hl 0 rfl) ?_
  obtain ⟨v7, e8, hs⟩ := ob hs
  refine pg_getR C hw fl_AdjoinedSetsModel_26 e8 d_AdjoinedSetsModel_scan_92 ?_
  refine lv_aload_n hx hb d_AdjoinedSetsModel_scan_95 rfl (lv_at hl 0 rfl) ?_
  obtain ⟨v9, e10, hs⟩ := ob hs
  refine pg_getI C hw fl_AdjoinedSetsModel_132 e10 d_AdjoinedSetsModel_scan_96 ?_
  obtain ⟨v11, e12, hs⟩ := ob hs
  refine pg_iaload C hw (t0 := 0) rfl e12 d_AdjoinedSetsModel_scan_99 ?_
  refine lv_if_ne hx hb d_AdjoinedSetsModel_scan_100 (tgt := 178) (by decide) (fun hc => ?_) (fun hc => ?_)
  · have hs := oi_f hc hs
    exact k_AdjoinedSetsModel_scan_178 C c14 hc14 hw (lv_sub hl [0, 1, 2] rfl) hs
  · have hs := oi_t hc hs
    refine lv_iload hx hb d_AdjoinedSetsModel_scan_103 (lv_at hl 4 rfl) ?_
    obtain ⟨q13, e14, hs⟩ := ob hs
    refine pg_callS C hw hl.1 ml_AdjoinedSetsModel_115 (As := [.int x4]) (rest := []) (c_AdjoinedSetsModel_isBinder l g e14) rfl (rm_ok (Nat.le_of_ble_eq_true rfl) (Nat.le_of_ble_eq_true rfl)) (Nat.le_of_ble_eq_true rfl) rfl (st1 := [.int q13]) rfl d_AdjoinedSetsModel_scan_105 (fun H locs hw => ?_)
    refine lv_if_eq hx hb d_AdjoinedSetsModel_scan_108 (tgt := 147) (by decide) (fun hc => ?_) (fun hc => ?_)
    · have hs := oi_t hc hs
      refine lv_aload_n hx hb d_AdjoinedSetsModel_scan_147 rfl (lv_at hl 0 rfl) ?_
      refine lv_iload hx hb d_AdjoinedSetsModel_scan_148 (lv_at hl 4 rfl) ?_
      obtain ⟨_, e15, hs⟩ := ob hs
      obtain ⟨q16, e17, hs⟩ := ob hs
      refine pg_callV C hw hl.1 ml_AdjoinedSetsModel_118 e15 (As := [.int x4]) (rest := []) (c_AdjoinedSetsModel_partsOf l g e17) rfl (rm_ok (Nat.le_of_ble_eq_true rfl) (Nat.le_of_ble_eq_true rfl)) (Nat.le_of_ble_eq_true rfl) rfl (st1 := [.int q16]) rfl d_AdjoinedSetsModel_scan_150 (fun H locs hw => ?_)
      refine lv_istore hx hb d_AdjoinedSetsModel_scan_153 hl (by decide) (lv' := [(5, .int q16), (0, .ref (aD g x0)), (1, .int x1), (2, .int x2), (3, .int x3), (4, .int x4)]) rfl (fun ls hl => ?_)
      refine lv_iconst (v := 0) hx hb d_AdjoinedSetsModel_scan_155 (by decide) ?_
      refine lv_istore hx hb d_AdjoinedSetsModel_scan_156 hl (by decide) (lv' := [(6, .int 0), (5, .int q16), (0, .ref (aD g x0)), (1, .int x1), (2, .int x2), (3, .int x3), (4, .int x4)]) rfl (fun ls hl => ?_)
      exact k_AdjoinedSetsModel_scan_158 C c14 hc14 20000 hw (lv_sub hl [2, 3, 4, 5, 1, 0] rfl) hs
    · have hs := oi_f hc hs
      refine lv_aload_n hx hb d_AdjoinedSetsModel_scan_111 rfl (lv_at hl 0 rfl) ?_
      refine lv_iconst (v := 0) hx hb d_AdjoinedSetsModel_scan_112 (by decide) ?_
      refine lv_iload_n hx hb d_AdjoinedSetsModel_scan_113 rfl (lv_at hl 3 rfl) ?_
      refine lv_aload_n hx hb d_AdjoinedSetsModel_scan_114 rfl (lv_at hl 0 rfl) ?_
      obtain ⟨v18, e19, hs⟩ := ob hs
      refine pg_getR C hw fl_AdjoinedSetsModel_7 e19 d_AdjoinedSetsModel_scan_115 ?_
      refine lv_iload_n hx hb d_AdjoinedSetsModel_scan_118 rfl (lv_at hl 2 rfl) ?_
      refine lv_iconst (v := 1) hx hb d_AdjoinedSetsModel_scan_119 (by decide) ?_
      refine lv_iadd hx hb d_AdjoinedSetsModel_scan_120 ?_
      obtain ⟨v20, e21, hs⟩ := ob hs
      refine pg_iaload C hw (t0 := 0) rfl e21 d_AdjoinedSetsModel_scan_121 ?_
      obtain ⟨q22, e23, hs⟩ := ob hs
      refine pg_callS C hw hl.1 ml_AdjoinedSetsModel_138 (As := [.int v20]) (rest := [.int x3, .int 0, .ref (aD g x0)]) (c_AdjoinedSetsModel_bit l g e23) rfl (rm_ok (Nat.le_of_ble_eq_true rfl) (Nat.le_of_ble_eq_true rfl)) (Nat.le_of_ble_eq_true rfl) rfl (st1 := [.int q22, .int x3, .int 0, .ref (aD g x0)]) rfl d_AdjoinedSetsModel_scan_122 (fun H locs hw => ?_)
      refine lv_ior hx hb d_AdjoinedSetsModel_scan_125 ?_
      refine lv_iconst (v := 0) hx hb d_AdjoinedSetsModel_scan_126 (by decide) ?_
      obtain ⟨_, e24, hs⟩ := ob hs
      obtain ⟨q25, e26, hs⟩ := ob hs
      refine pg_callV C hw hl.1 ml_AdjoinedSetsModel_141 e24 (As := [.int 0, .int (x3 ||| q22), .int 0]) (rest := []) (c_AdjoinedSetsModel_want l g e26) rfl (rm_ok (Nat.le_of_ble_eq_true rfl) (Nat.le_of_ble_eq_true rfl)) (Nat.le_of_ble_eq_true rfl) rfl (st1 := []) rfl d_AdjoinedSetsModel_scan_127 (fun H locs hw => ?_)
      refine lv_aload_n hx hb d_AdjoinedSetsModel_scan_130 rfl (lv_at hl 0 rfl) ?_
      refine lv_iconst (v := 0) hx hb d_AdjoinedSetsModel_scan_131 (by decide) ?_
      refine lv_iload_n hx hb d_AdjoinedSetsModel_scan_132 rfl (lv_at hl 3 rfl) ?_
      refine lv_iconst (v := 0) hx hb d_AdjoinedSetsModel_scan_133 (by decide) ?_
      obtain ⟨_, e27, hs⟩ := ob hs
      obtain ⟨q28, e29, hs⟩ := ob hs
      refine pg_callV C hw hl.1 ml_AdjoinedSetsModel_141 e27 (As := [.int 0, .int x3, .int 0]) (rest := []) (c_AdjoinedSetsModel_want l g e29) rfl (rm_ok (Nat.le_of_ble_eq_true rfl) (Nat.le_of_ble_eq_true rfl)) (Nat.le_of_ble_eq_true rfl) rfl (st1 := []) rfl d_AdjoinedSetsModel_scan_134 (fun H locs hw => ?_)
      refine lv_aload_n hx hb d_AdjoinedSetsModel_scan_137 rfl (lv_at hl 0 rfl) ?_
      refine lv_iconst (v := 2) hx hb d_AdjoinedSetsModel_scan_138 (by decide) ?_
      refine lv_iload_n hx hb d_AdjoinedSetsModel_scan_139 rfl (lv_at hl 3 rfl) ?_
      refine lv_iconst (v := 0) hx hb d_AdjoinedSetsModel_scan_140 (by decide) ?_
      obtain ⟨_, e30, hs⟩ := ob hs
      obtain ⟨q31, e32, hs⟩ := ob hs
      refine pg_callV C hw hl.1 ml_AdjoinedSetsModel_141 e30 (As := [.int 2, .int x3, .int 0]) (rest := []) (c_AdjoinedSetsModel_want l g e32) rfl (rm_ok (Nat.le_of_ble_eq_true rfl) (Nat.le_of_ble_eq_true rfl)) (Nat.le_of_ble_eq_true rfl) rfl (st1 := []) rfl d_AdjoinedSetsModel_scan_141 (fun H locs hw => ?_)
      refine lv_goto hx hb d_AdjoinedSetsModel_scan_144 (tgt := 178) (by decide) ?_
      exact k_AdjoinedSetsModel_scan_178 C c14 hc14 hw (lv_sub hl [0, 1, 2] rfl) hs

def s_AdjoinedSetsModel_scan_80 (c14 : Nat → Int32 → Int32 → HP → Option (Int32 × HP)) (x0 : Nat) (x1 : Int32) (x2 : Int32) (x3 : Int32) (x4 : Int32) (t0 : Nat) (t1 : Int32) (h : HP) : Option (Int32 × HP) :=
  s_AdjoinedSetsModel_scan_81 c14 x0 x1 x2 x3 x4 t0 t1 0 h
set_option maxHeartbeats 4000000 in
set_option maxRecDepth 100000 in
theorem k_AdjoinedSetsModel_scan_80 {x0 : Nat} {x1 : Int32} {x2 : Int32} {x3 : Int32} {x4 : Int32} {t0 : Nat} {t1 : Int32} {h : HP} {z : Int32 × HP} (C : CX g R_AdjoinedSetsModel b_AdjoinedSetsModel_scan 7 (some .int) p s m args meth c) (c14 : Nat → Int32 → Int32 → HP → Option (Int32 × HP))
    (hc14 : ∀ {x0 : Nat} {x1 : Int32} {x2 : Int32} {h : HP} {H : Heap} {locs : List Loc} {ls : Array Slot}, WD g h s.heap H locs → lv_has ls 7 [(0, .ref (aD g x0)), (1, .int x1), (2, .int x2)] → c14 x0 x1 x2 h = some z → W p l e (rmS 2 41) s m args below meth c H locs 0 0 (MQ below (Qq g (some (.int z.1)) z.2) args s 0 0 (inA g)) (F0 m 14 ls [])) {H : Heap} {locs : List Loc} {ls : Array Slot} (hw : WD g h s.heap H locs) (hl : lv_has ls 7 [(0, .ref (aD g x0)), (1, .int x1), (2, .int x2), (3, .int x3), (4, .int x4)]) (hs : s_AdjoinedSetsModel_scan_80 c14 x0 x1 x2 x3 x4 t0 t1 h = some z) : W p l e (rmS 2 41) s m args below meth c H locs 0 0 (MQ below (Qq g (some (.int z.1)) z.2) args s 0 0 (inA g)) (F0 m 80 ls [.int t1, .ref (aD g t0)]) := by
  unfold s_AdjoinedSetsModel_scan_80 at hs
  have hx := C.1
  have hb := C.2.1
  refine lv_iconst (v := 0) hx hb d_AdjoinedSetsModel_scan_80 (by decide) ?_
  exact k_AdjoinedSetsModel_scan_81 C c14 hc14 hw (lv_sub hl [0, 1, 2, 3, 4] rfl) hs

def s_AdjoinedSetsModel_scan_14 : Nat → Nat → Int32 → Int32 → HP → Option (Int32 × HP)
  | 0 => fun _ _ _ _ => none
  | k + 1 => fun x0 x1 x2 h =>
  (gI h x0 9 7).bind fun v1 =>
  if v1 ≤ 0 then (
    some (x2, h))
  else (
    (gI h x0 9 7).bind fun v3 =>
    (pI h x0 9 7 (v3 - 1)).bind fun h5 =>
    (gR h5 x0 9 9).bind fun v7 =>
    (gI h5 x0 9 7).bind fun v9 =>
    (aI h5 v7 0 v9).bind fun v11 =>
    (gR h5 x0 9 0).bind fun v13 =>
    (aI h5 v13 0 x2).bind fun v15 =>
    (gR h5 x0 9 13).bind fun v17 =>
    (gR h5 x0 9 8).bind fun v19 =>
    (gI h5 x0 9 7).bind fun v21 =>
    (aI h5 v19 0 v21).bind fun v23 =>
    if v23 = 0 then (
      (s_AdjoinedSetsModel_isLow v15).bind fun q25 =>
      if q25 = 0 then (
        s_AdjoinedSetsModel_scan_80 (s_AdjoinedSetsModel_scan_14 k) x0 x1 x2 v11 v15 v17 (x2 - x1) h5)
      else (
        s_AdjoinedSetsModel_scan_81 (s_AdjoinedSetsModel_scan_14 k) x0 x1 x2 v11 v15 v17 (x2 - x1) 1 h5))
    else (
      s_AdjoinedSetsModel_scan_80 (s_AdjoinedSetsModel_scan_14 k) x0 x1 x2 v11 v15 v17 (x2 - x1) h5))
set_option maxHeartbeats 4000000 in
set_option maxRecDepth 100000 in
theorem k_AdjoinedSetsModel_scan_14 {z : Int32 × HP} (C : CX g R_AdjoinedSetsModel b_AdjoinedSetsModel_scan 7 (some .int) p s m args meth c) : ∀ (k : Nat) {x0 : Nat} {x1 : Int32} {x2 : Int32} {h : HP} {H : Heap} {locs : List Loc} {ls : Array Slot}, WD g h s.heap H locs → lv_has ls 7 [(0, .ref (aD g x0)), (1, .int x1), (2, .int x2)] → s_AdjoinedSetsModel_scan_14 k x0 x1 x2 h = some z → W p l e (rmS 2 41) s m args below meth c H locs 0 0 (MQ below (Qq g (some (.int z.1)) z.2) args s 0 0 (inA g)) (F0 m 14 ls []) := by
  have hx := C.1
  have hb := C.2.1
  intro k
  induction k with
  | zero =>
    intro x0 x1 x2 h H locs ls hw hl hs
    exact (no_s hs).elim
  | succ k ih =>
    intro x0 x1 x2 h H locs ls hw hl hs
    rw [s_AdjoinedSetsModel_scan_14] at hs
    refine lv_aload_n hx hb d_AdjoinedSetsModel_scan_14 rfl (lv_at hl 0 rfl) ?_
    obtain ⟨v1, e2, hs⟩ := ob hs
    refine pg_getI C hw fl_AdjoinedSetsModel_132 e2 d_AdjoinedSetsModel_scan_15 ?_
    refine lv_if_le hx hb d_AdjoinedSetsModel_scan_18 (tgt := 184) (by decide) (fun hc => ?_) (fun hc => ?_)
    · have hs := oi_t hc hs
      refine lv_iload_n hx hb d_AdjoinedSetsModel_scan_184 rfl (lv_at hl 2 rfl) ?_
      obtain rfl := Option.some.inj hs
      exact pg_iret C hw d_AdjoinedSetsModel_scan_185
    · have hs := oi_f hc hs
      refine lv_aload_n hx hb d_AdjoinedSetsModel_scan_21 rfl (lv_at hl 0 rfl) ?_
      refine lv_dup hx hb d_AdjoinedSetsModel_scan_22 rfl ?_
      obtain ⟨v3, e4, hs⟩ := ob hs
      refine pg_getI C hw fl_AdjoinedSetsModel_132 e4 d_AdjoinedSetsModel_scan_23 ?_
      refine lv_iconst (v := 1) hx hb d_AdjoinedSetsModel_scan_26 (by decide) ?_
      refine lv_isub hx hb d_AdjoinedSetsModel_scan_27 ?_
      obtain ⟨h5, e6, hs⟩ := ob hs
      refine pg_putI C hw pl_AdjoinedSetsModel_132 e6 d_AdjoinedSetsModel_scan_28 (fun H locs hw => ?_)
      refine lv_aload_n hx hb d_AdjoinedSetsModel_scan_31 rfl (lv_at hl 0 rfl) ?_
      obtain ⟨v7, e8, hs⟩ := ob hs
      refine pg_getR C hw fl_AdjoinedSetsModel_29 e8 d_AdjoinedSetsModel_scan_32 ?_
      refine lv_aload_n hx hb d_AdjoinedSetsModel_scan_35 rfl (lv_at hl 0 rfl) ?_
      obtain ⟨v9, e10, hs⟩ := ob hs
      refine pg_getI C hw fl_AdjoinedSetsModel_132 e10 d_AdjoinedSetsModel_scan_36 ?_
      obtain ⟨v11, e12, hs⟩ := ob hs
      refine pg_iaload C hw (t0 := 0) rfl e12 d_AdjoinedSetsModel_scan_39 ?_
      refine lv_istore_n hx hb d_AdjoinedSetsModel_scan_40 rfl hl (by decide) (lv' := [(3, .int v11), (0, .ref (aD g x0)), (1, .int x1), (2, .int x2)]) rfl (fun ls hl => ?_)
      refine lv_aload_n hx hb d_AdjoinedSetsModel_scan_41 rfl (lv_at hl 1 rfl) ?_
      obtain ⟨v13, e14, hs⟩ := ob hs
      refine pg_getR C hw fl_AdjoinedSetsModel_7 e14 d_AdjoinedSetsModel_scan_42 ?_
      refine lv_iload_n hx hb d_AdjoinedSetsModel_scan_45 rfl (lv_at hl 3 rfl) ?_
      obtain ⟨v15, e16, hs⟩ := ob hs
      refine pg_iaload C hw (t0 := 0) rfl e16 d_AdjoinedSetsModel_scan_46 ?_
      refine lv_istore hx hb d_AdjoinedSetsModel_scan_47 hl (by decide) (lv' := [(4, .int v15), (3, .int v11), (0, .ref (aD g x0)), (1, .int x1), (2, .int x2)]) rfl (fun ls hl => ?_)
      refine lv_aload_n hx hb d_AdjoinedSetsModel_scan_49 rfl (lv_at hl 2 rfl) ?_
      obtain ⟨v17, e18, hs⟩ := ob hs
      refine pg_getR C hw fl_AdjoinedSetsModel_38 e18 d_AdjoinedSetsModel_scan_50 ?_
      refine lv_iload_n hx hb d_AdjoinedSetsModel_scan_53 rfl (lv_at hl 4 rfl) ?_
      refine lv_iload_n hx hb d_AdjoinedSetsModel_scan_54 rfl (lv_at hl 3 rfl) ?_
      refine lv_isub hx hb d_AdjoinedSetsModel_scan_55 ?_
      refine lv_aload_n hx hb d_AdjoinedSetsModel_scan_56 rfl (lv_at hl 2 rfl) ?_
      obtain ⟨v19, e20, hs⟩ := ob hs
      refine pg_getR C hw fl_AdjoinedSetsModel_26 e20 d_AdjoinedSetsModel_scan_57 ?_
      refine lv_aload_n hx hb d_AdjoinedSetsModel_scan_60 rfl (lv_at hl 2 rfl) ?_
      obtain ⟨v21, e22, hs⟩ := ob hs
      refine pg_getI C hw fl_AdjoinedSetsModel_132 e22 d_AdjoinedSetsModel_scan_61 ?_
      obtain ⟨v23, e24, hs⟩ := ob hs
      refine pg_iaload C hw (t0 := 0) rfl e24 d_AdjoinedSetsModel_scan_64 ?_
      refine lv_if_ne hx hb d_AdjoinedSetsModel_scan_65 (tgt := 80) (by decide) (fun hc => ?_) (fun hc => ?_)
      · have hs := oi_f hc hs
        exact k_AdjoinedSetsModel_scan_80 C (s_AdjoinedSetsModel_scan_14 k) ih hw (lv_sub hl [2, 3, 4, 1, 0] rfl) hs
      · have hs := oi_t hc hs
        refine lv_iload hx hb d_AdjoinedSetsModel_scan_68 (lv_at hl 0 rfl) ?_
        obtain ⟨q25, e26, hs⟩ := ob hs
        refine pg_callS C hw hl.1 ml_AdjoinedSetsModel_100 (As := [.int v15]) (rest := [.int (x2 - x1), .ref (aD g v17)]) (c_AdjoinedSetsModel_isLow l g e26) rfl (rm_ok (Nat.le_of_ble_eq_true rfl) (Nat.le_of_ble_eq_true rfl)) (Nat.le_of_ble_eq_true rfl) rfl (st1 := [.int q25, .int (x2 - x1), .ref (aD g v17)]) rfl d_AdjoinedSetsModel_scan_70 (fun H locs hw => ?_)
        refine lv_if_eq hx hb d_AdjoinedSetsModel_scan_73 (tgt := 80) (by decide) (fun hc => ?_) (fun hc => ?_)
        · have hs := oi_t hc hs
          exact k_AdjoinedSetsModel_scan_80 C (s_AdjoinedSetsModel_scan_14 k) ih hw (lv_sub hl [2, 3, 4, 1, 0] rfl) hs
        · have hs := oi_f hc hs
          refine lv_iconst (v := 1) hx hb d_AdjoinedSetsModel_scan_76 (by decide) ?_
          refine lv_goto hx hb d_AdjoinedSetsModel_scan_77 (tgt := 81) (by decide) ?_
          exact k_AdjoinedSetsModel_scan_81 C (s_AdjoinedSetsModel_scan_14 k) ih hw (lv_sub hl [2, 3, 4, 1, 0] rfl) hs

def s_AdjoinedSetsModel_scan (x0 : Nat) (x1 : Int32) (h : HP) : Option (Int32 × HP) :=
  (pI h x0 9 7 0).bind fun h1 =>
  (kd x0 9).bind fun _ =>
  (s_AdjoinedSetsModel_want x0 0 0 0 h1).bind fun q4 =>
  s_AdjoinedSetsModel_scan_14 20000 x0 x1 x1 q4
set_option maxHeartbeats 4000000 in
set_option maxRecDepth 100000 in
theorem c_AdjoinedSetsModel_scan (l : Launch) (g : GG) {x0 : Nat} {x1 : Int32} {h : HP} {z : Int32 × HP} (hs : s_AdjoinedSetsModel_scan x0 x1 h = some z) : Ct l g y_AdjoinedSetsModel_scan w_AdjoinedSetsModel_scan (rmS 2 41) [.ref (aD g x0), .int x1] h (some (.int z.1)) z.2 := by
  refine Ct.of (own := R_AdjoinedSetsModel) (by decide) rfl rfl (Nat.le_of_ble_eq_true rfl) ?_
  intro p e s m args below meth c ls C hl hw
  have hx := C.1
  have hb := C.2.1
  have hl : lv_has ls 7 [(0, .ref (aD g x0)), (1, .int x1)] := hl
  unfold s_AdjoinedSetsModel_scan at hs
  refine lv_aload_n hx hb d_AdjoinedSetsModel_scan_0 rfl (lv_at hl 0 rfl) ?_
  refine lv_iconst (v := 0) hx hb d_AdjoinedSetsModel_scan_1 (by decide) ?_
  obtain ⟨h1, e2, hs⟩ := ob hs
  refine pg_putI C hw pl_AdjoinedSetsModel_132 e2 d_AdjoinedSetsModel_scan_2 (fun H locs hw => ?_)
  refine lv_aload_n hx hb d_AdjoinedSetsModel_scan_5 rfl (lv_at hl 0 rfl) ?_
  refine lv_iconst (v := 0) hx hb d_AdjoinedSetsModel_scan_6 (by decide) ?_
  refine lv_iconst (v := 0) hx hb d_AdjoinedSetsModel_scan_7 (by decide) ?_
  refine lv_iconst (v := 0) hx hb d_AdjoinedSetsModel_scan_8 (by decide) ?_
  obtain ⟨_, e3, hs⟩ := ob hs
  obtain ⟨q4, e5, hs⟩ := ob hs
  refine pg_callV C hw hl.1 ml_AdjoinedSetsModel_141 e3 (As := [.int 0, .int 0, .int 0]) (rest := []) (c_AdjoinedSetsModel_want l g e5) rfl (rm_ok (Nat.le_of_ble_eq_true rfl) (Nat.le_of_ble_eq_true rfl)) (Nat.le_of_ble_eq_true rfl) rfl (st1 := []) rfl d_AdjoinedSetsModel_scan_9 (fun H locs hw => ?_)
  refine lv_iload_n hx hb d_AdjoinedSetsModel_scan_12 rfl (lv_at hl 1 rfl) ?_
  refine lv_istore_n hx hb d_AdjoinedSetsModel_scan_13 rfl hl (by decide) (lv' := [(2, .int x1), (0, .ref (aD g x0)), (1, .int x1)]) rfl (fun ls hl => ?_)
  exact k_AdjoinedSetsModel_scan_14 C 20000 hw (lv_sub hl [1, 2, 0] rfl) hs

end
section
variable {p : Program} {l : Launch} {e : Env} {s : State} {m : MethodId} {args : Array Value} {below : List Frame} {meth : Method} {c : Code} {g : GG}
theorem d_AdjoinedSetsModel_freeIn_0 : decode b_AdjoinedSetsModel_freeIn 0 = .ok (.aload_n 0, 1) := by decide +kernel
theorem d_AdjoinedSetsModel_freeIn_1 : decode b_AdjoinedSetsModel_freeIn 1 = .ok (.iload_n 1, 1) := by decide +kernel
theorem d_AdjoinedSetsModel_freeIn_2 : decode b_AdjoinedSetsModel_freeIn 2 = .ok (.invokevirtual 234, 3) := by decide +kernel
theorem d_AdjoinedSetsModel_freeIn_5 : decode b_AdjoinedSetsModel_freeIn 5 = .ok (.istore_n 2, 1) := by decide +kernel
theorem d_AdjoinedSetsModel_freeIn_6 : decode b_AdjoinedSetsModel_freeIn 6 = .ok (.iconst 0, 1) := by decide +kernel
theorem d_AdjoinedSetsModel_freeIn_7 : decode b_AdjoinedSetsModel_freeIn 7 = .ok (.istore_n 3, 1) := by decide +kernel
theorem d_AdjoinedSetsModel_freeIn_8 : decode b_AdjoinedSetsModel_freeIn 8 = .ok (.iload_n 1, 1) := by decide +kernel
theorem d_AdjoinedSetsModel_freeIn_9 : decode b_AdjoinedSetsModel_freeIn 9 = .ok (.istore 4, 2) := by decide +kernel
theorem d_AdjoinedSetsModel_freeIn_11 : decode b_AdjoinedSetsModel_freeIn 11 = .ok (.iload 4, 2) := by decide +kernel
theorem d_AdjoinedSetsModel_freeIn_13 : decode b_AdjoinedSetsModel_freeIn 13 = .ok (.iload_n 2, 1) := by decide +kernel
theorem d_AdjoinedSetsModel_freeIn_14 : decode b_AdjoinedSetsModel_freeIn 14 = .ok (.if_icmp .ge 57, 3) := by decide +kernel
theorem d_AdjoinedSetsModel_freeIn_17 : decode b_AdjoinedSetsModel_freeIn 17 = .ok (.aload_n 0, 1) := by decide +kernel
theorem d_AdjoinedSetsModel_freeIn_18 : decode b_AdjoinedSetsModel_freeIn 18 = .ok (.getfield 38, 3) := by decide +kernel
theorem d_AdjoinedSetsModel_freeIn_21 : decode b_AdjoinedSetsModel_freeIn 21 = .ok (.iload 4, 2) := by decide +kernel
theorem d_AdjoinedSetsModel_freeIn_23 : decode b_AdjoinedSetsModel_freeIn 23 = .ok (.iload_n 1, 1) := by decide +kernel
theorem d_AdjoinedSetsModel_freeIn_24 : decode b_AdjoinedSetsModel_freeIn 24 = .ok (.isub, 1) := by decide +kernel
theorem d_AdjoinedSetsModel_freeIn_25 : decode b_AdjoinedSetsModel_freeIn 25 = .ok (.baload, 1) := by decide +kernel
theorem d_AdjoinedSetsModel_freeIn_26 : decode b_AdjoinedSetsModel_freeIn 26 = .ok (.ifCond .eq 39, 3) := by decide +kernel
theorem d_AdjoinedSetsModel_freeIn_29 : decode b_AdjoinedSetsModel_freeIn 29 = .ok (.aload_n 0, 1) := by decide +kernel
theorem d_AdjoinedSetsModel_freeIn_30 : decode b_AdjoinedSetsModel_freeIn 30 = .ok (.getfield 42, 3) := by decide +kernel
theorem d_AdjoinedSetsModel_freeIn_33 : decode b_AdjoinedSetsModel_freeIn 33 = .ok (.iload 4, 2) := by decide +kernel
theorem d_AdjoinedSetsModel_freeIn_35 : decode b_AdjoinedSetsModel_freeIn 35 = .ok (.iload_n 1, 1) := by decide +kernel
theorem d_AdjoinedSetsModel_freeIn_36 : decode b_AdjoinedSetsModel_freeIn 36 = .ok (.isub, 1) := by decide +kernel
theorem d_AdjoinedSetsModel_freeIn_37 : decode b_AdjoinedSetsModel_freeIn 37 = .ok (.iaload, 1) := by decide +kernel
theorem d_AdjoinedSetsModel_freeIn_38 : decode b_AdjoinedSetsModel_freeIn 38 = .ok (.aload_n 0, 1) := by decide +kernel
theorem d_AdjoinedSetsModel_freeIn_39 : decode b_AdjoinedSetsModel_freeIn 39 = .ok (.getfield 7, 3) := by decide +kernel
theorem d_AdjoinedSetsModel_freeIn_42 : decode b_AdjoinedSetsModel_freeIn 42 = .ok (.iload 4, 2) := by decide +kernel
theorem d_AdjoinedSetsModel_freeIn_44 : decode b_AdjoinedSetsModel_freeIn 44 = .ok (.iaload, 1) := by decide +kernel
theorem d_AdjoinedSetsModel_freeIn_45 : decode b_AdjoinedSetsModel_freeIn 45 = .ok (.invokestatic 138, 3) := by decide +kernel
theorem d_AdjoinedSetsModel_freeIn_48 : decode b_AdjoinedSetsModel_freeIn 48 = .ok (.iand, 1) := by decide +kernel
theorem d_AdjoinedSetsModel_freeIn_49 : decode b_AdjoinedSetsModel_freeIn 49 = .ok (.ifCond .ne 16, 3) := by decide +kernel
theorem d_AdjoinedSetsModel_freeIn_52 : decode b_AdjoinedSetsModel_freeIn 52 = .ok (.iload_n 3, 1) := by decide +kernel
theorem d_AdjoinedSetsModel_freeIn_53 : decode b_AdjoinedSetsModel_freeIn 53 = .ok (.aload_n 0, 1) := by decide +kernel
theorem d_AdjoinedSetsModel_freeIn_54 : decode b_AdjoinedSetsModel_freeIn 54 = .ok (.getfield 7, 3) := by decide +kernel
theorem d_AdjoinedSetsModel_freeIn_57 : decode b_AdjoinedSetsModel_freeIn 57 = .ok (.iload 4, 2) := by decide +kernel
theorem d_AdjoinedSetsModel_freeIn_59 : decode b_AdjoinedSetsModel_freeIn 59 = .ok (.iaload, 1) := by decide +kernel
theorem d_AdjoinedSetsModel_freeIn_60 : decode b_AdjoinedSetsModel_freeIn 60 = .ok (.invokestatic 138, 3) := by decide +kernel
theorem d_AdjoinedSetsModel_freeIn_63 : decode b_AdjoinedSetsModel_freeIn 63 = .ok (.ior, 1) := by decide +kernel
theorem d_AdjoinedSetsModel_freeIn_64 : decode b_AdjoinedSetsModel_freeIn 64 = .ok (.istore_n 3, 1) := by decide +kernel
theorem d_AdjoinedSetsModel_freeIn_65 : decode b_AdjoinedSetsModel_freeIn 65 = .ok (.iinc 4 1, 3) := by decide +kernel
theorem d_AdjoinedSetsModel_freeIn_68 : decode b_AdjoinedSetsModel_freeIn 68 = .ok (.goto (-57), 3) := by decide +kernel
theorem d_AdjoinedSetsModel_freeIn_71 : decode b_AdjoinedSetsModel_freeIn 71 = .ok (.iload_n 3, 1) := by decide +kernel
theorem d_AdjoinedSetsModel_freeIn_72 : decode b_AdjoinedSetsModel_freeIn 72 = .ok (.ireturn, 1) := by decide +kernel
def s_AdjoinedSetsModel_freeIn_65 (c11 : Nat → Int32 → Int32 → Int32 → Int32 → HP → Option (Int32 × HP)) (x0 : Nat) (x1 : Int32) (x2 : Int32) (x3 : Int32) (x4 : Int32) (h : HP) : Option (Int32 × HP) :=
  c11 x0 x1 x2 x3 (x4 + 1) h
set_option maxHeartbeats 4000000 in
set_option maxRecDepth 100000 in
theorem k_AdjoinedSetsModel_freeIn_65 {x0 : Nat} {x1 : Int32} {x2 : Int32} {x3 : Int32} {x4 : Int32} {h : HP} {z : Int32 × HP} (C : CX g R_AdjoinedSetsModel b_AdjoinedSetsModel_freeIn 5 (some .int) p s m args meth c) (c11 : Nat → Int32 → Int32 → Int32 → Int32 → HP → Option (Int32 × HP))
    (hc11 : ∀ {x0 : Nat} {x1 : Int32} {x2 : Int32} {x3 : Int32} {x4 : Int32} {h : HP} {H : Heap} {locs : List Loc} {ls : Array Slot}, WD g h s.heap H locs → lv_has ls 5 [(0, .ref (aD g x0)), (1, .int x1), (2, .int x2), (3, .int x3), (4, .int x4)] → c11 x0 x1 x2 x3 x4 h = some z → W p l e (rmS 3 67) s m args below meth c H locs 0 0 (MQ below (Qq g (some (.int z.1)) z.2) args s 0 0 (inA g)) (F0 m 11 ls [])) {H : Heap} {locs : List Loc} {ls : Array Slot} (hw : WD g h s.heap H locs) (hl : lv_has ls 5 [(0, .ref (aD g x0)), (1, .int x1), (2, .int x2), (3, .int x3), (4, .int x4)]) (hs : s_AdjoinedSetsModel_freeIn_65 c11 x0 x1 x2 x3 x4 h = some z) : W p l e (rmS 3 67) s m args below meth c H locs 0 0 (MQ below (Qq g (some (.int z.1)) z.2) args s 0 0 (inA g)) (F0 m 65 ls []) := by
  unfold s_AdjoinedSetsModel_freeIn_65 at hs
  have hx := C.1
  have hb := C.2.1
  refine lv_iinc hx hb d_AdjoinedSetsModel_freeIn_65 hl (k := 4) rfl (v := (x4 + 1)) (iinc_e _ (by decide)) (by decide) (lv' := [(4, .int (x4 + 1)), (0, .ref (aD g x0)), (1, .int x1), (2, .int x2), (3, .int x3)]) rfl (fun ls hl => ?_)
  refine lv_goto hx hb d_AdjoinedSetsModel_freeIn_68 (tgt := 11) (by decide) ?_
  exact hc11 hw (lv_sub hl [1, 2, 3, 4, 0] rfl) hs

def s_AdjoinedSetsModel_freeIn_11 : Nat → Nat → Int32 → Int32 → Int32 → Int32 → HP → Option (Int32 × HP)
  | 0 => fun _ _ _ _ _ _ => none
  | k + 1 => fun x0 x1 x2 x3 x4 h =>
  if x2 ≤ x4 then (
    some (x3, h))
  else (
    (gR h x0 9 13).bind fun v1 =>
    (aI h v1 5 (x4 - x1)).bind fun v3 =>
    if v3 = 0 then (
      s_AdjoinedSetsModel_freeIn_65 (s_AdjoinedSetsModel_freeIn_11 k) x0 x1 x2 x3 x4 h)
    else (
      (gR h x0 9 14).bind fun v5 =>
      (aI h v5 0 (x4 - x1)).bind fun v7 =>
      (gR h x0 9 0).bind fun v9 =>
      (aI h v9 0 x4).bind fun v11 =>
      (s_AdjoinedSetsModel_bit v11).bind fun q13 =>
      if (v7 &&& q13) = 0 then (
        (gR h x0 9 0).bind fun v15 =>
        (aI h v15 0 x4).bind fun v17 =>
        (s_AdjoinedSetsModel_bit v17).bind fun q19 =>
        s_AdjoinedSetsModel_freeIn_65 (s_AdjoinedSetsModel_freeIn_11 k) x0 x1 x2 (x3 ||| q19) x4 h)
      else (
        s_AdjoinedSetsModel_freeIn_65 (s_AdjoinedSetsModel_freeIn_11 k) x0 x1 x2 x3 x4 h)))
set_option maxHeartbeats 4000000 in
set_option maxRecDepth 100000 in
theorem k_AdjoinedSetsModel_freeIn_11 {z : Int32 × HP} (C : CX g R_AdjoinedSetsModel b_AdjoinedSetsModel_freeIn 5 (some .int) p s m args meth c) : ∀ (k : Nat) {x0 : Nat} {x1 : Int32} {x2 : Int32} {x3 : Int32} {x4 : Int32} {h : HP} {H : Heap} {locs : List Loc} {ls : Array Slot}, WD g h s.heap H locs → lv_has ls 5 [(0, .ref (aD g x0)), (1, .int x1), (2, .int x2), (3, .int x3), (4, .int x4)] → s_AdjoinedSetsModel_freeIn_11 k x0 x1 x2 x3 x4 h = some z → W p l e (rmS 3 67) s m args below meth c H locs 0 0 (MQ below (Qq g (some (.int z.1)) z.2) args s 0 0 (inA g)) (F0 m 11 ls []) := by
  have hx := C.1
  have hb := C.2.1
  intro k
  induction k with
  | zero =>
    intro x0 x1 x2 x3 x4 h H locs ls hw hl hs
    exact (no_s hs).elim
  | succ k ih =>
    intro x0 x1 x2 x3 x4 h H locs ls hw hl hs
    rw [s_AdjoinedSetsModel_freeIn_11] at hs
    refine lv_iload hx hb d_AdjoinedSetsModel_freeIn_11 (lv_at hl 4 rfl) ?_
    refine lv_iload_n hx hb d_AdjoinedSetsModel_freeIn_13 rfl (lv_at hl 2 rfl) ?_
    refine lv_icmp_ge hx hb d_AdjoinedSetsModel_freeIn_14 (tgt := 71) (by decide) (fun hc => ?_) (fun hc => ?_)
    · have hs := oi_t hc hs
      refine lv_iload_n hx hb d_AdjoinedSetsModel_freeIn_71 rfl (lv_at hl 3 rfl) ?_
      obtain rfl := Option.some.inj hs
      exact pg_iret C hw d_AdjoinedSetsModel_freeIn_72
    · have hs := oi_f hc hs
      refine lv_aload_n hx hb d_AdjoinedSetsModel_freeIn_17 rfl (lv_at hl 0 rfl) ?_
      obtain ⟨v1, e2, hs⟩ := ob hs
      refine pg_getR C hw fl_AdjoinedSetsModel_38 e2 d_AdjoinedSetsModel_freeIn_18 ?_
      refine lv_iload hx hb d_AdjoinedSetsModel_freeIn_21 (lv_at hl 4 rfl) ?_
      refine lv_iload_n hx hb d_AdjoinedSetsModel_freeIn_23 rfl (lv_at hl 1 rfl) ?_
      refine lv_isub hx hb d_AdjoinedSetsModel_freeIn_24 ?_
      obtain ⟨v3, e4, hs⟩ := ob hs
      refine pg_baload C hw (t0 := 5) rfl e4 d_AdjoinedSetsModel_freeIn_25 ?_
      refine lv_if_eq hx hb d_AdjoinedSetsModel_freeIn_26 (tgt := 65) (by decide) (fun hc => ?_) (fun hc => ?_)
      · have hs := oi_t hc hs
        exact k_AdjoinedSetsModel_freeIn_65 C (s_AdjoinedSetsModel_freeIn_11 k) ih hw (lv_sub hl [0, 1, 2, 3, 4] rfl) hs
      · have hs := oi_f hc hs
        refine lv_aload_n hx hb d_AdjoinedSetsModel_freeIn_29 rfl (lv_at hl 0 rfl) ?_
        obtain ⟨v5, e6, hs⟩ := ob hs
        refine pg_getR C hw fl_AdjoinedSetsModel_42 e6 d_AdjoinedSetsModel_freeIn_30 ?_
        refine lv_iload hx hb d_AdjoinedSetsModel_freeIn_33 (lv_at hl 4 rfl) ?_
        refine lv_iload_n hx hb d_AdjoinedSetsModel_freeIn_35 rfl (lv_at hl 1 rfl) ?_
        refine lv_isub hx hb d_AdjoinedSetsModel_freeIn_36 ?_
        obtain ⟨v7, e8, hs⟩ := ob hs
        refine pg_iaload C hw (t0 := 0) rfl e8 d_AdjoinedSetsModel_freeIn_37 ?_
        refine lv_aload_n hx hb d_AdjoinedSetsModel_freeIn_38 rfl (lv_at hl 0 rfl) ?_
        obtain ⟨v9, e10, hs⟩ := ob hs
        refine pg_getR C hw fl_AdjoinedSetsModel_7 e10 d_AdjoinedSetsModel_freeIn_39 ?_
        refine lv_iload hx hb d_AdjoinedSetsModel_freeIn_42 (lv_at hl 4 rfl) ?_
        obtain ⟨v11, e12, hs⟩ := ob hs
        refine pg_iaload C hw (t0 := 0) rfl e12 d_AdjoinedSetsModel_freeIn_44 ?_
        obtain ⟨q13, e14, hs⟩ := ob hs
        refine pg_callS C hw hl.1 ml_AdjoinedSetsModel_138 (As := [.int v11]) (rest := [.int v7]) (c_AdjoinedSetsModel_bit l g e14) rfl (rm_ok (Nat.le_of_ble_eq_true rfl) (Nat.le_of_ble_eq_true rfl)) (Nat.le_of_ble_eq_true rfl) rfl (st1 := [.int q13, .int v7]) rfl d_AdjoinedSetsModel_freeIn_45 (fun H locs hw => ?_)
        refine lv_iand hx hb d_AdjoinedSetsModel_freeIn_48 ?_
        refine lv_if_ne hx hb d_AdjoinedSetsModel_freeIn_49 (tgt := 65) (by decide) (fun hc => ?_) (fun hc => ?_)
        · have hs := oi_f hc hs
          exact k_AdjoinedSetsModel_freeIn_65 C (s_AdjoinedSetsModel_freeIn_11 k) ih hw (lv_sub hl [0, 1, 2, 3, 4] rfl) hs
        · have hs := oi_t hc hs
          refine lv_iload_n hx hb d_AdjoinedSetsModel_freeIn_52 rfl (lv_at hl 3 rfl) ?_
          refine lv_aload_n hx hb d_AdjoinedSetsModel_freeIn_53 rfl (lv_at hl 0 rfl) ?_
          obtain ⟨v15, e16, hs⟩ := ob hs
          refine pg_getR C hw fl_AdjoinedSetsModel_7 e16 d_AdjoinedSetsModel_freeIn_54 ?_
          refine lv_iload hx hb d_AdjoinedSetsModel_freeIn_57 (lv_at hl 4 rfl) ?_
          obtain ⟨v17, e18, hs⟩ := ob hs
          refine pg_iaload C hw (t0 := 0) rfl e18 d_AdjoinedSetsModel_freeIn_59 ?_
          obtain ⟨q19, e20, hs⟩ := ob hs
          refine pg_callS C hw hl.1 ml_AdjoinedSetsModel_138 (As := [.int v17]) (rest := [.int x3]) (c_AdjoinedSetsModel_bit l g e20) rfl (rm_ok (Nat.le_of_ble_eq_true rfl) (Nat.le_of_ble_eq_true rfl)) (Nat.le_of_ble_eq_true rfl) rfl (st1 := [.int q19, .int x3]) rfl d_AdjoinedSetsModel_freeIn_60 (fun H locs hw => ?_)
          refine lv_ior hx hb d_AdjoinedSetsModel_freeIn_63 ?_
          refine lv_istore_n hx hb d_AdjoinedSetsModel_freeIn_64 rfl hl (by decide) (lv' := [(3, .int (x3 ||| q19)), (0, .ref (aD g x0)), (1, .int x1), (2, .int x2), (4, .int x4)]) rfl (fun ls hl => ?_)
          exact k_AdjoinedSetsModel_freeIn_65 C (s_AdjoinedSetsModel_freeIn_11 k) ih hw (lv_sub hl [1, 2, 3, 0, 4] rfl) hs

def s_AdjoinedSetsModel_freeIn (x0 : Nat) (x1 : Int32) (h : HP) : Option (Int32 × HP) :=
  (kd x0 9).bind fun _ =>
  (s_AdjoinedSetsModel_scan x0 x1 h).bind fun q2 =>
  s_AdjoinedSetsModel_freeIn_11 20000 x0 x1 q2.1 0 x1 q2.2
set_option maxHeartbeats 4000000 in
set_option maxRecDepth 100000 in
theorem c_AdjoinedSetsModel_freeIn (l : Launch) (g : GG) {x0 : Nat} {x1 : Int32} {h : HP} {z : Int32 × HP} (hs : s_AdjoinedSetsModel_freeIn x0 x1 h = some z) : Ct l g y_AdjoinedSetsModel_freeIn w_AdjoinedSetsModel_freeIn (rmS 3 67) [.ref (aD g x0), .int x1] h (some (.int z.1)) z.2 := by
  refine Ct.of (own := R_AdjoinedSetsModel) (by decide) rfl rfl (Nat.le_of_ble_eq_true rfl) ?_
  intro p e s m args below meth c ls C hl hw
  have hx := C.1
  have hb := C.2.1
  have hl : lv_has ls 5 [(0, .ref (aD g x0)), (1, .int x1)] := hl
  unfold s_AdjoinedSetsModel_freeIn at hs
  refine lv_aload_n hx hb d_AdjoinedSetsModel_freeIn_0 rfl (lv_at hl 0 rfl) ?_
  refine lv_iload_n hx hb d_AdjoinedSetsModel_freeIn_1 rfl (lv_at hl 1 rfl) ?_
  obtain ⟨_, e1, hs⟩ := ob hs
  obtain ⟨q2, e3, hs⟩ := ob hs
  refine pg_callV C hw hl.1 ml_AdjoinedSetsModel_234 e1 (As := [.int x1]) (rest := []) (c_AdjoinedSetsModel_scan l g e3) rfl (rm_ok (Nat.le_of_ble_eq_true rfl) (Nat.le_of_ble_eq_true rfl)) (Nat.le_of_ble_eq_true rfl) rfl (st1 := [.int q2.1]) rfl d_AdjoinedSetsModel_freeIn_2 (fun H locs hw => ?_)
  refine lv_istore_n hx hb d_AdjoinedSetsModel_freeIn_5 rfl hl (by decide) (lv' := [(2, .int q2.1), (0, .ref (aD g x0)), (1, .int x1)]) rfl (fun ls hl => ?_)
  refine lv_iconst (v := 0) hx hb d_AdjoinedSetsModel_freeIn_6 (by decide) ?_
  refine lv_istore_n hx hb d_AdjoinedSetsModel_freeIn_7 rfl hl (by decide) (lv' := [(3, .int 0), (2, .int q2.1), (0, .ref (aD g x0)), (1, .int x1)]) rfl (fun ls hl => ?_)
  refine lv_iload_n hx hb d_AdjoinedSetsModel_freeIn_8 rfl (lv_at hl 3 rfl) ?_
  refine lv_istore hx hb d_AdjoinedSetsModel_freeIn_9 hl (by decide) (lv' := [(4, .int x1), (3, .int 0), (2, .int q2.1), (0, .ref (aD g x0)), (1, .int x1)]) rfl (fun ls hl => ?_)
  exact k_AdjoinedSetsModel_freeIn_11 C 20000 hw (lv_sub hl [3, 4, 2, 1, 0] rfl) hs

end
section
variable {p : Program} {l : Launch} {e : Env} {s : State} {m : MethodId} {args : Array Value} {below : List Frame} {meth : Method} {c : Code} {g : GG}
theorem d_AdjoinedSetsModel_letterFrom_0 : decode b_AdjoinedSetsModel_letterFrom 0 = .ok (.iload_n 1, 1) := by decide +kernel
theorem d_AdjoinedSetsModel_letterFrom_1 : decode b_AdjoinedSetsModel_letterFrom 1 = .ok (.istore_n 2, 1) := by decide +kernel
theorem d_AdjoinedSetsModel_letterFrom_2 : decode b_AdjoinedSetsModel_letterFrom 2 = .ok (.iload_n 2, 1) := by decide +kernel
theorem d_AdjoinedSetsModel_letterFrom_3 : decode b_AdjoinedSetsModel_letterFrom 3 = .ok (.bipush 8, 2) := by decide +kernel
theorem d_AdjoinedSetsModel_letterFrom_5 : decode b_AdjoinedSetsModel_letterFrom 5 = .ok (.if_icmp .ge 17, 3) := by decide +kernel
theorem d_AdjoinedSetsModel_letterFrom_8 : decode b_AdjoinedSetsModel_letterFrom 8 = .ok (.iload_n 0, 1) := by decide +kernel
theorem d_AdjoinedSetsModel_letterFrom_9 : decode b_AdjoinedSetsModel_letterFrom 9 = .ok (.iload_n 2, 1) := by decide +kernel
theorem d_AdjoinedSetsModel_letterFrom_10 : decode b_AdjoinedSetsModel_letterFrom 10 = .ok (.ishr, 1) := by decide +kernel
theorem d_AdjoinedSetsModel_letterFrom_11 : decode b_AdjoinedSetsModel_letterFrom 11 = .ok (.iconst 1, 1) := by decide +kernel
theorem d_AdjoinedSetsModel_letterFrom_12 : decode b_AdjoinedSetsModel_letterFrom 12 = .ok (.iand, 1) := by decide +kernel
theorem d_AdjoinedSetsModel_letterFrom_13 : decode b_AdjoinedSetsModel_letterFrom 13 = .ok (.ifCond .ne 9, 3) := by decide +kernel
theorem d_AdjoinedSetsModel_letterFrom_16 : decode b_AdjoinedSetsModel_letterFrom 16 = .ok (.iinc 2 1, 3) := by decide +kernel
theorem d_AdjoinedSetsModel_letterFrom_19 : decode b_AdjoinedSetsModel_letterFrom 19 = .ok (.goto (-17), 3) := by decide +kernel
theorem d_AdjoinedSetsModel_letterFrom_22 : decode b_AdjoinedSetsModel_letterFrom 22 = .ok (.iload_n 2, 1) := by decide +kernel
theorem d_AdjoinedSetsModel_letterFrom_23 : decode b_AdjoinedSetsModel_letterFrom 23 = .ok (.ireturn, 1) := by decide +kernel
def s_AdjoinedSetsModel_letterFrom_2 : Nat → Int32 → Int32 → Option (Int32)
  | 0 => fun _ _ => none
  | k + 1 => fun x0 x2 =>
  if 8 ≤ x2 then (
    some x2)
  else (
    if ((x0 >>> (x2 &&& 31)) &&& 1) = 0 then (
      (s_AdjoinedSetsModel_letterFrom_2 k) x0 (x2 + 1))
    else (
      some x2))
set_option maxHeartbeats 4000000 in
set_option maxRecDepth 100000 in
theorem k_AdjoinedSetsModel_letterFrom_2 {h : HP} {z : Int32} (C : CX g R_AdjoinedSetsModel b_AdjoinedSetsModel_letterFrom 3 (some .int) p s m args meth c) : ∀ (k : Nat) {x0 : Int32} {x2 : Int32} {H : Heap} {locs : List Loc} {ls : Array Slot}, WD g h s.heap H locs → lv_has ls 3 [(0, .int x0), (2, .int x2)] → s_AdjoinedSetsModel_letterFrom_2 k x0 x2 = some z → W p l e (rmS 0 0) s m args below meth c H locs 0 0 (MQ below (Qq g (some (.int z)) h) args s 0 0 (inA g)) (F0 m 2 ls []) := by
  have hx := C.1
  have hb := C.2.1
  intro k
  induction k with
  | zero =>
    intro x0 x2 H locs ls hw hl hs
    exact (no_s hs).elim
  | succ k ih =>
    intro x0 x2 H locs ls hw hl hs
    rw [s_AdjoinedSetsModel_letterFrom_2] at hs
    refine lv_iload_n hx hb d_AdjoinedSetsModel_letterFrom_2 rfl (lv_at hl 1 rfl) ?_
    refine lv_bipush (v := 8) hx hb d_AdjoinedSetsModel_letterFrom_3 (by decide) ?_
    refine lv_icmp_ge hx hb d_AdjoinedSetsModel_letterFrom_5 (tgt := 22) (by decide) (fun hc => ?_) (fun hc => ?_)
    · have hs := oi_t hc hs
      refine lv_iload_n hx hb d_AdjoinedSetsModel_letterFrom_22 rfl (lv_at hl 1 rfl) ?_
      obtain rfl := Option.some.inj hs
      exact pg_iret C hw d_AdjoinedSetsModel_letterFrom_23
    · have hs := oi_f hc hs
      refine lv_iload_n hx hb d_AdjoinedSetsModel_letterFrom_8 rfl (lv_at hl 0 rfl) ?_
      refine lv_iload_n hx hb d_AdjoinedSetsModel_letterFrom_9 rfl (lv_at hl 1 rfl) ?_
      refine lv_ishr hx hb d_AdjoinedSetsModel_letterFrom_10 ?_
      refine lv_iconst (v := 1) hx hb d_AdjoinedSetsModel_letterFrom_11 (by decide) ?_
      refine lv_iand hx hb d_AdjoinedSetsModel_letterFrom_12 ?_
      refine lv_if_ne hx hb d_AdjoinedSetsModel_letterFrom_13 (tgt := 22) (by decide) (fun hc => ?_) (fun hc => ?_)
      · have hs := oi_f hc hs
        refine lv_iload_n hx hb d_AdjoinedSetsModel_letterFrom_22 rfl (lv_at hl 1 rfl) ?_
        obtain rfl := Option.some.inj hs
        exact pg_iret C hw d_AdjoinedSetsModel_letterFrom_23
      · have hs := oi_t hc hs
        refine lv_iinc hx hb d_AdjoinedSetsModel_letterFrom_16 hl (k := 1) rfl (v := (x2 + 1)) (iinc_e _ (by decide)) (by decide) (lv' := [(2, .int (x2 + 1)), (0, .int x0)]) rfl (fun ls hl => ?_)
        refine lv_goto hx hb d_AdjoinedSetsModel_letterFrom_19 (tgt := 2) (by decide) ?_
        exact ih hw (lv_sub hl [1, 0] rfl) hs

def s_AdjoinedSetsModel_letterFrom (x0 : Int32) (x1 : Int32) : Option (Int32) :=
  s_AdjoinedSetsModel_letterFrom_2 20000 x0 x1
set_option maxHeartbeats 4000000 in
set_option maxRecDepth 100000 in
theorem c_AdjoinedSetsModel_letterFrom (l : Launch) (g : GG) {h : HP} {x0 : Int32} {x1 : Int32} {z : Int32} (hs : s_AdjoinedSetsModel_letterFrom x0 x1 = some z) : Ct l g y_AdjoinedSetsModel_letterFrom w_AdjoinedSetsModel_letterFrom (rmS 0 0) [.int x0, .int x1] h (some (.int z)) h := by
  refine Ct.of (own := R_AdjoinedSetsModel) (by decide) rfl rfl (Nat.le_of_ble_eq_true rfl) ?_
  intro p e s m args below meth c ls C hl hw
  have hx := C.1
  have hb := C.2.1
  have hl : lv_has ls 3 [(0, .int x0), (1, .int x1)] := hl
  unfold s_AdjoinedSetsModel_letterFrom at hs
  refine lv_iload_n hx hb d_AdjoinedSetsModel_letterFrom_0 rfl (lv_at hl 1 rfl) ?_
  refine lv_istore_n hx hb d_AdjoinedSetsModel_letterFrom_1 rfl hl (by decide) (lv' := [(2, .int x1), (0, .int x0), (1, .int x1)]) rfl (fun ls hl => ?_)
  exact k_AdjoinedSetsModel_letterFrom_2 C 20000 hw (lv_sub hl [1, 0] rfl) hs

end
