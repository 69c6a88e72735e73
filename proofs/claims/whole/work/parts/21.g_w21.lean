section
variable {p : Program} {l : Launch} {e : Env} {s : State} {m : MethodId} {args : Array Value} {below : List Frame} {meth : Method} {c : Code} {g : GG}
theorem d_AdjoinedSetsModel_isInduction_0 : decode b_AdjoinedSetsModel_isInduction 0 = .ok (.aload_n 0, 1) := by decide +kernel
theorem d_AdjoinedSetsModel_isInduction_1 : decode b_AdjoinedSetsModel_isInduction 1 = .ok (.getfield 7, 3) := by decide +kernel
theorem d_AdjoinedSetsModel_isInduction_4 : decode b_AdjoinedSetsModel_isInduction 4 = .ok (.sipush 1400, 3) := by decide +kernel
theorem d_AdjoinedSetsModel_isInduction_7 : decode b_AdjoinedSetsModel_isInduction 7 = .ok (.bipush 48, 2) := by decide +kernel
theorem d_AdjoinedSetsModel_isInduction_9 : decode b_AdjoinedSetsModel_isInduction 9 = .ok (.iastore, 1) := by decide +kernel
theorem d_AdjoinedSetsModel_isInduction_10 : decode b_AdjoinedSetsModel_isInduction 10 = .ok (.aload_n 0, 1) := by decide +kernel
theorem d_AdjoinedSetsModel_isInduction_11 : decode b_AdjoinedSetsModel_isInduction 11 = .ok (.getfield 7, 3) := by decide +kernel
theorem d_AdjoinedSetsModel_isInduction_14 : decode b_AdjoinedSetsModel_isInduction 14 = .ok (.sipush 1401, 3) := by decide +kernel
theorem d_AdjoinedSetsModel_isInduction_17 : decode b_AdjoinedSetsModel_isInduction 17 = .ok (.bipush 43, 2) := by decide +kernel
theorem d_AdjoinedSetsModel_isInduction_19 : decode b_AdjoinedSetsModel_isInduction 19 = .ok (.iastore, 1) := by decide +kernel
theorem d_AdjoinedSetsModel_isInduction_20 : decode b_AdjoinedSetsModel_isInduction 20 = .ok (.aload_n 0, 1) := by decide +kernel
theorem d_AdjoinedSetsModel_isInduction_21 : decode b_AdjoinedSetsModel_isInduction 21 = .ok (.getfield 7, 3) := by decide +kernel
theorem d_AdjoinedSetsModel_isInduction_24 : decode b_AdjoinedSetsModel_isInduction 24 = .ok (.sipush 1402, 3) := by decide +kernel
theorem d_AdjoinedSetsModel_isInduction_27 : decode b_AdjoinedSetsModel_isInduction 27 = .ok (.bipush 97, 2) := by decide +kernel
theorem d_AdjoinedSetsModel_isInduction_29 : decode b_AdjoinedSetsModel_isInduction 29 = .ok (.iload_n 3, 1) := by decide +kernel
theorem d_AdjoinedSetsModel_isInduction_30 : decode b_AdjoinedSetsModel_isInduction 30 = .ok (.iadd, 1) := by decide +kernel
theorem d_AdjoinedSetsModel_isInduction_31 : decode b_AdjoinedSetsModel_isInduction 31 = .ok (.iastore, 1) := by decide +kernel
theorem d_AdjoinedSetsModel_isInduction_32 : decode b_AdjoinedSetsModel_isInduction 32 = .ok (.aload_n 0, 1) := by decide +kernel
theorem d_AdjoinedSetsModel_isInduction_33 : decode b_AdjoinedSetsModel_isInduction 33 = .ok (.getfield 7, 3) := by decide +kernel
theorem d_AdjoinedSetsModel_isInduction_36 : decode b_AdjoinedSetsModel_isInduction 36 = .ok (.sipush 1403, 3) := by decide +kernel
theorem d_AdjoinedSetsModel_isInduction_39 : decode b_AdjoinedSetsModel_isInduction 39 = .ok (.bipush 97, 2) := by decide +kernel
theorem d_AdjoinedSetsModel_isInduction_41 : decode b_AdjoinedSetsModel_isInduction 41 = .ok (.iload 4, 2) := by decide +kernel
theorem d_AdjoinedSetsModel_isInduction_43 : decode b_AdjoinedSetsModel_isInduction 43 = .ok (.iadd, 1) := by decide +kernel
theorem d_AdjoinedSetsModel_isInduction_44 : decode b_AdjoinedSetsModel_isInduction 44 = .ok (.iastore, 1) := by decide +kernel
theorem d_AdjoinedSetsModel_isInduction_45 : decode b_AdjoinedSetsModel_isInduction 45 = .ok (.aload_n 0, 1) := by decide +kernel
theorem d_AdjoinedSetsModel_isInduction_46 : decode b_AdjoinedSetsModel_isInduction 46 = .ok (.iload_n 1, 1) := by decide +kernel
theorem d_AdjoinedSetsModel_isInduction_47 : decode b_AdjoinedSetsModel_isInduction 47 = .ok (.invokevirtual 271, 3) := by decide +kernel
theorem d_AdjoinedSetsModel_isInduction_50 : decode b_AdjoinedSetsModel_isInduction 50 = .ok (.istore 5, 2) := by decide +kernel
theorem d_AdjoinedSetsModel_isInduction_52 : decode b_AdjoinedSetsModel_isInduction 52 = .ok (.aload_n 0, 1) := by decide +kernel
theorem d_AdjoinedSetsModel_isInduction_53 : decode b_AdjoinedSetsModel_isInduction 53 = .ok (.iload_n 2, 1) := by decide +kernel
theorem d_AdjoinedSetsModel_isInduction_54 : decode b_AdjoinedSetsModel_isInduction 54 = .ok (.invokevirtual 271, 3) := by decide +kernel
theorem d_AdjoinedSetsModel_isInduction_57 : decode b_AdjoinedSetsModel_isInduction 57 = .ok (.istore 6, 2) := by decide +kernel
theorem d_AdjoinedSetsModel_isInduction_59 : decode b_AdjoinedSetsModel_isInduction 59 = .ok (.aload_n 0, 1) := by decide +kernel
theorem d_AdjoinedSetsModel_isInduction_60 : decode b_AdjoinedSetsModel_isInduction 60 = .ok (.invokevirtual 247, 3) := by decide +kernel
theorem d_AdjoinedSetsModel_isInduction_63 : decode b_AdjoinedSetsModel_isInduction 63 = .ok (.aload_n 0, 1) := by decide +kernel
theorem d_AdjoinedSetsModel_isInduction_64 : decode b_AdjoinedSetsModel_isInduction 64 = .ok (.iload_n 3, 1) := by decide +kernel
theorem d_AdjoinedSetsModel_isInduction_65 : decode b_AdjoinedSetsModel_isInduction 65 = .ok (.sipush 1400, 3) := by decide +kernel
theorem d_AdjoinedSetsModel_isInduction_68 : decode b_AdjoinedSetsModel_isInduction 68 = .ok (.invokevirtual 250, 3) := by decide +kernel
theorem d_AdjoinedSetsModel_isInduction_71 : decode b_AdjoinedSetsModel_isInduction 71 = .ok (.aload_n 0, 1) := by decide +kernel
theorem d_AdjoinedSetsModel_isInduction_72 : decode b_AdjoinedSetsModel_isInduction 72 = .ok (.iconst 0, 1) := by decide +kernel
theorem d_AdjoinedSetsModel_isInduction_73 : decode b_AdjoinedSetsModel_isInduction 73 = .ok (.iload 5, 2) := by decide +kernel
theorem d_AdjoinedSetsModel_isInduction_75 : decode b_AdjoinedSetsModel_isInduction 75 = .ok (.invokevirtual 253, 3) := by decide +kernel
theorem d_AdjoinedSetsModel_isInduction_78 : decode b_AdjoinedSetsModel_isInduction 78 = .ok (.iload 5, 2) := by decide +kernel
theorem d_AdjoinedSetsModel_isInduction_80 : decode b_AdjoinedSetsModel_isInduction 80 = .ok (.aload_n 0, 1) := by decide +kernel
theorem d_AdjoinedSetsModel_isInduction_81 : decode b_AdjoinedSetsModel_isInduction 81 = .ok (.getfield 20, 3) := by decide +kernel
theorem d_AdjoinedSetsModel_isInduction_84 : decode b_AdjoinedSetsModel_isInduction 84 = .ok (.iload_n 1, 1) := by decide +kernel
theorem d_AdjoinedSetsModel_isInduction_85 : decode b_AdjoinedSetsModel_isInduction 85 = .ok (.iaload, 1) := by decide +kernel
theorem d_AdjoinedSetsModel_isInduction_86 : decode b_AdjoinedSetsModel_isInduction 86 = .ok (.iadd, 1) := by decide +kernel
theorem d_AdjoinedSetsModel_isInduction_87 : decode b_AdjoinedSetsModel_isInduction 87 = .ok (.if_icmp .eq 5, 3) := by decide +kernel
theorem d_AdjoinedSetsModel_isInduction_90 : decode b_AdjoinedSetsModel_isInduction 90 = .ok (.iconst 0, 1) := by decide +kernel
theorem d_AdjoinedSetsModel_isInduction_91 : decode b_AdjoinedSetsModel_isInduction 91 = .ok (.ireturn, 1) := by decide +kernel
theorem d_AdjoinedSetsModel_isInduction_92 : decode b_AdjoinedSetsModel_isInduction 92 = .ok (.aload_n 0, 1) := by decide +kernel
theorem d_AdjoinedSetsModel_isInduction_93 : decode b_AdjoinedSetsModel_isInduction 93 = .ok (.iload_n 3, 1) := by decide +kernel
theorem d_AdjoinedSetsModel_isInduction_94 : decode b_AdjoinedSetsModel_isInduction 94 = .ok (.sipush 1401, 3) := by decide +kernel
theorem d_AdjoinedSetsModel_isInduction_97 : decode b_AdjoinedSetsModel_isInduction 97 = .ok (.invokevirtual 250, 3) := by decide +kernel
theorem d_AdjoinedSetsModel_isInduction_100 : decode b_AdjoinedSetsModel_isInduction 100 = .ok (.aload_n 0, 1) := by decide +kernel
theorem d_AdjoinedSetsModel_isInduction_101 : decode b_AdjoinedSetsModel_isInduction 101 = .ok (.getfield 7, 3) := by decide +kernel
theorem d_AdjoinedSetsModel_isInduction_104 : decode b_AdjoinedSetsModel_isInduction 104 = .ok (.iload 6, 2) := by decide +kernel
theorem d_AdjoinedSetsModel_isInduction_106 : decode b_AdjoinedSetsModel_isInduction 106 = .ok (.iaload, 1) := by decide +kernel
theorem d_AdjoinedSetsModel_isInduction_107 : decode b_AdjoinedSetsModel_isInduction 107 = .ok (.bipush 62, 2) := by decide +kernel
theorem d_AdjoinedSetsModel_isInduction_109 : decode b_AdjoinedSetsModel_isInduction 109 = .ok (.if_icmp .ne 62, 3) := by decide +kernel
theorem d_AdjoinedSetsModel_isInduction_112 : decode b_AdjoinedSetsModel_isInduction 112 = .ok (.aload_n 0, 1) := by decide +kernel
theorem d_AdjoinedSetsModel_isInduction_113 : decode b_AdjoinedSetsModel_isInduction 113 = .ok (.getfield 20, 3) := by decide +kernel
theorem d_AdjoinedSetsModel_isInduction_116 : decode b_AdjoinedSetsModel_isInduction 116 = .ok (.iload_n 2, 1) := by decide +kernel
theorem d_AdjoinedSetsModel_isInduction_117 : decode b_AdjoinedSetsModel_isInduction 117 = .ok (.iaload, 1) := by decide +kernel
theorem d_AdjoinedSetsModel_isInduction_118 : decode b_AdjoinedSetsModel_isInduction 118 = .ok (.aload_n 0, 1) := by decide +kernel
theorem d_AdjoinedSetsModel_isInduction_119 : decode b_AdjoinedSetsModel_isInduction 119 = .ok (.getfield 124, 3) := by decide +kernel
theorem d_AdjoinedSetsModel_isInduction_122 : decode b_AdjoinedSetsModel_isInduction 122 = .ok (.if_icmp .le 49, 3) := by decide +kernel
theorem d_AdjoinedSetsModel_isInduction_125 : decode b_AdjoinedSetsModel_isInduction 125 = .ok (.aload_n 0, 1) := by decide +kernel
theorem d_AdjoinedSetsModel_isInduction_126 : decode b_AdjoinedSetsModel_isInduction 126 = .ok (.iload 6, 2) := by decide +kernel
theorem d_AdjoinedSetsModel_isInduction_128 : decode b_AdjoinedSetsModel_isInduction 128 = .ok (.iconst 1, 1) := by decide +kernel
theorem d_AdjoinedSetsModel_isInduction_129 : decode b_AdjoinedSetsModel_isInduction 129 = .ok (.iadd, 1) := by decide +kernel
theorem d_AdjoinedSetsModel_isInduction_130 : decode b_AdjoinedSetsModel_isInduction 130 = .ok (.iconst 0, 1) := by decide +kernel
theorem d_AdjoinedSetsModel_isInduction_131 : decode b_AdjoinedSetsModel_isInduction 131 = .ok (.aload_n 0, 1) := by decide +kernel
theorem d_AdjoinedSetsModel_isInduction_132 : decode b_AdjoinedSetsModel_isInduction 132 = .ok (.getfield 124, 3) := by decide +kernel
theorem d_AdjoinedSetsModel_isInduction_135 : decode b_AdjoinedSetsModel_isInduction 135 = .ok (.invokevirtual 240, 3) := by decide +kernel
theorem d_AdjoinedSetsModel_isInduction_138 : decode b_AdjoinedSetsModel_isInduction 138 = .ok (.ifCond .eq 33, 3) := by decide +kernel
theorem d_AdjoinedSetsModel_isInduction_141 : decode b_AdjoinedSetsModel_isInduction 141 = .ok (.aload_n 0, 1) := by decide +kernel
theorem d_AdjoinedSetsModel_isInduction_142 : decode b_AdjoinedSetsModel_isInduction 142 = .ok (.iconst 0, 1) := by decide +kernel
theorem d_AdjoinedSetsModel_isInduction_143 : decode b_AdjoinedSetsModel_isInduction 143 = .ok (.iload 6, 2) := by decide +kernel
theorem d_AdjoinedSetsModel_isInduction_145 : decode b_AdjoinedSetsModel_isInduction 145 = .ok (.iconst 1, 1) := by decide +kernel
theorem d_AdjoinedSetsModel_isInduction_146 : decode b_AdjoinedSetsModel_isInduction 146 = .ok (.iadd, 1) := by decide +kernel
theorem d_AdjoinedSetsModel_isInduction_147 : decode b_AdjoinedSetsModel_isInduction 147 = .ok (.aload_n 0, 1) := by decide +kernel
theorem d_AdjoinedSetsModel_isInduction_148 : decode b_AdjoinedSetsModel_isInduction 148 = .ok (.getfield 124, 3) := by decide +kernel
theorem d_AdjoinedSetsModel_isInduction_151 : decode b_AdjoinedSetsModel_isInduction 151 = .ok (.iadd, 1) := by decide +kernel
theorem d_AdjoinedSetsModel_isInduction_152 : decode b_AdjoinedSetsModel_isInduction 152 = .ok (.invokevirtual 253, 3) := by decide +kernel
theorem d_AdjoinedSetsModel_isInduction_155 : decode b_AdjoinedSetsModel_isInduction 155 = .ok (.iload 6, 2) := by decide +kernel
theorem d_AdjoinedSetsModel_isInduction_157 : decode b_AdjoinedSetsModel_isInduction 157 = .ok (.aload_n 0, 1) := by decide +kernel
theorem d_AdjoinedSetsModel_isInduction_158 : decode b_AdjoinedSetsModel_isInduction 158 = .ok (.getfield 20, 3) := by decide +kernel
theorem d_AdjoinedSetsModel_isInduction_161 : decode b_AdjoinedSetsModel_isInduction 161 = .ok (.iload_n 2, 1) := by decide +kernel
theorem d_AdjoinedSetsModel_isInduction_162 : decode b_AdjoinedSetsModel_isInduction 162 = .ok (.iaload, 1) := by decide +kernel
theorem d_AdjoinedSetsModel_isInduction_163 : decode b_AdjoinedSetsModel_isInduction 163 = .ok (.iadd, 1) := by decide +kernel
theorem d_AdjoinedSetsModel_isInduction_164 : decode b_AdjoinedSetsModel_isInduction 164 = .ok (.if_icmp .ne 7, 3) := by decide +kernel
theorem d_AdjoinedSetsModel_isInduction_167 : decode b_AdjoinedSetsModel_isInduction 167 = .ok (.iconst 1, 1) := by decide +kernel
theorem d_AdjoinedSetsModel_isInduction_168 : decode b_AdjoinedSetsModel_isInduction 168 = .ok (.goto 4, 3) := by decide +kernel
theorem d_AdjoinedSetsModel_isInduction_171 : decode b_AdjoinedSetsModel_isInduction 171 = .ok (.iconst 0, 1) := by decide +kernel
theorem d_AdjoinedSetsModel_isInduction_172 : decode b_AdjoinedSetsModel_isInduction 172 = .ok (.ireturn, 1) := by decide +kernel
def s_AdjoinedSetsModel_isInduction (x0 : Nat) (x1 : Int32) (x2 : Int32) (x3 : Int32) (x4 : Int32) (h : HP) : Option (Int32 × HP) :=
  (gR h x0 9 0).bind fun v1 =>
  (uI h v1 0 1400 48).bind fun h3 =>
  (gR h3 x0 9 0).bind fun v5 =>
  (uI h3 v5 0 1401 43).bind fun h7 =>
  (gR h7 x0 9 0).bind fun v9 =>
  (uI h7 v9 0 1402 (97 + x3)).bind fun h11 =>
  (gR h11 x0 9 0).bind fun v13 =>
  (uI h11 v13 0 1403 (97 + x4)).bind fun h15 =>
  (kd x0 9).bind fun _ =>
  (s_AdjoinedSetsModel_theoremAt x0 x1).bind fun q18 =>
  (kd x0 9).bind fun _ =>
  (s_AdjoinedSetsModel_theoremAt x0 x2).bind fun q21 =>
  (kd x0 9).bind fun _ =>
  (s_AdjoinedSetsModel_noReplacing x0 h15).bind fun q24 =>
  (kd x0 9).bind fun _ =>
  (s_AdjoinedSetsModel_replace x0 x3 1400 q24).bind fun q27 =>
  (kd x0 9).bind fun _ =>
  (s_AdjoinedSetsModel_replaced x0 0 q18 q27).bind fun q30 =>
  (gR q30.2 x0 9 5).bind fun v32 =>
  (aI q30.2 v32 0 x1).bind fun v34 =>
  if q30.1 = (q18 + v34) then (
    (kd x0 9).bind fun _ =>
    (s_AdjoinedSetsModel_replace x0 x3 1401 q30.2).bind fun q37 =>
    (gR q37 x0 9 0).bind fun v39 =>
    (aI q37 v39 0 q21).bind fun v41 =>
    if v41 = 62 then (
      (gR q37 x0 9 5).bind fun v44 =>
      (aI q37 v44 0 x2).bind fun v46 =>
      (gI q37 x0 9 1).bind fun v48 =>
      if v46 ≤ v48 then (
        some (0, q37))
      else (
        (gI q37 x0 9 1).bind fun v51 =>
        (kd x0 9).bind fun _ =>
        (s_AdjoinedSetsModel_isSame x0 (q21 + 1) 0 v51 q37).bind fun q54 =>
        if q54 = 0 then (
          some (0, q37))
        else (
          (gI q37 x0 9 1).bind fun v57 =>
          (kd x0 9).bind fun _ =>
          (s_AdjoinedSetsModel_replaced x0 0 ((q21 + 1) + v57) q37).bind fun q60 =>
          (gR q60.2 x0 9 5).bind fun v62 =>
          (aI q60.2 v62 0 x2).bind fun v64 =>
          if q60.1 = (q21 + v64) then (
            some (1, q60.2))
          else (
            some (0, q60.2)))))
    else (
      some (0, q37)))
  else (
    some (0, q30.2))
set_option maxHeartbeats 4000000 in
set_option maxRecDepth 100000 in
theorem c_AdjoinedSetsModel_isInduction (l : Launch) (g : GG) {x0 : Nat} {x1 : Int32} {x2 : Int32} {x3 : Int32} {x4 : Int32} {h : HP} {z : Int32 × HP} (hs : s_AdjoinedSetsModel_isInduction x0 x1 x2 x3 x4 h = some z) : Ct l g y_AdjoinedSetsModel_isInduction w_AdjoinedSetsModel_isInduction (rmS 5 113) [.ref (aD g x0), .int x1, .int x2, .int x3, .int x4] h (some (.int z.1)) z.2 := by
  refine Ct.of (own := R_AdjoinedSetsModel) (by decide) rfl rfl (Nat.le_of_ble_eq_true rfl) ?_
  intro p e s m args below meth c ls C hl hw
  have hx := C.1
  have hb := C.2.1
  have hl : lv_has ls 7 [(0, .ref (aD g x0)), (1, .int x1), (2, .int x2), (3, .int x3), (4, .int x4)] := hl
  unfold s_AdjoinedSetsModel_isInduction at hs
  refine lv_aload_n hx hb d_AdjoinedSetsModel_isInduction_0 rfl (lv_at hl 0 rfl) ?_
  obtain ⟨v1, e2, hs⟩ := ob hs
  refine pg_getR C hw fl_AdjoinedSetsModel_7 e2 d_AdjoinedSetsModel_isInduction_1 ?_
  refine lv_sipush (v := 1400) hx hb d_AdjoinedSetsModel_isInduction_4 (by decide) ?_
  refine lv_bipush (v := 48) hx hb d_AdjoinedSetsModel_isInduction_7 (by decide) ?_
  obtain ⟨h3, e4, hs⟩ := ob hs
  refine pg_iastore C hw (t0 := 0) rfl e4 d_AdjoinedSetsModel_isInduction_9 (fun H locs hw => ?_)
  refine lv_aload_n hx hb d_AdjoinedSetsModel_isInduction_10 rfl (lv_at hl 0 rfl) ?_
  obtain ⟨v5, e6, hs⟩ := ob hs
  refine pg_getR C hw fl_AdjoinedSetsModel_7 e6 d_AdjoinedSetsModel_isInduction_11 ?_
  refine lv_sipush (v := 1401) hx hb d_AdjoinedSetsModel_isInduction_14 (by decide) ?_
  refine lv_bipush (v := 43) hx hb d_AdjoinedSetsModel_isInduction_17 (by decide) ?_
  obtain ⟨h7, e8, hs⟩ := ob hs
  refine pg_iastore C hw (t0 := 0) rfl e8 d_AdjoinedSetsModel_isInduction_19 (fun H locs hw => ?_)
  refine lv_aload_n hx hb d_AdjoinedSetsModel_isInduction_20 rfl (lv_at hl 0 rfl) ?_
  obtain ⟨v9, e10, hs⟩ := ob hs
  refine pg_getR C hw fl_AdjoinedSetsModel_7 e10 d_AdjoinedSetsModel_isInduction_21 ?_
  refine lv_sipush (v := 1402) hx hb d_AdjoinedSetsModel_isInduction_24 (by decide) ?_
  refine lv_bipush (v := 97) hx hb d_AdjoinedSetsModel_isInduction_27 (by decide) ?_
  refine lv_iload_n hx hb d_AdjoinedSetsModel_isInduction_29 rfl (lv_at hl 3 rfl) ?_
  refine lv_iadd hx hb d_AdjoinedSetsModel_isInduction_30 ?_
  obtain ⟨h11, e12, hs⟩ := ob hs
  refine pg_iastore C hw (t0 := 0) rfl e12 d_AdjoinedSetsModel_isInduction_31 (fun H locs hw => ?_)
  refine lv_aload_n hx hb d_AdjoinedSetsModel_isInduction_32 rfl (lv_at hl 0 rfl) ?_
  obtain ⟨v13, e14, hs⟩ := ob hs
  refine pg_getR C hw fl_AdjoinedSetsModel_7 e14 d_AdjoinedSetsModel_isInduction_33 ?_
  refine lv_sipush (v := 1403) hx hb d_AdjoinedSetsModel_isInduction_36 (by decide) ?_
  refine lv_bipush (v := 97) hx hb d_AdjoinedSetsModel_isInduction_39 (by decide) ?_
  refine lv_iload hx hb d_AdjoinedSetsModel_isInduction_41 (lv_at hl 4 rfl) ?_
  refine lv_iadd hx hb d_AdjoinedSetsModel_isInduction_43 ?_
  obtain ⟨h15, e16, hs⟩ := ob hs
  refine pg_iastore C hw (t0 := 0) rfl e16 d_AdjoinedSetsModel_isInduction_44 (fun H locs hw => ?_)
  refine lv_aload_n hx hb d_AdjoinedSetsModel_isInduction_45 rfl (lv_at hl 0 rfl) ?_
  refine lv_iload_n hx hb d_AdjoinedSetsModel_isInduction_46 rfl (lv_at hl 1 rfl) ?_
  obtain ⟨_, e17, hs⟩ := ob hs
  obtain ⟨q18, e19, hs⟩ := ob hs
  refine pg_callV C hw hl.1 ml_AdjoinedSetsModel_271 e17 (As := [.int x1]) (rest := []) (c_AdjoinedSetsModel_theoremAt l g e19) rfl (rm_ok (Nat.le_of_ble_eq_true rfl) (Nat.le_of_ble_eq_true rfl)) (Nat.le_of_ble_eq_true rfl) rfl (st1 := [.int q18]) rfl d_AdjoinedSetsModel_isInduction_47 (fun H locs hw => ?_)
  refine lv_istore hx hb d_AdjoinedSetsModel_isInduction_50 hl (by decide) (lv' := [(5, .int q18), (0, .ref (aD g x0)), (1, .int x1), (2, .int x2), (3, .int x3), (4, .int x4)]) rfl (fun ls hl => ?_)
  refine lv_aload_n hx hb d_AdjoinedSetsModel_isInduction_52 rfl (lv_at hl 1 rfl) ?_
  refine lv_iload_n hx hb d_AdjoinedSetsModel_isInduction_53 rfl (lv_at hl 3 rfl) ?_
  obtain ⟨_, e20, hs⟩ := ob hs
  obtain ⟨q21, e22, hs⟩ := ob hs
  refine pg_callV C hw hl.1 ml_AdjoinedSetsModel_271 e20 (As := [.int x2]) (rest := []) (c_AdjoinedSetsModel_theoremAt l g e22) rfl (rm_ok (Nat.le_of_ble_eq_true rfl) (Nat.le_of_ble_eq_true rfl)) (Nat.le_of_ble_eq_true rfl) rfl (st1 := [.int q21]) rfl d_AdjoinedSetsModel_isInduction_54 (fun H locs hw => ?_)
  refine lv_istore hx hb d_AdjoinedSetsModel_isInduction_57 hl (by decide) (lv' := [(6, .int q21), (5, .int q18), (0, .ref (aD g x0)), (1, .int x1), (2, .int x2), (3, .int x3), (4, .int x4)]) rfl (fun ls hl => ?_)
  refine lv_aload_n hx hb d_AdjoinedSetsModel_isInduction_59 rfl (lv_at hl 2 rfl) ?_
  obtain ⟨_, e23, hs⟩ := ob hs
  obtain ⟨q24, e25, hs⟩ := ob hs
  refine pg_callV C hw hl.1 ml_AdjoinedSetsModel_247 e23 (As := []) (rest := []) (c_AdjoinedSetsModel_noReplacing l g e25) rfl (rm_ok (Nat.le_of_ble_eq_true rfl) (Nat.le_of_ble_eq_true rfl)) (Nat.le_of_ble_eq_true rfl) rfl (st1 := []) rfl d_AdjoinedSetsModel_isInduction_60 (fun H locs hw => ?_)
  refine lv_aload_n hx hb d_AdjoinedSetsModel_isInduction_63 rfl (lv_at hl 2 rfl) ?_
  refine lv_iload_n hx hb d_AdjoinedSetsModel_isInduction_64 rfl (lv_at hl 5 rfl) ?_
  refine lv_sipush (v := 1400) hx hb d_AdjoinedSetsModel_isInduction_65 (by decide) ?_
  obtain ⟨_, e26, hs⟩ := ob hs
  obtain ⟨q27, e28, hs⟩ := ob hs
  refine pg_callV C hw hl.1 ml_AdjoinedSetsModel_250 e26 (As := [.int x3, .int 1400]) (rest := []) (c_AdjoinedSetsModel_replace l g e28) rfl (rm_ok (Nat.le_of_ble_eq_true rfl) (Nat.le_of_ble_eq_true rfl)) (Nat.le_of_ble_eq_true rfl) rfl (st1 := []) rfl d_AdjoinedSetsModel_isInduction_68 (fun H locs hw => ?_)
  refine lv_aload_n hx hb d_AdjoinedSetsModel_isInduction_71 rfl (lv_at hl 2 rfl) ?_
  refine lv_iconst (v := 0) hx hb d_AdjoinedSetsModel_isInduction_72 (by decide) ?_
  refine lv_iload hx hb d_AdjoinedSetsModel_isInduction_73 (lv_at hl 1 rfl) ?_
  obtain ⟨_, e29, hs⟩ := ob hs
  obtain ⟨q30, e31, hs⟩ := ob hs
  refine pg_callV C hw hl.1 ml_AdjoinedSetsModel_253 e29 (As := [.int 0, .int q18]) (rest := []) (c_AdjoinedSetsModel_replaced l g e31) rfl (rm_ok (Nat.le_of_ble_eq_true rfl) (Nat.le_of_ble_eq_true rfl)) (Nat.le_of_ble_eq_true rfl) rfl (st1 := [.int q30.1]) rfl d_AdjoinedSetsModel_isInduction_75 (fun H locs hw => ?_)
  refine lv_iload hx hb d_AdjoinedSetsModel_isInduction_78 (lv_at hl 1 rfl) ?_
  refine lv_aload_n hx hb d_AdjoinedSetsModel_isInduction_80 rfl (lv_at hl 2 rfl) ?_
  obtain ⟨v32, e33, hs⟩ := ob hs
  refine pg_getR C hw fl_AdjoinedSetsModel_20 e33 d_AdjoinedSetsModel_isInduction_81 ?_
  refine lv_iload_n hx hb d_AdjoinedSetsModel_isInduction_84 rfl (lv_at hl 3 rfl) ?_
  obtain ⟨v34, e35, hs⟩ := ob hs
  refine pg_iaload C hw (t0 := 0) rfl e35 d_AdjoinedSetsModel_isInduction_85 ?_
  refine lv_iadd hx hb d_AdjoinedSetsModel_isInduction_86 ?_
  refine lv_icmp_eq hx hb d_AdjoinedSetsModel_isInduction_87 (tgt := 92) (by decide) (fun hc => ?_) (fun hc => ?_)
  · have hs := oi_t hc hs
    refine lv_aload_n hx hb d_AdjoinedSetsModel_isInduction_92 rfl (lv_at hl 2 rfl) ?_
    refine lv_iload_n hx hb d_AdjoinedSetsModel_isInduction_93 rfl (lv_at hl 5 rfl) ?_
    refine lv_sipush (v := 1401) hx hb d_AdjoinedSetsModel_isInduction_94 (by decide) ?_
    obtain ⟨_, e36, hs⟩ := ob hs
    obtain ⟨q37, e38, hs⟩ := ob hs
    refine pg_callV C hw hl.1 ml_AdjoinedSetsModel_250 e36 (As := [.int x3, .int 1401]) (rest := []) (c_AdjoinedSetsModel_replace l g e38) rfl (rm_ok (Nat.le_of_ble_eq_true rfl) (Nat.le_of_ble_eq_true rfl)) (Nat.le_of_ble_eq_true rfl) rfl (st1 := []) rfl d_AdjoinedSetsModel_isInduction_97 (fun H locs hw => ?_)
    refine lv_aload_n hx hb d_AdjoinedSetsModel_isInduction_100 rfl (lv_at hl 2 rfl) ?_
    obtain ⟨v39, e40, hs⟩ := ob hs
    refine pg_getR C hw fl_AdjoinedSetsModel_7 e40 d_AdjoinedSetsModel_isInduction_101 ?_
    refine lv_iload hx hb d_AdjoinedSetsModel_isInduction_104 (lv_at hl 0 rfl) ?_
    obtain ⟨v41, e42, hs⟩ := ob hs
    refine pg_iaload C hw (t0 := 0) rfl e42 d_AdjoinedSetsModel_isInduction_106 ?_
    refine lv_bipush (v := 62) hx hb d_AdjoinedSetsModel_isInduction_107 (by decide) ?_
    refine lv_icmp_ne hx hb d_AdjoinedSetsModel_isInduction_109 (tgt := 171) (by decide) (fun hc => ?_) (fun hc => ?_)
    · have hs := oi_f hc hs
      refine lv_iconst (v := 0) hx hb d_AdjoinedSetsModel_isInduction_171 (by decide) ?_
      obtain rfl := Option.some.inj hs
      exact pg_zret (v := 0) C hw rfl d_AdjoinedSetsModel_isInduction_172
    · have hs := oi_t hc hs
      refine lv_aload_n hx hb d_AdjoinedSetsModel_isInduction_112 rfl (lv_at hl 2 rfl) ?_
      obtain ⟨v44, e45, hs⟩ := ob hs
      refine pg_getR C hw fl_AdjoinedSetsModel_20 e45 d_AdjoinedSetsModel_isInduction_113 ?_
      refine lv_iload_n hx hb d_AdjoinedSetsModel_isInduction_116 rfl (lv_at hl 4 rfl) ?_
      obtain ⟨v46, e47, hs⟩ := ob hs
      refine pg_iaload C hw (t0 := 0) rfl e47 d_AdjoinedSetsModel_isInduction_117 ?_
      refine lv_aload_n hx hb d_AdjoinedSetsModel_isInduction_118 rfl (lv_at hl 2 rfl) ?_
      obtain ⟨v48, e49, hs⟩ := ob hs
      refine pg_getI C hw fl_AdjoinedSetsModel_124 e49 d_AdjoinedSetsModel_isInduction_119 ?_
      refine lv_icmp_le hx hb d_AdjoinedSetsModel_isInduction_122 (tgt := 171) (by decide) (fun hc => ?_) (fun hc => ?_)
      · have hs := oi_t hc hs
        refine lv_iconst (v := 0) hx hb d_AdjoinedSetsModel_isInduction_171 (by decide) ?_
        obtain rfl := Option.some.inj hs
        exact pg_zret (v := 0) C hw rfl d_AdjoinedSetsModel_isInduction_172
      · have hs := oi_f hc hs
        refine lv_aload_n hx hb d_AdjoinedSetsModel_isInduction_125 rfl (lv_at hl 2 rfl) ?_
        refine lv_iload hx hb d_AdjoinedSetsModel_isInduction_126 (lv_at hl 0 rfl) ?_
        refine lv_iconst (v := 1) hx hb d_AdjoinedSetsModel_isInduction_128 (by decide) ?_
        refine lv_iadd hx hb d_AdjoinedSetsModel_isInduction_129 ?_
        refine lv_iconst (v := 0) hx hb d_AdjoinedSetsModel_isInduction_130 (by decide) ?_
        refine lv_aload_n hx hb d_AdjoinedSetsModel_isInduction_131 rfl (lv_at hl 2 rfl) ?_
        obtain ⟨v51, e52, hs⟩ := ob hs
        refine pg_getI C hw fl_AdjoinedSetsModel_124 e52 d_AdjoinedSetsModel_isInduction_132 ?_
        obtain ⟨_, e53, hs⟩ := ob hs
        obtain ⟨q54, e55, hs⟩ := ob hs
        refine pg_callV C hw hl.1 ml_AdjoinedSetsModel_240 e53 (As := [.int (q21 + 1), .int 0, .int v51]) (rest := []) (c_AdjoinedSetsModel_isSame l g e55) rfl (rm_ok (Nat.le_of_ble_eq_true rfl) (Nat.le_of_ble_eq_true rfl)) (Nat.le_of_ble_eq_true rfl) rfl (st1 := [.int q54]) rfl d_AdjoinedSetsModel_isInduction_135 (fun H locs hw => ?_)
        refine lv_if_eq hx hb d_AdjoinedSetsModel_isInduction_138 (tgt := 171) (by decide) (fun hc => ?_) (fun hc => ?_)
        · have hs := oi_t hc hs
          refine lv_iconst (v := 0) hx hb d_AdjoinedSetsModel_isInduction_171 (by decide) ?_
          obtain rfl := Option.some.inj hs
          exact pg_zret (v := 0) C hw rfl d_AdjoinedSetsModel_isInduction_172
        · have hs := oi_f hc hs
          refine lv_aload_n hx hb d_AdjoinedSetsModel_isInduction_141 rfl (lv_at hl 2 rfl) ?_
          refine lv_iconst (v := 0) hx hb d_AdjoinedSetsModel_isInduction_142 (by decide) ?_
          refine lv_iload hx hb d_AdjoinedSetsModel_isInduction_143 (lv_at hl 0 rfl) ?_
          refine lv_iconst (v := 1) hx hb d_AdjoinedSetsModel_isInduction_145 (by decide) ?_
          refine lv_iadd hx hb d_AdjoinedSetsModel_isInduction_146 ?_
          refine lv_aload_n hx hb d_AdjoinedSetsModel_isInduction_147 rfl (lv_at hl 2 rfl) ?_
          obtain ⟨v57, e58, hs⟩ := ob hs
          refine pg_getI C hw fl_AdjoinedSetsModel_124 e58 d_AdjoinedSetsModel_isInduction_148 ?_
          refine lv_iadd hx hb d_AdjoinedSetsModel_isInduction_151 ?_
          obtain ⟨_, e59, hs⟩ := ob hs
          obtain ⟨q60, e61, hs⟩ := ob hs
          refine pg_callV C hw hl.1 ml_AdjoinedSetsModel_253 e59 (As := [.int 0, .int ((q21 + 1) + v57)]) (rest := []) (c_AdjoinedSetsModel_replaced l g e61) rfl (rm_ok (Nat.le_of_ble_eq_true rfl) (Nat.le_of_ble_eq_true rfl)) (Nat.le_of_ble_eq_true rfl) rfl (st1 := [.int q60.1]) rfl d_AdjoinedSetsModel_isInduction_152 (fun H locs hw => ?_)
          refine lv_iload hx hb d_AdjoinedSetsModel_isInduction_155 (lv_at hl 0 rfl) ?_
          refine lv_aload_n hx hb d_AdjoinedSetsModel_isInduction_157 rfl (lv_at hl 2 rfl) ?_
          obtain ⟨v62, e63, hs⟩ := ob hs
          refine pg_getR C hw fl_AdjoinedSetsModel_20 e63 d_AdjoinedSetsModel_isInduction_158 ?_
          refine lv_iload_n hx hb d_AdjoinedSetsModel_isInduction_161 rfl (lv_at hl 4 rfl) ?_
          obtain ⟨v64, e65, hs⟩ := ob hs
          refine pg_iaload C hw (t0 := 0) rfl e65 d_AdjoinedSetsModel_isInduction_162 ?_
          refine lv_iadd hx hb d_AdjoinedSetsModel_isInduction_163 ?_
          refine lv_icmp_ne hx hb d_AdjoinedSetsModel_isInduction_164 (tgt := 171) (by decide) (fun hc => ?_) (fun hc => ?_)
          · have hs := oi_f hc hs
            refine lv_iconst (v := 0) hx hb d_AdjoinedSetsModel_isInduction_171 (by decide) ?_
            obtain rfl := Option.some.inj hs
            exact pg_zret (v := 0) C hw rfl d_AdjoinedSetsModel_isInduction_172
          · have hs := oi_t hc hs
            refine lv_iconst (v := 1) hx hb d_AdjoinedSetsModel_isInduction_167 (by decide) ?_
            refine lv_goto hx hb d_AdjoinedSetsModel_isInduction_168 (tgt := 172) (by decide) ?_
            obtain rfl := Option.some.inj hs
            exact pg_zret (v := 1) C hw rfl d_AdjoinedSetsModel_isInduction_172
  · have hs := oi_f hc hs
    refine lv_iconst (v := 0) hx hb d_AdjoinedSetsModel_isInduction_90 (by decide) ?_
    obtain rfl := Option.some.inj hs
    exact pg_zret (v := 0) C hw rfl d_AdjoinedSetsModel_isInduction_91

end
section
variable {p : Program} {l : Launch} {e : Env} {s : State} {m : MethodId} {args : Array Value} {below : List Frame} {meth : Method} {c : Code} {g : GG}
theorem d_AdjoinedSetsModel_isInduced_0 : decode b_AdjoinedSetsModel_isInduced 0 = .ok (.aload_n 0, 1) := by decide +kernel
theorem d_AdjoinedSetsModel_isInduced_1 : decode b_AdjoinedSetsModel_isInduced 1 = .ok (.iconst 0, 1) := by decide +kernel
theorem d_AdjoinedSetsModel_isInduced_2 : decode b_AdjoinedSetsModel_isInduced 2 = .ok (.invokevirtual 237, 3) := by decide +kernel
theorem d_AdjoinedSetsModel_isInduced_5 : decode b_AdjoinedSetsModel_isInduced 5 = .ok (.istore_n 3, 1) := by decide +kernel
theorem d_AdjoinedSetsModel_isInduced_6 : decode b_AdjoinedSetsModel_isInduced 6 = .ok (.iconst 0, 1) := by decide +kernel
theorem d_AdjoinedSetsModel_isInduced_7 : decode b_AdjoinedSetsModel_isInduced 7 = .ok (.istore 4, 2) := by decide +kernel
theorem d_AdjoinedSetsModel_isInduced_9 : decode b_AdjoinedSetsModel_isInduced 9 = .ok (.iconst 0, 1) := by decide +kernel
theorem d_AdjoinedSetsModel_isInduced_10 : decode b_AdjoinedSetsModel_isInduced 10 = .ok (.istore 5, 2) := by decide +kernel
theorem d_AdjoinedSetsModel_isInduced_12 : decode b_AdjoinedSetsModel_isInduced 12 = .ok (.iload 5, 2) := by decide +kernel
theorem d_AdjoinedSetsModel_isInduced_14 : decode b_AdjoinedSetsModel_isInduced 14 = .ok (.bipush 8, 2) := by decide +kernel
theorem d_AdjoinedSetsModel_isInduced_16 : decode b_AdjoinedSetsModel_isInduced 16 = .ok (.if_icmp .ge 66, 3) := by decide +kernel
theorem d_AdjoinedSetsModel_isInduced_19 : decode b_AdjoinedSetsModel_isInduced 19 = .ok (.iconst 0, 1) := by decide +kernel
theorem d_AdjoinedSetsModel_isInduced_20 : decode b_AdjoinedSetsModel_isInduced 20 = .ok (.istore 6, 2) := by decide +kernel
theorem d_AdjoinedSetsModel_isInduced_22 : decode b_AdjoinedSetsModel_isInduced 22 = .ok (.iload 6, 2) := by decide +kernel
theorem d_AdjoinedSetsModel_isInduced_24 : decode b_AdjoinedSetsModel_isInduced 24 = .ok (.bipush 8, 2) := by decide +kernel
theorem d_AdjoinedSetsModel_isInduced_26 : decode b_AdjoinedSetsModel_isInduced 26 = .ok (.if_icmp .ge 50, 3) := by decide +kernel
theorem d_AdjoinedSetsModel_isInduced_29 : decode b_AdjoinedSetsModel_isInduced 29 = .ok (.iload 4, 2) := by decide +kernel
theorem d_AdjoinedSetsModel_isInduced_31 : decode b_AdjoinedSetsModel_isInduced 31 = .ok (.ifCond .ne 45, 3) := by decide +kernel
theorem d_AdjoinedSetsModel_isInduced_34 : decode b_AdjoinedSetsModel_isInduced 34 = .ok (.iload 5, 2) := by decide +kernel
theorem d_AdjoinedSetsModel_isInduced_36 : decode b_AdjoinedSetsModel_isInduced 36 = .ok (.iload 6, 2) := by decide +kernel
theorem d_AdjoinedSetsModel_isInduced_38 : decode b_AdjoinedSetsModel_isInduced 38 = .ok (.if_icmp .eq 29, 3) := by decide +kernel
theorem d_AdjoinedSetsModel_isInduced_41 : decode b_AdjoinedSetsModel_isInduced 41 = .ok (.iload_n 3, 1) := by decide +kernel
theorem d_AdjoinedSetsModel_isInduced_42 : decode b_AdjoinedSetsModel_isInduced 42 = .ok (.iload 6, 2) := by decide +kernel
theorem d_AdjoinedSetsModel_isInduced_44 : decode b_AdjoinedSetsModel_isInduced 44 = .ok (.ishr, 1) := by decide +kernel
theorem d_AdjoinedSetsModel_isInduced_45 : decode b_AdjoinedSetsModel_isInduced 45 = .ok (.iconst 1, 1) := by decide +kernel
theorem d_AdjoinedSetsModel_isInduced_46 : decode b_AdjoinedSetsModel_isInduced 46 = .ok (.iand, 1) := by decide +kernel
theorem d_AdjoinedSetsModel_isInduced_47 : decode b_AdjoinedSetsModel_isInduced 47 = .ok (.ifCond .ne 20, 3) := by decide +kernel
theorem d_AdjoinedSetsModel_isInduced_50 : decode b_AdjoinedSetsModel_isInduced 50 = .ok (.aload_n 0, 1) := by decide +kernel
theorem d_AdjoinedSetsModel_isInduced_51 : decode b_AdjoinedSetsModel_isInduced 51 = .ok (.iload_n 1, 1) := by decide +kernel
theorem d_AdjoinedSetsModel_isInduced_52 : decode b_AdjoinedSetsModel_isInduced 52 = .ok (.iload_n 2, 1) := by decide +kernel
theorem d_AdjoinedSetsModel_isInduced_53 : decode b_AdjoinedSetsModel_isInduced 53 = .ok (.iload 5, 2) := by decide +kernel
theorem d_AdjoinedSetsModel_isInduced_55 : decode b_AdjoinedSetsModel_isInduced 55 = .ok (.iload 6, 2) := by decide +kernel
theorem d_AdjoinedSetsModel_isInduced_57 : decode b_AdjoinedSetsModel_isInduced 57 = .ok (.invokevirtual 274, 3) := by decide +kernel
theorem d_AdjoinedSetsModel_isInduced_60 : decode b_AdjoinedSetsModel_isInduced 60 = .ok (.ifCond .eq 7, 3) := by decide +kernel
theorem d_AdjoinedSetsModel_isInduced_63 : decode b_AdjoinedSetsModel_isInduced 63 = .ok (.iconst 1, 1) := by decide +kernel
theorem d_AdjoinedSetsModel_isInduced_64 : decode b_AdjoinedSetsModel_isInduced 64 = .ok (.goto 4, 3) := by decide +kernel
theorem d_AdjoinedSetsModel_isInduced_67 : decode b_AdjoinedSetsModel_isInduced 67 = .ok (.iconst 0, 1) := by decide +kernel
theorem d_AdjoinedSetsModel_isInduced_68 : decode b_AdjoinedSetsModel_isInduced 68 = .ok (.istore 4, 2) := by decide +kernel
theorem d_AdjoinedSetsModel_isInduced_70 : decode b_AdjoinedSetsModel_isInduced 70 = .ok (.iinc 6 1, 3) := by decide +kernel
theorem d_AdjoinedSetsModel_isInduced_73 : decode b_AdjoinedSetsModel_isInduced 73 = .ok (.goto (-51), 3) := by decide +kernel
theorem d_AdjoinedSetsModel_isInduced_76 : decode b_AdjoinedSetsModel_isInduced 76 = .ok (.iinc 5 1, 3) := by decide +kernel
theorem d_AdjoinedSetsModel_isInduced_79 : decode b_AdjoinedSetsModel_isInduced 79 = .ok (.goto (-67), 3) := by decide +kernel
theorem d_AdjoinedSetsModel_isInduced_82 : decode b_AdjoinedSetsModel_isInduced 82 = .ok (.iload 4, 2) := by decide +kernel
theorem d_AdjoinedSetsModel_isInduced_84 : decode b_AdjoinedSetsModel_isInduced 84 = .ok (.ireturn, 1) := by decide +kernel
def s_AdjoinedSetsModel_isInduced_68 (c12 : Nat → Int32 → Int32 → Int32 → Int32 → Int32 → HP → Option (Int32 × HP)) (c22 : Nat → Int32 → Int32 → Int32 → Int32 → Int32 → Int32 → HP → Option (Int32 × HP)) (x0 : Nat) (x1 : Int32) (x2 : Int32) (x3 : Int32) (x5 : Int32) (x6 : Int32) (t0 : Int32) (h : HP) : Option (Int32 × HP) :=
  c22 x0 x1 x2 x3 t0 x5 (x6 + 1) h
set_option maxHeartbeats 4000000 in
set_option maxRecDepth 100000 in
theorem k_AdjoinedSetsModel_isInduced_68 {x0 : Nat} {x1 : Int32} {x2 : Int32} {x3 : Int32} {x5 : Int32} {x6 : Int32} {t0 : Int32} {h : HP} {z : Int32 × HP} (C : CX g R_AdjoinedSetsModel b_AdjoinedSetsModel_isInduced 7 (some .boolean) p s m args meth c) (c12 : Nat → Int32 → Int32 → Int32 → Int32 → Int32 → HP → Option (Int32 × HP)) (c22 : Nat → Int32 → Int32 → Int32 → Int32 → Int32 → Int32 → HP → Option (Int32 × HP))
    (hc12 : ∀ {x0 : Nat} {x1 : Int32} {x2 : Int32} {x3 : Int32} {x4 : Int32} {x5 : Int32} {h : HP} {H : Heap} {locs : List Loc} {ls : Array Slot}, WD g h s.heap H locs → lv_has ls 7 [(0, .ref (aD g x0)), (1, .int x1), (2, .int x2), (3, .int x3), (4, .int x4), (5, .int x5)] → c12 x0 x1 x2 x3 x4 x5 h = some z → W p l e (rmS 6 139) s m args below meth c H locs 0 0 (MQ below (Qq g (some (.int z.1)) z.2) args s 0 0 (inA g)) (F0 m 12 ls []))
    (hc22 : ∀ {x0 : Nat} {x1 : Int32} {x2 : Int32} {x3 : Int32} {x4 : Int32} {x5 : Int32} {x6 : Int32} {h : HP} {H : Heap} {locs : List Loc} {ls : Array Slot}, WD g h s.heap H locs → lv_has ls 7 [(0, .ref (aD g x0)), (1, .int x1), (2, .int x2), (3, .int x3), (4, .int x4), (5, .int x5), (6, .int x6)] → c22 x0 x1 x2 x3 x4 x5 x6 h = some z → W p l e (rmS 6 139) s m args below meth c H locs 0 0 (MQ below (Qq g (some (.int z.1)) z.2) args s 0 0 (inA g)) (F0 m 22 ls [])) {H : Heap} {locs : List Loc} {ls : Array Slot} (hw : WD g h s.heap H locs) (hl : lv_has ls 7 [(0, .ref (aD g x0)), (1, .int x1), (2, .int x2), (3, .int x3), (5, .int x5), (6, .int x6)]) (hs : s_AdjoinedSetsModel_isInduced_68 c12 c22 x0 x1 x2 x3 x5 x6 t0 h = some z) : W p l e (rmS 6 139) s m args below meth c H locs 0 0 (MQ below (Qq g (some (.int z.1)) z.2) args s 0 0 (inA g)) (F0 m 68 ls [.int t0]) := by
  unfold s_AdjoinedSetsModel_isInduced_68 at hs
  have hx := C.1
  have hb := C.2.1
  refine lv_istore hx hb d_AdjoinedSetsModel_isInduced_68 hl (by decide) (lv' := [(4, .int t0), (0, .ref (aD g x0)), (1, .int x1), (2, .int x2), (3, .int x3), (5, .int x5), (6, .int x6)]) rfl (fun ls hl => ?_)
  refine lv_iinc hx hb d_AdjoinedSetsModel_isInduced_70 hl (k := 6) rfl (v := (x6 + 1)) (iinc_e _ (by decide)) (by decide) (lv' := [(6, .int (x6 + 1)), (4, .int t0), (0, .ref (aD g x0)), (1, .int x1), (2, .int x2), (3, .int x3), (5, .int x5)]) rfl (fun ls hl => ?_)
  refine lv_goto hx hb d_AdjoinedSetsModel_isInduced_73 (tgt := 22) (by decide) ?_
  exact hc22 hw (lv_sub hl [2, 3, 4, 5, 1, 6, 0] rfl) hs

def s_AdjoinedSetsModel_isInduced_67 (c12 : Nat → Int32 → Int32 → Int32 → Int32 → Int32 → HP → Option (Int32 × HP)) (c22 : Nat → Int32 → Int32 → Int32 → Int32 → Int32 → Int32 → HP → Option (Int32 × HP)) (x0 : Nat) (x1 : Int32) (x2 : Int32) (x3 : Int32) (x5 : Int32) (x6 : Int32) (h : HP) : Option (Int32 × HP) :=
  s_AdjoinedSetsModel_isInduced_68 c12 c22 x0 x1 x2 x3 x5 x6 0 h
set_option maxHeartbeats 4000000 in
set_option maxRecDepth 100000 in
theorem k_AdjoinedSetsModel_isInduced_67 {x0 : Nat} {x1 : Int32} {x2 : Int32} {x3 : Int32} {x5 : Int32} {x6 : Int32} {h : HP} {z : Int32 × HP} (C : CX g R_AdjoinedSetsModel b_AdjoinedSetsModel_isInduced 7 (some .boolean) p s m args meth c) (c12 : Nat → Int32 → Int32 → Int32 → Int32 → Int32 → HP → Option (Int32 × HP)) (c22 : Nat → Int32 → Int32 → Int32 → Int32 → Int32 → Int32 → HP → Option (Int32 × HP))
    (hc12 : ∀ {x0 : Nat} {x1 : Int32} {x2 : Int32} {x3 : Int32} {x4 : Int32} {x5 : Int32} {h : HP} {H : Heap} {locs : List Loc} {ls : Array Slot}, WD g h s.heap H locs → lv_has ls 7 [(0, .ref (aD g x0)), (1, .int x1), (2, .int x2), (3, .int x3), (4, .int x4), (5, .int x5)] → c12 x0 x1 x2 x3 x4 x5 h = some z → W p l e (rmS 6 139) s m args below meth c H locs 0 0 (MQ below (Qq g (some (.int z.1)) z.2) args s 0 0 (inA g)) (F0 m 12 ls []))
    (hc22 : ∀ {x0 : Nat} {x1 : Int32} {x2 : Int32} {x3 : Int32} {x4 : Int32} {x5 : Int32} {x6 : Int32} {h : HP} {H : Heap} {locs : List Loc} {ls : Array Slot}, WD g h s.heap H locs → lv_has ls 7 [(0, .ref (aD g x0)), (1, .int x1), (2, .int x2), (3, .int x3), (4, .int x4), (5, .int x5), (6, .int x6)] → c22 x0 x1 x2 x3 x4 x5 x6 h = some z → W p l e (rmS 6 139) s m args below meth c H locs 0 0 (MQ below (Qq g (some (.int z.1)) z.2) args s 0 0 (inA g)) (F0 m 22 ls [])) {H : Heap} {locs : List Loc} {ls : Array Slot} (hw : WD g h s.heap H locs) (hl : lv_has ls 7 [(0, .ref (aD g x0)), (1, .int x1), (2, .int x2), (3, .int x3), (5, .int x5), (6, .int x6)]) (hs : s_AdjoinedSetsModel_isInduced_67 c12 c22 x0 x1 x2 x3 x5 x6 h = some z) : W p l e (rmS 6 139) s m args below meth c H locs 0 0 (MQ below (Qq g (some (.int z.1)) z.2) args s 0 0 (inA g)) (F0 m 67 ls []) := by
  unfold s_AdjoinedSetsModel_isInduced_67 at hs
  have hx := C.1
  have hb := C.2.1
  refine lv_iconst (v := 0) hx hb d_AdjoinedSetsModel_isInduced_67 (by decide) ?_
  exact k_AdjoinedSetsModel_isInduced_68 C c12 c22 hc12 hc22 hw (lv_sub hl [0, 1, 2, 3, 4, 5] rfl) hs

def s_AdjoinedSetsModel_isInduced_76 (c12 : Nat → Int32 → Int32 → Int32 → Int32 → Int32 → HP → Option (Int32 × HP)) (x0 : Nat) (x1 : Int32) (x2 : Int32) (x3 : Int32) (x4 : Int32) (x5 : Int32) (h : HP) : Option (Int32 × HP) :=
  c12 x0 x1 x2 x3 x4 (x5 + 1) h
set_option maxHeartbeats 4000000 in
set_option maxRecDepth 100000 in
theorem k_AdjoinedSetsModel_isInduced_76 {x0 : Nat} {x1 : Int32} {x2 : Int32} {x3 : Int32} {x4 : Int32} {x5 : Int32} {h : HP} {z : Int32 × HP} (C : CX g R_AdjoinedSetsModel b_AdjoinedSetsModel_isInduced 7 (some .boolean) p s m args meth c) (c12 : Nat → Int32 → Int32 → Int32 → Int32 → Int32 → HP → Option (Int32 × HP))
    (hc12 : ∀ {x0 : Nat} {x1 : Int32} {x2 : Int32} {x3 : Int32} {x4 : Int32} {x5 : Int32} {h : HP} {H : Heap} {locs : List Loc} {ls : Array Slot}, WD g h s.heap H locs → lv_has ls 7 [(0, .ref (aD g x0)), (1, .int x1), (2, .int x2), (3, .int x3), (4, .int x4), (5, .int x5)] → c12 x0 x1 x2 x3 x4 x5 h = some z → W p l e (rmS 6 139) s m args below meth c H locs 0 0 (MQ below (Qq g (some (.int z.1)) z.2) args s 0 0 (inA g)) (F0 m 12 ls [])) {H : Heap} {locs : List Loc} {ls : Array Slot} (hw : WD g h s.heap H locs) (hl : lv_has ls 7 [(0, .ref (aD g x0)), (1, .int x1), (2, .int x2), (3, .int x3), (4, .int x4), (5, .int x5)]) (hs : s_AdjoinedSetsModel_isInduced_76 c12 x0 x1 x2 x3 x4 x5 h = some z) : W p l e (rmS 6 139) s m args below meth c H locs 0 0 (MQ below (Qq g (some (.int z.1)) z.2) args s 0 0 (inA g)) (F0 m 76 ls []) := by
  unfold s_AdjoinedSetsModel_isInduced_76 at hs
  have hx := C.1
  have hb := C.2.1
  refine lv_iinc hx hb d_AdjoinedSetsModel_isInduced_76 hl (k := 5) rfl (v := (x5 + 1)) (iinc_e _ (by decide)) (by decide) (lv' := [(5, .int (x5 + 1)), (0, .ref (aD g x0)), (1, .int x1), (2, .int x2), (3, .int x3), (4, .int x4)]) rfl (fun ls hl => ?_)
  refine lv_goto hx hb d_AdjoinedSetsModel_isInduced_79 (tgt := 12) (by decide) ?_
  exact hc12 hw (lv_sub hl [1, 2, 3, 4, 5, 0] rfl) hs

def s_AdjoinedSetsModel_isInduced_22 (c12 : Nat → Int32 → Int32 → Int32 → Int32 → Int32 → HP → Option (Int32 × HP)) : Nat → Nat → Int32 → Int32 → Int32 → Int32 → Int32 → Int32 → HP → Option (Int32 × HP)
  | 0 => fun _ _ _ _ _ _ _ _ => none
  | k + 1 => fun x0 x1 x2 x3 x4 x5 x6 h =>
  if 8 ≤ x6 then (
    s_AdjoinedSetsModel_isInduced_76 c12 x0 x1 x2 x3 x4 x5 h)
  else (
    if x4 = 0 then (
      if x5 = x6 then (
        s_AdjoinedSetsModel_isInduced_67 c12 (s_AdjoinedSetsModel_isInduced_22 c12 k) x0 x1 x2 x3 x5 x6 h)
      else (
        if ((x3 >>> (x6 &&& 31)) &&& 1) = 0 then (
          (kd x0 9).bind fun _ =>
          (s_AdjoinedSetsModel_isInduction x0 x1 x2 x5 x6 h).bind fun q2 =>
          if q2.1 = 0 then (
            s_AdjoinedSetsModel_isInduced_67 c12 (s_AdjoinedSetsModel_isInduced_22 c12 k) x0 x1 x2 x3 x5 x6 q2.2)
          else (
            s_AdjoinedSetsModel_isInduced_68 c12 (s_AdjoinedSetsModel_isInduced_22 c12 k) x0 x1 x2 x3 x5 x6 1 q2.2))
        else (
          s_AdjoinedSetsModel_isInduced_67 c12 (s_AdjoinedSetsModel_isInduced_22 c12 k) x0 x1 x2 x3 x5 x6 h)))
    else (
      s_AdjoinedSetsModel_isInduced_76 c12 x0 x1 x2 x3 x4 x5 h))
set_option maxHeartbeats 4000000 in
set_option maxRecDepth 100000 in
theorem k_AdjoinedSetsModel_isInduced_22 {z : Int32 × HP} (C : CX g R_AdjoinedSetsModel b_AdjoinedSetsModel_isInduced 7 (some .boolean) p s m args meth c) (c12 : Nat → Int32 → Int32 → Int32 → Int32 → Int32 → HP → Option (Int32 × HP))
    (hc12 : ∀ {x0 : Nat} {x1 : Int32} {x2 : Int32} {x3 : Int32} {x4 : Int32} {x5 : Int32} {h : HP} {H : Heap} {locs : List Loc} {ls : Array Slot}, WD g h s.heap H locs → lv_has ls 7 [(0, .ref (aD g x0)), (1, .int x1), (2, .int x2), (3, .int x3), (4, .int x4), (5, .int x5)] → c12 x0 x1 x2 x3 x4 x5 h = some z → W p l e (rmS 6 139) s m args below meth c H locs 0 0 (MQ below (Qq g (some (.int z.1)) z.2) args s 0 0 (inA g)) (F0 m 12 ls [])) : ∀ (k : Nat) {x0 : Nat} {x1 : Int32} {x2 : Int32} {x3 : Int32} {x4 : Int32} {x5 : Int32} {x6 : Int32} {h : HP} {H : Heap} {locs : List Loc} {ls : Array Slot}, WD g h s.heap H locs → lv_has ls 7 [(0, .ref (aD g x0)), (1, .int x1), (2, .int x2), (3, .int x3), (4, .int x4), (5, .int x5), (6, .int x6)] → s_AdjoinedSetsModel_isInduced_22 c12 k x0 x1 x2 x3 x4 x5 x6 h = some z → W p l e (rmS 6 139) s m args below meth c H locs 0 0 (MQ below (Qq g (some (.int z.1)) z.2) args s 0 0 (inA g)) (F0 m 22 ls []) := by
  have hx := C.1
  have hb := C.2.1
  intro k
  induction k with
  | zero =>
    intro x0 x1 x2 x3 x4 x5 x6 h H locs ls hw hl hs
    exact (no_s hs).elim
  | succ k ih =>
    intro x0 x1 x2 x3 x4 x5 x6 h H locs ls hw hl hs
    rw [s_AdjoinedSetsModel_isInduced_22] at hs
    refine lv_iload hx hb d_AdjoinedSetsModel_isInduced_22 (lv_at hl 6 rfl) ?_
    refine lv_bipush (v := 8) hx hb d_AdjoinedSetsModel_isInduced_24 (by decide) ?_
    refine lv_icmp_ge hx hb d_AdjoinedSetsModel_isInduced_26 (tgt := 76) (by decide) (fun hc => ?_) (fun hc => ?_)
    · have hs := oi_t hc hs
      exact k_AdjoinedSetsModel_isInduced_76 C c12 hc12 hw (lv_sub hl [0, 1, 2, 3, 4, 5] rfl) hs
    · have hs := oi_f hc hs
      refine lv_iload hx hb d_AdjoinedSetsModel_isInduced_29 (lv_at hl 4 rfl) ?_
      refine lv_if_ne hx hb d_AdjoinedSetsModel_isInduced_31 (tgt := 76) (by decide) (fun hc => ?_) (fun hc => ?_)
      · have hs := oi_f hc hs
        exact k_AdjoinedSetsModel_isInduced_76 C c12 hc12 hw (lv_sub hl [0, 1, 2, 3, 4, 5] rfl) hs
      · have hs := oi_t hc hs
        refine lv_iload hx hb d_AdjoinedSetsModel_isInduced_34 (lv_at hl 5 rfl) ?_
        refine lv_iload hx hb d_AdjoinedSetsModel_isInduced_36 (lv_at hl 6 rfl) ?_
        refine lv_icmp_eq hx hb d_AdjoinedSetsModel_isInduced_38 (tgt := 67) (by decide) (fun hc => ?_) (fun hc => ?_)
        · have hs := oi_t hc hs
          exact k_AdjoinedSetsModel_isInduced_67 C c12 (s_AdjoinedSetsModel_isInduced_22 c12 k) hc12 ih hw (lv_sub hl [0, 1, 2, 3, 5, 6] rfl) hs
        · have hs := oi_f hc hs
          refine lv_iload_n hx hb d_AdjoinedSetsModel_isInduced_41 rfl (lv_at hl 3 rfl) ?_
          refine lv_iload hx hb d_AdjoinedSetsModel_isInduced_42 (lv_at hl 6 rfl) ?_
          refine lv_ishr hx hb d_AdjoinedSetsModel_isInduced_44 ?_
          refine lv_iconst (v := 1) hx hb d_AdjoinedSetsModel_isInduced_45 (by decide) ?_
          refine lv_iand hx hb d_AdjoinedSetsModel_isInduced_46 ?_
          refine lv_if_ne hx hb d_AdjoinedSetsModel_isInduced_47 (tgt := 67) (by decide) (fun hc => ?_) (fun hc => ?_)
          · have hs := oi_f hc hs
            exact k_AdjoinedSetsModel_isInduced_67 C c12 (s_AdjoinedSetsModel_isInduced_22 c12 k) hc12 ih hw (lv_sub hl [0, 1, 2, 3, 5, 6] rfl) hs
          · have hs := oi_t hc hs
            refine lv_aload_n hx hb d_AdjoinedSetsModel_isInduced_50 rfl (lv_at hl 0 rfl) ?_
            refine lv_iload_n hx hb d_AdjoinedSetsModel_isInduced_51 rfl (lv_at hl 1 rfl) ?_
            refine lv_iload_n hx hb d_AdjoinedSetsModel_isInduced_52 rfl (lv_at hl 2 rfl) ?_
            refine lv_iload hx hb d_AdjoinedSetsModel_isInduced_53 (lv_at hl 5 rfl) ?_
            refine lv_iload hx hb d_AdjoinedSetsModel_isInduced_55 (lv_at hl 6 rfl) ?_
            obtain ⟨_, e1, hs⟩ := ob hs
            obtain ⟨q2, e3, hs⟩ := ob hs
            refine pg_callV C hw hl.1 ml_AdjoinedSetsModel_274 e1 (As := [.int x1, .int x2, .int x5, .int x6]) (rest := []) (c_AdjoinedSetsModel_isInduction l g e3) rfl (rm_ok (Nat.le_of_ble_eq_true rfl) (Nat.le_of_ble_eq_true rfl)) (Nat.le_of_ble_eq_true rfl) rfl (st1 := [.int q2.1]) rfl d_AdjoinedSetsModel_isInduced_57 (fun H locs hw => ?_)
            refine lv_if_eq hx hb d_AdjoinedSetsModel_isInduced_60 (tgt := 67) (by decide) (fun hc => ?_) (fun hc => ?_)
            · have hs := oi_t hc hs
              exact k_AdjoinedSetsModel_isInduced_67 C c12 (s_AdjoinedSetsModel_isInduced_22 c12 k) hc12 ih hw (lv_sub hl [0, 1, 2, 3, 5, 6] rfl) hs
            · have hs := oi_f hc hs
              refine lv_iconst (v := 1) hx hb d_AdjoinedSetsModel_isInduced_63 (by decide) ?_
              refine lv_goto hx hb d_AdjoinedSetsModel_isInduced_64 (tgt := 68) (by decide) ?_
              exact k_AdjoinedSetsModel_isInduced_68 C c12 (s_AdjoinedSetsModel_isInduced_22 c12 k) hc12 ih hw (lv_sub hl [0, 1, 2, 3, 5, 6] rfl) hs

def s_AdjoinedSetsModel_isInduced_12 : Nat → Nat → Int32 → Int32 → Int32 → Int32 → Int32 → HP → Option (Int32 × HP)
  | 0 => fun _ _ _ _ _ _ _ => none
  | k + 1 => fun x0 x1 x2 x3 x4 x5 h =>
  if 8 ≤ x5 then (
    (zr x4).bind fun _ => some (x4, h))
  else (
    s_AdjoinedSetsModel_isInduced_22 (s_AdjoinedSetsModel_isInduced_12 k) 20000 x0 x1 x2 x3 x4 x5 0 h)
set_option maxHeartbeats 4000000 in
set_option maxRecDepth 100000 in
theorem k_AdjoinedSetsModel_isInduced_12 {z : Int32 × HP} (C : CX g R_AdjoinedSetsModel b_AdjoinedSetsModel_isInduced 7 (some .boolean) p s m args meth c) : ∀ (k : Nat) {x0 : Nat} {x1 : Int32} {x2 : Int32} {x3 : Int32} {x4 : Int32} {x5 : Int32} {h : HP} {H : Heap} {locs : List Loc} {ls : Array Slot}, WD g h s.heap H locs → lv_has ls 7 [(0, .ref (aD g x0)), (1, .int x1), (2, .int x2), (3, .int x3), (4, .int x4), (5, .int x5)] → s_AdjoinedSetsModel_isInduced_12 k x0 x1 x2 x3 x4 x5 h = some z → W p l e (rmS 6 139) s m args below meth c H locs 0 0 (MQ below (Qq g (some (.int z.1)) z.2) args s 0 0 (inA g)) (F0 m 12 ls []) := by
  have hx := C.1
  have hb := C.2.1
  intro k
  induction k with
  | zero =>
    intro x0 x1 x2 x3 x4 x5 h H locs ls hw hl hs
    exact (no_s hs).elim
  | succ k ih =>
    intro x0 x1 x2 x3 x4 x5 h H locs ls hw hl hs
    rw [s_AdjoinedSetsModel_isInduced_12] at hs
    refine lv_iload hx hb d_AdjoinedSetsModel_isInduced_12 (lv_at hl 5 rfl) ?_
    refine lv_bipush (v := 8) hx hb d_AdjoinedSetsModel_isInduced_14 (by decide) ?_
    refine lv_icmp_ge hx hb d_AdjoinedSetsModel_isInduced_16 (tgt := 82) (by decide) (fun hc => ?_) (fun hc => ?_)
    · have hs := oi_t hc hs
      refine lv_iload hx hb d_AdjoinedSetsModel_isInduced_82 (lv_at hl 4 rfl) ?_
      obtain ⟨_, e1, hs⟩ := ob hs
      obtain rfl := Option.some.inj hs
      exact pg_zret (v := x4) C hw (zr_n e1) d_AdjoinedSetsModel_isInduced_84
    · have hs := oi_f hc hs
      refine lv_iconst (v := 0) hx hb d_AdjoinedSetsModel_isInduced_19 (by decide) ?_
      refine lv_istore hx hb d_AdjoinedSetsModel_isInduced_20 hl (by decide) (lv' := [(6, .int 0), (0, .ref (aD g x0)), (1, .int x1), (2, .int x2), (3, .int x3), (4, .int x4), (5, .int x5)]) rfl (fun ls hl => ?_)
      exact k_AdjoinedSetsModel_isInduced_22 C (s_AdjoinedSetsModel_isInduced_12 k) ih 20000 hw (lv_sub hl [1, 2, 3, 4, 5, 6, 0] rfl) hs

def s_AdjoinedSetsModel_isInduced (x0 : Nat) (x1 : Int32) (x2 : Int32) (h : HP) : Option (Int32 × HP) :=
  (kd x0 9).bind fun _ =>
  (s_AdjoinedSetsModel_freeIn x0 0 h).bind fun q2 =>
  s_AdjoinedSetsModel_isInduced_12 20000 x0 x1 x2 q2.1 0 0 q2.2
set_option maxHeartbeats 4000000 in
set_option maxRecDepth 100000 in
theorem c_AdjoinedSetsModel_isInduced (l : Launch) (g : GG) {x0 : Nat} {x1 : Int32} {x2 : Int32} {h : HP} {z : Int32 × HP} (hs : s_AdjoinedSetsModel_isInduced x0 x1 x2 h = some z) : Ct l g y_AdjoinedSetsModel_isInduced w_AdjoinedSetsModel_isInduced (rmS 6 139) [.ref (aD g x0), .int x1, .int x2] h (some (.int z.1)) z.2 := by
  refine Ct.of (own := R_AdjoinedSetsModel) (by decide) rfl rfl (Nat.le_of_ble_eq_true rfl) ?_
  intro p e s m args below meth c ls C hl hw
  have hx := C.1
  have hb := C.2.1
  have hl : lv_has ls 7 [(0, .ref (aD g x0)), (1, .int x1), (2, .int x2)] := hl
  unfold s_AdjoinedSetsModel_isInduced at hs
  refine lv_aload_n hx hb d_AdjoinedSetsModel_isInduced_0 rfl (lv_at hl 0 rfl) ?_
  refine lv_iconst (v := 0) hx hb d_AdjoinedSetsModel_isInduced_1 (by decide) ?_
  obtain ⟨_, e1, hs⟩ := ob hs
  obtain ⟨q2, e3, hs⟩ := ob hs
  refine pg_callV C hw hl.1 ml_AdjoinedSetsModel_237 e1 (As := [.int 0]) (rest := []) (c_AdjoinedSetsModel_freeIn l g e3) rfl (rm_ok (Nat.le_of_ble_eq_true rfl) (Nat.le_of_ble_eq_true rfl)) (Nat.le_of_ble_eq_true rfl) rfl (st1 := [.int q2.1]) rfl d_AdjoinedSetsModel_isInduced_2 (fun H locs hw => ?_)
  refine lv_istore_n hx hb d_AdjoinedSetsModel_isInduced_5 rfl hl (by decide) (lv' := [(3, .int q2.1), (0, .ref (aD g x0)), (1, .int x1), (2, .int x2)]) rfl (fun ls hl => ?_)
  refine lv_iconst (v := 0) hx hb d_AdjoinedSetsModel_isInduced_6 (by decide) ?_
  refine lv_istore hx hb d_AdjoinedSetsModel_isInduced_7 hl (by decide) (lv' := [(4, .int 0), (3, .int q2.1), (0, .ref (aD g x0)), (1, .int x1), (2, .int x2)]) rfl (fun ls hl => ?_)
  refine lv_iconst (v := 0) hx hb d_AdjoinedSetsModel_isInduced_9 (by decide) ?_
  refine lv_istore hx hb d_AdjoinedSetsModel_isInduced_10 hl (by decide) (lv' := [(5, .int 0), (4, .int 0), (3, .int q2.1), (0, .ref (aD g x0)), (1, .int x1), (2, .int x2)]) rfl (fun ls hl => ?_)
  exact k_AdjoinedSetsModel_isInduced_12 C 20000 hw (lv_sub hl [3, 4, 5, 2, 1, 0] rfl) hs

end
