section
variable {p : Program} {l : Launch} {e : Env} {s : State} {m : MethodId} {args : Array Value} {below : List Frame} {meth : Method} {c : Code} {g : GG}
theorem d_AdjoinedSetsModel_eval_0 : decode b_AdjoinedSetsModel_eval 0 = .ok (.aload_n 0, 1) := by decide +kernel
theorem d_AdjoinedSetsModel_eval_1 : decode b_AdjoinedSetsModel_eval 1 = .ok (.iconst 0, 1) := by decide +kernel
theorem d_AdjoinedSetsModel_eval_2 : decode b_AdjoinedSetsModel_eval 2 = .ok (.iconst (-1), 1) := by decide +kernel
theorem d_AdjoinedSetsModel_eval_3 : decode b_AdjoinedSetsModel_eval 3 = .ok (.iconst 0, 1) := by decide +kernel
theorem d_AdjoinedSetsModel_eval_4 : decode b_AdjoinedSetsModel_eval 4 = .ok (.invokevirtual 156, 3) := by decide +kernel
theorem d_AdjoinedSetsModel_eval_7 : decode b_AdjoinedSetsModel_eval 7 = .ok (.istore_n 1, 1) := by decide +kernel
theorem d_AdjoinedSetsModel_eval_8 : decode b_AdjoinedSetsModel_eval 8 = .ok (.iload_n 1, 1) := by decide +kernel
theorem d_AdjoinedSetsModel_eval_9 : decode b_AdjoinedSetsModel_eval 9 = .ok (.ifCond .lt 12, 3) := by decide +kernel
theorem d_AdjoinedSetsModel_eval_12 : decode b_AdjoinedSetsModel_eval 12 = .ok (.ldc2_w 228, 3) := by decide +kernel
theorem d_AdjoinedSetsModel_eval_15 : decode b_AdjoinedSetsModel_eval 15 = .ok (.iload_n 1, 1) := by decide +kernel
theorem d_AdjoinedSetsModel_eval_16 : decode b_AdjoinedSetsModel_eval 16 = .ok (.i2l, 1) := by decide +kernel
theorem d_AdjoinedSetsModel_eval_17 : decode b_AdjoinedSetsModel_eval 17 = .ok (.lsub, 1) := by decide +kernel
theorem d_AdjoinedSetsModel_eval_18 : decode b_AdjoinedSetsModel_eval 18 = .ok (.goto 8, 3) := by decide +kernel
theorem d_AdjoinedSetsModel_eval_21 : decode b_AdjoinedSetsModel_eval 21 = .ok (.aload_n 0, 1) := by decide +kernel
theorem d_AdjoinedSetsModel_eval_22 : decode b_AdjoinedSetsModel_eval 22 = .ok (.iconst 0, 1) := by decide +kernel
theorem d_AdjoinedSetsModel_eval_23 : decode b_AdjoinedSetsModel_eval 23 = .ok (.invokevirtual 230, 3) := by decide +kernel
theorem d_AdjoinedSetsModel_eval_26 : decode b_AdjoinedSetsModel_eval 26 = .ok (.lstore_n 2, 1) := by decide +kernel
theorem d_AdjoinedSetsModel_eval_27 : decode b_AdjoinedSetsModel_eval 27 = .ok (.aload_n 0, 1) := by decide +kernel
theorem d_AdjoinedSetsModel_eval_28 : decode b_AdjoinedSetsModel_eval 28 = .ok (.iconst 0, 1) := by decide +kernel
theorem d_AdjoinedSetsModel_eval_29 : decode b_AdjoinedSetsModel_eval 29 = .ok (.putfield 124, 3) := by decide +kernel
theorem d_AdjoinedSetsModel_eval_32 : decode b_AdjoinedSetsModel_eval 32 = .ok (.lload_n 2, 1) := by decide +kernel
theorem d_AdjoinedSetsModel_eval_33 : decode b_AdjoinedSetsModel_eval 33 = .ok (.lreturn, 1) := by decide +kernel
def s_AdjoinedSetsModel_eval (x0 : Nat) (h : HP) : Option (Int64 × HP) :=
  (kd x0 9).bind fun _ =>
  (s_AdjoinedSetsModel_wrong x0 0 (-1) 0 h).bind fun q2 =>
  if q2.1 < 0 then (
    (kd x0 9).bind fun _ =>
    (s_AdjoinedSetsModel_work x0 0 q2.2).bind fun q5 =>
    (pI q5.2 x0 9 1 0).bind fun h7 =>
    some (q5.1, h7))
  else (
    (pI q2.2 x0 9 1 0).bind fun h9 =>
    some (((-100) - q2.1.toInt64), h9))
set_option maxHeartbeats 4000000 in
set_option maxRecDepth 100000 in
theorem c_AdjoinedSetsModel_eval (l : Launch) (g : GG) {x0 : Nat} {h : HP} {z : Int64 × HP} (hs : s_AdjoinedSetsModel_eval x0 h = some z) : Ct l g y_AdjoinedSetsModel_eval w_AdjoinedSetsModel_eval (rmS 6 133) [.ref (aD g x0)] h (some (.long z.1)) z.2 := by
  refine Ct.of (own := R_AdjoinedSetsModel) (by decide) rfl rfl (Nat.le_of_ble_eq_true rfl) ?_
  intro p e s m args below meth c ls C hl hw
  have hx := C.1
  have hb := C.2.1
  have hl : lv_has ls 4 [(0, .ref (aD g x0))] := hl
  unfold s_AdjoinedSetsModel_eval at hs
  refine lv_aload_n hx hb d_AdjoinedSetsModel_eval_0 rfl (lv_at hl 0 rfl) ?_
  refine lv_iconst (v := 0) hx hb d_AdjoinedSetsModel_eval_1 (by decide) ?_
  refine lv_iconst (v := (-1)) hx hb d_AdjoinedSetsModel_eval_2 (by decide) ?_
  refine lv_iconst (v := 0) hx hb d_AdjoinedSetsModel_eval_3 (by decide) ?_
  obtain ⟨_, e1, hs⟩ := ob hs
  obtain ⟨q2, e3, hs⟩ := ob hs
  refine pg_callV C hw hl.1 ml_AdjoinedSetsModel_156 e1 (As := [.int 0, .int (-1), .int 0]) (rest := []) (c_AdjoinedSetsModel_wrong l g e3) rfl (rm_ok (Nat.le_of_ble_eq_true rfl) (Nat.le_of_ble_eq_true rfl)) (Nat.le_of_ble_eq_true rfl) rfl (st1 := [.int q2.1]) rfl d_AdjoinedSetsModel_eval_4 (fun H locs hw => ?_)
  refine lv_istore_n hx hb d_AdjoinedSetsModel_eval_7 rfl hl (by decide) (lv' := [(1, .int q2.1), (0, .ref (aD g x0))]) rfl (fun ls hl => ?_)
  refine lv_iload_n hx hb d_AdjoinedSetsModel_eval_8 rfl (lv_at hl 0 rfl) ?_
  refine lv_if_lt hx hb d_AdjoinedSetsModel_eval_9 (tgt := 21) (by decide) (fun hc => ?_) (fun hc => ?_)
  · have hs := oi_t hc hs
    refine lv_aload_n hx hb d_AdjoinedSetsModel_eval_21 rfl (lv_at hl 1 rfl) ?_
    refine lv_iconst (v := 0) hx hb d_AdjoinedSetsModel_eval_22 (by decide) ?_
    obtain ⟨_, e4, hs⟩ := ob hs
    obtain ⟨q5, e6, hs⟩ := ob hs
    refine pg_callV C hw hl.1 ml_AdjoinedSetsModel_230 e4 (As := [.int 0]) (rest := []) (c_AdjoinedSetsModel_work l g e6) rfl (rm_ok (Nat.le_of_ble_eq_true rfl) (Nat.le_of_ble_eq_true rfl)) (Nat.le_of_ble_eq_true rfl) rfl (st1 := [.long q5.1]) rfl d_AdjoinedSetsModel_eval_23 (fun H locs hw => ?_)
    refine lv_lstore_n hx hb d_AdjoinedSetsModel_eval_26 rfl hl (by decide) (lv' := [(2, .long q5.1), (1, .int q2.1), (0, .ref (aD g x0))]) rfl (fun ls hl => ?_)
    refine lv_aload_n hx hb d_AdjoinedSetsModel_eval_27 rfl (lv_at hl 2 rfl) ?_
    refine lv_iconst (v := 0) hx hb d_AdjoinedSetsModel_eval_28 (by decide) ?_
    obtain ⟨h7, e8, hs⟩ := ob hs
    refine pg_putI C hw pl_AdjoinedSetsModel_124 e8 d_AdjoinedSetsModel_eval_29 (fun H locs hw => ?_)
    refine lv_lload_n hx hb d_AdjoinedSetsModel_eval_32 rfl (lv_at hl 0 rfl) ?_
    obtain rfl := Option.some.inj hs
    exact pg_lret C hw d_AdjoinedSetsModel_eval_33
  · have hs := oi_f hc hs
    refine lv_ldc2 (v := (-100)) hx hb C.own (C.w kc_AdjoinedSetsModel_228) d_AdjoinedSetsModel_eval_12 ?_
    refine lv_iload_n hx hb d_AdjoinedSetsModel_eval_15 rfl (lv_at hl 0 rfl) ?_
    refine lv_i2l (v := q2.1.toInt64) hx hb d_AdjoinedSetsModel_eval_16 rfl ?_
    refine lv_lsub hx hb d_AdjoinedSetsModel_eval_17 ?_
    refine lv_goto hx hb d_AdjoinedSetsModel_eval_18 (tgt := 26) (by decide) ?_
    refine lv_lstore_n hx hb d_AdjoinedSetsModel_eval_26 rfl hl (by decide) (lv' := [(2, .long ((-100) - q2.1.toInt64)), (1, .int q2.1), (0, .ref (aD g x0))]) rfl (fun ls hl => ?_)
    refine lv_aload_n hx hb d_AdjoinedSetsModel_eval_27 rfl (lv_at hl 2 rfl) ?_
    refine lv_iconst (v := 0) hx hb d_AdjoinedSetsModel_eval_28 (by decide) ?_
    obtain ⟨h9, e10, hs⟩ := ob hs
    refine pg_putI C hw pl_AdjoinedSetsModel_124 e10 d_AdjoinedSetsModel_eval_29 (fun H locs hw => ?_)
    refine lv_lload_n hx hb d_AdjoinedSetsModel_eval_32 rfl (lv_at hl 0 rfl) ?_
    obtain rfl := Option.some.inj hs
    exact pg_lret C hw d_AdjoinedSetsModel_eval_33

end
section
variable {p : Program} {l : Launch} {e : Env} {s : State} {m : MethodId} {args : Array Value} {below : List Frame} {meth : Method} {c : Code} {g : GG}
theorem d_AdjoinedSetsModel_define_0 : decode b_AdjoinedSetsModel_define 0 = .ok (.iload_n 1, 1) := by decide +kernel
theorem d_AdjoinedSetsModel_define_1 : decode b_AdjoinedSetsModel_define 1 = .ok (.ifCond .lt 27, 3) := by decide +kernel
theorem d_AdjoinedSetsModel_define_4 : decode b_AdjoinedSetsModel_define 4 = .ok (.iload_n 1, 1) := by decide +kernel
theorem d_AdjoinedSetsModel_define_5 : decode b_AdjoinedSetsModel_define 5 = .ok (.iconst 3, 1) := by decide +kernel
theorem d_AdjoinedSetsModel_define_6 : decode b_AdjoinedSetsModel_define 6 = .ok (.if_icmp .gt 22, 3) := by decide +kernel
theorem d_AdjoinedSetsModel_define_9 : decode b_AdjoinedSetsModel_define 9 = .ok (.aload_n 0, 1) := by decide +kernel
theorem d_AdjoinedSetsModel_define_10 : decode b_AdjoinedSetsModel_define 10 = .ok (.getfield 17, 3) := by decide +kernel
theorem d_AdjoinedSetsModel_define_13 : decode b_AdjoinedSetsModel_define 13 = .ok (.iload_n 1, 1) := by decide +kernel
theorem d_AdjoinedSetsModel_define_14 : decode b_AdjoinedSetsModel_define 14 = .ok (.iaload, 1) := by decide +kernel
theorem d_AdjoinedSetsModel_define_15 : decode b_AdjoinedSetsModel_define 15 = .ok (.ifCond .gt 13, 3) := by decide +kernel
theorem d_AdjoinedSetsModel_define_18 : decode b_AdjoinedSetsModel_define 18 = .ok (.iload_n 2, 1) := by decide +kernel
theorem d_AdjoinedSetsModel_define_19 : decode b_AdjoinedSetsModel_define 19 = .ok (.iconst 1, 1) := by decide +kernel
theorem d_AdjoinedSetsModel_define_20 : decode b_AdjoinedSetsModel_define 20 = .ok (.if_icmp .lt 8, 3) := by decide +kernel
theorem d_AdjoinedSetsModel_define_23 : decode b_AdjoinedSetsModel_define 23 = .ok (.iload_n 2, 1) := by decide +kernel
theorem d_AdjoinedSetsModel_define_24 : decode b_AdjoinedSetsModel_define 24 = .ok (.iconst 3, 1) := by decide +kernel
theorem d_AdjoinedSetsModel_define_25 : decode b_AdjoinedSetsModel_define 25 = .ok (.if_icmp .le 5, 3) := by decide +kernel
theorem d_AdjoinedSetsModel_define_28 : decode b_AdjoinedSetsModel_define 28 = .ok (.iconst (-1), 1) := by decide +kernel
theorem d_AdjoinedSetsModel_define_29 : decode b_AdjoinedSetsModel_define 29 = .ok (.ireturn, 1) := by decide +kernel
theorem d_AdjoinedSetsModel_define_30 : decode b_AdjoinedSetsModel_define 30 = .ok (.aload_n 0, 1) := by decide +kernel
theorem d_AdjoinedSetsModel_define_31 : decode b_AdjoinedSetsModel_define 31 = .ok (.getfield 17, 3) := by decide +kernel
theorem d_AdjoinedSetsModel_define_34 : decode b_AdjoinedSetsModel_define 34 = .ok (.iload_n 1, 1) := by decide +kernel
theorem d_AdjoinedSetsModel_define_35 : decode b_AdjoinedSetsModel_define 35 = .ok (.iload_n 2, 1) := by decide +kernel
theorem d_AdjoinedSetsModel_define_36 : decode b_AdjoinedSetsModel_define 36 = .ok (.iastore, 1) := by decide +kernel
theorem d_AdjoinedSetsModel_define_37 : decode b_AdjoinedSetsModel_define 37 = .ok (.aload_n 0, 1) := by decide +kernel
theorem d_AdjoinedSetsModel_define_38 : decode b_AdjoinedSetsModel_define 38 = .ok (.iconst 0, 1) := by decide +kernel
theorem d_AdjoinedSetsModel_define_39 : decode b_AdjoinedSetsModel_define 39 = .ok (.iload_n 1, 1) := by decide +kernel
theorem d_AdjoinedSetsModel_define_40 : decode b_AdjoinedSetsModel_define 40 = .ok (.iload_n 2, 1) := by decide +kernel
theorem d_AdjoinedSetsModel_define_41 : decode b_AdjoinedSetsModel_define 41 = .ok (.invokevirtual 156, 3) := by decide +kernel
theorem d_AdjoinedSetsModel_define_44 : decode b_AdjoinedSetsModel_define 44 = .ok (.istore_n 3, 1) := by decide +kernel
theorem d_AdjoinedSetsModel_define_45 : decode b_AdjoinedSetsModel_define 45 = .ok (.iload_n 3, 1) := by decide +kernel
theorem d_AdjoinedSetsModel_define_46 : decode b_AdjoinedSetsModel_define 46 = .ok (.ifCond .lt 13, 3) := by decide +kernel
theorem d_AdjoinedSetsModel_define_49 : decode b_AdjoinedSetsModel_define 49 = .ok (.aload_n 0, 1) := by decide +kernel
theorem d_AdjoinedSetsModel_define_50 : decode b_AdjoinedSetsModel_define 50 = .ok (.getfield 17, 3) := by decide +kernel
theorem d_AdjoinedSetsModel_define_53 : decode b_AdjoinedSetsModel_define 53 = .ok (.iload_n 1, 1) := by decide +kernel
theorem d_AdjoinedSetsModel_define_54 : decode b_AdjoinedSetsModel_define 54 = .ok (.iconst 0, 1) := by decide +kernel
theorem d_AdjoinedSetsModel_define_55 : decode b_AdjoinedSetsModel_define 55 = .ok (.iastore, 1) := by decide +kernel
theorem d_AdjoinedSetsModel_define_56 : decode b_AdjoinedSetsModel_define 56 = .ok (.goto 44, 3) := by decide +kernel
theorem d_AdjoinedSetsModel_define_59 : decode b_AdjoinedSetsModel_define 59 = .ok (.iconst 0, 1) := by decide +kernel
theorem d_AdjoinedSetsModel_define_60 : decode b_AdjoinedSetsModel_define 60 = .ok (.istore 4, 2) := by decide +kernel
theorem d_AdjoinedSetsModel_define_62 : decode b_AdjoinedSetsModel_define 62 = .ok (.iload 4, 2) := by decide +kernel
theorem d_AdjoinedSetsModel_define_64 : decode b_AdjoinedSetsModel_define 64 = .ok (.aload_n 0, 1) := by decide +kernel
theorem d_AdjoinedSetsModel_define_65 : decode b_AdjoinedSetsModel_define 65 = .ok (.getfield 124, 3) := by decide +kernel
theorem d_AdjoinedSetsModel_define_68 : decode b_AdjoinedSetsModel_define 68 = .ok (.if_icmp .ge 32, 3) := by decide +kernel
theorem d_AdjoinedSetsModel_define_71 : decode b_AdjoinedSetsModel_define 71 = .ok (.aload_n 0, 1) := by decide +kernel
theorem d_AdjoinedSetsModel_define_72 : decode b_AdjoinedSetsModel_define 72 = .ok (.getfield 7, 3) := by decide +kernel
theorem d_AdjoinedSetsModel_define_75 : decode b_AdjoinedSetsModel_define 75 = .ok (.sipush 1100, 3) := by decide +kernel
theorem d_AdjoinedSetsModel_define_78 : decode b_AdjoinedSetsModel_define 78 = .ok (.bipush 60, 2) := by decide +kernel
theorem d_AdjoinedSetsModel_define_80 : decode b_AdjoinedSetsModel_define 80 = .ok (.iload_n 1, 1) := by decide +kernel
theorem d_AdjoinedSetsModel_define_81 : decode b_AdjoinedSetsModel_define 81 = .ok (.imul, 1) := by decide +kernel
theorem d_AdjoinedSetsModel_define_82 : decode b_AdjoinedSetsModel_define 82 = .ok (.iadd, 1) := by decide +kernel
theorem d_AdjoinedSetsModel_define_83 : decode b_AdjoinedSetsModel_define 83 = .ok (.iload 4, 2) := by decide +kernel
theorem d_AdjoinedSetsModel_define_85 : decode b_AdjoinedSetsModel_define 85 = .ok (.iadd, 1) := by decide +kernel
theorem d_AdjoinedSetsModel_define_86 : decode b_AdjoinedSetsModel_define 86 = .ok (.aload_n 0, 1) := by decide +kernel
theorem d_AdjoinedSetsModel_define_87 : decode b_AdjoinedSetsModel_define 87 = .ok (.getfield 7, 3) := by decide +kernel
theorem d_AdjoinedSetsModel_define_90 : decode b_AdjoinedSetsModel_define 90 = .ok (.iload 4, 2) := by decide +kernel
theorem d_AdjoinedSetsModel_define_92 : decode b_AdjoinedSetsModel_define 92 = .ok (.iaload, 1) := by decide +kernel
theorem d_AdjoinedSetsModel_define_93 : decode b_AdjoinedSetsModel_define 93 = .ok (.iastore, 1) := by decide +kernel
theorem d_AdjoinedSetsModel_define_94 : decode b_AdjoinedSetsModel_define 94 = .ok (.iinc 4 1, 3) := by decide +kernel
theorem d_AdjoinedSetsModel_define_97 : decode b_AdjoinedSetsModel_define 97 = .ok (.goto (-35), 3) := by decide +kernel
theorem d_AdjoinedSetsModel_define_100 : decode b_AdjoinedSetsModel_define 100 = .ok (.aload_n 0, 1) := by decide +kernel
theorem d_AdjoinedSetsModel_define_101 : decode b_AdjoinedSetsModel_define 101 = .ok (.iconst 0, 1) := by decide +kernel
theorem d_AdjoinedSetsModel_define_102 : decode b_AdjoinedSetsModel_define 102 = .ok (.putfield 124, 3) := by decide +kernel
theorem d_AdjoinedSetsModel_define_105 : decode b_AdjoinedSetsModel_define 105 = .ok (.iload_n 3, 1) := by decide +kernel
theorem d_AdjoinedSetsModel_define_106 : decode b_AdjoinedSetsModel_define 106 = .ok (.ifCond .lt 10, 3) := by decide +kernel
theorem d_AdjoinedSetsModel_define_109 : decode b_AdjoinedSetsModel_define 109 = .ok (.bipush (-100), 2) := by decide +kernel
theorem d_AdjoinedSetsModel_define_111 : decode b_AdjoinedSetsModel_define 111 = .ok (.iload_n 3, 1) := by decide +kernel
theorem d_AdjoinedSetsModel_define_112 : decode b_AdjoinedSetsModel_define 112 = .ok (.isub, 1) := by decide +kernel
theorem d_AdjoinedSetsModel_define_113 : decode b_AdjoinedSetsModel_define 113 = .ok (.goto 4, 3) := by decide +kernel
theorem d_AdjoinedSetsModel_define_116 : decode b_AdjoinedSetsModel_define 116 = .ok (.iconst 0, 1) := by decide +kernel
theorem d_AdjoinedSetsModel_define_117 : decode b_AdjoinedSetsModel_define 117 = .ok (.ireturn, 1) := by decide +kernel
def s_AdjoinedSetsModel_define_100 (x0 : Nat) (x3 : Int32) (h : HP) : Option (Int32 × HP) :=
  (pI h x0 9 1 0).bind fun h1 =>
  if x3 < 0 then (
    some (0, h1))
  else (
    some (((-100) - x3), h1))
set_option maxHeartbeats 4000000 in
set_option maxRecDepth 100000 in
theorem k_AdjoinedSetsModel_define_100 {x0 : Nat} {x3 : Int32} {h : HP} {z : Int32 × HP} (C : CX g R_AdjoinedSetsModel b_AdjoinedSetsModel_define 5 (some .int) p s m args meth c) {H : Heap} {locs : List Loc} {ls : Array Slot} (hw : WD g h s.heap H locs) (hl : lv_has ls 5 [(0, .ref (aD g x0)), (3, .int x3)]) (hs : s_AdjoinedSetsModel_define_100 x0 x3 h = some z) : W p l e (rmS 4 96) s m args below meth c H locs 0 0 (MQ below (Qq g (some (.int z.1)) z.2) args s 0 0 (inA g)) (F0 m 100 ls []) := by
  unfold s_AdjoinedSetsModel_define_100 at hs
  have hx := C.1
  have hb := C.2.1
  refine lv_aload_n hx hb d_AdjoinedSetsModel_define_100 rfl (lv_at hl 0 rfl) ?_
  refine lv_iconst (v := 0) hx hb d_AdjoinedSetsModel_define_101 (by decide) ?_
  obtain ⟨h1, e2, hs⟩ := ob hs
  refine pg_putI C hw pl_AdjoinedSetsModel_124 e2 d_AdjoinedSetsModel_define_102 (fun H locs hw => ?_)
  refine lv_iload_n hx hb d_AdjoinedSetsModel_define_105 rfl (lv_at hl 1 rfl) ?_
  refine lv_if_lt hx hb d_AdjoinedSetsModel_define_106 (tgt := 116) (by decide) (fun hc => ?_) (fun hc => ?_)
  · have hs := oi_t hc hs
    refine lv_iconst (v := 0) hx hb d_AdjoinedSetsModel_define_116 (by decide) ?_
    obtain rfl := Option.some.inj hs
    exact pg_iret C hw d_AdjoinedSetsModel_define_117
  · have hs := oi_f hc hs
    refine lv_bipush (v := (-100)) hx hb d_AdjoinedSetsModel_define_109 (by decide) ?_
    refine lv_iload_n hx hb d_AdjoinedSetsModel_define_111 rfl (lv_at hl 1 rfl) ?_
    refine lv_isub hx hb d_AdjoinedSetsModel_define_112 ?_
    refine lv_goto hx hb d_AdjoinedSetsModel_define_113 (tgt := 117) (by decide) ?_
    obtain rfl := Option.some.inj hs
    exact pg_iret C hw d_AdjoinedSetsModel_define_117

def s_AdjoinedSetsModel_define_62 : Nat → Nat → Int32 → Int32 → Int32 → HP → Option (Int32 × HP)
  | 0 => fun _ _ _ _ _ => none
  | k + 1 => fun x0 x1 x3 x4 h =>
  (gI h x0 9 1).bind fun v1 =>
  if v1 ≤ x4 then (
    s_AdjoinedSetsModel_define_100 x0 x3 h)
  else (
    (gR h x0 9 0).bind fun v3 =>
    (gR h x0 9 0).bind fun v5 =>
    (aI h v5 0 x4).bind fun v7 =>
    (uI h v3 0 ((1100 + (60 * x1)) + x4) v7).bind fun h9 =>
    (s_AdjoinedSetsModel_define_62 k) x0 x1 x3 (x4 + 1) h9)
set_option maxHeartbeats 4000000 in
set_option maxRecDepth 100000 in
theorem k_AdjoinedSetsModel_define_62 {z : Int32 × HP} (C : CX g R_AdjoinedSetsModel b_AdjoinedSetsModel_define 5 (some .int) p s m args meth c) : ∀ (k : Nat) {x0 : Nat} {x1 : Int32} {x3 : Int32} {x4 : Int32} {h : HP} {H : Heap} {locs : List Loc} {ls : Array Slot}, WD g h s.heap H locs → lv_has ls 5 [(0, .ref (aD g x0)), (1, .int x1), (3, .int x3), (4, .int x4)] → s_AdjoinedSetsModel_define_62 k x0 x1 x3 x4 h = some z → W p l e (rmS 4 96) s m args below meth c H locs 0 0 (MQ below (Qq g (some (.int z.1)) z.2) args s 0 0 (inA g)) (F0 m 62 ls []) := by
  have hx := C.1
  have hb := C.2.1
  intro k
  induction k with
  | zero =>
    intro x0 x1 x3 x4 h H locs ls hw hl hs
    exact (no_s hs).elim
  | succ k ih =>
    intro x0 x1 x3 x4 h H locs ls hw hl hs
    rw [s_AdjoinedSetsModel_define_62] at hs
    refine lv_iload hx hb d_AdjoinedSetsModel_define_62 (lv_at hl 3 rfl) ?_
    refine lv_aload_n hx hb d_AdjoinedSetsModel_define_64 rfl (lv_at hl 0 rfl) ?_
    obtain ⟨v1, e2, hs⟩ := ob hs
    refine pg_getI C hw fl_AdjoinedSetsModel_124 e2 d_AdjoinedSetsModel_define_65 ?_
    refine lv_icmp_ge hx hb d_AdjoinedSetsModel_define_68 (tgt := 100) (by decide) (fun hc => ?_) (fun hc => ?_)
    · have hs := oi_t hc hs
      exact k_AdjoinedSetsModel_define_100 C hw (lv_sub hl [0, 2] rfl) hs
    · have hs := oi_f hc hs
      refine lv_aload_n hx hb d_AdjoinedSetsModel_define_71 rfl (lv_at hl 0 rfl) ?_
      obtain ⟨v3, e4, hs⟩ := ob hs
      refine pg_getR C hw fl_AdjoinedSetsModel_7 e4 d_AdjoinedSetsModel_define_72 ?_
      refine lv_sipush (v := 1100) hx hb d_AdjoinedSetsModel_define_75 (by decide) ?_
      refine lv_bipush (v := 60) hx hb d_AdjoinedSetsModel_define_78 (by decide) ?_
      refine lv_iload_n hx hb d_AdjoinedSetsModel_define_80 rfl (lv_at hl 1 rfl) ?_
      refine lv_imul hx hb d_AdjoinedSetsModel_define_81 ?_
      refine lv_iadd hx hb d_AdjoinedSetsModel_define_82 ?_
      refine lv_iload hx hb d_AdjoinedSetsModel_define_83 (lv_at hl 3 rfl) ?_
      refine lv_iadd hx hb d_AdjoinedSetsModel_define_85 ?_
      refine lv_aload_n hx hb d_AdjoinedSetsModel_define_86 rfl (lv_at hl 0 rfl) ?_
      obtain ⟨v5, e6, hs⟩ := ob hs
      refine pg_getR C hw fl_AdjoinedSetsModel_7 e6 d_AdjoinedSetsModel_define_87 ?_
      refine lv_iload hx hb d_AdjoinedSetsModel_define_90 (lv_at hl 3 rfl) ?_
      obtain ⟨v7, e8, hs⟩ := ob hs
      refine pg_iaload C hw (t0 := 0) rfl e8 d_AdjoinedSetsModel_define_92 ?_
      obtain ⟨h9, e10, hs⟩ := ob hs
      refine pg_iastore C hw (t0 := 0) rfl e10 d_AdjoinedSetsModel_define_93 (fun H locs hw => ?_)
      refine lv_iinc hx hb d_AdjoinedSetsModel_define_94 hl (k := 3) rfl (v := (x4 + 1)) (iinc_e _ (by decide)) (by decide) (lv' := [(4, .int (x4 + 1)), (0, .ref (aD g x0)), (1, .int x1), (3, .int x3)]) rfl (fun ls hl => ?_)
      refine lv_goto hx hb d_AdjoinedSetsModel_define_97 (tgt := 62) (by decide) ?_
      exact ih hw (lv_sub hl [1, 2, 3, 0] rfl) hs

def s_AdjoinedSetsModel_define (x0 : Nat) (x1 : Int32) (x2 : Int32) (h : HP) : Option (Int32 × HP) :=
  if x1 < 0 then (
    some ((-1), h))
  else (
    if 3 < x1 then (
      some ((-1), h))
    else (
      (gR h x0 9 3).bind fun v1 =>
      (aI h v1 0 x1).bind fun v3 =>
      if 0 < v3 then (
        some ((-1), h))
      else (
        if x2 < 1 then (
          some ((-1), h))
        else (
          if x2 ≤ 3 then (
            (gR h x0 9 3).bind fun v5 =>
            (uI h v5 0 x1 x2).bind fun h7 =>
            (kd x0 9).bind fun _ =>
            (s_AdjoinedSetsModel_wrong x0 0 x1 x2 h7).bind fun q10 =>
            if q10.1 < 0 then (
              s_AdjoinedSetsModel_define_62 20000 x0 x1 q10.1 0 q10.2)
            else (
              (gR q10.2 x0 9 3).bind fun v12 =>
              (uI q10.2 v12 0 x1 0).bind fun h14 =>
              s_AdjoinedSetsModel_define_100 x0 q10.1 h14))
          else (
            some ((-1), h))))))
set_option maxHeartbeats 4000000 in
set_option maxRecDepth 100000 in
theorem c_AdjoinedSetsModel_define (l : Launch) (g : GG) {x0 : Nat} {x1 : Int32} {x2 : Int32} {h : HP} {z : Int32 × HP} (hs : s_AdjoinedSetsModel_define x0 x1 x2 h = some z) : Ct l g y_AdjoinedSetsModel_define w_AdjoinedSetsModel_define (rmS 4 96) [.ref (aD g x0), .int x1, .int x2] h (some (.int z.1)) z.2 := by
  refine Ct.of (own := R_AdjoinedSetsModel) (by decide) rfl rfl (Nat.le_of_ble_eq_true rfl) ?_
  intro p e s m args below meth c ls C hl hw
  have hx := C.1
  have hb := C.2.1
  have hl : lv_has ls 5 [(0, .ref (aD g x0)), (1, .int x1), (2, .int x2)] := hl
  unfold s_AdjoinedSetsModel_define at hs
  refine lv_iload_n hx hb d_AdjoinedSetsModel_define_0 rfl (lv_at hl 1 rfl) ?_
  refine lv_if_lt hx hb d_AdjoinedSetsModel_define_1 (tgt := 28) (by decide) (fun hc => ?_) (fun hc => ?_)
  · have hs := oi_t hc hs
    refine lv_iconst (v := (-1)) hx hb d_AdjoinedSetsModel_define_28 (by decide) ?_
    obtain rfl := Option.some.inj hs
    exact pg_iret C hw d_AdjoinedSetsModel_define_29
  · have hs := oi_f hc hs
    refine lv_iload_n hx hb d_AdjoinedSetsModel_define_4 rfl (lv_at hl 1 rfl) ?_
    refine lv_iconst (v := 3) hx hb d_AdjoinedSetsModel_define_5 (by decide) ?_
    refine lv_icmp_gt hx hb d_AdjoinedSetsModel_define_6 (tgt := 28) (by decide) (fun hc => ?_) (fun hc => ?_)
    · have hs := oi_t hc hs
      refine lv_iconst (v := (-1)) hx hb d_AdjoinedSetsModel_define_28 (by decide) ?_
      obtain rfl := Option.some.inj hs
      exact pg_iret C hw d_AdjoinedSetsModel_define_29
    · have hs := oi_f hc hs
      refine lv_aload_n hx hb d_AdjoinedSetsModel_define_9 rfl (lv_at hl 0 rfl) ?_
      obtain ⟨v1, e2, hs⟩ := ob hs
      refine pg_getR C hw fl_AdjoinedSetsModel_17 e2 d_AdjoinedSetsModel_define_10 ?_
      refine lv_iload_n hx hb d_AdjoinedSetsModel_define_13 rfl (lv_at hl 1 rfl) ?_
      obtain ⟨v3, e4, hs⟩ := ob hs
      refine pg_iaload C hw (t0 := 0) rfl e4 d_AdjoinedSetsModel_define_14 ?_
      refine lv_if_gt hx hb d_AdjoinedSetsModel_define_15 (tgt := 28) (by decide) (fun hc => ?_) (fun hc => ?_)
      · have hs := oi_t hc hs
        refine lv_iconst (v := (-1)) hx hb d_AdjoinedSetsModel_define_28 (by decide) ?_
        obtain rfl := Option.some.inj hs
        exact pg_iret C hw d_AdjoinedSetsModel_define_29
      · have hs := oi_f hc hs
        refine lv_iload_n hx hb d_AdjoinedSetsModel_define_18 rfl (lv_at hl 2 rfl) ?_
        refine lv_iconst (v := 1) hx hb d_AdjoinedSetsModel_define_19 (by decide) ?_
        refine lv_icmp_lt hx hb d_AdjoinedSetsModel_define_20 (tgt := 28) (by decide) (fun hc => ?_) (fun hc => ?_)
        · have hs := oi_t hc hs
          refine lv_iconst (v := (-1)) hx hb d_AdjoinedSetsModel_define_28 (by decide) ?_
          obtain rfl := Option.some.inj hs
          exact pg_iret C hw d_AdjoinedSetsModel_define_29
        · have hs := oi_f hc hs
          refine lv_iload_n hx hb d_AdjoinedSetsModel_define_23 rfl (lv_at hl 2 rfl) ?_
          refine lv_iconst (v := 3) hx hb d_AdjoinedSetsModel_define_24 (by decide) ?_
          refine lv_icmp_le hx hb d_AdjoinedSetsModel_define_25 (tgt := 30) (by decide) (fun hc => ?_) (fun hc => ?_)
          · have hs := oi_t hc hs
            refine lv_aload_n hx hb d_AdjoinedSetsModel_define_30 rfl (lv_at hl 0 rfl) ?_
            obtain ⟨v5, e6, hs⟩ := ob hs
            refine pg_getR C hw fl_AdjoinedSetsModel_17 e6 d_AdjoinedSetsModel_define_31 ?_
            refine lv_iload_n hx hb d_AdjoinedSetsModel_define_34 rfl (lv_at hl 1 rfl) ?_
            refine lv_iload_n hx hb d_AdjoinedSetsModel_define_35 rfl (lv_at hl 2 rfl) ?_
            obtain ⟨h7, e8, hs⟩ := ob hs
            refine pg_iastore C hw (t0 := 0) rfl e8 d_AdjoinedSetsModel_define_36 (fun H locs hw => ?_)
            refine lv_aload_n hx hb d_AdjoinedSetsModel_define_37 rfl (lv_at hl 0 rfl) ?_
            refine lv_iconst (v := 0) hx hb d_AdjoinedSetsModel_define_38 (by decide) ?_
            refine lv_iload_n hx hb d_AdjoinedSetsModel_define_39 rfl (lv_at hl 1 rfl) ?_
            refine lv_iload_n hx hb d_AdjoinedSetsModel_define_40 rfl (lv_at hl 2 rfl) ?_
            obtain ⟨_, e9, hs⟩ := ob hs
            obtain ⟨q10, e11, hs⟩ := ob hs
            refine pg_callV C hw hl.1 ml_AdjoinedSetsModel_156 e9 (As := [.int 0, .int x1, .int x2]) (rest := []) (c_AdjoinedSetsModel_wrong l g e11) rfl (rm_ok (Nat.le_of_ble_eq_true rfl) (Nat.le_of_ble_eq_true rfl)) (Nat.le_of_ble_eq_true rfl) rfl (st1 := [.int q10.1]) rfl d_AdjoinedSetsModel_define_41 (fun H locs hw => ?_)
            refine lv_istore_n hx hb d_AdjoinedSetsModel_define_44 rfl hl (by decide) (lv' := [(3, .int q10.1), (0, .ref (aD g x0)), (1, .int x1), (2, .int x2)]) rfl (fun ls hl => ?_)
            refine lv_iload_n hx hb d_AdjoinedSetsModel_define_45 rfl (lv_at hl 0 rfl) ?_
            refine lv_if_lt hx hb d_AdjoinedSetsModel_define_46 (tgt := 59) (by decide) (fun hc => ?_) (fun hc => ?_)
            · have hs := oi_t hc hs
              refine lv_iconst (v := 0) hx hb d_AdjoinedSetsModel_define_59 (by decide) ?_
              refine lv_istore hx hb d_AdjoinedSetsModel_define_60 hl (by decide) (lv' := [(4, .int 0), (3, .int q10.1), (0, .ref (aD g x0)), (1, .int x1), (2, .int x2)]) rfl (fun ls hl => ?_)
              exact k_AdjoinedSetsModel_define_62 C 20000 hw (lv_sub hl [2, 3, 1, 0] rfl) hs
            · have hs := oi_f hc hs
              refine lv_aload_n hx hb d_AdjoinedSetsModel_define_49 rfl (lv_at hl 1 rfl) ?_
              obtain ⟨v12, e13, hs⟩ := ob hs
              refine pg_getR C hw fl_AdjoinedSetsModel_17 e13 d_AdjoinedSetsModel_define_50 ?_
              refine lv_iload_n hx hb d_AdjoinedSetsModel_define_53 rfl (lv_at hl 2 rfl) ?_
              refine lv_iconst (v := 0) hx hb d_AdjoinedSetsModel_define_54 (by decide) ?_
              obtain ⟨h14, e15, hs⟩ := ob hs
              refine pg_iastore C hw (t0 := 0) rfl e15 d_AdjoinedSetsModel_define_55 (fun H locs hw => ?_)
              refine lv_goto hx hb d_AdjoinedSetsModel_define_56 (tgt := 100) (by decide) ?_
              exact k_AdjoinedSetsModel_define_100 C hw (lv_sub hl [1, 0] rfl) hs
          · have hs := oi_f hc hs
            refine lv_iconst (v := (-1)) hx hb d_AdjoinedSetsModel_define_28 (by decide) ?_
            obtain rfl := Option.some.inj hs
            exact pg_iret C hw d_AdjoinedSetsModel_define_29

end
section
variable {p : Program} {l : Launch} {e : Env} {s : State} {m : MethodId} {args : Array Value} {below : List Frame} {meth : Method} {c : Code} {g : GG}
theorem d_AdjoinedSetsModel_let_0 : decode b_AdjoinedSetsModel_let 0 = .ok (.iload_n 1, 1) := by decide +kernel
theorem d_AdjoinedSetsModel_let_1 : decode b_AdjoinedSetsModel_let 1 = .ok (.ifCond .lt 16, 3) := by decide +kernel
theorem d_AdjoinedSetsModel_let_4 : decode b_AdjoinedSetsModel_let 4 = .ok (.iload_n 1, 1) := by decide +kernel
theorem d_AdjoinedSetsModel_let_5 : decode b_AdjoinedSetsModel_let 5 = .ok (.bipush 7, 2) := by decide +kernel
theorem d_AdjoinedSetsModel_let_7 : decode b_AdjoinedSetsModel_let 7 = .ok (.if_icmp .gt 10, 3) := by decide +kernel
theorem d_AdjoinedSetsModel_let_10 : decode b_AdjoinedSetsModel_let 10 = .ok (.lload_n 2, 1) := by decide +kernel
theorem d_AdjoinedSetsModel_let_11 : decode b_AdjoinedSetsModel_let 11 = .ok (.invokestatic 128, 3) := by decide +kernel
theorem d_AdjoinedSetsModel_let_14 : decode b_AdjoinedSetsModel_let 14 = .ok (.ifCond .ne 5, 3) := by decide +kernel
theorem d_AdjoinedSetsModel_let_17 : decode b_AdjoinedSetsModel_let 17 = .ok (.iconst 0, 1) := by decide +kernel
theorem d_AdjoinedSetsModel_let_18 : decode b_AdjoinedSetsModel_let 18 = .ok (.ireturn, 1) := by decide +kernel
theorem d_AdjoinedSetsModel_let_19 : decode b_AdjoinedSetsModel_let 19 = .ok (.aload_n 0, 1) := by decide +kernel
theorem d_AdjoinedSetsModel_let_20 : decode b_AdjoinedSetsModel_let 20 = .ok (.getfield 13, 3) := by decide +kernel
theorem d_AdjoinedSetsModel_let_23 : decode b_AdjoinedSetsModel_let 23 = .ok (.iload_n 1, 1) := by decide +kernel
theorem d_AdjoinedSetsModel_let_24 : decode b_AdjoinedSetsModel_let 24 = .ok (.lload_n 2, 1) := by decide +kernel
theorem d_AdjoinedSetsModel_let_25 : decode b_AdjoinedSetsModel_let 25 = .ok (.lastore, 1) := by decide +kernel
theorem d_AdjoinedSetsModel_let_26 : decode b_AdjoinedSetsModel_let 26 = .ok (.iconst 1, 1) := by decide +kernel
theorem d_AdjoinedSetsModel_let_27 : decode b_AdjoinedSetsModel_let 27 = .ok (.ireturn, 1) := by decide +kernel
def s_AdjoinedSetsModel_let (x0 : Nat) (x1 : Int32) (x2 : Int64) (h : HP) : Option (Int32 × HP) :=
  if x1 < 0 then (
    some (0, h))
  else (
    if 7 < x1 then (
      some (0, h))
    else (
      (s_AdjoinedSetsModel_isCode x2).bind fun q3 =>
      if q3 = 0 then (
        some (0, h))
      else (
        (gR h x0 9 2).bind fun v5 =>
        (uL h v5 2 x1 x2).bind fun h7 =>
        some (1, h7))))
set_option maxHeartbeats 4000000 in
set_option maxRecDepth 100000 in
theorem c_AdjoinedSetsModel_let (l : Launch) (g : GG) {x0 : Nat} {x1 : Int32} {x2 : Int64} {h : HP} {z : Int32 × HP} (hs : s_AdjoinedSetsModel_let x0 x1 x2 h = some z) : Ct l g y_AdjoinedSetsModel_let w_AdjoinedSetsModel_let (rmS 1 21) [.ref (aD g x0), .int x1, .long x2] h (some (.int z.1)) z.2 := by
  refine Ct.of (own := R_AdjoinedSetsModel) (by decide) rfl rfl (Nat.le_of_ble_eq_true rfl) ?_
  intro p e s m args below meth c ls C hl hw
  have hx := C.1
  have hb := C.2.1
  have hl : lv_has ls 4 [(0, .ref (aD g x0)), (1, .int x1), (2, .long x2)] := hl
  unfold s_AdjoinedSetsModel_let at hs
  refine lv_iload_n hx hb d_AdjoinedSetsModel_let_0 rfl (lv_at hl 1 rfl) ?_
  refine lv_if_lt hx hb d_AdjoinedSetsModel_let_1 (tgt := 17) (by decide) (fun hc => ?_) (fun hc => ?_)
  · have hs := oi_t hc hs
    refine lv_iconst (v := 0) hx hb d_AdjoinedSetsModel_let_17 (by decide) ?_
    obtain rfl := Option.some.inj hs
    exact pg_zret (v := 0) C hw rfl d_AdjoinedSetsModel_let_18
  · have hs := oi_f hc hs
    refine lv_iload_n hx hb d_AdjoinedSetsModel_let_4 rfl (lv_at hl 1 rfl) ?_
    refine lv_bipush (v := 7) hx hb d_AdjoinedSetsModel_let_5 (by decide) ?_
    refine lv_icmp_gt hx hb d_AdjoinedSetsModel_let_7 (tgt := 17) (by decide) (fun hc => ?_) (fun hc => ?_)
    · have hs := oi_t hc hs
      refine lv_iconst (v := 0) hx hb d_AdjoinedSetsModel_let_17 (by decide) ?_
      obtain rfl := Option.some.inj hs
      exact pg_zret (v := 0) C hw rfl d_AdjoinedSetsModel_let_18
    · have hs := oi_f hc hs
      refine lv_lload_n hx hb d_AdjoinedSetsModel_let_10 rfl (lv_at hl 2 rfl) ?_
      obtain ⟨q3, e4, hs⟩ := ob hs
      refine pg_callS C hw hl.1 ml_AdjoinedSetsModel_128 (As := [.long x2]) (rest := []) (c_AdjoinedSetsModel_isCode l g e4) rfl (rm_ok (Nat.le_of_ble_eq_true rfl) (Nat.le_of_ble_eq_true rfl)) (Nat.le_of_ble_eq_true rfl) rfl (st1 := [.int q3]) rfl d_AdjoinedSetsModel_let_11 (fun H locs hw => ?_)
      refine lv_if_ne hx hb d_AdjoinedSetsModel_let_14 (tgt := 19) (by decide) (fun hc => ?_) (fun hc => ?_)
      · have hs := oi_f hc hs
        refine lv_aload_n hx hb d_AdjoinedSetsModel_let_19 rfl (lv_at hl 0 rfl) ?_
        obtain ⟨v5, e6, hs⟩ := ob hs
        refine pg_getR C hw fl_AdjoinedSetsModel_13 e6 d_AdjoinedSetsModel_let_20 ?_
        refine lv_iload_n hx hb d_AdjoinedSetsModel_let_23 rfl (lv_at hl 1 rfl) ?_
        refine lv_lload_n hx hb d_AdjoinedSetsModel_let_24 rfl (lv_at hl 2 rfl) ?_
        obtain ⟨h7, e8, hs⟩ := ob hs
        refine pg_lastore C hw (t0 := 2) rfl e8 d_AdjoinedSetsModel_let_25 (fun H locs hw => ?_)
        refine lv_iconst (v := 1) hx hb d_AdjoinedSetsModel_let_26 (by decide) ?_
        obtain rfl := Option.some.inj hs
        exact pg_zret (v := 1) C hw rfl d_AdjoinedSetsModel_let_27
      · have hs := oi_t hc hs
        refine lv_iconst (v := 0) hx hb d_AdjoinedSetsModel_let_17 (by decide) ?_
        obtain rfl := Option.some.inj hs
        exact pg_zret (v := 0) C hw rfl d_AdjoinedSetsModel_let_18

end
section
variable {p : Program} {l : Launch} {e : Env} {s : State} {m : MethodId} {args : Array Value} {below : List Frame} {meth : Method} {c : Code} {g : GG}
theorem d_AdjoinedSetsModel_clear_0 : decode b_AdjoinedSetsModel_clear 0 = .ok (.aload_n 0, 1) := by decide +kernel
theorem d_AdjoinedSetsModel_clear_1 : decode b_AdjoinedSetsModel_clear 1 = .ok (.getfield 124, 3) := by decide +kernel
theorem d_AdjoinedSetsModel_clear_4 : decode b_AdjoinedSetsModel_clear 4 = .ok (.istore_n 1, 1) := by decide +kernel
theorem d_AdjoinedSetsModel_clear_5 : decode b_AdjoinedSetsModel_clear 5 = .ok (.aload_n 0, 1) := by decide +kernel
theorem d_AdjoinedSetsModel_clear_6 : decode b_AdjoinedSetsModel_clear 6 = .ok (.iconst 0, 1) := by decide +kernel
theorem d_AdjoinedSetsModel_clear_7 : decode b_AdjoinedSetsModel_clear 7 = .ok (.putfield 124, 3) := by decide +kernel
theorem d_AdjoinedSetsModel_clear_10 : decode b_AdjoinedSetsModel_clear 10 = .ok (.iload_n 1, 1) := by decide +kernel
theorem d_AdjoinedSetsModel_clear_11 : decode b_AdjoinedSetsModel_clear 11 = .ok (.ireturn, 1) := by decide +kernel
def s_AdjoinedSetsModel_clear (x0 : Nat) (h : HP) : Option (Int32 × HP) :=
  (gI h x0 9 1).bind fun v1 =>
  (pI h x0 9 1 0).bind fun h3 =>
  some (v1, h3)
set_option maxHeartbeats 4000000 in
set_option maxRecDepth 100000 in
theorem c_AdjoinedSetsModel_clear (l : Launch) (g : GG) {x0 : Nat} {h : HP} {z : Int32 × HP} (hs : s_AdjoinedSetsModel_clear x0 h = some z) : Ct l g y_AdjoinedSetsModel_clear w_AdjoinedSetsModel_clear (rmS 0 0) [.ref (aD g x0)] h (some (.int z.1)) z.2 := by
  refine Ct.of (own := R_AdjoinedSetsModel) (by decide) rfl rfl (Nat.le_of_ble_eq_true rfl) ?_
  intro p e s m args below meth c ls C hl hw
  have hx := C.1
  have hb := C.2.1
  have hl : lv_has ls 2 [(0, .ref (aD g x0))] := hl
  unfold s_AdjoinedSetsModel_clear at hs
  refine lv_aload_n hx hb d_AdjoinedSetsModel_clear_0 rfl (lv_at hl 0 rfl) ?_
  obtain ⟨v1, e2, hs⟩ := ob hs
  refine pg_getI C hw fl_AdjoinedSetsModel_124 e2 d_AdjoinedSetsModel_clear_1 ?_
  refine lv_istore_n hx hb d_AdjoinedSetsModel_clear_4 rfl hl (by decide) (lv' := [(1, .int v1), (0, .ref (aD g x0))]) rfl (fun ls hl => ?_)
  refine lv_aload_n hx hb d_AdjoinedSetsModel_clear_5 rfl (lv_at hl 1 rfl) ?_
  refine lv_iconst (v := 0) hx hb d_AdjoinedSetsModel_clear_6 (by decide) ?_
  obtain ⟨h3, e4, hs⟩ := ob hs
  refine pg_putI C hw pl_AdjoinedSetsModel_124 e4 d_AdjoinedSetsModel_clear_7 (fun H locs hw => ?_)
  refine lv_iload_n hx hb d_AdjoinedSetsModel_clear_10 rfl (lv_at hl 0 rfl) ?_
  obtain rfl := Option.some.inj hs
  exact pg_iret C hw d_AdjoinedSetsModel_clear_11

end
