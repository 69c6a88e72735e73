section
variable {p : Program} {l : Launch} {e : Env} {s : State} {m : MethodId} {args : Array Value} {below : List Frame} {meth : Method} {c : Code} {g : GG}
theorem d_AdjoinedSetsModel_isDefinition_0 : decode b_AdjoinedSetsModel_isDefinition 0 = .ok (.aload_n 0, 1) := by decide +kernel
theorem d_AdjoinedSetsModel_isDefinition_1 : decode b_AdjoinedSetsModel_isDefinition 1 = .ok (.getfield 7, 3) := by decide +kernel
theorem d_AdjoinedSetsModel_isDefinition_4 : decode b_AdjoinedSetsModel_isDefinition 4 = .ok (.iconst 0, 1) := by decide +kernel
theorem d_AdjoinedSetsModel_isDefinition_5 : decode b_AdjoinedSetsModel_isDefinition 5 = .ok (.iaload, 1) := by decide +kernel
theorem d_AdjoinedSetsModel_isDefinition_6 : decode b_AdjoinedSetsModel_isDefinition 6 = .ok (.bipush 61, 2) := by decide +kernel
theorem d_AdjoinedSetsModel_isDefinition_8 : decode b_AdjoinedSetsModel_isDefinition 8 = .ok (.if_icmp .ne 15, 3) := by decide +kernel
theorem d_AdjoinedSetsModel_isDefinition_11 : decode b_AdjoinedSetsModel_isDefinition 11 = .ok (.aload_n 0, 1) := by decide +kernel
theorem d_AdjoinedSetsModel_isDefinition_12 : decode b_AdjoinedSetsModel_isDefinition 12 = .ok (.getfield 7, 3) := by decide +kernel
theorem d_AdjoinedSetsModel_isDefinition_15 : decode b_AdjoinedSetsModel_isDefinition 15 = .ok (.iconst 1, 1) := by decide +kernel
theorem d_AdjoinedSetsModel_isDefinition_16 : decode b_AdjoinedSetsModel_isDefinition 16 = .ok (.iaload, 1) := by decide +kernel
theorem d_AdjoinedSetsModel_isDefinition_17 : decode b_AdjoinedSetsModel_isDefinition 17 = .ok (.invokestatic 103, 3) := by decide +kernel
theorem d_AdjoinedSetsModel_isDefinition_20 : decode b_AdjoinedSetsModel_isDefinition 20 = .ok (.ifCond .ne 5, 3) := by decide +kernel
theorem d_AdjoinedSetsModel_isDefinition_23 : decode b_AdjoinedSetsModel_isDefinition 23 = .ok (.iconst 0, 1) := by decide +kernel
theorem d_AdjoinedSetsModel_isDefinition_24 : decode b_AdjoinedSetsModel_isDefinition 24 = .ok (.ireturn, 1) := by decide +kernel
theorem d_AdjoinedSetsModel_isDefinition_25 : decode b_AdjoinedSetsModel_isDefinition 25 = .ok (.aload_n 0, 1) := by decide +kernel
theorem d_AdjoinedSetsModel_isDefinition_26 : decode b_AdjoinedSetsModel_isDefinition 26 = .ok (.getfield 7, 3) := by decide +kernel
theorem d_AdjoinedSetsModel_isDefinition_29 : decode b_AdjoinedSetsModel_isDefinition 29 = .ok (.iconst 1, 1) := by decide +kernel
theorem d_AdjoinedSetsModel_isDefinition_30 : decode b_AdjoinedSetsModel_isDefinition 30 = .ok (.iaload, 1) := by decide +kernel
theorem d_AdjoinedSetsModel_isDefinition_31 : decode b_AdjoinedSetsModel_isDefinition 31 = .ok (.bipush 65, 2) := by decide +kernel
theorem d_AdjoinedSetsModel_isDefinition_33 : decode b_AdjoinedSetsModel_isDefinition 33 = .ok (.isub, 1) := by decide +kernel
theorem d_AdjoinedSetsModel_isDefinition_34 : decode b_AdjoinedSetsModel_isDefinition 34 = .ok (.istore_n 1, 1) := by decide +kernel
theorem d_AdjoinedSetsModel_isDefinition_35 : decode b_AdjoinedSetsModel_isDefinition 35 = .ok (.aload_n 0, 1) := by decide +kernel
theorem d_AdjoinedSetsModel_isDefinition_36 : decode b_AdjoinedSetsModel_isDefinition 36 = .ok (.invokevirtual 247, 3) := by decide +kernel
theorem d_AdjoinedSetsModel_isDefinition_39 : decode b_AdjoinedSetsModel_isDefinition 39 = .ok (.iconst 2, 1) := by decide +kernel
theorem d_AdjoinedSetsModel_isDefinition_40 : decode b_AdjoinedSetsModel_isDefinition 40 = .ok (.istore_n 2, 1) := by decide +kernel
theorem d_AdjoinedSetsModel_isDefinition_41 : decode b_AdjoinedSetsModel_isDefinition 41 = .ok (.iconst 0, 1) := by decide +kernel
theorem d_AdjoinedSetsModel_isDefinition_42 : decode b_AdjoinedSetsModel_isDefinition 42 = .ok (.istore_n 3, 1) := by decide +kernel
theorem d_AdjoinedSetsModel_isDefinition_43 : decode b_AdjoinedSetsModel_isDefinition 43 = .ok (.iload_n 3, 1) := by decide +kernel
theorem d_AdjoinedSetsModel_isDefinition_44 : decode b_AdjoinedSetsModel_isDefinition 44 = .ok (.aload_n 0, 1) := by decide +kernel
theorem d_AdjoinedSetsModel_isDefinition_45 : decode b_AdjoinedSetsModel_isDefinition 45 = .ok (.getfield 17, 3) := by decide +kernel
theorem d_AdjoinedSetsModel_isDefinition_48 : decode b_AdjoinedSetsModel_isDefinition 48 = .ok (.iload_n 1, 1) := by decide +kernel
theorem d_AdjoinedSetsModel_isDefinition_49 : decode b_AdjoinedSetsModel_isDefinition 49 = .ok (.iaload, 1) := by decide +kernel
theorem d_AdjoinedSetsModel_isDefinition_50 : decode b_AdjoinedSetsModel_isDefinition 50 = .ok (.if_icmp .ge 21, 3) := by decide +kernel
theorem d_AdjoinedSetsModel_isDefinition_53 : decode b_AdjoinedSetsModel_isDefinition 53 = .ok (.aload_n 0, 1) := by decide +kernel
theorem d_AdjoinedSetsModel_isDefinition_54 : decode b_AdjoinedSetsModel_isDefinition 54 = .ok (.iload_n 3, 1) := by decide +kernel
theorem d_AdjoinedSetsModel_isDefinition_55 : decode b_AdjoinedSetsModel_isDefinition 55 = .ok (.iload_n 2, 1) := by decide +kernel
theorem d_AdjoinedSetsModel_isDefinition_56 : decode b_AdjoinedSetsModel_isDefinition 56 = .ok (.invokevirtual 250, 3) := by decide +kernel
theorem d_AdjoinedSetsModel_isDefinition_59 : decode b_AdjoinedSetsModel_isDefinition 59 = .ok (.aload_n 0, 1) := by decide +kernel
theorem d_AdjoinedSetsModel_isDefinition_60 : decode b_AdjoinedSetsModel_isDefinition 60 = .ok (.iload_n 2, 1) := by decide +kernel
theorem d_AdjoinedSetsModel_isDefinition_61 : decode b_AdjoinedSetsModel_isDefinition 61 = .ok (.invokevirtual 197, 3) := by decide +kernel
theorem d_AdjoinedSetsModel_isDefinition_64 : decode b_AdjoinedSetsModel_isDefinition 64 = .ok (.istore_n 2, 1) := by decide +kernel
theorem d_AdjoinedSetsModel_isDefinition_65 : decode b_AdjoinedSetsModel_isDefinition 65 = .ok (.iinc 3 1, 3) := by decide +kernel
theorem d_AdjoinedSetsModel_isDefinition_68 : decode b_AdjoinedSetsModel_isDefinition 68 = .ok (.goto (-25), 3) := by decide +kernel
theorem d_AdjoinedSetsModel_isDefinition_71 : decode b_AdjoinedSetsModel_isDefinition 71 = .ok (.aload_n 0, 1) := by decide +kernel
theorem d_AdjoinedSetsModel_isDefinition_72 : decode b_AdjoinedSetsModel_isDefinition 72 = .ok (.sipush 1100, 3) := by decide +kernel
theorem d_AdjoinedSetsModel_isDefinition_75 : decode b_AdjoinedSetsModel_isDefinition 75 = .ok (.bipush 60, 2) := by decide +kernel
theorem d_AdjoinedSetsModel_isDefinition_77 : decode b_AdjoinedSetsModel_isDefinition 77 = .ok (.iload_n 1, 1) := by decide +kernel
theorem d_AdjoinedSetsModel_isDefinition_78 : decode b_AdjoinedSetsModel_isDefinition 78 = .ok (.imul, 1) := by decide +kernel
theorem d_AdjoinedSetsModel_isDefinition_79 : decode b_AdjoinedSetsModel_isDefinition 79 = .ok (.iadd, 1) := by decide +kernel
theorem d_AdjoinedSetsModel_isDefinition_80 : decode b_AdjoinedSetsModel_isDefinition 80 = .ok (.iload_n 2, 1) := by decide +kernel
theorem d_AdjoinedSetsModel_isDefinition_81 : decode b_AdjoinedSetsModel_isDefinition 81 = .ok (.invokevirtual 253, 3) := by decide +kernel
theorem d_AdjoinedSetsModel_isDefinition_84 : decode b_AdjoinedSetsModel_isDefinition 84 = .ok (.aload_n 0, 1) := by decide +kernel
theorem d_AdjoinedSetsModel_isDefinition_85 : decode b_AdjoinedSetsModel_isDefinition 85 = .ok (.getfield 124, 3) := by decide +kernel
theorem d_AdjoinedSetsModel_isDefinition_88 : decode b_AdjoinedSetsModel_isDefinition 88 = .ok (.if_icmp .ne 7, 3) := by decide +kernel
theorem d_AdjoinedSetsModel_isDefinition_91 : decode b_AdjoinedSetsModel_isDefinition 91 = .ok (.iconst 1, 1) := by decide +kernel
theorem d_AdjoinedSetsModel_isDefinition_92 : decode b_AdjoinedSetsModel_isDefinition 92 = .ok (.goto 4, 3) := by decide +kernel
theorem d_AdjoinedSetsModel_isDefinition_95 : decode b_AdjoinedSetsModel_isDefinition 95 = .ok (.iconst 0, 1) := by decide +kernel
theorem d_AdjoinedSetsModel_isDefinition_96 : decode b_AdjoinedSetsModel_isDefinition 96 = .ok (.ireturn, 1) := by decide +kernel
def s_AdjoinedSetsModel_isDefinition_43 : Nat → Nat → Int32 → Int32 → Int32 → HP → Option (Int32 × HP)
  | 0 => fun _ _ _ _ _ => none
  | k + 1 => fun x0 x1 x2 x3 h =>
  (gR h x0 9 3).bind fun v1 =>
  (aI h v1 0 x1).bind fun v3 =>
  if v3 ≤ x3 then (
    (kd x0 9).bind fun _ =>
    (s_AdjoinedSetsModel_replaced x0 (1100 + (60 * x1)) x2 h).bind fun q6 =>
    (gI q6.2 x0 9 1).bind fun v8 =>
    if q6.1 = v8 then (
      some (1, q6.2))
    else (
      some (0, q6.2)))
  else (
    (kd x0 9).bind fun _ =>
    (s_AdjoinedSetsModel_replace x0 x3 x2 h).bind fun q13 =>
    (kd x0 9).bind fun _ =>
    (s_AdjoinedSetsModel_endOf x0 x2 q13).bind fun q16 =>
    (s_AdjoinedSetsModel_isDefinition_43 k) x0 x1 q16 (x3 + 1) q13)
set_option maxHeartbeats 4000000 in
set_option maxRecDepth 100000 in
theorem k_AdjoinedSetsModel_isDefinition_43 {z : Int32 × HP} (C : CX g R_AdjoinedSetsModel b_AdjoinedSetsModel_isDefinition 4 (some .boolean) p s m args meth c) : ∀ (k : Nat) {x0 : Nat} {x1 : Int32} {x2 : Int32} {x3 : Int32} {h : HP} {H : Heap} {locs : List Loc} {ls : Array Slot}, WD g h s.heap H locs → lv_has ls 4 [(0, .ref (aD g x0)), (1, .int x1), (2, .int x2), (3, .int x3)] → s_AdjoinedSetsModel_isDefinition_43 k x0 x1 x2 x3 h = some z → W p l e (rmS 5 113) s m args below meth c H locs 0 0 (MQ below (Qq g (some (.int z.1)) z.2) args s 0 0 (inA g)) (F0 m 43 ls []) := by
  have hx := C.1
  have hb := C.2.1
  intro k
  induction k with
  | zero =>
    intro x0 x1 x2 x3 h H locs ls hw hl hs
    exact (no_s hs).elim
  | succ k ih =>
    intro x0 x1 x2 x3 h H locs ls hw hl hs
    rw [s_AdjoinedSetsModel_isDefinition_43] at hs
    refine lv_iload_n hx hb d_AdjoinedSetsModel_isDefinition_43 rfl (lv_at hl 3 rfl) ?_
    refine lv_aload_n hx hb d_AdjoinedSetsModel_isDefinition_44 rfl (lv_at hl 0 rfl) ?_
    obtain ⟨v1, e2, hs⟩ := ob hs
    refine pg_getR C hw fl_AdjoinedSetsModel_17 e2 d_AdjoinedSetsModel_isDefinition_45 ?_
    refine lv_iload_n hx hb d_AdjoinedSetsModel_isDefinition_48 rfl (lv_at hl 1 rfl) ?_
    obtain ⟨v3, e4, hs⟩ := ob hs
    refine pg_iaload C hw (t0 := 0) rfl e4 d_AdjoinedSetsModel_isDefinition_49 ?_
    refine lv_icmp_ge hx hb d_AdjoinedSetsModel_isDefinition_50 (tgt := 71) (by decide) (fun hc => ?_) (fun hc => ?_)
    · have hs := oi_t hc hs
      refine lv_aload_n hx hb d_AdjoinedSetsModel_isDefinition_71 rfl (lv_at hl 0 rfl) ?_
      refine lv_sipush (v := 1100) hx hb d_AdjoinedSetsModel_isDefinition_72 (by decide) ?_
      refine lv_bipush (v := 60) hx hb d_AdjoinedSetsModel_isDefinition_75 (by decide) ?_
      refine lv_iload_n hx hb d_AdjoinedSetsModel_isDefinition_77 rfl (lv_at hl 1 rfl) ?_
      refine lv_imul hx hb d_AdjoinedSetsModel_isDefinition_78 ?_
      refine lv_iadd hx hb d_AdjoinedSetsModel_isDefinition_79 ?_
      refine lv_iload_n hx hb d_AdjoinedSetsModel_isDefinition_80 rfl (lv_at hl 2 rfl) ?_
      obtain ⟨_, e5, hs⟩ := ob hs
      obtain ⟨q6, e7, hs⟩ := ob hs
      refine pg_callV C hw hl.1 ml_AdjoinedSetsModel_253 e5 (As := [.int (1100 + (60 * x1)), .int x2]) (rest := []) (c_AdjoinedSetsModel_replaced l g e7) rfl (rm_ok (Nat.le_of_ble_eq_true rfl) (Nat.le_of_ble_eq_true rfl)) (Nat.le_of_ble_eq_true rfl) rfl (st1 := [.int q6.1]) rfl d_AdjoinedSetsModel_isDefinition_81 (fun H locs hw => ?_)
      refine lv_aload_n hx hb d_AdjoinedSetsModel_isDefinition_84 rfl (lv_at hl 0 rfl) ?_
      obtain ⟨v8, e9, hs⟩ := ob hs
      refine pg_getI C hw fl_AdjoinedSetsModel_124 e9 d_AdjoinedSetsModel_isDefinition_85 ?_
      refine lv_icmp_ne hx hb d_AdjoinedSetsModel_isDefinition_88 (tgt := 95) (by decide) (fun hc => ?_) (fun hc => ?_)
      · have hs := oi_f hc hs
        refine lv_iconst (v := 0) hx hb d_AdjoinedSetsModel_isDefinition_95 (by decide) ?_
        obtain rfl := Option.some.inj hs
        exact pg_zret (v := 0) C hw rfl d_AdjoinedSetsModel_isDefinition_96
      · have hs := oi_t hc hs
        refine lv_iconst (v := 1) hx hb d_AdjoinedSetsModel_isDefinition_91 (by decide) ?_
        refine lv_goto hx hb d_AdjoinedSetsModel_isDefinition_92 (tgt := 96) (by decide) ?_
        obtain rfl := Option.some.inj hs
        exact pg_zret (v := 1) C hw rfl d_AdjoinedSetsModel_isDefinition_96
    · have hs := oi_f hc hs
      refine lv_aload_n hx hb d_AdjoinedSetsModel_isDefinition_53 rfl (lv_at hl 0 rfl) ?_
      refine lv_iload_n hx hb d_AdjoinedSetsModel_isDefinition_54 rfl (lv_at hl 3 rfl) ?_
      refine lv_iload_n hx hb d_AdjoinedSetsModel_isDefinition_55 rfl (lv_at hl 2 rfl) ?_
      obtain ⟨_, e12, hs⟩ := ob hs
      obtain ⟨q13, e14, hs⟩ := ob hs
      refine pg_callV C hw hl.1 ml_AdjoinedSetsModel_250 e12 (As := [.int x3, .int x2]) (rest := []) (c_AdjoinedSetsModel_replace l g e14) rfl (rm_ok (Nat.le_of_ble_eq_true rfl) (Nat.le_of_ble_eq_true rfl)) (Nat.le_of_ble_eq_true rfl) rfl (st1 := []) rfl d_AdjoinedSetsModel_isDefinition_56 (fun H locs hw => ?_)
      refine lv_aload_n hx hb d_AdjoinedSetsModel_isDefinition_59 rfl (lv_at hl 0 rfl) ?_
      refine lv_iload_n hx hb d_AdjoinedSetsModel_isDefinition_60 rfl (lv_at hl 2 rfl) ?_
      obtain ⟨_, e15, hs⟩ := ob hs
      obtain ⟨q16, e17, hs⟩ := ob hs
      refine pg_callV C hw hl.1 ml_AdjoinedSetsModel_197 e15 (As := [.int x2]) (rest := []) (c_AdjoinedSetsModel_endOf l g e17) rfl (rm_ok (Nat.le_of_ble_eq_true rfl) (Nat.le_of_ble_eq_true rfl)) (Nat.le_of_ble_eq_true rfl) rfl (st1 := [.int q16]) rfl d_AdjoinedSetsModel_isDefinition_61 (fun H locs hw => ?_)
      refine lv_istore_n hx hb d_AdjoinedSetsModel_isDefinition_64 rfl hl (by decide) (lv' := [(2, .int q16), (0, .ref (aD g x0)), (1, .int x1), (3, .int x3)]) rfl (fun ls hl => ?_)
      refine lv_iinc hx hb d_AdjoinedSetsModel_isDefinition_65 hl (k := 3) rfl (v := (x3 + 1)) (iinc_e _ (by decide)) (by decide) (lv' := [(3, .int (x3 + 1)), (2, .int q16), (0, .ref (aD g x0)), (1, .int x1)]) rfl (fun ls hl => ?_)
      refine lv_goto hx hb d_AdjoinedSetsModel_isDefinition_68 (tgt := 43) (by decide) ?_
      exact ih hw (lv_sub hl [2, 3, 1, 0] rfl) hs

def s_AdjoinedSetsModel_isDefinition (x0 : Nat) (h : HP) : Option (Int32 × HP) :=
  (gR h x0 9 0).bind fun v1 =>
  (aI h v1 0 0).bind fun v3 =>
  if v3 = 61 then (
    (gR h x0 9 0).bind fun v6 =>
    (aI h v6 0 1).bind fun v8 =>
    (s_AdjoinedSetsModel_isFunction v8).bind fun q10 =>
    if q10 = 0 then (
      some (0, h))
    else (
      (gR h x0 9 0).bind fun v12 =>
      (aI h v12 0 1).bind fun v14 =>
      (kd x0 9).bind fun _ =>
      (s_AdjoinedSetsModel_noReplacing x0 h).bind fun q17 =>
      s_AdjoinedSetsModel_isDefinition_43 20000 x0 (v14 - 65) 2 0 q17))
  else (
    some (0, h))
set_option maxHeartbeats 4000000 in
set_option maxRecDepth 100000 in
theorem c_AdjoinedSetsModel_isDefinition (l : Launch) (g : GG) {x0 : Nat} {h : HP} {z : Int32 × HP} (hs : s_AdjoinedSetsModel_isDefinition x0 h = some z) : Ct l g y_AdjoinedSetsModel_isDefinition w_AdjoinedSetsModel_isDefinition (rmS 5 113) [.ref (aD g x0)] h (some (.int z.1)) z.2 := by
  refine Ct.of (own := R_AdjoinedSetsModel) (by decide) rfl rfl (Nat.le_of_ble_eq_true rfl) ?_
  intro p e s m args below meth c ls C hl hw
  have hx := C.1
  have hb := C.2.1
  have hl : lv_has ls 4 [(0, .ref (aD g x0))] := hl
  unfold s_AdjoinedSetsModel_isDefinition at hs
  refine lv_aload_n hx hb d_AdjoinedSetsModel_isDefinition_0 rfl (lv_at hl 0 rfl) ?_
  obtain ⟨v1, e2, hs⟩ := ob hs
  refine pg_getR C hw fl_AdjoinedSetsModel_7 e2 d_AdjoinedSetsModel_isDefinition_1 ?_
  refine lv_iconst (v := 0) hx hb d_AdjoinedSetsModel_isDefinition_4 (by decide) ?_
  obtain ⟨v3, e4, hs⟩ := ob hs
  refine pg_iaload C hw (t0 := 0) rfl e4 d_AdjoinedSetsModel_isDefinition_5 ?_
  refine lv_bipush (v := 61) hx hb d_AdjoinedSetsModel_isDefinition_6 (by decide) ?_
  refine lv_icmp_ne hx hb d_AdjoinedSetsModel_isDefinition_8 (tgt := 23) (by decide) (fun hc => ?_) (fun hc => ?_)
  · have hs := oi_f hc hs
    refine lv_iconst (v := 0) hx hb d_AdjoinedSetsModel_isDefinition_23 (by decide) ?_
    obtain rfl := Option.some.inj hs
    exact pg_zret (v := 0) C hw rfl d_AdjoinedSetsModel_isDefinition_24
  · have hs := oi_t hc hs
    refine lv_aload_n hx hb d_AdjoinedSetsModel_isDefinition_11 rfl (lv_at hl 0 rfl) ?_
    obtain ⟨v6, e7, hs⟩ := ob hs
    refine pg_getR C hw fl_AdjoinedSetsModel_7 e7 d_AdjoinedSetsModel_isDefinition_12 ?_
    refine lv_iconst (v := 1) hx hb d_AdjoinedSetsModel_isDefinition_15 (by decide) ?_
    obtain ⟨v8, e9, hs⟩ := ob hs
    refine pg_iaload C hw (t0 := 0) rfl e9 d_AdjoinedSetsModel_isDefinition_16 ?_
    obtain ⟨q10, e11, hs⟩ := ob hs
    refine pg_callS C hw hl.1 ml_AdjoinedSetsModel_103 (As := [.int v8]) (rest := []) (c_AdjoinedSetsModel_isFunction l g e11) rfl (rm_ok (Nat.le_of_ble_eq_true rfl) (Nat.le_of_ble_eq_true rfl)) (Nat.le_of_ble_eq_true rfl) rfl (st1 := [.int q10]) rfl d_AdjoinedSetsModel_isDefinition_17 (fun H locs hw => ?_)
    refine lv_if_ne hx hb d_AdjoinedSetsModel_isDefinition_20 (tgt := 25) (by decide) (fun hc => ?_) (fun hc => ?_)
    · have hs := oi_f hc hs
      refine lv_aload_n hx hb d_AdjoinedSetsModel_isDefinition_25 rfl (lv_at hl 0 rfl) ?_
      obtain ⟨v12, e13, hs⟩ := ob hs
      refine pg_getR C hw fl_AdjoinedSetsModel_7 e13 d_AdjoinedSetsModel_isDefinition_26 ?_
      refine lv_iconst (v := 1) hx hb d_AdjoinedSetsModel_isDefinition_29 (by decide) ?_
      obtain ⟨v14, e15, hs⟩ := ob hs
      refine pg_iaload C hw (t0 := 0) rfl e15 d_AdjoinedSetsModel_isDefinition_30 ?_
      refine lv_bipush (v := 65) hx hb d_AdjoinedSetsModel_isDefinition_31 (by decide) ?_
      refine lv_isub hx hb d_AdjoinedSetsModel_isDefinition_33 ?_
      refine lv_istore_n hx hb d_AdjoinedSetsModel_isDefinition_34 rfl hl (by decide) (lv' := [(1, .int (v14 - 65)), (0, .ref (aD g x0))]) rfl (fun ls hl => ?_)
      refine lv_aload_n hx hb d_AdjoinedSetsModel_isDefinition_35 rfl (lv_at hl 1 rfl) ?_
      obtain ⟨_, e16, hs⟩ := ob hs
      obtain ⟨q17, e18, hs⟩ := ob hs
      refine pg_callV C hw hl.1 ml_AdjoinedSetsModel_247 e16 (As := []) (rest := []) (c_AdjoinedSetsModel_noReplacing l g e18) rfl (rm_ok (Nat.le_of_ble_eq_true rfl) (Nat.le_of_ble_eq_true rfl)) (Nat.le_of_ble_eq_true rfl) rfl (st1 := []) rfl d_AdjoinedSetsModel_isDefinition_36 (fun H locs hw => ?_)
      refine lv_iconst (v := 2) hx hb d_AdjoinedSetsModel_isDefinition_39 (by decide) ?_
      refine lv_istore_n hx hb d_AdjoinedSetsModel_isDefinition_40 rfl hl (by decide) (lv' := [(2, .int 2), (1, .int (v14 - 65)), (0, .ref (aD g x0))]) rfl (fun ls hl => ?_)
      refine lv_iconst (v := 0) hx hb d_AdjoinedSetsModel_isDefinition_41 (by decide) ?_
      refine lv_istore_n hx hb d_AdjoinedSetsModel_isDefinition_42 rfl hl (by decide) (lv' := [(3, .int 0), (2, .int 2), (1, .int (v14 - 65)), (0, .ref (aD g x0))]) rfl (fun ls hl => ?_)
      exact k_AdjoinedSetsModel_isDefinition_43 C 20000 hw (lv_sub hl [3, 2, 1, 0] rfl) hs
    · have hs := oi_t hc hs
      refine lv_iconst (v := 0) hx hb d_AdjoinedSetsModel_isDefinition_23 (by decide) ?_
      obtain rfl := Option.some.inj hs
      exact pg_zret (v := 0) C hw rfl d_AdjoinedSetsModel_isDefinition_24

end
section
variable {p : Program} {l : Launch} {e : Env} {s : State} {m : MethodId} {args : Array Value} {below : List Frame} {meth : Method} {c : Code} {g : GG}
theorem d_AdjoinedSetsModel_patternOf_0 : decode b_AdjoinedSetsModel_patternOf 0 = .ok (.iload_n 1, 1) := by decide +kernel
theorem d_AdjoinedSetsModel_patternOf_1 : decode b_AdjoinedSetsModel_patternOf 1 = .ok (.bipush 9, 2) := by decide +kernel
theorem d_AdjoinedSetsModel_patternOf_3 : decode b_AdjoinedSetsModel_patternOf 3 = .ok (.if_icmp .ge 9, 3) := by decide +kernel
theorem d_AdjoinedSetsModel_patternOf_6 : decode b_AdjoinedSetsModel_patternOf 6 = .ok (.iload_n 1, 1) := by decide +kernel
theorem d_AdjoinedSetsModel_patternOf_7 : decode b_AdjoinedSetsModel_patternOf 7 = .ok (.iconst 1, 1) := by decide +kernel
theorem d_AdjoinedSetsModel_patternOf_8 : decode b_AdjoinedSetsModel_patternOf 8 = .ok (.isub, 1) := by decide +kernel
theorem d_AdjoinedSetsModel_patternOf_9 : decode b_AdjoinedSetsModel_patternOf 9 = .ok (.goto 7, 3) := by decide +kernel
theorem d_AdjoinedSetsModel_patternOf_12 : decode b_AdjoinedSetsModel_patternOf 12 = .ok (.iload_n 1, 1) := by decide +kernel
theorem d_AdjoinedSetsModel_patternOf_13 : decode b_AdjoinedSetsModel_patternOf 13 = .ok (.bipush 6, 2) := by decide +kernel
theorem d_AdjoinedSetsModel_patternOf_15 : decode b_AdjoinedSetsModel_patternOf 15 = .ok (.isub, 1) := by decide +kernel
theorem d_AdjoinedSetsModel_patternOf_16 : decode b_AdjoinedSetsModel_patternOf 16 = .ok (.istore_n 2, 1) := by decide +kernel
theorem d_AdjoinedSetsModel_patternOf_17 : decode b_AdjoinedSetsModel_patternOf 17 = .ok (.iconst 0, 1) := by decide +kernel
theorem d_AdjoinedSetsModel_patternOf_18 : decode b_AdjoinedSetsModel_patternOf 18 = .ok (.istore_n 3, 1) := by decide +kernel
theorem d_AdjoinedSetsModel_patternOf_19 : decode b_AdjoinedSetsModel_patternOf 19 = .ok (.iconst 0, 1) := by decide +kernel
theorem d_AdjoinedSetsModel_patternOf_20 : decode b_AdjoinedSetsModel_patternOf 20 = .ok (.istore 4, 2) := by decide +kernel
theorem d_AdjoinedSetsModel_patternOf_22 : decode b_AdjoinedSetsModel_patternOf 22 = .ok (.iload 4, 2) := by decide +kernel
theorem d_AdjoinedSetsModel_patternOf_24 : decode b_AdjoinedSetsModel_patternOf 24 = .ok (.iload_n 2, 1) := by decide +kernel
theorem d_AdjoinedSetsModel_patternOf_25 : decode b_AdjoinedSetsModel_patternOf 25 = .ok (.if_icmp .ge 29, 3) := by decide +kernel
theorem d_AdjoinedSetsModel_patternOf_28 : decode b_AdjoinedSetsModel_patternOf 28 = .ok (.aload_n 0, 1) := by decide +kernel
theorem d_AdjoinedSetsModel_patternOf_29 : decode b_AdjoinedSetsModel_patternOf 29 = .ok (.getfield 66, 3) := by decide +kernel
theorem d_AdjoinedSetsModel_patternOf_32 : decode b_AdjoinedSetsModel_patternOf 32 = .ok (.iload_n 3, 1) := by decide +kernel
theorem d_AdjoinedSetsModel_patternOf_33 : decode b_AdjoinedSetsModel_patternOf 33 = .ok (.iaload, 1) := by decide +kernel
theorem d_AdjoinedSetsModel_patternOf_34 : decode b_AdjoinedSetsModel_patternOf 34 = .ok (.ifCond .ne 10, 3) := by decide +kernel
theorem d_AdjoinedSetsModel_patternOf_37 : decode b_AdjoinedSetsModel_patternOf 37 = .ok (.iload 4, 2) := by decide +kernel
theorem d_AdjoinedSetsModel_patternOf_39 : decode b_AdjoinedSetsModel_patternOf 39 = .ok (.iconst 1, 1) := by decide +kernel
theorem d_AdjoinedSetsModel_patternOf_40 : decode b_AdjoinedSetsModel_patternOf 40 = .ok (.iadd, 1) := by decide +kernel
theorem d_AdjoinedSetsModel_patternOf_41 : decode b_AdjoinedSetsModel_patternOf 41 = .ok (.goto 5, 3) := by decide +kernel
theorem d_AdjoinedSetsModel_patternOf_44 : decode b_AdjoinedSetsModel_patternOf 44 = .ok (.iload 4, 2) := by decide +kernel
theorem d_AdjoinedSetsModel_patternOf_46 : decode b_AdjoinedSetsModel_patternOf 46 = .ok (.istore 4, 2) := by decide +kernel
theorem d_AdjoinedSetsModel_patternOf_48 : decode b_AdjoinedSetsModel_patternOf 48 = .ok (.iinc 3 1, 3) := by decide +kernel
theorem d_AdjoinedSetsModel_patternOf_51 : decode b_AdjoinedSetsModel_patternOf 51 = .ok (.goto (-29), 3) := by decide +kernel
theorem d_AdjoinedSetsModel_patternOf_54 : decode b_AdjoinedSetsModel_patternOf 54 = .ok (.iload_n 3, 1) := by decide +kernel
theorem d_AdjoinedSetsModel_patternOf_55 : decode b_AdjoinedSetsModel_patternOf 55 = .ok (.ireturn, 1) := by decide +kernel
def s_AdjoinedSetsModel_patternOf_46 (c22 : Nat → Int32 → Int32 → Int32 → HP → Option (Int32)) (x0 : Nat) (x2 : Int32) (x3 : Int32) (t0 : Int32) (h : HP) : Option (Int32) :=
  c22 x0 x2 (x3 + 1) t0 h
set_option maxHeartbeats 4000000 in
set_option maxRecDepth 100000 in
theorem k_AdjoinedSetsModel_patternOf_46 {h : HP} {x0 : Nat} {x2 : Int32} {x3 : Int32} {t0 : Int32} {z : Int32} (C : CX g R_AdjoinedSetsModel b_AdjoinedSetsModel_patternOf 5 (some .int) p s m args meth c) (c22 : Nat → Int32 → Int32 → Int32 → HP → Option (Int32))
    (hc22 : ∀ {x0 : Nat} {x2 : Int32} {x3 : Int32} {x4 : Int32} {H : Heap} {locs : List Loc} {ls : Array Slot}, WD g h s.heap H locs → lv_has ls 5 [(0, .ref (aD g x0)), (2, .int x2), (3, .int x3), (4, .int x4)] → c22 x0 x2 x3 x4 h = some z → W p l e (rmS 0 0) s m args below meth c H locs 0 0 (MQ below (Qq g (some (.int z)) h) args s 0 0 (inA g)) (F0 m 22 ls [])) {H : Heap} {locs : List Loc} {ls : Array Slot} (hw : WD g h s.heap H locs) (hl : lv_has ls 5 [(0, .ref (aD g x0)), (2, .int x2), (3, .int x3)]) (hs : s_AdjoinedSetsModel_patternOf_46 c22 x0 x2 x3 t0 h = some z) : W p l e (rmS 0 0) s m args below meth c H locs 0 0 (MQ below (Qq g (some (.int z)) h) args s 0 0 (inA g)) (F0 m 46 ls [.int t0]) := by
  unfold s_AdjoinedSetsModel_patternOf_46 at hs
  have hx := C.1
  have hb := C.2.1
  refine lv_istore hx hb d_AdjoinedSetsModel_patternOf_46 hl (by decide) (lv' := [(4, .int t0), (0, .ref (aD g x0)), (2, .int x2), (3, .int x3)]) rfl (fun ls hl => ?_)
  refine lv_iinc hx hb d_AdjoinedSetsModel_patternOf_48 hl (k := 3) rfl (v := (x3 + 1)) (iinc_e _ (by decide)) (by decide) (lv' := [(3, .int (x3 + 1)), (4, .int t0), (0, .ref (aD g x0)), (2, .int x2)]) rfl (fun ls hl => ?_)
  refine lv_goto hx hb d_AdjoinedSetsModel_patternOf_51 (tgt := 22) (by decide) ?_
  exact hc22 hw (lv_sub hl [2, 3, 0, 1] rfl) hs

def s_AdjoinedSetsModel_patternOf_22 : Nat → Nat → Int32 → Int32 → Int32 → HP → Option (Int32)
  | 0 => fun _ _ _ _ _ => none
  | k + 1 => fun x0 x2 x3 x4 h =>
  if x2 ≤ x4 then (
    some x3)
  else (
    (gR h x0 9 26).bind fun v1 =>
    (aI h v1 0 x3).bind fun v3 =>
    if v3 = 0 then (
      s_AdjoinedSetsModel_patternOf_46 (s_AdjoinedSetsModel_patternOf_22 k) x0 x2 x3 (x4 + 1) h)
    else (
      s_AdjoinedSetsModel_patternOf_46 (s_AdjoinedSetsModel_patternOf_22 k) x0 x2 x3 x4 h))
set_option maxHeartbeats 4000000 in
set_option maxRecDepth 100000 in
theorem k_AdjoinedSetsModel_patternOf_22 {h : HP} {z : Int32} (C : CX g R_AdjoinedSetsModel b_AdjoinedSetsModel_patternOf 5 (some .int) p s m args meth c) : ∀ (k : Nat) {x0 : Nat} {x2 : Int32} {x3 : Int32} {x4 : Int32} {H : Heap} {locs : List Loc} {ls : Array Slot}, WD g h s.heap H locs → lv_has ls 5 [(0, .ref (aD g x0)), (2, .int x2), (3, .int x3), (4, .int x4)] → s_AdjoinedSetsModel_patternOf_22 k x0 x2 x3 x4 h = some z → W p l e (rmS 0 0) s m args below meth c H locs 0 0 (MQ below (Qq g (some (.int z)) h) args s 0 0 (inA g)) (F0 m 22 ls []) := by
  have hx := C.1
  have hb := C.2.1
  intro k
  induction k with
  | zero =>
    intro x0 x2 x3 x4 H locs ls hw hl hs
    exact (no_s hs).elim
  | succ k ih =>
    intro x0 x2 x3 x4 H locs ls hw hl hs
    rw [s_AdjoinedSetsModel_patternOf_22] at hs
    refine lv_iload hx hb d_AdjoinedSetsModel_patternOf_22 (lv_at hl 3 rfl) ?_
    refine lv_iload_n hx hb d_AdjoinedSetsModel_patternOf_24 rfl (lv_at hl 1 rfl) ?_
    refine lv_icmp_ge hx hb d_AdjoinedSetsModel_patternOf_25 (tgt := 54) (by decide) (fun hc => ?_) (fun hc => ?_)
    · have hs := oi_t hc hs
      refine lv_iload_n hx hb d_AdjoinedSetsModel_patternOf_54 rfl (lv_at hl 2 rfl) ?_
      obtain rfl := Option.some.inj hs
      exact pg_iret C hw d_AdjoinedSetsModel_patternOf_55
    · have hs := oi_f hc hs
      refine lv_aload_n hx hb d_AdjoinedSetsModel_patternOf_28 rfl (lv_at hl 0 rfl) ?_
      obtain ⟨v1, e2, hs⟩ := ob hs
      refine pg_getR C hw fl_AdjoinedSetsModel_66 e2 d_AdjoinedSetsModel_patternOf_29 ?_
      refine lv_iload_n hx hb d_AdjoinedSetsModel_patternOf_32 rfl (lv_at hl 2 rfl) ?_
      obtain ⟨v3, e4, hs⟩ := ob hs
      refine pg_iaload C hw (t0 := 0) rfl e4 d_AdjoinedSetsModel_patternOf_33 ?_
      refine lv_if_ne hx hb d_AdjoinedSetsModel_patternOf_34 (tgt := 44) (by decide) (fun hc => ?_) (fun hc => ?_)
      · have hs := oi_f hc hs
        refine lv_iload hx hb d_AdjoinedSetsModel_patternOf_44 (lv_at hl 3 rfl) ?_
        exact k_AdjoinedSetsModel_patternOf_46 C (s_AdjoinedSetsModel_patternOf_22 k) ih hw (lv_sub hl [0, 1, 2] rfl) hs
      · have hs := oi_t hc hs
        refine lv_iload hx hb d_AdjoinedSetsModel_patternOf_37 (lv_at hl 3 rfl) ?_
        refine lv_iconst (v := 1) hx hb d_AdjoinedSetsModel_patternOf_39 (by decide) ?_
        refine lv_iadd hx hb d_AdjoinedSetsModel_patternOf_40 ?_
        refine lv_goto hx hb d_AdjoinedSetsModel_patternOf_41 (tgt := 46) (by decide) ?_
        exact k_AdjoinedSetsModel_patternOf_46 C (s_AdjoinedSetsModel_patternOf_22 k) ih hw (lv_sub hl [0, 1, 2] rfl) hs

def s_AdjoinedSetsModel_patternOf_16 (x0 : Nat) (t0 : Int32) (h : HP) : Option (Int32) :=
  s_AdjoinedSetsModel_patternOf_22 20000 x0 t0 0 0 h
set_option maxHeartbeats 4000000 in
set_option maxRecDepth 100000 in
theorem k_AdjoinedSetsModel_patternOf_16 {h : HP} {x0 : Nat} {t0 : Int32} {z : Int32} (C : CX g R_AdjoinedSetsModel b_AdjoinedSetsModel_patternOf 5 (some .int) p s m args meth c) {H : Heap} {locs : List Loc} {ls : Array Slot} (hw : WD g h s.heap H locs) (hl : lv_has ls 5 [(0, .ref (aD g x0))]) (hs : s_AdjoinedSetsModel_patternOf_16 x0 t0 h = some z) : W p l e (rmS 0 0) s m args below meth c H locs 0 0 (MQ below (Qq g (some (.int z)) h) args s 0 0 (inA g)) (F0 m 16 ls [.int t0]) := by
  unfold s_AdjoinedSetsModel_patternOf_16 at hs
  have hx := C.1
  have hb := C.2.1
  refine lv_istore_n hx hb d_AdjoinedSetsModel_patternOf_16 rfl hl (by decide) (lv' := [(2, .int t0), (0, .ref (aD g x0))]) rfl (fun ls hl => ?_)
  refine lv_iconst (v := 0) hx hb d_AdjoinedSetsModel_patternOf_17 (by decide) ?_
  refine lv_istore_n hx hb d_AdjoinedSetsModel_patternOf_18 rfl hl (by decide) (lv' := [(3, .int 0), (2, .int t0), (0, .ref (aD g x0))]) rfl (fun ls hl => ?_)
  refine lv_iconst (v := 0) hx hb d_AdjoinedSetsModel_patternOf_19 (by decide) ?_
  refine lv_istore hx hb d_AdjoinedSetsModel_patternOf_20 hl (by decide) (lv' := [(4, .int 0), (3, .int 0), (2, .int t0), (0, .ref (aD g x0))]) rfl (fun ls hl => ?_)
  exact k_AdjoinedSetsModel_patternOf_22 C 20000 hw (lv_sub hl [3, 2, 1, 0] rfl) hs

def s_AdjoinedSetsModel_patternOf (x0 : Nat) (x1 : Int32) (h : HP) : Option (Int32) :=
  if 9 ≤ x1 then (
    s_AdjoinedSetsModel_patternOf_16 x0 (x1 - 6) h)
  else (
    s_AdjoinedSetsModel_patternOf_16 x0 (x1 - 1) h)
set_option maxHeartbeats 4000000 in
set_option maxRecDepth 100000 in
theorem c_AdjoinedSetsModel_patternOf (l : Launch) (g : GG) {h : HP} {x0 : Nat} {x1 : Int32} {z : Int32} (hs : s_AdjoinedSetsModel_patternOf x0 x1 h = some z) : Ct l g y_AdjoinedSetsModel_patternOf w_AdjoinedSetsModel_patternOf (rmS 0 0) [.ref (aD g x0), .int x1] h (some (.int z)) h := by
  refine Ct.of (own := R_AdjoinedSetsModel) (by decide) rfl rfl (Nat.le_of_ble_eq_true rfl) ?_
  intro p e s m args below meth c ls C hl hw
  have hx := C.1
  have hb := C.2.1
  have hl : lv_has ls 5 [(0, .ref (aD g x0)), (1, .int x1)] := hl
  unfold s_AdjoinedSetsModel_patternOf at hs
  refine lv_iload_n hx hb d_AdjoinedSetsModel_patternOf_0 rfl (lv_at hl 1 rfl) ?_
  refine lv_bipush (v := 9) hx hb d_AdjoinedSetsModel_patternOf_1 (by decide) ?_
  refine lv_icmp_ge hx hb d_AdjoinedSetsModel_patternOf_3 (tgt := 12) (by decide) (fun hc => ?_) (fun hc => ?_)
  · have hs := oi_t hc hs
    refine lv_iload_n hx hb d_AdjoinedSetsModel_patternOf_12 rfl (lv_at hl 1 rfl) ?_
    refine lv_bipush (v := 6) hx hb d_AdjoinedSetsModel_patternOf_13 (by decide) ?_
    refine lv_isub hx hb d_AdjoinedSetsModel_patternOf_15 ?_
    exact k_AdjoinedSetsModel_patternOf_16 C hw (lv_sub hl [0] rfl) hs
  · have hs := oi_f hc hs
    refine lv_iload_n hx hb d_AdjoinedSetsModel_patternOf_6 rfl (lv_at hl 1 rfl) ?_
    refine lv_iconst (v := 1) hx hb d_AdjoinedSetsModel_patternOf_7 (by decide) ?_
    refine lv_isub hx hb d_AdjoinedSetsModel_patternOf_8 ?_
    refine lv_goto hx hb d_AdjoinedSetsModel_patternOf_9 (tgt := 16) (by decide) ?_
    exact k_AdjoinedSetsModel_patternOf_16 C hw (lv_sub hl [0] rfl) hs

end
