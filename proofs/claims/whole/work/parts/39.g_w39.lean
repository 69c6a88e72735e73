section
variable {p : Program} {l : Launch} {e : Env} {s : State} {m : MethodId} {args : Array Value} {below : List Frame} {meth : Method} {c : Code} {g : GG}
theorem d_Form_placeOf_0 : decode b_Form_placeOf 0 = .ok (.ldc 9, 2) := by decide +kernel
theorem d_Form_placeOf_2 : decode b_Form_placeOf 2 = .ok (.iload_n 1, 1) := by decide +kernel
theorem d_Form_placeOf_3 : decode b_Form_placeOf 3 = .ok (.invokevirtual 42, 3) := by decide +kernel
theorem d_Form_placeOf_6 : decode b_Form_placeOf 6 = .ok (.istore_n 2, 1) := by decide +kernel
theorem d_Form_placeOf_7 : decode b_Form_placeOf 7 = .ok (.iload_n 2, 1) := by decide +kernel
theorem d_Form_placeOf_8 : decode b_Form_placeOf 8 = .ok (.ifCond .ge 7, 3) := by decide +kernel
theorem d_Form_placeOf_11 : decode b_Form_placeOf 11 = .ok (.iconst (-1), 1) := by decide +kernel
theorem d_Form_placeOf_12 : decode b_Form_placeOf 12 = .ok (.goto 9, 3) := by decide +kernel
theorem d_Form_placeOf_15 : decode b_Form_placeOf 15 = .ok (.aload_n 0, 1) := by decide +kernel
theorem d_Form_placeOf_16 : decode b_Form_placeOf 16 = .ok (.getfield 17, 3) := by decide +kernel
theorem d_Form_placeOf_19 : decode b_Form_placeOf 19 = .ok (.iload_n 2, 1) := by decide +kernel
theorem d_Form_placeOf_20 : decode b_Form_placeOf 20 = .ok (.iaload, 1) := by decide +kernel
theorem d_Form_placeOf_21 : decode b_Form_placeOf 21 = .ok (.ireturn, 1) := by decide +kernel
def s_Form_placeOf (x0 : Nat) (x1 : Int32) (h : HP) : Option (Int32) :=
  (sG 0).bind fun _ =>
  (s_String_indexOf_0 0 x1).bind fun q2 =>
  if 0 ≤ q2 then (
    (gR h x0 6 1).bind fun v4 =>
    (aI h v4 0 q2).bind fun v6 =>
    some v6)
  else (
    some (-1))
set_option maxHeartbeats 4000000 in
set_option maxRecDepth 100000 in
theorem c_Form_placeOf (l : Launch) (g : GG) {h : HP} {x0 : Nat} {x1 : Int32} {z : Int32} (hs : s_Form_placeOf x0 x1 h = some z) : Ct l g y_Form_placeOf w_Form_placeOf (rmS 4 126) [.ref (aD g x0), .int x1] h (some (.int z)) h := by
  refine Ct.of (own := R_Form) (by decide) rfl rfl (Nat.le_of_ble_eq_true rfl) ?_
  intro p e s m args below meth c ls C hl hw
  have hx := C.1
  have hb := C.2.1
  have hl : lv_has ls 3 [(0, .ref (aD g x0)), (1, .int x1)] := hl
  unfold s_Form_placeOf at hs
  refine pg_ldcS (i := 0) C (Nat.le_of_ble_eq_true rfl) rfl rfl d_Form_placeOf_0 ?_
  refine lv_iload_n hx hb d_Form_placeOf_2 rfl (lv_at hl 1 rfl) ?_
  obtain ⟨_, e1, hs⟩ := ob hs
  obtain ⟨q2, e3, hs⟩ := ob hs
  refine pg_callT C hw hl.1 ml_Form_42 e1 (As := [.int x1]) (rest := []) (c_String_indexOf_0 l g e3) rfl (rm_ok (Nat.le_of_ble_eq_true rfl) (Nat.le_of_ble_eq_true rfl)) (Nat.le_of_ble_eq_true rfl) rfl (st1 := [.int q2]) rfl d_Form_placeOf_3 (fun H locs hw => ?_)
  refine lv_istore_n hx hb d_Form_placeOf_6 rfl hl (by decide) (lv' := [(2, .int q2), (0, .ref (aD g x0)), (1, .int x1)]) rfl (fun ls hl => ?_)
  refine lv_iload_n hx hb d_Form_placeOf_7 rfl (lv_at hl 0 rfl) ?_
  refine lv_if_ge hx hb d_Form_placeOf_8 (tgt := 15) (by decide) (fun hc => ?_) (fun hc => ?_)
  · have hs := oi_t hc hs
    refine lv_aload_n hx hb d_Form_placeOf_15 rfl (lv_at hl 1 rfl) ?_
    obtain ⟨v4, e5, hs⟩ := ob hs
    refine pg_getR C hw fl_Form_17 e5 d_Form_placeOf_16 ?_
    refine lv_iload_n hx hb d_Form_placeOf_19 rfl (lv_at hl 0 rfl) ?_
    obtain ⟨v6, e7, hs⟩ := ob hs
    refine pg_iaload C hw (t0 := 0) rfl e7 d_Form_placeOf_20 ?_
    obtain rfl := Option.some.inj hs
    exact pg_iret C hw d_Form_placeOf_21
  · have hs := oi_f hc hs
    refine lv_iconst (v := (-1)) hx hb d_Form_placeOf_11 (by decide) ?_
    refine lv_goto hx hb d_Form_placeOf_12 (tgt := 21) (by decide) ?_
    obtain rfl := Option.some.inj hs
    exact pg_iret C hw d_Form_placeOf_21

end
section
variable {p : Program} {l : Launch} {e : Env} {s : State} {m : MethodId} {args : Array Value} {below : List Frame} {meth : Method} {c : Code} {g : GG}
theorem d_Form_endOf_0 : decode b_Form_endOf 0 = .ok (.iload_n 1, 1) := by decide +kernel
theorem d_Form_endOf_1 : decode b_Form_endOf 1 = .ok (.bipush 120, 2) := by decide +kernel
theorem d_Form_endOf_3 : decode b_Form_endOf 3 = .ok (.if_icmp .ne 13, 3) := by decide +kernel
theorem d_Form_endOf_6 : decode b_Form_endOf 6 = .ok (.aload_n 0, 1) := by decide +kernel
theorem d_Form_endOf_7 : decode b_Form_endOf 7 = .ok (.iload_n 1, 1) := by decide +kernel
theorem d_Form_endOf_8 : decode b_Form_endOf 8 = .ok (.invokevirtual 57, 3) := by decide +kernel
theorem d_Form_endOf_11 : decode b_Form_endOf 11 = .ok (.iconst 1, 1) := by decide +kernel
theorem d_Form_endOf_12 : decode b_Form_endOf 12 = .ok (.iadd, 1) := by decide +kernel
theorem d_Form_endOf_13 : decode b_Form_endOf 13 = .ok (.goto 15, 3) := by decide +kernel
theorem d_Form_endOf_16 : decode b_Form_endOf 16 = .ok (.aload_n 0, 1) := by decide +kernel
theorem d_Form_endOf_17 : decode b_Form_endOf 17 = .ok (.getfield 21, 3) := by decide +kernel
theorem d_Form_endOf_20 : decode b_Form_endOf 20 = .ok (.aload_n 0, 1) := by decide +kernel
theorem d_Form_endOf_21 : decode b_Form_endOf 21 = .ok (.iload_n 1, 1) := by decide +kernel
theorem d_Form_endOf_22 : decode b_Form_endOf 22 = .ok (.invokevirtual 57, 3) := by decide +kernel
theorem d_Form_endOf_25 : decode b_Form_endOf 25 = .ok (.invokevirtual 60, 3) := by decide +kernel
theorem d_Form_endOf_28 : decode b_Form_endOf 28 = .ok (.ireturn, 1) := by decide +kernel
def s_Form_endOf (x0 : Nat) (x1 : Int32) (h : HP) : Option (Int32) :=
  if x1 = 120 then (
    (kd x0 6).bind fun _ =>
    (s_Form_placeOf x0 x1 h).bind fun q10 =>
    some (q10 + 1))
  else (
    (gR h x0 6 0).bind fun v1 =>
    (kd x0 6).bind fun _ =>
    (s_Form_placeOf x0 x1 h).bind fun q4 =>
    (kd v1 0).bind fun _ =>
    (s_Text_endOf v1 q4 h).bind fun q7 =>
    some q7)
set_option maxHeartbeats 4000000 in
set_option maxRecDepth 100000 in
theorem c_Form_endOf (l : Launch) (g : GG) {h : HP} {x0 : Nat} {x1 : Int32} {z : Int32} (hs : s_Form_endOf x0 x1 h = some z) : Ct l g y_Form_endOf w_Form_endOf (rmS 5 148) [.ref (aD g x0), .int x1] h (some (.int z)) h := by
  refine Ct.of (own := R_Form) (by decide) rfl rfl (Nat.le_of_ble_eq_true rfl) ?_
  intro p e s m args below meth c ls C hl hw
  have hx := C.1
  have hb := C.2.1
  have hl : lv_has ls 2 [(0, .ref (aD g x0)), (1, .int x1)] := hl
  unfold s_Form_endOf at hs
  refine lv_iload_n hx hb d_Form_endOf_0 rfl (lv_at hl 1 rfl) ?_
  refine lv_bipush (v := 120) hx hb d_Form_endOf_1 (by decide) ?_
  refine lv_icmp_ne hx hb d_Form_endOf_3 (tgt := 16) (by decide) (fun hc => ?_) (fun hc => ?_)
  · have hs := oi_f hc hs
    refine lv_aload_n hx hb d_Form_endOf_16 rfl (lv_at hl 0 rfl) ?_
    obtain ⟨v1, e2, hs⟩ := ob hs
    refine pg_getR C hw fl_Form_21 e2 d_Form_endOf_17 ?_
    refine lv_aload_n hx hb d_Form_endOf_20 rfl (lv_at hl 0 rfl) ?_
    refine lv_iload_n hx hb d_Form_endOf_21 rfl (lv_at hl 1 rfl) ?_
    obtain ⟨_, e3, hs⟩ := ob hs
    obtain ⟨q4, e5, hs⟩ := ob hs
    refine pg_callV C hw hl.1 ml_Form_57 e3 (As := [.int x1]) (rest := [.ref (aD g v1)]) (c_Form_placeOf l g e5) rfl (rm_ok (Nat.le_of_ble_eq_true rfl) (Nat.le_of_ble_eq_true rfl)) (Nat.le_of_ble_eq_true rfl) rfl (st1 := [.int q4, .ref (aD g v1)]) rfl d_Form_endOf_22 (fun H locs hw => ?_)
    obtain ⟨_, e6, hs⟩ := ob hs
    obtain ⟨q7, e8, hs⟩ := ob hs
    refine pg_callV C hw hl.1 ml_Form_60 e6 (As := [.int q4]) (rest := []) (c_Text_endOf l g e8) rfl (rm_ok (Nat.le_of_ble_eq_true rfl) (Nat.le_of_ble_eq_true rfl)) (Nat.le_of_ble_eq_true rfl) rfl (st1 := [.int q7]) rfl d_Form_endOf_25 (fun H locs hw => ?_)
    obtain rfl := Option.some.inj hs
    exact pg_iret C hw d_Form_endOf_28
  · have hs := oi_t hc hs
    refine lv_aload_n hx hb d_Form_endOf_6 rfl (lv_at hl 0 rfl) ?_
    refine lv_iload_n hx hb d_Form_endOf_7 rfl (lv_at hl 1 rfl) ?_
    obtain ⟨_, e9, hs⟩ := ob hs
    obtain ⟨q10, e11, hs⟩ := ob hs
    refine pg_callV C hw hl.1 ml_Form_57 e9 (As := [.int x1]) (rest := []) (c_Form_placeOf l g e11) rfl (rm_ok (Nat.le_of_ble_eq_true rfl) (Nat.le_of_ble_eq_true rfl)) (Nat.le_of_ble_eq_true rfl) rfl (st1 := [.int q10]) rfl d_Form_endOf_8 (fun H locs hw => ?_)
    refine lv_iconst (v := 1) hx hb d_Form_endOf_11 (by decide) ?_
    refine lv_iadd hx hb d_Form_endOf_12 ?_
    refine lv_goto hx hb d_Form_endOf_13 (tgt := 28) (by decide) ?_
    obtain rfl := Option.some.inj hs
    exact pg_iret C hw d_Form_endOf_28

end
section
variable {p : Program} {l : Launch} {e : Env} {s : State} {m : MethodId} {args : Array Value} {below : List Frame} {meth : Method} {c : Code} {g : GG}
theorem d_Form_behind_0 : decode b_Form_behind 0 = .ok (.ldc 9, 2) := by decide +kernel
theorem d_Form_behind_2 : decode b_Form_behind 2 = .ok (.iload_n 1, 1) := by decide +kernel
theorem d_Form_behind_3 : decode b_Form_behind 3 = .ok (.invokevirtual 42, 3) := by decide +kernel
theorem d_Form_behind_6 : decode b_Form_behind 6 = .ok (.istore_n 3, 1) := by decide +kernel
theorem d_Form_behind_7 : decode b_Form_behind 7 = .ok (.iload_n 3, 1) := by decide +kernel
theorem d_Form_behind_8 : decode b_Form_behind 8 = .ok (.ifCond .ge 23, 3) := by decide +kernel
theorem d_Form_behind_11 : decode b_Form_behind 11 = .ok (.aload_n 0, 1) := by decide +kernel
theorem d_Form_behind_12 : decode b_Form_behind 12 = .ok (.getfield 21, 3) := by decide +kernel
theorem d_Form_behind_15 : decode b_Form_behind 15 = .ok (.iload_n 2, 1) := by decide +kernel
theorem d_Form_behind_16 : decode b_Form_behind 16 = .ok (.invokevirtual 46, 3) := by decide +kernel
theorem d_Form_behind_19 : decode b_Form_behind 19 = .ok (.iload_n 1, 1) := by decide +kernel
theorem d_Form_behind_20 : decode b_Form_behind 20 = .ok (.if_icmp .ne 9, 3) := by decide +kernel
theorem d_Form_behind_23 : decode b_Form_behind 23 = .ok (.iload_n 2, 1) := by decide +kernel
theorem d_Form_behind_24 : decode b_Form_behind 24 = .ok (.iconst 1, 1) := by decide +kernel
theorem d_Form_behind_25 : decode b_Form_behind 25 = .ok (.iadd, 1) := by decide +kernel
theorem d_Form_behind_26 : decode b_Form_behind 26 = .ok (.goto 4, 3) := by decide +kernel
theorem d_Form_behind_29 : decode b_Form_behind 29 = .ok (.iconst (-1), 1) := by decide +kernel
theorem d_Form_behind_30 : decode b_Form_behind 30 = .ok (.ireturn, 1) := by decide +kernel
theorem d_Form_behind_31 : decode b_Form_behind 31 = .ok (.aload_n 0, 1) := by decide +kernel
theorem d_Form_behind_32 : decode b_Form_behind 32 = .ok (.getfield 17, 3) := by decide +kernel
theorem d_Form_behind_35 : decode b_Form_behind 35 = .ok (.iload_n 3, 1) := by decide +kernel
theorem d_Form_behind_36 : decode b_Form_behind 36 = .ok (.iaload, 1) := by decide +kernel
theorem d_Form_behind_37 : decode b_Form_behind 37 = .ok (.iconst (-1), 1) := by decide +kernel
theorem d_Form_behind_38 : decode b_Form_behind 38 = .ok (.if_icmp .ne 16, 3) := by decide +kernel
theorem d_Form_behind_41 : decode b_Form_behind 41 = .ok (.aload_n 0, 1) := by decide +kernel
theorem d_Form_behind_42 : decode b_Form_behind 42 = .ok (.getfield 17, 3) := by decide +kernel
theorem d_Form_behind_45 : decode b_Form_behind 45 = .ok (.iload_n 3, 1) := by decide +kernel
theorem d_Form_behind_46 : decode b_Form_behind 46 = .ok (.iload_n 2, 1) := by decide +kernel
theorem d_Form_behind_47 : decode b_Form_behind 47 = .ok (.iastore, 1) := by decide +kernel
theorem d_Form_behind_48 : decode b_Form_behind 48 = .ok (.aload_n 0, 1) := by decide +kernel
theorem d_Form_behind_49 : decode b_Form_behind 49 = .ok (.iload_n 1, 1) := by decide +kernel
theorem d_Form_behind_50 : decode b_Form_behind 50 = .ok (.invokevirtual 49, 3) := by decide +kernel
theorem d_Form_behind_53 : decode b_Form_behind 53 = .ok (.ireturn, 1) := by decide +kernel
theorem d_Form_behind_54 : decode b_Form_behind 54 = .ok (.aload_n 0, 1) := by decide +kernel
theorem d_Form_behind_55 : decode b_Form_behind 55 = .ok (.getfield 17, 3) := by decide +kernel
theorem d_Form_behind_58 : decode b_Form_behind 58 = .ok (.iload_n 3, 1) := by decide +kernel
theorem d_Form_behind_59 : decode b_Form_behind 59 = .ok (.iaload, 1) := by decide +kernel
theorem d_Form_behind_60 : decode b_Form_behind 60 = .ok (.istore 4, 2) := by decide +kernel
theorem d_Form_behind_62 : decode b_Form_behind 62 = .ok (.aload_n 0, 1) := by decide +kernel
theorem d_Form_behind_63 : decode b_Form_behind 63 = .ok (.iload_n 1, 1) := by decide +kernel
theorem d_Form_behind_64 : decode b_Form_behind 64 = .ok (.invokevirtual 49, 3) := by decide +kernel
theorem d_Form_behind_67 : decode b_Form_behind 67 = .ok (.istore 5, 2) := by decide +kernel
theorem d_Form_behind_69 : decode b_Form_behind 69 = .ok (.aload_n 0, 1) := by decide +kernel
theorem d_Form_behind_70 : decode b_Form_behind 70 = .ok (.getfield 21, 3) := by decide +kernel
theorem d_Form_behind_73 : decode b_Form_behind 73 = .ok (.iload_n 2, 1) := by decide +kernel
theorem d_Form_behind_74 : decode b_Form_behind 74 = .ok (.aload_n 0, 1) := by decide +kernel
theorem d_Form_behind_75 : decode b_Form_behind 75 = .ok (.getfield 21, 3) := by decide +kernel
theorem d_Form_behind_78 : decode b_Form_behind 78 = .ok (.iload 4, 2) := by decide +kernel
theorem d_Form_behind_80 : decode b_Form_behind 80 = .ok (.iload 5, 2) := by decide +kernel
theorem d_Form_behind_82 : decode b_Form_behind 82 = .ok (.invokevirtual 53, 3) := by decide +kernel
theorem d_Form_behind_85 : decode b_Form_behind 85 = .ok (.ifCond .eq 13, 3) := by decide +kernel
theorem d_Form_behind_88 : decode b_Form_behind 88 = .ok (.iload_n 2, 1) := by decide +kernel
theorem d_Form_behind_89 : decode b_Form_behind 89 = .ok (.iload 5, 2) := by decide +kernel
theorem d_Form_behind_91 : decode b_Form_behind 91 = .ok (.iadd, 1) := by decide +kernel
theorem d_Form_behind_92 : decode b_Form_behind 92 = .ok (.iload 4, 2) := by decide +kernel
theorem d_Form_behind_94 : decode b_Form_behind 94 = .ok (.isub, 1) := by decide +kernel
theorem d_Form_behind_95 : decode b_Form_behind 95 = .ok (.goto 4, 3) := by decide +kernel
theorem d_Form_behind_98 : decode b_Form_behind 98 = .ok (.iconst (-1), 1) := by decide +kernel
theorem d_Form_behind_99 : decode b_Form_behind 99 = .ok (.ireturn, 1) := by decide +kernel
def s_Form_behind (x0 : Nat) (x1 : Int32) (x2 : Int32) (h : HP) : Option (Int32 × HP) :=
  (sG 0).bind fun _ =>
  (s_String_indexOf_0 0 x1).bind fun q2 =>
  if 0 ≤ q2 then (
    (gR h x0 6 1).bind fun v4 =>
    (aI h v4 0 q2).bind fun v6 =>
    if v6 = (-1) then (
      (gR h x0 6 1).bind fun v22 =>
      (uI h v22 0 q2 x2).bind fun h24 =>
      (kd x0 6).bind fun _ =>
      (s_Form_endOf x0 x1 h24).bind fun q27 =>
      some (q27, h24))
    else (
      (gR h x0 6 1).bind fun v8 =>
      (aI h v8 0 q2).bind fun v10 =>
      (kd x0 6).bind fun _ =>
      (s_Form_endOf x0 x1 h).bind fun q13 =>
      (gR h x0 6 0).bind fun v15 =>
      (gR h x0 6 0).bind fun v17 =>
      (kd v15 0).bind fun _ =>
      (s_Text_has v15 x2 v17 v10 q13 h).bind fun q20 =>
      if q20 = 0 then (
        some ((-1), h))
      else (
        some (((x2 + q13) - v10), h))))
  else (
    (gR h x0 6 0).bind fun v29 =>
    (kd v29 0).bind fun _ =>
    (s_Text_at v29 x2 h).bind fun q32 =>
    if q32 = x1 then (
      some ((x2 + 1), h))
    else (
      some ((-1), h)))
set_option maxHeartbeats 4000000 in
set_option maxRecDepth 100000 in
theorem c_Form_behind (l : Launch) (g : GG) {x0 : Nat} {x1 : Int32} {x2 : Int32} {h : HP} {z : Int32 × HP} (hs : s_Form_behind x0 x1 x2 h = some z) : Ct l g y_Form_behind w_Form_behind (rmS 6 169) [.ref (aD g x0), .int x1, .int x2] h (some (.int z.1)) z.2 := by
  refine Ct.of (own := R_Form) (by decide) rfl rfl (Nat.le_of_ble_eq_true rfl) ?_
  intro p e s m args below meth c ls C hl hw
  have hx := C.1
  have hb := C.2.1
  have hl : lv_has ls 6 [(0, .ref (aD g x0)), (1, .int x1), (2, .int x2)] := hl
  unfold s_Form_behind at hs
  refine pg_ldcS (i := 0) C (Nat.le_of_ble_eq_true rfl) rfl rfl d_Form_behind_0 ?_
  refine lv_iload_n hx hb d_Form_behind_2 rfl (lv_at hl 1 rfl) ?_
  obtain ⟨_, e1, hs⟩ := ob hs
  obtain ⟨q2, e3, hs⟩ := ob hs
  refine pg_callT C hw hl.1 ml_Form_42 e1 (As := [.int x1]) (rest := []) (c_String_indexOf_0 l g e3) rfl (rm_ok (Nat.le_of_ble_eq_true rfl) (Nat.le_of_ble_eq_true rfl)) (Nat.le_of_ble_eq_true rfl) rfl (st1 := [.int q2]) rfl d_Form_behind_3 (fun H locs hw => ?_)
  refine lv_istore_n hx hb d_Form_behind_6 rfl hl (by decide) (lv' := [(3, .int q2), (0, .ref (aD g x0)), (1, .int x1), (2, .int x2)]) rfl (fun ls hl => ?_)
  refine lv_iload_n hx hb d_Form_behind_7 rfl (lv_at hl 0 rfl) ?_
  refine lv_if_ge hx hb d_Form_behind_8 (tgt := 31) (by decide) (fun hc => ?_) (fun hc => ?_)
  · have hs := oi_t hc hs
    refine lv_aload_n hx hb d_Form_behind_31 rfl (lv_at hl 1 rfl) ?_
    obtain ⟨v4, e5, hs⟩ := ob hs
    refine pg_getR C hw fl_Form_17 e5 d_Form_behind_32 ?_
    refine lv_iload_n hx hb d_Form_behind_35 rfl (lv_at hl 0 rfl) ?_
    obtain ⟨v6, e7, hs⟩ := ob hs
    refine pg_iaload C hw (t0 := 0) rfl e7 d_Form_behind_36 ?_
    refine lv_iconst (v := (-1)) hx hb d_Form_behind_37 (by decide) ?_
    refine lv_icmp_ne hx hb d_Form_behind_38 (tgt := 54) (by decide) (fun hc => ?_) (fun hc => ?_)
    · have hs := oi_f hc hs
      refine lv_aload_n hx hb d_Form_behind_54 rfl (lv_at hl 1 rfl) ?_
      obtain ⟨v8, e9, hs⟩ := ob hs
      refine pg_getR C hw fl_Form_17 e9 d_Form_behind_55 ?_
      refine lv_iload_n hx hb d_Form_behind_58 rfl (lv_at hl 0 rfl) ?_
      obtain ⟨v10, e11, hs⟩ := ob hs
      refine pg_iaload C hw (t0 := 0) rfl e11 d_Form_behind_59 ?_
      refine lv_istore hx hb d_Form_behind_60 hl (by decide) (lv' := [(4, .int v10), (3, .int q2), (0, .ref (aD g x0)), (1, .int x1), (2, .int x2)]) rfl (fun ls hl => ?_)
      refine lv_aload_n hx hb d_Form_behind_62 rfl (lv_at hl 2 rfl) ?_
      refine lv_iload_n hx hb d_Form_behind_63 rfl (lv_at hl 3 rfl) ?_
      obtain ⟨_, e12, hs⟩ := ob hs
      obtain ⟨q13, e14, hs⟩ := ob hs
      refine pg_callV C hw hl.1 ml_Form_49 e12 (As := [.int x1]) (rest := []) (c_Form_endOf l g e14) rfl (rm_ok (Nat.le_of_ble_eq_true rfl) (Nat.le_of_ble_eq_true rfl)) (Nat.le_of_ble_eq_true rfl) rfl (st1 := [.int q13]) rfl d_Form_behind_64 (fun H locs hw => ?_)
      refine lv_istore hx hb d_Form_behind_67 hl (by decide) (lv' := [(5, .int q13), (4, .int v10), (3, .int q2), (0, .ref (aD g x0)), (1, .int x1), (2, .int x2)]) rfl (fun ls hl => ?_)
      refine lv_aload_n hx hb d_Form_behind_69 rfl (lv_at hl 3 rfl) ?_
      obtain ⟨v15, e16, hs⟩ := ob hs
      refine pg_getR C hw fl_Form_21 e16 d_Form_behind_70 ?_
      refine lv_iload_n hx hb d_Form_behind_73 rfl (lv_at hl 5 rfl) ?_
      refine lv_aload_n hx hb d_Form_behind_74 rfl (lv_at hl 3 rfl) ?_
      obtain ⟨v17, e18, hs⟩ := ob hs
      refine pg_getR C hw fl_Form_21 e18 d_Form_behind_75 ?_
      refine lv_iload hx hb d_Form_behind_78 (lv_at hl 1 rfl) ?_
      refine lv_iload hx hb d_Form_behind_80 (lv_at hl 0 rfl) ?_
      obtain ⟨_, e19, hs⟩ := ob hs
      obtain ⟨q20, e21, hs⟩ := ob hs
      refine pg_callV C hw hl.1 ml_Form_53 e19 (As := [.int x2, .ref (aD g v17), .int v10, .int q13]) (rest := []) (c_Text_has l g e21) rfl (rm_ok (Nat.le_of_ble_eq_true rfl) (Nat.le_of_ble_eq_true rfl)) (Nat.le_of_ble_eq_true rfl) rfl (st1 := [.int q20]) rfl d_Form_behind_82 (fun H locs hw => ?_)
      refine lv_if_eq hx hb d_Form_behind_85 (tgt := 98) (by decide) (fun hc => ?_) (fun hc => ?_)
      · have hs := oi_t hc hs
        refine lv_iconst (v := (-1)) hx hb d_Form_behind_98 (by decide) ?_
        obtain rfl := Option.some.inj hs
        exact pg_iret C hw d_Form_behind_99
      · have hs := oi_f hc hs
        refine lv_iload_n hx hb d_Form_behind_88 rfl (lv_at hl 5 rfl) ?_
        refine lv_iload hx hb d_Form_behind_89 (lv_at hl 0 rfl) ?_
        refine lv_iadd hx hb d_Form_behind_91 ?_
        refine lv_iload hx hb d_Form_behind_92 (lv_at hl 1 rfl) ?_
        refine lv_isub hx hb d_Form_behind_94 ?_
        refine lv_goto hx hb d_Form_behind_95 (tgt := 99) (by decide) ?_
        obtain rfl := Option.some.inj hs
        exact pg_iret C hw d_Form_behind_99
    · have hs := oi_t hc hs
      refine lv_aload_n hx hb d_Form_behind_41 rfl (lv_at hl 1 rfl) ?_
      obtain ⟨v22, e23, hs⟩ := ob hs
      refine pg_getR C hw fl_Form_17 e23 d_Form_behind_42 ?_
      refine lv_iload_n hx hb d_Form_behind_45 rfl (lv_at hl 0 rfl) ?_
      refine lv_iload_n hx hb d_Form_behind_46 rfl (lv_at hl 3 rfl) ?_
      obtain ⟨h24, e25, hs⟩ := ob hs
      refine pg_iastore C hw (t0 := 0) rfl e25 d_Form_behind_47 (fun H locs hw => ?_)
      refine lv_aload_n hx hb d_Form_behind_48 rfl (lv_at hl 1 rfl) ?_
      refine lv_iload_n hx hb d_Form_behind_49 rfl (lv_at hl 2 rfl) ?_
      obtain ⟨_, e26, hs⟩ := ob hs
      obtain ⟨q27, e28, hs⟩ := ob hs
      refine pg_callV C hw hl.1 ml_Form_49 e26 (As := [.int x1]) (rest := []) (c_Form_endOf l g e28) rfl (rm_ok (Nat.le_of_ble_eq_true rfl) (Nat.le_of_ble_eq_true rfl)) (Nat.le_of_ble_eq_true rfl) rfl (st1 := [.int q27]) rfl d_Form_behind_50 (fun H locs hw => ?_)
      obtain rfl := Option.some.inj hs
      exact pg_iret C hw d_Form_behind_53
  · have hs := oi_f hc hs
    refine lv_aload_n hx hb d_Form_behind_11 rfl (lv_at hl 1 rfl) ?_
    obtain ⟨v29, e30, hs⟩ := ob hs
    refine pg_getR C hw fl_Form_21 e30 d_Form_behind_12 ?_
    refine lv_iload_n hx hb d_Form_behind_15 rfl (lv_at hl 3 rfl) ?_
    obtain ⟨_, e31, hs⟩ := ob hs
    obtain ⟨q32, e33, hs⟩ := ob hs
    refine pg_callV C hw hl.1 ml_Form_46 e31 (As := [.int x2]) (rest := []) (c_Text_at l g e33) rfl (rm_ok (Nat.le_of_ble_eq_true rfl) (Nat.le_of_ble_eq_true rfl)) (Nat.le_of_ble_eq_true rfl) rfl (st1 := [.int q32]) rfl d_Form_behind_16 (fun H locs hw => ?_)
    refine lv_iload_n hx hb d_Form_behind_19 rfl (lv_at hl 2 rfl) ?_
    refine lv_icmp_ne hx hb d_Form_behind_20 (tgt := 29) (by decide) (fun hc => ?_) (fun hc => ?_)
    · have hs := oi_f hc hs
      refine lv_iconst (v := (-1)) hx hb d_Form_behind_29 (by decide) ?_
      obtain rfl := Option.some.inj hs
      exact pg_iret C hw d_Form_behind_30
    · have hs := oi_t hc hs
      refine lv_iload_n hx hb d_Form_behind_23 rfl (lv_at hl 3 rfl) ?_
      refine lv_iconst (v := 1) hx hb d_Form_behind_24 (by decide) ?_
      refine lv_iadd hx hb d_Form_behind_25 ?_
      refine lv_goto hx hb d_Form_behind_26 (tgt := 30) (by decide) ?_
      obtain rfl := Option.some.inj hs
      exact pg_iret C hw d_Form_behind_30

end
section
variable {p : Program} {l : Launch} {e : Env} {s : State} {m : MethodId} {args : Array Value} {below : List Frame} {meth : Method} {c : Code} {g : GG}
theorem d_Form_fits_0 : decode b_Form_fits 0 = .ok (.aload_n 0, 1) := by decide +kernel
theorem d_Form_fits_1 : decode b_Form_fits 1 = .ok (.getfield 17, 3) := by decide +kernel
theorem d_Form_fits_4 : decode b_Form_fits 4 = .ok (.iconst (-1), 1) := by decide +kernel
theorem d_Form_fits_5 : decode b_Form_fits 5 = .ok (.invokestatic 25, 3) := by decide +kernel
theorem d_Form_fits_8 : decode b_Form_fits 8 = .ok (.iconst 0, 1) := by decide +kernel
theorem d_Form_fits_9 : decode b_Form_fits 9 = .ok (.istore_n 2, 1) := by decide +kernel
theorem d_Form_fits_10 : decode b_Form_fits 10 = .ok (.iconst 0, 1) := by decide +kernel
theorem d_Form_fits_11 : decode b_Form_fits 11 = .ok (.istore_n 3, 1) := by decide +kernel
theorem d_Form_fits_12 : decode b_Form_fits 12 = .ok (.iload_n 3, 1) := by decide +kernel
theorem d_Form_fits_13 : decode b_Form_fits 13 = .ok (.aload_n 1, 1) := by decide +kernel
theorem d_Form_fits_14 : decode b_Form_fits 14 = .ok (.invokevirtual 11, 3) := by decide +kernel
theorem d_Form_fits_17 : decode b_Form_fits 17 = .ok (.if_icmp .ge 25, 3) := by decide +kernel
theorem d_Form_fits_20 : decode b_Form_fits 20 = .ok (.iload_n 2, 1) := by decide +kernel
theorem d_Form_fits_21 : decode b_Form_fits 21 = .ok (.iconst (-1), 1) := by decide +kernel
theorem d_Form_fits_22 : decode b_Form_fits 22 = .ok (.if_icmp .eq 20, 3) := by decide +kernel
theorem d_Form_fits_25 : decode b_Form_fits 25 = .ok (.aload_n 0, 1) := by decide +kernel
theorem d_Form_fits_26 : decode b_Form_fits 26 = .ok (.aload_n 1, 1) := by decide +kernel
theorem d_Form_fits_27 : decode b_Form_fits 27 = .ok (.iload_n 3, 1) := by decide +kernel
theorem d_Form_fits_28 : decode b_Form_fits 28 = .ok (.invokevirtual 31, 3) := by decide +kernel
theorem d_Form_fits_31 : decode b_Form_fits 31 = .ok (.iload_n 2, 1) := by decide +kernel
theorem d_Form_fits_32 : decode b_Form_fits 32 = .ok (.invokevirtual 35, 3) := by decide +kernel
theorem d_Form_fits_35 : decode b_Form_fits 35 = .ok (.istore_n 2, 1) := by decide +kernel
theorem d_Form_fits_36 : decode b_Form_fits 36 = .ok (.iinc 3 1, 3) := by decide +kernel
theorem d_Form_fits_39 : decode b_Form_fits 39 = .ok (.goto (-27), 3) := by decide +kernel
theorem d_Form_fits_42 : decode b_Form_fits 42 = .ok (.iload_n 2, 1) := by decide +kernel
theorem d_Form_fits_43 : decode b_Form_fits 43 = .ok (.aload_n 0, 1) := by decide +kernel
theorem d_Form_fits_44 : decode b_Form_fits 44 = .ok (.getfield 21, 3) := by decide +kernel
theorem d_Form_fits_47 : decode b_Form_fits 47 = .ok (.invokevirtual 39, 3) := by decide +kernel
theorem d_Form_fits_50 : decode b_Form_fits 50 = .ok (.if_icmp .ne 7, 3) := by decide +kernel
theorem d_Form_fits_53 : decode b_Form_fits 53 = .ok (.iconst 1, 1) := by decide +kernel
theorem d_Form_fits_54 : decode b_Form_fits 54 = .ok (.goto 4, 3) := by decide +kernel
theorem d_Form_fits_57 : decode b_Form_fits 57 = .ok (.iconst 0, 1) := by decide +kernel
theorem d_Form_fits_58 : decode b_Form_fits 58 = .ok (.ireturn, 1) := by decide +kernel
def s_Form_fits_42 (x0 : Nat) (x2 : Int32) (h : HP) : Option (Int32 × HP) :=
  (gR h x0 6 0).bind fun v1 =>
  (kd v1 0).bind fun _ =>
  (s_Text_length v1 h).bind fun q4 =>
  if x2 = q4 then (
    some (1, h))
  else (
    some (0, h))
set_option maxHeartbeats 4000000 in
set_option maxRecDepth 100000 in
theorem k_Form_fits_42 {x0 : Nat} {x2 : Int32} {h : HP} {z : Int32 × HP} (C : CX g R_Form b_Form_fits 4 (some .boolean) p s m args meth c) {H : Heap} {locs : List Loc} {ls : Array Slot} (hw : WD g h s.heap H locs) (hl : lv_has ls 4 [(0, .ref (aD g x0)), (2, .int x2)]) (hs : s_Form_fits_42 x0 x2 h = some z) : W p l e (rmS 7 194) s m args below meth c H locs 0 0 (MQ below (Qq g (some (.int z.1)) z.2) args s 0 0 (inA g)) (F0 m 42 ls []) := by
  unfold s_Form_fits_42 at hs
  have hx := C.1
  have hb := C.2.1
  refine lv_iload_n hx hb d_Form_fits_42 rfl (lv_at hl 1 rfl) ?_
  refine lv_aload_n hx hb d_Form_fits_43 rfl (lv_at hl 0 rfl) ?_
  obtain ⟨v1, e2, hs⟩ := ob hs
  refine pg_getR C hw fl_Form_21 e2 d_Form_fits_44 ?_
  obtain ⟨_, e3, hs⟩ := ob hs
  obtain ⟨q4, e5, hs⟩ := ob hs
  refine pg_callV C hw hl.1 ml_Form_39 e3 (As := []) (rest := [.int x2]) (c_Text_length l g e5) rfl (rm_ok (Nat.le_of_ble_eq_true rfl) (Nat.le_of_ble_eq_true rfl)) (Nat.le_of_ble_eq_true rfl) rfl (st1 := [.int q4, .int x2]) rfl d_Form_fits_47 (fun H locs hw => ?_)
  refine lv_icmp_ne hx hb d_Form_fits_50 (tgt := 57) (by decide) (fun hc => ?_) (fun hc => ?_)
  · have hs := oi_f hc hs
    refine lv_iconst (v := 0) hx hb d_Form_fits_57 (by decide) ?_
    obtain rfl := Option.some.inj hs
    exact pg_zret (v := 0) C hw rfl d_Form_fits_58
  · have hs := oi_t hc hs
    refine lv_iconst (v := 1) hx hb d_Form_fits_53 (by decide) ?_
    refine lv_goto hx hb d_Form_fits_54 (tgt := 58) (by decide) ?_
    obtain rfl := Option.some.inj hs
    exact pg_zret (v := 1) C hw rfl d_Form_fits_58

def s_Form_fits_12 : Nat → Nat → Nat → Int32 → Int32 → HP → Option (Int32 × HP)
  | 0 => fun _ _ _ _ _ => none
  | k + 1 => fun x0 x1 x2 x3 h =>
  (sG x1).bind fun _ =>
  (s_String_length x1).bind fun q2 =>
  if q2 ≤ x3 then (
    s_Form_fits_42 x0 x2 h)
  else (
    if x2 = (-1) then (
      s_Form_fits_42 x0 x2 h)
    else (
      (sG x1).bind fun _ =>
      (s_String_charAt x1 x3).bind fun q5 =>
      (kd x0 6).bind fun _ =>
      (s_Form_behind x0 q5 x2 h).bind fun q8 =>
      (s_Form_fits_12 k) x0 x1 q8.1 (x3 + 1) q8.2))
set_option maxHeartbeats 4000000 in
set_option maxRecDepth 100000 in
theorem k_Form_fits_12 {z : Int32 × HP} (C : CX g R_Form b_Form_fits 4 (some .boolean) p s m args meth c) : ∀ (k : Nat) {x0 : Nat} {x1 : Nat} {x2 : Int32} {x3 : Int32} {h : HP} {H : Heap} {locs : List Loc} {ls : Array Slot}, WD g h s.heap H locs → lv_has ls 4 [(0, .ref (aD g x0)), (1, .ref (sK g x1)), (2, .int x2), (3, .int x3)] → s_Form_fits_12 k x0 x1 x2 x3 h = some z → W p l e (rmS 7 194) s m args below meth c H locs 0 0 (MQ below (Qq g (some (.int z.1)) z.2) args s 0 0 (inA g)) (F0 m 12 ls []) := by
  have hx := C.1
  have hb := C.2.1
  intro k
  induction k with
  | zero =>
    intro x0 x1 x2 x3 h H locs ls hw hl hs
    exact (no_s hs).elim
  | succ k ih =>
    intro x0 x1 x2 x3 h H locs ls hw hl hs
    rw [s_Form_fits_12] at hs
    refine lv_iload_n hx hb d_Form_fits_12 rfl (lv_at hl 3 rfl) ?_
    refine lv_aload_n hx hb d_Form_fits_13 rfl (lv_at hl 1 rfl) ?_
    obtain ⟨_, e1, hs⟩ := ob hs
    obtain ⟨q2, e3, hs⟩ := ob hs
    refine pg_callT C hw hl.1 ml_Form_11 e1 (As := []) (rest := [.int x3]) (c_String_length l g e3) rfl (rm_ok (Nat.le_of_ble_eq_true rfl) (Nat.le_of_ble_eq_true rfl)) (Nat.le_of_ble_eq_true rfl) rfl (st1 := [.int q2, .int x3]) rfl d_Form_fits_14 (fun H locs hw => ?_)
    refine lv_icmp_ge hx hb d_Form_fits_17 (tgt := 42) (by decide) (fun hc => ?_) (fun hc => ?_)
    · have hs := oi_t hc hs
      exact k_Form_fits_42 C hw (lv_sub hl [0, 2] rfl) hs
    · have hs := oi_f hc hs
      refine lv_iload_n hx hb d_Form_fits_20 rfl (lv_at hl 2 rfl) ?_
      refine lv_iconst (v := (-1)) hx hb d_Form_fits_21 (by decide) ?_
      refine lv_icmp_eq hx hb d_Form_fits_22 (tgt := 42) (by decide) (fun hc => ?_) (fun hc => ?_)
      · have hs := oi_t hc hs
        exact k_Form_fits_42 C hw (lv_sub hl [0, 2] rfl) hs
      · have hs := oi_f hc hs
        refine lv_aload_n hx hb d_Form_fits_25 rfl (lv_at hl 0 rfl) ?_
        refine lv_aload_n hx hb d_Form_fits_26 rfl (lv_at hl 1 rfl) ?_
        refine lv_iload_n hx hb d_Form_fits_27 rfl (lv_at hl 3 rfl) ?_
        obtain ⟨_, e4, hs⟩ := ob hs
        obtain ⟨q5, e6, hs⟩ := ob hs
        refine pg_callT C hw hl.1 ml_Form_31 e4 (As := [.int x3]) (rest := [.ref (aD g x0)]) (c_String_charAt l g e6) rfl (rm_ok (Nat.le_of_ble_eq_true rfl) (Nat.le_of_ble_eq_true rfl)) (Nat.le_of_ble_eq_true rfl) rfl (st1 := [.int q5, .ref (aD g x0)]) rfl d_Form_fits_28 (fun H locs hw => ?_)
        refine lv_iload_n hx hb d_Form_fits_31 rfl (lv_at hl 2 rfl) ?_
        obtain ⟨_, e7, hs⟩ := ob hs
        obtain ⟨q8, e9, hs⟩ := ob hs
        refine pg_callV C hw hl.1 ml_Form_35 e7 (As := [.int q5, .int x2]) (rest := []) (c_Form_behind l g e9) rfl (rm_ok (Nat.le_of_ble_eq_true rfl) (Nat.le_of_ble_eq_true rfl)) (Nat.le_of_ble_eq_true rfl) rfl (st1 := [.int q8.1]) rfl d_Form_fits_32 (fun H locs hw => ?_)
        refine lv_istore_n hx hb d_Form_fits_35 rfl hl (by decide) (lv' := [(2, .int q8.1), (0, .ref (aD g x0)), (1, .ref (sK g x1)), (3, .int x3)]) rfl (fun ls hl => ?_)
        refine lv_iinc hx hb d_Form_fits_36 hl (k := 3) rfl (v := (x3 + 1)) (iinc_e _ (by decide)) (by decide) (lv' := [(3, .int (x3 + 1)), (2, .int q8.1), (0, .ref (aD g x0)), (1, .ref (sK g x1))]) rfl (fun ls hl => ?_)
        refine lv_goto hx hb d_Form_fits_39 (tgt := 12) (by decide) ?_
        exact ih hw (lv_sub hl [2, 3, 1, 0] rfl) hs

def s_Form_fits (x0 : Nat) (x1 : Nat) (h : HP) : Option (Int32 × HP) :=
  (gR h x0 6 1).bind fun v1 =>
  (s_Arrays_fill v1 (-1) h).bind fun q3 =>
  s_Form_fits_12 20000 x0 x1 0 0 q3
set_option maxHeartbeats 4000000 in
set_option maxRecDepth 100000 in
theorem c_Form_fits (l : Launch) (g : GG) {x0 : Nat} {x1 : Nat} {h : HP} {z : Int32 × HP} (hs : s_Form_fits x0 x1 h = some z) : Ct l g y_Form_fits w_Form_fits (rmS 7 194) [.ref (aD g x0), .ref (sK g x1)] h (some (.int z.1)) z.2 := by
  refine Ct.of (own := R_Form) (by decide) rfl rfl (Nat.le_of_ble_eq_true rfl) ?_
  intro p e s m args below meth c ls C hl hw
  have hx := C.1
  have hb := C.2.1
  have hl : lv_has ls 4 [(0, .ref (aD g x0)), (1, .ref (sK g x1))] := hl
  unfold s_Form_fits at hs
  refine lv_aload_n hx hb d_Form_fits_0 rfl (lv_at hl 0 rfl) ?_
  obtain ⟨v1, e2, hs⟩ := ob hs
  refine pg_getR C hw fl_Form_17 e2 d_Form_fits_1 ?_
  refine lv_iconst (v := (-1)) hx hb d_Form_fits_4 (by decide) ?_
  obtain ⟨q3, e4, hs⟩ := ob hs
  refine pg_callS C hw hl.1 ml_Form_25 (As := [.ref (aD g v1), .int (-1)]) (rest := []) (c_Arrays_fill l g e4) rfl (rm_ok (Nat.le_of_ble_eq_true rfl) (Nat.le_of_ble_eq_true rfl)) (Nat.le_of_ble_eq_true rfl) rfl (st1 := []) rfl d_Form_fits_5 (fun H locs hw => ?_)
  refine lv_iconst (v := 0) hx hb d_Form_fits_8 (by decide) ?_
  refine lv_istore_n hx hb d_Form_fits_9 rfl hl (by decide) (lv' := [(2, .int 0), (0, .ref (aD g x0)), (1, .ref (sK g x1))]) rfl (fun ls hl => ?_)
  refine lv_iconst (v := 0) hx hb d_Form_fits_10 (by decide) ?_
  refine lv_istore_n hx hb d_Form_fits_11 rfl hl (by decide) (lv' := [(3, .int 0), (2, .int 0), (0, .ref (aD g x0)), (1, .ref (sK g x1))]) rfl (fun ls hl => ?_)
  exact k_Form_fits_12 C 20000 hw (lv_sub hl [2, 3, 1, 0] rfl) hs

end
section
variable {p : Program} {l : Launch} {e : Env} {s : State} {m : MethodId} {args : Array Value} {below : List Frame} {meth : Method} {c : Code} {g : GG}
theorem d_Form_letter_0 : decode b_Form_letter 0 = .ok (.aload_n 0, 1) := by decide +kernel
theorem d_Form_letter_1 : decode b_Form_letter 1 = .ok (.getfield 21, 3) := by decide +kernel
theorem d_Form_letter_4 : decode b_Form_letter 4 = .ok (.aload_n 0, 1) := by decide +kernel
theorem d_Form_letter_5 : decode b_Form_letter 5 = .ok (.bipush 120, 2) := by decide +kernel
theorem d_Form_letter_7 : decode b_Form_letter 7 = .ok (.invokevirtual 57, 3) := by decide +kernel
theorem d_Form_letter_10 : decode b_Form_letter 10 = .ok (.invokevirtual 46, 3) := by decide +kernel
theorem d_Form_letter_13 : decode b_Form_letter 13 = .ok (.bipush 97, 2) := by decide +kernel
theorem d_Form_letter_15 : decode b_Form_letter 15 = .ok (.isub, 1) := by decide +kernel
theorem d_Form_letter_16 : decode b_Form_letter 16 = .ok (.ireturn, 1) := by decide +kernel
def s_Form_letter (x0 : Nat) (h : HP) : Option (Int32) :=
  (gR h x0 6 0).bind fun v1 =>
  (kd x0 6).bind fun _ =>
  (s_Form_placeOf x0 120 h).bind fun q4 =>
  (kd v1 0).bind fun _ =>
  (s_Text_at v1 q4 h).bind fun q7 =>
  some (q7 - 97)
set_option maxHeartbeats 4000000 in
set_option maxRecDepth 100000 in
theorem c_Form_letter (l : Launch) (g : GG) {h : HP} {x0 : Nat} {z : Int32} (hs : s_Form_letter x0 h = some z) : Ct l g y_Form_letter w_Form_letter (rmS 5 148) [.ref (aD g x0)] h (some (.int z)) h := by
  refine Ct.of (own := R_Form) (by decide) rfl rfl (Nat.le_of_ble_eq_true rfl) ?_
  intro p e s m args below meth c ls C hl hw
  have hx := C.1
  have hb := C.2.1
  have hl : lv_has ls 1 [(0, .ref (aD g x0))] := hl
  unfold s_Form_letter at hs
  refine lv_aload_n hx hb d_Form_letter_0 rfl (lv_at hl 0 rfl) ?_
  obtain ⟨v1, e2, hs⟩ := ob hs
  refine pg_getR C hw fl_Form_21 e2 d_Form_letter_1 ?_
  refine lv_aload_n hx hb d_Form_letter_4 rfl (lv_at hl 0 rfl) ?_
  refine lv_bipush (v := 120) hx hb d_Form_letter_5 (by decide) ?_
  obtain ⟨_, e3, hs⟩ := ob hs
  obtain ⟨q4, e5, hs⟩ := ob hs
  refine pg_callV C hw hl.1 ml_Form_57 e3 (As := [.int 120]) (rest := [.ref (aD g v1)]) (c_Form_placeOf l g e5) rfl (rm_ok (Nat.le_of_ble_eq_true rfl) (Nat.le_of_ble_eq_true rfl)) (Nat.le_of_ble_eq_true rfl) rfl (st1 := [.int q4, .ref (aD g v1)]) rfl d_Form_letter_7 (fun H locs hw => ?_)
  obtain ⟨_, e6, hs⟩ := ob hs
  obtain ⟨q7, e8, hs⟩ := ob hs
  refine pg_callV C hw hl.1 ml_Form_46 e6 (As := [.int q4]) (rest := []) (c_Text_at l g e8) rfl (rm_ok (Nat.le_of_ble_eq_true rfl) (Nat.le_of_ble_eq_true rfl)) (Nat.le_of_ble_eq_true rfl) rfl (st1 := [.int q7]) rfl d_Form_letter_10 (fun H locs hw => ?_)
  refine lv_bipush (v := 97) hx hb d_Form_letter_13 (by decide) ?_
  refine lv_isub hx hb d_Form_letter_15 ?_
  obtain rfl := Option.some.inj hs
  exact pg_iret C hw d_Form_letter_16

end
section
variable {p : Program} {l : Launch} {e : Env} {s : State} {m : MethodId} {args : Array Value} {below : List Frame} {meth : Method} {c : Code} {g : GG}
theorem d_Form_letterIsFreeIn_0 : decode b_Form_letterIsFreeIn 0 = .ok (.aload_n 0, 1) := by decide +kernel
theorem d_Form_letterIsFreeIn_1 : decode b_Form_letterIsFreeIn 1 = .ok (.getfield 21, 3) := by decide +kernel
theorem d_Form_letterIsFreeIn_4 : decode b_Form_letterIsFreeIn 4 = .ok (.aload_n 0, 1) := by decide +kernel
theorem d_Form_letterIsFreeIn_5 : decode b_Form_letterIsFreeIn 5 = .ok (.iload_n 1, 1) := by decide +kernel
theorem d_Form_letterIsFreeIn_6 : decode b_Form_letterIsFreeIn 6 = .ok (.invokevirtual 57, 3) := by decide +kernel
theorem d_Form_letterIsFreeIn_9 : decode b_Form_letterIsFreeIn 9 = .ok (.iconst 1, 1) := by decide +kernel
theorem d_Form_letterIsFreeIn_10 : decode b_Form_letterIsFreeIn 10 = .ok (.invokevirtual 62, 3) := by decide +kernel
theorem d_Form_letterIsFreeIn_13 : decode b_Form_letterIsFreeIn 13 = .ok (.aload_n 0, 1) := by decide +kernel
theorem d_Form_letterIsFreeIn_14 : decode b_Form_letterIsFreeIn 14 = .ok (.invokevirtual 66, 3) := by decide +kernel
theorem d_Form_letterIsFreeIn_17 : decode b_Form_letterIsFreeIn 17 = .ok (.ishr, 1) := by decide +kernel
theorem d_Form_letterIsFreeIn_18 : decode b_Form_letterIsFreeIn 18 = .ok (.iconst 1, 1) := by decide +kernel
theorem d_Form_letterIsFreeIn_19 : decode b_Form_letterIsFreeIn 19 = .ok (.iand, 1) := by decide +kernel
theorem d_Form_letterIsFreeIn_20 : decode b_Form_letterIsFreeIn 20 = .ok (.ifCond .eq 7, 3) := by decide +kernel
theorem d_Form_letterIsFreeIn_23 : decode b_Form_letterIsFreeIn 23 = .ok (.iconst 1, 1) := by decide +kernel
theorem d_Form_letterIsFreeIn_24 : decode b_Form_letterIsFreeIn 24 = .ok (.goto 4, 3) := by decide +kernel
theorem d_Form_letterIsFreeIn_27 : decode b_Form_letterIsFreeIn 27 = .ok (.iconst 0, 1) := by decide +kernel
theorem d_Form_letterIsFreeIn_28 : decode b_Form_letterIsFreeIn 28 = .ok (.ireturn, 1) := by decide +kernel
def s_Form_letterIsFreeIn (x0 : Nat) (x1 : Int32) (h : HP) : Option (Int32) :=
  (gR h x0 6 0).bind fun v1 =>
  (kd x0 6).bind fun _ =>
  (s_Form_placeOf x0 x1 h).bind fun q4 =>
  (kd v1 0).bind fun _ =>
  ((s_grp_Text_freeIn 13) v1 q4 1 h).bind fun q7 =>
  (kd x0 6).bind fun _ =>
  (s_Form_letter x0 h).bind fun q10 =>
  if ((q7 >>> (q10 &&& 31)) &&& 1) = 0 then (
    some 0)
  else (
    some 1)
set_option maxHeartbeats 4000000 in
set_option maxRecDepth 100000 in
theorem c_Form_letterIsFreeIn (l : Launch) (g : GG) {h : HP} {x0 : Nat} {x1 : Int32} {z : Int32} (hs : s_Form_letterIsFreeIn x0 x1 h = some z) : Ct l g y_Form_letterIsFreeIn w_Form_letterIsFreeIn (rmS 16 434) [.ref (aD g x0), .int x1] h (some (.int z)) h := by
  refine Ct.of (own := R_Form) (by decide) rfl rfl (Nat.le_of_ble_eq_true rfl) ?_
  intro p e s m args below meth c ls C hl hw
  have hx := C.1
  have hb := C.2.1
  have hl : lv_has ls 2 [(0, .ref (aD g x0)), (1, .int x1)] := hl
  unfold s_Form_letterIsFreeIn at hs
  refine lv_aload_n hx hb d_Form_letterIsFreeIn_0 rfl (lv_at hl 0 rfl) ?_
  obtain ⟨v1, e2, hs⟩ := ob hs
  refine pg_getR C hw fl_Form_21 e2 d_Form_letterIsFreeIn_1 ?_
  refine lv_aload_n hx hb d_Form_letterIsFreeIn_4 rfl (lv_at hl 0 rfl) ?_
  refine lv_iload_n hx hb d_Form_letterIsFreeIn_5 rfl (lv_at hl 1 rfl) ?_
  obtain ⟨_, e3, hs⟩ := ob hs
  obtain ⟨q4, e5, hs⟩ := ob hs
  refine pg_callV C hw hl.1 ml_Form_57 e3 (As := [.int x1]) (rest := [.ref (aD g v1)]) (c_Form_placeOf l g e5) rfl (rm_ok (Nat.le_of_ble_eq_true rfl) (Nat.le_of_ble_eq_true rfl)) (Nat.le_of_ble_eq_true rfl) rfl (st1 := [.int q4, .ref (aD g v1)]) rfl d_Form_letterIsFreeIn_6 (fun H locs hw => ?_)
  refine lv_iconst (v := 1) hx hb d_Form_letterIsFreeIn_9 (by decide) ?_
  obtain ⟨_, e6, hs⟩ := ob hs
  obtain ⟨q7, e8, hs⟩ := ob hs
  refine pg_callV C hw hl.1 ml_Form_62 e6 (As := [.int q4, .int 1]) (rest := []) ((cg_Text_freeIn l g 13) e8) rfl (rm_ok (Nat.le_of_ble_eq_true rfl) (Nat.le_of_ble_eq_true rfl)) (Nat.le_of_ble_eq_true rfl) rfl (st1 := [.int q7]) rfl d_Form_letterIsFreeIn_10 (fun H locs hw => ?_)
  refine lv_aload_n hx hb d_Form_letterIsFreeIn_13 rfl (lv_at hl 0 rfl) ?_
  obtain ⟨_, e9, hs⟩ := ob hs
  obtain ⟨q10, e11, hs⟩ := ob hs
  refine pg_callV C hw hl.1 ml_Form_66 e9 (As := []) (rest := [.int q7]) (c_Form_letter l g e11) rfl (rm_ok (Nat.le_of_ble_eq_true rfl) (Nat.le_of_ble_eq_true rfl)) (Nat.le_of_ble_eq_true rfl) rfl (st1 := [.int q10, .int q7]) rfl d_Form_letterIsFreeIn_14 (fun H locs hw => ?_)
  refine lv_ishr hx hb d_Form_letterIsFreeIn_17 ?_
  refine lv_iconst (v := 1) hx hb d_Form_letterIsFreeIn_18 (by decide) ?_
  refine lv_iand hx hb d_Form_letterIsFreeIn_19 ?_
  refine lv_if_eq hx hb d_Form_letterIsFreeIn_20 (tgt := 27) (by decide) (fun hc => ?_) (fun hc => ?_)
  · have hs := oi_t hc hs
    refine lv_iconst (v := 0) hx hb d_Form_letterIsFreeIn_27 (by decide) ?_
    obtain rfl := Option.some.inj hs
    exact pg_zret (v := 0) C hw rfl d_Form_letterIsFreeIn_28
  · have hs := oi_f hc hs
    refine lv_iconst (v := 1) hx hb d_Form_letterIsFreeIn_23 (by decide) ?_
    refine lv_goto hx hb d_Form_letterIsFreeIn_24 (tgt := 28) (by decide) ?_
    obtain rfl := Option.some.inj hs
    exact pg_zret (v := 1) C hw rfl d_Form_letterIsFreeIn_28

end
section
variable {p : Program} {l : Launch} {e : Env} {s : State} {m : MethodId} {args : Array Value} {below : List Frame} {meth : Method} {c : Code} {g : GG}
theorem d_Replacement_begin_0 : decode b_Replacement_begin 0 = .ok (.aload_n 0, 1) := by decide +kernel
theorem d_Replacement_begin_1 : decode b_Replacement_begin 1 = .ok (.aload_n 1, 1) := by decide +kernel
theorem d_Replacement_begin_2 : decode b_Replacement_begin 2 = .ok (.putfield 19, 3) := by decide +kernel
theorem d_Replacement_begin_5 : decode b_Replacement_begin 5 = .ok (.aload_n 0, 1) := by decide +kernel
theorem d_Replacement_begin_6 : decode b_Replacement_begin 6 = .ok (.getfield 9, 3) := by decide +kernel
theorem d_Replacement_begin_9 : decode b_Replacement_begin 9 = .ok (.iconst (-1), 1) := by decide +kernel
theorem d_Replacement_begin_10 : decode b_Replacement_begin 10 = .ok (.invokestatic 23, 3) := by decide +kernel
theorem d_Replacement_begin_13 : decode b_Replacement_begin 13 = .ok (.return_, 1) := by decide +kernel
def s_Replacement_begin (x0 : Nat) (x1 : Nat) (h : HP) : Option (HP) :=
  (pR h x0 5 1 x1).bind fun h1 =>
  (gR h1 x0 5 0).bind fun v3 =>
  (s_Arrays_fill v3 (-1) h1).bind fun q5 =>
  some q5
set_option maxHeartbeats 4000000 in
set_option maxRecDepth 100000 in
theorem c_Replacement_begin (l : Launch) (g : GG) {x0 : Nat} {x1 : Nat} {h : HP} {z : HP} (hs : s_Replacement_begin x0 x1 h = some z) : Ct l g y_Replacement_begin w_Replacement_begin (rmS 1 23) [.ref (aD g x0), .ref (aD g x1)] h none z := by
  refine Ct.of (own := R_Replacement) (by decide) rfl rfl (Nat.le_of_ble_eq_true rfl) ?_
  intro p e s m args below meth c ls C hl hw
  have hx := C.1
  have hb := C.2.1
  have hl : lv_has ls 2 [(0, .ref (aD g x0)), (1, .ref (aD g x1))] := hl
  unfold s_Replacement_begin at hs
  refine lv_aload_n hx hb d_Replacement_begin_0 rfl (lv_at hl 0 rfl) ?_
  refine lv_aload_n hx hb d_Replacement_begin_1 rfl (lv_at hl 1 rfl) ?_
  obtain ⟨h1, e2, hs⟩ := ob hs
  refine pg_putR C hw pl_Replacement_19 e2 d_Replacement_begin_2 (fun H locs hw => ?_)
  refine lv_aload_n hx hb d_Replacement_begin_5 rfl (lv_at hl 0 rfl) ?_
  obtain ⟨v3, e4, hs⟩ := ob hs
  refine pg_getR C hw fl_Replacement_9 e4 d_Replacement_begin_6 ?_
  refine lv_iconst (v := (-1)) hx hb d_Replacement_begin_9 (by decide) ?_
  obtain ⟨q5, e6, hs⟩ := ob hs
  refine pg_callS C hw hl.1 ml_Replacement_23 (As := [.ref (aD g v3), .int (-1)]) (rest := []) (c_Arrays_fill l g e6) rfl (rm_ok (Nat.le_of_ble_eq_true rfl) (Nat.le_of_ble_eq_true rfl)) (Nat.le_of_ble_eq_true rfl) rfl (st1 := []) rfl d_Replacement_begin_10 (fun H locs hw => ?_)
  obtain rfl := Option.some.inj hs
  exact pg_vret C hw d_Replacement_begin_13

end
section
variable {p : Program} {l : Launch} {e : Env} {s : State} {m : MethodId} {args : Array Value} {below : List Frame} {meth : Method} {c : Code} {g : GG}
theorem d_Replacement_put_0 : decode b_Replacement_put 0 = .ok (.iload_n 1, 1) := by decide +kernel
theorem d_Replacement_put_1 : decode b_Replacement_put 1 = .ok (.ifCond .lt 16, 3) := by decide +kernel
theorem d_Replacement_put_4 : decode b_Replacement_put 4 = .ok (.iload_n 1, 1) := by decide +kernel
theorem d_Replacement_put_5 : decode b_Replacement_put 5 = .ok (.bipush 8, 2) := by decide +kernel
theorem d_Replacement_put_7 : decode b_Replacement_put 7 = .ok (.if_icmp .ge 10, 3) := by decide +kernel
theorem d_Replacement_put_10 : decode b_Replacement_put 10 = .ok (.aload_n 0, 1) := by decide +kernel
theorem d_Replacement_put_11 : decode b_Replacement_put 11 = .ok (.getfield 9, 3) := by decide +kernel
theorem d_Replacement_put_14 : decode b_Replacement_put 14 = .ok (.iload_n 1, 1) := by decide +kernel
theorem d_Replacement_put_15 : decode b_Replacement_put 15 = .ok (.iload_n 2, 1) := by decide +kernel
theorem d_Replacement_put_16 : decode b_Replacement_put 16 = .ok (.iastore, 1) := by decide +kernel
theorem d_Replacement_put_17 : decode b_Replacement_put 17 = .ok (.return_, 1) := by decide +kernel
def s_Replacement_put (x0 : Nat) (x1 : Int32) (x2 : Int32) (h : HP) : Option (HP) :=
  if x1 < 0 then (
    some h)
  else (
    if 8 ≤ x1 then (
      some h)
    else (
      (gR h x0 5 0).bind fun v1 =>
      (uI h v1 0 x1 x2).bind fun h3 =>
      some h3))
set_option maxHeartbeats 4000000 in
set_option maxRecDepth 100000 in
theorem c_Replacement_put (l : Launch) (g : GG) {x0 : Nat} {x1 : Int32} {x2 : Int32} {h : HP} {z : HP} (hs : s_Replacement_put x0 x1 x2 h = some z) : Ct l g y_Replacement_put w_Replacement_put (rmS 0 0) [.ref (aD g x0), .int x1, .int x2] h none z := by
  refine Ct.of (own := R_Replacement) (by decide) rfl rfl (Nat.le_of_ble_eq_true rfl) ?_
  intro p e s m args below meth c ls C hl hw
  have hx := C.1
  have hb := C.2.1
  have hl : lv_has ls 3 [(0, .ref (aD g x0)), (1, .int x1), (2, .int x2)] := hl
  unfold s_Replacement_put at hs
  refine lv_iload_n hx hb d_Replacement_put_0 rfl (lv_at hl 1 rfl) ?_
  refine lv_if_lt hx hb d_Replacement_put_1 (tgt := 17) (by decide) (fun hc => ?_) (fun hc => ?_)
  · have hs := oi_t hc hs
    obtain rfl := Option.some.inj hs
    exact pg_vret C hw d_Replacement_put_17
  · have hs := oi_f hc hs
    refine lv_iload_n hx hb d_Replacement_put_4 rfl (lv_at hl 1 rfl) ?_
    refine lv_bipush (v := 8) hx hb d_Replacement_put_5 (by decide) ?_
    refine lv_icmp_ge hx hb d_Replacement_put_7 (tgt := 17) (by decide) (fun hc => ?_) (fun hc => ?_)
    · have hs := oi_t hc hs
      obtain rfl := Option.some.inj hs
      exact pg_vret C hw d_Replacement_put_17
    · have hs := oi_f hc hs
      refine lv_aload_n hx hb d_Replacement_put_10 rfl (lv_at hl 0 rfl) ?_
      obtain ⟨v1, e2, hs⟩ := ob hs
      refine pg_getR C hw fl_Replacement_9 e2 d_Replacement_put_11 ?_
      refine lv_iload_n hx hb d_Replacement_put_14 rfl (lv_at hl 1 rfl) ?_
      refine lv_iload_n hx hb d_Replacement_put_15 rfl (lv_at hl 2 rfl) ?_
      obtain ⟨h3, e4, hs⟩ := ob hs
      refine pg_iastore C hw (t0 := 0) rfl e4 d_Replacement_put_16 (fun H locs hw => ?_)
      obtain rfl := Option.some.inj hs
      exact pg_vret C hw d_Replacement_put_17

end
section
variable {p : Program} {l : Launch} {e : Env} {s : State} {m : MethodId} {args : Array Value} {below : List Frame} {meth : Method} {c : Code} {g : GG}
theorem d_Replacement_beginWith_0 : decode b_Replacement_beginWith 0 = .ok (.aload_n 0, 1) := by decide +kernel
theorem d_Replacement_beginWith_1 : decode b_Replacement_beginWith 1 = .ok (.aload_n 1, 1) := by decide +kernel
theorem d_Replacement_beginWith_2 : decode b_Replacement_beginWith 2 = .ok (.invokevirtual 29, 3) := by decide +kernel
theorem d_Replacement_beginWith_5 : decode b_Replacement_beginWith 5 = .ok (.aload_n 0, 1) := by decide +kernel
theorem d_Replacement_beginWith_6 : decode b_Replacement_beginWith 6 = .ok (.iload_n 2, 1) := by decide +kernel
theorem d_Replacement_beginWith_7 : decode b_Replacement_beginWith 7 = .ok (.iload_n 3, 1) := by decide +kernel
theorem d_Replacement_beginWith_8 : decode b_Replacement_beginWith 8 = .ok (.invokevirtual 33, 3) := by decide +kernel
theorem d_Replacement_beginWith_11 : decode b_Replacement_beginWith 11 = .ok (.return_, 1) := by decide +kernel
def s_Replacement_beginWith (x0 : Nat) (x1 : Nat) (x2 : Int32) (x3 : Int32) (h : HP) : Option (HP) :=
  (kd x0 5).bind fun _ =>
  (s_Replacement_begin x0 x1 h).bind fun q2 =>
  (kd x0 5).bind fun _ =>
  (s_Replacement_put x0 x2 x3 q2).bind fun q5 =>
  some q5
set_option maxHeartbeats 4000000 in
set_option maxRecDepth 100000 in
theorem c_Replacement_beginWith (l : Launch) (g : GG) {x0 : Nat} {x1 : Nat} {x2 : Int32} {x3 : Int32} {h : HP} {z : HP} (hs : s_Replacement_beginWith x0 x1 x2 x3 h = some z) : Ct l g y_Replacement_beginWith w_Replacement_beginWith (rmS 2 44) [.ref (aD g x0), .ref (aD g x1), .int x2, .int x3] h none z := by
  refine Ct.of (own := R_Replacement) (by decide) rfl rfl (Nat.le_of_ble_eq_true rfl) ?_
  intro p e s m args below meth c ls C hl hw
  have hx := C.1
  have hb := C.2.1
  have hl : lv_has ls 4 [(0, .ref (aD g x0)), (1, .ref (aD g x1)), (2, .int x2), (3, .int x3)] := hl
  unfold s_Replacement_beginWith at hs
  refine lv_aload_n hx hb d_Replacement_beginWith_0 rfl (lv_at hl 0 rfl) ?_
  refine lv_aload_n hx hb d_Replacement_beginWith_1 rfl (lv_at hl 1 rfl) ?_
  obtain ⟨_, e1, hs⟩ := ob hs
  obtain ⟨q2, e3, hs⟩ := ob hs
  refine pg_callV C hw hl.1 ml_Replacement_29 e1 (As := [.ref (aD g x1)]) (rest := []) (c_Replacement_begin l g e3) rfl (rm_ok (Nat.le_of_ble_eq_true rfl) (Nat.le_of_ble_eq_true rfl)) (Nat.le_of_ble_eq_true rfl) rfl (st1 := []) rfl d_Replacement_beginWith_2 (fun H locs hw => ?_)
  refine lv_aload_n hx hb d_Replacement_beginWith_5 rfl (lv_at hl 0 rfl) ?_
  refine lv_iload_n hx hb d_Replacement_beginWith_6 rfl (lv_at hl 2 rfl) ?_
  refine lv_iload_n hx hb d_Replacement_beginWith_7 rfl (lv_at hl 3 rfl) ?_
  obtain ⟨_, e4, hs⟩ := ob hs
  obtain ⟨q5, e6, hs⟩ := ob hs
  refine pg_callV C hw hl.1 ml_Replacement_33 e4 (As := [.int x2, .int x3]) (rest := []) (c_Replacement_put l g e6) rfl (rm_ok (Nat.le_of_ble_eq_true rfl) (Nat.le_of_ble_eq_true rfl)) (Nat.le_of_ble_eq_true rfl) rfl (st1 := []) rfl d_Replacement_beginWith_8 (fun H locs hw => ?_)
  obtain rfl := Option.some.inj hs
  exact pg_vret C hw d_Replacement_beginWith_11

end
