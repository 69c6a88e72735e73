section
variable {p : Program} {l : Launch} {e : Env} {s : State} {m : MethodId} {args : Array Value} {below : List Frame} {meth : Method} {c : Code} {g : GG}
theorem d_Text_length_0 : decode b_Text_length 0 = .ok (.aload_n 0, 1) := by decide +kernel
theorem d_Text_length_1 : decode b_Text_length 1 = .ok (.getfield 19, 3) := by decide +kernel
theorem d_Text_length_4 : decode b_Text_length 4 = .ok (.ireturn, 1) := by decide +kernel
def s_Text_length (x0 : Nat) (h : HP) : Option (Int32) :=
  (gI h x0 0 2).bind fun v1 =>
  some v1
set_option maxHeartbeats 4000000 in
set_option maxRecDepth 100000 in
theorem c_Text_length (l : Launch) (g : GG) {h : HP} {x0 : Nat} {z : Int32} (hs : s_Text_length x0 h = some z) : Ct l g y_Text_length w_Text_length (rmS 0 0) [.ref (aD g x0)] h (some (.int z)) h := by
  refine Ct.of (own := R_Text) (by decide) rfl rfl (Nat.le_of_ble_eq_true rfl) ?_
  intro p e s m args below meth c ls C hl hw
  have hx := C.1
  have hb := C.2.1
  have hl : lv_has ls 1 [(0, .ref (aD g x0))] := hl
  unfold s_Text_length at hs
  refine lv_aload_n hx hb d_Text_length_0 rfl (lv_at hl 0 rfl) ?_
  obtain ⟨v1, e2, hs⟩ := ob hs
  refine pg_getI C hw fl_Text_19 e2 d_Text_length_1 ?_
  obtain rfl := Option.some.inj hs
  exact pg_iret C hw d_Text_length_4

end
section
variable {p : Program} {l : Launch} {e : Env} {s : State} {m : MethodId} {args : Array Value} {below : List Frame} {meth : Method} {c : Code} {g : GG}
theorem d_Reader_whole_0 : decode b_Reader_whole 0 = .ok (.iload_n 1, 1) := by decide +kernel
theorem d_Reader_whole_1 : decode b_Reader_whole 1 = .ok (.ifCond .lt 21, 3) := by decide +kernel
theorem d_Reader_whole_4 : decode b_Reader_whole 4 = .ok (.iload_n 1, 1) := by decide +kernel
theorem d_Reader_whole_5 : decode b_Reader_whole 5 = .ok (.aload_n 0, 1) := by decide +kernel
theorem d_Reader_whole_6 : decode b_Reader_whole 6 = .ok (.getfield 25, 3) := by decide +kernel
theorem d_Reader_whole_9 : decode b_Reader_whole 9 = .ok (.invokevirtual 54, 3) := by decide +kernel
theorem d_Reader_whole_12 : decode b_Reader_whole 12 = .ok (.if_icmp .eq 10, 3) := by decide +kernel
theorem d_Reader_whole_15 : decode b_Reader_whole 15 = .ok (.iload_n 1, 1) := by decide +kernel
theorem d_Reader_whole_16 : decode b_Reader_whole 16 = .ok (.invokestatic 60, 3) := by decide +kernel
theorem d_Reader_whole_19 : decode b_Reader_whole 19 = .ok (.goto 4, 3) := by decide +kernel
theorem d_Reader_whole_22 : decode b_Reader_whole 22 = .ok (.iload_n 1, 1) := by decide +kernel
theorem d_Reader_whole_23 : decode b_Reader_whole 23 = .ok (.ireturn, 1) := by decide +kernel
def s_Reader_whole (x0 : Nat) (x1 : Int32) (h : HP) : Option (Int32) :=
  if x1 < 0 then (
    some x1)
  else (
    (gR h x0 3 0).bind fun v1 =>
    (kd v1 0).bind fun _ =>
    (s_Text_length v1 h).bind fun q4 =>
    if x1 = q4 then (
      some x1)
    else (
      (s_Reader_wrong x1).bind fun q6 =>
      some q6))
set_option maxHeartbeats 4000000 in
set_option maxRecDepth 100000 in
theorem c_Reader_whole (l : Launch) (g : GG) {h : HP} {x0 : Nat} {x1 : Int32} {z : Int32} (hs : s_Reader_whole x0 x1 h = some z) : Ct l g y_Reader_whole w_Reader_whole (rmS 1 20) [.ref (aD g x0), .int x1] h (some (.int z)) h := by
  refine Ct.of (own := R_Reader) (by decide) rfl rfl (Nat.le_of_ble_eq_true rfl) ?_
  intro p e s m args below meth c ls C hl hw
  have hx := C.1
  have hb := C.2.1
  have hl : lv_has ls 2 [(0, .ref (aD g x0)), (1, .int x1)] := hl
  unfold s_Reader_whole at hs
  refine lv_iload_n hx hb d_Reader_whole_0 rfl (lv_at hl 1 rfl) ?_
  refine lv_if_lt hx hb d_Reader_whole_1 (tgt := 22) (by decide) (fun hc => ?_) (fun hc => ?_)
  · have hs := oi_t hc hs
    refine lv_iload_n hx hb d_Reader_whole_22 rfl (lv_at hl 1 rfl) ?_
    obtain rfl := Option.some.inj hs
    exact pg_iret C hw d_Reader_whole_23
  · have hs := oi_f hc hs
    refine lv_iload_n hx hb d_Reader_whole_4 rfl (lv_at hl 1 rfl) ?_
    refine lv_aload_n hx hb d_Reader_whole_5 rfl (lv_at hl 0 rfl) ?_
    obtain ⟨v1, e2, hs⟩ := ob hs
    refine pg_getR C hw fl_Reader_25 e2 d_Reader_whole_6 ?_
    obtain ⟨_, e3, hs⟩ := ob hs
    obtain ⟨q4, e5, hs⟩ := ob hs
    refine pg_callV C hw hl.1 ml_Reader_54 e3 (As := []) (rest := [.int x1]) (c_Text_length l g e5) rfl (rm_ok (Nat.le_of_ble_eq_true rfl) (Nat.le_of_ble_eq_true rfl)) (Nat.le_of_ble_eq_true rfl) rfl (st1 := [.int q4, .int x1]) rfl d_Reader_whole_9 (fun H locs hw => ?_)
    refine lv_icmp_eq hx hb d_Reader_whole_12 (tgt := 22) (by decide) (fun hc => ?_) (fun hc => ?_)
    · have hs := oi_t hc hs
      refine lv_iload_n hx hb d_Reader_whole_22 rfl (lv_at hl 1 rfl) ?_
      obtain rfl := Option.some.inj hs
      exact pg_iret C hw d_Reader_whole_23
    · have hs := oi_f hc hs
      refine lv_iload_n hx hb d_Reader_whole_15 rfl (lv_at hl 1 rfl) ?_
      obtain ⟨q6, e7, hs⟩ := ob hs
      refine pg_callS C hw hl.1 ml_Reader_60 (As := [.int x1]) (rest := []) (c_Reader_wrong l g e7) rfl (rm_ok (Nat.le_of_ble_eq_true rfl) (Nat.le_of_ble_eq_true rfl)) (Nat.le_of_ble_eq_true rfl) rfl (st1 := [.int q6]) rfl d_Reader_whole_16 (fun H locs hw => ?_)
      refine lv_goto hx hb d_Reader_whole_19 (tgt := 23) (by decide) ?_
      obtain rfl := Option.some.inj hs
      exact pg_iret C hw d_Reader_whole_23

end
section
variable {p : Program} {l : Launch} {e : Env} {s : State} {m : MethodId} {args : Array Value} {below : List Frame} {meth : Method} {c : Code} {g : GG}
theorem d_Reader_readFormula_0 : decode b_Reader_readFormula 0 = .ok (.aload_n 0, 1) := by decide +kernel
theorem d_Reader_readFormula_1 : decode b_Reader_readFormula 1 = .ok (.iconst (-1), 1) := by decide +kernel
theorem d_Reader_readFormula_2 : decode b_Reader_readFormula 2 = .ok (.iconst 0, 1) := by decide +kernel
theorem d_Reader_readFormula_3 : decode b_Reader_readFormula 3 = .ok (.bipush 8, 2) := by decide +kernel
theorem d_Reader_readFormula_5 : decode b_Reader_readFormula 5 = .ok (.invokevirtual 33, 3) := by decide +kernel
theorem d_Reader_readFormula_8 : decode b_Reader_readFormula 8 = .ok (.aload_n 0, 1) := by decide +kernel
theorem d_Reader_readFormula_9 : decode b_Reader_readFormula 9 = .ok (.aload_n 0, 1) := by decide +kernel
theorem d_Reader_readFormula_10 : decode b_Reader_readFormula 10 = .ok (.iconst 0, 1) := by decide +kernel
theorem d_Reader_readFormula_11 : decode b_Reader_readFormula 11 = .ok (.iconst 1, 1) := by decide +kernel
theorem d_Reader_readFormula_12 : decode b_Reader_readFormula 12 = .ok (.invokevirtual 45, 3) := by decide +kernel
theorem d_Reader_readFormula_15 : decode b_Reader_readFormula 15 = .ok (.invokevirtual 41, 3) := by decide +kernel
theorem d_Reader_readFormula_18 : decode b_Reader_readFormula 18 = .ok (.ireturn, 1) := by decide +kernel
def s_Reader_readFormula (x0 : Nat) (h : HP) : Option (Int32 × HP) :=
  (kd x0 3).bind fun _ =>
  (s_Reader_start x0 (-1) 0 8 h).bind fun q2 =>
  (kd x0 3).bind fun _ =>
  ((s_grp_Reader_binder 70).2.1 x0 0 1 q2).bind fun q5 =>
  (kd x0 3).bind fun _ =>
  (s_Reader_whole x0 q5.1 q5.2).bind fun q8 =>
  some (q8, q5.2)
set_option maxHeartbeats 4000000 in
set_option maxRecDepth 100000 in
theorem c_Reader_readFormula (l : Launch) (g : GG) {x0 : Nat} {h : HP} {z : Int32 × HP} (hs : s_Reader_readFormula x0 h = some z) : Ct l g y_Reader_readFormula w_Reader_readFormula (rmS 72 2075) [.ref (aD g x0)] h (some (.int z.1)) z.2 := by
  refine Ct.of (own := R_Reader) (by decide) rfl rfl (Nat.le_of_ble_eq_true rfl) ?_
  intro p e s m args below meth c ls C hl hw
  have hx := C.1
  have hb := C.2.1
  have hl : lv_has ls 1 [(0, .ref (aD g x0))] := hl
  unfold s_Reader_readFormula at hs
  refine lv_aload_n hx hb d_Reader_readFormula_0 rfl (lv_at hl 0 rfl) ?_
  refine lv_iconst (v := (-1)) hx hb d_Reader_readFormula_1 (by decide) ?_
  refine lv_iconst (v := 0) hx hb d_Reader_readFormula_2 (by decide) ?_
  refine lv_bipush (v := 8) hx hb d_Reader_readFormula_3 (by decide) ?_
  obtain ⟨_, e1, hs⟩ := ob hs
  obtain ⟨q2, e3, hs⟩ := ob hs
  refine pg_callV C hw hl.1 ml_Reader_33 e1 (As := [.int (-1), .int 0, .int 8]) (rest := []) (c_Reader_start l g e3) rfl (rm_ok (Nat.le_of_ble_eq_true rfl) (Nat.le_of_ble_eq_true rfl)) (Nat.le_of_ble_eq_true rfl) rfl (st1 := []) rfl d_Reader_readFormula_5 (fun H locs hw => ?_)
  refine lv_aload_n hx hb d_Reader_readFormula_8 rfl (lv_at hl 0 rfl) ?_
  refine lv_aload_n hx hb d_Reader_readFormula_9 rfl (lv_at hl 0 rfl) ?_
  refine lv_iconst (v := 0) hx hb d_Reader_readFormula_10 (by decide) ?_
  refine lv_iconst (v := 1) hx hb d_Reader_readFormula_11 (by decide) ?_
  obtain ⟨_, e4, hs⟩ := ob hs
  obtain ⟨q5, e6, hs⟩ := ob hs
  refine pg_callV C hw hl.1 ml_Reader_45 e4 (As := [.int 0, .int 1]) (rest := [.ref (aD g x0)]) ((cg_Reader_binder l g 70).2.1 e6) rfl (rm_ok (Nat.le_of_ble_eq_true rfl) (Nat.le_of_ble_eq_true rfl)) (Nat.le_of_ble_eq_true rfl) rfl (st1 := [.int q5.1, .ref (aD g x0)]) rfl d_Reader_readFormula_12 (fun H locs hw => ?_)
  obtain ⟨_, e7, hs⟩ := ob hs
  obtain ⟨q8, e9, hs⟩ := ob hs
  refine pg_callV C hw hl.1 ml_Reader_41 e7 (As := [.int q5.1]) (rest := []) (c_Reader_whole l g e9) rfl (rm_ok (Nat.le_of_ble_eq_true rfl) (Nat.le_of_ble_eq_true rfl)) (Nat.le_of_ble_eq_true rfl) rfl (st1 := [.int q8]) rfl d_Reader_readFormula_15 (fun H locs hw => ?_)
  obtain rfl := Option.some.inj hs
  exact pg_iret C hw d_Reader_readFormula_18

end
section
variable {p : Program} {l : Launch} {e : Env} {s : State} {m : MethodId} {args : Array Value} {below : List Frame} {meth : Method} {c : Code} {g : GG}
theorem d_Text_boundBy_0 : decode b_Text_boundBy 0 = .ok (.aload_n 0, 1) := by decide +kernel
theorem d_Text_boundBy_1 : decode b_Text_boundBy 1 = .ok (.iload_n 1, 1) := by decide +kernel
theorem d_Text_boundBy_2 : decode b_Text_boundBy 2 = .ok (.invokevirtual 23, 3) := by decide +kernel
theorem d_Text_boundBy_5 : decode b_Text_boundBy 5 = .ok (.invokestatic 27, 3) := by decide +kernel
theorem d_Text_boundBy_8 : decode b_Text_boundBy 8 = .ok (.ifCond .eq 31, 3) := by decide +kernel
theorem d_Text_boundBy_11 : decode b_Text_boundBy 11 = .ok (.aload_n 0, 1) := by decide +kernel
theorem d_Text_boundBy_12 : decode b_Text_boundBy 12 = .ok (.iload_n 1, 1) := by decide +kernel
theorem d_Text_boundBy_13 : decode b_Text_boundBy 13 = .ok (.iconst 1, 1) := by decide +kernel
theorem d_Text_boundBy_14 : decode b_Text_boundBy 14 = .ok (.iadd, 1) := by decide +kernel
theorem d_Text_boundBy_15 : decode b_Text_boundBy 15 = .ok (.invokevirtual 23, 3) := by decide +kernel
theorem d_Text_boundBy_18 : decode b_Text_boundBy 18 = .ok (.invokestatic 37, 3) := by decide +kernel
theorem d_Text_boundBy_21 : decode b_Text_boundBy 21 = .ok (.ifCond .eq 18, 3) := by decide +kernel
theorem d_Text_boundBy_24 : decode b_Text_boundBy 24 = .ok (.iconst 1, 1) := by decide +kernel
theorem d_Text_boundBy_25 : decode b_Text_boundBy 25 = .ok (.aload_n 0, 1) := by decide +kernel
theorem d_Text_boundBy_26 : decode b_Text_boundBy 26 = .ok (.iload_n 1, 1) := by decide +kernel
theorem d_Text_boundBy_27 : decode b_Text_boundBy 27 = .ok (.iconst 1, 1) := by decide +kernel
theorem d_Text_boundBy_28 : decode b_Text_boundBy 28 = .ok (.iadd, 1) := by decide +kernel
theorem d_Text_boundBy_29 : decode b_Text_boundBy 29 = .ok (.invokevirtual 23, 3) := by decide +kernel
theorem d_Text_boundBy_32 : decode b_Text_boundBy 32 = .ok (.bipush 97, 2) := by decide +kernel
theorem d_Text_boundBy_34 : decode b_Text_boundBy 34 = .ok (.isub, 1) := by decide +kernel
theorem d_Text_boundBy_35 : decode b_Text_boundBy 35 = .ok (.ishl, 1) := by decide +kernel
theorem d_Text_boundBy_36 : decode b_Text_boundBy 36 = .ok (.goto 4, 3) := by decide +kernel
theorem d_Text_boundBy_39 : decode b_Text_boundBy 39 = .ok (.iconst 0, 1) := by decide +kernel
theorem d_Text_boundBy_40 : decode b_Text_boundBy 40 = .ok (.ireturn, 1) := by decide +kernel
def s_Text_boundBy (x0 : Nat) (x1 : Int32) (h : HP) : Option (Int32) :=
  (kd x0 0).bind fun _ =>
  (s_Text_at x0 x1 h).bind fun q2 =>
  (s_AdjoinedSets_isBinder q2).bind fun q4 =>
  if q4 = 0 then (
    some 0)
  else (
    (kd x0 0).bind fun _ =>
    (s_Text_at x0 (x1 + 1) h).bind fun q7 =>
    (s_AdjoinedSets_isLetter q7).bind fun q9 =>
    if q9 = 0 then (
      some 0)
    else (
      (kd x0 0).bind fun _ =>
      (s_Text_at x0 (x1 + 1) h).bind fun q12 =>
      some ((1 : Int32) <<< ((q12 - 97) &&& 31))))
set_option maxHeartbeats 4000000 in
set_option maxRecDepth 100000 in
theorem c_Text_boundBy (l : Launch) (g : GG) {h : HP} {x0 : Nat} {x1 : Int32} {z : Int32} (hs : s_Text_boundBy x0 x1 h = some z) : Ct l g y_Text_boundBy w_Text_boundBy (rmS 1 21) [.ref (aD g x0), .int x1] h (some (.int z)) h := by
  refine Ct.of (own := R_Text) (by decide) rfl rfl (Nat.le_of_ble_eq_true rfl) ?_
  intro p e s m args below meth c ls C hl hw
  have hx := C.1
  have hb := C.2.1
  have hl : lv_has ls 2 [(0, .ref (aD g x0)), (1, .int x1)] := hl
  unfold s_Text_boundBy at hs
  refine lv_aload_n hx hb d_Text_boundBy_0 rfl (lv_at hl 0 rfl) ?_
  refine lv_iload_n hx hb d_Text_boundBy_1 rfl (lv_at hl 1 rfl) ?_
  obtain ⟨_, e1, hs⟩ := ob hs
  obtain ⟨q2, e3, hs⟩ := ob hs
  refine pg_callV C hw hl.1 ml_Text_23 e1 (As := [.int x1]) (rest := []) (c_Text_at l g e3) rfl (rm_ok (Nat.le_of_ble_eq_true rfl) (Nat.le_of_ble_eq_true rfl)) (Nat.le_of_ble_eq_true rfl) rfl (st1 := [.int q2]) rfl d_Text_boundBy_2 (fun H locs hw => ?_)
  obtain ⟨q4, e5, hs⟩ := ob hs
  refine pg_callSN C hw hl.1 ml_Text_27 (As := [.int q2]) (rest := []) (c_AdjoinedSets_isBinder l g e5) rfl (rm_ok (Nat.le_of_ble_eq_true rfl) (Nat.le_of_ble_eq_true rfl)) (Nat.le_of_ble_eq_true rfl) rfl (st1 := [.int q4]) rfl d_Text_boundBy_5 (fun H locs hw => ?_)
  refine lv_if_eq hx hb d_Text_boundBy_8 (tgt := 39) (by decide) (fun hc => ?_) (fun hc => ?_)
  · have hs := oi_t hc hs
    refine lv_iconst (v := 0) hx hb d_Text_boundBy_39 (by decide) ?_
    obtain rfl := Option.some.inj hs
    exact pg_iret C hw d_Text_boundBy_40
  · have hs := oi_f hc hs
    refine lv_aload_n hx hb d_Text_boundBy_11 rfl (lv_at hl 0 rfl) ?_
    refine lv_iload_n hx hb d_Text_boundBy_12 rfl (lv_at hl 1 rfl) ?_
    refine lv_iconst (v := 1) hx hb d_Text_boundBy_13 (by decide) ?_
    refine lv_iadd hx hb d_Text_boundBy_14 ?_
    obtain ⟨_, e6, hs⟩ := ob hs
    obtain ⟨q7, e8, hs⟩ := ob hs
    refine pg_callV C hw hl.1 ml_Text_23 e6 (As := [.int (x1 + 1)]) (rest := []) (c_Text_at l g e8) rfl (rm_ok (Nat.le_of_ble_eq_true rfl) (Nat.le_of_ble_eq_true rfl)) (Nat.le_of_ble_eq_true rfl) rfl (st1 := [.int q7]) rfl d_Text_boundBy_15 (fun H locs hw => ?_)
    obtain ⟨q9, e10, hs⟩ := ob hs
    refine pg_callSN C hw hl.1 ml_Text_37 (As := [.int q7]) (rest := []) (c_AdjoinedSets_isLetter l g e10) rfl (rm_ok (Nat.le_of_ble_eq_true rfl) (Nat.le_of_ble_eq_true rfl)) (Nat.le_of_ble_eq_true rfl) rfl (st1 := [.int q9]) rfl d_Text_boundBy_18 (fun H locs hw => ?_)
    refine lv_if_eq hx hb d_Text_boundBy_21 (tgt := 39) (by decide) (fun hc => ?_) (fun hc => ?_)
    · have hs := oi_t hc hs
      refine lv_iconst (v := 0) hx hb d_Text_boundBy_39 (by decide) ?_
      obtain rfl := Option.some.inj hs
      exact pg_iret C hw d_Text_boundBy_40
    · have hs := oi_f hc hs
      refine lv_iconst (v := 1) hx hb d_Text_boundBy_24 (by decide) ?_
      refine lv_aload_n hx hb d_Text_boundBy_25 rfl (lv_at hl 0 rfl) ?_
      refine lv_iload_n hx hb d_Text_boundBy_26 rfl (lv_at hl 1 rfl) ?_
      refine lv_iconst (v := 1) hx hb d_Text_boundBy_27 (by decide) ?_
      refine lv_iadd hx hb d_Text_boundBy_28 ?_
      obtain ⟨_, e11, hs⟩ := ob hs
      obtain ⟨q12, e13, hs⟩ := ob hs
      refine pg_callV C hw hl.1 ml_Text_23 e11 (As := [.int (x1 + 1)]) (rest := [.int 1]) (c_Text_at l g e13) rfl (rm_ok (Nat.le_of_ble_eq_true rfl) (Nat.le_of_ble_eq_true rfl)) (Nat.le_of_ble_eq_true rfl) rfl (st1 := [.int q12, .int 1]) rfl d_Text_boundBy_29 (fun H locs hw => ?_)
      refine lv_bipush (v := 97) hx hb d_Text_boundBy_32 (by decide) ?_
      refine lv_isub hx hb d_Text_boundBy_34 ?_
      refine lv_ishl hx hb d_Text_boundBy_35 ?_
      refine lv_goto hx hb d_Text_boundBy_36 (tgt := 40) (by decide) ?_
      obtain rfl := Option.some.inj hs
      exact pg_iret C hw d_Text_boundBy_40

end
section
variable {p : Program} {l : Launch} {e : Env} {s : State} {m : MethodId} {args : Array Value} {below : List Frame} {meth : Method} {c : Code} {g : GG}
theorem d_Text_freeIn_0 : decode b_Text_freeIn 0 = .ok (.aload_n 0, 1) := by decide +kernel
theorem d_Text_freeIn_1 : decode b_Text_freeIn 1 = .ok (.iload_n 1, 1) := by decide +kernel
theorem d_Text_freeIn_2 : decode b_Text_freeIn 2 = .ok (.invokevirtual 23, 3) := by decide +kernel
theorem d_Text_freeIn_5 : decode b_Text_freeIn 5 = .ok (.istore_n 3, 1) := by decide +kernel
theorem d_Text_freeIn_6 : decode b_Text_freeIn 6 = .ok (.iload_n 3, 1) := by decide +kernel
theorem d_Text_freeIn_7 : decode b_Text_freeIn 7 = .ok (.invokestatic 37, 3) := by decide +kernel
theorem d_Text_freeIn_10 : decode b_Text_freeIn 10 = .ok (.ifCond .eq 10, 3) := by decide +kernel
theorem d_Text_freeIn_13 : decode b_Text_freeIn 13 = .ok (.iconst 1, 1) := by decide +kernel
theorem d_Text_freeIn_14 : decode b_Text_freeIn 14 = .ok (.iload_n 3, 1) := by decide +kernel
theorem d_Text_freeIn_15 : decode b_Text_freeIn 15 = .ok (.bipush 97, 2) := by decide +kernel
theorem d_Text_freeIn_17 : decode b_Text_freeIn 17 = .ok (.isub, 1) := by decide +kernel
theorem d_Text_freeIn_18 : decode b_Text_freeIn 18 = .ok (.ishl, 1) := by decide +kernel
theorem d_Text_freeIn_19 : decode b_Text_freeIn 19 = .ok (.ireturn, 1) := by decide +kernel
theorem d_Text_freeIn_20 : decode b_Text_freeIn 20 = .ok (.iconst 0, 1) := by decide +kernel
theorem d_Text_freeIn_21 : decode b_Text_freeIn 21 = .ok (.istore 4, 2) := by decide +kernel
theorem d_Text_freeIn_23 : decode b_Text_freeIn 23 = .ok (.aload_n 0, 1) := by decide +kernel
theorem d_Text_freeIn_24 : decode b_Text_freeIn 24 = .ok (.iload_n 1, 1) := by decide +kernel
theorem d_Text_freeIn_25 : decode b_Text_freeIn 25 = .ok (.invokevirtual 40, 3) := by decide +kernel
theorem d_Text_freeIn_28 : decode b_Text_freeIn 28 = .ok (.istore 5, 2) := by decide +kernel
theorem d_Text_freeIn_30 : decode b_Text_freeIn 30 = .ok (.aload_n 0, 1) := by decide +kernel
theorem d_Text_freeIn_31 : decode b_Text_freeIn 31 = .ok (.iload_n 1, 1) := by decide +kernel
theorem d_Text_freeIn_32 : decode b_Text_freeIn 32 = .ok (.invokevirtual 43, 3) := by decide +kernel
theorem d_Text_freeIn_35 : decode b_Text_freeIn 35 = .ok (.istore 6, 2) := by decide +kernel
theorem d_Text_freeIn_37 : decode b_Text_freeIn 37 = .ok (.iconst 0, 1) := by decide +kernel
theorem d_Text_freeIn_38 : decode b_Text_freeIn 38 = .ok (.istore 7, 2) := by decide +kernel
theorem d_Text_freeIn_40 : decode b_Text_freeIn 40 = .ok (.iload 7, 2) := by decide +kernel
theorem d_Text_freeIn_42 : decode b_Text_freeIn 42 = .ok (.iconst 3, 1) := by decide +kernel
theorem d_Text_freeIn_43 : decode b_Text_freeIn 43 = .ok (.if_icmp .ge 67, 3) := by decide +kernel
theorem d_Text_freeIn_46 : decode b_Text_freeIn 46 = .ok (.iload 5, 2) := by decide +kernel
theorem d_Text_freeIn_48 : decode b_Text_freeIn 48 = .ok (.iload 6, 2) := by decide +kernel
theorem d_Text_freeIn_50 : decode b_Text_freeIn 50 = .ok (.if_icmp .ge 60, 3) := by decide +kernel
theorem d_Text_freeIn_53 : decode b_Text_freeIn 53 = .ok (.iload_n 2, 1) := by decide +kernel
theorem d_Text_freeIn_54 : decode b_Text_freeIn 54 = .ok (.bipush 12, 2) := by decide +kernel
theorem d_Text_freeIn_56 : decode b_Text_freeIn 56 = .ok (.if_icmp .ge 54, 3) := by decide +kernel
theorem d_Text_freeIn_59 : decode b_Text_freeIn 59 = .ok (.aload_n 0, 1) := by decide +kernel
theorem d_Text_freeIn_60 : decode b_Text_freeIn 60 = .ok (.iload 5, 2) := by decide +kernel
theorem d_Text_freeIn_62 : decode b_Text_freeIn 62 = .ok (.iload_n 2, 1) := by decide +kernel
theorem d_Text_freeIn_63 : decode b_Text_freeIn 63 = .ok (.iconst 1, 1) := by decide +kernel
theorem d_Text_freeIn_64 : decode b_Text_freeIn 64 = .ok (.iadd, 1) := by decide +kernel
theorem d_Text_freeIn_65 : decode b_Text_freeIn 65 = .ok (.invokevirtual 46, 3) := by decide +kernel
theorem d_Text_freeIn_68 : decode b_Text_freeIn 68 = .ok (.istore 8, 2) := by decide +kernel
theorem d_Text_freeIn_70 : decode b_Text_freeIn 70 = .ok (.iload 4, 2) := by decide +kernel
theorem d_Text_freeIn_72 : decode b_Text_freeIn 72 = .ok (.iload 7, 2) := by decide +kernel
theorem d_Text_freeIn_74 : decode b_Text_freeIn 74 = .ok (.iconst 1, 1) := by decide +kernel
theorem d_Text_freeIn_75 : decode b_Text_freeIn 75 = .ok (.if_icmp .ne 16, 3) := by decide +kernel
theorem d_Text_freeIn_78 : decode b_Text_freeIn 78 = .ok (.iload 8, 2) := by decide +kernel
theorem d_Text_freeIn_80 : decode b_Text_freeIn 80 = .ok (.aload_n 0, 1) := by decide +kernel
theorem d_Text_freeIn_81 : decode b_Text_freeIn 81 = .ok (.iload_n 1, 1) := by decide +kernel
theorem d_Text_freeIn_82 : decode b_Text_freeIn 82 = .ok (.invokevirtual 50, 3) := by decide +kernel
theorem d_Text_freeIn_85 : decode b_Text_freeIn 85 = .ok (.iconst (-1), 1) := by decide +kernel
theorem d_Text_freeIn_86 : decode b_Text_freeIn 86 = .ok (.ixor, 1) := by decide +kernel
theorem d_Text_freeIn_87 : decode b_Text_freeIn 87 = .ok (.iand, 1) := by decide +kernel
theorem d_Text_freeIn_88 : decode b_Text_freeIn 88 = .ok (.goto 5, 3) := by decide +kernel
theorem d_Text_freeIn_91 : decode b_Text_freeIn 91 = .ok (.iload 8, 2) := by decide +kernel
theorem d_Text_freeIn_93 : decode b_Text_freeIn 93 = .ok (.ior, 1) := by decide +kernel
theorem d_Text_freeIn_94 : decode b_Text_freeIn 94 = .ok (.istore 4, 2) := by decide +kernel
theorem d_Text_freeIn_96 : decode b_Text_freeIn 96 = .ok (.aload_n 0, 1) := by decide +kernel
theorem d_Text_freeIn_97 : decode b_Text_freeIn 97 = .ok (.iload 5, 2) := by decide +kernel
theorem d_Text_freeIn_99 : decode b_Text_freeIn 99 = .ok (.invokevirtual 43, 3) := by decide +kernel
theorem d_Text_freeIn_102 : decode b_Text_freeIn 102 = .ok (.istore 5, 2) := by decide +kernel
theorem d_Text_freeIn_104 : decode b_Text_freeIn 104 = .ok (.iinc 7 1, 3) := by decide +kernel
theorem d_Text_freeIn_107 : decode b_Text_freeIn 107 = .ok (.goto (-67), 3) := by decide +kernel
theorem d_Text_freeIn_110 : decode b_Text_freeIn 110 = .ok (.iload 4, 2) := by decide +kernel
theorem d_Text_freeIn_112 : decode b_Text_freeIn 112 = .ok (.ireturn, 1) := by decide +kernel
abbrev GT_Text_freeIn : Type := (Nat → Int32 → Int32 → HP → Option Int32)
abbrev HG_Text_freeIn (l : Launch) (g : GG) (gf : GT_Text_freeIn) (n : Nat) : Prop :=
  (∀ {h : HP} {x0 : Nat} {x1 : Int32} {x2 : Int32} {z : Int32}, gf x0 x1 x2 h = some z → Ct l g y_Text_freeIn w_Text_freeIn (rmS (n + 2) (n * 28 + 42)) [.ref (aD g x0), .int x1, .int x2] h (some (.int z)) h)
def s_Text_freeIn_93 (gf : GT_Text_freeIn) (c40 : Nat → Int32 → Int32 → Int32 → Int32 → Int32 → Int32 → HP → Option (Int32)) (x0 : Nat) (x1 : Int32) (x2 : Int32) (x5 : Int32) (x6 : Int32) (x7 : Int32) (t0 : Int32) (t1 : Int32) (h : HP) : Option (Int32) :=
  (kd x0 0).bind fun _ =>
  (s_Text_endOf x0 x5 h).bind fun q2 =>
  c40 x0 x1 x2 (t0 ||| t1) q2 x6 (x7 + 1) h
set_option maxHeartbeats 4000000 in
set_option maxRecDepth 100000 in
theorem k_Text_freeIn_93 {h : HP} {x0 : Nat} {x1 : Int32} {x2 : Int32} {x5 : Int32} {x6 : Int32} {x7 : Int32} {t0 : Int32} {t1 : Int32} {z : Int32} (C : CX g R_Text b_Text_freeIn 9 (some .int) p s m args meth c) (gf : GT_Text_freeIn) (n : Nat) (hG : HG_Text_freeIn l g gf n) (c40 : Nat → Int32 → Int32 → Int32 → Int32 → Int32 → Int32 → HP → Option (Int32))
    (hc40 : ∀ {x0 : Nat} {x1 : Int32} {x2 : Int32} {x4 : Int32} {x5 : Int32} {x6 : Int32} {x7 : Int32} {H : Heap} {locs : List Loc} {ls : Array Slot}, WD g h s.heap H locs → lv_has ls 9 [(0, .ref (aD g x0)), (1, .int x1), (2, .int x2), (4, .int x4), (5, .int x5), (6, .int x6), (7, .int x7)] → c40 x0 x1 x2 x4 x5 x6 x7 h = some z → W p l e (rmS (n + 1 + 2) ((n + 1) * 28 + 42)) s m args below meth c H locs 0 0 (MQ below (Qq g (some (.int z)) h) args s 0 0 (inA g)) (F0 m 40 ls [])) {H : Heap} {locs : List Loc} {ls : Array Slot} (hw : WD g h s.heap H locs) (hl : lv_has ls 9 [(0, .ref (aD g x0)), (1, .int x1), (2, .int x2), (5, .int x5), (6, .int x6), (7, .int x7)]) (hs : s_Text_freeIn_93 gf c40 x0 x1 x2 x5 x6 x7 t0 t1 h = some z) : W p l e (rmS (n + 1 + 2) ((n + 1) * 28 + 42)) s m args below meth c H locs 0 0 (MQ below (Qq g (some (.int z)) h) args s 0 0 (inA g)) (F0 m 93 ls [.int t1, .int t0]) := by
  unfold s_Text_freeIn_93 at hs
  have hx := C.1
  have hb := C.2.1
  refine lv_ior hx hb d_Text_freeIn_93 ?_
  refine lv_istore hx hb d_Text_freeIn_94 hl (by decide) (lv' := [(4, .int (t0 ||| t1)), (0, .ref (aD g x0)), (1, .int x1), (2, .int x2), (5, .int x5), (6, .int x6), (7, .int x7)]) rfl (fun ls hl => ?_)
  refine lv_aload_n hx hb d_Text_freeIn_96 rfl (lv_at hl 1 rfl) ?_
  refine lv_iload hx hb d_Text_freeIn_97 (lv_at hl 4 rfl) ?_
  obtain ⟨_, e1, hs⟩ := ob hs
  obtain ⟨q2, e3, hs⟩ := ob hs
  refine pg_callV C hw hl.1 ml_Text_43 e1 (As := [.int x5]) (rest := []) (c_Text_endOf l g e3) rfl (rm_ok (by omega) (by omega)) (Nat.le_of_ble_eq_true rfl) rfl (st1 := [.int q2]) rfl d_Text_freeIn_99 (fun H locs hw => ?_)
  refine lv_istore hx hb d_Text_freeIn_102 hl (by decide) (lv' := [(5, .int q2), (4, .int (t0 ||| t1)), (0, .ref (aD g x0)), (1, .int x1), (2, .int x2), (6, .int x6), (7, .int x7)]) rfl (fun ls hl => ?_)
  refine lv_iinc hx hb d_Text_freeIn_104 hl (k := 6) rfl (v := (x7 + 1)) (iinc_e _ (by decide)) (by decide) (lv' := [(7, .int (x7 + 1)), (5, .int q2), (4, .int (t0 ||| t1)), (0, .ref (aD g x0)), (1, .int x1), (2, .int x2), (6, .int x6)]) rfl (fun ls hl => ?_)
  refine lv_goto hx hb d_Text_freeIn_107 (tgt := 40) (by decide) ?_
  exact hc40 hw (lv_sub hl [3, 4, 5, 2, 1, 6, 0] rfl) hs

def s_Text_freeIn_40 (gf : GT_Text_freeIn) : Nat → Nat → Int32 → Int32 → Int32 → Int32 → Int32 → Int32 → HP → Option (Int32)
  | 0 => fun _ _ _ _ _ _ _ _ => none
  | k + 1 => fun x0 x1 x2 x4 x5 x6 x7 h =>
  if 3 ≤ x7 then (
    some x4)
  else (
    if x6 ≤ x5 then (
      some x4)
    else (
      if 12 ≤ x2 then (
        some x4)
      else (
        (kd x0 0).bind fun _ =>
        (gf x0 x5 (x2 + 1) h).bind fun q2 =>
        if x7 = 1 then (
          (kd x0 0).bind fun _ =>
          (s_Text_boundBy x0 x1 h).bind fun q5 =>
          s_Text_freeIn_93 gf (s_Text_freeIn_40 gf k) x0 x1 x2 x5 x6 x7 x4 (q2 &&& (q5 ^^^ (-1))) h)
        else (
          s_Text_freeIn_93 gf (s_Text_freeIn_40 gf k) x0 x1 x2 x5 x6 x7 x4 q2 h))))
set_option maxHeartbeats 4000000 in
set_option maxRecDepth 100000 in
theorem k_Text_freeIn_40 {h : HP} {z : Int32} (C : CX g R_Text b_Text_freeIn 9 (some .int) p s m args meth c) (gf : GT_Text_freeIn) (n : Nat) (hG : HG_Text_freeIn l g gf n) : ∀ (k : Nat) {x0 : Nat} {x1 : Int32} {x2 : Int32} {x4 : Int32} {x5 : Int32} {x6 : Int32} {x7 : Int32} {H : Heap} {locs : List Loc} {ls : Array Slot}, WD g h s.heap H locs → lv_has ls 9 [(0, .ref (aD g x0)), (1, .int x1), (2, .int x2), (4, .int x4), (5, .int x5), (6, .int x6), (7, .int x7)] → s_Text_freeIn_40 gf k x0 x1 x2 x4 x5 x6 x7 h = some z → W p l e (rmS (n + 1 + 2) ((n + 1) * 28 + 42)) s m args below meth c H locs 0 0 (MQ below (Qq g (some (.int z)) h) args s 0 0 (inA g)) (F0 m 40 ls []) := by
  have hx := C.1
  have hb := C.2.1
  intro k
  induction k with
  | zero =>
    intro x0 x1 x2 x4 x5 x6 x7 H locs ls hw hl hs
    exact (no_s hs).elim
  | succ k ih =>
    intro x0 x1 x2 x4 x5 x6 x7 H locs ls hw hl hs
    rw [s_Text_freeIn_40] at hs
    refine lv_iload hx hb d_Text_freeIn_40 (lv_at hl 6 rfl) ?_
    refine lv_iconst (v := 3) hx hb d_Text_freeIn_42 (by decide) ?_
    refine lv_icmp_ge hx hb d_Text_freeIn_43 (tgt := 110) (by decide) (fun hc => ?_) (fun hc => ?_)
    · have hs := oi_t hc hs
      refine lv_iload hx hb d_Text_freeIn_110 (lv_at hl 3 rfl) ?_
      obtain rfl := Option.some.inj hs
      exact pg_iret C hw d_Text_freeIn_112
    · have hs := oi_f hc hs
      refine lv_iload hx hb d_Text_freeIn_46 (lv_at hl 4 rfl) ?_
      refine lv_iload hx hb d_Text_freeIn_48 (lv_at hl 5 rfl) ?_
      refine lv_icmp_ge hx hb d_Text_freeIn_50 (tgt := 110) (by decide) (fun hc => ?_) (fun hc => ?_)
      · have hs := oi_t hc hs
        refine lv_iload hx hb d_Text_freeIn_110 (lv_at hl 3 rfl) ?_
        obtain rfl := Option.some.inj hs
        exact pg_iret C hw d_Text_freeIn_112
      · have hs := oi_f hc hs
        refine lv_iload_n hx hb d_Text_freeIn_53 rfl (lv_at hl 2 rfl) ?_
        refine lv_bipush (v := 12) hx hb d_Text_freeIn_54 (by decide) ?_
        refine lv_icmp_ge hx hb d_Text_freeIn_56 (tgt := 110) (by decide) (fun hc => ?_) (fun hc => ?_)
        · have hs := oi_t hc hs
          refine lv_iload hx hb d_Text_freeIn_110 (lv_at hl 3 rfl) ?_
          obtain rfl := Option.some.inj hs
          exact pg_iret C hw d_Text_freeIn_112
        · have hs := oi_f hc hs
          refine lv_aload_n hx hb d_Text_freeIn_59 rfl (lv_at hl 0 rfl) ?_
          refine lv_iload hx hb d_Text_freeIn_60 (lv_at hl 4 rfl) ?_
          refine lv_iload_n hx hb d_Text_freeIn_62 rfl (lv_at hl 2 rfl) ?_
          refine lv_iconst (v := 1) hx hb d_Text_freeIn_63 (by decide) ?_
          refine lv_iadd hx hb d_Text_freeIn_64 ?_
          obtain ⟨_, e1, hs⟩ := ob hs
          obtain ⟨q2, e3, hs⟩ := ob hs
          refine pg_callV C hw hl.1 ml_Text_46 e1 (As := [.int x5, .int (x2 + 1)]) (rest := []) (hG e3) rfl (rm_ok (by omega) (by omega)) (Nat.le_of_ble_eq_true rfl) rfl (st1 := [.int q2]) rfl d_Text_freeIn_65 (fun H locs hw => ?_)
          refine lv_istore hx hb d_Text_freeIn_68 hl (by decide) (lv' := [(8, .int q2), (0, .ref (aD g x0)), (1, .int x1), (2, .int x2), (4, .int x4), (5, .int x5), (6, .int x6), (7, .int x7)]) rfl (fun ls hl => ?_)
          refine lv_iload hx hb d_Text_freeIn_70 (lv_at hl 4 rfl) ?_
          refine lv_iload hx hb d_Text_freeIn_72 (lv_at hl 7 rfl) ?_
          refine lv_iconst (v := 1) hx hb d_Text_freeIn_74 (by decide) ?_
          refine lv_icmp_ne hx hb d_Text_freeIn_75 (tgt := 91) (by decide) (fun hc => ?_) (fun hc => ?_)
          · have hs := oi_f hc hs
            refine lv_iload hx hb d_Text_freeIn_91 (lv_at hl 0 rfl) ?_
            exact k_Text_freeIn_93 C gf n hG (s_Text_freeIn_40 gf k) ih hw (lv_sub hl [1, 2, 3, 5, 6, 7] rfl) hs
          · have hs := oi_t hc hs
            refine lv_iload hx hb d_Text_freeIn_78 (lv_at hl 0 rfl) ?_
            refine lv_aload_n hx hb d_Text_freeIn_80 rfl (lv_at hl 1 rfl) ?_
            refine lv_iload_n hx hb d_Text_freeIn_81 rfl (lv_at hl 2 rfl) ?_
            obtain ⟨_, e4, hs⟩ := ob hs
            obtain ⟨q5, e6, hs⟩ := ob hs
            refine pg_callV C hw hl.1 ml_Text_50 e4 (As := [.int x1]) (rest := [.int q2, .int x4]) (c_Text_boundBy l g e6) rfl (rm_ok (by omega) (by omega)) (Nat.le_of_ble_eq_true rfl) rfl (st1 := [.int q5, .int q2, .int x4]) rfl d_Text_freeIn_82 (fun H locs hw => ?_)
            refine lv_iconst (v := (-1)) hx hb d_Text_freeIn_85 (by decide) ?_
            refine lv_ixor hx hb d_Text_freeIn_86 ?_
            refine lv_iand hx hb d_Text_freeIn_87 ?_
            refine lv_goto hx hb d_Text_freeIn_88 (tgt := 93) (by decide) ?_
            exact k_Text_freeIn_93 C gf n hG (s_Text_freeIn_40 gf k) ih hw (lv_sub hl [1, 2, 3, 5, 6, 7] rfl) hs

def s_Text_freeIn (gf : GT_Text_freeIn) (x0 : Nat) (x1 : Int32) (x2 : Int32) (h : HP) : Option (Int32) :=
  (kd x0 0).bind fun _ =>
  (s_Text_at x0 x1 h).bind fun q2 =>
  (s_AdjoinedSets_isLetter q2).bind fun q4 =>
  if q4 = 0 then (
    (kd x0 0).bind fun _ =>
    (s_Text_firstPartOf x0 x1 h).bind fun q7 =>
    (kd x0 0).bind fun _ =>
    (s_Text_endOf x0 x1 h).bind fun q10 =>
    s_Text_freeIn_40 gf 20000 x0 x1 x2 0 q7 q10 0 h)
  else (
    some ((1 : Int32) <<< ((q2 - 97) &&& 31)))
set_option maxHeartbeats 4000000 in
set_option maxRecDepth 100000 in
theorem c_Text_freeIn (l : Launch) (g : GG) (gf : GT_Text_freeIn) (n : Nat) (hG : HG_Text_freeIn l g gf n) {h : HP} {x0 : Nat} {x1 : Int32} {x2 : Int32} {z : Int32} (hs : s_Text_freeIn gf x0 x1 x2 h = some z) : Ct l g y_Text_freeIn w_Text_freeIn (rmS (n + 1 + 2) ((n + 1) * 28 + 42)) [.ref (aD g x0), .int x1, .int x2] h (some (.int z)) h := by
  refine Ct.of (own := R_Text) (by decide) rfl rfl (Nat.le_of_ble_eq_true rfl) ?_
  intro p e s m args below meth c ls C hl hw
  have hx := C.1
  have hb := C.2.1
  have hl : lv_has ls 9 [(0, .ref (aD g x0)), (1, .int x1), (2, .int x2)] := hl
  unfold s_Text_freeIn at hs
  refine lv_aload_n hx hb d_Text_freeIn_0 rfl (lv_at hl 0 rfl) ?_
  refine lv_iload_n hx hb d_Text_freeIn_1 rfl (lv_at hl 1 rfl) ?_
  obtain ⟨_, e1, hs⟩ := ob hs
  obtain ⟨q2, e3, hs⟩ := ob hs
  refine pg_callV C hw hl.1 ml_Text_23 e1 (As := [.int x1]) (rest := []) (c_Text_at l g e3) rfl (rm_ok (by omega) (by omega)) (Nat.le_of_ble_eq_true rfl) rfl (st1 := [.int q2]) rfl d_Text_freeIn_2 (fun H locs hw => ?_)
  refine lv_istore_n hx hb d_Text_freeIn_5 rfl hl (by decide) (lv' := [(3, .int q2), (0, .ref (aD g x0)), (1, .int x1), (2, .int x2)]) rfl (fun ls hl => ?_)
  refine lv_iload_n hx hb d_Text_freeIn_6 rfl (lv_at hl 0 rfl) ?_
  obtain ⟨q4, e5, hs⟩ := ob hs
  refine pg_callSN C hw hl.1 ml_Text_37 (As := [.int q2]) (rest := []) (c_AdjoinedSets_isLetter l g e5) rfl (rm_ok (by omega) (by omega)) (Nat.le_of_ble_eq_true rfl) rfl (st1 := [.int q4]) rfl d_Text_freeIn_7 (fun H locs hw => ?_)
  refine lv_if_eq hx hb d_Text_freeIn_10 (tgt := 20) (by decide) (fun hc => ?_) (fun hc => ?_)
  · have hs := oi_t hc hs
    refine lv_iconst (v := 0) hx hb d_Text_freeIn_20 (by decide) ?_
    refine lv_istore hx hb d_Text_freeIn_21 hl (by decide) (lv' := [(4, .int 0), (3, .int q2), (0, .ref (aD g x0)), (1, .int x1), (2, .int x2)]) rfl (fun ls hl => ?_)
    refine lv_aload_n hx hb d_Text_freeIn_23 rfl (lv_at hl 2 rfl) ?_
    refine lv_iload_n hx hb d_Text_freeIn_24 rfl (lv_at hl 3 rfl) ?_
    obtain ⟨_, e6, hs⟩ := ob hs
    obtain ⟨q7, e8, hs⟩ := ob hs
    refine pg_callV C hw hl.1 ml_Text_40 e6 (As := [.int x1]) (rest := []) (c_Text_firstPartOf l g e8) rfl (rm_ok (by omega) (by omega)) (Nat.le_of_ble_eq_true rfl) rfl (st1 := [.int q7]) rfl d_Text_freeIn_25 (fun H locs hw => ?_)
    refine lv_istore hx hb d_Text_freeIn_28 hl (by decide) (lv' := [(5, .int q7), (4, .int 0), (3, .int q2), (0, .ref (aD g x0)), (1, .int x1), (2, .int x2)]) rfl (fun ls hl => ?_)
    refine lv_aload_n hx hb d_Text_freeIn_30 rfl (lv_at hl 3 rfl) ?_
    refine lv_iload_n hx hb d_Text_freeIn_31 rfl (lv_at hl 4 rfl) ?_
    obtain ⟨_, e9, hs⟩ := ob hs
    obtain ⟨q10, e11, hs⟩ := ob hs
    refine pg_callV C hw hl.1 ml_Text_43 e9 (As := [.int x1]) (rest := []) (c_Text_endOf l g e11) rfl (rm_ok (by omega) (by omega)) (Nat.le_of_ble_eq_true rfl) rfl (st1 := [.int q10]) rfl d_Text_freeIn_32 (fun H locs hw => ?_)
    refine lv_istore hx hb d_Text_freeIn_35 hl (by decide) (lv' := [(6, .int q10), (5, .int q7), (4, .int 0), (3, .int q2), (0, .ref (aD g x0)), (1, .int x1), (2, .int x2)]) rfl (fun ls hl => ?_)
    refine lv_iconst (v := 0) hx hb d_Text_freeIn_37 (by decide) ?_
    refine lv_istore hx hb d_Text_freeIn_38 hl (by decide) (lv' := [(7, .int 0), (6, .int q10), (5, .int q7), (4, .int 0), (3, .int q2), (0, .ref (aD g x0)), (1, .int x1), (2, .int x2)]) rfl (fun ls hl => ?_)
    exact k_Text_freeIn_40 C gf n hG 20000 hw (lv_sub hl [5, 6, 7, 3, 2, 1, 0] rfl) hs
  · have hs := oi_f hc hs
    refine lv_iconst (v := 1) hx hb d_Text_freeIn_13 (by decide) ?_
    refine lv_iload_n hx hb d_Text_freeIn_14 rfl (lv_at hl 0 rfl) ?_
    refine lv_bipush (v := 97) hx hb d_Text_freeIn_15 (by decide) ?_
    refine lv_isub hx hb d_Text_freeIn_17 ?_
    refine lv_ishl hx hb d_Text_freeIn_18 ?_
    obtain rfl := Option.some.inj hs
    exact pg_iret C hw d_Text_freeIn_19

def s_grp_Text_freeIn : Nat → GT_Text_freeIn
  | 0 => fun _ _ _ _ => none
  | n + 1 => s_Text_freeIn (s_grp_Text_freeIn n)
theorem cg_Text_freeIn (l : Launch) (g : GG) : ∀ n : Nat, HG_Text_freeIn l g (s_grp_Text_freeIn n) n := by
  intro n
  induction n with
  | zero => exact fun hs => (no_s hs).elim
  | succ n ih => exact fun hs => c_Text_freeIn l g (s_grp_Text_freeIn n) n ih hs

end
section
variable {p : Program} {l : Launch} {e : Env} {s : State} {m : MethodId} {args : Array Value} {below : List Frame} {meth : Method} {c : Code} {g : GG}
theorem d_Integer_bitCount_0 : decode b_Integer_bitCount 0 = .ok (.iload_n 0, 1) := by decide +kernel
theorem d_Integer_bitCount_1 : decode b_Integer_bitCount 1 = .ok (.iload_n 0, 1) := by decide +kernel
theorem d_Integer_bitCount_2 : decode b_Integer_bitCount 2 = .ok (.iconst 1, 1) := by decide +kernel
theorem d_Integer_bitCount_3 : decode b_Integer_bitCount 3 = .ok (.iushr, 1) := by decide +kernel
theorem d_Integer_bitCount_4 : decode b_Integer_bitCount 4 = .ok (.ldc_w 265, 3) := by decide +kernel
theorem d_Integer_bitCount_7 : decode b_Integer_bitCount 7 = .ok (.iand, 1) := by decide +kernel
theorem d_Integer_bitCount_8 : decode b_Integer_bitCount 8 = .ok (.isub, 1) := by decide +kernel
theorem d_Integer_bitCount_9 : decode b_Integer_bitCount 9 = .ok (.istore_n 0, 1) := by decide +kernel
theorem d_Integer_bitCount_10 : decode b_Integer_bitCount 10 = .ok (.iload_n 0, 1) := by decide +kernel
theorem d_Integer_bitCount_11 : decode b_Integer_bitCount 11 = .ok (.ldc_w 266, 3) := by decide +kernel
theorem d_Integer_bitCount_14 : decode b_Integer_bitCount 14 = .ok (.iand, 1) := by decide +kernel
theorem d_Integer_bitCount_15 : decode b_Integer_bitCount 15 = .ok (.iload_n 0, 1) := by decide +kernel
theorem d_Integer_bitCount_16 : decode b_Integer_bitCount 16 = .ok (.iconst 2, 1) := by decide +kernel
theorem d_Integer_bitCount_17 : decode b_Integer_bitCount 17 = .ok (.iushr, 1) := by decide +kernel
theorem d_Integer_bitCount_18 : decode b_Integer_bitCount 18 = .ok (.ldc_w 266, 3) := by decide +kernel
theorem d_Integer_bitCount_21 : decode b_Integer_bitCount 21 = .ok (.iand, 1) := by decide +kernel
theorem d_Integer_bitCount_22 : decode b_Integer_bitCount 22 = .ok (.iadd, 1) := by decide +kernel
theorem d_Integer_bitCount_23 : decode b_Integer_bitCount 23 = .ok (.istore_n 0, 1) := by decide +kernel
theorem d_Integer_bitCount_24 : decode b_Integer_bitCount 24 = .ok (.iload_n 0, 1) := by decide +kernel
theorem d_Integer_bitCount_25 : decode b_Integer_bitCount 25 = .ok (.iload_n 0, 1) := by decide +kernel
theorem d_Integer_bitCount_26 : decode b_Integer_bitCount 26 = .ok (.iconst 4, 1) := by decide +kernel
theorem d_Integer_bitCount_27 : decode b_Integer_bitCount 27 = .ok (.iushr, 1) := by decide +kernel
theorem d_Integer_bitCount_28 : decode b_Integer_bitCount 28 = .ok (.iadd, 1) := by decide +kernel
theorem d_Integer_bitCount_29 : decode b_Integer_bitCount 29 = .ok (.ldc_w 267, 3) := by decide +kernel
theorem d_Integer_bitCount_32 : decode b_Integer_bitCount 32 = .ok (.iand, 1) := by decide +kernel
theorem d_Integer_bitCount_33 : decode b_Integer_bitCount 33 = .ok (.istore_n 0, 1) := by decide +kernel
theorem d_Integer_bitCount_34 : decode b_Integer_bitCount 34 = .ok (.iload_n 0, 1) := by decide +kernel
theorem d_Integer_bitCount_35 : decode b_Integer_bitCount 35 = .ok (.iload_n 0, 1) := by decide +kernel
theorem d_Integer_bitCount_36 : decode b_Integer_bitCount 36 = .ok (.bipush 8, 2) := by decide +kernel
theorem d_Integer_bitCount_38 : decode b_Integer_bitCount 38 = .ok (.iushr, 1) := by decide +kernel
theorem d_Integer_bitCount_39 : decode b_Integer_bitCount 39 = .ok (.iadd, 1) := by decide +kernel
theorem d_Integer_bitCount_40 : decode b_Integer_bitCount 40 = .ok (.istore_n 0, 1) := by decide +kernel
theorem d_Integer_bitCount_41 : decode b_Integer_bitCount 41 = .ok (.iload_n 0, 1) := by decide +kernel
theorem d_Integer_bitCount_42 : decode b_Integer_bitCount 42 = .ok (.iload_n 0, 1) := by decide +kernel
theorem d_Integer_bitCount_43 : decode b_Integer_bitCount 43 = .ok (.bipush 16, 2) := by decide +kernel
theorem d_Integer_bitCount_45 : decode b_Integer_bitCount 45 = .ok (.iushr, 1) := by decide +kernel
theorem d_Integer_bitCount_46 : decode b_Integer_bitCount 46 = .ok (.iadd, 1) := by decide +kernel
theorem d_Integer_bitCount_47 : decode b_Integer_bitCount 47 = .ok (.istore_n 0, 1) := by decide +kernel
theorem d_Integer_bitCount_48 : decode b_Integer_bitCount 48 = .ok (.iload_n 0, 1) := by decide +kernel
theorem d_Integer_bitCount_49 : decode b_Integer_bitCount 49 = .ok (.bipush 63, 2) := by decide +kernel
theorem d_Integer_bitCount_51 : decode b_Integer_bitCount 51 = .ok (.iand, 1) := by decide +kernel
theorem d_Integer_bitCount_52 : decode b_Integer_bitCount 52 = .ok (.ireturn, 1) := by decide +kernel
def s_Integer_bitCount (x0 : Int32) : Option (Int32) :=
  some ((((((((x0 - ((x0.toUInt32 >>> ((1 : Int32).toUInt32 &&& Int32.toUInt32 31)).toInt32 &&& 1431655765)) &&& 858993459) + (((x0 - ((x0.toUInt32 >>> ((1 : Int32).toUInt32 &&& Int32.toUInt32 31)).toInt32 &&& 1431655765)).toUInt32 >>> ((2 : Int32).toUInt32 &&& Int32.toUInt32 31)).toInt32 &&& 858993459)) + ((((x0 - ((x0.toUInt32 >>> ((1 : Int32).toUInt32 &&& Int32.toUInt32 31)).toInt32 &&& 1431655765)) &&& 858993459) + (((x0 - ((x0.toUInt32 >>> ((1 : Int32).toUInt32 &&& Int32.toUInt32 31)).toInt32 &&& 1431655765)).toUInt32 >>> ((2 : Int32).toUInt32 &&& Int32.toUInt32 31)).toInt32 &&& 858993459)).toUInt32 >>> ((4 : Int32).toUInt32 &&& Int32.toUInt32 31)).toInt32) &&& 252645135) + ((((((x0 - ((x0.toUInt32 >>> ((1 : Int32).toUInt32 &&& Int32.toUInt32 31)).toInt32 &&& 1431655765)) &&& 858993459) + (((x0 - ((x0.toUInt32 >>> ((1 : Int32).toUInt32 &&& Int32.toUInt32 31)).toInt32 &&& 1431655765)).toUInt32 >>> ((2 : Int32).toUInt32 &&& Int32.toUInt32 31)).toInt32 &&& 858993459)) + ((((x0 - ((x0.toUInt32 >>> ((1 : Int32).toUInt32 &&& Int32.toUInt32 31)).toInt32 &&& 1431655765)) &&& 858993459) + (((x0 - ((x0.toUInt32 >>> ((1 : Int32).toUInt32 &&& Int32.toUInt32 31)).toInt32 &&& 1431655765)).toUInt32 >>> ((2 : Int32).toUInt32 &&& Int32.toUInt32 31)).toInt32 &&& 858993459)).toUInt32 >>> ((4 : Int32).toUInt32 &&& Int32.toUInt32 31)).toInt32) &&& 252645135).toUInt32 >>> ((8 : Int32).toUInt32 &&& Int32.toUInt32 31)).toInt32) + (((((((x0 - ((x0.toUInt32 >>> ((1 : Int32).toUInt32 &&& Int32.toUInt32 31)).toInt32 &&& 1431655765)) &&& 858993459) + (((x0 - ((x0.toUInt32 >>> ((1 : Int32).toUInt32 &&& Int32.toUInt32 31)).toInt32 &&& 1431655765)).toUInt32 >>> ((2 : Int32).toUInt32 &&& Int32.toUInt32 31)).toInt32 &&& 858993459)) + ((((x0 - ((x0.toUInt32 >>> ((1 : Int32).toUInt32 &&& Int32.toUInt32 31)).toInt32 &&& 1431655765)) &&& 858993459) + (((x0 - ((x0.toUInt32 >>> ((1 : Int32).toUInt32 &&& Int32.toUInt32 31)).toInt32 &&& 1431655765)).toUInt32 >>> ((2 : Int32).toUInt32 &&& Int32.toUInt32 31)).toInt32 &&& 858993459)).toUInt32 >>> ((4 : Int32).toUInt32 &&& Int32.toUInt32 31)).toInt32) &&& 252645135) + ((((((x0 - ((x0.toUInt32 >>> ((1 : Int32).toUInt32 &&& Int32.toUInt32 31)).toInt32 &&& 1431655765)) &&& 858993459) + (((x0 - ((x0.toUInt32 >>> ((1 : Int32).toUInt32 &&& Int32.toUInt32 31)).toInt32 &&& 1431655765)).toUInt32 >>> ((2 : Int32).toUInt32 &&& Int32.toUInt32 31)).toInt32 &&& 858993459)) + ((((x0 - ((x0.toUInt32 >>> ((1 : Int32).toUInt32 &&& Int32.toUInt32 31)).toInt32 &&& 1431655765)) &&& 858993459) + (((x0 - ((x0.toUInt32 >>> ((1 : Int32).toUInt32 &&& Int32.toUInt32 31)).toInt32 &&& 1431655765)).toUInt32 >>> ((2 : Int32).toUInt32 &&& Int32.toUInt32 31)).toInt32 &&& 858993459)).toUInt32 >>> ((4 : Int32).toUInt32 &&& Int32.toUInt32 31)).toInt32) &&& 252645135).toUInt32 >>> ((8 : Int32).toUInt32 &&& Int32.toUInt32 31)).toInt32).toUInt32 >>> ((16 : Int32).toUInt32 &&& Int32.toUInt32 31)).toInt32) &&& 63)
set_option maxHeartbeats 4000000 in
set_option maxRecDepth 100000 in
theorem c_Integer_bitCount (l : Launch) (g : GG) {h : HP} {x0 : Int32} {z : Int32} (hs : s_Integer_bitCount x0 = some z) : Ct l g y_Integer_bitCount w_Integer_bitCount (rmS 0 0) [.int x0] h (some (.int z)) h := by
  refine Ct.of (own := R_Integer) (by decide) rfl rfl (Nat.le_of_ble_eq_true rfl) ?_
  intro p e s m args below meth c ls C hl hw
  have hx := C.1
  have hb := C.2.1
  have hl : lv_has ls 1 [(0, .int x0)] := hl
  unfold s_Integer_bitCount at hs
  refine lv_iload_n hx hb d_Integer_bitCount_0 rfl (lv_at hl 0 rfl) ?_
  refine lv_iload_n hx hb d_Integer_bitCount_1 rfl (lv_at hl 0 rfl) ?_
  refine lv_iconst (v := 1) hx hb d_Integer_bitCount_2 (by decide) ?_
  refine lv_iushr (v := (x0.toUInt32 >>> ((1 : Int32).toUInt32 &&& Int32.toUInt32 31)).toInt32) hx hb d_Integer_bitCount_3 rfl ?_
  refine lv_ldcw (v := 1431655765) hx hb C.own (C.w kc_Integer_265) d_Integer_bitCount_4 ?_
  refine lv_iand hx hb d_Integer_bitCount_7 ?_
  refine lv_isub hx hb d_Integer_bitCount_8 ?_
  refine lv_istore_n hx hb d_Integer_bitCount_9 rfl hl (by decide) (lv' := [(0, .int (x0 - ((x0.toUInt32 >>> ((1 : Int32).toUInt32 &&& Int32.toUInt32 31)).toInt32 &&& 1431655765)))]) rfl (fun ls hl => ?_)
  refine lv_iload_n hx hb d_Integer_bitCount_10 rfl (lv_at hl 0 rfl) ?_
  refine lv_ldcw (v := 858993459) hx hb C.own (C.w kc_Integer_266) d_Integer_bitCount_11 ?_
  refine lv_iand hx hb d_Integer_bitCount_14 ?_
  refine lv_iload_n hx hb d_Integer_bitCount_15 rfl (lv_at hl 0 rfl) ?_
  refine lv_iconst (v := 2) hx hb d_Integer_bitCount_16 (by decide) ?_
  refine lv_iushr (v := ((x0 - ((x0.toUInt32 >>> ((1 : Int32).toUInt32 &&& Int32.toUInt32 31)).toInt32 &&& 1431655765)).toUInt32 >>> ((2 : Int32).toUInt32 &&& Int32.toUInt32 31)).toInt32) hx hb d_Integer_bitCount_17 rfl ?_
  refine lv_ldcw (v := 858993459) hx hb C.own (C.w kc_Integer_266) d_Integer_bitCount_18 ?_
  refine lv_iand hx hb d_Integer_bitCount_21 ?_
  refine lv_iadd hx hb d_Integer_bitCount_22 ?_
  refine lv_istore_n hx hb d_Integer_bitCount_23 rfl hl (by decide) (lv' := [(0, .int (((x0 - ((x0.toUInt32 >>> ((1 : Int32).toUInt32 &&& Int32.toUInt32 31)).toInt32 &&& 1431655765)) &&& 858993459) + (((x0 - ((x0.toUInt32 >>> ((1 : Int32).toUInt32 &&& Int32.toUInt32 31)).toInt32 &&& 1431655765)).toUInt32 >>> ((2 : Int32).toUInt32 &&& Int32.toUInt32 31)).toInt32 &&& 858993459)))]) rfl (fun ls hl => ?_)
  refine lv_iload_n hx hb d_Integer_bitCount_24 rfl (lv_at hl 0 rfl) ?_
  refine lv_iload_n hx hb d_Integer_bitCount_25 rfl (lv_at hl 0 rfl) ?_
  refine lv_iconst (v := 4) hx hb d_Integer_bitCount_26 (by decide) ?_
  refine lv_iushr (v := ((((x0 - ((x0.toUInt32 >>> ((1 : Int32).toUInt32 &&& Int32.toUInt32 31)).toInt32 &&& 1431655765)) &&& 858993459) + (((x0 - ((x0.toUInt32 >>> ((1 : Int32).toUInt32 &&& Int32.toUInt32 31)).toInt32 &&& 1431655765)).toUInt32 >>> ((2 : Int32).toUInt32 &&& Int32.toUInt32 31)).toInt32 &&& 858993459)).toUInt32 >>> ((4 : Int32).toUInt32 &&& Int32.toUInt32 31)).toInt32) hx hb d_Integer_bitCount_27 rfl ?_
  refine lv_iadd hx hb d_Integer_bitCount_28 ?_
  refine lv_ldcw (v := 252645135) hx hb C.own (C.w kc_Integer_267) d_Integer_bitCount_29 ?_
  refine lv_iand hx hb d_Integer_bitCount_32 ?_
  refine lv_istore_n hx hb d_Integer_bitCount_33 rfl hl (by decide) (lv' := [(0, .int (((((x0 - ((x0.toUInt32 >>> ((1 : Int32).toUInt32 &&& Int32.toUInt32 31)).toInt32 &&& 1431655765)) &&& 858993459) + (((x0 - ((x0.toUInt32 >>> ((1 : Int32).toUInt32 &&& Int32.toUInt32 31)).toInt32 &&& 1431655765)).toUInt32 >>> ((2 : Int32).toUInt32 &&& Int32.toUInt32 31)).toInt32 &&& 858993459)) + ((((x0 - ((x0.toUInt32 >>> ((1 : Int32).toUInt32 &&& Int32.toUInt32 31)).toInt32 &&& 1431655765)) &&& 858993459) + (((x0 - ((x0.toUInt32 >>> ((1 : Int32).toUInt32 &&& Int32.toUInt32 31)).toInt32 &&& 1431655765)).toUInt32 >>> ((2 : Int32).toUInt32 &&& Int32.toUInt32 31)).toInt32 &&& 858993459)).toUInt32 >>> ((4 : Int32).toUInt32 &&& Int32.toUInt32 31)).toInt32) &&& 252645135))]) rfl (fun ls hl => ?_)
  refine lv_iload_n hx hb d_Integer_bitCount_34 rfl (lv_at hl 0 rfl) ?_
  refine lv_iload_n hx hb d_Integer_bitCount_35 rfl (lv_at hl 0 rfl) ?_
  refine lv_bipush (v := 8) hx hb d_Integer_bitCount_36 (by decide) ?_
  refine lv_iushr (v := ((((((x0 - ((x0.toUInt32 >>> ((1 : Int32).toUInt32 &&& Int32.toUInt32 31)).toInt32 &&& 1431655765)) &&& 858993459) + (((x0 - ((x0.toUInt32 >>> ((1 : Int32).toUInt32 &&& Int32.toUInt32 31)).toInt32 &&& 1431655765)).toUInt32 >>> ((2 : Int32).toUInt32 &&& Int32.toUInt32 31)).toInt32 &&& 858993459)) + ((((x0 - ((x0.toUInt32 >>> ((1 : Int32).toUInt32 &&& Int32.toUInt32 31)).toInt32 &&& 1431655765)) &&& 858993459) + (((x0 - ((x0.toUInt32 >>> ((1 : Int32).toUInt32 &&& Int32.toUInt32 31)).toInt32 &&& 1431655765)).toUInt32 >>> ((2 : Int32).toUInt32 &&& Int32.toUInt32 31)).toInt32 &&& 858993459)).toUInt32 >>> ((4 : Int32).toUInt32 &&& Int32.toUInt32 31)).toInt32) &&& 252645135).toUInt32 >>> ((8 : Int32).toUInt32 &&& Int32.toUInt32 31)).toInt32) hx hb d_Integer_bitCount_38 rfl ?_
  refine lv_iadd hx hb d_Integer_bitCount_39 ?_
  refine lv_istore_n hx hb d_Integer_bitCount_40 rfl hl (by decide) (lv' := [(0, .int ((((((x0 - ((x0.toUInt32 >>> ((1 : Int32).toUInt32 &&& Int32.toUInt32 31)).toInt32 &&& 1431655765)) &&& 858993459) + (((x0 - ((x0.toUInt32 >>> ((1 : Int32).toUInt32 &&& Int32.toUInt32 31)).toInt32 &&& 1431655765)).toUInt32 >>> ((2 : Int32).toUInt32 &&& Int32.toUInt32 31)).toInt32 &&& 858993459)) + ((((x0 - ((x0.toUInt32 >>> ((1 : Int32).toUInt32 &&& Int32.toUInt32 31)).toInt32 &&& 1431655765)) &&& 858993459) + (((x0 - ((x0.toUInt32 >>> ((1 : Int32).toUInt32 &&& Int32.toUInt32 31)).toInt32 &&& 1431655765)).toUInt32 >>> ((2 : Int32).toUInt32 &&& Int32.toUInt32 31)).toInt32 &&& 858993459)).toUInt32 >>> ((4 : Int32).toUInt32 &&& Int32.toUInt32 31)).toInt32) &&& 252645135) + ((((((x0 - ((x0.toUInt32 >>> ((1 : Int32).toUInt32 &&& Int32.toUInt32 31)).toInt32 &&& 1431655765)) &&& 858993459) + (((x0 - ((x0.toUInt32 >>> ((1 : Int32).toUInt32 &&& Int32.toUInt32 31)).toInt32 &&& 1431655765)).toUInt32 >>> ((2 : Int32).toUInt32 &&& Int32.toUInt32 31)).toInt32 &&& 858993459)) + ((((x0 - ((x0.toUInt32 >>> ((1 : Int32).toUInt32 &&& Int32.toUInt32 31)).toInt32 &&& 1431655765)) &&& 858993459) + (((x0 - ((x0.toUInt32 >>> ((1 : Int32).toUInt32 &&& Int32.toUInt32 31)).toInt32 &&& 1431655765)).toUInt32 >>> ((2 : Int32).toUInt32 &&& Int32.toUInt32 31)).toInt32 &&& 858993459)).toUInt32 >>> ((4 : Int32).toUInt32 &&& Int32.toUInt32 31)).toInt32) &&& 252645135).toUInt32 >>> ((8 : Int32).toUInt32 &&& Int32.toUInt32 31)).toInt32))]) rfl (fun ls hl => ?_)
  refine lv_iload_n hx hb d_Integer_bitCount_41 rfl (lv_at hl 0 rfl) ?_
  refine lv_iload_n hx hb d_Integer_bitCount_42 rfl (lv_at hl 0 rfl) ?_
  refine lv_bipush (v := 16) hx hb d_Integer_bitCount_43 (by decide) ?_
  refine lv_iushr (v := (((((((x0 - ((x0.toUInt32 >>> ((1 : Int32).toUInt32 &&& Int32.toUInt32 31)).toInt32 &&& 1431655765)) &&& 858993459) + (((x0 - ((x0.toUInt32 >>> ((1 : Int32).toUInt32 &&& Int32.toUInt32 31)).toInt32 &&& 1431655765)).toUInt32 >>> ((2 : Int32).toUInt32 &&& Int32.toUInt32 31)).toInt32 &&& 858993459)) + ((((x0 - ((x0.toUInt32 >>> ((1 : Int32).toUInt32 &&& Int32.toUInt32 31)).toInt32 &&& 1431655765)) &&& 858993459) + (((x0 - ((x0.toUInt32 >>> ((1 : Int32).toUInt32 &&& Int32.toUInt32 31)).toInt32 &&& 1431655765)).toUInt32 >>> ((2 : Int32).toUInt32 &&& Int32.toUInt32 31)).toInt32 &&& 858993459)).toUInt32 >>> ((4 : Int32).toUInt32 &&& Int32.toUInt32 31)).toInt32) &&& 252645135) + ((((((x0 - ((x0.toUInt32 >>> ((1 : Int32).toUInt32 &&& Int32.toUInt32 31)).toInt32 &&& 1431655765)) &&& 858993459) + (((x0 - ((x0.toUInt32 >>> ((1 : Int32).toUInt32 &&& Int32.toUInt32 31)).toInt32 &&& 1431655765)).toUInt32 >>> ((2 : Int32).toUInt32 &&& Int32.toUInt32 31)).toInt32 &&& 858993459)) + ((((x0 - ((x0.toUInt32 >>> ((1 : Int32).toUInt32 &&& Int32.toUInt32 31)).toInt32 &&& 1431655765)) &&& 858993459) + (((x0 - ((x0.toUInt32 >>> ((1 : Int32).toUInt32 &&& Int32.toUInt32 31)).toInt32 &&& 1431655765)).toUInt32 >>> ((2 : Int32).toUInt32 &&& Int32.toUInt32 31)).toInt32 &&& 858993459)).toUInt32 >>> ((4 : Int32).toUInt32 &&& Int32.toUInt32 31)).toInt32) &&& 252645135).toUInt32 >>> ((8 : Int32).toUInt32 &&& Int32.toUInt32 31)).toInt32).toUInt32 >>> ((16 : Int32).toUInt32 &&& Int32.toUInt32 31)).toInt32) hx hb d_Integer_bitCount_45 rfl ?_
  refine lv_iadd hx hb d_Integer_bitCount_46 ?_
  refine lv_istore_n hx hb d_Integer_bitCount_47 rfl hl (by decide) (lv' := [(0, .int (((((((x0 - ((x0.toUInt32 >>> ((1 : Int32).toUInt32 &&& Int32.toUInt32 31)).toInt32 &&& 1431655765)) &&& 858993459) + (((x0 - ((x0.toUInt32 >>> ((1 : Int32).toUInt32 &&& Int32.toUInt32 31)).toInt32 &&& 1431655765)).toUInt32 >>> ((2 : Int32).toUInt32 &&& Int32.toUInt32 31)).toInt32 &&& 858993459)) + ((((x0 - ((x0.toUInt32 >>> ((1 : Int32).toUInt32 &&& Int32.toUInt32 31)).toInt32 &&& 1431655765)) &&& 858993459) + (((x0 - ((x0.toUInt32 >>> ((1 : Int32).toUInt32 &&& Int32.toUInt32 31)).toInt32 &&& 1431655765)).toUInt32 >>> ((2 : Int32).toUInt32 &&& Int32.toUInt32 31)).toInt32 &&& 858993459)).toUInt32 >>> ((4 : Int32).toUInt32 &&& Int32.toUInt32 31)).toInt32) &&& 252645135) + ((((((x0 - ((x0.toUInt32 >>> ((1 : Int32).toUInt32 &&& Int32.toUInt32 31)).toInt32 &&& 1431655765)) &&& 858993459) + (((x0 - ((x0.toUInt32 >>> ((1 : Int32).toUInt32 &&& Int32.toUInt32 31)).toInt32 &&& 1431655765)).toUInt32 >>> ((2 : Int32).toUInt32 &&& Int32.toUInt32 31)).toInt32 &&& 858993459)) + ((((x0 - ((x0.toUInt32 >>> ((1 : Int32).toUInt32 &&& Int32.toUInt32 31)).toInt32 &&& 1431655765)) &&& 858993459) + (((x0 - ((x0.toUInt32 >>> ((1 : Int32).toUInt32 &&& Int32.toUInt32 31)).toInt32 &&& 1431655765)).toUInt32 >>> ((2 : Int32).toUInt32 &&& Int32.toUInt32 31)).toInt32 &&& 858993459)).toUInt32 >>> ((4 : Int32).toUInt32 &&& Int32.toUInt32 31)).toInt32) &&& 252645135).toUInt32 >>> ((8 : Int32).toUInt32 &&& Int32.toUInt32 31)).toInt32) + (((((((x0 - ((x0.toUInt32 >>> ((1 : Int32).toUInt32 &&& Int32.toUInt32 31)).toInt32 &&& 1431655765)) &&& 858993459) + (((x0 - ((x0.toUInt32 >>> ((1 : Int32).toUInt32 &&& Int32.toUInt32 31)).toInt32 &&& 1431655765)).toUInt32 >>> ((2 : Int32).toUInt32 &&& Int32.toUInt32 31)).toInt32 &&& 858993459)) + ((((x0 - ((x0.toUInt32 >>> ((1 : Int32).toUInt32 &&& Int32.toUInt32 31)).toInt32 &&& 1431655765)) &&& 858993459) + (((x0 - ((x0.toUInt32 >>> ((1 : Int32).toUInt32 &&& Int32.toUInt32 31)).toInt32 &&& 1431655765)).toUInt32 >>> ((2 : Int32).toUInt32 &&& Int32.toUInt32 31)).toInt32 &&& 858993459)).toUInt32 >>> ((4 : Int32).toUInt32 &&& Int32.toUInt32 31)).toInt32) &&& 252645135) + ((((((x0 - ((x0.toUInt32 >>> ((1 : Int32).toUInt32 &&& Int32.toUInt32 31)).toInt32 &&& 1431655765)) &&& 858993459) + (((x0 - ((x0.toUInt32 >>> ((1 : Int32).toUInt32 &&& Int32.toUInt32 31)).toInt32 &&& 1431655765)).toUInt32 >>> ((2 : Int32).toUInt32 &&& Int32.toUInt32 31)).toInt32 &&& 858993459)) + ((((x0 - ((x0.toUInt32 >>> ((1 : Int32).toUInt32 &&& Int32.toUInt32 31)).toInt32 &&& 1431655765)) &&& 858993459) + (((x0 - ((x0.toUInt32 >>> ((1 : Int32).toUInt32 &&& Int32.toUInt32 31)).toInt32 &&& 1431655765)).toUInt32 >>> ((2 : Int32).toUInt32 &&& Int32.toUInt32 31)).toInt32 &&& 858993459)).toUInt32 >>> ((4 : Int32).toUInt32 &&& Int32.toUInt32 31)).toInt32) &&& 252645135).toUInt32 >>> ((8 : Int32).toUInt32 &&& Int32.toUInt32 31)).toInt32).toUInt32 >>> ((16 : Int32).toUInt32 &&& Int32.toUInt32 31)).toInt32))]) rfl (fun ls hl => ?_)
  refine lv_iload_n hx hb d_Integer_bitCount_48 rfl (lv_at hl 0 rfl) ?_
  refine lv_bipush (v := 63) hx hb d_Integer_bitCount_49 (by decide) ?_
  refine lv_iand hx hb d_Integer_bitCount_51 ?_
  obtain rfl := Option.some.inj hs
  exact pg_iret C hw d_Integer_bitCount_52

end
section
variable {p : Program} {l : Launch} {e : Env} {s : State} {m : MethodId} {args : Array Value} {below : List Frame} {meth : Method} {c : Code} {g : GG}
theorem d_Text_empty_0 : decode b_Text_empty 0 = .ok (.aload_n 0, 1) := by decide +kernel
theorem d_Text_empty_1 : decode b_Text_empty 1 = .ok (.iconst 0, 1) := by decide +kernel
theorem d_Text_empty_2 : decode b_Text_empty 2 = .ok (.putfield 19, 3) := by decide +kernel
theorem d_Text_empty_5 : decode b_Text_empty 5 = .ok (.return_, 1) := by decide +kernel
def s_Text_empty (x0 : Nat) (h : HP) : Option (HP) :=
  (pI h x0 0 2 0).bind fun h1 =>
  some h1
set_option maxHeartbeats 4000000 in
set_option maxRecDepth 100000 in
theorem c_Text_empty (l : Launch) (g : GG) {x0 : Nat} {h : HP} {z : HP} (hs : s_Text_empty x0 h = some z) : Ct l g y_Text_empty w_Text_empty (rmS 0 0) [.ref (aD g x0)] h none z := by
  refine Ct.of (own := R_Text) (by decide) rfl rfl (Nat.le_of_ble_eq_true rfl) ?_
  intro p e s m args below meth c ls C hl hw
  have hx := C.1
  have hb := C.2.1
  have hl : lv_has ls 1 [(0, .ref (aD g x0))] := hl
  unfold s_Text_empty at hs
  refine lv_aload_n hx hb d_Text_empty_0 rfl (lv_at hl 0 rfl) ?_
  refine lv_iconst (v := 0) hx hb d_Text_empty_1 (by decide) ?_
  obtain ⟨h1, e2, hs⟩ := ob hs
  refine pg_putI C hw pl_Text_19 e2 d_Text_empty_2 (fun H locs hw => ?_)
  obtain rfl := Option.some.inj hs
  exact pg_vret C hw d_Text_empty_5

end
