section
variable {p : Program} {l : Launch} {e : Env} {s : State} {m : MethodId} {args : Array Value} {below : List Frame} {meth : Method} {c : Code} {g : GG}
theorem d_Worker_pay_0 : decode b_Worker_pay 0 = .ok (.iload_n 1, 1) := by decide +kernel
theorem d_Worker_pay_1 : decode b_Worker_pay 1 = .ok (.bipush 32, 2) := by decide +kernel
theorem d_Worker_pay_3 : decode b_Worker_pay 3 = .ok (.if_icmp .gt 13, 3) := by decide +kernel
theorem d_Worker_pay_6 : decode b_Worker_pay 6 = .ok (.aload_n 0, 1) := by decide +kernel
theorem d_Worker_pay_7 : decode b_Worker_pay 7 = .ok (.getfield 15, 3) := by decide +kernel
theorem d_Worker_pay_10 : decode b_Worker_pay 10 = .ok (.sipush 3000, 3) := by decide +kernel
theorem d_Worker_pay_13 : decode b_Worker_pay 13 = .ok (.if_icmp .lt 5, 3) := by decide +kernel
theorem d_Worker_pay_16 : decode b_Worker_pay 16 = .ok (.iconst 0, 1) := by decide +kernel
theorem d_Worker_pay_17 : decode b_Worker_pay 17 = .ok (.ireturn, 1) := by decide +kernel
theorem d_Worker_pay_18 : decode b_Worker_pay 18 = .ok (.aload_n 0, 1) := by decide +kernel
theorem d_Worker_pay_19 : decode b_Worker_pay 19 = .ok (.dup, 1) := by decide +kernel
theorem d_Worker_pay_20 : decode b_Worker_pay 20 = .ok (.getfield 15, 3) := by decide +kernel
theorem d_Worker_pay_23 : decode b_Worker_pay 23 = .ok (.iconst 1, 1) := by decide +kernel
theorem d_Worker_pay_24 : decode b_Worker_pay 24 = .ok (.iadd, 1) := by decide +kernel
theorem d_Worker_pay_25 : decode b_Worker_pay 25 = .ok (.putfield 15, 3) := by decide +kernel
theorem d_Worker_pay_28 : decode b_Worker_pay 28 = .ok (.iconst 1, 1) := by decide +kernel
theorem d_Worker_pay_29 : decode b_Worker_pay 29 = .ok (.ireturn, 1) := by decide +kernel
def s_Worker_pay (x0 : Nat) (x1 : Int32) (h : HP) : Option (Int32 × HP) :=
  if 32 < x1 then (
    some (0, h))
  else (
    (gI h x0 4 2).bind fun v2 =>
    if v2 < 3000 then (
      (gI h x0 4 2).bind fun v4 =>
      (pI h x0 4 2 (v4 + 1)).bind fun h6 =>
      some (1, h6))
    else (
      some (0, h)))
set_option maxHeartbeats 4000000 in
set_option maxRecDepth 100000 in
theorem c_Worker_pay (l : Launch) (g : GG) {x0 : Nat} {x1 : Int32} {h : HP} {z : Int32 × HP} (hs : s_Worker_pay x0 x1 h = some z) : Ct l g y_Worker_pay w_Worker_pay (rmS 0 0) [.ref (aD g x0), .int x1] h (some (.int z.1)) z.2 := by
  refine Ct.of (own := R_Worker) (by decide) rfl rfl (Nat.le_of_ble_eq_true rfl) ?_
  intro p e s m args below meth c ls C hl hw
  have hx := C.1
  have hb := C.2.1
  have hl : lv_has ls 2 [(0, .ref (aD g x0)), (1, .int x1)] := hl
  unfold s_Worker_pay at hs
  refine lv_iload_n hx hb d_Worker_pay_0 rfl (lv_at hl 1 rfl) ?_
  refine lv_bipush (v := 32) hx hb d_Worker_pay_1 (by decide) ?_
  refine lv_icmp_gt hx hb d_Worker_pay_3 (tgt := 16) (by decide) (fun hc => ?_) (fun hc => ?_)
  · have hs := oi_t hc hs
    refine lv_iconst (v := 0) hx hb d_Worker_pay_16 (by decide) ?_
    obtain rfl := Option.some.inj hs
    exact pg_zret (v := 0) C hw rfl d_Worker_pay_17
  · have hs := oi_f hc hs
    refine lv_aload_n hx hb d_Worker_pay_6 rfl (lv_at hl 0 rfl) ?_
    obtain ⟨v2, e3, hs⟩ := ob hs
    refine pg_getI C hw fl_Worker_15 e3 d_Worker_pay_7 ?_
    refine lv_sipush (v := 3000) hx hb d_Worker_pay_10 (by decide) ?_
    refine lv_icmp_lt hx hb d_Worker_pay_13 (tgt := 18) (by decide) (fun hc => ?_) (fun hc => ?_)
    · have hs := oi_t hc hs
      refine lv_aload_n hx hb d_Worker_pay_18 rfl (lv_at hl 0 rfl) ?_
      refine lv_dup hx hb d_Worker_pay_19 rfl ?_
      obtain ⟨v4, e5, hs⟩ := ob hs
      refine pg_getI C hw fl_Worker_15 e5 d_Worker_pay_20 ?_
      refine lv_iconst (v := 1) hx hb d_Worker_pay_23 (by decide) ?_
      refine lv_iadd hx hb d_Worker_pay_24 ?_
      obtain ⟨h6, e7, hs⟩ := ob hs
      refine pg_putI C hw pl_Worker_15 e7 d_Worker_pay_25 (fun H locs hw => ?_)
      refine lv_iconst (v := 1) hx hb d_Worker_pay_28 (by decide) ?_
      obtain rfl := Option.some.inj hs
      exact pg_zret (v := 1) C hw rfl d_Worker_pay_29
    · have hs := oi_f hc hs
      refine lv_iconst (v := 0) hx hb d_Worker_pay_16 (by decide) ?_
      obtain rfl := Option.some.inj hs
      exact pg_zret (v := 0) C hw rfl d_Worker_pay_17

end
section
variable {p : Program} {l : Launch} {e : Env} {s : State} {m : MethodId} {args : Array Value} {below : List Frame} {meth : Method} {c : Code} {g : GG}
theorem d_Text_at_0 : decode b_Text_at 0 = .ok (.iload_n 1, 1) := by decide +kernel
theorem d_Text_at_1 : decode b_Text_at 1 = .ok (.ifCond .lt 20, 3) := by decide +kernel
theorem d_Text_at_4 : decode b_Text_at 4 = .ok (.iload_n 1, 1) := by decide +kernel
theorem d_Text_at_5 : decode b_Text_at 5 = .ok (.aload_n 0, 1) := by decide +kernel
theorem d_Text_at_6 : decode b_Text_at 6 = .ok (.getfield 19, 3) := by decide +kernel
theorem d_Text_at_9 : decode b_Text_at 9 = .ok (.if_icmp .ge 12, 3) := by decide +kernel
theorem d_Text_at_12 : decode b_Text_at 12 = .ok (.aload_n 0, 1) := by decide +kernel
theorem d_Text_at_13 : decode b_Text_at 13 = .ok (.getfield 9, 3) := by decide +kernel
theorem d_Text_at_16 : decode b_Text_at 16 = .ok (.iload_n 1, 1) := by decide +kernel
theorem d_Text_at_17 : decode b_Text_at 17 = .ok (.caload, 1) := by decide +kernel
theorem d_Text_at_18 : decode b_Text_at 18 = .ok (.goto 4, 3) := by decide +kernel
theorem d_Text_at_21 : decode b_Text_at 21 = .ok (.iconst 0, 1) := by decide +kernel
theorem d_Text_at_22 : decode b_Text_at 22 = .ok (.ireturn, 1) := by decide +kernel
def s_Text_at (x0 : Nat) (x1 : Int32) (h : HP) : Option (Int32) :=
  if x1 < 0 then (
    some 0)
  else (
    (gI h x0 0 2).bind fun v1 =>
    if v1 ≤ x1 then (
      some 0)
    else (
      (gR h x0 0 0).bind fun v3 =>
      (aI h v3 1 x1).bind fun v5 =>
      some v5))
set_option maxHeartbeats 4000000 in
set_option maxRecDepth 100000 in
theorem c_Text_at (l : Launch) (g : GG) {h : HP} {x0 : Nat} {x1 : Int32} {z : Int32} (hs : s_Text_at x0 x1 h = some z) : Ct l g y_Text_at w_Text_at (rmS 0 0) [.ref (aD g x0), .int x1] h (some (.int z)) h := by
  refine Ct.of (own := R_Text) (by decide) rfl rfl (Nat.le_of_ble_eq_true rfl) ?_
  intro p e s m args below meth c ls C hl hw
  have hx := C.1
  have hb := C.2.1
  have hl : lv_has ls 2 [(0, .ref (aD g x0)), (1, .int x1)] := hl
  unfold s_Text_at at hs
  refine lv_iload_n hx hb d_Text_at_0 rfl (lv_at hl 1 rfl) ?_
  refine lv_if_lt hx hb d_Text_at_1 (tgt := 21) (by decide) (fun hc => ?_) (fun hc => ?_)
  · have hs := oi_t hc hs
    refine lv_iconst (v := 0) hx hb d_Text_at_21 (by decide) ?_
    obtain rfl := Option.some.inj hs
    exact pg_iret C hw d_Text_at_22
  · have hs := oi_f hc hs
    refine lv_iload_n hx hb d_Text_at_4 rfl (lv_at hl 1 rfl) ?_
    refine lv_aload_n hx hb d_Text_at_5 rfl (lv_at hl 0 rfl) ?_
    obtain ⟨v1, e2, hs⟩ := ob hs
    refine pg_getI C hw fl_Text_19 e2 d_Text_at_6 ?_
    refine lv_icmp_ge hx hb d_Text_at_9 (tgt := 21) (by decide) (fun hc => ?_) (fun hc => ?_)
    · have hs := oi_t hc hs
      refine lv_iconst (v := 0) hx hb d_Text_at_21 (by decide) ?_
      obtain rfl := Option.some.inj hs
      exact pg_iret C hw d_Text_at_22
    · have hs := oi_f hc hs
      refine lv_aload_n hx hb d_Text_at_12 rfl (lv_at hl 0 rfl) ?_
      obtain ⟨v3, e4, hs⟩ := ob hs
      refine pg_getR C hw fl_Text_9 e4 d_Text_at_13 ?_
      refine lv_iload_n hx hb d_Text_at_16 rfl (lv_at hl 1 rfl) ?_
      obtain ⟨v5, e6, hs⟩ := ob hs
      refine pg_caload C hw (t0 := 1) rfl e6 d_Text_at_17 ?_
      refine lv_goto hx hb d_Text_at_18 (tgt := 22) (by decide) ?_
      obtain rfl := Option.some.inj hs
      exact pg_iret C hw d_Text_at_22

end
section
variable {p : Program} {l : Launch} {e : Env} {s : State} {m : MethodId} {args : Array Value} {below : List Frame} {meth : Method} {c : Code} {g : GG}
theorem d_Function_takes_0 : decode b_Function_takes 0 = .ok (.aload_n 0, 1) := by decide +kernel
theorem d_Function_takes_1 : decode b_Function_takes 1 = .ok (.getfield 16, 3) := by decide +kernel
theorem d_Function_takes_4 : decode b_Function_takes 4 = .ok (.ireturn, 1) := by decide +kernel
def s_Function_takes (x0 : Nat) (h : HP) : Option (Int32) :=
  (gI h x0 1 1).bind fun v1 =>
  some v1
set_option maxHeartbeats 4000000 in
set_option maxRecDepth 100000 in
theorem c_Function_takes (l : Launch) (g : GG) {h : HP} {x0 : Nat} {z : Int32} (hs : s_Function_takes x0 h = some z) : Ct l g y_Function_takes w_Function_takes (rmS 0 0) [.ref (aD g x0)] h (some (.int z)) h := by
  refine Ct.of (own := R_Function) (by decide) rfl rfl (Nat.le_of_ble_eq_true rfl) ?_
  intro p e s m args below meth c ls C hl hw
  have hx := C.1
  have hb := C.2.1
  have hl : lv_has ls 1 [(0, .ref (aD g x0))] := hl
  unfold s_Function_takes at hs
  refine lv_aload_n hx hb d_Function_takes_0 rfl (lv_at hl 0 rfl) ?_
  obtain ⟨v1, e2, hs⟩ := ob hs
  refine pg_getI C hw fl_Function_16 e2 d_Function_takes_1 ?_
  obtain rfl := Option.some.inj hs
  exact pg_iret C hw d_Function_takes_4

end
section
variable {p : Program} {l : Launch} {e : Env} {s : State} {m : MethodId} {args : Array Value} {below : List Frame} {meth : Method} {c : Code} {g : GG}
theorem d_Text_endOf_0 : decode b_Text_endOf 0 = .ok (.iload_n 1, 1) := by decide +kernel
theorem d_Text_endOf_1 : decode b_Text_endOf 1 = .ok (.ifCond .lt 20, 3) := by decide +kernel
theorem d_Text_endOf_4 : decode b_Text_endOf 4 = .ok (.iload_n 1, 1) := by decide +kernel
theorem d_Text_endOf_5 : decode b_Text_endOf 5 = .ok (.aload_n 0, 1) := by decide +kernel
theorem d_Text_endOf_6 : decode b_Text_endOf 6 = .ok (.getfield 19, 3) := by decide +kernel
theorem d_Text_endOf_9 : decode b_Text_endOf 9 = .ok (.if_icmp .ge 12, 3) := by decide +kernel
theorem d_Text_endOf_12 : decode b_Text_endOf 12 = .ok (.aload_n 0, 1) := by decide +kernel
theorem d_Text_endOf_13 : decode b_Text_endOf 13 = .ok (.getfield 15, 3) := by decide +kernel
theorem d_Text_endOf_16 : decode b_Text_endOf 16 = .ok (.iload_n 1, 1) := by decide +kernel
theorem d_Text_endOf_17 : decode b_Text_endOf 17 = .ok (.iaload, 1) := by decide +kernel
theorem d_Text_endOf_18 : decode b_Text_endOf 18 = .ok (.goto 7, 3) := by decide +kernel
theorem d_Text_endOf_21 : decode b_Text_endOf 21 = .ok (.aload_n 0, 1) := by decide +kernel
theorem d_Text_endOf_22 : decode b_Text_endOf 22 = .ok (.getfield 19, 3) := by decide +kernel
theorem d_Text_endOf_25 : decode b_Text_endOf 25 = .ok (.ireturn, 1) := by decide +kernel
def s_Text_endOf (x0 : Nat) (x1 : Int32) (h : HP) : Option (Int32) :=
  if x1 < 0 then (
    (gI h x0 0 2).bind fun v1 =>
    some v1)
  else (
    (gI h x0 0 2).bind fun v3 =>
    if v3 ≤ x1 then (
      (gI h x0 0 2).bind fun v5 =>
      some v5)
    else (
      (gR h x0 0 1).bind fun v7 =>
      (aI h v7 0 x1).bind fun v9 =>
      some v9))
set_option maxHeartbeats 4000000 in
set_option maxRecDepth 100000 in
theorem c_Text_endOf (l : Launch) (g : GG) {h : HP} {x0 : Nat} {x1 : Int32} {z : Int32} (hs : s_Text_endOf x0 x1 h = some z) : Ct l g y_Text_endOf w_Text_endOf (rmS 0 0) [.ref (aD g x0), .int x1] h (some (.int z)) h := by
  refine Ct.of (own := R_Text) (by decide) rfl rfl (Nat.le_of_ble_eq_true rfl) ?_
  intro p e s m args below meth c ls C hl hw
  have hx := C.1
  have hb := C.2.1
  have hl : lv_has ls 2 [(0, .ref (aD g x0)), (1, .int x1)] := hl
  unfold s_Text_endOf at hs
  refine lv_iload_n hx hb d_Text_endOf_0 rfl (lv_at hl 1 rfl) ?_
  refine lv_if_lt hx hb d_Text_endOf_1 (tgt := 21) (by decide) (fun hc => ?_) (fun hc => ?_)
  · have hs := oi_t hc hs
    refine lv_aload_n hx hb d_Text_endOf_21 rfl (lv_at hl 0 rfl) ?_
    obtain ⟨v1, e2, hs⟩ := ob hs
    refine pg_getI C hw fl_Text_19 e2 d_Text_endOf_22 ?_
    obtain rfl := Option.some.inj hs
    exact pg_iret C hw d_Text_endOf_25
  · have hs := oi_f hc hs
    refine lv_iload_n hx hb d_Text_endOf_4 rfl (lv_at hl 1 rfl) ?_
    refine lv_aload_n hx hb d_Text_endOf_5 rfl (lv_at hl 0 rfl) ?_
    obtain ⟨v3, e4, hs⟩ := ob hs
    refine pg_getI C hw fl_Text_19 e4 d_Text_endOf_6 ?_
    refine lv_icmp_ge hx hb d_Text_endOf_9 (tgt := 21) (by decide) (fun hc => ?_) (fun hc => ?_)
    · have hs := oi_t hc hs
      refine lv_aload_n hx hb d_Text_endOf_21 rfl (lv_at hl 0 rfl) ?_
      obtain ⟨v5, e6, hs⟩ := ob hs
      refine pg_getI C hw fl_Text_19 e6 d_Text_endOf_22 ?_
      obtain rfl := Option.some.inj hs
      exact pg_iret C hw d_Text_endOf_25
    · have hs := oi_f hc hs
      refine lv_aload_n hx hb d_Text_endOf_12 rfl (lv_at hl 0 rfl) ?_
      obtain ⟨v7, e8, hs⟩ := ob hs
      refine pg_getR C hw fl_Text_15 e8 d_Text_endOf_13 ?_
      refine lv_iload_n hx hb d_Text_endOf_16 rfl (lv_at hl 1 rfl) ?_
      obtain ⟨v9, e10, hs⟩ := ob hs
      refine pg_iaload C hw (t0 := 0) rfl e10 d_Text_endOf_17 ?_
      refine lv_goto hx hb d_Text_endOf_18 (tgt := 25) (by decide) ?_
      obtain rfl := Option.some.inj hs
      exact pg_iret C hw d_Text_endOf_25

end
section
variable {p : Program} {l : Launch} {e : Env} {s : State} {m : MethodId} {args : Array Value} {below : List Frame} {meth : Method} {c : Code} {g : GG}
theorem d_Function_body_0 : decode b_Function_body 0 = .ok (.aload_n 0, 1) := by decide +kernel
theorem d_Function_body_1 : decode b_Function_body 1 = .ok (.getfield 10, 3) := by decide +kernel
theorem d_Function_body_4 : decode b_Function_body 4 = .ok (.areturn, 1) := by decide +kernel
def s_Function_body (x0 : Nat) (h : HP) : Option (Nat) :=
  (gR h x0 1 0).bind fun v1 =>
  some v1
set_option maxHeartbeats 4000000 in
set_option maxRecDepth 100000 in
theorem c_Function_body (l : Launch) (g : GG) {h : HP} {x0 : Nat} {z : Nat} (hs : s_Function_body x0 h = some z) : Ct l g y_Function_body w_Function_body (rmS 0 0) [.ref (aD g x0)] h (some (.ref (aD g z))) h := by
  refine Ct.of (own := R_Function) (by decide) rfl rfl (Nat.le_of_ble_eq_true rfl) ?_
  intro p e s m args below meth c ls C hl hw
  have hx := C.1
  have hb := C.2.1
  have hl : lv_has ls 1 [(0, .ref (aD g x0))] := hl
  unfold s_Function_body at hs
  refine lv_aload_n hx hb d_Function_body_0 rfl (lv_at hl 0 rfl) ?_
  obtain ⟨v1, e2, hs⟩ := ob hs
  refine pg_getR C hw fl_Function_10 e2 d_Function_body_1 ?_
  obtain rfl := Option.some.inj hs
  exact pg_aret C hw (by first | exact Or.inl ⟨_, rfl⟩ | exact Or.inr ⟨_, rfl⟩) d_Function_body_4

end
section
variable {p : Program} {l : Launch} {e : Env} {s : State} {m : MethodId} {args : Array Value} {below : List Frame} {meth : Method} {c : Code} {g : GG}
theorem d_Text_firstPartOf_0 : decode b_Text_firstPartOf 0 = .ok (.iload_n 1, 1) := by decide +kernel
theorem d_Text_firstPartOf_1 : decode b_Text_firstPartOf 1 = .ok (.aload_n 0, 1) := by decide +kernel
theorem d_Text_firstPartOf_2 : decode b_Text_firstPartOf 2 = .ok (.iload_n 1, 1) := by decide +kernel
theorem d_Text_firstPartOf_3 : decode b_Text_firstPartOf 3 = .ok (.invokevirtual 23, 3) := by decide +kernel
theorem d_Text_firstPartOf_6 : decode b_Text_firstPartOf 6 = .ok (.invokestatic 27, 3) := by decide +kernel
theorem d_Text_firstPartOf_9 : decode b_Text_firstPartOf 9 = .ok (.ifCond .eq 7, 3) := by decide +kernel
theorem d_Text_firstPartOf_12 : decode b_Text_firstPartOf 12 = .ok (.iconst 2, 1) := by decide +kernel
theorem d_Text_firstPartOf_13 : decode b_Text_firstPartOf 13 = .ok (.goto 4, 3) := by decide +kernel
theorem d_Text_firstPartOf_16 : decode b_Text_firstPartOf 16 = .ok (.iconst 1, 1) := by decide +kernel
theorem d_Text_firstPartOf_17 : decode b_Text_firstPartOf 17 = .ok (.iadd, 1) := by decide +kernel
theorem d_Text_firstPartOf_18 : decode b_Text_firstPartOf 18 = .ok (.ireturn, 1) := by decide +kernel
def s_Text_firstPartOf (x0 : Nat) (x1 : Int32) (h : HP) : Option (Int32) :=
  (kd x0 0).bind fun _ =>
  (s_Text_at x0 x1 h).bind fun q2 =>
  (s_AdjoinedSets_isBinder q2).bind fun q4 =>
  if q4 = 0 then (
    some (x1 + 1))
  else (
    some (x1 + 2))
set_option maxHeartbeats 4000000 in
set_option maxRecDepth 100000 in
theorem c_Text_firstPartOf (l : Launch) (g : GG) {h : HP} {x0 : Nat} {x1 : Int32} {z : Int32} (hs : s_Text_firstPartOf x0 x1 h = some z) : Ct l g y_Text_firstPartOf w_Text_firstPartOf (rmS 1 21) [.ref (aD g x0), .int x1] h (some (.int z)) h := by
  refine Ct.of (own := R_Text) (by decide) rfl rfl (Nat.le_of_ble_eq_true rfl) ?_
  intro p e s m args below meth c ls C hl hw
  have hx := C.1
  have hb := C.2.1
  have hl : lv_has ls 2 [(0, .ref (aD g x0)), (1, .int x1)] := hl
  unfold s_Text_firstPartOf at hs
  refine lv_iload_n hx hb d_Text_firstPartOf_0 rfl (lv_at hl 1 rfl) ?_
  refine lv_aload_n hx hb d_Text_firstPartOf_1 rfl (lv_at hl 0 rfl) ?_
  refine lv_iload_n hx hb d_Text_firstPartOf_2 rfl (lv_at hl 1 rfl) ?_
  obtain ⟨_, e1, hs⟩ := ob hs
  obtain ⟨q2, e3, hs⟩ := ob hs
  refine pg_callV C hw hl.1 ml_Text_23 e1 (As := [.int x1]) (rest := [.int x1]) (c_Text_at l g e3) rfl (rm_ok (Nat.le_of_ble_eq_true rfl) (Nat.le_of_ble_eq_true rfl)) (Nat.le_of_ble_eq_true rfl) rfl (st1 := [.int q2, .int x1]) rfl d_Text_firstPartOf_3 (fun H locs hw => ?_)
  obtain ⟨q4, e5, hs⟩ := ob hs
  refine pg_callSN C hw hl.1 ml_Text_27 (As := [.int q2]) (rest := [.int x1]) (c_AdjoinedSets_isBinder l g e5) rfl (rm_ok (Nat.le_of_ble_eq_true rfl) (Nat.le_of_ble_eq_true rfl)) (Nat.le_of_ble_eq_true rfl) rfl (st1 := [.int q4, .int x1]) rfl d_Text_firstPartOf_6 (fun H locs hw => ?_)
  refine lv_if_eq hx hb d_Text_firstPartOf_9 (tgt := 16) (by decide) (fun hc => ?_) (fun hc => ?_)
  · have hs := oi_t hc hs
    refine lv_iconst (v := 1) hx hb d_Text_firstPartOf_16 (by decide) ?_
    refine lv_iadd hx hb d_Text_firstPartOf_17 ?_
    obtain rfl := Option.some.inj hs
    exact pg_iret C hw d_Text_firstPartOf_18
  · have hs := oi_f hc hs
    refine lv_iconst (v := 2) hx hb d_Text_firstPartOf_12 (by decide) ?_
    refine lv_goto hx hb d_Text_firstPartOf_13 (tgt := 17) (by decide) ?_
    refine lv_iadd hx hb d_Text_firstPartOf_17 ?_
    obtain rfl := Option.some.inj hs
    exact pg_iret C hw d_Text_firstPartOf_18

end
section
variable {p : Program} {l : Launch} {e : Env} {s : State} {m : MethodId} {args : Array Value} {below : List Frame} {meth : Method} {c : Code} {g : GG}
theorem d_AdjoinedSets_isMember_0 : decode b_AdjoinedSets_isMember 0 = .ok (.lload_n 0, 1) := by decide +kernel
theorem d_AdjoinedSets_isMember_1 : decode b_AdjoinedSets_isMember 1 = .ok (.iload_n 2, 1) := by decide +kernel
theorem d_AdjoinedSets_isMember_2 : decode b_AdjoinedSets_isMember 2 = .ok (.lshr, 1) := by decide +kernel
theorem d_AdjoinedSets_isMember_3 : decode b_AdjoinedSets_isMember 3 = .ok (.lconst 1, 1) := by decide +kernel
theorem d_AdjoinedSets_isMember_4 : decode b_AdjoinedSets_isMember 4 = .ok (.land, 1) := by decide +kernel
theorem d_AdjoinedSets_isMember_5 : decode b_AdjoinedSets_isMember 5 = .ok (.lconst 0, 1) := by decide +kernel
theorem d_AdjoinedSets_isMember_6 : decode b_AdjoinedSets_isMember 6 = .ok (.lcmp, 1) := by decide +kernel
theorem d_AdjoinedSets_isMember_7 : decode b_AdjoinedSets_isMember 7 = .ok (.ifCond .eq 7, 3) := by decide +kernel
theorem d_AdjoinedSets_isMember_10 : decode b_AdjoinedSets_isMember 10 = .ok (.iconst 1, 1) := by decide +kernel
theorem d_AdjoinedSets_isMember_11 : decode b_AdjoinedSets_isMember 11 = .ok (.goto 4, 3) := by decide +kernel
theorem d_AdjoinedSets_isMember_14 : decode b_AdjoinedSets_isMember 14 = .ok (.iconst 0, 1) := by decide +kernel
theorem d_AdjoinedSets_isMember_15 : decode b_AdjoinedSets_isMember 15 = .ok (.ireturn, 1) := by decide +kernel
def s_AdjoinedSets_isMember (x0 : Int64) (x2 : Int32) : Option (Int32) :=
  if (lg_cmp ((x0 >>> (x2.toInt64 &&& 63)) &&& 1) 0) = 0 then (
    some 0)
  else (
    some 1)
set_option maxHeartbeats 4000000 in
set_option maxRecDepth 100000 in
theorem c_AdjoinedSets_isMember (l : Launch) (g : GG) {h : HP} {x0 : Int64} {x2 : Int32} {z : Int32} (hs : s_AdjoinedSets_isMember x0 x2 = some z) : Ct l g y_AdjoinedSets_isMember w_AdjoinedSets_isMember (rmS 0 0) [.long x0, .int x2] h (some (.int z)) h := by
  refine Ct.of (own := R_AdjoinedSets) (by decide) rfl rfl (Nat.le_of_ble_eq_true rfl) ?_
  intro p e s m args below meth c ls C hl hw
  have hx := C.1
  have hb := C.2.1
  have hl : lv_has ls 3 [(0, .long x0), (2, .int x2)] := hl
  unfold s_AdjoinedSets_isMember at hs
  refine lv_lload_n hx hb d_AdjoinedSets_isMember_0 rfl (lv_at hl 0 rfl) ?_
  refine lv_iload_n hx hb d_AdjoinedSets_isMember_1 rfl (lv_at hl 1 rfl) ?_
  refine lv_lshr (v := (x0 >>> (x2.toInt64 &&& 63))) hx hb d_AdjoinedSets_isMember_2 rfl ?_
  refine lv_lconst (v := 1) hx hb d_AdjoinedSets_isMember_3 (by decide) ?_
  refine lv_land hx hb d_AdjoinedSets_isMember_4 ?_
  refine lv_lconst (v := 0) hx hb d_AdjoinedSets_isMember_5 (by decide) ?_
  refine W.lcmp hx hb d_AdjoinedSets_isMember_6 ?_
  refine lv_if_eq hx hb d_AdjoinedSets_isMember_7 (tgt := 14) (by decide) (fun hc => ?_) (fun hc => ?_)
  · have hs := oi_t hc hs
    refine lv_iconst (v := 0) hx hb d_AdjoinedSets_isMember_14 (by decide) ?_
    obtain rfl := Option.some.inj hs
    exact pg_zret (v := 0) C hw rfl d_AdjoinedSets_isMember_15
  · have hs := oi_f hc hs
    refine lv_iconst (v := 1) hx hb d_AdjoinedSets_isMember_10 (by decide) ?_
    refine lv_goto hx hb d_AdjoinedSets_isMember_11 (tgt := 15) (by decide) ?_
    obtain rfl := Option.some.inj hs
    exact pg_zret (v := 1) C hw rfl d_AdjoinedSets_isMember_15

end
section
variable {p : Program} {l : Launch} {e : Env} {s : State} {m : MethodId} {args : Array Value} {below : List Frame} {meth : Method} {c : Code} {g : GG}
theorem d_Worker_unionOf_0 : decode b_Worker_unionOf 0 = .ok (.lconst 0, 1) := by decide +kernel
theorem d_Worker_unionOf_1 : decode b_Worker_unionOf 1 = .ok (.lstore_n 2, 1) := by decide +kernel
theorem d_Worker_unionOf_2 : decode b_Worker_unionOf 2 = .ok (.iconst 0, 1) := by decide +kernel
theorem d_Worker_unionOf_3 : decode b_Worker_unionOf 3 = .ok (.istore 4, 2) := by decide +kernel
theorem d_Worker_unionOf_5 : decode b_Worker_unionOf 5 = .ok (.iload 4, 2) := by decide +kernel
theorem d_Worker_unionOf_7 : decode b_Worker_unionOf 7 = .ok (.bipush 62, 2) := by decide +kernel
theorem d_Worker_unionOf_9 : decode b_Worker_unionOf 9 = .ok (.if_icmp .ge 33, 3) := by decide +kernel
theorem d_Worker_unionOf_12 : decode b_Worker_unionOf 12 = .ok (.lload_n 0, 1) := by decide +kernel
theorem d_Worker_unionOf_13 : decode b_Worker_unionOf 13 = .ok (.iload 4, 2) := by decide +kernel
theorem d_Worker_unionOf_15 : decode b_Worker_unionOf 15 = .ok (.lshr, 1) := by decide +kernel
theorem d_Worker_unionOf_16 : decode b_Worker_unionOf 16 = .ok (.lconst 0, 1) := by decide +kernel
theorem d_Worker_unionOf_17 : decode b_Worker_unionOf 17 = .ok (.lcmp, 1) := by decide +kernel
theorem d_Worker_unionOf_18 : decode b_Worker_unionOf 18 = .ok (.ifCond .eq 24, 3) := by decide +kernel
theorem d_Worker_unionOf_21 : decode b_Worker_unionOf 21 = .ok (.lload_n 0, 1) := by decide +kernel
theorem d_Worker_unionOf_22 : decode b_Worker_unionOf 22 = .ok (.iload 4, 2) := by decide +kernel
theorem d_Worker_unionOf_24 : decode b_Worker_unionOf 24 = .ok (.invokestatic 83, 3) := by decide +kernel
theorem d_Worker_unionOf_27 : decode b_Worker_unionOf 27 = .ok (.ifCond .eq 9, 3) := by decide +kernel
theorem d_Worker_unionOf_30 : decode b_Worker_unionOf 30 = .ok (.lload_n 2, 1) := by decide +kernel
theorem d_Worker_unionOf_31 : decode b_Worker_unionOf 31 = .ok (.iload 4, 2) := by decide +kernel
theorem d_Worker_unionOf_33 : decode b_Worker_unionOf 33 = .ok (.i2l, 1) := by decide +kernel
theorem d_Worker_unionOf_34 : decode b_Worker_unionOf 34 = .ok (.lor, 1) := by decide +kernel
theorem d_Worker_unionOf_35 : decode b_Worker_unionOf 35 = .ok (.lstore_n 2, 1) := by decide +kernel
theorem d_Worker_unionOf_36 : decode b_Worker_unionOf 36 = .ok (.iinc 4 1, 3) := by decide +kernel
theorem d_Worker_unionOf_39 : decode b_Worker_unionOf 39 = .ok (.goto (-34), 3) := by decide +kernel
theorem d_Worker_unionOf_42 : decode b_Worker_unionOf 42 = .ok (.lload_n 2, 1) := by decide +kernel
theorem d_Worker_unionOf_43 : decode b_Worker_unionOf 43 = .ok (.lreturn, 1) := by decide +kernel
def s_Worker_unionOf_36 (c5 : Int64 → Int64 → Int32 → Option (Int64)) (x0 : Int64) (x2 : Int64) (x4 : Int32) : Option (Int64) :=
  c5 x0 x2 (x4 + 1)
set_option maxHeartbeats 4000000 in
set_option maxRecDepth 100000 in
theorem k_Worker_unionOf_36 {h : HP} {x0 : Int64} {x2 : Int64} {x4 : Int32} {z : Int64} (C : CX g R_Worker b_Worker_unionOf 5 (some .long) p s m args meth c) (c5 : Int64 → Int64 → Int32 → Option (Int64))
    (hc5 : ∀ {x0 : Int64} {x2 : Int64} {x4 : Int32} {H : Heap} {locs : List Loc} {ls : Array Slot}, WD g h s.heap H locs → lv_has ls 5 [(0, .long x0), (2, .long x2), (4, .int x4)] → c5 x0 x2 x4 = some z → W p l e (rmS 1 22) s m args below meth c H locs 0 0 (MQ below (Qq g (some (.long z)) h) args s 0 0 (inA g)) (F0 m 5 ls [])) {H : Heap} {locs : List Loc} {ls : Array Slot} (hw : WD g h s.heap H locs) (hl : lv_has ls 5 [(0, .long x0), (2, .long x2), (4, .int x4)]) (hs : s_Worker_unionOf_36 c5 x0 x2 x4 = some z) : W p l e (rmS 1 22) s m args below meth c H locs 0 0 (MQ below (Qq g (some (.long z)) h) args s 0 0 (inA g)) (F0 m 36 ls []) := by
  unfold s_Worker_unionOf_36 at hs
  have hx := C.1
  have hb := C.2.1
  refine lv_iinc hx hb d_Worker_unionOf_36 hl (k := 2) rfl (v := (x4 + 1)) (iinc_e _ (by decide)) (by decide) (lv' := [(4, .int (x4 + 1)), (0, .long x0), (2, .long x2)]) rfl (fun ls hl => ?_)
  refine lv_goto hx hb d_Worker_unionOf_39 (tgt := 5) (by decide) ?_
  exact hc5 hw (lv_sub hl [1, 2, 0] rfl) hs

def s_Worker_unionOf_5 : Nat → Int64 → Int64 → Int32 → Option (Int64)
  | 0 => fun _ _ _ => none
  | k + 1 => fun x0 x2 x4 =>
  if 62 ≤ x4 then (
    some x2)
  else (
    if (lg_cmp (x0 >>> (x4.toInt64 &&& 63)) 0) = 0 then (
      some x2)
    else (
      (s_AdjoinedSets_isMember x0 x4).bind fun q1 =>
      if q1 = 0 then (
        s_Worker_unionOf_36 (s_Worker_unionOf_5 k) x0 x2 x4)
      else (
        s_Worker_unionOf_36 (s_Worker_unionOf_5 k) x0 (x2 ||| x4.toInt64) x4)))
set_option maxHeartbeats 4000000 in
set_option maxRecDepth 100000 in
theorem k_Worker_unionOf_5 {h : HP} {z : Int64} (C : CX g R_Worker b_Worker_unionOf 5 (some .long) p s m args meth c) : ∀ (k : Nat) {x0 : Int64} {x2 : Int64} {x4 : Int32} {H : Heap} {locs : List Loc} {ls : Array Slot}, WD g h s.heap H locs → lv_has ls 5 [(0, .long x0), (2, .long x2), (4, .int x4)] → s_Worker_unionOf_5 k x0 x2 x4 = some z → W p l e (rmS 1 22) s m args below meth c H locs 0 0 (MQ below (Qq g (some (.long z)) h) args s 0 0 (inA g)) (F0 m 5 ls []) := by
  have hx := C.1
  have hb := C.2.1
  intro k
  induction k with
  | zero =>
    intro x0 x2 x4 H locs ls hw hl hs
    exact (no_s hs).elim
  | succ k ih =>
    intro x0 x2 x4 H locs ls hw hl hs
    rw [s_Worker_unionOf_5] at hs
    refine lv_iload hx hb d_Worker_unionOf_5 (lv_at hl 2 rfl) ?_
    refine lv_bipush (v := 62) hx hb d_Worker_unionOf_7 (by decide) ?_
    refine lv_icmp_ge hx hb d_Worker_unionOf_9 (tgt := 42) (by decide) (fun hc => ?_) (fun hc => ?_)
    · have hs := oi_t hc hs
      refine lv_lload_n hx hb d_Worker_unionOf_42 rfl (lv_at hl 1 rfl) ?_
      obtain rfl := Option.some.inj hs
      exact pg_lret C hw d_Worker_unionOf_43
    · have hs := oi_f hc hs
      refine lv_lload_n hx hb d_Worker_unionOf_12 rfl (lv_at hl 0 rfl) ?_
      refine lv_iload hx hb d_Worker_unionOf_13 (lv_at hl 2 rfl) ?_
      refine lv_lshr (v := (x0 >>> (x4.toInt64 &&& 63))) hx hb d_Worker_unionOf_15 rfl ?_
      refine lv_lconst (v := 0) hx hb d_Worker_unionOf_16 (by decide) ?_
      refine W.lcmp hx hb d_Worker_unionOf_17 ?_
      refine lv_if_eq hx hb d_Worker_unionOf_18 (tgt := 42) (by decide) (fun hc => ?_) (fun hc => ?_)
      · have hs := oi_t hc hs
        refine lv_lload_n hx hb d_Worker_unionOf_42 rfl (lv_at hl 1 rfl) ?_
        obtain rfl := Option.some.inj hs
        exact pg_lret C hw d_Worker_unionOf_43
      · have hs := oi_f hc hs
        refine lv_lload_n hx hb d_Worker_unionOf_21 rfl (lv_at hl 0 rfl) ?_
        refine lv_iload hx hb d_Worker_unionOf_22 (lv_at hl 2 rfl) ?_
        obtain ⟨q1, e2, hs⟩ := ob hs
        refine pg_callSN C hw hl.1 ml_Worker_83 (As := [.long x0, .int x4]) (rest := []) (c_AdjoinedSets_isMember l g e2) rfl (rm_ok (Nat.le_of_ble_eq_true rfl) (Nat.le_of_ble_eq_true rfl)) (Nat.le_of_ble_eq_true rfl) rfl (st1 := [.int q1]) rfl d_Worker_unionOf_24 (fun H locs hw => ?_)
        refine lv_if_eq hx hb d_Worker_unionOf_27 (tgt := 36) (by decide) (fun hc => ?_) (fun hc => ?_)
        · have hs := oi_t hc hs
          exact k_Worker_unionOf_36 C (s_Worker_unionOf_5 k) ih hw (lv_sub hl [0, 1, 2] rfl) hs
        · have hs := oi_f hc hs
          refine lv_lload_n hx hb d_Worker_unionOf_30 rfl (lv_at hl 1 rfl) ?_
          refine lv_iload hx hb d_Worker_unionOf_31 (lv_at hl 2 rfl) ?_
          refine lv_i2l (v := x4.toInt64) hx hb d_Worker_unionOf_33 rfl ?_
          refine lv_lor hx hb d_Worker_unionOf_34 ?_
          refine lv_lstore_n hx hb d_Worker_unionOf_35 rfl hl (by decide) (lv' := [(2, .long (x2 ||| x4.toInt64)), (0, .long x0), (4, .int x4)]) rfl (fun ls hl => ?_)
          exact k_Worker_unionOf_36 C (s_Worker_unionOf_5 k) ih hw (lv_sub hl [1, 0, 2] rfl) hs

def s_Worker_unionOf (x0 : Int64) : Option (Int64) :=
  s_Worker_unionOf_5 20000 x0 0 0
set_option maxHeartbeats 4000000 in
set_option maxRecDepth 100000 in
theorem c_Worker_unionOf (l : Launch) (g : GG) {h : HP} {x0 : Int64} {z : Int64} (hs : s_Worker_unionOf x0 = some z) : Ct l g y_Worker_unionOf w_Worker_unionOf (rmS 1 22) [.long x0] h (some (.long z)) h := by
  refine Ct.of (own := R_Worker) (by decide) rfl rfl (Nat.le_of_ble_eq_true rfl) ?_
  intro p e s m args below meth c ls C hl hw
  have hx := C.1
  have hb := C.2.1
  have hl : lv_has ls 5 [(0, .long x0)] := hl
  unfold s_Worker_unionOf at hs
  refine lv_lconst (v := 0) hx hb d_Worker_unionOf_0 (by decide) ?_
  refine lv_lstore_n hx hb d_Worker_unionOf_1 rfl hl (by decide) (lv' := [(2, .long 0), (0, .long x0)]) rfl (fun ls hl => ?_)
  refine lv_iconst (v := 0) hx hb d_Worker_unionOf_2 (by decide) ?_
  refine lv_istore hx hb d_Worker_unionOf_3 hl (by decide) (lv' := [(4, .int 0), (2, .long 0), (0, .long x0)]) rfl (fun ls hl => ?_)
  exact k_Worker_unionOf_5 C 20000 hw (lv_sub hl [2, 1, 0] rfl) hs

end
section
variable {p : Program} {l : Launch} {e : Env} {s : State} {m : MethodId} {args : Array Value} {below : List Frame} {meth : Method} {c : Code} {g : GG}
theorem d_Worker_subsetsOf_0 : decode b_Worker_subsetsOf 0 = .ok (.lload_n 0, 1) := by decide +kernel
theorem d_Worker_subsetsOf_1 : decode b_Worker_subsetsOf 1 = .ok (.ldc2_w 79, 3) := by decide +kernel
theorem d_Worker_subsetsOf_4 : decode b_Worker_subsetsOf 4 = .ok (.lcmp, 1) := by decide +kernel
theorem d_Worker_subsetsOf_5 : decode b_Worker_subsetsOf 5 = .ok (.ifCond .lt 7, 3) := by decide +kernel
theorem d_Worker_subsetsOf_8 : decode b_Worker_subsetsOf 8 = .ok (.ldc2_w 35, 3) := by decide +kernel
theorem d_Worker_subsetsOf_11 : decode b_Worker_subsetsOf 11 = .ok (.lreturn, 1) := by decide +kernel
theorem d_Worker_subsetsOf_12 : decode b_Worker_subsetsOf 12 = .ok (.lconst 0, 1) := by decide +kernel
theorem d_Worker_subsetsOf_13 : decode b_Worker_subsetsOf 13 = .ok (.lstore_n 2, 1) := by decide +kernel
theorem d_Worker_subsetsOf_14 : decode b_Worker_subsetsOf 14 = .ok (.iconst 0, 1) := by decide +kernel
theorem d_Worker_subsetsOf_15 : decode b_Worker_subsetsOf 15 = .ok (.istore 4, 2) := by decide +kernel
theorem d_Worker_subsetsOf_17 : decode b_Worker_subsetsOf 17 = .ok (.iload 4, 2) := by decide +kernel
theorem d_Worker_subsetsOf_19 : decode b_Worker_subsetsOf 19 = .ok (.i2l, 1) := by decide +kernel
theorem d_Worker_subsetsOf_20 : decode b_Worker_subsetsOf 20 = .ok (.lload_n 0, 1) := by decide +kernel
theorem d_Worker_subsetsOf_21 : decode b_Worker_subsetsOf 21 = .ok (.lcmp, 1) := by decide +kernel
theorem d_Worker_subsetsOf_22 : decode b_Worker_subsetsOf 22 = .ok (.ifCond .gt 30, 3) := by decide +kernel
theorem d_Worker_subsetsOf_25 : decode b_Worker_subsetsOf 25 = .ok (.iload 4, 2) := by decide +kernel
theorem d_Worker_subsetsOf_27 : decode b_Worker_subsetsOf 27 = .ok (.i2l, 1) := by decide +kernel
theorem d_Worker_subsetsOf_28 : decode b_Worker_subsetsOf 28 = .ok (.lload_n 0, 1) := by decide +kernel
theorem d_Worker_subsetsOf_29 : decode b_Worker_subsetsOf 29 = .ok (.ldc2_w 81, 3) := by decide +kernel
theorem d_Worker_subsetsOf_32 : decode b_Worker_subsetsOf 32 = .ok (.lxor, 1) := by decide +kernel
theorem d_Worker_subsetsOf_33 : decode b_Worker_subsetsOf 33 = .ok (.land, 1) := by decide +kernel
theorem d_Worker_subsetsOf_34 : decode b_Worker_subsetsOf 34 = .ok (.lconst 0, 1) := by decide +kernel
theorem d_Worker_subsetsOf_35 : decode b_Worker_subsetsOf 35 = .ok (.lcmp, 1) := by decide +kernel
theorem d_Worker_subsetsOf_36 : decode b_Worker_subsetsOf 36 = .ok (.ifCond .ne 10, 3) := by decide +kernel
theorem d_Worker_subsetsOf_39 : decode b_Worker_subsetsOf 39 = .ok (.lload_n 2, 1) := by decide +kernel
theorem d_Worker_subsetsOf_40 : decode b_Worker_subsetsOf 40 = .ok (.lconst 1, 1) := by decide +kernel
theorem d_Worker_subsetsOf_41 : decode b_Worker_subsetsOf 41 = .ok (.iload 4, 2) := by decide +kernel
theorem d_Worker_subsetsOf_43 : decode b_Worker_subsetsOf 43 = .ok (.lshl, 1) := by decide +kernel
theorem d_Worker_subsetsOf_44 : decode b_Worker_subsetsOf 44 = .ok (.lor, 1) := by decide +kernel
theorem d_Worker_subsetsOf_45 : decode b_Worker_subsetsOf 45 = .ok (.lstore_n 2, 1) := by decide +kernel
theorem d_Worker_subsetsOf_46 : decode b_Worker_subsetsOf 46 = .ok (.iinc 4 1, 3) := by decide +kernel
theorem d_Worker_subsetsOf_49 : decode b_Worker_subsetsOf 49 = .ok (.goto (-32), 3) := by decide +kernel
theorem d_Worker_subsetsOf_52 : decode b_Worker_subsetsOf 52 = .ok (.lload_n 2, 1) := by decide +kernel
theorem d_Worker_subsetsOf_53 : decode b_Worker_subsetsOf 53 = .ok (.lreturn, 1) := by decide +kernel
def s_Worker_subsetsOf_46 (c17 : Int64 → Int64 → Int32 → Option (Int64)) (x0 : Int64) (x2 : Int64) (x4 : Int32) : Option (Int64) :=
  c17 x0 x2 (x4 + 1)
set_option maxHeartbeats 4000000 in
set_option maxRecDepth 100000 in
theorem k_Worker_subsetsOf_46 {h : HP} {x0 : Int64} {x2 : Int64} {x4 : Int32} {z : Int64} (C : CX g R_Worker b_Worker_subsetsOf 5 (some .long) p s m args meth c) (c17 : Int64 → Int64 → Int32 → Option (Int64))
    (hc17 : ∀ {x0 : Int64} {x2 : Int64} {x4 : Int32} {H : Heap} {locs : List Loc} {ls : Array Slot}, WD g h s.heap H locs → lv_has ls 5 [(0, .long x0), (2, .long x2), (4, .int x4)] → c17 x0 x2 x4 = some z → W p l e (rmS 0 0) s m args below meth c H locs 0 0 (MQ below (Qq g (some (.long z)) h) args s 0 0 (inA g)) (F0 m 17 ls [])) {H : Heap} {locs : List Loc} {ls : Array Slot} (hw : WD g h s.heap H locs) (hl : lv_has ls 5 [(0, .long x0), (2, .long x2), (4, .int x4)]) (hs : s_Worker_subsetsOf_46 c17 x0 x2 x4 = some z) : W p l e (rmS 0 0) s m args below meth c H locs 0 0 (MQ below (Qq g (some (.long z)) h) args s 0 0 (inA g)) (F0 m 46 ls []) := by
  unfold s_Worker_subsetsOf_46 at hs
  have hx := C.1
  have hb := C.2.1
  refine lv_iinc hx hb d_Worker_subsetsOf_46 hl (k := 2) rfl (v := (x4 + 1)) (iinc_e _ (by decide)) (by decide) (lv' := [(4, .int (x4 + 1)), (0, .long x0), (2, .long x2)]) rfl (fun ls hl => ?_)
  refine lv_goto hx hb d_Worker_subsetsOf_49 (tgt := 17) (by decide) ?_
  exact hc17 hw (lv_sub hl [1, 2, 0] rfl) hs

def s_Worker_subsetsOf_17 : Nat → Int64 → Int64 → Int32 → Option (Int64)
  | 0 => fun _ _ _ => none
  | k + 1 => fun x0 x2 x4 =>
  if 0 < (lg_cmp x4.toInt64 x0) then (
    some x2)
  else (
    if (lg_cmp (x4.toInt64 &&& (x0 ^^^ (-1))) 0) = 0 then (
      s_Worker_subsetsOf_46 (s_Worker_subsetsOf_17 k) x0 (x2 ||| ((1 : Int64) <<< (x4.toInt64 &&& 63))) x4)
    else (
      s_Worker_subsetsOf_46 (s_Worker_subsetsOf_17 k) x0 x2 x4))
set_option maxHeartbeats 4000000 in
set_option maxRecDepth 100000 in
theorem k_Worker_subsetsOf_17 {h : HP} {z : Int64} (C : CX g R_Worker b_Worker_subsetsOf 5 (some .long) p s m args meth c) : ∀ (k : Nat) {x0 : Int64} {x2 : Int64} {x4 : Int32} {H : Heap} {locs : List Loc} {ls : Array Slot}, WD g h s.heap H locs → lv_has ls 5 [(0, .long x0), (2, .long x2), (4, .int x4)] → s_Worker_subsetsOf_17 k x0 x2 x4 = some z → W p l e (rmS 0 0) s m args below meth c H locs 0 0 (MQ below (Qq g (some (.long z)) h) args s 0 0 (inA g)) (F0 m 17 ls []) := by
  have hx := C.1
  have hb := C.2.1
  intro k
  induction k with
  | zero =>
    intro x0 x2 x4 H locs ls hw hl hs
    exact (no_s hs).elim
  | succ k ih =>
    intro x0 x2 x4 H locs ls hw hl hs
    rw [s_Worker_subsetsOf_17] at hs
    refine lv_iload hx hb d_Worker_subsetsOf_17 (lv_at hl 2 rfl) ?_
    refine lv_i2l (v := x4.toInt64) hx hb d_Worker_subsetsOf_19 rfl ?_
    refine lv_lload_n hx hb d_Worker_subsetsOf_20 rfl (lv_at hl 0 rfl) ?_
    refine W.lcmp hx hb d_Worker_subsetsOf_21 ?_
    refine lv_if_gt hx hb d_Worker_subsetsOf_22 (tgt := 52) (by decide) (fun hc => ?_) (fun hc => ?_)
    · have hs := oi_t hc hs
      refine lv_lload_n hx hb d_Worker_subsetsOf_52 rfl (lv_at hl 1 rfl) ?_
      obtain rfl := Option.some.inj hs
      exact pg_lret C hw d_Worker_subsetsOf_53
    · have hs := oi_f hc hs
      refine lv_iload hx hb d_Worker_subsetsOf_25 (lv_at hl 2 rfl) ?_
      refine lv_i2l (v := x4.toInt64) hx hb d_Worker_subsetsOf_27 rfl ?_
      refine lv_lload_n hx hb d_Worker_subsetsOf_28 rfl (lv_at hl 0 rfl) ?_
      refine lv_ldc2 (v := (-1)) hx hb C.own (C.w kc_Worker_81) d_Worker_subsetsOf_29 ?_
      refine lv_lxor hx hb d_Worker_subsetsOf_32 ?_
      refine lv_land hx hb d_Worker_subsetsOf_33 ?_
      refine lv_lconst (v := 0) hx hb d_Worker_subsetsOf_34 (by decide) ?_
      refine W.lcmp hx hb d_Worker_subsetsOf_35 ?_
      refine lv_if_ne hx hb d_Worker_subsetsOf_36 (tgt := 46) (by decide) (fun hc => ?_) (fun hc => ?_)
      · have hs := oi_f hc hs
        exact k_Worker_subsetsOf_46 C (s_Worker_subsetsOf_17 k) ih hw (lv_sub hl [0, 1, 2] rfl) hs
      · have hs := oi_t hc hs
        refine lv_lload_n hx hb d_Worker_subsetsOf_39 rfl (lv_at hl 1 rfl) ?_
        refine lv_lconst (v := 1) hx hb d_Worker_subsetsOf_40 (by decide) ?_
        refine lv_iload hx hb d_Worker_subsetsOf_41 (lv_at hl 2 rfl) ?_
        refine lv_lshl (v := ((1 : Int64) <<< (x4.toInt64 &&& 63))) hx hb d_Worker_subsetsOf_43 rfl ?_
        refine lv_lor hx hb d_Worker_subsetsOf_44 ?_
        refine lv_lstore_n hx hb d_Worker_subsetsOf_45 rfl hl (by decide) (lv' := [(2, .long (x2 ||| ((1 : Int64) <<< (x4.toInt64 &&& 63)))), (0, .long x0), (4, .int x4)]) rfl (fun ls hl => ?_)
        exact k_Worker_subsetsOf_46 C (s_Worker_subsetsOf_17 k) ih hw (lv_sub hl [1, 0, 2] rfl) hs

def s_Worker_subsetsOf (x0 : Int64) : Option (Int64) :=
  if (lg_cmp x0 62) < 0 then (
    s_Worker_subsetsOf_17 20000 x0 0 0)
  else (
    some (-3))
set_option maxHeartbeats 4000000 in
set_option maxRecDepth 100000 in
theorem c_Worker_subsetsOf (l : Launch) (g : GG) {h : HP} {x0 : Int64} {z : Int64} (hs : s_Worker_subsetsOf x0 = some z) : Ct l g y_Worker_subsetsOf w_Worker_subsetsOf (rmS 0 0) [.long x0] h (some (.long z)) h := by
  refine Ct.of (own := R_Worker) (by decide) rfl rfl (Nat.le_of_ble_eq_true rfl) ?_
  intro p e s m args below meth c ls C hl hw
  have hx := C.1
  have hb := C.2.1
  have hl : lv_has ls 5 [(0, .long x0)] := hl
  unfold s_Worker_subsetsOf at hs
  refine lv_lload_n hx hb d_Worker_subsetsOf_0 rfl (lv_at hl 0 rfl) ?_
  refine lv_ldc2 (v := 62) hx hb C.own (C.w kc_Worker_79) d_Worker_subsetsOf_1 ?_
  refine W.lcmp hx hb d_Worker_subsetsOf_4 ?_
  refine lv_if_lt hx hb d_Worker_subsetsOf_5 (tgt := 12) (by decide) (fun hc => ?_) (fun hc => ?_)
  · have hs := oi_t hc hs
    refine lv_lconst (v := 0) hx hb d_Worker_subsetsOf_12 (by decide) ?_
    refine lv_lstore_n hx hb d_Worker_subsetsOf_13 rfl hl (by decide) (lv' := [(2, .long 0), (0, .long x0)]) rfl (fun ls hl => ?_)
    refine lv_iconst (v := 0) hx hb d_Worker_subsetsOf_14 (by decide) ?_
    refine lv_istore hx hb d_Worker_subsetsOf_15 hl (by decide) (lv' := [(4, .int 0), (2, .long 0), (0, .long x0)]) rfl (fun ls hl => ?_)
    exact k_Worker_subsetsOf_17 C 20000 hw (lv_sub hl [2, 1, 0] rfl) hs
  · have hs := oi_f hc hs
    refine lv_ldc2 (v := (-3)) hx hb C.own (C.w kc_Worker_35) d_Worker_subsetsOf_8 ?_
    obtain rfl := Option.some.inj hs
    exact pg_lret C hw d_Worker_subsetsOf_11

end
section
variable {p : Program} {l : Launch} {e : Env} {s : State} {m : MethodId} {args : Array Value} {below : List Frame} {meth : Method} {c : Code} {g : GG}
theorem d_Worker_allBelow_0 : decode b_Worker_allBelow 0 = .ok (.lload_n 0, 1) := by decide +kernel
theorem d_Worker_allBelow_1 : decode b_Worker_allBelow 1 = .ok (.lstore_n 2, 1) := by decide +kernel
theorem d_Worker_allBelow_2 : decode b_Worker_allBelow 2 = .ok (.iconst 0, 1) := by decide +kernel
theorem d_Worker_allBelow_3 : decode b_Worker_allBelow 3 = .ok (.istore 4, 2) := by decide +kernel
theorem d_Worker_allBelow_5 : decode b_Worker_allBelow 5 = .ok (.iload 4, 2) := by decide +kernel
theorem d_Worker_allBelow_7 : decode b_Worker_allBelow 7 = .ok (.iconst 5, 1) := by decide +kernel
theorem d_Worker_allBelow_8 : decode b_Worker_allBelow 8 = .ok (.if_icmp .ge 16, 3) := by decide +kernel
theorem d_Worker_allBelow_11 : decode b_Worker_allBelow 11 = .ok (.lload_n 2, 1) := by decide +kernel
theorem d_Worker_allBelow_12 : decode b_Worker_allBelow 12 = .ok (.lload_n 2, 1) := by decide +kernel
theorem d_Worker_allBelow_13 : decode b_Worker_allBelow 13 = .ok (.invokestatic 58, 3) := by decide +kernel
theorem d_Worker_allBelow_16 : decode b_Worker_allBelow 16 = .ok (.lor, 1) := by decide +kernel
theorem d_Worker_allBelow_17 : decode b_Worker_allBelow 17 = .ok (.lstore_n 2, 1) := by decide +kernel
theorem d_Worker_allBelow_18 : decode b_Worker_allBelow 18 = .ok (.iinc 4 1, 3) := by decide +kernel
theorem d_Worker_allBelow_21 : decode b_Worker_allBelow 21 = .ok (.goto (-16), 3) := by decide +kernel
theorem d_Worker_allBelow_24 : decode b_Worker_allBelow 24 = .ok (.lload_n 2, 1) := by decide +kernel
theorem d_Worker_allBelow_25 : decode b_Worker_allBelow 25 = .ok (.lreturn, 1) := by decide +kernel
def s_Worker_allBelow_5 : Nat → Int64 → Int32 → Option (Int64)
  | 0 => fun _ _ => none
  | k + 1 => fun x2 x4 =>
  if 5 ≤ x4 then (
    some x2)
  else (
    (s_Worker_unionOf x2).bind fun q1 =>
    (s_Worker_allBelow_5 k) (x2 ||| q1) (x4 + 1))
set_option maxHeartbeats 4000000 in
set_option maxRecDepth 100000 in
theorem k_Worker_allBelow_5 {h : HP} {z : Int64} (C : CX g R_Worker b_Worker_allBelow 5 (some .long) p s m args meth c) : ∀ (k : Nat) {x2 : Int64} {x4 : Int32} {H : Heap} {locs : List Loc} {ls : Array Slot}, WD g h s.heap H locs → lv_has ls 5 [(2, .long x2), (4, .int x4)] → s_Worker_allBelow_5 k x2 x4 = some z → W p l e (rmS 2 46) s m args below meth c H locs 0 0 (MQ below (Qq g (some (.long z)) h) args s 0 0 (inA g)) (F0 m 5 ls []) := by
  have hx := C.1
  have hb := C.2.1
  intro k
  induction k with
  | zero =>
    intro x2 x4 H locs ls hw hl hs
    exact (no_s hs).elim
  | succ k ih =>
    intro x2 x4 H locs ls hw hl hs
    rw [s_Worker_allBelow_5] at hs
    refine lv_iload hx hb d_Worker_allBelow_5 (lv_at hl 1 rfl) ?_
    refine lv_iconst (v := 5) hx hb d_Worker_allBelow_7 (by decide) ?_
    refine lv_icmp_ge hx hb d_Worker_allBelow_8 (tgt := 24) (by decide) (fun hc => ?_) (fun hc => ?_)
    · have hs := oi_t hc hs
      refine lv_lload_n hx hb d_Worker_allBelow_24 rfl (lv_at hl 0 rfl) ?_
      obtain rfl := Option.some.inj hs
      exact pg_lret C hw d_Worker_allBelow_25
    · have hs := oi_f hc hs
      refine lv_lload_n hx hb d_Worker_allBelow_11 rfl (lv_at hl 0 rfl) ?_
      refine lv_lload_n hx hb d_Worker_allBelow_12 rfl (lv_at hl 0 rfl) ?_
      obtain ⟨q1, e2, hs⟩ := ob hs
      refine pg_callS C hw hl.1 ml_Worker_58 (As := [.long x2]) (rest := [.long x2]) (c_Worker_unionOf l g e2) rfl (rm_ok (Nat.le_of_ble_eq_true rfl) (Nat.le_of_ble_eq_true rfl)) (Nat.le_of_ble_eq_true rfl) rfl (st1 := [.long q1, .long x2]) rfl d_Worker_allBelow_13 (fun H locs hw => ?_)
      refine lv_lor hx hb d_Worker_allBelow_16 ?_
      refine lv_lstore_n hx hb d_Worker_allBelow_17 rfl hl (by decide) (lv' := [(2, .long (x2 ||| q1)), (4, .int x4)]) rfl (fun ls hl => ?_)
      refine lv_iinc hx hb d_Worker_allBelow_18 hl (k := 1) rfl (v := (x4 + 1)) (iinc_e _ (by decide)) (by decide) (lv' := [(4, .int (x4 + 1)), (2, .long (x2 ||| q1))]) rfl (fun ls hl => ?_)
      refine lv_goto hx hb d_Worker_allBelow_21 (tgt := 5) (by decide) ?_
      exact ih hw (lv_sub hl [1, 0] rfl) hs

def s_Worker_allBelow (x0 : Int64) : Option (Int64) :=
  s_Worker_allBelow_5 20000 x0 0
set_option maxHeartbeats 4000000 in
set_option maxRecDepth 100000 in
theorem c_Worker_allBelow (l : Launch) (g : GG) {h : HP} {x0 : Int64} {z : Int64} (hs : s_Worker_allBelow x0 = some z) : Ct l g y_Worker_allBelow w_Worker_allBelow (rmS 2 46) [.long x0] h (some (.long z)) h := by
  refine Ct.of (own := R_Worker) (by decide) rfl rfl (Nat.le_of_ble_eq_true rfl) ?_
  intro p e s m args below meth c ls C hl hw
  have hx := C.1
  have hb := C.2.1
  have hl : lv_has ls 5 [(0, .long x0)] := hl
  unfold s_Worker_allBelow at hs
  refine lv_lload_n hx hb d_Worker_allBelow_0 rfl (lv_at hl 0 rfl) ?_
  refine lv_lstore_n hx hb d_Worker_allBelow_1 rfl hl (by decide) (lv' := [(2, .long x0), (0, .long x0)]) rfl (fun ls hl => ?_)
  refine lv_iconst (v := 0) hx hb d_Worker_allBelow_2 (by decide) ?_
  refine lv_istore hx hb d_Worker_allBelow_3 hl (by decide) (lv' := [(4, .int 0), (2, .long x0), (0, .long x0)]) rfl (fun ls hl => ?_)
  exact k_Worker_allBelow_5 C 20000 hw (lv_sub hl [1, 0] rfl) hs

end
section
variable {p : Program} {l : Launch} {e : Env} {s : State} {m : MethodId} {args : Array Value} {below : List Frame} {meth : Method} {c : Code} {g : GG}
theorem d_Worker_letterBoundAt_0 : decode b_Worker_letterBoundAt 0 = .ok (.aload_n 0, 1) := by decide +kernel
theorem d_Worker_letterBoundAt_1 : decode b_Worker_letterBoundAt 1 = .ok (.iload_n 1, 1) := by decide +kernel
theorem d_Worker_letterBoundAt_2 : decode b_Worker_letterBoundAt 2 = .ok (.iconst 1, 1) := by decide +kernel
theorem d_Worker_letterBoundAt_3 : decode b_Worker_letterBoundAt 3 = .ok (.iadd, 1) := by decide +kernel
theorem d_Worker_letterBoundAt_4 : decode b_Worker_letterBoundAt 4 = .ok (.invokevirtual 37, 3) := by decide +kernel
theorem d_Worker_letterBoundAt_7 : decode b_Worker_letterBoundAt 7 = .ok (.istore_n 3, 1) := by decide +kernel
theorem d_Worker_letterBoundAt_8 : decode b_Worker_letterBoundAt 8 = .ok (.iload_n 2, 1) := by decide +kernel
theorem d_Worker_letterBoundAt_9 : decode b_Worker_letterBoundAt 9 = .ok (.bipush 8, 2) := by decide +kernel
theorem d_Worker_letterBoundAt_11 : decode b_Worker_letterBoundAt 11 = .ok (.imul, 1) := by decide +kernel
theorem d_Worker_letterBoundAt_12 : decode b_Worker_letterBoundAt 12 = .ok (.iload_n 3, 1) := by decide +kernel
theorem d_Worker_letterBoundAt_13 : decode b_Worker_letterBoundAt 13 = .ok (.invokestatic 46, 3) := by decide +kernel
theorem d_Worker_letterBoundAt_16 : decode b_Worker_letterBoundAt 16 = .ok (.ifCond .eq 10, 3) := by decide +kernel
theorem d_Worker_letterBoundAt_19 : decode b_Worker_letterBoundAt 19 = .ok (.iload_n 3, 1) := by decide +kernel
theorem d_Worker_letterBoundAt_20 : decode b_Worker_letterBoundAt 20 = .ok (.bipush 97, 2) := by decide +kernel
theorem d_Worker_letterBoundAt_22 : decode b_Worker_letterBoundAt 22 = .ok (.isub, 1) := by decide +kernel
theorem d_Worker_letterBoundAt_23 : decode b_Worker_letterBoundAt 23 = .ok (.goto 4, 3) := by decide +kernel
theorem d_Worker_letterBoundAt_26 : decode b_Worker_letterBoundAt 26 = .ok (.iconst 0, 1) := by decide +kernel
theorem d_Worker_letterBoundAt_27 : decode b_Worker_letterBoundAt 27 = .ok (.iadd, 1) := by decide +kernel
theorem d_Worker_letterBoundAt_28 : decode b_Worker_letterBoundAt 28 = .ok (.ireturn, 1) := by decide +kernel
def s_Worker_letterBoundAt (x0 : Nat) (x1 : Int32) (x2 : Int32) (h : HP) : Option (Int32) :=
  (kd x0 0).bind fun _ =>
  (s_Text_at x0 (x1 + 1) h).bind fun q2 =>
  (s_AdjoinedSets_isLetter q2).bind fun q4 =>
  if q4 = 0 then (
    some ((x2 * 8) + 0))
  else (
    some ((x2 * 8) + (q2 - 97)))
set_option maxHeartbeats 4000000 in
set_option maxRecDepth 100000 in
theorem c_Worker_letterBoundAt (l : Launch) (g : GG) {h : HP} {x0 : Nat} {x1 : Int32} {x2 : Int32} {z : Int32} (hs : s_Worker_letterBoundAt x0 x1 x2 h = some z) : Ct l g y_Worker_letterBoundAt w_Worker_letterBoundAt (rmS 1 21) [.ref (aD g x0), .int x1, .int x2] h (some (.int z)) h := by
  refine Ct.of (own := R_Worker) (by decide) rfl rfl (Nat.le_of_ble_eq_true rfl) ?_
  intro p e s m args below meth c ls C hl hw
  have hx := C.1
  have hb := C.2.1
  have hl : lv_has ls 4 [(0, .ref (aD g x0)), (1, .int x1), (2, .int x2)] := hl
  unfold s_Worker_letterBoundAt at hs
  refine lv_aload_n hx hb d_Worker_letterBoundAt_0 rfl (lv_at hl 0 rfl) ?_
  refine lv_iload_n hx hb d_Worker_letterBoundAt_1 rfl (lv_at hl 1 rfl) ?_
  refine lv_iconst (v := 1) hx hb d_Worker_letterBoundAt_2 (by decide) ?_
  refine lv_iadd hx hb d_Worker_letterBoundAt_3 ?_
  obtain ⟨_, e1, hs⟩ := ob hs
  obtain ⟨q2, e3, hs⟩ := ob hs
  refine pg_callV C hw hl.1 ml_Worker_37 e1 (As := [.int (x1 + 1)]) (rest := []) (c_Text_at l g e3) rfl (rm_ok (Nat.le_of_ble_eq_true rfl) (Nat.le_of_ble_eq_true rfl)) (Nat.le_of_ble_eq_true rfl) rfl (st1 := [.int q2]) rfl d_Worker_letterBoundAt_4 (fun H locs hw => ?_)
  refine lv_istore_n hx hb d_Worker_letterBoundAt_7 rfl hl (by decide) (lv' := [(3, .int q2), (0, .ref (aD g x0)), (1, .int x1), (2, .int x2)]) rfl (fun ls hl => ?_)
  refine lv_iload_n hx hb d_Worker_letterBoundAt_8 rfl (lv_at hl 3 rfl) ?_
  refine lv_bipush (v := 8) hx hb d_Worker_letterBoundAt_9 (by decide) ?_
  refine lv_imul hx hb d_Worker_letterBoundAt_11 ?_
  refine lv_iload_n hx hb d_Worker_letterBoundAt_12 rfl (lv_at hl 0 rfl) ?_
  obtain ⟨q4, e5, hs⟩ := ob hs
  refine pg_callSN C hw hl.1 ml_Worker_46 (As := [.int q2]) (rest := [.int (x2 * 8)]) (c_AdjoinedSets_isLetter l g e5) rfl (rm_ok (Nat.le_of_ble_eq_true rfl) (Nat.le_of_ble_eq_true rfl)) (Nat.le_of_ble_eq_true rfl) rfl (st1 := [.int q4, .int (x2 * 8)]) rfl d_Worker_letterBoundAt_13 (fun H locs hw => ?_)
  refine lv_if_eq hx hb d_Worker_letterBoundAt_16 (tgt := 26) (by decide) (fun hc => ?_) (fun hc => ?_)
  · have hs := oi_t hc hs
    refine lv_iconst (v := 0) hx hb d_Worker_letterBoundAt_26 (by decide) ?_
    refine lv_iadd hx hb d_Worker_letterBoundAt_27 ?_
    obtain rfl := Option.some.inj hs
    exact pg_iret C hw d_Worker_letterBoundAt_28
  · have hs := oi_f hc hs
    refine lv_iload_n hx hb d_Worker_letterBoundAt_19 rfl (lv_at hl 0 rfl) ?_
    refine lv_bipush (v := 97) hx hb d_Worker_letterBoundAt_20 (by decide) ?_
    refine lv_isub hx hb d_Worker_letterBoundAt_22 ?_
    refine lv_goto hx hb d_Worker_letterBoundAt_23 (tgt := 27) (by decide) ?_
    refine lv_iadd hx hb d_Worker_letterBoundAt_27 ?_
    obtain rfl := Option.some.inj hs
    exact pg_iret C hw d_Worker_letterBoundAt_28

end
section
variable {p : Program} {l : Launch} {e : Env} {s : State} {m : MethodId} {args : Array Value} {below : List Frame} {meth : Method} {c : Code} {g : GG}
theorem d_Worker_joined_0 : decode b_Worker_joined 0 = .ok (.lload_n 3, 1) := by decide +kernel
theorem d_Worker_joined_1 : decode b_Worker_joined 1 = .ok (.lconst 0, 1) := by decide +kernel
theorem d_Worker_joined_2 : decode b_Worker_joined 2 = .ok (.lcmp, 1) := by decide +kernel
theorem d_Worker_joined_3 : decode b_Worker_joined 3 = .ok (.ifCond .ge 7, 3) := by decide +kernel
theorem d_Worker_joined_6 : decode b_Worker_joined 6 = .ok (.ldc2_w 35, 3) := by decide +kernel
theorem d_Worker_joined_9 : decode b_Worker_joined 9 = .ok (.lreturn, 1) := by decide +kernel
theorem d_Worker_joined_10 : decode b_Worker_joined 10 = .ok (.iload_n 0, 1) := by decide +kernel
theorem d_Worker_joined_11 : decode b_Worker_joined 11 = .ok (.lookupswitch 62 #[(38, 58), (43, 33), (124, 54)], 33) := by decide +kernel
theorem d_Worker_joined_44 : decode b_Worker_joined 44 = .ok (.lload_n 3, 1) := by decide +kernel
theorem d_Worker_joined_45 : decode b_Worker_joined 45 = .ok (.ldc2_w 79, 3) := by decide +kernel
theorem d_Worker_joined_48 : decode b_Worker_joined 48 = .ok (.lcmp, 1) := by decide +kernel
theorem d_Worker_joined_49 : decode b_Worker_joined 49 = .ok (.ifCond .ge 12, 3) := by decide +kernel
theorem d_Worker_joined_52 : decode b_Worker_joined 52 = .ok (.lload_n 1, 1) := by decide +kernel
theorem d_Worker_joined_53 : decode b_Worker_joined 53 = .ok (.lconst 1, 1) := by decide +kernel
theorem d_Worker_joined_54 : decode b_Worker_joined 54 = .ok (.lload_n 3, 1) := by decide +kernel
theorem d_Worker_joined_55 : decode b_Worker_joined 55 = .ok (.l2i, 1) := by decide +kernel
theorem d_Worker_joined_56 : decode b_Worker_joined 56 = .ok (.lshl, 1) := by decide +kernel
theorem d_Worker_joined_57 : decode b_Worker_joined 57 = .ok (.lor, 1) := by decide +kernel
theorem d_Worker_joined_58 : decode b_Worker_joined 58 = .ok (.goto 6, 3) := by decide +kernel
theorem d_Worker_joined_61 : decode b_Worker_joined 61 = .ok (.ldc2_w 35, 3) := by decide +kernel
theorem d_Worker_joined_64 : decode b_Worker_joined 64 = .ok (.lreturn, 1) := by decide +kernel
theorem d_Worker_joined_65 : decode b_Worker_joined 65 = .ok (.lload_n 1, 1) := by decide +kernel
theorem d_Worker_joined_66 : decode b_Worker_joined 66 = .ok (.lload_n 3, 1) := by decide +kernel
theorem d_Worker_joined_67 : decode b_Worker_joined 67 = .ok (.lor, 1) := by decide +kernel
theorem d_Worker_joined_68 : decode b_Worker_joined 68 = .ok (.lreturn, 1) := by decide +kernel
theorem d_Worker_joined_69 : decode b_Worker_joined 69 = .ok (.lload_n 1, 1) := by decide +kernel
theorem d_Worker_joined_70 : decode b_Worker_joined 70 = .ok (.lload_n 3, 1) := by decide +kernel
theorem d_Worker_joined_71 : decode b_Worker_joined 71 = .ok (.land, 1) := by decide +kernel
theorem d_Worker_joined_72 : decode b_Worker_joined 72 = .ok (.lreturn, 1) := by decide +kernel
theorem d_Worker_joined_73 : decode b_Worker_joined 73 = .ok (.lload_n 1, 1) := by decide +kernel
theorem d_Worker_joined_74 : decode b_Worker_joined 74 = .ok (.lload_n 3, 1) := by decide +kernel
theorem d_Worker_joined_75 : decode b_Worker_joined 75 = .ok (.ldc2_w 81, 3) := by decide +kernel
theorem d_Worker_joined_78 : decode b_Worker_joined 78 = .ok (.lxor, 1) := by decide +kernel
theorem d_Worker_joined_79 : decode b_Worker_joined 79 = .ok (.land, 1) := by decide +kernel
theorem d_Worker_joined_80 : decode b_Worker_joined 80 = .ok (.lreturn, 1) := by decide +kernel
def s_Worker_joined (x0 : Int32) (x1 : Int64) (x3 : Int64) : Option (Int64) :=
  if 0 ≤ (lg_cmp x3 0) then (
    if x0 = 38 then (
      some (x1 &&& x3))
    else (
    if x0 = 43 then (
      if 0 ≤ (lg_cmp x3 62) then (
        some (-3))
      else (
        some (x1 ||| ((1 : Int64) <<< (x3.toInt32.toInt64 &&& 63)))))
    else (
    if x0 = 124 then (
      some (x1 ||| x3))
    else (
      some (x1 &&& (x3 ^^^ (-1)))))))
  else (
    some (-3))
set_option maxHeartbeats 4000000 in
set_option maxRecDepth 100000 in
theorem c_Worker_joined (l : Launch) (g : GG) {h : HP} {x0 : Int32} {x1 : Int64} {x3 : Int64} {z : Int64} (hs : s_Worker_joined x0 x1 x3 = some z) : Ct l g y_Worker_joined w_Worker_joined (rmS 0 0) [.int x0, .long x1, .long x3] h (some (.long z)) h := by
  refine Ct.of (own := R_Worker) (by decide) rfl rfl (Nat.le_of_ble_eq_true rfl) ?_
  intro p e s m args below meth c ls C hl hw
  have hx := C.1
  have hb := C.2.1
  have hl : lv_has ls 5 [(0, .int x0), (1, .long x1), (3, .long x3)] := hl
  unfold s_Worker_joined at hs
  refine lv_lload_n hx hb d_Worker_joined_0 rfl (lv_at hl 2 rfl) ?_
  refine lv_lconst (v := 0) hx hb d_Worker_joined_1 (by decide) ?_
  refine W.lcmp hx hb d_Worker_joined_2 ?_
  refine lv_if_ge hx hb d_Worker_joined_3 (tgt := 10) (by decide) (fun hc => ?_) (fun hc => ?_)
  · have hs := oi_t hc hs
    refine lv_iload_n hx hb d_Worker_joined_10 rfl (lv_at hl 0 rfl) ?_
    refine by_c (fun (hk0 : x0 = 38) => ?_) (fun (hk0 : ¬ x0 = 38) => ?_)
    · have hs := oi_t hk0 hs
      refine lv_lookup hx hb d_Worker_joined_11 (by decide) (off := 58) (by rw [hk0]; decide) (tgt := 69) (by decide) ?_
      refine lv_lload_n hx hb d_Worker_joined_69 rfl (lv_at hl 1 rfl) ?_
      refine lv_lload_n hx hb d_Worker_joined_70 rfl (lv_at hl 2 rfl) ?_
      refine lv_land hx hb d_Worker_joined_71 ?_
      obtain rfl := Option.some.inj hs
      exact pg_lret C hw d_Worker_joined_72
    have hs := oi_f hk0 hs
    refine by_c (fun (hk1 : x0 = 43) => ?_) (fun (hk1 : ¬ x0 = 43) => ?_)
    · have hs := oi_t hk1 hs
      refine lv_lookup hx hb d_Worker_joined_11 (by decide) (off := 33) (by rw [hk1]; decide) (tgt := 44) (by decide) ?_
      refine lv_lload_n hx hb d_Worker_joined_44 rfl (lv_at hl 2 rfl) ?_
      refine lv_ldc2 (v := 62) hx hb C.own (C.w kc_Worker_79) d_Worker_joined_45 ?_
      refine W.lcmp hx hb d_Worker_joined_48 ?_
      refine lv_if_ge hx hb d_Worker_joined_49 (tgt := 61) (by decide) (fun hc => ?_) (fun hc => ?_)
      · have hs := oi_t hc hs
        refine lv_ldc2 (v := (-3)) hx hb C.own (C.w kc_Worker_35) d_Worker_joined_61 ?_
        obtain rfl := Option.some.inj hs
        exact pg_lret C hw d_Worker_joined_64
      · have hs := oi_f hc hs
        refine lv_lload_n hx hb d_Worker_joined_52 rfl (lv_at hl 1 rfl) ?_
        refine lv_lconst (v := 1) hx hb d_Worker_joined_53 (by decide) ?_
        refine lv_lload_n hx hb d_Worker_joined_54 rfl (lv_at hl 2 rfl) ?_
        refine lv_l2i (v := x3.toInt32) hx hb d_Worker_joined_55 rfl ?_
        refine lv_lshl (v := ((1 : Int64) <<< (x3.toInt32.toInt64 &&& 63))) hx hb d_Worker_joined_56 rfl ?_
        refine lv_lor hx hb d_Worker_joined_57 ?_
        refine lv_goto hx hb d_Worker_joined_58 (tgt := 64) (by decide) ?_
        obtain rfl := Option.some.inj hs
        exact pg_lret C hw d_Worker_joined_64
    have hs := oi_f hk1 hs
    refine by_c (fun (hk2 : x0 = 124) => ?_) (fun (hk2 : ¬ x0 = 124) => ?_)
    · have hs := oi_t hk2 hs
      refine lv_lookup hx hb d_Worker_joined_11 (by decide) (off := 54) (by rw [hk2]; decide) (tgt := 65) (by decide) ?_
      refine lv_lload_n hx hb d_Worker_joined_65 rfl (lv_at hl 1 rfl) ?_
      refine lv_lload_n hx hb d_Worker_joined_66 rfl (lv_at hl 2 rfl) ?_
      refine lv_lor hx hb d_Worker_joined_67 ?_
      obtain rfl := Option.some.inj hs
      exact pg_lret C hw d_Worker_joined_68
    have hs := oi_f hk2 hs
    refine lv_lookup hx hb d_Worker_joined_11 (by decide) (off := 62) (by show Op.lookupswitch.offset [(38, 58), (43, 33), (124, 54)] _ _ = _; rw [lv_osw hk0 (by decide), lv_osw hk1 (by decide), lv_osw hk2 (by decide)]; rfl) (tgt := 73) (by decide) ?_
    refine lv_lload_n hx hb d_Worker_joined_73 rfl (lv_at hl 1 rfl) ?_
    refine lv_lload_n hx hb d_Worker_joined_74 rfl (lv_at hl 2 rfl) ?_
    refine lv_ldc2 (v := (-1)) hx hb C.own (C.w kc_Worker_81) d_Worker_joined_75 ?_
    refine lv_lxor hx hb d_Worker_joined_78 ?_
    refine lv_land hx hb d_Worker_joined_79 ?_
    obtain rfl := Option.some.inj hs
    exact pg_lret C hw d_Worker_joined_80
  · have hs := oi_f hc hs
    refine lv_ldc2 (v := (-3)) hx hb C.own (C.w kc_Worker_35) d_Worker_joined_6 ?_
    obtain rfl := Option.some.inj hs
    exact pg_lret C hw d_Worker_joined_9

end
