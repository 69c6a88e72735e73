section
variable {p : Program} {l : Launch} {e : Env} {s : State} {m : MethodId} {args : Array Value} {below : List Frame} {meth : Method} {c : Code} {g : GG}
theorem d_Reader_mayStand_0 : decode b_Reader_mayStand 0 = .ok (.iload_n 1, 1) := by decide +kernel
theorem d_Reader_mayStand_1 : decode b_Reader_mayStand 1 = .ok (.aload_n 0, 1) := by decide +kernel
theorem d_Reader_mayStand_2 : decode b_Reader_mayStand 2 = .ok (.getfield 22, 3) := by decide +kernel
theorem d_Reader_mayStand_5 : decode b_Reader_mayStand 5 = .ok (.if_icmp .lt 12, 3) := by decide +kernel
theorem d_Reader_mayStand_8 : decode b_Reader_mayStand 8 = .ok (.aload_n 0, 1) := by decide +kernel
theorem d_Reader_mayStand_9 : decode b_Reader_mayStand 9 = .ok (.getfield 9, 3) := by decide +kernel
theorem d_Reader_mayStand_12 : decode b_Reader_mayStand 12 = .ok (.iload_n 1, 1) := by decide +kernel
theorem d_Reader_mayStand_13 : decode b_Reader_mayStand 13 = .ok (.iaload, 1) := by decide +kernel
theorem d_Reader_mayStand_14 : decode b_Reader_mayStand 14 = .ok (.ifCond .eq 7, 3) := by decide +kernel
theorem d_Reader_mayStand_17 : decode b_Reader_mayStand 17 = .ok (.iconst 1, 1) := by decide +kernel
theorem d_Reader_mayStand_18 : decode b_Reader_mayStand 18 = .ok (.goto 4, 3) := by decide +kernel
theorem d_Reader_mayStand_21 : decode b_Reader_mayStand 21 = .ok (.iconst 0, 1) := by decide +kernel
theorem d_Reader_mayStand_22 : decode b_Reader_mayStand 22 = .ok (.ireturn, 1) := by decide +kernel
def s_Reader_mayStand (x0 : Nat) (x1 : Int32) (h : HP) : Option (Int32) :=
  (gI h x0 3 5).bind fun v1 =>
  if x1 < v1 then (
    some 1)
  else (
    (gR h x0 3 2).bind fun v4 =>
    (aI h v4 0 x1).bind fun v6 =>
    if v6 = 0 then (
      some 0)
    else (
      some 1))
set_option maxHeartbeats 4000000 in
set_option maxRecDepth 100000 in
theorem c_Reader_mayStand (l : Launch) (g : GG) {h : HP} {x0 : Nat} {x1 : Int32} {z : Int32} (hs : s_Reader_mayStand x0 x1 h = some z) : Ct l g y_Reader_mayStand w_Reader_mayStand (rmS 0 0) [.ref (aD g x0), .int x1] h (some (.int z)) h := by
  refine Ct.of (own := R_Reader) (by decide) rfl rfl (Nat.le_of_ble_eq_true rfl) ?_
  intro p e s m args below meth c ls C hl hw
  have hx := C.1
  have hb := C.2.1
  have hl : lv_has ls 2 [(0, .ref (aD g x0)), (1, .int x1)] := hl
  unfold s_Reader_mayStand at hs
  refine lv_iload_n hx hb d_Reader_mayStand_0 rfl (lv_at hl 1 rfl) ?_
  refine lv_aload_n hx hb d_Reader_mayStand_1 rfl (lv_at hl 0 rfl) ?_
  obtain ⟨v1, e2, hs⟩ := ob hs
  refine pg_getI C hw fl_Reader_22 e2 d_Reader_mayStand_2 ?_
  refine lv_icmp_lt hx hb d_Reader_mayStand_5 (tgt := 17) (by decide) (fun hc => ?_) (fun hc => ?_)
  · have hs := oi_t hc hs
    refine lv_iconst (v := 1) hx hb d_Reader_mayStand_17 (by decide) ?_
    refine lv_goto hx hb d_Reader_mayStand_18 (tgt := 22) (by decide) ?_
    obtain rfl := Option.some.inj hs
    exact pg_zret (v := 1) C hw rfl d_Reader_mayStand_22
  · have hs := oi_f hc hs
    refine lv_aload_n hx hb d_Reader_mayStand_8 rfl (lv_at hl 0 rfl) ?_
    obtain ⟨v4, e5, hs⟩ := ob hs
    refine pg_getR C hw fl_Reader_9 e5 d_Reader_mayStand_9 ?_
    refine lv_iload_n hx hb d_Reader_mayStand_12 rfl (lv_at hl 1 rfl) ?_
    obtain ⟨v6, e7, hs⟩ := ob hs
    refine pg_iaload C hw (t0 := 0) rfl e7 d_Reader_mayStand_13 ?_
    refine lv_if_eq hx hb d_Reader_mayStand_14 (tgt := 21) (by decide) (fun hc => ?_) (fun hc => ?_)
    · have hs := oi_t hc hs
      refine lv_iconst (v := 0) hx hb d_Reader_mayStand_21 (by decide) ?_
      obtain rfl := Option.some.inj hs
      exact pg_zret (v := 0) C hw rfl d_Reader_mayStand_22
    · have hs := oi_f hc hs
      refine lv_iconst (v := 1) hx hb d_Reader_mayStand_17 (by decide) ?_
      refine lv_goto hx hb d_Reader_mayStand_18 (tgt := 22) (by decide) ?_
      obtain rfl := Option.some.inj hs
      exact pg_zret (v := 1) C hw rfl d_Reader_mayStand_22

end
section
variable {p : Program} {l : Launch} {e : Env} {s : State} {m : MethodId} {args : Array Value} {below : List Frame} {meth : Method} {c : Code} {g : GG}
theorem d_Text_setEnd_0 : decode b_Text_setEnd 0 = .ok (.iload_n 1, 1) := by decide +kernel
theorem d_Text_setEnd_1 : decode b_Text_setEnd 1 = .ok (.ifCond .lt 18, 3) := by decide +kernel
theorem d_Text_setEnd_4 : decode b_Text_setEnd 4 = .ok (.iload_n 1, 1) := by decide +kernel
theorem d_Text_setEnd_5 : decode b_Text_setEnd 5 = .ok (.aload_n 0, 1) := by decide +kernel
theorem d_Text_setEnd_6 : decode b_Text_setEnd 6 = .ok (.getfield 19, 3) := by decide +kernel
theorem d_Text_setEnd_9 : decode b_Text_setEnd 9 = .ok (.if_icmp .ge 10, 3) := by decide +kernel
theorem d_Text_setEnd_12 : decode b_Text_setEnd 12 = .ok (.aload_n 0, 1) := by decide +kernel
theorem d_Text_setEnd_13 : decode b_Text_setEnd 13 = .ok (.getfield 15, 3) := by decide +kernel
theorem d_Text_setEnd_16 : decode b_Text_setEnd 16 = .ok (.iload_n 1, 1) := by decide +kernel
theorem d_Text_setEnd_17 : decode b_Text_setEnd 17 = .ok (.iload_n 2, 1) := by decide +kernel
theorem d_Text_setEnd_18 : decode b_Text_setEnd 18 = .ok (.iastore, 1) := by decide +kernel
theorem d_Text_setEnd_19 : decode b_Text_setEnd 19 = .ok (.return_, 1) := by decide +kernel
def s_Text_setEnd (x0 : Nat) (x1 : Int32) (x2 : Int32) (h : HP) : Option (HP) :=
  if x1 < 0 then (
    some h)
  else (
    (gI h x0 0 2).bind fun v1 =>
    if v1 ≤ x1 then (
      some h)
    else (
      (gR h x0 0 1).bind fun v3 =>
      (uI h v3 0 x1 x2).bind fun h5 =>
      some h5))
set_option maxHeartbeats 4000000 in
set_option maxRecDepth 100000 in
theorem c_Text_setEnd (l : Launch) (g : GG) {x0 : Nat} {x1 : Int32} {x2 : Int32} {h : HP} {z : HP} (hs : s_Text_setEnd x0 x1 x2 h = some z) : Ct l g y_Text_setEnd w_Text_setEnd (rmS 0 0) [.ref (aD g x0), .int x1, .int x2] h none z := by
  refine Ct.of (own := R_Text) (by decide) rfl rfl (Nat.le_of_ble_eq_true rfl) ?_
  intro p e s m args below meth c ls C hl hw
  have hx := C.1
  have hb := C.2.1
  have hl : lv_has ls 3 [(0, .ref (aD g x0)), (1, .int x1), (2, .int x2)] := hl
  unfold s_Text_setEnd at hs
  refine lv_iload_n hx hb d_Text_setEnd_0 rfl (lv_at hl 1 rfl) ?_
  refine lv_if_lt hx hb d_Text_setEnd_1 (tgt := 19) (by decide) (fun hc => ?_) (fun hc => ?_)
  · have hs := oi_t hc hs
    obtain rfl := Option.some.inj hs
    exact pg_vret C hw d_Text_setEnd_19
  · have hs := oi_f hc hs
    refine lv_iload_n hx hb d_Text_setEnd_4 rfl (lv_at hl 1 rfl) ?_
    refine lv_aload_n hx hb d_Text_setEnd_5 rfl (lv_at hl 0 rfl) ?_
    obtain ⟨v1, e2, hs⟩ := ob hs
    refine pg_getI C hw fl_Text_19 e2 d_Text_setEnd_6 ?_
    refine lv_icmp_ge hx hb d_Text_setEnd_9 (tgt := 19) (by decide) (fun hc => ?_) (fun hc => ?_)
    · have hs := oi_t hc hs
      obtain rfl := Option.some.inj hs
      exact pg_vret C hw d_Text_setEnd_19
    · have hs := oi_f hc hs
      refine lv_aload_n hx hb d_Text_setEnd_12 rfl (lv_at hl 0 rfl) ?_
      obtain ⟨v3, e4, hs⟩ := ob hs
      refine pg_getR C hw fl_Text_15 e4 d_Text_setEnd_13 ?_
      refine lv_iload_n hx hb d_Text_setEnd_16 rfl (lv_at hl 1 rfl) ?_
      refine lv_iload_n hx hb d_Text_setEnd_17 rfl (lv_at hl 2 rfl) ?_
      obtain ⟨h5, e6, hs⟩ := ob hs
      refine pg_iastore C hw (t0 := 0) rfl e6 d_Text_setEnd_18 (fun H locs hw => ?_)
      obtain rfl := Option.some.inj hs
      exact pg_vret C hw d_Text_setEnd_19

end
