section
variable {p : Program} {l : Launch} {e : Env} {s : State} {m : MethodId} {args : Array Value} {below : List Frame} {meth : Method} {c : Code} {g : GG} {L : List Nat}
theorem d_Rules_isDetached_0 : decode b_Rules_isDetached 0 = .ok (.iconst 1, 1) := by decide +kernel
theorem d_Rules_isDetached_1 : decode b_Rules_isDetached 1 = .ok (.aload_n 1, 1) := by decide +kernel
theorem d_Rules_isDetached_2 : decode b_Rules_isDetached 2 = .ok (.invokevirtual 146, 3) := by decide +kernel
theorem d_Rules_isDetached_5 : decode b_Rules_isDetached 5 = .ok (.iadd, 1) := by decide +kernel
theorem d_Rules_isDetached_6 : decode b_Rules_isDetached 6 = .ok (.istore_n 3, 1) := by decide +kernel
theorem d_Rules_isDetached_7 : decode b_Rules_isDetached 7 = .ok (.aload_n 2, 1) := by decide +kernel
theorem d_Rules_isDetached_8 : decode b_Rules_isDetached 8 = .ok (.invokevirtual 146, 3) := by decide +kernel
theorem d_Rules_isDetached_11 : decode b_Rules_isDetached 11 = .ok (.iload_n 3, 1) := by decide +kernel
theorem d_Rules_isDetached_12 : decode b_Rules_isDetached 12 = .ok (.aload_n 0, 1) := by decide +kernel
theorem d_Rules_isDetached_13 : decode b_Rules_isDetached 13 = .ok (.getfield 29, 3) := by decide +kernel
theorem d_Rules_isDetached_16 : decode b_Rules_isDetached 16 = .ok (.invokevirtual 146, 3) := by decide +kernel
theorem d_Rules_isDetached_19 : decode b_Rules_isDetached 19 = .ok (.iadd, 1) := by decide +kernel
theorem d_Rules_isDetached_20 : decode b_Rules_isDetached 20 = .ok (.if_icmp .ne 51, 3) := by decide +kernel
theorem d_Rules_isDetached_23 : decode b_Rules_isDetached 23 = .ok (.aload_n 2, 1) := by decide +kernel
theorem d_Rules_isDetached_24 : decode b_Rules_isDetached 24 = .ok (.iconst 0, 1) := by decide +kernel
theorem d_Rules_isDetached_25 : decode b_Rules_isDetached 25 = .ok (.invokevirtual 149, 3) := by decide +kernel
theorem d_Rules_isDetached_28 : decode b_Rules_isDetached 28 = .ok (.bipush 62, 2) := by decide +kernel
theorem d_Rules_isDetached_30 : decode b_Rules_isDetached 30 = .ok (.if_icmp .ne 41, 3) := by decide +kernel
theorem d_Rules_isDetached_33 : decode b_Rules_isDetached 33 = .ok (.aload_n 2, 1) := by decide +kernel
theorem d_Rules_isDetached_34 : decode b_Rules_isDetached 34 = .ok (.iconst 1, 1) := by decide +kernel
theorem d_Rules_isDetached_35 : decode b_Rules_isDetached 35 = .ok (.aload_n 1, 1) := by decide +kernel
theorem d_Rules_isDetached_36 : decode b_Rules_isDetached 36 = .ok (.iconst 0, 1) := by decide +kernel
theorem d_Rules_isDetached_37 : decode b_Rules_isDetached 37 = .ok (.aload_n 1, 1) := by decide +kernel
theorem d_Rules_isDetached_38 : decode b_Rules_isDetached 38 = .ok (.invokevirtual 146, 3) := by decide +kernel
theorem d_Rules_isDetached_41 : decode b_Rules_isDetached 41 = .ok (.invokevirtual 153, 3) := by decide +kernel
theorem d_Rules_isDetached_44 : decode b_Rules_isDetached 44 = .ok (.ifCond .eq 27, 3) := by decide +kernel
theorem d_Rules_isDetached_47 : decode b_Rules_isDetached 47 = .ok (.aload_n 2, 1) := by decide +kernel
theorem d_Rules_isDetached_48 : decode b_Rules_isDetached 48 = .ok (.iload_n 3, 1) := by decide +kernel
theorem d_Rules_isDetached_49 : decode b_Rules_isDetached 49 = .ok (.aload_n 0, 1) := by decide +kernel
theorem d_Rules_isDetached_50 : decode b_Rules_isDetached 50 = .ok (.getfield 29, 3) := by decide +kernel
theorem d_Rules_isDetached_53 : decode b_Rules_isDetached 53 = .ok (.iconst 0, 1) := by decide +kernel
theorem d_Rules_isDetached_54 : decode b_Rules_isDetached 54 = .ok (.aload_n 0, 1) := by decide +kernel
theorem d_Rules_isDetached_55 : decode b_Rules_isDetached 55 = .ok (.getfield 29, 3) := by decide +kernel
theorem d_Rules_isDetached_58 : decode b_Rules_isDetached 58 = .ok (.invokevirtual 146, 3) := by decide +kernel
theorem d_Rules_isDetached_61 : decode b_Rules_isDetached 61 = .ok (.invokevirtual 153, 3) := by decide +kernel
theorem d_Rules_isDetached_64 : decode b_Rules_isDetached 64 = .ok (.ifCond .eq 7, 3) := by decide +kernel
theorem d_Rules_isDetached_67 : decode b_Rules_isDetached 67 = .ok (.iconst 1, 1) := by decide +kernel
theorem d_Rules_isDetached_68 : decode b_Rules_isDetached 68 = .ok (.goto 4, 3) := by decide +kernel
theorem d_Rules_isDetached_71 : decode b_Rules_isDetached 71 = .ok (.iconst 0, 1) := by decide +kernel
theorem d_Rules_isDetached_72 : decode b_Rules_isDetached 72 = .ok (.ireturn, 1) := by decide +kernel
def s_Rules_isDetached (x0 : Nat) (x1 : Nat) (x2 : Nat) (h : HP) : Option (Int32) :=
  (kd h x1 0).bind fun _ =>
  (s_Text_length x1 h).bind fun q2 =>
  (kd h x2 0).bind fun _ =>
  (s_Text_length x2 h).bind fun q5 =>
  (gR h x0 7 0).bind fun v7 =>
  (kd h v7 0).bind fun _ =>
  (s_Text_length v7 h).bind fun q10 =>
  if q5 = ((1 + q2) + q10) then (
    (kd h x2 0).bind fun _ =>
    (s_Text_at x2 0 h).bind fun q14 =>
    if q14 = 62 then (
      (kd h x1 0).bind fun _ =>
      (s_Text_length x1 h).bind fun q18 =>
      (kd h x2 0).bind fun _ =>
      (s_Text_has x2 1 x1 0 q18 h).bind fun q21 =>
      if q21 = 0 then (
        some 0)
      else (
        (gR h x0 7 0).bind fun v24 =>
        (gR h x0 7 0).bind fun v26 =>
        (kd h v26 0).bind fun _ =>
        (s_Text_length v26 h).bind fun q29 =>
        (kd h x2 0).bind fun _ =>
        (s_Text_has x2 (1 + q2) v24 0 q29 h).bind fun q32 =>
        if q32 = 0 then (
          some 0)
        else (
          some 1)))
    else (
      some 0))
  else (
    some 0)
set_option maxHeartbeats 4000000 in
set_option maxRecDepth 100000 in
theorem c_Rules_isDetached (l : Launch) (g : GG) (L : List Nat) {h : HP} {x0 : Nat} {x1 : Nat} {x2 : Nat} {z : Int32} (hs : s_Rules_isDetached x0 x1 x2 h = some z) : Ct l g L y_Rules_isDetached w_Rules_isDetached (rmS 2 47) [.ref x0, .ref x1, .ref x2] h (some (.int z)) h := by
  refine Ct.of (own := R_Rules) (by decide) rfl rfl (Nat.le_of_ble_eq_true rfl) ?_
  intro p e s m args below meth c ls C hl hw
  have hx := C.1
  have hb := C.2.1
  have hl : lv_has ls 4 [(0, .ref x0), (1, .ref x1), (2, .ref x2)] := hl
  unfold s_Rules_isDetached at hs
  refine lv_iconst (v := 1) hx hb d_Rules_isDetached_0 (by decide) ?_
  refine lv_aload_n hx hb d_Rules_isDetached_1 rfl (lv_at hl 1 rfl) ?_
  obtain ⟨_, e1, hs⟩ := ob hs
  obtain ⟨q2, e3, hs⟩ := ob hs
  refine pg_callV C hw hl.1 ml_Rules_146 e1 (As := []) (rest := [.int 1]) (c_Text_length l g L e3) rfl (rm_ok (Nat.le_of_ble_eq_true rfl) (Nat.le_of_ble_eq_true rfl)) (Nat.le_of_ble_eq_true rfl) rfl (st1 := [.int q2, .int 1]) rfl d_Rules_isDetached_2 (fun H locs hw => ?_)
  refine lv_iadd hx hb d_Rules_isDetached_5 ?_
  refine lv_istore_n hx hb d_Rules_isDetached_6 rfl hl (by decide) (lv' := [(3, .int (1 + q2)), (0, .ref x0), (1, .ref x1), (2, .ref x2)]) rfl (fun ls hl => ?_)
  refine lv_aload_n hx hb d_Rules_isDetached_7 rfl (lv_at hl 3 rfl) ?_
  obtain ⟨_, e4, hs⟩ := ob hs
  obtain ⟨q5, e6, hs⟩ := ob hs
  refine pg_callV C hw hl.1 ml_Rules_146 e4 (As := []) (rest := []) (c_Text_length l g L e6) rfl (rm_ok (Nat.le_of_ble_eq_true rfl) (Nat.le_of_ble_eq_true rfl)) (Nat.le_of_ble_eq_true rfl) rfl (st1 := [.int q5]) rfl d_Rules_isDetached_8 (fun H locs hw => ?_)
  refine lv_iload_n hx hb d_Rules_isDetached_11 rfl (lv_at hl 0 rfl) ?_
  refine lv_aload_n hx hb d_Rules_isDetached_12 rfl (lv_at hl 1 rfl) ?_
  obtain ⟨v7, e8, hs⟩ := ob hs
  refine pg_getR C hw fl_Rules_29 e8 d_Rules_isDetached_13 ?_
  obtain ⟨_, e9, hs⟩ := ob hs
  obtain ⟨q10, e11, hs⟩ := ob hs
  refine pg_callV C hw hl.1 ml_Rules_146 e9 (As := []) (rest := [.int (1 + q2), .int q5]) (c_Text_length l g L e11) rfl (rm_ok (Nat.le_of_ble_eq_true rfl) (Nat.le_of_ble_eq_true rfl)) (Nat.le_of_ble_eq_true rfl) rfl (st1 := [.int q10, .int (1 + q2), .int q5]) rfl d_Rules_isDetached_16 (fun H locs hw => ?_)
  refine lv_iadd hx hb d_Rules_isDetached_19 ?_
  refine lv_icmp_ne hx hb d_Rules_isDetached_20 (tgt := 71) (by decide) (fun hc => ?_) (fun hc => ?_)
  · have hs := oi_f hc hs
    refine lv_iconst (v := 0) hx hb d_Rules_isDetached_71 (by decide) ?_
    cases hs
    exact pg_zret C hw rfl d_Rules_isDetached_72
  · have hs := oi_t hc hs
    refine lv_aload_n hx hb d_Rules_isDetached_23 rfl (lv_at hl 3 rfl) ?_
    refine lv_iconst (v := 0) hx hb d_Rules_isDetached_24 (by decide) ?_
    obtain ⟨_, e13, hs⟩ := ob hs
    obtain ⟨q14, e15, hs⟩ := ob hs
    refine pg_callV C hw hl.1 ml_Rules_149 e13 (As := [.int 0]) (rest := []) (c_Text_at l g L e15) rfl (rm_ok (Nat.le_of_ble_eq_true rfl) (Nat.le_of_ble_eq_true rfl)) (Nat.le_of_ble_eq_true rfl) rfl (st1 := [.int q14]) rfl d_Rules_isDetached_25 (fun H locs hw => ?_)
    refine lv_bipush (v := 62) hx hb d_Rules_isDetached_28 (by decide) ?_
    refine lv_icmp_ne hx hb d_Rules_isDetached_30 (tgt := 71) (by decide) (fun hc => ?_) (fun hc => ?_)
    · have hs := oi_f hc hs
      refine lv_iconst (v := 0) hx hb d_Rules_isDetached_71 (by decide) ?_
      cases hs
      exact pg_zret C hw rfl d_Rules_isDetached_72
    · have hs := oi_t hc hs
      refine lv_aload_n hx hb d_Rules_isDetached_33 rfl (lv_at hl 3 rfl) ?_
      refine lv_iconst (v := 1) hx hb d_Rules_isDetached_34 (by decide) ?_
      refine lv_aload_n hx hb d_Rules_isDetached_35 rfl (lv_at hl 2 rfl) ?_
      refine lv_iconst (v := 0) hx hb d_Rules_isDetached_36 (by decide) ?_
      refine lv_aload_n hx hb d_Rules_isDetached_37 rfl (lv_at hl 2 rfl) ?_
      obtain ⟨_, e17, hs⟩ := ob hs
      obtain ⟨q18, e19, hs⟩ := ob hs
      refine pg_callV C hw hl.1 ml_Rules_146 e17 (As := []) (rest := [.int 0, .ref x1, .int 1, .ref x2]) (c_Text_length l g L e19) rfl (rm_ok (Nat.le_of_ble_eq_true rfl) (Nat.le_of_ble_eq_true rfl)) (Nat.le_of_ble_eq_true rfl) rfl (st1 := [.int q18, .int 0, .ref x1, .int 1, .ref x2]) rfl d_Rules_isDetached_38 (fun H locs hw => ?_)
      obtain ⟨_, e20, hs⟩ := ob hs
      obtain ⟨q21, e22, hs⟩ := ob hs
      refine pg_callV C hw hl.1 ml_Rules_153 e20 (As := [.int 1, .ref x1, .int 0, .int q18]) (rest := []) (c_Text_has l g L e22) rfl (rm_ok (Nat.le_of_ble_eq_true rfl) (Nat.le_of_ble_eq_true rfl)) (Nat.le_of_ble_eq_true rfl) rfl (st1 := [.int q21]) rfl d_Rules_isDetached_41 (fun H locs hw => ?_)
      refine lv_if_eq hx hb d_Rules_isDetached_44 (tgt := 71) (by decide) (fun hc => ?_) (fun hc => ?_)
      · have hs := oi_t hc hs
        refine lv_iconst (v := 0) hx hb d_Rules_isDetached_71 (by decide) ?_
        cases hs
        exact pg_zret C hw rfl d_Rules_isDetached_72
      · have hs := oi_f hc hs
        refine lv_aload_n hx hb d_Rules_isDetached_47 rfl (lv_at hl 3 rfl) ?_
        refine lv_iload_n hx hb d_Rules_isDetached_48 rfl (lv_at hl 0 rfl) ?_
        refine lv_aload_n hx hb d_Rules_isDetached_49 rfl (lv_at hl 1 rfl) ?_
        obtain ⟨v24, e25, hs⟩ := ob hs
        refine pg_getR C hw fl_Rules_29 e25 d_Rules_isDetached_50 ?_
        refine lv_iconst (v := 0) hx hb d_Rules_isDetached_53 (by decide) ?_
        refine lv_aload_n hx hb d_Rules_isDetached_54 rfl (lv_at hl 1 rfl) ?_
        obtain ⟨v26, e27, hs⟩ := ob hs
        refine pg_getR C hw fl_Rules_29 e27 d_Rules_isDetached_55 ?_
        obtain ⟨_, e28, hs⟩ := ob hs
        obtain ⟨q29, e30, hs⟩ := ob hs
        refine pg_callV C hw hl.1 ml_Rules_146 e28 (As := []) (rest := [.int 0, .ref v24, .int (1 + q2), .ref x2]) (c_Text_length l g L e30) rfl (rm_ok (Nat.le_of_ble_eq_true rfl) (Nat.le_of_ble_eq_true rfl)) (Nat.le_of_ble_eq_true rfl) rfl (st1 := [.int q29, .int 0, .ref v24, .int (1 + q2), .ref x2]) rfl d_Rules_isDetached_58 (fun H locs hw => ?_)
        obtain ⟨_, e31, hs⟩ := ob hs
        obtain ⟨q32, e33, hs⟩ := ob hs
        refine pg_callV C hw hl.1 ml_Rules_153 e31 (As := [.int (1 + q2), .ref v24, .int 0, .int q29]) (rest := []) (c_Text_has l g L e33) rfl (rm_ok (Nat.le_of_ble_eq_true rfl) (Nat.le_of_ble_eq_true rfl)) (Nat.le_of_ble_eq_true rfl) rfl (st1 := [.int q32]) rfl d_Rules_isDetached_61 (fun H locs hw => ?_)
        refine lv_if_eq hx hb d_Rules_isDetached_64 (tgt := 71) (by decide) (fun hc => ?_) (fun hc => ?_)
        · have hs := oi_t hc hs
          refine lv_iconst (v := 0) hx hb d_Rules_isDetached_71 (by decide) ?_
          cases hs
          exact pg_zret C hw rfl d_Rules_isDetached_72
        · have hs := oi_f hc hs
          refine lv_iconst (v := 1) hx hb d_Rules_isDetached_67 (by decide) ?_
          refine lv_goto hx hb d_Rules_isDetached_68 (tgt := 72) (by decide) ?_
          cases hs
          exact pg_zret C hw rfl d_Rules_isDetached_72

end
section
variable {p : Program} {l : Launch} {e : Env} {s : State} {m : MethodId} {args : Array Value} {below : List Frame} {meth : Method} {c : Code} {g : GG} {L : List Nat}
theorem d_Replacement_seek_0 : decode b_Replacement_seek 0 = .ok (.aload_n 0, 1) := by decide +kernel
theorem d_Replacement_seek_1 : decode b_Replacement_seek 1 = .ok (.iload_n 1, 1) := by decide +kernel
theorem d_Replacement_seek_2 : decode b_Replacement_seek 2 = .ok (.bipush (-2), 2) := by decide +kernel
theorem d_Replacement_seek_4 : decode b_Replacement_seek 4 = .ok (.invokevirtual 33, 3) := by decide +kernel
theorem d_Replacement_seek_7 : decode b_Replacement_seek 7 = .ok (.return_, 1) := by decide +kernel
def s_Replacement_seek (x0 : Nat) (x1 : Int32) (h : HP) : Option (HP) :=
  (kd h x0 5).bind fun _ =>
  (s_Replacement_put x0 x1 (-2) h).bind fun q2 =>
  some q2
set_option maxHeartbeats 4000000 in
set_option maxRecDepth 100000 in
theorem c_Replacement_seek (l : Launch) (g : GG) (L : List Nat) {x0 : Nat} {x1 : Int32} {h : HP} {z : HP} (hs : s_Replacement_seek x0 x1 h = some z) : Ct l g L y_Replacement_seek w_Replacement_seek (rmS 1 22) [.ref x0, .int x1] h none z := by
  refine Ct.of (own := R_Replacement) (by decide) rfl rfl (Nat.le_of_ble_eq_true rfl) ?_
  intro p e s m args below meth c ls C hl hw
  have hx := C.1
  have hb := C.2.1
  have hl : lv_has ls 2 [(0, .ref x0), (1, .int x1)] := hl
  unfold s_Replacement_seek at hs
  refine lv_aload_n hx hb d_Replacement_seek_0 rfl (lv_at hl 0 rfl) ?_
  refine lv_iload_n hx hb d_Replacement_seek_1 rfl (lv_at hl 1 rfl) ?_
  refine lv_bipush (v := (-2)) hx hb d_Replacement_seek_2 (by decide) ?_
  obtain ⟨_, e1, hs⟩ := ob hs
  obtain ⟨q2, e3, hs⟩ := ob hs
  refine pg_callV C hw hl.1 ml_Replacement_33 e1 (As := [.int x1, .int (-2)]) (rest := []) (c_Replacement_put l g L e3) rfl (rm_ok (Nat.le_of_ble_eq_true rfl) (Nat.le_of_ble_eq_true rfl)) (Nat.le_of_ble_eq_true rfl) rfl (st1 := []) rfl d_Replacement_seek_4 (fun H locs hw => ?_)
  cases hs
  exact pg_vret C hw d_Replacement_seek_7

end
section
variable {p : Program} {l : Launch} {e : Env} {s : State} {m : MethodId} {args : Array Value} {below : List Frame} {meth : Method} {c : Code} {g : GG} {L : List Nat}
theorem d_Rules_isInstanceOf_0 : decode b_Rules_isInstanceOf 0 = .ok (.aload_n 0, 1) := by decide +kernel
theorem d_Rules_isInstanceOf_1 : decode b_Rules_isInstanceOf 1 = .ok (.getfield 45, 3) := by decide +kernel
theorem d_Rules_isInstanceOf_4 : decode b_Rules_isInstanceOf 4 = .ok (.aload_n 0, 1) := by decide +kernel
theorem d_Rules_isInstanceOf_5 : decode b_Rules_isInstanceOf 5 = .ok (.getfield 29, 3) := by decide +kernel
theorem d_Rules_isInstanceOf_8 : decode b_Rules_isInstanceOf 8 = .ok (.invokevirtual 157, 3) := by decide +kernel
theorem d_Rules_isInstanceOf_11 : decode b_Rules_isInstanceOf 11 = .ok (.aload_n 0, 1) := by decide +kernel
theorem d_Rules_isInstanceOf_12 : decode b_Rules_isInstanceOf 12 = .ok (.getfield 45, 3) := by decide +kernel
theorem d_Rules_isInstanceOf_15 : decode b_Rules_isInstanceOf 15 = .ok (.iload_n 2, 1) := by decide +kernel
theorem d_Rules_isInstanceOf_16 : decode b_Rules_isInstanceOf 16 = .ok (.invokevirtual 160, 3) := by decide +kernel
theorem d_Rules_isInstanceOf_19 : decode b_Rules_isInstanceOf 19 = .ok (.aload_n 0, 1) := by decide +kernel
theorem d_Rules_isInstanceOf_20 : decode b_Rules_isInstanceOf 20 = .ok (.getfield 45, 3) := by decide +kernel
theorem d_Rules_isInstanceOf_23 : decode b_Rules_isInstanceOf 23 = .ok (.aload_n 1, 1) := by decide +kernel
theorem d_Rules_isInstanceOf_24 : decode b_Rules_isInstanceOf 24 = .ok (.iconst 0, 1) := by decide +kernel
theorem d_Rules_isInstanceOf_25 : decode b_Rules_isInstanceOf 25 = .ok (.aload_n 0, 1) := by decide +kernel
theorem d_Rules_isInstanceOf_26 : decode b_Rules_isInstanceOf 26 = .ok (.getfield 29, 3) := by decide +kernel
theorem d_Rules_isInstanceOf_29 : decode b_Rules_isInstanceOf 29 = .ok (.iconst 0, 1) := by decide +kernel
theorem d_Rules_isInstanceOf_30 : decode b_Rules_isInstanceOf 30 = .ok (.aload_n 0, 1) := by decide +kernel
theorem d_Rules_isInstanceOf_31 : decode b_Rules_isInstanceOf 31 = .ok (.getfield 29, 3) := by decide +kernel
theorem d_Rules_isInstanceOf_34 : decode b_Rules_isInstanceOf 34 = .ok (.invokevirtual 146, 3) := by decide +kernel
theorem d_Rules_isInstanceOf_37 : decode b_Rules_isInstanceOf 37 = .ok (.invokevirtual 142, 3) := by decide +kernel
theorem d_Rules_isInstanceOf_40 : decode b_Rules_isInstanceOf 40 = .ok (.ireturn, 1) := by decide +kernel
def s_Rules_isInstanceOf (x0 : Nat) (x1 : Nat) (x2 : Int32) (h : HP) : Option (Int32 × HP) :=
  (gR h x0 7 4).bind fun v1 =>
  (gR h x0 7 0).bind fun v3 =>
  (kd h v1 5).bind fun _ =>
  (s_Replacement_begin v1 v3 h).bind fun q6 =>
  (gR q6 x0 7 4).bind fun v8 =>
  (kd q6 v8 5).bind fun _ =>
  (s_Replacement_seek v8 x2 q6).bind fun q11 =>
  (gR q11 x0 7 4).bind fun v13 =>
  (gR q11 x0 7 0).bind fun v15 =>
  (gR q11 x0 7 0).bind fun v17 =>
  (kd q11 v17 0).bind fun _ =>
  (s_Text_length v17 q11).bind fun q20 =>
  (kd q11 v13 5).bind fun _ =>
  (s_Replacement_gives v13 x1 0 v15 0 q20 q11).bind fun q23 =>
  (zr q23.1).bind fun _ => some (q23.1, q23.2)
set_option maxHeartbeats 4000000 in
set_option maxRecDepth 100000 in
theorem c_Rules_isInstanceOf (l : Launch) (g : GG) (L : List Nat) {x0 : Nat} {x1 : Nat} {x2 : Int32} {h : HP} {z : Int32 × HP} (hs : s_Rules_isInstanceOf x0 x1 x2 h = some z) : Ct l g L y_Rules_isInstanceOf w_Rules_isInstanceOf (rmS 33 934) [.ref x0, .ref x1, .int x2] h (some (.int z.1)) z.2 := by
  refine Ct.of (own := R_Rules) (by decide) rfl rfl (Nat.le_of_ble_eq_true rfl) ?_
  intro p e s m args below meth c ls C hl hw
  have hx := C.1
  have hb := C.2.1
  have hl : lv_has ls 3 [(0, .ref x0), (1, .ref x1), (2, .int x2)] := hl
  unfold s_Rules_isInstanceOf at hs
  refine lv_aload_n hx hb d_Rules_isInstanceOf_0 rfl (lv_at hl 0 rfl) ?_
  obtain ⟨v1, e2, hs⟩ := ob hs
  refine pg_getR C hw fl_Rules_45 e2 d_Rules_isInstanceOf_1 ?_
  refine lv_aload_n hx hb d_Rules_isInstanceOf_4 rfl (lv_at hl 0 rfl) ?_
  obtain ⟨v3, e4, hs⟩ := ob hs
  refine pg_getR C hw fl_Rules_29 e4 d_Rules_isInstanceOf_5 ?_
  obtain ⟨_, e5, hs⟩ := ob hs
  obtain ⟨q6, e7, hs⟩ := ob hs
  refine pg_callV C hw hl.1 ml_Rules_157 e5 (As := [.ref v3]) (rest := []) (c_Replacement_begin l g L e7) rfl (rm_ok (Nat.le_of_ble_eq_true rfl) (Nat.le_of_ble_eq_true rfl)) (Nat.le_of_ble_eq_true rfl) rfl (st1 := []) rfl d_Rules_isInstanceOf_8 (fun H locs hw => ?_)
  refine lv_aload_n hx hb d_Rules_isInstanceOf_11 rfl (lv_at hl 0 rfl) ?_
  obtain ⟨v8, e9, hs⟩ := ob hs
  refine pg_getR C hw fl_Rules_45 e9 d_Rules_isInstanceOf_12 ?_
  refine lv_iload_n hx hb d_Rules_isInstanceOf_15 rfl (lv_at hl 2 rfl) ?_
  obtain ⟨_, e10, hs⟩ := ob hs
  obtain ⟨q11, e12, hs⟩ := ob hs
  refine pg_callV C hw hl.1 ml_Rules_160 e10 (As := [.int x2]) (rest := []) (c_Replacement_seek l g L e12) rfl (rm_ok (Nat.le_of_ble_eq_true rfl) (Nat.le_of_ble_eq_true rfl)) (Nat.le_of_ble_eq_true rfl) rfl (st1 := []) rfl d_Rules_isInstanceOf_16 (fun H locs hw => ?_)
  refine lv_aload_n hx hb d_Rules_isInstanceOf_19 rfl (lv_at hl 0 rfl) ?_
  obtain ⟨v13, e14, hs⟩ := ob hs
  refine pg_getR C hw fl_Rules_45 e14 d_Rules_isInstanceOf_20 ?_
  refine lv_aload_n hx hb d_Rules_isInstanceOf_23 rfl (lv_at hl 1 rfl) ?_
  refine lv_iconst (v := 0) hx hb d_Rules_isInstanceOf_24 (by decide) ?_
  refine lv_aload_n hx hb d_Rules_isInstanceOf_25 rfl (lv_at hl 0 rfl) ?_
  obtain ⟨v15, e16, hs⟩ := ob hs
  refine pg_getR C hw fl_Rules_29 e16 d_Rules_isInstanceOf_26 ?_
  refine lv_iconst (v := 0) hx hb d_Rules_isInstanceOf_29 (by decide) ?_
  refine lv_aload_n hx hb d_Rules_isInstanceOf_30 rfl (lv_at hl 0 rfl) ?_
  obtain ⟨v17, e18, hs⟩ := ob hs
  refine pg_getR C hw fl_Rules_29 e18 d_Rules_isInstanceOf_31 ?_
  obtain ⟨_, e19, hs⟩ := ob hs
  obtain ⟨q20, e21, hs⟩ := ob hs
  refine pg_callV C hw hl.1 ml_Rules_146 e19 (As := []) (rest := [.int 0, .ref v15, .int 0, .ref x1, .ref v13]) (c_Text_length l g L e21) rfl (rm_ok (Nat.le_of_ble_eq_true rfl) (Nat.le_of_ble_eq_true rfl)) (Nat.le_of_ble_eq_true rfl) rfl (st1 := [.int q20, .int 0, .ref v15, .int 0, .ref x1, .ref v13]) rfl d_Rules_isInstanceOf_34 (fun H locs hw => ?_)
  obtain ⟨_, e22, hs⟩ := ob hs
  obtain ⟨q23, e24, hs⟩ := ob hs
  refine pg_callV C hw hl.1 ml_Rules_142 e22 (As := [.ref x1, .int 0, .ref v15, .int 0, .int q20]) (rest := []) (c_Replacement_gives l g L e24) rfl (rm_ok (Nat.le_of_ble_eq_true rfl) (Nat.le_of_ble_eq_true rfl)) (Nat.le_of_ble_eq_true rfl) rfl (st1 := [.int q23.1]) rfl d_Rules_isInstanceOf_37 (fun H locs hw => ?_)
  obtain ⟨_, e25, hs⟩ := ob hs
  cases hs
  exact pg_zret C hw (zr_n e25) d_Rules_isInstanceOf_40

end
section
variable {p : Program} {l : Launch} {e : Env} {s : State} {m : MethodId} {args : Array Value} {below : List Frame} {meth : Method} {c : Code} {g : GG} {L : List Nat}
theorem d_Text_add_0 : decode b_Text_add 0 = .ok (.aload_n 0, 1) := by decide +kernel
theorem d_Text_add_1 : decode b_Text_add 1 = .ok (.getfield 19, 3) := by decide +kernel
theorem d_Text_add_4 : decode b_Text_add 4 = .ok (.bipush 60, 2) := by decide +kernel
theorem d_Text_add_6 : decode b_Text_add 6 = .ok (.if_icmp .ge 24, 3) := by decide +kernel
theorem d_Text_add_9 : decode b_Text_add 9 = .ok (.aload_n 0, 1) := by decide +kernel
theorem d_Text_add_10 : decode b_Text_add 10 = .ok (.getfield 9, 3) := by decide +kernel
theorem d_Text_add_13 : decode b_Text_add 13 = .ok (.aload_n 0, 1) := by decide +kernel
theorem d_Text_add_14 : decode b_Text_add 14 = .ok (.getfield 19, 3) := by decide +kernel
theorem d_Text_add_17 : decode b_Text_add 17 = .ok (.iload_n 1, 1) := by decide +kernel
theorem d_Text_add_18 : decode b_Text_add 18 = .ok (.i2c, 1) := by decide +kernel
theorem d_Text_add_19 : decode b_Text_add 19 = .ok (.castore, 1) := by decide +kernel
theorem d_Text_add_20 : decode b_Text_add 20 = .ok (.aload_n 0, 1) := by decide +kernel
theorem d_Text_add_21 : decode b_Text_add 21 = .ok (.dup, 1) := by decide +kernel
theorem d_Text_add_22 : decode b_Text_add 22 = .ok (.getfield 19, 3) := by decide +kernel
theorem d_Text_add_25 : decode b_Text_add 25 = .ok (.iconst 1, 1) := by decide +kernel
theorem d_Text_add_26 : decode b_Text_add 26 = .ok (.iadd, 1) := by decide +kernel
theorem d_Text_add_27 : decode b_Text_add 27 = .ok (.putfield 19, 3) := by decide +kernel
theorem d_Text_add_30 : decode b_Text_add 30 = .ok (.return_, 1) := by decide +kernel
def s_Text_add (x0 : Nat) (x1 : Int32) (h : HP) : Option (HP) :=
  (gI h x0 0 2).bind fun v1 =>
  if 60 ≤ v1 then (
    some h)
  else (
    (gR h x0 0 0).bind fun v3 =>
    (gI h x0 0 2).bind fun v5 =>
    (uI h v3 1 v5 (vp_nar .char ((x1.toUInt32 % 65536).toInt32))).bind fun h7 =>
    (gI h7 x0 0 2).bind fun v9 =>
    (pI h7 x0 0 2 (v9 + 1)).bind fun h11 =>
    some h11)
set_option maxHeartbeats 4000000 in
set_option maxRecDepth 100000 in
theorem c_Text_add (l : Launch) (g : GG) (L : List Nat) {x0 : Nat} {x1 : Int32} {h : HP} {z : HP} (hs : s_Text_add x0 x1 h = some z) : Ct l g L y_Text_add w_Text_add (rmS 0 0) [.ref x0, .int x1] h none z := by
  refine Ct.of (own := R_Text) (by decide) rfl rfl (Nat.le_of_ble_eq_true rfl) ?_
  intro p e s m args below meth c ls C hl hw
  have hx := C.1
  have hb := C.2.1
  have hl : lv_has ls 2 [(0, .ref x0), (1, .int x1)] := hl
  unfold s_Text_add at hs
  refine lv_aload_n hx hb d_Text_add_0 rfl (lv_at hl 0 rfl) ?_
  obtain ⟨v1, e2, hs⟩ := ob hs
  refine pg_getI C hw fl_Text_19 e2 d_Text_add_1 ?_
  refine lv_bipush (v := 60) hx hb d_Text_add_4 (by decide) ?_
  refine lv_icmp_ge hx hb d_Text_add_6 (tgt := 30) (by decide) (fun hc => ?_) (fun hc => ?_)
  · have hs := oi_t hc hs
    cases hs
    exact pg_vret C hw d_Text_add_30
  · have hs := oi_f hc hs
    refine lv_aload_n hx hb d_Text_add_9 rfl (lv_at hl 0 rfl) ?_
    obtain ⟨v3, e4, hs⟩ := ob hs
    refine pg_getR C hw fl_Text_9 e4 d_Text_add_10 ?_
    refine lv_aload_n hx hb d_Text_add_13 rfl (lv_at hl 0 rfl) ?_
    obtain ⟨v5, e6, hs⟩ := ob hs
    refine pg_getI C hw fl_Text_19 e6 d_Text_add_14 ?_
    refine lv_iload_n hx hb d_Text_add_17 rfl (lv_at hl 1 rfl) ?_
    refine lv_i2c (v := (x1.toUInt32 % 65536).toInt32) hx hb d_Text_add_18 rfl ?_
    obtain ⟨h7, e8, hs⟩ := ob hs
    refine pg_castore C hw (t0 := 1) rfl e8 d_Text_add_19 (fun H locs hw => ?_)
    refine lv_aload_n hx hb d_Text_add_20 rfl (lv_at hl 0 rfl) ?_
    refine lv_dup hx hb d_Text_add_21 rfl ?_
    obtain ⟨v9, e10, hs⟩ := ob hs
    refine pg_getI C hw fl_Text_19 e10 d_Text_add_22 ?_
    refine lv_iconst (v := 1) hx hb d_Text_add_25 (by decide) ?_
    refine lv_iadd hx hb d_Text_add_26 ?_
    obtain ⟨h11, e12, hs⟩ := ob hs
    refine pg_putI C hw pl_Text_19 e12 d_Text_add_27 (fun H locs hw => ?_)
    cases hs
    exact pg_vret C hw d_Text_add_30

end
section
variable {p : Program} {l : Launch} {e : Env} {s : State} {m : MethodId} {args : Array Value} {below : List Frame} {meth : Method} {c : Code} {g : GG} {L : List Nat}
theorem d_Rules_spareBecomesZero_0 : decode b_Rules_spareBecomesZero 0 = .ok (.aload_n 0, 1) := by decide +kernel
theorem d_Rules_spareBecomesZero_1 : decode b_Rules_spareBecomesZero 1 = .ok (.getfield 12, 3) := by decide +kernel
theorem d_Rules_spareBecomesZero_4 : decode b_Rules_spareBecomesZero 4 = .ok (.invokevirtual 175, 3) := by decide +kernel
theorem d_Rules_spareBecomesZero_7 : decode b_Rules_spareBecomesZero 7 = .ok (.aload_n 0, 1) := by decide +kernel
theorem d_Rules_spareBecomesZero_8 : decode b_Rules_spareBecomesZero 8 = .ok (.getfield 12, 3) := by decide +kernel
theorem d_Rules_spareBecomesZero_11 : decode b_Rules_spareBecomesZero 11 = .ok (.bipush 48, 2) := by decide +kernel
theorem d_Rules_spareBecomesZero_13 : decode b_Rules_spareBecomesZero 13 = .ok (.invokevirtual 178, 3) := by decide +kernel
theorem d_Rules_spareBecomesZero_16 : decode b_Rules_spareBecomesZero 16 = .ok (.aload_n 0, 1) := by decide +kernel
theorem d_Rules_spareBecomesZero_17 : decode b_Rules_spareBecomesZero 17 = .ok (.getfield 12, 3) := by decide +kernel
theorem d_Rules_spareBecomesZero_20 : decode b_Rules_spareBecomesZero 20 = .ok (.iconst 0, 1) := by decide +kernel
theorem d_Rules_spareBecomesZero_21 : decode b_Rules_spareBecomesZero 21 = .ok (.iconst 1, 1) := by decide +kernel
theorem d_Rules_spareBecomesZero_22 : decode b_Rules_spareBecomesZero 22 = .ok (.invokevirtual 181, 3) := by decide +kernel
theorem d_Rules_spareBecomesZero_25 : decode b_Rules_spareBecomesZero 25 = .ok (.return_, 1) := by decide +kernel
def s_Rules_spareBecomesZero (x0 : Nat) (h : HP) : Option (HP) :=
  (gR h x0 7 3).bind fun v1 =>
  (kd h v1 0).bind fun _ =>
  (s_Text_empty v1 h).bind fun q4 =>
  (gR q4 x0 7 3).bind fun v6 =>
  (kd q4 v6 0).bind fun _ =>
  (s_Text_add v6 48 q4).bind fun q9 =>
  (gR q9 x0 7 3).bind fun v11 =>
  (kd q9 v11 0).bind fun _ =>
  (s_Text_setEnd v11 0 1 q9).bind fun q14 =>
  some q14
set_option maxHeartbeats 4000000 in
set_option maxRecDepth 100000 in
theorem c_Rules_spareBecomesZero (l : Launch) (g : GG) (L : List Nat) {x0 : Nat} {h : HP} {z : HP} (hs : s_Rules_spareBecomesZero x0 h = some z) : Ct l g L y_Rules_spareBecomesZero w_Rules_spareBecomesZero (rmS 1 22) [.ref x0] h none z := by
  refine Ct.of (own := R_Rules) (by decide) rfl rfl (Nat.le_of_ble_eq_true rfl) ?_
  intro p e s m args below meth c ls C hl hw
  have hx := C.1
  have hb := C.2.1
  have hl : lv_has ls 1 [(0, .ref x0)] := hl
  unfold s_Rules_spareBecomesZero at hs
  refine lv_aload_n hx hb d_Rules_spareBecomesZero_0 rfl (lv_at hl 0 rfl) ?_
  obtain ⟨v1, e2, hs⟩ := ob hs
  refine pg_getR C hw fl_Rules_12 e2 d_Rules_spareBecomesZero_1 ?_
  obtain ⟨_, e3, hs⟩ := ob hs
  obtain ⟨q4, e5, hs⟩ := ob hs
  refine pg_callV C hw hl.1 ml_Rules_175 e3 (As := []) (rest := []) (c_Text_empty l g L e5) rfl (rm_ok (Nat.le_of_ble_eq_true rfl) (Nat.le_of_ble_eq_true rfl)) (Nat.le_of_ble_eq_true rfl) rfl (st1 := []) rfl d_Rules_spareBecomesZero_4 (fun H locs hw => ?_)
  refine lv_aload_n hx hb d_Rules_spareBecomesZero_7 rfl (lv_at hl 0 rfl) ?_
  obtain ⟨v6, e7, hs⟩ := ob hs
  refine pg_getR C hw fl_Rules_12 e7 d_Rules_spareBecomesZero_8 ?_
  refine lv_bipush (v := 48) hx hb d_Rules_spareBecomesZero_11 (by decide) ?_
  obtain ⟨_, e8, hs⟩ := ob hs
  obtain ⟨q9, e10, hs⟩ := ob hs
  refine pg_callV C hw hl.1 ml_Rules_178 e8 (As := [.int 48]) (rest := []) (c_Text_add l g L e10) rfl (rm_ok (Nat.le_of_ble_eq_true rfl) (Nat.le_of_ble_eq_true rfl)) (Nat.le_of_ble_eq_true rfl) rfl (st1 := []) rfl d_Rules_spareBecomesZero_13 (fun H locs hw => ?_)
  refine lv_aload_n hx hb d_Rules_spareBecomesZero_16 rfl (lv_at hl 0 rfl) ?_
  obtain ⟨v11, e12, hs⟩ := ob hs
  refine pg_getR C hw fl_Rules_12 e12 d_Rules_spareBecomesZero_17 ?_
  refine lv_iconst (v := 0) hx hb d_Rules_spareBecomesZero_20 (by decide) ?_
  refine lv_iconst (v := 1) hx hb d_Rules_spareBecomesZero_21 (by decide) ?_
  obtain ⟨_, e13, hs⟩ := ob hs
  obtain ⟨q14, e15, hs⟩ := ob hs
  refine pg_callV C hw hl.1 ml_Rules_181 e13 (As := [.int 0, .int 1]) (rest := []) (c_Text_setEnd l g L e15) rfl (rm_ok (Nat.le_of_ble_eq_true rfl) (Nat.le_of_ble_eq_true rfl)) (Nat.le_of_ble_eq_true rfl) rfl (st1 := []) rfl d_Rules_spareBecomesZero_22 (fun H locs hw => ?_)
  cases hs
  exact pg_vret C hw d_Rules_spareBecomesZero_25

end
section
variable {p : Program} {l : Launch} {e : Env} {s : State} {m : MethodId} {args : Array Value} {below : List Frame} {meth : Method} {c : Code} {g : GG} {L : List Nat}
theorem d_Rules_spareBecomesAdjoined_0 : decode b_Rules_spareBecomesAdjoined 0 = .ok (.aload_n 0, 1) := by decide +kernel
theorem d_Rules_spareBecomesAdjoined_1 : decode b_Rules_spareBecomesAdjoined 1 = .ok (.getfield 12, 3) := by decide +kernel
theorem d_Rules_spareBecomesAdjoined_4 : decode b_Rules_spareBecomesAdjoined 4 = .ok (.invokevirtual 175, 3) := by decide +kernel
theorem d_Rules_spareBecomesAdjoined_7 : decode b_Rules_spareBecomesAdjoined 7 = .ok (.aload_n 0, 1) := by decide +kernel
theorem d_Rules_spareBecomesAdjoined_8 : decode b_Rules_spareBecomesAdjoined 8 = .ok (.getfield 12, 3) := by decide +kernel
theorem d_Rules_spareBecomesAdjoined_11 : decode b_Rules_spareBecomesAdjoined 11 = .ok (.bipush 43, 2) := by decide +kernel
theorem d_Rules_spareBecomesAdjoined_13 : decode b_Rules_spareBecomesAdjoined 13 = .ok (.invokevirtual 178, 3) := by decide +kernel
theorem d_Rules_spareBecomesAdjoined_16 : decode b_Rules_spareBecomesAdjoined 16 = .ok (.aload_n 0, 1) := by decide +kernel
theorem d_Rules_spareBecomesAdjoined_17 : decode b_Rules_spareBecomesAdjoined 17 = .ok (.getfield 12, 3) := by decide +kernel
theorem d_Rules_spareBecomesAdjoined_20 : decode b_Rules_spareBecomesAdjoined 20 = .ok (.bipush 97, 2) := by decide +kernel
theorem d_Rules_spareBecomesAdjoined_22 : decode b_Rules_spareBecomesAdjoined 22 = .ok (.iload_n 1, 1) := by decide +kernel
theorem d_Rules_spareBecomesAdjoined_23 : decode b_Rules_spareBecomesAdjoined 23 = .ok (.iadd, 1) := by decide +kernel
theorem d_Rules_spareBecomesAdjoined_24 : decode b_Rules_spareBecomesAdjoined 24 = .ok (.invokevirtual 178, 3) := by decide +kernel
theorem d_Rules_spareBecomesAdjoined_27 : decode b_Rules_spareBecomesAdjoined 27 = .ok (.aload_n 0, 1) := by decide +kernel
theorem d_Rules_spareBecomesAdjoined_28 : decode b_Rules_spareBecomesAdjoined 28 = .ok (.getfield 12, 3) := by decide +kernel
theorem d_Rules_spareBecomesAdjoined_31 : decode b_Rules_spareBecomesAdjoined 31 = .ok (.bipush 97, 2) := by decide +kernel
theorem d_Rules_spareBecomesAdjoined_33 : decode b_Rules_spareBecomesAdjoined 33 = .ok (.iload_n 2, 1) := by decide +kernel
theorem d_Rules_spareBecomesAdjoined_34 : decode b_Rules_spareBecomesAdjoined 34 = .ok (.iadd, 1) := by decide +kernel
theorem d_Rules_spareBecomesAdjoined_35 : decode b_Rules_spareBecomesAdjoined 35 = .ok (.invokevirtual 178, 3) := by decide +kernel
theorem d_Rules_spareBecomesAdjoined_38 : decode b_Rules_spareBecomesAdjoined 38 = .ok (.aload_n 0, 1) := by decide +kernel
theorem d_Rules_spareBecomesAdjoined_39 : decode b_Rules_spareBecomesAdjoined 39 = .ok (.getfield 12, 3) := by decide +kernel
theorem d_Rules_spareBecomesAdjoined_42 : decode b_Rules_spareBecomesAdjoined 42 = .ok (.iconst 0, 1) := by decide +kernel
theorem d_Rules_spareBecomesAdjoined_43 : decode b_Rules_spareBecomesAdjoined 43 = .ok (.iconst 3, 1) := by decide +kernel
theorem d_Rules_spareBecomesAdjoined_44 : decode b_Rules_spareBecomesAdjoined 44 = .ok (.invokevirtual 181, 3) := by decide +kernel
theorem d_Rules_spareBecomesAdjoined_47 : decode b_Rules_spareBecomesAdjoined 47 = .ok (.aload_n 0, 1) := by decide +kernel
theorem d_Rules_spareBecomesAdjoined_48 : decode b_Rules_spareBecomesAdjoined 48 = .ok (.getfield 12, 3) := by decide +kernel
theorem d_Rules_spareBecomesAdjoined_51 : decode b_Rules_spareBecomesAdjoined 51 = .ok (.iconst 1, 1) := by decide +kernel
theorem d_Rules_spareBecomesAdjoined_52 : decode b_Rules_spareBecomesAdjoined 52 = .ok (.iconst 2, 1) := by decide +kernel
theorem d_Rules_spareBecomesAdjoined_53 : decode b_Rules_spareBecomesAdjoined 53 = .ok (.invokevirtual 181, 3) := by decide +kernel
theorem d_Rules_spareBecomesAdjoined_56 : decode b_Rules_spareBecomesAdjoined 56 = .ok (.aload_n 0, 1) := by decide +kernel
theorem d_Rules_spareBecomesAdjoined_57 : decode b_Rules_spareBecomesAdjoined 57 = .ok (.getfield 12, 3) := by decide +kernel
theorem d_Rules_spareBecomesAdjoined_60 : decode b_Rules_spareBecomesAdjoined 60 = .ok (.iconst 2, 1) := by decide +kernel
theorem d_Rules_spareBecomesAdjoined_61 : decode b_Rules_spareBecomesAdjoined 61 = .ok (.iconst 3, 1) := by decide +kernel
theorem d_Rules_spareBecomesAdjoined_62 : decode b_Rules_spareBecomesAdjoined 62 = .ok (.invokevirtual 181, 3) := by decide +kernel
theorem d_Rules_spareBecomesAdjoined_65 : decode b_Rules_spareBecomesAdjoined 65 = .ok (.return_, 1) := by decide +kernel
def s_Rules_spareBecomesAdjoined (x0 : Nat) (x1 : Int32) (x2 : Int32) (h : HP) : Option (HP) :=
  (gR h x0 7 3).bind fun v1 =>
  (kd h v1 0).bind fun _ =>
  (s_Text_empty v1 h).bind fun q4 =>
  (gR q4 x0 7 3).bind fun v6 =>
  (kd q4 v6 0).bind fun _ =>
  (s_Text_add v6 43 q4).bind fun q9 =>
  (gR q9 x0 7 3).bind fun v11 =>
  (kd q9 v11 0).bind fun _ =>
  (s_Text_add v11 (97 + x1) q9).bind fun q14 =>
  (gR q14 x0 7 3).bind fun v16 =>
  (kd q14 v16 0).bind fun _ =>
  (s_Text_add v16 (97 + x2) q14).bind fun q19 =>
  (gR q19 x0 7 3).bind fun v21 =>
  (kd q19 v21 0).bind fun _ =>
  (s_Text_setEnd v21 0 3 q19).bind fun q24 =>
  (gR q24 x0 7 3).bind fun v26 =>
  (kd q24 v26 0).bind fun _ =>
  (s_Text_setEnd v26 1 2 q24).bind fun q29 =>
  (gR q29 x0 7 3).bind fun v31 =>
  (kd q29 v31 0).bind fun _ =>
  (s_Text_setEnd v31 2 3 q29).bind fun q34 =>
  some q34
set_option maxHeartbeats 4000000 in
set_option maxRecDepth 100000 in
theorem c_Rules_spareBecomesAdjoined (l : Launch) (g : GG) (L : List Nat) {x0 : Nat} {x1 : Int32} {x2 : Int32} {h : HP} {z : HP} (hs : s_Rules_spareBecomesAdjoined x0 x1 x2 h = some z) : Ct l g L y_Rules_spareBecomesAdjoined w_Rules_spareBecomesAdjoined (rmS 1 22) [.ref x0, .int x1, .int x2] h none z := by
  refine Ct.of (own := R_Rules) (by decide) rfl rfl (Nat.le_of_ble_eq_true rfl) ?_
  intro p e s m args below meth c ls C hl hw
  have hx := C.1
  have hb := C.2.1
  have hl : lv_has ls 3 [(0, .ref x0), (1, .int x1), (2, .int x2)] := hl
  unfold s_Rules_spareBecomesAdjoined at hs
  refine lv_aload_n hx hb d_Rules_spareBecomesAdjoined_0 rfl (lv_at hl 0 rfl) ?_
  obtain ⟨v1, e2, hs⟩ := ob hs
  refine pg_getR C hw fl_Rules_12 e2 d_Rules_spareBecomesAdjoined_1 ?_
  obtain ⟨_, e3, hs⟩ := ob hs
  obtain ⟨q4, e5, hs⟩ := ob hs
  refine pg_callV C hw hl.1 ml_Rules_175 e3 (As := []) (rest := []) (c_Text_empty l g L e5) rfl (rm_ok (Nat.le_of_ble_eq_true rfl) (Nat.le_of_ble_eq_true rfl)) (Nat.le_of_ble_eq_true rfl) rfl (st1 := []) rfl d_Rules_spareBecomesAdjoined_4 (fun H locs hw => ?_)
  refine lv_aload_n hx hb d_Rules_spareBecomesAdjoined_7 rfl (lv_at hl 0 rfl) ?_
  obtain ⟨v6, e7, hs⟩ := ob hs
  refine pg_getR C hw fl_Rules_12 e7 d_Rules_spareBecomesAdjoined_8 ?_
  refine lv_bipush (v := 43) hx hb d_Rules_spareBecomesAdjoined_11 (by decide) ?_
  obtain ⟨_, e8, hs⟩ := ob hs
  obtain ⟨q9, e10, hs⟩ := ob hs
  refine pg_callV C hw hl.1 ml_Rules_178 e8 (As := [.int 43]) (rest := []) (c_Text_add l g L e10) rfl (rm_ok (Nat.le_of_ble_eq_true rfl) (Nat.le_of_ble_eq_true rfl)) (Nat.le_of_ble_eq_true rfl) rfl (st1 := []) rfl d_Rules_spareBecomesAdjoined_13 (fun H locs hw => ?_)
  refine lv_aload_n hx hb d_Rules_spareBecomesAdjoined_16 rfl (lv_at hl 0 rfl) ?_
  obtain ⟨v11, e12, hs⟩ := ob hs
  refine pg_getR C hw fl_Rules_12 e12 d_Rules_spareBecomesAdjoined_17 ?_
  refine lv_bipush (v := 97) hx hb d_Rules_spareBecomesAdjoined_20 (by decide) ?_
  refine lv_iload_n hx hb d_Rules_spareBecomesAdjoined_22 rfl (lv_at hl 1 rfl) ?_
  refine lv_iadd hx hb d_Rules_spareBecomesAdjoined_23 ?_
  obtain ⟨_, e13, hs⟩ := ob hs
  obtain ⟨q14, e15, hs⟩ := ob hs
  refine pg_callV C hw hl.1 ml_Rules_178 e13 (As := [.int (97 + x1)]) (rest := []) (c_Text_add l g L e15) rfl (rm_ok (Nat.le_of_ble_eq_true rfl) (Nat.le_of_ble_eq_true rfl)) (Nat.le_of_ble_eq_true rfl) rfl (st1 := []) rfl d_Rules_spareBecomesAdjoined_24 (fun H locs hw => ?_)
  refine lv_aload_n hx hb d_Rules_spareBecomesAdjoined_27 rfl (lv_at hl 0 rfl) ?_
  obtain ⟨v16, e17, hs⟩ := ob hs
  refine pg_getR C hw fl_Rules_12 e17 d_Rules_spareBecomesAdjoined_28 ?_
  refine lv_bipush (v := 97) hx hb d_Rules_spareBecomesAdjoined_31 (by decide) ?_
  refine lv_iload_n hx hb d_Rules_spareBecomesAdjoined_33 rfl (lv_at hl 2 rfl) ?_
  refine lv_iadd hx hb d_Rules_spareBecomesAdjoined_34 ?_
  obtain ⟨_, e18, hs⟩ := ob hs
  obtain ⟨q19, e20, hs⟩ := ob hs
  refine pg_callV C hw hl.1 ml_Rules_178 e18 (As := [.int (97 + x2)]) (rest := []) (c_Text_add l g L e20) rfl (rm_ok (Nat.le_of_ble_eq_true rfl) (Nat.le_of_ble_eq_true rfl)) (Nat.le_of_ble_eq_true rfl) rfl (st1 := []) rfl d_Rules_spareBecomesAdjoined_35 (fun H locs hw => ?_)
  refine lv_aload_n hx hb d_Rules_spareBecomesAdjoined_38 rfl (lv_at hl 0 rfl) ?_
  obtain ⟨v21, e22, hs⟩ := ob hs
  refine pg_getR C hw fl_Rules_12 e22 d_Rules_spareBecomesAdjoined_39 ?_
  refine lv_iconst (v := 0) hx hb d_Rules_spareBecomesAdjoined_42 (by decide) ?_
  refine lv_iconst (v := 3) hx hb d_Rules_spareBecomesAdjoined_43 (by decide) ?_
  obtain ⟨_, e23, hs⟩ := ob hs
  obtain ⟨q24, e25, hs⟩ := ob hs
  refine pg_callV C hw hl.1 ml_Rules_181 e23 (As := [.int 0, .int 3]) (rest := []) (c_Text_setEnd l g L e25) rfl (rm_ok (Nat.le_of_ble_eq_true rfl) (Nat.le_of_ble_eq_true rfl)) (Nat.le_of_ble_eq_true rfl) rfl (st1 := []) rfl d_Rules_spareBecomesAdjoined_44 (fun H locs hw => ?_)
  refine lv_aload_n hx hb d_Rules_spareBecomesAdjoined_47 rfl (lv_at hl 0 rfl) ?_
  obtain ⟨v26, e27, hs⟩ := ob hs
  refine pg_getR C hw fl_Rules_12 e27 d_Rules_spareBecomesAdjoined_48 ?_
  refine lv_iconst (v := 1) hx hb d_Rules_spareBecomesAdjoined_51 (by decide) ?_
  refine lv_iconst (v := 2) hx hb d_Rules_spareBecomesAdjoined_52 (by decide) ?_
  obtain ⟨_, e28, hs⟩ := ob hs
  obtain ⟨q29, e30, hs⟩ := ob hs
  refine pg_callV C hw hl.1 ml_Rules_181 e28 (As := [.int 1, .int 2]) (rest := []) (c_Text_setEnd l g L e30) rfl (rm_ok (Nat.le_of_ble_eq_true rfl) (Nat.le_of_ble_eq_true rfl)) (Nat.le_of_ble_eq_true rfl) rfl (st1 := []) rfl d_Rules_spareBecomesAdjoined_53 (fun H locs hw => ?_)
  refine lv_aload_n hx hb d_Rules_spareBecomesAdjoined_56 rfl (lv_at hl 0 rfl) ?_
  obtain ⟨v31, e32, hs⟩ := ob hs
  refine pg_getR C hw fl_Rules_12 e32 d_Rules_spareBecomesAdjoined_57 ?_
  refine lv_iconst (v := 2) hx hb d_Rules_spareBecomesAdjoined_60 (by decide) ?_
  refine lv_iconst (v := 3) hx hb d_Rules_spareBecomesAdjoined_61 (by decide) ?_
  obtain ⟨_, e33, hs⟩ := ob hs
  obtain ⟨q34, e35, hs⟩ := ob hs
  refine pg_callV C hw hl.1 ml_Rules_181 e33 (As := [.int 2, .int 3]) (rest := []) (c_Text_setEnd l g L e35) rfl (rm_ok (Nat.le_of_ble_eq_true rfl) (Nat.le_of_ble_eq_true rfl)) (Nat.le_of_ble_eq_true rfl) rfl (st1 := []) rfl d_Rules_spareBecomesAdjoined_62 (fun H locs hw => ?_)
  cases hs
  exact pg_vret C hw d_Rules_spareBecomesAdjoined_65

end
