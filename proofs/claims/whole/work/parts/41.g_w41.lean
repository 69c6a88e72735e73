section
variable {p : Program} {l : Launch} {e : Env} {s : State} {m : MethodId} {args : Array Value} {below : List Frame} {meth : Method} {c : Code} {g : GG}
theorem d_Rules_isReplacedBy_0 : decode b_Rules_isReplacedBy 0 = .ok (.aload_n 0, 1) := by decide +kernel
theorem d_Rules_isReplacedBy_1 : decode b_Rules_isReplacedBy 1 = .ok (.getfield 45, 3) := by decide +kernel
theorem d_Rules_isReplacedBy_4 : decode b_Rules_isReplacedBy 4 = .ok (.aload_n 0, 1) := by decide +kernel
theorem d_Rules_isReplacedBy_5 : decode b_Rules_isReplacedBy 5 = .ok (.getfield 29, 3) := by decide +kernel
theorem d_Rules_isReplacedBy_8 : decode b_Rules_isReplacedBy 8 = .ok (.aload_n 0, 1) := by decide +kernel
theorem d_Rules_isReplacedBy_9 : decode b_Rules_isReplacedBy 9 = .ok (.getfield 52, 3) := by decide +kernel
theorem d_Rules_isReplacedBy_12 : decode b_Rules_isReplacedBy 12 = .ok (.invokevirtual 127, 3) := by decide +kernel
theorem d_Rules_isReplacedBy_15 : decode b_Rules_isReplacedBy 15 = .ok (.aload_n 0, 1) := by decide +kernel
theorem d_Rules_isReplacedBy_16 : decode b_Rules_isReplacedBy 16 = .ok (.getfield 52, 3) := by decide +kernel
theorem d_Rules_isReplacedBy_19 : decode b_Rules_isReplacedBy 19 = .ok (.iload_n 1, 1) := by decide +kernel
theorem d_Rules_isReplacedBy_20 : decode b_Rules_isReplacedBy 20 = .ok (.invokevirtual 131, 3) := by decide +kernel
theorem d_Rules_isReplacedBy_23 : decode b_Rules_isReplacedBy 23 = .ok (.invokevirtual 135, 3) := by decide +kernel
theorem d_Rules_isReplacedBy_26 : decode b_Rules_isReplacedBy 26 = .ok (.aload_n 0, 1) := by decide +kernel
theorem d_Rules_isReplacedBy_27 : decode b_Rules_isReplacedBy 27 = .ok (.getfield 45, 3) := by decide +kernel
theorem d_Rules_isReplacedBy_30 : decode b_Rules_isReplacedBy 30 = .ok (.aload_n 0, 1) := by decide +kernel
theorem d_Rules_isReplacedBy_31 : decode b_Rules_isReplacedBy 31 = .ok (.getfield 29, 3) := by decide +kernel
theorem d_Rules_isReplacedBy_34 : decode b_Rules_isReplacedBy 34 = .ok (.aload_n 0, 1) := by decide +kernel
theorem d_Rules_isReplacedBy_35 : decode b_Rules_isReplacedBy 35 = .ok (.getfield 52, 3) := by decide +kernel
theorem d_Rules_isReplacedBy_38 : decode b_Rules_isReplacedBy 38 = .ok (.bipush 70, 2) := by decide +kernel
theorem d_Rules_isReplacedBy_40 : decode b_Rules_isReplacedBy 40 = .ok (.invokevirtual 131, 3) := by decide +kernel
theorem d_Rules_isReplacedBy_43 : decode b_Rules_isReplacedBy 43 = .ok (.aload_n 0, 1) := by decide +kernel
theorem d_Rules_isReplacedBy_44 : decode b_Rules_isReplacedBy 44 = .ok (.getfield 29, 3) := by decide +kernel
theorem d_Rules_isReplacedBy_47 : decode b_Rules_isReplacedBy 47 = .ok (.aload_n 0, 1) := by decide +kernel
theorem d_Rules_isReplacedBy_48 : decode b_Rules_isReplacedBy 48 = .ok (.getfield 52, 3) := by decide +kernel
theorem d_Rules_isReplacedBy_51 : decode b_Rules_isReplacedBy 51 = .ok (.bipush 71, 2) := by decide +kernel
theorem d_Rules_isReplacedBy_53 : decode b_Rules_isReplacedBy 53 = .ok (.invokevirtual 131, 3) := by decide +kernel
theorem d_Rules_isReplacedBy_56 : decode b_Rules_isReplacedBy 56 = .ok (.aload_n 0, 1) := by decide +kernel
theorem d_Rules_isReplacedBy_57 : decode b_Rules_isReplacedBy 57 = .ok (.getfield 52, 3) := by decide +kernel
theorem d_Rules_isReplacedBy_60 : decode b_Rules_isReplacedBy 60 = .ok (.bipush 71, 2) := by decide +kernel
theorem d_Rules_isReplacedBy_62 : decode b_Rules_isReplacedBy 62 = .ok (.invokevirtual 139, 3) := by decide +kernel
theorem d_Rules_isReplacedBy_65 : decode b_Rules_isReplacedBy 65 = .ok (.invokevirtual 142, 3) := by decide +kernel
theorem d_Rules_isReplacedBy_68 : decode b_Rules_isReplacedBy 68 = .ok (.ireturn, 1) := by decide +kernel
def s_Rules_isReplacedBy (x0 : Nat) (x1 : Int32) (h : HP) : Option (Int32 × HP) :=
  (gR h x0 7 4).bind fun v1 =>
  (gR h x0 7 0).bind fun v3 =>
  (gR h x0 7 5).bind fun v5 =>
  (kd v5 6).bind fun _ =>
  (s_Form_letter v5 h).bind fun q8 =>
  (gR h x0 7 5).bind fun v10 =>
  (kd v10 6).bind fun _ =>
  (s_Form_placeOf v10 x1 h).bind fun q13 =>
  (kd v1 5).bind fun _ =>
  (s_Replacement_beginWith v1 v3 q8 q13 h).bind fun q16 =>
  (gR q16 x0 7 4).bind fun v18 =>
  (gR q16 x0 7 0).bind fun v20 =>
  (gR q16 x0 7 5).bind fun v22 =>
  (kd v22 6).bind fun _ =>
  (s_Form_placeOf v22 70 q16).bind fun q25 =>
  (gR q16 x0 7 0).bind fun v27 =>
  (gR q16 x0 7 5).bind fun v29 =>
  (kd v29 6).bind fun _ =>
  (s_Form_placeOf v29 71 q16).bind fun q32 =>
  (gR q16 x0 7 5).bind fun v34 =>
  (kd v34 6).bind fun _ =>
  (s_Form_endOf v34 71 q16).bind fun q37 =>
  (kd v18 5).bind fun _ =>
  (s_Replacement_gives v18 v20 q25 v27 q32 q37 q16).bind fun q40 =>
  (zr q40.1).bind fun _ => some (q40.1, q40.2)
set_option maxHeartbeats 4000000 in
set_option maxRecDepth 100000 in
theorem c_Rules_isReplacedBy (l : Launch) (g : GG) {x0 : Nat} {x1 : Int32} {h : HP} {z : Int32 × HP} (hs : s_Rules_isReplacedBy x0 x1 h = some z) : Ct l g y_Rules_isReplacedBy w_Rules_isReplacedBy (rmS 33 934) [.ref (aD g x0), .int x1] h (some (.int z.1)) z.2 := by
  refine Ct.of (own := R_Rules) (by decide) rfl rfl (Nat.le_of_ble_eq_true rfl) ?_
  intro p e s m args below meth c ls C hl hw
  have hx := C.1
  have hb := C.2.1
  have hl : lv_has ls 2 [(0, .ref (aD g x0)), (1, .int x1)] := hl
  unfold s_Rules_isReplacedBy at hs
  refine lv_aload_n hx hb d_Rules_isReplacedBy_0 rfl (lv_at hl 0 rfl) ?_
  obtain ⟨v1, e2, hs⟩ := ob hs
  refine pg_getR C hw fl_Rules_45 e2 d_Rules_isReplacedBy_1 ?_
  refine lv_aload_n hx hb d_Rules_isReplacedBy_4 rfl (lv_at hl 0 rfl) ?_
  obtain ⟨v3, e4, hs⟩ := ob hs
  refine pg_getR C hw fl_Rules_29 e4 d_Rules_isReplacedBy_5 ?_
  refine lv_aload_n hx hb d_Rules_isReplacedBy_8 rfl (lv_at hl 0 rfl) ?_
  obtain ⟨v5, e6, hs⟩ := ob hs
  refine pg_getR C hw fl_Rules_52 e6 d_Rules_isReplacedBy_9 ?_
  obtain ⟨_, e7, hs⟩ := ob hs
  obtain ⟨q8, e9, hs⟩ := ob hs
  refine pg_callV C hw hl.1 ml_Rules_127 e7 (As := []) (rest := [.ref (aD g v3), .ref (aD g v1)]) (c_Form_letter l g e9) rfl (rm_ok (Nat.le_of_ble_eq_true rfl) (Nat.le_of_ble_eq_true rfl)) (Nat.le_of_ble_eq_true rfl) rfl (st1 := [.int q8, .ref (aD g v3), .ref (aD g v1)]) rfl d_Rules_isReplacedBy_12 (fun H locs hw => ?_)
  refine lv_aload_n hx hb d_Rules_isReplacedBy_15 rfl (lv_at hl 0 rfl) ?_
  obtain ⟨v10, e11, hs⟩ := ob hs
  refine pg_getR C hw fl_Rules_52 e11 d_Rules_isReplacedBy_16 ?_
  refine lv_iload_n hx hb d_Rules_isReplacedBy_19 rfl (lv_at hl 1 rfl) ?_
  obtain ⟨_, e12, hs⟩ := ob hs
  obtain ⟨q13, e14, hs⟩ := ob hs
  refine pg_callV C hw hl.1 ml_Rules_131 e12 (As := [.int x1]) (rest := [.int q8, .ref (aD g v3), .ref (aD g v1)]) (c_Form_placeOf l g e14) rfl (rm_ok (Nat.le_of_ble_eq_true rfl) (Nat.le_of_ble_eq_true rfl)) (Nat.le_of_ble_eq_true rfl) rfl (st1 := [.int q13, .int q8, .ref (aD g v3), .ref (aD g v1)]) rfl d_Rules_isReplacedBy_20 (fun H locs hw => ?_)
  obtain ⟨_, e15, hs⟩ := ob hs
  obtain ⟨q16, e17, hs⟩ := ob hs
  refine pg_callV C hw hl.1 ml_Rules_135 e15 (As := [.ref (aD g v3), .int q8, .int q13]) (rest := []) (c_Replacement_beginWith l g e17) rfl (rm_ok (Nat.le_of_ble_eq_true rfl) (Nat.le_of_ble_eq_true rfl)) (Nat.le_of_ble_eq_true rfl) rfl (st1 := []) rfl d_Rules_isReplacedBy_23 (fun H locs hw => ?_)
  refine lv_aload_n hx hb d_Rules_isReplacedBy_26 rfl (lv_at hl 0 rfl) ?_
  obtain ⟨v18, e19, hs⟩ := ob hs
  refine pg_getR C hw fl_Rules_45 e19 d_Rules_isReplacedBy_27 ?_
  refine lv_aload_n hx hb d_Rules_isReplacedBy_30 rfl (lv_at hl 0 rfl) ?_
  obtain ⟨v20, e21, hs⟩ := ob hs
  refine pg_getR C hw fl_Rules_29 e21 d_Rules_isReplacedBy_31 ?_
  refine lv_aload_n hx hb d_Rules_isReplacedBy_34 rfl (lv_at hl 0 rfl) ?_
  obtain ⟨v22, e23, hs⟩ := ob hs
  refine pg_getR C hw fl_Rules_52 e23 d_Rules_isReplacedBy_35 ?_
  refine lv_bipush (v := 70) hx hb d_Rules_isReplacedBy_38 (by decide) ?_
  obtain ⟨_, e24, hs⟩ := ob hs
  obtain ⟨q25, e26, hs⟩ := ob hs
  refine pg_callV C hw hl.1 ml_Rules_131 e24 (As := [.int 70]) (rest := [.ref (aD g v20), .ref (aD g v18)]) (c_Form_placeOf l g e26) rfl (rm_ok (Nat.le_of_ble_eq_true rfl) (Nat.le_of_ble_eq_true rfl)) (Nat.le_of_ble_eq_true rfl) rfl (st1 := [.int q25, .ref (aD g v20), .ref (aD g v18)]) rfl d_Rules_isReplacedBy_40 (fun H locs hw => ?_)
  refine lv_aload_n hx hb d_Rules_isReplacedBy_43 rfl (lv_at hl 0 rfl) ?_
  obtain ⟨v27, e28, hs⟩ := ob hs
  refine pg_getR C hw fl_Rules_29 e28 d_Rules_isReplacedBy_44 ?_
  refine lv_aload_n hx hb d_Rules_isReplacedBy_47 rfl (lv_at hl 0 rfl) ?_
  obtain ⟨v29, e30, hs⟩ := ob hs
  refine pg_getR C hw fl_Rules_52 e30 d_Rules_isReplacedBy_48 ?_
  refine lv_bipush (v := 71) hx hb d_Rules_isReplacedBy_51 (by decide) ?_
  obtain ⟨_, e31, hs⟩ := ob hs
  obtain ⟨q32, e33, hs⟩ := ob hs
  refine pg_callV C hw hl.1 ml_Rules_131 e31 (As := [.int 71]) (rest := [.ref (aD g v27), .int q25, .ref (aD g v20), .ref (aD g v18)]) (c_Form_placeOf l g e33) rfl (rm_ok (Nat.le_of_ble_eq_true rfl) (Nat.le_of_ble_eq_true rfl)) (Nat.le_of_ble_eq_true rfl) rfl (st1 := [.int q32, .ref (aD g v27), .int q25, .ref (aD g v20), .ref (aD g v18)]) rfl d_Rules_isReplacedBy_53 (fun H locs hw => ?_)
  refine lv_aload_n hx hb d_Rules_isReplacedBy_56 rfl (lv_at hl 0 rfl) ?_
  obtain ⟨v34, e35, hs⟩ := ob hs
  refine pg_getR C hw fl_Rules_52 e35 d_Rules_isReplacedBy_57 ?_
  refine lv_bipush (v := 71) hx hb d_Rules_isReplacedBy_60 (by decide) ?_
  obtain ⟨_, e36, hs⟩ := ob hs
  obtain ⟨q37, e38, hs⟩ := ob hs
  refine pg_callV C hw hl.1 ml_Rules_139 e36 (As := [.int 71]) (rest := [.int q32, .ref (aD g v27), .int q25, .ref (aD g v20), .ref (aD g v18)]) (c_Form_endOf l g e38) rfl (rm_ok (Nat.le_of_ble_eq_true rfl) (Nat.le_of_ble_eq_true rfl)) (Nat.le_of_ble_eq_true rfl) rfl (st1 := [.int q37, .int q32, .ref (aD g v27), .int q25, .ref (aD g v20), .ref (aD g v18)]) rfl d_Rules_isReplacedBy_62 (fun H locs hw => ?_)
  obtain ⟨_, e39, hs⟩ := ob hs
  obtain ⟨q40, e41, hs⟩ := ob hs
  refine pg_callV C hw hl.1 ml_Rules_142 e39 (As := [.ref (aD g v20), .int q25, .ref (aD g v27), .int q32, .int q37]) (rest := []) (c_Replacement_gives l g e41) rfl (rm_ok (Nat.le_of_ble_eq_true rfl) (Nat.le_of_ble_eq_true rfl)) (Nat.le_of_ble_eq_true rfl) rfl (st1 := [.int q40.1]) rfl d_Rules_isReplacedBy_65 (fun H locs hw => ?_)
  obtain ⟨_, e42, hs⟩ := ob hs
  obtain rfl := Option.some.inj hs
  exact pg_zret (v := q40.1) C hw (zr_n e42) d_Rules_isReplacedBy_68

end
section
variable {p : Program} {l : Launch} {e : Env} {s : State} {m : MethodId} {args : Array Value} {below : List Frame} {meth : Method} {c : Code} {g : GG}
theorem d_Rules_isDetached_0 : decode b_Rules_isDetached 0 = .ok (.iconst 1, 1) := by decide +kernel
theorem d_Rules_isDetached_1 : decode b_Rules_isDetached 1 = .ok (.aload_n 1, 1) := by decide +kernel
theorem d_Rules_isDetached_2 : decode b_Rules_isDetached 2 = .ok (.invokevirtual 146, 3) := by decide +kernel
theorem d_Rules_isDetached_5 : decode b_Rules_isDetached 5 = .ok (.iadd, 1) := by decide +kernel
theorem d_Rules_isDetached_6 : decode b_Rules_isDetached 6 = .ok (.istore_n 3, 1) := by decide +kernel
theorem d_Rules_isDetached_7 : decode b_Rules_isDetached 7 = .ok (.aload_n 2, 1) := by decide +kernel
theorem d_Rules_isDetached_8 : decode b_Rules_isDetached 8 = .ok (.invokevirtual 146, 3) := by decide +kernel
theorem d_Rules_isDetached_11 : decode b_Rules_isDetached 11 = .ok (.iload_n 3, 1) := by decide +kernel
theorem d_Rules_isDetached_12 : decode b_Rules_isDetached 12 = .ok (.aload_n 0, 1) := by decide +kernel
theorem d_Rules_isDetached_13 : decode b_Rules_isDetached 13 = .ok (.getfield 29, 3) := by decide +kernel
theorem d_Rules_isDetached_16 : decode b_Rules_isDetached 16 = .ok (.invokevirtual 146, 3) := by decide +kernel
theorem d_Rules_isDetached_19 : decode b_Rules_isDetached 19 = .ok (.iadd, 1) := by decide +kernel
theorem d_Rules_isDetached_20 : decode b_Rules_isDetached 20 = .ok (.if_icmp .ne 51, 3) := by decide +kernel
theorem d_Rules_isDetached_23 : decode b_Rules_isDetached 23 = .ok (.aload_n 2, 1) := by decide +kernel
theorem d_Rules_isDetached_24 : decode b_Rules_isDetached 24 = .ok (.iconst 0, 1) := by decide +kernel
theorem d_Rules_isDetached_25 : decode b_Rules_isDetached 25 = .ok (.invokevirtual 149, 3) := by decide +kernel
theorem d_Rules_isDetached_28 : decode b_Rules_isDetached 28 = .ok (.bipush 62, 2) := by decide +kernel
theorem d_Rules_isDetached_30 : decode b_Rules_isDetached 30 = .ok (.if_icmp .ne 41, 3) := by decide +kernel
theorem d_Rules_isDetached_33 : decode b_Rules_isDetached 33 = .ok (.aload_n 2, 1) := by decide +kernel
theorem d_Rules_isDetached_34 : decode b_Rules_isDetached 34 = .ok (.iconst 1, 1) := by decide +kernel
theorem d_Rules_isDetached_35 : decode b_Rules_isDetached 35 = .ok (.aload_n 1, 1) := by decide +kernel
theorem d_Rules_isDetached_36 : decode b_Rules_isDetached 36 = .ok (.iconst 0, 1) := by decide +kernel
theorem d_Rules_isDetached_37 : decode b_Rules_isDetached 37 = .ok (.aload_n 1, 1) := by decide +kernel
theorem d_Rules_isDetached_38 : decode b_Rules_isDetached 38 = .ok (.invokevirtual 146, 3) := by decide +kernel
theorem d_Rules_isDetached_41 : decode b_Rules_isDetached 41 = .ok (.invokevirtual 153, 3) := by decide +kernel
theorem d_Rules_isDetached_44 : decode b_Rules_isDetached 44 = .ok (.ifCond .eq 27, 3) := by decide +kernel
theorem d_Rules_isDetached_47 : decode b_Rules_isDetached 47 = .ok (.aload_n 2, 1) := by decide +kernel
theorem d_Rules_isDetached_48 : decode b_Rules_isDetached 48 = .ok (.iload_n 3, 1) := by decide +kernel
theorem d_Rules_isDetached_49 : decode b_Rules_isDetached 49 = .ok (.aload_n 0, 1) := by decide +kernel
theorem d_Rules_isDetached_50 : decode b_Rules_isDetached 50 = .ok (.getfield 29, 3) := by decide +kernel
theorem d_Rules_isDetached_53 : decode b_Rules_isDetached 53 = .ok (.iconst 0, 1) := by decide +kernel
theorem d_Rules_isDetached_54 : decode b_Rules_isDetached 54 = .ok (.aload_n 0, 1) := by decide +kernel
theorem d_Rules_isDetached_55 : decode b_Rules_isDetached 55 = .ok (.getfield 29, 3) := by decide +kernel
theorem d_Rules_isDetached_58 : decode b_Rules_isDetached 58 = .ok (.invokevirtual 146, 3) := by decide +kernel
theorem d_Rules_isDetached_61 : decode b_Rules_isDetached 61 = .ok (.invokevirtual 153, 3) := by decide +kernel
theorem d_Rules_isDetached_64 : decode b_Rules_isDetached 64 = .ok (.ifCond .eq 7, 3) := by decide +kernel
theorem d_Rules_isDetached_67 : decode b_Rules_isDetached 67 = .ok (.iconst 1, 1) := by decide +kernel
theorem d_Rules_isDetached_68 : decode b_Rules_isDetached 68 = .ok (.goto 4, 3) := by decide +kernel
theorem d_Rules_isDetached_71 : decode b_Rules_isDetached 71 = .ok (.iconst 0, 1) := by decide +kernel
theorem d_Rules_isDetached_72 : decode b_Rules_isDetached 72 = .ok (.ireturn, 1) := by decide +kernel
def s_Rules_isDetached (x0 : Nat) (x1 : Nat) (x2 : Nat) (h : HP) : Option (Int32) :=
  (kd x1 0).bind fun _ =>
  (s_Text_length x1 h).bind fun q2 =>
  (kd x2 0).bind fun _ =>
  (s_Text_length x2 h).bind fun q5 =>
  (gR h x0 7 0).bind fun v7 =>
  (kd v7 0).bind fun _ =>
  (s_Text_length v7 h).bind fun q10 =>
  if q5 = ((1 + q2) + q10) then (
    (kd x2 0).bind fun _ =>
    (s_Text_at x2 0 h).bind fun q14 =>
    if q14 = 62 then (
      (kd x1 0).bind fun _ =>
      (s_Text_length x1 h).bind fun q18 =>
      (kd x2 0).bind fun _ =>
      (s_Text_has x2 1 x1 0 q18 h).bind fun q21 =>
      if q21 = 0 then (
        some 0)
      else (
        (gR h x0 7 0).bind fun v24 =>
        (gR h x0 7 0).bind fun v26 =>
        (kd v26 0).bind fun _ =>
        (s_Text_length v26 h).bind fun q29 =>
        (kd x2 0).bind fun _ =>
        (s_Text_has x2 (1 + q2) v24 0 q29 h).bind fun q32 =>
        if q32 = 0 then (
          some 0)
        else (
          some 1)))
    else (
      some 0))
  else (
    some 0)
set_option maxHeartbeats 4000000 in
set_option maxRecDepth 100000 in
theorem c_Rules_isDetached (l : Launch) (g : GG) {h : HP} {x0 : Nat} {x1 : Nat} {x2 : Nat} {z : Int32} (hs : s_Rules_isDetached x0 x1 x2 h = some z) : Ct l g y_Rules_isDetached w_Rules_isDetached (rmS 2 47) [.ref (aD g x0), .ref (aD g x1), .ref (aD g x2)] h (some (.int z)) h := by
  refine Ct.of (own := R_Rules) (by decide) rfl rfl (Nat.le_of_ble_eq_true rfl) ?_
  intro p e s m args below meth c ls C hl hw
  have hx := C.1
  have hb := C.2.1
  have hl : lv_has ls 4 [(0, .ref (aD g x0)), (1, .ref (aD g x1)), (2, .ref (aD g x2))] := hl
  unfold s_Rules_isDetached at hs
  refine lv_iconst (v := 1) hx hb d_Rules_isDetached_0 (by decide) ?_
  refine lv_aload_n hx hb d_Rules_isDetached_1 rfl (lv_at hl 1 rfl) ?_
  obtain ⟨_, e1, hs⟩ := ob hs
  obtain ⟨q2, e3, hs⟩ := ob hs
  refine pg_callV C hw hl.1 ml_Rules_146 e1 (As := []) (rest := [.int 1]) (c_Text_length l g e3) rfl (rm_ok (Nat.le_of_ble_eq_true rfl) (Nat.le_of_ble_eq_true rfl)) (Nat.le_of_ble_eq_true rfl) rfl (st1 := [.int q2, .int 1]) rfl d_Rules_isDetached_2 (fun H locs hw => ?_)
  refine lv_iadd hx hb d_Rules_isDetached_5 ?_
  refine lv_istore_n hx hb d_Rules_isDetached_6 rfl hl (by decide) (lv' := [(3, .int (1 + q2)), (0, .ref (aD g x0)), (1, .ref (aD g x1)), (2, .ref (aD g x2))]) rfl (fun ls hl => ?_)
  refine lv_aload_n hx hb d_Rules_isDetached_7 rfl (lv_at hl 3 rfl) ?_
  obtain ⟨_, e4, hs⟩ := ob hs
  obtain ⟨q5, e6, hs⟩ := ob hs
  refine pg_callV C hw hl.1 ml_Rules_146 e4 (As := []) (rest := []) (c_Text_length l g e6) rfl (rm_ok (Nat.le_of_ble_eq_true rfl) (Nat.le_of_ble_eq_true rfl)) (Nat.le_of_ble_eq_true rfl) rfl (st1 := [.int q5]) rfl d_Rules_isDetached_8 (fun H locs hw => ?_)
  refine lv_iload_n hx hb d_Rules_isDetached_11 rfl (lv_at hl 0 rfl) ?_
  refine lv_aload_n hx hb d_Rules_isDetached_12 rfl (lv_at hl 1 rfl) ?_
  obtain ⟨v7, e8, hs⟩ := ob hs
  refine pg_getR C hw fl_Rules_29 e8 d_Rules_isDetached_13 ?_
  obtain ⟨_, e9, hs⟩ := ob hs
  obtain ⟨q10, e11, hs⟩ := ob hs
  refine pg_callV C hw hl.1 ml_Rules_146 e9 (As := []) (rest := [.int (1 + q2), .int q5]) (c_Text_length l g e11) rfl (rm_ok (Nat.le_of_ble_eq_true rfl) (Nat.le_of_ble_eq_true rfl)) (Nat.le_of_ble_eq_true rfl) rfl (st1 := [.int q10, .int (1 + q2), .int q5]) rfl d_Rules_isDetached_16 (fun H locs hw => ?_)
  refine lv_iadd hx hb d_Rules_isDetached_19 ?_
  refine lv_icmp_ne hx hb d_Rules_isDetached_20 (tgt := 71) (by decide) (fun hc => ?_) (fun hc => ?_)
  · have hs := oi_f hc hs
    refine lv_iconst (v := 0) hx hb d_Rules_isDetached_71 (by decide) ?_
    obtain rfl := Option.some.inj hs
    exact pg_zret (v := 0) C hw rfl d_Rules_isDetached_72
  · have hs := oi_t hc hs
    refine lv_aload_n hx hb d_Rules_isDetached_23 rfl (lv_at hl 3 rfl) ?_
    refine lv_iconst (v := 0) hx hb d_Rules_isDetached_24 (by decide) ?_
    obtain ⟨_, e13, hs⟩ := ob hs
    obtain ⟨q14, e15, hs⟩ := ob hs
    refine pg_callV C hw hl.1 ml_Rules_149 e13 (As := [.int 0]) (rest := []) (c_Text_at l g e15) rfl (rm_ok (Nat.le_of_ble_eq_true rfl) (Nat.le_of_ble_eq_true rfl)) (Nat.le_of_ble_eq_true rfl) rfl (st1 := [.int q14]) rfl d_Rules_isDetached_25 (fun H locs hw => ?_)
    refine lv_bipush (v := 62) hx hb d_Rules_isDetached_28 (by decide) ?_
    refine lv_icmp_ne hx hb d_Rules_isDetached_30 (tgt := 71) (by decide) (fun hc => ?_) (fun hc => ?_)
    · have hs := oi_f hc hs
      refine lv_iconst (v := 0) hx hb d_Rules_isDetached_71 (by decide) ?_
      obtain rfl := Option.some.inj hs
      exact pg_zret (v := 0) C hw rfl d_Rules_isDetached_72
    · have hs := oi_t hc hs
      refine lv_aload_n hx hb d_Rules_isDetached_33 rfl (lv_at hl 3 rfl) ?_
      refine lv_iconst (v := 1) hx hb d_Rules_isDetached_34 (by decide) ?_
      refine lv_aload_n hx hb d_Rules_isDetached_35 rfl (lv_at hl 2 rfl) ?_
      refine lv_iconst (v := 0) hx hb d_Rules_isDetached_36 (by decide) ?_
      refine lv_aload_n hx hb d_Rules_isDetached_37 rfl (lv_at hl 2 rfl) ?_
      obtain ⟨_, e17, hs⟩ := ob hs
      obtain ⟨q18, e19, hs⟩ := ob hs
      refine pg_callV C hw hl.1 ml_Rules_146 e17 (As := []) (rest := [.int 0, .ref (aD g x1), .int 1, .ref (aD g x2)]) (c_Text_length l g e19) rfl (rm_ok (Nat.le_of_ble_eq_true rfl) (Nat.le_of_ble_eq_true rfl)) (Nat.le_of_ble_eq_true rfl) rfl (st1 := [.int q18, .int 0, .ref (aD g x1), .int 1, .ref (aD g x2)]) rfl d_Rules_isDetached_38 (fun H locs hw => ?_)
      obtain ⟨_, e20, hs⟩ := ob hs
      obtain ⟨q21, e22, hs⟩ := ob hs
      refine pg_callV C hw hl.1 ml_Rules_153 e20 (As := [.int 1, .ref (aD g x1), .int 0, .int q18]) (rest := []) (c_Text_has l g e22) rfl (rm_ok (Nat.le_of_ble_eq_true rfl) (Nat.le_of_ble_eq_true rfl)) (Nat.le_of_ble_eq_true rfl) rfl (st1 := [.int q21]) rfl d_Rules_isDetached_41 (fun H locs hw => ?_)
      refine lv_if_eq hx hb d_Rules_isDetached_44 (tgt := 71) (by decide) (fun hc => ?_) (fun hc => ?_)
      · have hs := oi_t hc hs
        refine lv_iconst (v := 0) hx hb d_Rules_isDetached_71 (by decide) ?_
        obtain rfl := Option.some.inj hs
        exact pg_zret (v := 0) C hw rfl d_Rules_isDetached_72
      · have hs := oi_f hc hs
        refine lv_aload_n hx hb d_Rules_isDetached_47 rfl (lv_at hl 3 rfl) ?_
        refine lv_iload_n hx hb d_Rules_isDetached_48 rfl (lv_at hl 0 rfl) ?_
        refine lv_aload_n hx hb d_Rules_isDetached_49 rfl (lv_at hl 1 rfl) ?_
        obtain ⟨v24, e25, hs⟩ := ob hs
        refine pg_getR C hw fl_Rules_29 e25 d_Rules_isDetached_50 ?_
        refine lv_iconst (v := 0) hx hb d_Rules_isDetached_53 (by decide) ?_
        refine lv_aload_n hx hb d_Rules_isDetached_54 rfl (lv_at hl 1 rfl) ?_
        obtain ⟨v26, e27, hs⟩ := ob hs
        refine pg_getR C hw fl_Rules_29 e27 d_Rules_isDetached_55 ?_
        obtain ⟨_, e28, hs⟩ := ob hs
        obtain ⟨q29, e30, hs⟩ := ob hs
        refine pg_callV C hw hl.1 ml_Rules_146 e28 (As := []) (rest := [.int 0, .ref (aD g v24), .int (1 + q2), .ref (aD g x2)]) (c_Text_length l g e30) rfl (rm_ok (Nat.le_of_ble_eq_true rfl) (Nat.le_of_ble_eq_true rfl)) (Nat.le_of_ble_eq_true rfl) rfl (st1 := [.int q29, .int 0, .ref (aD g v24), .int (1 + q2), .ref (aD g x2)]) rfl d_Rules_isDetached_58 (fun H locs hw => ?_)
        obtain ⟨_, e31, hs⟩ := ob hs
        obtain ⟨q32, e33, hs⟩ := ob hs
        refine pg_callV C hw hl.1 ml_Rules_153 e31 (As := [.int (1 + q2), .ref (aD g v24), .int 0, .int q29]) (rest := []) (c_Text_has l g e33) rfl (rm_ok (Nat.le_of_ble_eq_true rfl) (Nat.le_of_ble_eq_true rfl)) (Nat.le_of_ble_eq_true rfl) rfl (st1 := [.int q32]) rfl d_Rules_isDetached_61 (fun H locs hw => ?_)
        refine lv_if_eq hx hb d_Rules_isDetached_64 (tgt := 71) (by decide) (fun hc => ?_) (fun hc => ?_)
        · have hs := oi_t hc hs
          refine lv_iconst (v := 0) hx hb d_Rules_isDetached_71 (by decide) ?_
          obtain rfl := Option.some.inj hs
          exact pg_zret (v := 0) C hw rfl d_Rules_isDetached_72
        · have hs := oi_f hc hs
          refine lv_iconst (v := 1) hx hb d_Rules_isDetached_67 (by decide) ?_
          refine lv_goto hx hb d_Rules_isDetached_68 (tgt := 72) (by decide) ?_
          obtain rfl := Option.some.inj hs
          exact pg_zret (v := 1) C hw rfl d_Rules_isDetached_72

end
section
variable {p : Program} {l : Launch} {e : Env} {s : State} {m : MethodId} {args : Array Value} {below : List Frame} {meth : Method} {c : Code} {g : GG}
theorem d_Replacement_seek_0 : decode b_Replacement_seek 0 = .ok (.aload_n 0, 1) := by decide +kernel
theorem d_Replacement_seek_1 : decode b_Replacement_seek 1 = .ok (.iload_n 1, 1) := by decide +kernel
theorem d_Replacement_seek_2 : decode b_Replacement_seek 2 = .ok (.bipush (-2), 2) := by decide +kernel
theorem d_Replacement_seek_4 : decode b_Replacement_seek 4 = .ok (.invokevirtual 33, 3) := by decide +kernel
theorem d_Replacement_seek_7 : decode b_Replacement_seek 7 = .ok (.return_, 1) := by decide +kernel
def s_Replacement_seek (x0 : Nat) (x1 : Int32) (h : HP) : Option (HP) :=
  (kd x0 5).bind fun _ =>
  (s_Replacement_put x0 x1 (-2) h).bind fun q2 =>
  some q2
set_option maxHeartbeats 4000000 in
set_option maxRecDepth 100000 in
theorem c_Replacement_seek (l : Launch) (g : GG) {x0 : Nat} {x1 : Int32} {h : HP} {z : HP} (hs : s_Replacement_seek x0 x1 h = some z) : Ct l g y_Replacement_seek w_Replacement_seek (rmS 1 22) [.ref (aD g x0), .int x1] h none z := by
  refine Ct.of (own := R_Replacement) (by decide) rfl rfl (Nat.le_of_ble_eq_true rfl) ?_
  intro p e s m args below meth c ls C hl hw
  have hx := C.1
  have hb := C.2.1
  have hl : lv_has ls 2 [(0, .ref (aD g x0)), (1, .int x1)] := hl
  unfold s_Replacement_seek at hs
  refine lv_aload_n hx hb d_Replacement_seek_0 rfl (lv_at hl 0 rfl) ?_
  refine lv_iload_n hx hb d_Replacement_seek_1 rfl (lv_at hl 1 rfl) ?_
  refine lv_bipush (v := (-2)) hx hb d_Replacement_seek_2 (by decide) ?_
  obtain ⟨_, e1, hs⟩ := ob hs
  obtain ⟨q2, e3, hs⟩ := ob hs
  refine pg_callV C hw hl.1 ml_Replacement_33 e1 (As := [.int x1, .int (-2)]) (rest := []) (c_Replacement_put l g e3) rfl (rm_ok (Nat.le_of_ble_eq_true rfl) (Nat.le_of_ble_eq_true rfl)) (Nat.le_of_ble_eq_true rfl) rfl (st1 := []) rfl d_Replacement_seek_4 (fun H locs hw => ?_)
  obtain rfl := Option.some.inj hs
  exact pg_vret C hw d_Replacement_seek_7

end
section
variable {p : Program} {l : Launch} {e : Env} {s : State} {m : MethodId} {args : Array Value} {below : List Frame} {meth : Method} {c : Code} {g : GG}
theorem d_Rules_isInstanceOf_0 : decode b_Rules_isInstanceOf 0 = .ok (.aload_n 0, 1) := by decide +kernel
theorem d_Rules_isInstanceOf_1 : decode b_Rules_isInstanceOf 1 = .ok (.getfield 45, 3) := by decide +kernel
theorem d_Rules_isInstanceOf_4 : decode b_Rules_isInstanceOf 4 = .ok (.aload_n 0, 1) := by decide +kernel
theorem d_Rules_isInstanceOf_5 : decode b_Rules_isInstanceOf 5 = .ok (.getfield 29, 3) := by decide +kernel
theorem d_Rules_isInstanceOf_8 : decode b_Rules_isInstanceOf 8 = .ok (.invokevirtual 157, 3) := by decide +kernel
theorem d_Rules_isInstanceOf_11 : decode b_Rules_isInstanceOf 11 = .ok (.aload_n 0, 1) := by decide +kernel
theorem d_Rules_isInstanceOf_12 : decode b_Rules_isInstanceOf 12 = .ok (.getfield 45, 3) := by decide +kernel
theorem d_Rules_isInstanceOf_15 : decode b_Rules_isInstanceOf 15 = .ok (.iload_n 2, 1) := by decide +kernel
theorem d_Rules_isInstanceOf_16 : decode b_Rules_isInstanceOf 16 = .ok (.invokevirtual 160, 3) := by decide +kernel
theorem d_Rules_isInstanceOf_19 : decode b_Rules_isInstanceOf 19 = .ok (.aload_n 0, 1) := by decide +kernel
theorem d_Rules_isInstanceOf_20 : decode b_Rules_isInstanceOf 20 = .ok (.getfield 45, 3) := by decide +kernel
theorem d_Rules_isInstanceOf_23 : decode b_Rules_isInstanceOf 23 = .ok (.aload_n 1, 1) := by decide +kernel
theorem d_Rules_isInstanceOf_24 : decode b_Rules_isInstanceOf 24 = .ok (.iconst 0, 1) := by decide +kernel
theorem d_Rules_isInstanceOf_25 : decode b_Rules_isInstanceOf 25 = .ok (.aload_n 0, 1) := by decide +kernel
theorem d_Rules_isInstanceOf_26 : decode b_Rules_isInstanceOf 26 = .ok (.getfield 29, 3) := by decide +kernel
theorem d_Rules_isInstanceOf_29 : decode b_Rules_isInstanceOf 29 = .ok (.iconst 0, 1) := by decide +kernel
theorem d_Rules_isInstanceOf_30 : decode b_Rules_isInstanceOf 30 = .ok (.aload_n 0, 1) := by decide +kernel
theorem d_Rules_isInstanceOf_31 : decode b_Rules_isInstanceOf 31 = .ok (.getfield 29, 3) := by decide +kernel
theorem d_Rules_isInstanceOf_34 : decode b_Rules_isInstanceOf 34 = .ok (.invokevirtual 146, 3) := by decide +kernel
theorem d_Rules_isInstanceOf_37 : decode b_Rules_isInstanceOf 37 = .ok (.invokevirtual 142, 3) := by decide +kernel
theorem d_Rules_isInstanceOf_40 : decode b_Rules_isInstanceOf 40 = .ok (.ireturn, 1) := by decide +kernel
def s_Rules_isInstanceOf (x0 : Nat) (x1 : Nat) (x2 : Int32) (h : HP) : Option (Int32 × HP) :=
  (gR h x0 7 4).bind fun v1 =>
  (gR h x0 7 0).bind fun v3 =>
  (kd v1 5).bind fun _ =>
  (s_Replacement_begin v1 v3 h).bind fun q6 =>
  (gR q6 x0 7 4).bind fun v8 =>
  (kd v8 5).bind fun _ =>
  (s_Replacement_seek v8 x2 q6).bind fun q11 =>
  (gR q11 x0 7 4).bind fun v13 =>
  (gR q11 x0 7 0).bind fun v15 =>
  (gR q11 x0 7 0).bind fun v17 =>
  (kd v17 0).bind fun _ =>
  (s_Text_length v17 q11).bind fun q20 =>
  (kd v13 5).bind fun _ =>
  (s_Replacement_gives v13 x1 0 v15 0 q20 q11).bind fun q23 =>
  (zr q23.1).bind fun _ => some (q23.1, q23.2)
set_option maxHeartbeats 4000000 in
set_option maxRecDepth 100000 in
theorem c_Rules_isInstanceOf (l : Launch) (g : GG) {x0 : Nat} {x1 : Nat} {x2 : Int32} {h : HP} {z : Int32 × HP} (hs : s_Rules_isInstanceOf x0 x1 x2 h = some z) : Ct l g y_Rules_isInstanceOf w_Rules_isInstanceOf (rmS 33 934) [.ref (aD g x0), .ref (aD g x1), .int x2] h (some (.int z.1)) z.2 := by
  refine Ct.of (own := R_Rules) (by decide) rfl rfl (Nat.le_of_ble_eq_true rfl) ?_
  intro p e s m args below meth c ls C hl hw
  have hx := C.1
  have hb := C.2.1
  have hl : lv_has ls 3 [(0, .ref (aD g x0)), (1, .ref (aD g x1)), (2, .int x2)] := hl
  unfold s_Rules_isInstanceOf at hs
  refine lv_aload_n hx hb d_Rules_isInstanceOf_0 rfl (lv_at hl 0 rfl) ?_
  obtain ⟨v1, e2, hs⟩ := ob hs
  refine pg_getR C hw fl_Rules_45 e2 d_Rules_isInstanceOf_1 ?_
  refine lv_aload_n hx hb d_Rules_isInstanceOf_4 rfl (lv_at hl 0 rfl) ?_
  obtain ⟨v3, e4, hs⟩ := ob hs
  refine pg_getR C hw fl_Rules_29 e4 d_Rules_isInstanceOf_5 ?_
  obtain ⟨_, e5, hs⟩ := ob hs
  obtain ⟨q6, e7, hs⟩ := ob hs
  refine pg_callV C hw hl.1 ml_Rules_157 e5 (As := [.ref (aD g v3)]) (rest := []) (c_Replacement_begin l g e7) rfl (rm_ok (Nat.le_of_ble_eq_true rfl) (Nat.le_of_ble_eq_true rfl)) (Nat.le_of_ble_eq_true rfl) rfl (st1 := []) rfl d_Rules_isInstanceOf_8 (fun H locs hw => ?_)
  refine lv_aload_n hx hb d_Rules_isInstanceOf_11 rfl (lv_at hl 0 rfl) ?_
  obtain ⟨v8, e9, hs⟩ := ob hs
  refine pg_getR C hw fl_Rules_45 e9 d_Rules_isInstanceOf_12 ?_
  refine lv_iload_n hx hb d_Rules_isInstanceOf_15 rfl (lv_at hl 2 rfl) ?_
  obtain ⟨_, e10, hs⟩ := ob hs
  obtain ⟨q11, e12, hs⟩ := ob hs
  refine pg_callV C hw hl.1 ml_Rules_160 e10 (As := [.int x2]) (rest := []) (c_Replacement_seek l g e12) rfl (rm_ok (Nat.le_of_ble_eq_true rfl) (Nat.le_of_ble_eq_true rfl)) (Nat.le_of_ble_eq_true rfl) rfl (st1 := []) rfl d_Rules_isInstanceOf_16 (fun H locs hw => ?_)
  refine lv_aload_n hx hb d_Rules_isInstanceOf_19 rfl (lv_at hl 0 rfl) ?_
  obtain ⟨v13, e14, hs⟩ := ob hs
  refine pg_getR C hw fl_Rules_45 e14 d_Rules_isInstanceOf_20 ?_
  refine lv_aload_n hx hb d_Rules_isInstanceOf_23 rfl (lv_at hl 1 rfl) ?_
  refine lv_iconst (v := 0) hx hb d_Rules_isInstanceOf_24 (by decide) ?_
  refine lv_aload_n hx hb d_Rules_isInstanceOf_25 rfl (lv_at hl 0 rfl) ?_
  obtain ⟨v15, e16, hs⟩ := ob hs
  refine pg_getR C hw fl_Rules_29 e16 d_Rules_isInstanceOf_26 ?_
  refine lv_iconst (v := 0) hx hb d_Rules_isInstanceOf_29 (by decide) ?_
  refine lv_aload_n hx hb d_Rules_isInstanceOf_30 rfl (lv_at hl 0 rfl) ?_
  obtain ⟨v17, e18, hs⟩ := ob hs
  refine pg_getR C hw fl_Rules_29 e18 d_Rules_isInstanceOf_31 ?_
  obtain ⟨_, e19, hs⟩ := ob hs
  obtain ⟨q20, e21, hs⟩ := ob hs
  refine pg_callV C hw hl.1 ml_Rules_146 e19 (As := []) (rest := [.int 0, .ref (aD g v15), .int 0, .ref (aD g x1), .ref (aD g v13)]) (c_Text_length l g e21) rfl (rm_ok (Nat.le_of_ble_eq_true rfl) (Nat.le_of_ble_eq_true rfl)) (Nat.le_of_ble_eq_true rfl) rfl (st1 := [.int q20, .int 0, .ref (aD g v15), .int 0, .ref (aD g x1), .ref (aD g v13)]) rfl d_Rules_isInstanceOf_34 (fun H locs hw => ?_)
  obtain ⟨_, e22, hs⟩ := ob hs
  obtain ⟨q23, e24, hs⟩ := ob hs
  refine pg_callV C hw hl.1 ml_Rules_142 e22 (As := [.ref (aD g x1), .int 0, .ref (aD g v15), .int 0, .int q20]) (rest := []) (c_Replacement_gives l g e24) rfl (rm_ok (Nat.le_of_ble_eq_true rfl) (Nat.le_of_ble_eq_true rfl)) (Nat.le_of_ble_eq_true rfl) rfl (st1 := [.int q23.1]) rfl d_Rules_isInstanceOf_37 (fun H locs hw => ?_)
  obtain ⟨_, e25, hs⟩ := ob hs
  obtain rfl := Option.some.inj hs
  exact pg_zret (v := q23.1) C hw (zr_n e25) d_Rules_isInstanceOf_40

end
section
variable {p : Program} {l : Launch} {e : Env} {s : State} {m : MethodId} {args : Array Value} {below : List Frame} {meth : Method} {c : Code} {g : GG}
theorem d_Rules_isForAllMembers_0 : decode b_Rules_isForAllMembers 0 = .ok (.aload_n 0, 1) := by decide +kernel
theorem d_Rules_isForAllMembers_1 : decode b_Rules_isForAllMembers 1 = .ok (.getfield 52, 3) := by decide +kernel
theorem d_Rules_isForAllMembers_4 : decode b_Rules_isForAllMembers 4 = .ok (.bipush 11, 2) := by decide +kernel
theorem d_Rules_isForAllMembers_6 : decode b_Rules_isForAllMembers 6 = .ok (.invokestatic 60, 3) := by decide +kernel
theorem d_Rules_isForAllMembers_9 : decode b_Rules_isForAllMembers 9 = .ok (.invokevirtual 64, 3) := by decide +kernel
theorem d_Rules_isForAllMembers_12 : decode b_Rules_isForAllMembers 12 = .ok (.ifCond .eq 75, 3) := by decide +kernel
theorem d_Rules_isForAllMembers_15 : decode b_Rules_isForAllMembers 15 = .ok (.aload_n 0, 1) := by decide +kernel
theorem d_Rules_isForAllMembers_16 : decode b_Rules_isForAllMembers 16 = .ok (.getfield 52, 3) := by decide +kernel
theorem d_Rules_isForAllMembers_19 : decode b_Rules_isForAllMembers 19 = .ok (.bipush 115, 2) := by decide +kernel
theorem d_Rules_isForAllMembers_21 : decode b_Rules_isForAllMembers 21 = .ok (.invokevirtual 68, 3) := by decide +kernel
theorem d_Rules_isForAllMembers_24 : decode b_Rules_isForAllMembers 24 = .ok (.ifCond .ne 63, 3) := by decide +kernel
theorem d_Rules_isForAllMembers_27 : decode b_Rules_isForAllMembers 27 = .ok (.aload_n 1, 1) := by decide +kernel
theorem d_Rules_isForAllMembers_28 : decode b_Rules_isForAllMembers 28 = .ok (.invokevirtual 146, 3) := by decide +kernel
theorem d_Rules_isForAllMembers_31 : decode b_Rules_isForAllMembers 31 = .ok (.aload_n 0, 1) := by decide +kernel
theorem d_Rules_isForAllMembers_32 : decode b_Rules_isForAllMembers 32 = .ok (.getfield 29, 3) := by decide +kernel
theorem d_Rules_isForAllMembers_35 : decode b_Rules_isForAllMembers 35 = .ok (.invokevirtual 146, 3) := by decide +kernel
theorem d_Rules_isForAllMembers_38 : decode b_Rules_isForAllMembers 38 = .ok (.iconst 1, 1) := by decide +kernel
theorem d_Rules_isForAllMembers_39 : decode b_Rules_isForAllMembers 39 = .ok (.iadd, 1) := by decide +kernel
theorem d_Rules_isForAllMembers_40 : decode b_Rules_isForAllMembers 40 = .ok (.if_icmp .ne 47, 3) := by decide +kernel
theorem d_Rules_isForAllMembers_43 : decode b_Rules_isForAllMembers 43 = .ok (.aload_n 1, 1) := by decide +kernel
theorem d_Rules_isForAllMembers_44 : decode b_Rules_isForAllMembers 44 = .ok (.iconst 0, 1) := by decide +kernel
theorem d_Rules_isForAllMembers_45 : decode b_Rules_isForAllMembers 45 = .ok (.invokevirtual 149, 3) := by decide +kernel
theorem d_Rules_isForAllMembers_48 : decode b_Rules_isForAllMembers 48 = .ok (.bipush 62, 2) := by decide +kernel
theorem d_Rules_isForAllMembers_50 : decode b_Rules_isForAllMembers 50 = .ok (.if_icmp .ne 37, 3) := by decide +kernel
theorem d_Rules_isForAllMembers_53 : decode b_Rules_isForAllMembers 53 = .ok (.aload_n 1, 1) := by decide +kernel
theorem d_Rules_isForAllMembers_54 : decode b_Rules_isForAllMembers 54 = .ok (.iconst 1, 1) := by decide +kernel
theorem d_Rules_isForAllMembers_55 : decode b_Rules_isForAllMembers 55 = .ok (.invokevirtual 149, 3) := by decide +kernel
theorem d_Rules_isForAllMembers_58 : decode b_Rules_isForAllMembers 58 = .ok (.bipush 60, 2) := by decide +kernel
theorem d_Rules_isForAllMembers_60 : decode b_Rules_isForAllMembers 60 = .ok (.if_icmp .ne 27, 3) := by decide +kernel
theorem d_Rules_isForAllMembers_63 : decode b_Rules_isForAllMembers 63 = .ok (.aload_n 1, 1) := by decide +kernel
theorem d_Rules_isForAllMembers_64 : decode b_Rules_isForAllMembers 64 = .ok (.iconst 2, 1) := by decide +kernel
theorem d_Rules_isForAllMembers_65 : decode b_Rules_isForAllMembers 65 = .ok (.aload_n 0, 1) := by decide +kernel
theorem d_Rules_isForAllMembers_66 : decode b_Rules_isForAllMembers 66 = .ok (.getfield 29, 3) := by decide +kernel
theorem d_Rules_isForAllMembers_69 : decode b_Rules_isForAllMembers 69 = .ok (.iconst 1, 1) := by decide +kernel
theorem d_Rules_isForAllMembers_70 : decode b_Rules_isForAllMembers 70 = .ok (.aload_n 0, 1) := by decide +kernel
theorem d_Rules_isForAllMembers_71 : decode b_Rules_isForAllMembers 71 = .ok (.getfield 29, 3) := by decide +kernel
theorem d_Rules_isForAllMembers_74 : decode b_Rules_isForAllMembers 74 = .ok (.invokevirtual 146, 3) := by decide +kernel
theorem d_Rules_isForAllMembers_77 : decode b_Rules_isForAllMembers 77 = .ok (.invokevirtual 153, 3) := by decide +kernel
theorem d_Rules_isForAllMembers_80 : decode b_Rules_isForAllMembers 80 = .ok (.ifCond .eq 7, 3) := by decide +kernel
theorem d_Rules_isForAllMembers_83 : decode b_Rules_isForAllMembers 83 = .ok (.iconst 1, 1) := by decide +kernel
theorem d_Rules_isForAllMembers_84 : decode b_Rules_isForAllMembers 84 = .ok (.goto 4, 3) := by decide +kernel
theorem d_Rules_isForAllMembers_87 : decode b_Rules_isForAllMembers 87 = .ok (.iconst 0, 1) := by decide +kernel
theorem d_Rules_isForAllMembers_88 : decode b_Rules_isForAllMembers 88 = .ok (.ireturn, 1) := by decide +kernel
def s_Rules_isForAllMembers (x0 : Nat) (x1 : Nat) (h : HP) : Option (Int32 × HP) :=
  (gR h x0 7 5).bind fun v1 =>
  (s_Rules_formOf 11).bind fun q3 =>
  (kd v1 6).bind fun _ =>
  (s_Form_fits v1 q3 h).bind fun q6 =>
  if q6.1 = 0 then (
    some (0, q6.2))
  else (
    (gR q6.2 x0 7 5).bind fun v9 =>
    (kd v9 6).bind fun _ =>
    (s_Form_letterIsFreeIn v9 115 q6.2).bind fun q12 =>
    if q12 = 0 then (
      (kd x1 0).bind fun _ =>
      (s_Text_length x1 q6.2).bind fun q16 =>
      (gR q6.2 x0 7 0).bind fun v18 =>
      (kd v18 0).bind fun _ =>
      (s_Text_length v18 q6.2).bind fun q21 =>
      if q16 = (q21 + 1) then (
        (kd x1 0).bind fun _ =>
        (s_Text_at x1 0 q6.2).bind fun q25 =>
        if q25 = 62 then (
          (kd x1 0).bind fun _ =>
          (s_Text_at x1 1 q6.2).bind fun q29 =>
          if q29 = 60 then (
            (gR q6.2 x0 7 0).bind fun v32 =>
            (gR q6.2 x0 7 0).bind fun v34 =>
            (kd v34 0).bind fun _ =>
            (s_Text_length v34 q6.2).bind fun q37 =>
            (kd x1 0).bind fun _ =>
            (s_Text_has x1 2 v32 1 q37 q6.2).bind fun q40 =>
            if q40 = 0 then (
              some (0, q6.2))
            else (
              some (1, q6.2)))
          else (
            some (0, q6.2)))
        else (
          some (0, q6.2)))
      else (
        some (0, q6.2)))
    else (
      some (0, q6.2)))
set_option maxHeartbeats 4000000 in
set_option maxRecDepth 100000 in
theorem c_Rules_isForAllMembers (l : Launch) (g : GG) {x0 : Nat} {x1 : Nat} {h : HP} {z : Int32 × HP} (hs : s_Rules_isForAllMembers x0 x1 h = some z) : Ct l g y_Rules_isForAllMembers w_Rules_isForAllMembers (rmS 17 455) [.ref (aD g x0), .ref (aD g x1)] h (some (.int z.1)) z.2 := by
  refine Ct.of (own := R_Rules) (by decide) rfl rfl (Nat.le_of_ble_eq_true rfl) ?_
  intro p e s m args below meth c ls C hl hw
  have hx := C.1
  have hb := C.2.1
  have hl : lv_has ls 2 [(0, .ref (aD g x0)), (1, .ref (aD g x1))] := hl
  unfold s_Rules_isForAllMembers at hs
  refine lv_aload_n hx hb d_Rules_isForAllMembers_0 rfl (lv_at hl 0 rfl) ?_
  obtain ⟨v1, e2, hs⟩ := ob hs
  refine pg_getR C hw fl_Rules_52 e2 d_Rules_isForAllMembers_1 ?_
  refine lv_bipush (v := 11) hx hb d_Rules_isForAllMembers_4 (by decide) ?_
  obtain ⟨q3, e4, hs⟩ := ob hs
  refine pg_callS C hw hl.1 ml_Rules_60 (As := [.int 11]) (rest := [.ref (aD g v1)]) (c_Rules_formOf l g e4) rfl (rm_ok (Nat.le_of_ble_eq_true rfl) (Nat.le_of_ble_eq_true rfl)) (Nat.le_of_ble_eq_true rfl) rfl (st1 := [.ref (sK g q3), .ref (aD g v1)]) rfl d_Rules_isForAllMembers_6 (fun H locs hw => ?_)
  obtain ⟨_, e5, hs⟩ := ob hs
  obtain ⟨q6, e7, hs⟩ := ob hs
  refine pg_callV C hw hl.1 ml_Rules_64 e5 (As := [.ref (sK g q3)]) (rest := []) (c_Form_fits l g e7) rfl (rm_ok (Nat.le_of_ble_eq_true rfl) (Nat.le_of_ble_eq_true rfl)) (Nat.le_of_ble_eq_true rfl) rfl (st1 := [.int q6.1]) rfl d_Rules_isForAllMembers_9 (fun H locs hw => ?_)
  refine lv_if_eq hx hb d_Rules_isForAllMembers_12 (tgt := 87) (by decide) (fun hc => ?_) (fun hc => ?_)
  · have hs := oi_t hc hs
    refine lv_iconst (v := 0) hx hb d_Rules_isForAllMembers_87 (by decide) ?_
    obtain rfl := Option.some.inj hs
    exact pg_zret (v := 0) C hw rfl d_Rules_isForAllMembers_88
  · have hs := oi_f hc hs
    refine lv_aload_n hx hb d_Rules_isForAllMembers_15 rfl (lv_at hl 0 rfl) ?_
    obtain ⟨v9, e10, hs⟩ := ob hs
    refine pg_getR C hw fl_Rules_52 e10 d_Rules_isForAllMembers_16 ?_
    refine lv_bipush (v := 115) hx hb d_Rules_isForAllMembers_19 (by decide) ?_
    obtain ⟨_, e11, hs⟩ := ob hs
    obtain ⟨q12, e13, hs⟩ := ob hs
    refine pg_callV C hw hl.1 ml_Rules_68 e11 (As := [.int 115]) (rest := []) (c_Form_letterIsFreeIn l g e13) rfl (rm_ok (Nat.le_of_ble_eq_true rfl) (Nat.le_of_ble_eq_true rfl)) (Nat.le_of_ble_eq_true rfl) rfl (st1 := [.int q12]) rfl d_Rules_isForAllMembers_21 (fun H locs hw => ?_)
    refine lv_if_ne hx hb d_Rules_isForAllMembers_24 (tgt := 87) (by decide) (fun hc => ?_) (fun hc => ?_)
    · have hs := oi_f hc hs
      refine lv_iconst (v := 0) hx hb d_Rules_isForAllMembers_87 (by decide) ?_
      obtain rfl := Option.some.inj hs
      exact pg_zret (v := 0) C hw rfl d_Rules_isForAllMembers_88
    · have hs := oi_t hc hs
      refine lv_aload_n hx hb d_Rules_isForAllMembers_27 rfl (lv_at hl 1 rfl) ?_
      obtain ⟨_, e15, hs⟩ := ob hs
      obtain ⟨q16, e17, hs⟩ := ob hs
      refine pg_callV C hw hl.1 ml_Rules_146 e15 (As := []) (rest := []) (c_Text_length l g e17) rfl (rm_ok (Nat.le_of_ble_eq_true rfl) (Nat.le_of_ble_eq_true rfl)) (Nat.le_of_ble_eq_true rfl) rfl (st1 := [.int q16]) rfl d_Rules_isForAllMembers_28 (fun H locs hw => ?_)
      refine lv_aload_n hx hb d_Rules_isForAllMembers_31 rfl (lv_at hl 0 rfl) ?_
      obtain ⟨v18, e19, hs⟩ := ob hs
      refine pg_getR C hw fl_Rules_29 e19 d_Rules_isForAllMembers_32 ?_
      obtain ⟨_, e20, hs⟩ := ob hs
      obtain ⟨q21, e22, hs⟩ := ob hs
      refine pg_callV C hw hl.1 ml_Rules_146 e20 (As := []) (rest := [.int q16]) (c_Text_length l g e22) rfl (rm_ok (Nat.le_of_ble_eq_true rfl) (Nat.le_of_ble_eq_true rfl)) (Nat.le_of_ble_eq_true rfl) rfl (st1 := [.int q21, .int q16]) rfl d_Rules_isForAllMembers_35 (fun H locs hw => ?_)
      refine lv_iconst (v := 1) hx hb d_Rules_isForAllMembers_38 (by decide) ?_
      refine lv_iadd hx hb d_Rules_isForAllMembers_39 ?_
      refine lv_icmp_ne hx hb d_Rules_isForAllMembers_40 (tgt := 87) (by decide) (fun hc => ?_) (fun hc => ?_)
      · have hs := oi_f hc hs
        refine lv_iconst (v := 0) hx hb d_Rules_isForAllMembers_87 (by decide) ?_
        obtain rfl := Option.some.inj hs
        exact pg_zret (v := 0) C hw rfl d_Rules_isForAllMembers_88
      · have hs := oi_t hc hs
        refine lv_aload_n hx hb d_Rules_isForAllMembers_43 rfl (lv_at hl 1 rfl) ?_
        refine lv_iconst (v := 0) hx hb d_Rules_isForAllMembers_44 (by decide) ?_
        obtain ⟨_, e24, hs⟩ := ob hs
        obtain ⟨q25, e26, hs⟩ := ob hs
        refine pg_callV C hw hl.1 ml_Rules_149 e24 (As := [.int 0]) (rest := []) (c_Text_at l g e26) rfl (rm_ok (Nat.le_of_ble_eq_true rfl) (Nat.le_of_ble_eq_true rfl)) (Nat.le_of_ble_eq_true rfl) rfl (st1 := [.int q25]) rfl d_Rules_isForAllMembers_45 (fun H locs hw => ?_)
        refine lv_bipush (v := 62) hx hb d_Rules_isForAllMembers_48 (by decide) ?_
        refine lv_icmp_ne hx hb d_Rules_isForAllMembers_50 (tgt := 87) (by decide) (fun hc => ?_) (fun hc => ?_)
        · have hs := oi_f hc hs
          refine lv_iconst (v := 0) hx hb d_Rules_isForAllMembers_87 (by decide) ?_
          obtain rfl := Option.some.inj hs
          exact pg_zret (v := 0) C hw rfl d_Rules_isForAllMembers_88
        · have hs := oi_t hc hs
          refine lv_aload_n hx hb d_Rules_isForAllMembers_53 rfl (lv_at hl 1 rfl) ?_
          refine lv_iconst (v := 1) hx hb d_Rules_isForAllMembers_54 (by decide) ?_
          obtain ⟨_, e28, hs⟩ := ob hs
          obtain ⟨q29, e30, hs⟩ := ob hs
          refine pg_callV C hw hl.1 ml_Rules_149 e28 (As := [.int 1]) (rest := []) (c_Text_at l g e30) rfl (rm_ok (Nat.le_of_ble_eq_true rfl) (Nat.le_of_ble_eq_true rfl)) (Nat.le_of_ble_eq_true rfl) rfl (st1 := [.int q29]) rfl d_Rules_isForAllMembers_55 (fun H locs hw => ?_)
          refine lv_bipush (v := 60) hx hb d_Rules_isForAllMembers_58 (by decide) ?_
          refine lv_icmp_ne hx hb d_Rules_isForAllMembers_60 (tgt := 87) (by decide) (fun hc => ?_) (fun hc => ?_)
          · have hs := oi_f hc hs
            refine lv_iconst (v := 0) hx hb d_Rules_isForAllMembers_87 (by decide) ?_
            obtain rfl := Option.some.inj hs
            exact pg_zret (v := 0) C hw rfl d_Rules_isForAllMembers_88
          · have hs := oi_t hc hs
            refine lv_aload_n hx hb d_Rules_isForAllMembers_63 rfl (lv_at hl 1 rfl) ?_
            refine lv_iconst (v := 2) hx hb d_Rules_isForAllMembers_64 (by decide) ?_
            refine lv_aload_n hx hb d_Rules_isForAllMembers_65 rfl (lv_at hl 0 rfl) ?_
            obtain ⟨v32, e33, hs⟩ := ob hs
            refine pg_getR C hw fl_Rules_29 e33 d_Rules_isForAllMembers_66 ?_
            refine lv_iconst (v := 1) hx hb d_Rules_isForAllMembers_69 (by decide) ?_
            refine lv_aload_n hx hb d_Rules_isForAllMembers_70 rfl (lv_at hl 0 rfl) ?_
            obtain ⟨v34, e35, hs⟩ := ob hs
            refine pg_getR C hw fl_Rules_29 e35 d_Rules_isForAllMembers_71 ?_
            obtain ⟨_, e36, hs⟩ := ob hs
            obtain ⟨q37, e38, hs⟩ := ob hs
            refine pg_callV C hw hl.1 ml_Rules_146 e36 (As := []) (rest := [.int 1, .ref (aD g v32), .int 2, .ref (aD g x1)]) (c_Text_length l g e38) rfl (rm_ok (Nat.le_of_ble_eq_true rfl) (Nat.le_of_ble_eq_true rfl)) (Nat.le_of_ble_eq_true rfl) rfl (st1 := [.int q37, .int 1, .ref (aD g v32), .int 2, .ref (aD g x1)]) rfl d_Rules_isForAllMembers_74 (fun H locs hw => ?_)
            obtain ⟨_, e39, hs⟩ := ob hs
            obtain ⟨q40, e41, hs⟩ := ob hs
            refine pg_callV C hw hl.1 ml_Rules_153 e39 (As := [.int 2, .ref (aD g v32), .int 1, .int q37]) (rest := []) (c_Text_has l g e41) rfl (rm_ok (Nat.le_of_ble_eq_true rfl) (Nat.le_of_ble_eq_true rfl)) (Nat.le_of_ble_eq_true rfl) rfl (st1 := [.int q40]) rfl d_Rules_isForAllMembers_77 (fun H locs hw => ?_)
            refine lv_if_eq hx hb d_Rules_isForAllMembers_80 (tgt := 87) (by decide) (fun hc => ?_) (fun hc => ?_)
            · have hs := oi_t hc hs
              refine lv_iconst (v := 0) hx hb d_Rules_isForAllMembers_87 (by decide) ?_
              obtain rfl := Option.some.inj hs
              exact pg_zret (v := 0) C hw rfl d_Rules_isForAllMembers_88
            · have hs := oi_f hc hs
              refine lv_iconst (v := 1) hx hb d_Rules_isForAllMembers_83 (by decide) ?_
              refine lv_goto hx hb d_Rules_isForAllMembers_84 (tgt := 88) (by decide) ?_
              obtain rfl := Option.some.inj hs
              exact pg_zret (v := 1) C hw rfl d_Rules_isForAllMembers_88

end
section
variable {p : Program} {l : Launch} {e : Env} {s : State} {m : MethodId} {args : Array Value} {below : List Frame} {meth : Method} {c : Code} {g : GG}
theorem d_Text_add_0 : decode b_Text_add 0 = .ok (.aload_n 0, 1) := by decide +kernel
theorem d_Text_add_1 : decode b_Text_add 1 = .ok (.getfield 19, 3) := by decide +kernel
theorem d_Text_add_4 : decode b_Text_add 4 = .ok (.bipush 60, 2) := by decide +kernel
theorem d_Text_add_6 : decode b_Text_add 6 = .ok (.if_icmp .ge 24, 3) := by decide +kernel
theorem d_Text_add_9 : decode b_Text_add 9 = .ok (.aload_n 0, 1) := by decide +kernel
theorem d_Text_add_10 : decode b_Text_add 10 = .ok (.getfield 9, 3) := by decide +kernel
theorem d_Text_add_13 : decode b_Text_add 13 = .ok (.aload_n 0, 1) := by decide +kernel
theorem d_Text_add_14 : decode b_Text_add 14 = .ok (.getfield 19, 3) := by decide +kernel
theorem d_Text_add_17 : decode b_Text_add 17 = .ok (.iload_n 1, 1) := by decide +kernel
theorem d_Text_add_18 : decode b_Text_add 18 = .ok (.i2c, 1) := by decide +kernel
theorem d_Text_add_19 : decode b_Text_add 19 = .ok (.castore, 1) := by decide +kernel
theorem d_Text_add_20 : decode b_Text_add 20 = .ok (.aload_n 0, 1) := by decide +kernel
theorem d_Text_add_21 : decode b_Text_add 21 = .ok (.dup, 1) := by decide +kernel
theorem d_Text_add_22 : decode b_Text_add 22 = .ok (.getfield 19, 3) := by decide +kernel
theorem d_Text_add_25 : decode b_Text_add 25 = .ok (.iconst 1, 1) := by decide +kernel
theorem d_Text_add_26 : decode b_Text_add 26 = .ok (.iadd, 1) := by decide +kernel
theorem d_Text_add_27 : decode b_Text_add 27 = .ok (.putfield 19, 3) := by decide +kernel
theorem d_Text_add_30 : decode b_Text_add 30 = .ok (.return_, 1) := by decide +kernel
def s_Text_add (x0 : Nat) (x1 : Int32) (h : HP) : Option (HP) :=
  (gI h x0 0 2).bind fun v1 =>
  if 60 ≤ v1 then (
    some h)
  else (
    (gR h x0 0 0).bind fun v3 =>
    (gI h x0 0 2).bind fun v5 =>
    (uI h v3 1 v5 (vp_nar .char ((x1.toUInt32 % 65536).toInt32))).bind fun h7 =>
    (gI h7 x0 0 2).bind fun v9 =>
    (pI h7 x0 0 2 (v9 + 1)).bind fun h11 =>
    some h11)
set_option maxHeartbeats 4000000 in
set_option maxRecDepth 100000 in
theorem c_Text_add (l : Launch) (g : GG) {x0 : Nat} {x1 : Int32} {h : HP} {z : HP} (hs : s_Text_add x0 x1 h = some z) : Ct l g y_Text_add w_Text_add (rmS 0 0) [.ref (aD g x0), .int x1] h none z := by
  refine Ct.of (own := R_Text) (by decide) rfl rfl (Nat.le_of_ble_eq_true rfl) ?_
  intro p e s m args below meth c ls C hl hw
  have hx := C.1
  have hb := C.2.1
  have hl : lv_has ls 2 [(0, .ref (aD g x0)), (1, .int x1)] := hl
  unfold s_Text_add at hs
  refine lv_aload_n hx hb d_Text_add_0 rfl (lv_at hl 0 rfl) ?_
  obtain ⟨v1, e2, hs⟩ := ob hs
  refine pg_getI C hw fl_Text_19 e2 d_Text_add_1 ?_
  refine lv_bipush (v := 60) hx hb d_Text_add_4 (by decide) ?_
  refine lv_icmp_ge hx hb d_Text_add_6 (tgt := 30) (by decide) (fun hc => ?_) (fun hc => ?_)
  · have hs := oi_t hc hs
    obtain rfl := Option.some.inj hs
    exact pg_vret C hw d_Text_add_30
  · have hs := oi_f hc hs
    refine lv_aload_n hx hb d_Text_add_9 rfl (lv_at hl 0 rfl) ?_
    obtain ⟨v3, e4, hs⟩ := ob hs
    refine pg_getR C hw fl_Text_9 e4 d_Text_add_10 ?_
    refine lv_aload_n hx hb d_Text_add_13 rfl (lv_at hl 0 rfl) ?_
    obtain ⟨v5, e6, hs⟩ := ob hs
    refine pg_getI C hw fl_Text_19 e6 d_Text_add_14 ?_
    refine lv_iload_n hx hb d_Text_add_17 rfl (lv_at hl 1 rfl) ?_
    refine lv_i2c (v := (x1.toUInt32 % 65536).toInt32) hx hb d_Text_add_18 rfl ?_
    obtain ⟨h7, e8, hs⟩ := ob hs
    refine pg_castore C hw (t0 := 1) rfl e8 d_Text_add_19 (fun H locs hw => ?_)
    refine lv_aload_n hx hb d_Text_add_20 rfl (lv_at hl 0 rfl) ?_
    refine lv_dup hx hb d_Text_add_21 rfl ?_
    obtain ⟨v9, e10, hs⟩ := ob hs
    refine pg_getI C hw fl_Text_19 e10 d_Text_add_22 ?_
    refine lv_iconst (v := 1) hx hb d_Text_add_25 (by decide) ?_
    refine lv_iadd hx hb d_Text_add_26 ?_
    obtain ⟨h11, e12, hs⟩ := ob hs
    refine pg_putI C hw pl_Text_19 e12 d_Text_add_27 (fun H locs hw => ?_)
    obtain rfl := Option.some.inj hs
    exact pg_vret C hw d_Text_add_30

end
section
variable {p : Program} {l : Launch} {e : Env} {s : State} {m : MethodId} {args : Array Value} {below : List Frame} {meth : Method} {c : Code} {g : GG}
theorem d_Rules_spareBecomesZero_0 : decode b_Rules_spareBecomesZero 0 = .ok (.aload_n 0, 1) := by decide +kernel
theorem d_Rules_spareBecomesZero_1 : decode b_Rules_spareBecomesZero 1 = .ok (.getfield 12, 3) := by decide +kernel
theorem d_Rules_spareBecomesZero_4 : decode b_Rules_spareBecomesZero 4 = .ok (.invokevirtual 175, 3) := by decide +kernel
theorem d_Rules_spareBecomesZero_7 : decode b_Rules_spareBecomesZero 7 = .ok (.aload_n 0, 1) := by decide +kernel
theorem d_Rules_spareBecomesZero_8 : decode b_Rules_spareBecomesZero 8 = .ok (.getfield 12, 3) := by decide +kernel
theorem d_Rules_spareBecomesZero_11 : decode b_Rules_spareBecomesZero 11 = .ok (.bipush 48, 2) := by decide +kernel
theorem d_Rules_spareBecomesZero_13 : decode b_Rules_spareBecomesZero 13 = .ok (.invokevirtual 178, 3) := by decide +kernel
theorem d_Rules_spareBecomesZero_16 : decode b_Rules_spareBecomesZero 16 = .ok (.aload_n 0, 1) := by decide +kernel
theorem d_Rules_spareBecomesZero_17 : decode b_Rules_spareBecomesZero 17 = .ok (.getfield 12, 3) := by decide +kernel
theorem d_Rules_spareBecomesZero_20 : decode b_Rules_spareBecomesZero 20 = .ok (.iconst 0, 1) := by decide +kernel
theorem d_Rules_spareBecomesZero_21 : decode b_Rules_spareBecomesZero 21 = .ok (.iconst 1, 1) := by decide +kernel
theorem d_Rules_spareBecomesZero_22 : decode b_Rules_spareBecomesZero 22 = .ok (.invokevirtual 181, 3) := by decide +kernel
theorem d_Rules_spareBecomesZero_25 : decode b_Rules_spareBecomesZero 25 = .ok (.return_, 1) := by decide +kernel
def s_Rules_spareBecomesZero (x0 : Nat) (h : HP) : Option (HP) :=
  (gR h x0 7 3).bind fun v1 =>
  (kd v1 0).bind fun _ =>
  (s_Text_empty v1 h).bind fun q4 =>
  (gR q4 x0 7 3).bind fun v6 =>
  (kd v6 0).bind fun _ =>
  (s_Text_add v6 48 q4).bind fun q9 =>
  (gR q9 x0 7 3).bind fun v11 =>
  (kd v11 0).bind fun _ =>
  (s_Text_setEnd v11 0 1 q9).bind fun q14 =>
  some q14
set_option maxHeartbeats 4000000 in
set_option maxRecDepth 100000 in
theorem c_Rules_spareBecomesZero (l : Launch) (g : GG) {x0 : Nat} {h : HP} {z : HP} (hs : s_Rules_spareBecomesZero x0 h = some z) : Ct l g y_Rules_spareBecomesZero w_Rules_spareBecomesZero (rmS 1 22) [.ref (aD g x0)] h none z := by
  refine Ct.of (own := R_Rules) (by decide) rfl rfl (Nat.le_of_ble_eq_true rfl) ?_
  intro p e s m args below meth c ls C hl hw
  have hx := C.1
  have hb := C.2.1
  have hl : lv_has ls 1 [(0, .ref (aD g x0))] := hl
  unfold s_Rules_spareBecomesZero at hs
  refine lv_aload_n hx hb d_Rules_spareBecomesZero_0 rfl (lv_at hl 0 rfl) ?_
  obtain ⟨v1, e2, hs⟩ := ob hs
  refine pg_getR C hw fl_Rules_12 e2 d_Rules_spareBecomesZero_1 ?_
  obtain ⟨_, e3, hs⟩ := ob hs
  obtain ⟨q4, e5, hs⟩ := ob hs
  refine pg_callV C hw hl.1 ml_Rules_175 e3 (As := []) (rest := []) (c_Text_empty l g e5) rfl (rm_ok (Nat.le_of_ble_eq_true rfl) (Nat.le_of_ble_eq_true rfl)) (Nat.le_of_ble_eq_true rfl) rfl (st1 := []) rfl d_Rules_spareBecomesZero_4 (fun H locs hw => ?_)
  refine lv_aload_n hx hb d_Rules_spareBecomesZero_7 rfl (lv_at hl 0 rfl) ?_
  obtain ⟨v6, e7, hs⟩ := ob hs
  refine pg_getR C hw fl_Rules_12 e7 d_Rules_spareBecomesZero_8 ?_
  refine lv_bipush (v := 48) hx hb d_Rules_spareBecomesZero_11 (by decide) ?_
  obtain ⟨_, e8, hs⟩ := ob hs
  obtain ⟨q9, e10, hs⟩ := ob hs
  refine pg_callV C hw hl.1 ml_Rules_178 e8 (As := [.int 48]) (rest := []) (c_Text_add l g e10) rfl (rm_ok (Nat.le_of_ble_eq_true rfl) (Nat.le_of_ble_eq_true rfl)) (Nat.le_of_ble_eq_true rfl) rfl (st1 := []) rfl d_Rules_spareBecomesZero_13 (fun H locs hw => ?_)
  refine lv_aload_n hx hb d_Rules_spareBecomesZero_16 rfl (lv_at hl 0 rfl) ?_
  obtain ⟨v11, e12, hs⟩ := ob hs
  refine pg_getR C hw fl_Rules_12 e12 d_Rules_spareBecomesZero_17 ?_
  refine lv_iconst (v := 0) hx hb d_Rules_spareBecomesZero_20 (by decide) ?_
  refine lv_iconst (v := 1) hx hb d_Rules_spareBecomesZero_21 (by decide) ?_
  obtain ⟨_, e13, hs⟩ := ob hs
  obtain ⟨q14, e15, hs⟩ := ob hs
  refine pg_callV C hw hl.1 ml_Rules_181 e13 (As := [.int 0, .int 1]) (rest := []) (c_Text_setEnd l g e15) rfl (rm_ok (Nat.le_of_ble_eq_true rfl) (Nat.le_of_ble_eq_true rfl)) (Nat.le_of_ble_eq_true rfl) rfl (st1 := []) rfl d_Rules_spareBecomesZero_22 (fun H locs hw => ?_)
  obtain rfl := Option.some.inj hs
  exact pg_vret C hw d_Rules_spareBecomesZero_25

end
