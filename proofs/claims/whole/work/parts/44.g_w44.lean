section
variable {p : Program} {l : Launch} {e : Env} {s : State} {m : MethodId} {args : Array Value} {below : List Frame} {meth : Method} {c : Code} {g : GG}
theorem d_Text_copy_0 : decode b_Text_copy 0 = .ok (.aload_n 1, 1) := by decide +kernel
theorem d_Text_copy_1 : decode b_Text_copy 1 = .ok (.getfield 9, 3) := by decide +kernel
theorem d_Text_copy_4 : decode b_Text_copy 4 = .ok (.iconst 0, 1) := by decide +kernel
theorem d_Text_copy_5 : decode b_Text_copy 5 = .ok (.aload_n 0, 1) := by decide +kernel
theorem d_Text_copy_6 : decode b_Text_copy 6 = .ok (.getfield 9, 3) := by decide +kernel
theorem d_Text_copy_9 : decode b_Text_copy 9 = .ok (.iconst 0, 1) := by decide +kernel
theorem d_Text_copy_10 : decode b_Text_copy 10 = .ok (.aload_n 1, 1) := by decide +kernel
theorem d_Text_copy_11 : decode b_Text_copy 11 = .ok (.getfield 19, 3) := by decide +kernel
theorem d_Text_copy_14 : decode b_Text_copy 14 = .ok (.invokestatic 31, 3) := by decide +kernel
theorem d_Text_copy_17 : decode b_Text_copy 17 = .ok (.aload_n 1, 1) := by decide +kernel
theorem d_Text_copy_18 : decode b_Text_copy 18 = .ok (.getfield 15, 3) := by decide +kernel
theorem d_Text_copy_21 : decode b_Text_copy 21 = .ok (.iconst 0, 1) := by decide +kernel
theorem d_Text_copy_22 : decode b_Text_copy 22 = .ok (.aload_n 0, 1) := by decide +kernel
theorem d_Text_copy_23 : decode b_Text_copy 23 = .ok (.getfield 15, 3) := by decide +kernel
theorem d_Text_copy_26 : decode b_Text_copy 26 = .ok (.iconst 0, 1) := by decide +kernel
theorem d_Text_copy_27 : decode b_Text_copy 27 = .ok (.aload_n 1, 1) := by decide +kernel
theorem d_Text_copy_28 : decode b_Text_copy 28 = .ok (.getfield 19, 3) := by decide +kernel
theorem d_Text_copy_31 : decode b_Text_copy 31 = .ok (.invokestatic 31, 3) := by decide +kernel
theorem d_Text_copy_34 : decode b_Text_copy 34 = .ok (.aload_n 0, 1) := by decide +kernel
theorem d_Text_copy_35 : decode b_Text_copy 35 = .ok (.aload_n 1, 1) := by decide +kernel
theorem d_Text_copy_36 : decode b_Text_copy 36 = .ok (.getfield 19, 3) := by decide +kernel
theorem d_Text_copy_39 : decode b_Text_copy 39 = .ok (.putfield 19, 3) := by decide +kernel
theorem d_Text_copy_42 : decode b_Text_copy 42 = .ok (.return_, 1) := by decide +kernel
def s_Text_copy (x0 : Nat) (x1 : Nat) (h : HP) : Option (HP) :=
  (gR h x1 0 0).bind fun v1 =>
  (gR h x0 0 0).bind fun v3 =>
  (gI h x1 0 2).bind fun v5 =>
  (cpC h 1 v1 0 v3 0 v5).bind fun h7 =>
  (gR h7 x1 0 1).bind fun v9 =>
  (gR h7 x0 0 1).bind fun v11 =>
  (gI h7 x1 0 2).bind fun v13 =>
  (cpI h7 0 v9 0 v11 0 v13).bind fun h15 =>
  (gI h15 x1 0 2).bind fun v17 =>
  (pI h15 x0 0 2 v17).bind fun h19 =>
  some h19
set_option maxHeartbeats 4000000 in
set_option maxRecDepth 100000 in
theorem c_Text_copy (l : Launch) (g : GG) {x0 : Nat} {x1 : Nat} {h : HP} {z : HP} (hs : s_Text_copy x0 x1 h = some z) : Ct l g y_Text_copy w_Text_copy (rmS 1 60) [.ref (aD g x0), .ref (aD g x1)] h none z := by
  refine Ct.of (own := R_Text) (by decide) rfl rfl (Nat.le_of_ble_eq_true rfl) ?_
  intro p e s m args below meth c ls C hl hw
  have hx := C.1
  have hb := C.2.1
  have hl : lv_has ls 2 [(0, .ref (aD g x0)), (1, .ref (aD g x1))] := hl
  unfold s_Text_copy at hs
  refine lv_aload_n hx hb d_Text_copy_0 rfl (lv_at hl 1 rfl) ?_
  obtain ⟨v1, e2, hs⟩ := ob hs
  refine pg_getR C hw fl_Text_9 e2 d_Text_copy_1 ?_
  refine lv_iconst (v := 0) hx hb d_Text_copy_4 (by decide) ?_
  refine lv_aload_n hx hb d_Text_copy_5 rfl (lv_at hl 0 rfl) ?_
  obtain ⟨v3, e4, hs⟩ := ob hs
  refine pg_getR C hw fl_Text_9 e4 d_Text_copy_6 ?_
  refine lv_iconst (v := 0) hx hb d_Text_copy_9 (by decide) ?_
  refine lv_aload_n hx hb d_Text_copy_10 rfl (lv_at hl 1 rfl) ?_
  obtain ⟨v5, e6, hs⟩ := ob hs
  refine pg_getI C hw fl_Text_19 e6 d_Text_copy_11 ?_
  obtain ⟨h7, e8, hs⟩ := ob hs
  refine pg_copyC C hw hl.1 (t0 := 1) rfl e8 ml_Text_31 (Nat.le_of_ble_eq_true rfl) (Nat.le_of_ble_eq_true rfl) d_Text_copy_14 (fun H locs hw => ?_)
  refine lv_aload_n hx hb d_Text_copy_17 rfl (lv_at hl 1 rfl) ?_
  obtain ⟨v9, e10, hs⟩ := ob hs
  refine pg_getR C hw fl_Text_15 e10 d_Text_copy_18 ?_
  refine lv_iconst (v := 0) hx hb d_Text_copy_21 (by decide) ?_
  refine lv_aload_n hx hb d_Text_copy_22 rfl (lv_at hl 0 rfl) ?_
  obtain ⟨v11, e12, hs⟩ := ob hs
  refine pg_getR C hw fl_Text_15 e12 d_Text_copy_23 ?_
  refine lv_iconst (v := 0) hx hb d_Text_copy_26 (by decide) ?_
  refine lv_aload_n hx hb d_Text_copy_27 rfl (lv_at hl 1 rfl) ?_
  obtain ⟨v13, e14, hs⟩ := ob hs
  refine pg_getI C hw fl_Text_19 e14 d_Text_copy_28 ?_
  obtain ⟨h15, e16, hs⟩ := ob hs
  refine pg_copyI C hw hl.1 (t0 := 0) rfl e16 ml_Text_31 (Nat.le_of_ble_eq_true rfl) (Nat.le_of_ble_eq_true rfl) d_Text_copy_31 (fun H locs hw => ?_)
  refine lv_aload_n hx hb d_Text_copy_34 rfl (lv_at hl 0 rfl) ?_
  refine lv_aload_n hx hb d_Text_copy_35 rfl (lv_at hl 1 rfl) ?_
  obtain ⟨v17, e18, hs⟩ := ob hs
  refine pg_getI C hw fl_Text_19 e18 d_Text_copy_36 ?_
  obtain ⟨h19, e20, hs⟩ := ob hs
  refine pg_putI C hw pl_Text_19 e20 d_Text_copy_39 (fun H locs hw => ?_)
  obtain rfl := Option.some.inj hs
  exact pg_vret C hw d_Text_copy_42

end
section
variable {p : Program} {l : Launch} {e : Env} {s : State} {m : MethodId} {args : Array Value} {below : List Frame} {meth : Method} {c : Code} {g : GG}
theorem d_Laws_add_0 : decode b_Laws_add 0 = .ok (.aload_n 0, 1) := by decide +kernel
theorem d_Laws_add_1 : decode b_Laws_add 1 = .ok (.getfield 21, 3) := by decide +kernel
theorem d_Laws_add_4 : decode b_Laws_add 4 = .ok (.bipush 16, 2) := by decide +kernel
theorem d_Laws_add_6 : decode b_Laws_add 6 = .ok (.if_icmp .lt 6, 3) := by decide +kernel
theorem d_Laws_add_9 : decode b_Laws_add 9 = .ok (.bipush (-2), 2) := by decide +kernel
theorem d_Laws_add_11 : decode b_Laws_add 11 = .ok (.ireturn, 1) := by decide +kernel
theorem d_Laws_add_12 : decode b_Laws_add 12 = .ok (.aload_n 0, 1) := by decide +kernel
theorem d_Laws_add_13 : decode b_Laws_add 13 = .ok (.getfield 11, 3) := by decide +kernel
theorem d_Laws_add_16 : decode b_Laws_add 16 = .ok (.aload_n 0, 1) := by decide +kernel
theorem d_Laws_add_17 : decode b_Laws_add 17 = .ok (.getfield 21, 3) := by decide +kernel
theorem d_Laws_add_20 : decode b_Laws_add 20 = .ok (.aaload, 1) := by decide +kernel
theorem d_Laws_add_21 : decode b_Laws_add 21 = .ok (.aload_n 1, 1) := by decide +kernel
theorem d_Laws_add_22 : decode b_Laws_add 22 = .ok (.invokevirtual 26, 3) := by decide +kernel
theorem d_Laws_add_25 : decode b_Laws_add 25 = .ok (.aload_n 0, 1) := by decide +kernel
theorem d_Laws_add_26 : decode b_Laws_add 26 = .ok (.getfield 17, 3) := by decide +kernel
theorem d_Laws_add_29 : decode b_Laws_add 29 = .ok (.aload_n 0, 1) := by decide +kernel
theorem d_Laws_add_30 : decode b_Laws_add 30 = .ok (.getfield 21, 3) := by decide +kernel
theorem d_Laws_add_33 : decode b_Laws_add 33 = .ok (.iload_n 2, 1) := by decide +kernel
theorem d_Laws_add_34 : decode b_Laws_add 34 = .ok (.iconst 1, 1) := by decide +kernel
theorem d_Laws_add_35 : decode b_Laws_add 35 = .ok (.aload_n 0, 1) := by decide +kernel
theorem d_Laws_add_36 : decode b_Laws_add 36 = .ok (.getfield 21, 3) := by decide +kernel
theorem d_Laws_add_39 : decode b_Laws_add 39 = .ok (.ishl, 1) := by decide +kernel
theorem d_Laws_add_40 : decode b_Laws_add 40 = .ok (.ior, 1) := by decide +kernel
theorem d_Laws_add_41 : decode b_Laws_add 41 = .ok (.iastore, 1) := by decide +kernel
theorem d_Laws_add_42 : decode b_Laws_add 42 = .ok (.aload_n 0, 1) := by decide +kernel
theorem d_Laws_add_43 : decode b_Laws_add 43 = .ok (.dup, 1) := by decide +kernel
theorem d_Laws_add_44 : decode b_Laws_add 44 = .ok (.getfield 21, 3) := by decide +kernel
theorem d_Laws_add_47 : decode b_Laws_add 47 = .ok (.iconst 1, 1) := by decide +kernel
theorem d_Laws_add_48 : decode b_Laws_add 48 = .ok (.iadd, 1) := by decide +kernel
theorem d_Laws_add_49 : decode b_Laws_add 49 = .ok (.putfield 21, 3) := by decide +kernel
theorem d_Laws_add_52 : decode b_Laws_add 52 = .ok (.aload_n 0, 1) := by decide +kernel
theorem d_Laws_add_53 : decode b_Laws_add 53 = .ok (.getfield 21, 3) := by decide +kernel
theorem d_Laws_add_56 : decode b_Laws_add 56 = .ok (.iconst 1, 1) := by decide +kernel
theorem d_Laws_add_57 : decode b_Laws_add 57 = .ok (.isub, 1) := by decide +kernel
theorem d_Laws_add_58 : decode b_Laws_add 58 = .ok (.ireturn, 1) := by decide +kernel
def s_Laws_add (x0 : Nat) (x1 : Nat) (x2 : Int32) (h : HP) : Option (Int32 × HP) :=
  (gI h x0 2 2).bind fun v1 =>
  if v1 < 16 then (
    (gR h x0 2 0).bind fun v3 =>
    (gI h x0 2 2).bind fun v5 =>
    (aR v3 3 v5).bind fun v7 =>
    (kd v7 0).bind fun _ =>
    (s_Text_copy v7 x1 h).bind fun q10 =>
    (gR q10 x0 2 1).bind fun v12 =>
    (gI q10 x0 2 2).bind fun v14 =>
    (gI q10 x0 2 2).bind fun v16 =>
    (uI q10 v12 0 v14 (x2 ||| ((1 : Int32) <<< (v16 &&& 31)))).bind fun h18 =>
    (gI h18 x0 2 2).bind fun v20 =>
    (pI h18 x0 2 2 (v20 + 1)).bind fun h22 =>
    (gI h22 x0 2 2).bind fun v24 =>
    some ((v24 - 1), h22))
  else (
    some ((-2), h))
set_option maxHeartbeats 4000000 in
set_option maxRecDepth 100000 in
theorem c_Laws_add (l : Launch) (g : GG) {x0 : Nat} {x1 : Nat} {x2 : Int32} {h : HP} {z : Int32 × HP} (hs : s_Laws_add x0 x1 x2 h = some z) : Ct l g y_Laws_add w_Laws_add (rmS 2 81) [.ref (aD g x0), .ref (aD g x1), .int x2] h (some (.int z.1)) z.2 := by
  refine Ct.of (own := R_Laws) (by decide) rfl rfl (Nat.le_of_ble_eq_true rfl) ?_
  intro p e s m args below meth c ls C hl hw
  have hx := C.1
  have hb := C.2.1
  have hl : lv_has ls 3 [(0, .ref (aD g x0)), (1, .ref (aD g x1)), (2, .int x2)] := hl
  unfold s_Laws_add at hs
  refine lv_aload_n hx hb d_Laws_add_0 rfl (lv_at hl 0 rfl) ?_
  obtain ⟨v1, e2, hs⟩ := ob hs
  refine pg_getI C hw fl_Laws_21 e2 d_Laws_add_1 ?_
  refine lv_bipush (v := 16) hx hb d_Laws_add_4 (by decide) ?_
  refine lv_icmp_lt hx hb d_Laws_add_6 (tgt := 12) (by decide) (fun hc => ?_) (fun hc => ?_)
  · have hs := oi_t hc hs
    refine lv_aload_n hx hb d_Laws_add_12 rfl (lv_at hl 0 rfl) ?_
    obtain ⟨v3, e4, hs⟩ := ob hs
    refine pg_getR C hw fl_Laws_11 e4 d_Laws_add_13 ?_
    refine lv_aload_n hx hb d_Laws_add_16 rfl (lv_at hl 0 rfl) ?_
    obtain ⟨v5, e6, hs⟩ := ob hs
    refine pg_getI C hw fl_Laws_21 e6 d_Laws_add_17 ?_
    obtain ⟨v7, e8, hs⟩ := ob hs
    refine pg_aaload C hw (t0 := 3) rfl e8 d_Laws_add_20 ?_
    refine lv_aload_n hx hb d_Laws_add_21 rfl (lv_at hl 1 rfl) ?_
    obtain ⟨_, e9, hs⟩ := ob hs
    obtain ⟨q10, e11, hs⟩ := ob hs
    refine pg_callV C hw hl.1 ml_Laws_26 e9 (As := [.ref (aD g x1)]) (rest := []) (c_Text_copy l g e11) rfl (rm_ok (Nat.le_of_ble_eq_true rfl) (Nat.le_of_ble_eq_true rfl)) (Nat.le_of_ble_eq_true rfl) rfl (st1 := []) rfl d_Laws_add_22 (fun H locs hw => ?_)
    refine lv_aload_n hx hb d_Laws_add_25 rfl (lv_at hl 0 rfl) ?_
    obtain ⟨v12, e13, hs⟩ := ob hs
    refine pg_getR C hw fl_Laws_17 e13 d_Laws_add_26 ?_
    refine lv_aload_n hx hb d_Laws_add_29 rfl (lv_at hl 0 rfl) ?_
    obtain ⟨v14, e15, hs⟩ := ob hs
    refine pg_getI C hw fl_Laws_21 e15 d_Laws_add_30 ?_
    refine lv_iload_n hx hb d_Laws_add_33 rfl (lv_at hl 2 rfl) ?_
    refine lv_iconst (v := 1) hx hb d_Laws_add_34 (by decide) ?_
    refine lv_aload_n hx hb d_Laws_add_35 rfl (lv_at hl 0 rfl) ?_
    obtain ⟨v16, e17, hs⟩ := ob hs
    refine pg_getI C hw fl_Laws_21 e17 d_Laws_add_36 ?_
    refine lv_ishl hx hb d_Laws_add_39 ?_
    refine lv_ior hx hb d_Laws_add_40 ?_
    obtain ⟨h18, e19, hs⟩ := ob hs
    refine pg_iastore C hw (t0 := 0) rfl e19 d_Laws_add_41 (fun H locs hw => ?_)
    refine lv_aload_n hx hb d_Laws_add_42 rfl (lv_at hl 0 rfl) ?_
    refine lv_dup hx hb d_Laws_add_43 rfl ?_
    obtain ⟨v20, e21, hs⟩ := ob hs
    refine pg_getI C hw fl_Laws_21 e21 d_Laws_add_44 ?_
    refine lv_iconst (v := 1) hx hb d_Laws_add_47 (by decide) ?_
    refine lv_iadd hx hb d_Laws_add_48 ?_
    obtain ⟨h22, e23, hs⟩ := ob hs
    refine pg_putI C hw pl_Laws_21 e23 d_Laws_add_49 (fun H locs hw => ?_)
    refine lv_aload_n hx hb d_Laws_add_52 rfl (lv_at hl 0 rfl) ?_
    obtain ⟨v24, e25, hs⟩ := ob hs
    refine pg_getI C hw fl_Laws_21 e25 d_Laws_add_53 ?_
    refine lv_iconst (v := 1) hx hb d_Laws_add_56 (by decide) ?_
    refine lv_isub hx hb d_Laws_add_57 ?_
    obtain rfl := Option.some.inj hs
    exact pg_iret C hw d_Laws_add_58
  · have hs := oi_f hc hs
    refine lv_bipush (v := (-2)) hx hb d_Laws_add_9 (by decide) ?_
    obtain rfl := Option.some.inj hs
    exact pg_iret C hw d_Laws_add_11

end
section
variable {p : Program} {l : Launch} {e : Env} {s : State} {m : MethodId} {args : Array Value} {below : List Frame} {meth : Method} {c : Code} {g : GG}
theorem d_AdjoinedSets_prove_0 : decode b_AdjoinedSets_prove 0 = .ok (.iload_n 1, 1) := by decide +kernel
theorem d_AdjoinedSets_prove_1 : decode b_AdjoinedSets_prove 1 = .ok (.ifCond .lt 19, 3) := by decide +kernel
theorem d_AdjoinedSets_prove_4 : decode b_AdjoinedSets_prove 4 = .ok (.iload_n 1, 1) := by decide +kernel
theorem d_AdjoinedSets_prove_5 : decode b_AdjoinedSets_prove 5 = .ok (.bipush 17, 2) := by decide +kernel
theorem d_AdjoinedSets_prove_7 : decode b_AdjoinedSets_prove 7 = .ok (.if_icmp .gt 13, 3) := by decide +kernel
theorem d_AdjoinedSets_prove_10 : decode b_AdjoinedSets_prove 10 = .ok (.aload_n 0, 1) := by decide +kernel
theorem d_AdjoinedSets_prove_11 : decode b_AdjoinedSets_prove 11 = .ok (.iload_n 1, 1) := by decide +kernel
theorem d_AdjoinedSets_prove_12 : decode b_AdjoinedSets_prove 12 = .ok (.iload_n 2, 1) := by decide +kernel
theorem d_AdjoinedSets_prove_13 : decode b_AdjoinedSets_prove 13 = .ok (.iload_n 3, 1) := by decide +kernel
theorem d_AdjoinedSets_prove_14 : decode b_AdjoinedSets_prove 14 = .ok (.invokevirtual 108, 3) := by decide +kernel
theorem d_AdjoinedSets_prove_17 : decode b_AdjoinedSets_prove 17 = .ok (.ifCond .ne 5, 3) := by decide +kernel
theorem d_AdjoinedSets_prove_20 : decode b_AdjoinedSets_prove 20 = .ok (.iconst (-1), 1) := by decide +kernel
theorem d_AdjoinedSets_prove_21 : decode b_AdjoinedSets_prove 21 = .ok (.ireturn, 1) := by decide +kernel
theorem d_AdjoinedSets_prove_22 : decode b_AdjoinedSets_prove 22 = .ok (.aload_n 0, 1) := by decide +kernel
theorem d_AdjoinedSets_prove_23 : decode b_AdjoinedSets_prove 23 = .ok (.getfield 39, 3) := by decide +kernel
theorem d_AdjoinedSets_prove_26 : decode b_AdjoinedSets_prove 26 = .ok (.invokevirtual 90, 3) := by decide +kernel
theorem d_AdjoinedSets_prove_29 : decode b_AdjoinedSets_prove 29 = .ok (.istore 4, 2) := by decide +kernel
theorem d_AdjoinedSets_prove_31 : decode b_AdjoinedSets_prove 31 = .ok (.iload 4, 2) := by decide +kernel
theorem d_AdjoinedSets_prove_33 : decode b_AdjoinedSets_prove 33 = .ok (.ifCond .lt 57, 3) := by decide +kernel
theorem d_AdjoinedSets_prove_36 : decode b_AdjoinedSets_prove 36 = .ok (.bipush (-2), 2) := by decide +kernel
theorem d_AdjoinedSets_prove_38 : decode b_AdjoinedSets_prove 38 = .ok (.istore 4, 2) := by decide +kernel
theorem d_AdjoinedSets_prove_40 : decode b_AdjoinedSets_prove 40 = .ok (.aload_n 0, 1) := by decide +kernel
theorem d_AdjoinedSets_prove_41 : decode b_AdjoinedSets_prove 41 = .ok (.getfield 29, 3) := by decide +kernel
theorem d_AdjoinedSets_prove_44 : decode b_AdjoinedSets_prove 44 = .ok (.invokevirtual 112, 3) := by decide +kernel
theorem d_AdjoinedSets_prove_47 : decode b_AdjoinedSets_prove 47 = .ok (.bipush 16, 2) := by decide +kernel
theorem d_AdjoinedSets_prove_49 : decode b_AdjoinedSets_prove 49 = .ok (.if_icmp .ge 41, 3) := by decide +kernel
theorem d_AdjoinedSets_prove_52 : decode b_AdjoinedSets_prove 52 = .ok (.aload_n 0, 1) := by decide +kernel
theorem d_AdjoinedSets_prove_53 : decode b_AdjoinedSets_prove 53 = .ok (.getfield 57, 3) := by decide +kernel
theorem d_AdjoinedSets_prove_56 : decode b_AdjoinedSets_prove 56 = .ok (.iload_n 1, 1) := by decide +kernel
theorem d_AdjoinedSets_prove_57 : decode b_AdjoinedSets_prove 57 = .ok (.iload_n 2, 1) := by decide +kernel
theorem d_AdjoinedSets_prove_58 : decode b_AdjoinedSets_prove 58 = .ok (.iload_n 3, 1) := by decide +kernel
theorem d_AdjoinedSets_prove_59 : decode b_AdjoinedSets_prove 59 = .ok (.invokevirtual 115, 3) := by decide +kernel
theorem d_AdjoinedSets_prove_62 : decode b_AdjoinedSets_prove 62 = .ok (.ifCond .eq 24, 3) := by decide +kernel
theorem d_AdjoinedSets_prove_65 : decode b_AdjoinedSets_prove 65 = .ok (.aload_n 0, 1) := by decide +kernel
theorem d_AdjoinedSets_prove_66 : decode b_AdjoinedSets_prove 66 = .ok (.getfield 29, 3) := by decide +kernel
theorem d_AdjoinedSets_prove_69 : decode b_AdjoinedSets_prove 69 = .ok (.aload_n 0, 1) := by decide +kernel
theorem d_AdjoinedSets_prove_70 : decode b_AdjoinedSets_prove 70 = .ok (.getfield 16, 3) := by decide +kernel
theorem d_AdjoinedSets_prove_73 : decode b_AdjoinedSets_prove 73 = .ok (.aload_n 0, 1) := by decide +kernel
theorem d_AdjoinedSets_prove_74 : decode b_AdjoinedSets_prove 74 = .ok (.iload_n 1, 1) := by decide +kernel
theorem d_AdjoinedSets_prove_75 : decode b_AdjoinedSets_prove 75 = .ok (.iload_n 2, 1) := by decide +kernel
theorem d_AdjoinedSets_prove_76 : decode b_AdjoinedSets_prove 76 = .ok (.iload_n 3, 1) := by decide +kernel
theorem d_AdjoinedSets_prove_77 : decode b_AdjoinedSets_prove 77 = .ok (.invokevirtual 118, 3) := by decide +kernel
theorem d_AdjoinedSets_prove_80 : decode b_AdjoinedSets_prove 80 = .ok (.invokevirtual 122, 3) := by decide +kernel
theorem d_AdjoinedSets_prove_83 : decode b_AdjoinedSets_prove 83 = .ok (.goto 5, 3) := by decide +kernel
theorem d_AdjoinedSets_prove_86 : decode b_AdjoinedSets_prove 86 = .ok (.bipush (-4), 2) := by decide +kernel
theorem d_AdjoinedSets_prove_88 : decode b_AdjoinedSets_prove 88 = .ok (.istore 4, 2) := by decide +kernel
theorem d_AdjoinedSets_prove_90 : decode b_AdjoinedSets_prove 90 = .ok (.aload_n 0, 1) := by decide +kernel
theorem d_AdjoinedSets_prove_91 : decode b_AdjoinedSets_prove 91 = .ok (.getfield 16, 3) := by decide +kernel
theorem d_AdjoinedSets_prove_94 : decode b_AdjoinedSets_prove 94 = .ok (.invokevirtual 73, 3) := by decide +kernel
theorem d_AdjoinedSets_prove_97 : decode b_AdjoinedSets_prove 97 = .ok (.iload 4, 2) := by decide +kernel
theorem d_AdjoinedSets_prove_99 : decode b_AdjoinedSets_prove 99 = .ok (.ireturn, 1) := by decide +kernel
def s_AdjoinedSets_prove_90 (x0 : Nat) (x4 : Int32) (h : HP) : Option (Int32 × HP) :=
  (gR h x0 8 1).bind fun v1 =>
  (kd v1 0).bind fun _ =>
  (s_Text_empty v1 h).bind fun q4 =>
  some (x4, q4)
set_option maxHeartbeats 4000000 in
set_option maxRecDepth 100000 in
theorem k_AdjoinedSets_prove_90 {x0 : Nat} {x4 : Int32} {h : HP} {z : Int32 × HP} (C : CX g R_AdjoinedSets b_AdjoinedSets_prove 5 (some .int) p s m args meth c) {H : Heap} {locs : List Loc} {ls : Array Slot} (hw : WD g h s.heap H locs) (hl : lv_has ls 5 [(0, .ref (aD g x0)), (4, .int x4)]) (hs : s_AdjoinedSets_prove_90 x0 x4 h = some z) : W p l e (rmS 73 2095) s m args below meth c H locs 0 0 (MQ below (Qq g (some (.int z.1)) z.2) args s 0 0 (inA g)) (F0 m 90 ls []) := by
  unfold s_AdjoinedSets_prove_90 at hs
  have hx := C.1
  have hb := C.2.1
  refine lv_aload_n hx hb d_AdjoinedSets_prove_90 rfl (lv_at hl 0 rfl) ?_
  obtain ⟨v1, e2, hs⟩ := ob hs
  refine pg_getR C hw fl_AdjoinedSets_16 e2 d_AdjoinedSets_prove_91 ?_
  obtain ⟨_, e3, hs⟩ := ob hs
  obtain ⟨q4, e5, hs⟩ := ob hs
  refine pg_callV C hw hl.1 ml_AdjoinedSets_73 e3 (As := []) (rest := []) (c_Text_empty l g e5) rfl (rm_ok (Nat.le_of_ble_eq_true rfl) (Nat.le_of_ble_eq_true rfl)) (Nat.le_of_ble_eq_true rfl) rfl (st1 := []) rfl d_AdjoinedSets_prove_94 (fun H locs hw => ?_)
  refine lv_iload hx hb d_AdjoinedSets_prove_97 (lv_at hl 1 rfl) ?_
  obtain rfl := Option.some.inj hs
  exact pg_iret C hw d_AdjoinedSets_prove_99

def s_AdjoinedSets_prove_88 (x0 : Nat) (t0 : Int32) (h : HP) : Option (Int32 × HP) :=
  s_AdjoinedSets_prove_90 x0 t0 h
set_option maxHeartbeats 4000000 in
set_option maxRecDepth 100000 in
theorem k_AdjoinedSets_prove_88 {x0 : Nat} {t0 : Int32} {h : HP} {z : Int32 × HP} (C : CX g R_AdjoinedSets b_AdjoinedSets_prove 5 (some .int) p s m args meth c) {H : Heap} {locs : List Loc} {ls : Array Slot} (hw : WD g h s.heap H locs) (hl : lv_has ls 5 [(0, .ref (aD g x0))]) (hs : s_AdjoinedSets_prove_88 x0 t0 h = some z) : W p l e (rmS 73 2095) s m args below meth c H locs 0 0 (MQ below (Qq g (some (.int z.1)) z.2) args s 0 0 (inA g)) (F0 m 88 ls [.int t0]) := by
  unfold s_AdjoinedSets_prove_88 at hs
  have hx := C.1
  have hb := C.2.1
  refine lv_istore hx hb d_AdjoinedSets_prove_88 hl (by decide) (lv' := [(4, .int t0), (0, .ref (aD g x0))]) rfl (fun ls hl => ?_)
  exact k_AdjoinedSets_prove_90 C hw (lv_sub hl [1, 0] rfl) hs

def s_AdjoinedSets_prove (x0 : Nat) (x1 : Int32) (x2 : Int32) (x3 : Int32) (h : HP) : Option (Int32 × HP) :=
  if x1 < 0 then (
    some ((-1), h))
  else (
    if 17 < x1 then (
      some ((-1), h))
    else (
      (kd x0 8).bind fun _ =>
      (s_AdjoinedSets_namesWhatIsThere x0 x1 x2 x3 h).bind fun q2 =>
      if q2 = 0 then (
        some ((-1), h))
      else (
        (gR h x0 8 4).bind fun v4 =>
        (kd v4 3).bind fun _ =>
        (s_Reader_readFormula v4 h).bind fun q7 =>
        if q7.1 < 0 then (
          s_AdjoinedSets_prove_90 x0 q7.1 q7.2)
        else (
          (gR q7.2 x0 8 3).bind fun v9 =>
          (kd v9 2).bind fun _ =>
          (s_Laws_count v9 q7.2).bind fun q12 =>
          if 16 ≤ q12 then (
            s_AdjoinedSets_prove_90 x0 (-2) q7.2)
          else (
            (gR q7.2 x0 8 6).bind fun v14 =>
            (kd v14 7).bind fun _ =>
            (s_Rules_allow v14 x1 x2 x3 q7.2).bind fun q17 =>
            if q17.1 = 0 then (
              s_AdjoinedSets_prove_88 x0 (-4) q17.2)
            else (
              (gR q17.2 x0 8 3).bind fun v19 =>
              (gR q17.2 x0 8 1).bind fun v21 =>
              (kd x0 8).bind fun _ =>
              (s_AdjoinedSets_restsByRule x0 x1 x2 x3 q17.2).bind fun q24 =>
              (kd v19 2).bind fun _ =>
              (s_Laws_add v19 v21 q24 q17.2).bind fun q27 =>
              s_AdjoinedSets_prove_88 x0 q27.1 q27.2))))))
set_option maxHeartbeats 4000000 in
set_option maxRecDepth 100000 in
theorem c_AdjoinedSets_prove (l : Launch) (g : GG) {x0 : Nat} {x1 : Int32} {x2 : Int32} {x3 : Int32} {h : HP} {z : Int32 × HP} (hs : s_AdjoinedSets_prove x0 x1 x2 x3 h = some z) : Ct l g y_AdjoinedSets_prove w_AdjoinedSets_prove (rmS 73 2095) [.ref (aD g x0), .int x1, .int x2, .int x3] h (some (.int z.1)) z.2 := by
  refine Ct.of (own := R_AdjoinedSets) (by decide) rfl rfl (Nat.le_of_ble_eq_true rfl) ?_
  intro p e s m args below meth c ls C hl hw
  have hx := C.1
  have hb := C.2.1
  have hl : lv_has ls 5 [(0, .ref (aD g x0)), (1, .int x1), (2, .int x2), (3, .int x3)] := hl
  unfold s_AdjoinedSets_prove at hs
  refine lv_iload_n hx hb d_AdjoinedSets_prove_0 rfl (lv_at hl 1 rfl) ?_
  refine lv_if_lt hx hb d_AdjoinedSets_prove_1 (tgt := 20) (by decide) (fun hc => ?_) (fun hc => ?_)
  · have hs := oi_t hc hs
    refine lv_iconst (v := (-1)) hx hb d_AdjoinedSets_prove_20 (by decide) ?_
    obtain rfl := Option.some.inj hs
    exact pg_iret C hw d_AdjoinedSets_prove_21
  · have hs := oi_f hc hs
    refine lv_iload_n hx hb d_AdjoinedSets_prove_4 rfl (lv_at hl 1 rfl) ?_
    refine lv_bipush (v := 17) hx hb d_AdjoinedSets_prove_5 (by decide) ?_
    refine lv_icmp_gt hx hb d_AdjoinedSets_prove_7 (tgt := 20) (by decide) (fun hc => ?_) (fun hc => ?_)
    · have hs := oi_t hc hs
      refine lv_iconst (v := (-1)) hx hb d_AdjoinedSets_prove_20 (by decide) ?_
      obtain rfl := Option.some.inj hs
      exact pg_iret C hw d_AdjoinedSets_prove_21
    · have hs := oi_f hc hs
      refine lv_aload_n hx hb d_AdjoinedSets_prove_10 rfl (lv_at hl 0 rfl) ?_
      refine lv_iload_n hx hb d_AdjoinedSets_prove_11 rfl (lv_at hl 1 rfl) ?_
      refine lv_iload_n hx hb d_AdjoinedSets_prove_12 rfl (lv_at hl 2 rfl) ?_
      refine lv_iload_n hx hb d_AdjoinedSets_prove_13 rfl (lv_at hl 3 rfl) ?_
      obtain ⟨_, e1, hs⟩ := ob hs
      obtain ⟨q2, e3, hs⟩ := ob hs
      refine pg_callV C hw hl.1 ml_AdjoinedSets_108 e1 (As := [.int x1, .int x2, .int x3]) (rest := []) (c_AdjoinedSets_namesWhatIsThere l g e3) rfl (rm_ok (Nat.le_of_ble_eq_true rfl) (Nat.le_of_ble_eq_true rfl)) (Nat.le_of_ble_eq_true rfl) rfl (st1 := [.int q2]) rfl d_AdjoinedSets_prove_14 (fun H locs hw => ?_)
      refine lv_if_ne hx hb d_AdjoinedSets_prove_17 (tgt := 22) (by decide) (fun hc => ?_) (fun hc => ?_)
      · have hs := oi_f hc hs
        refine lv_aload_n hx hb d_AdjoinedSets_prove_22 rfl (lv_at hl 0 rfl) ?_
        obtain ⟨v4, e5, hs⟩ := ob hs
        refine pg_getR C hw fl_AdjoinedSets_39 e5 d_AdjoinedSets_prove_23 ?_
        obtain ⟨_, e6, hs⟩ := ob hs
        obtain ⟨q7, e8, hs⟩ := ob hs
        refine pg_callV C hw hl.1 ml_AdjoinedSets_90 e6 (As := []) (rest := []) (c_Reader_readFormula l g e8) rfl (rm_ok (Nat.le_of_ble_eq_true rfl) (Nat.le_of_ble_eq_true rfl)) (Nat.le_of_ble_eq_true rfl) rfl (st1 := [.int q7.1]) rfl d_AdjoinedSets_prove_26 (fun H locs hw => ?_)
        refine lv_istore hx hb d_AdjoinedSets_prove_29 hl (by decide) (lv' := [(4, .int q7.1), (0, .ref (aD g x0)), (1, .int x1), (2, .int x2), (3, .int x3)]) rfl (fun ls hl => ?_)
        refine lv_iload hx hb d_AdjoinedSets_prove_31 (lv_at hl 0 rfl) ?_
        refine lv_if_lt hx hb d_AdjoinedSets_prove_33 (tgt := 90) (by decide) (fun hc => ?_) (fun hc => ?_)
        · have hs := oi_t hc hs
          exact k_AdjoinedSets_prove_90 C hw (lv_sub hl [1, 0] rfl) hs
        · have hs := oi_f hc hs
          refine lv_bipush (v := (-2)) hx hb d_AdjoinedSets_prove_36 (by decide) ?_
          refine lv_istore hx hb d_AdjoinedSets_prove_38 hl (by decide) (lv' := [(4, .int (-2)), (0, .ref (aD g x0)), (1, .int x1), (2, .int x2), (3, .int x3)]) rfl (fun ls hl => ?_)
          refine lv_aload_n hx hb d_AdjoinedSets_prove_40 rfl (lv_at hl 1 rfl) ?_
          obtain ⟨v9, e10, hs⟩ := ob hs
          refine pg_getR C hw fl_AdjoinedSets_29 e10 d_AdjoinedSets_prove_41 ?_
          obtain ⟨_, e11, hs⟩ := ob hs
          obtain ⟨q12, e13, hs⟩ := ob hs
          refine pg_callV C hw hl.1 ml_AdjoinedSets_112 e11 (As := []) (rest := []) (c_Laws_count l g e13) rfl (rm_ok (Nat.le_of_ble_eq_true rfl) (Nat.le_of_ble_eq_true rfl)) (Nat.le_of_ble_eq_true rfl) rfl (st1 := [.int q12]) rfl d_AdjoinedSets_prove_44 (fun H locs hw => ?_)
          refine lv_bipush (v := 16) hx hb d_AdjoinedSets_prove_47 (by decide) ?_
          refine lv_icmp_ge hx hb d_AdjoinedSets_prove_49 (tgt := 90) (by decide) (fun hc => ?_) (fun hc => ?_)
          · have hs := oi_t hc hs
            exact k_AdjoinedSets_prove_90 C hw (lv_sub hl [1, 0] rfl) hs
          · have hs := oi_f hc hs
            refine lv_aload_n hx hb d_AdjoinedSets_prove_52 rfl (lv_at hl 1 rfl) ?_
            obtain ⟨v14, e15, hs⟩ := ob hs
            refine pg_getR C hw fl_AdjoinedSets_57 e15 d_AdjoinedSets_prove_53 ?_
            refine lv_iload_n hx hb d_AdjoinedSets_prove_56 rfl (lv_at hl 2 rfl) ?_
            refine lv_iload_n hx hb d_AdjoinedSets_prove_57 rfl (lv_at hl 3 rfl) ?_
            refine lv_iload_n hx hb d_AdjoinedSets_prove_58 rfl (lv_at hl 4 rfl) ?_
            obtain ⟨_, e16, hs⟩ := ob hs
            obtain ⟨q17, e18, hs⟩ := ob hs
            refine pg_callV C hw hl.1 ml_AdjoinedSets_115 e16 (As := [.int x1, .int x2, .int x3]) (rest := []) (c_Rules_allow l g e18) rfl (rm_ok (Nat.le_of_ble_eq_true rfl) (Nat.le_of_ble_eq_true rfl)) (Nat.le_of_ble_eq_true rfl) rfl (st1 := [.int q17.1]) rfl d_AdjoinedSets_prove_59 (fun H locs hw => ?_)
            refine lv_if_eq hx hb d_AdjoinedSets_prove_62 (tgt := 86) (by decide) (fun hc => ?_) (fun hc => ?_)
            · have hs := oi_t hc hs
              refine lv_bipush (v := (-4)) hx hb d_AdjoinedSets_prove_86 (by decide) ?_
              exact k_AdjoinedSets_prove_88 C hw (lv_sub hl [1] rfl) hs
            · have hs := oi_f hc hs
              refine lv_aload_n hx hb d_AdjoinedSets_prove_65 rfl (lv_at hl 1 rfl) ?_
              obtain ⟨v19, e20, hs⟩ := ob hs
              refine pg_getR C hw fl_AdjoinedSets_29 e20 d_AdjoinedSets_prove_66 ?_
              refine lv_aload_n hx hb d_AdjoinedSets_prove_69 rfl (lv_at hl 1 rfl) ?_
              obtain ⟨v21, e22, hs⟩ := ob hs
              refine pg_getR C hw fl_AdjoinedSets_16 e22 d_AdjoinedSets_prove_70 ?_
              refine lv_aload_n hx hb d_AdjoinedSets_prove_73 rfl (lv_at hl 1 rfl) ?_
              refine lv_iload_n hx hb d_AdjoinedSets_prove_74 rfl (lv_at hl 2 rfl) ?_
              refine lv_iload_n hx hb d_AdjoinedSets_prove_75 rfl (lv_at hl 3 rfl) ?_
              refine lv_iload_n hx hb d_AdjoinedSets_prove_76 rfl (lv_at hl 4 rfl) ?_
              obtain ⟨_, e23, hs⟩ := ob hs
              obtain ⟨q24, e25, hs⟩ := ob hs
              refine pg_callV C hw hl.1 ml_AdjoinedSets_118 e23 (As := [.int x1, .int x2, .int x3]) (rest := [.ref (aD g v21), .ref (aD g v19)]) (c_AdjoinedSets_restsByRule l g e25) rfl (rm_ok (Nat.le_of_ble_eq_true rfl) (Nat.le_of_ble_eq_true rfl)) (Nat.le_of_ble_eq_true rfl) rfl (st1 := [.int q24, .ref (aD g v21), .ref (aD g v19)]) rfl d_AdjoinedSets_prove_77 (fun H locs hw => ?_)
              obtain ⟨_, e26, hs⟩ := ob hs
              obtain ⟨q27, e28, hs⟩ := ob hs
              refine pg_callV C hw hl.1 ml_AdjoinedSets_122 e26 (As := [.ref (aD g v21), .int q24]) (rest := []) (c_Laws_add l g e28) rfl (rm_ok (Nat.le_of_ble_eq_true rfl) (Nat.le_of_ble_eq_true rfl)) (Nat.le_of_ble_eq_true rfl) rfl (st1 := [.int q27.1]) rfl d_AdjoinedSets_prove_80 (fun H locs hw => ?_)
              refine lv_goto hx hb d_AdjoinedSets_prove_83 (tgt := 88) (by decide) ?_
              exact k_AdjoinedSets_prove_88 C hw (lv_sub hl [1] rfl) hs
      · have hs := oi_t hc hs
        refine lv_iconst (v := (-1)) hx hb d_AdjoinedSets_prove_20 (by decide) ?_
        obtain rfl := Option.some.inj hs
        exact pg_iret C hw d_AdjoinedSets_prove_21

end
section
variable {p : Program} {l : Launch} {e : Env} {s : State} {m : MethodId} {args : Array Value} {below : List Frame} {meth : Method} {c : Code} {g : GG}
theorem d_Reader_readBody_0 : decode b_Reader_readBody 0 = .ok (.aload_n 0, 1) := by decide +kernel
theorem d_Reader_readBody_1 : decode b_Reader_readBody 1 = .ok (.iload_n 1, 1) := by decide +kernel
theorem d_Reader_readBody_2 : decode b_Reader_readBody 2 = .ok (.iload_n 2, 1) := by decide +kernel
theorem d_Reader_readBody_3 : decode b_Reader_readBody 3 = .ok (.iload_n 2, 1) := by decide +kernel
theorem d_Reader_readBody_4 : decode b_Reader_readBody 4 = .ok (.invokevirtual 33, 3) := by decide +kernel
theorem d_Reader_readBody_7 : decode b_Reader_readBody 7 = .ok (.aload_n 0, 1) := by decide +kernel
theorem d_Reader_readBody_8 : decode b_Reader_readBody 8 = .ok (.aload_n 0, 1) := by decide +kernel
theorem d_Reader_readBody_9 : decode b_Reader_readBody 9 = .ok (.iconst 0, 1) := by decide +kernel
theorem d_Reader_readBody_10 : decode b_Reader_readBody 10 = .ok (.iconst 1, 1) := by decide +kernel
theorem d_Reader_readBody_11 : decode b_Reader_readBody 11 = .ok (.invokevirtual 37, 3) := by decide +kernel
theorem d_Reader_readBody_14 : decode b_Reader_readBody 14 = .ok (.invokevirtual 41, 3) := by decide +kernel
theorem d_Reader_readBody_17 : decode b_Reader_readBody 17 = .ok (.ireturn, 1) := by decide +kernel
def s_Reader_readBody (x0 : Nat) (x1 : Int32) (x2 : Int32) (h : HP) : Option (Int32 × HP) :=
  (kd x0 3).bind fun _ =>
  (s_Reader_start x0 x1 x2 x2 h).bind fun q2 =>
  (kd x0 3).bind fun _ =>
  ((s_grp_Reader_binder 70).2.2.2.2.2.2 x0 0 1 q2).bind fun q5 =>
  (kd x0 3).bind fun _ =>
  (s_Reader_whole x0 q5.1 q5.2).bind fun q8 =>
  some (q8, q5.2)
set_option maxHeartbeats 4000000 in
set_option maxRecDepth 100000 in
theorem c_Reader_readBody (l : Launch) (g : GG) {x0 : Nat} {x1 : Int32} {x2 : Int32} {h : HP} {z : Int32 × HP} (hs : s_Reader_readBody x0 x1 x2 h = some z) : Ct l g y_Reader_readBody w_Reader_readBody (rmS 72 2076) [.ref (aD g x0), .int x1, .int x2] h (some (.int z.1)) z.2 := by
  refine Ct.of (own := R_Reader) (by decide) rfl rfl (Nat.le_of_ble_eq_true rfl) ?_
  intro p e s m args below meth c ls C hl hw
  have hx := C.1
  have hb := C.2.1
  have hl : lv_has ls 3 [(0, .ref (aD g x0)), (1, .int x1), (2, .int x2)] := hl
  unfold s_Reader_readBody at hs
  refine lv_aload_n hx hb d_Reader_readBody_0 rfl (lv_at hl 0 rfl) ?_
  refine lv_iload_n hx hb d_Reader_readBody_1 rfl (lv_at hl 1 rfl) ?_
  refine lv_iload_n hx hb d_Reader_readBody_2 rfl (lv_at hl 2 rfl) ?_
  refine lv_iload_n hx hb d_Reader_readBody_3 rfl (lv_at hl 2 rfl) ?_
  obtain ⟨_, e1, hs⟩ := ob hs
  obtain ⟨q2, e3, hs⟩ := ob hs
  refine pg_callV C hw hl.1 ml_Reader_33 e1 (As := [.int x1, .int x2, .int x2]) (rest := []) (c_Reader_start l g e3) rfl (rm_ok (Nat.le_of_ble_eq_true rfl) (Nat.le_of_ble_eq_true rfl)) (Nat.le_of_ble_eq_true rfl) rfl (st1 := []) rfl d_Reader_readBody_4 (fun H locs hw => ?_)
  refine lv_aload_n hx hb d_Reader_readBody_7 rfl (lv_at hl 0 rfl) ?_
  refine lv_aload_n hx hb d_Reader_readBody_8 rfl (lv_at hl 0 rfl) ?_
  refine lv_iconst (v := 0) hx hb d_Reader_readBody_9 (by decide) ?_
  refine lv_iconst (v := 1) hx hb d_Reader_readBody_10 (by decide) ?_
  obtain ⟨_, e4, hs⟩ := ob hs
  obtain ⟨q5, e6, hs⟩ := ob hs
  refine pg_callV C hw hl.1 ml_Reader_37 e4 (As := [.int 0, .int 1]) (rest := [.ref (aD g x0)]) ((cg_Reader_binder l g 70).2.2.2.2.2.2 e6) rfl (rm_ok (Nat.le_of_ble_eq_true rfl) (Nat.le_of_ble_eq_true rfl)) (Nat.le_of_ble_eq_true rfl) rfl (st1 := [.int q5.1, .ref (aD g x0)]) rfl d_Reader_readBody_11 (fun H locs hw => ?_)
  obtain ⟨_, e7, hs⟩ := ob hs
  obtain ⟨q8, e9, hs⟩ := ob hs
  refine pg_callV C hw hl.1 ml_Reader_41 e7 (As := [.int q5.1]) (rest := []) (c_Reader_whole l g e9) rfl (rm_ok (Nat.le_of_ble_eq_true rfl) (Nat.le_of_ble_eq_true rfl)) (Nat.le_of_ble_eq_true rfl) rfl (st1 := [.int q8]) rfl d_Reader_readBody_14 (fun H locs hw => ?_)
  obtain rfl := Option.some.inj hs
  exact pg_iret C hw d_Reader_readBody_17

end
section
variable {p : Program} {l : Launch} {e : Env} {s : State} {m : MethodId} {args : Array Value} {below : List Frame} {meth : Method} {c : Code} {g : GG}
theorem d_Function_become_0 : decode b_Function_become 0 = .ok (.aload_n 0, 1) := by decide +kernel
theorem d_Function_become_1 : decode b_Function_become 1 = .ok (.iload_n 1, 1) := by decide +kernel
theorem d_Function_become_2 : decode b_Function_become 2 = .ok (.putfield 16, 3) := by decide +kernel
theorem d_Function_become_5 : decode b_Function_become 5 = .ok (.aload_n 0, 1) := by decide +kernel
theorem d_Function_become_6 : decode b_Function_become 6 = .ok (.getfield 10, 3) := by decide +kernel
theorem d_Function_become_9 : decode b_Function_become 9 = .ok (.aload_n 2, 1) := by decide +kernel
theorem d_Function_become_10 : decode b_Function_become 10 = .ok (.invokevirtual 20, 3) := by decide +kernel
theorem d_Function_become_13 : decode b_Function_become 13 = .ok (.return_, 1) := by decide +kernel
def s_Function_become (x0 : Nat) (x1 : Int32) (x2 : Nat) (h : HP) : Option (HP) :=
  (pI h x0 1 1 x1).bind fun h1 =>
  (gR h1 x0 1 0).bind fun v3 =>
  (kd v3 0).bind fun _ =>
  (s_Text_copy v3 x2 h1).bind fun q6 =>
  some q6
set_option maxHeartbeats 4000000 in
set_option maxRecDepth 100000 in
theorem c_Function_become (l : Launch) (g : GG) {x0 : Nat} {x1 : Int32} {x2 : Nat} {h : HP} {z : HP} (hs : s_Function_become x0 x1 x2 h = some z) : Ct l g y_Function_become w_Function_become (rmS 2 81) [.ref (aD g x0), .int x1, .ref (aD g x2)] h none z := by
  refine Ct.of (own := R_Function) (by decide) rfl rfl (Nat.le_of_ble_eq_true rfl) ?_
  intro p e s m args below meth c ls C hl hw
  have hx := C.1
  have hb := C.2.1
  have hl : lv_has ls 3 [(0, .ref (aD g x0)), (1, .int x1), (2, .ref (aD g x2))] := hl
  unfold s_Function_become at hs
  refine lv_aload_n hx hb d_Function_become_0 rfl (lv_at hl 0 rfl) ?_
  refine lv_iload_n hx hb d_Function_become_1 rfl (lv_at hl 1 rfl) ?_
  obtain ⟨h1, e2, hs⟩ := ob hs
  refine pg_putI C hw pl_Function_16 e2 d_Function_become_2 (fun H locs hw => ?_)
  refine lv_aload_n hx hb d_Function_become_5 rfl (lv_at hl 0 rfl) ?_
  obtain ⟨v3, e4, hs⟩ := ob hs
  refine pg_getR C hw fl_Function_10 e4 d_Function_become_6 ?_
  refine lv_aload_n hx hb d_Function_become_9 rfl (lv_at hl 2 rfl) ?_
  obtain ⟨_, e5, hs⟩ := ob hs
  obtain ⟨q6, e7, hs⟩ := ob hs
  refine pg_callV C hw hl.1 ml_Function_20 e5 (As := [.ref (aD g x2)]) (rest := []) (c_Text_copy l g e7) rfl (rm_ok (Nat.le_of_ble_eq_true rfl) (Nat.le_of_ble_eq_true rfl)) (Nat.le_of_ble_eq_true rfl) rfl (st1 := []) rfl d_Function_become_10 (fun H locs hw => ?_)
  obtain rfl := Option.some.inj hs
  exact pg_vret C hw d_Function_become_13

end
section
variable {p : Program} {l : Launch} {e : Env} {s : State} {m : MethodId} {args : Array Value} {below : List Frame} {meth : Method} {c : Code} {g : GG}
theorem d_AdjoinedSets_define_0 : decode b_AdjoinedSets_define 0 = .ok (.iload_n 1, 1) := by decide +kernel
theorem d_AdjoinedSets_define_1 : decode b_AdjoinedSets_define 1 = .ok (.ifCond .lt 30, 3) := by decide +kernel
theorem d_AdjoinedSets_define_4 : decode b_AdjoinedSets_define 4 = .ok (.iload_n 1, 1) := by decide +kernel
theorem d_AdjoinedSets_define_5 : decode b_AdjoinedSets_define 5 = .ok (.iconst 4, 1) := by decide +kernel
theorem d_AdjoinedSets_define_6 : decode b_AdjoinedSets_define 6 = .ok (.if_icmp .ge 25, 3) := by decide +kernel
theorem d_AdjoinedSets_define_9 : decode b_AdjoinedSets_define 9 = .ok (.aload_n 0, 1) := by decide +kernel
theorem d_AdjoinedSets_define_10 : decode b_AdjoinedSets_define 10 = .ok (.getfield 22, 3) := by decide +kernel
theorem d_AdjoinedSets_define_13 : decode b_AdjoinedSets_define 13 = .ok (.iload_n 1, 1) := by decide +kernel
theorem d_AdjoinedSets_define_14 : decode b_AdjoinedSets_define 14 = .ok (.aaload, 1) := by decide +kernel
theorem d_AdjoinedSets_define_15 : decode b_AdjoinedSets_define 15 = .ok (.invokevirtual 97, 3) := by decide +kernel
theorem d_AdjoinedSets_define_18 : decode b_AdjoinedSets_define 18 = .ok (.ifCond .ne 13, 3) := by decide +kernel
theorem d_AdjoinedSets_define_21 : decode b_AdjoinedSets_define 21 = .ok (.iload_n 2, 1) := by decide +kernel
theorem d_AdjoinedSets_define_22 : decode b_AdjoinedSets_define 22 = .ok (.iconst 1, 1) := by decide +kernel
theorem d_AdjoinedSets_define_23 : decode b_AdjoinedSets_define 23 = .ok (.if_icmp .lt 8, 3) := by decide +kernel
theorem d_AdjoinedSets_define_26 : decode b_AdjoinedSets_define 26 = .ok (.iload_n 2, 1) := by decide +kernel
theorem d_AdjoinedSets_define_27 : decode b_AdjoinedSets_define 27 = .ok (.iconst 3, 1) := by decide +kernel
theorem d_AdjoinedSets_define_28 : decode b_AdjoinedSets_define 28 = .ok (.if_icmp .le 5, 3) := by decide +kernel
theorem d_AdjoinedSets_define_31 : decode b_AdjoinedSets_define 31 = .ok (.iconst (-1), 1) := by decide +kernel
theorem d_AdjoinedSets_define_32 : decode b_AdjoinedSets_define 32 = .ok (.ireturn, 1) := by decide +kernel
theorem d_AdjoinedSets_define_33 : decode b_AdjoinedSets_define 33 = .ok (.aload_n 0, 1) := by decide +kernel
theorem d_AdjoinedSets_define_34 : decode b_AdjoinedSets_define 34 = .ok (.getfield 39, 3) := by decide +kernel
theorem d_AdjoinedSets_define_37 : decode b_AdjoinedSets_define 37 = .ok (.iload_n 1, 1) := by decide +kernel
theorem d_AdjoinedSets_define_38 : decode b_AdjoinedSets_define 38 = .ok (.iload_n 2, 1) := by decide +kernel
theorem d_AdjoinedSets_define_39 : decode b_AdjoinedSets_define 39 = .ok (.invokevirtual 100, 3) := by decide +kernel
theorem d_AdjoinedSets_define_42 : decode b_AdjoinedSets_define 42 = .ok (.istore_n 3, 1) := by decide +kernel
theorem d_AdjoinedSets_define_43 : decode b_AdjoinedSets_define 43 = .ok (.iload_n 3, 1) := by decide +kernel
theorem d_AdjoinedSets_define_44 : decode b_AdjoinedSets_define 44 = .ok (.ifCond .lt 19, 3) := by decide +kernel
theorem d_AdjoinedSets_define_47 : decode b_AdjoinedSets_define 47 = .ok (.aload_n 0, 1) := by decide +kernel
theorem d_AdjoinedSets_define_48 : decode b_AdjoinedSets_define 48 = .ok (.getfield 22, 3) := by decide +kernel
theorem d_AdjoinedSets_define_51 : decode b_AdjoinedSets_define 51 = .ok (.iload_n 1, 1) := by decide +kernel
theorem d_AdjoinedSets_define_52 : decode b_AdjoinedSets_define 52 = .ok (.aaload, 1) := by decide +kernel
theorem d_AdjoinedSets_define_53 : decode b_AdjoinedSets_define 53 = .ok (.iload_n 2, 1) := by decide +kernel
theorem d_AdjoinedSets_define_54 : decode b_AdjoinedSets_define 54 = .ok (.aload_n 0, 1) := by decide +kernel
theorem d_AdjoinedSets_define_55 : decode b_AdjoinedSets_define 55 = .ok (.getfield 16, 3) := by decide +kernel
theorem d_AdjoinedSets_define_58 : decode b_AdjoinedSets_define 58 = .ok (.invokevirtual 104, 3) := by decide +kernel
theorem d_AdjoinedSets_define_61 : decode b_AdjoinedSets_define 61 = .ok (.iconst 0, 1) := by decide +kernel
theorem d_AdjoinedSets_define_62 : decode b_AdjoinedSets_define 62 = .ok (.istore_n 3, 1) := by decide +kernel
theorem d_AdjoinedSets_define_63 : decode b_AdjoinedSets_define 63 = .ok (.aload_n 0, 1) := by decide +kernel
theorem d_AdjoinedSets_define_64 : decode b_AdjoinedSets_define 64 = .ok (.getfield 16, 3) := by decide +kernel
theorem d_AdjoinedSets_define_67 : decode b_AdjoinedSets_define 67 = .ok (.invokevirtual 73, 3) := by decide +kernel
theorem d_AdjoinedSets_define_70 : decode b_AdjoinedSets_define 70 = .ok (.iload_n 3, 1) := by decide +kernel
theorem d_AdjoinedSets_define_71 : decode b_AdjoinedSets_define 71 = .ok (.ireturn, 1) := by decide +kernel
def s_AdjoinedSets_define_63 (x0 : Nat) (x3 : Int32) (h : HP) : Option (Int32 × HP) :=
  (gR h x0 8 1).bind fun v1 =>
  (kd v1 0).bind fun _ =>
  (s_Text_empty v1 h).bind fun q4 =>
  some (x3, q4)
set_option maxHeartbeats 4000000 in
set_option maxRecDepth 100000 in
theorem k_AdjoinedSets_define_63 {x0 : Nat} {x3 : Int32} {h : HP} {z : Int32 × HP} (C : CX g R_AdjoinedSets b_AdjoinedSets_define 4 (some .int) p s m args meth c) {H : Heap} {locs : List Loc} {ls : Array Slot} (hw : WD g h s.heap H locs) (hl : lv_has ls 4 [(0, .ref (aD g x0)), (3, .int x3)]) (hs : s_AdjoinedSets_define_63 x0 x3 h = some z) : W p l e (rmS 73 2098) s m args below meth c H locs 0 0 (MQ below (Qq g (some (.int z.1)) z.2) args s 0 0 (inA g)) (F0 m 63 ls []) := by
  unfold s_AdjoinedSets_define_63 at hs
  have hx := C.1
  have hb := C.2.1
  refine lv_aload_n hx hb d_AdjoinedSets_define_63 rfl (lv_at hl 0 rfl) ?_
  obtain ⟨v1, e2, hs⟩ := ob hs
  refine pg_getR C hw fl_AdjoinedSets_16 e2 d_AdjoinedSets_define_64 ?_
  obtain ⟨_, e3, hs⟩ := ob hs
  obtain ⟨q4, e5, hs⟩ := ob hs
  refine pg_callV C hw hl.1 ml_AdjoinedSets_73 e3 (As := []) (rest := []) (c_Text_empty l g e5) rfl (rm_ok (Nat.le_of_ble_eq_true rfl) (Nat.le_of_ble_eq_true rfl)) (Nat.le_of_ble_eq_true rfl) rfl (st1 := []) rfl d_AdjoinedSets_define_67 (fun H locs hw => ?_)
  refine lv_iload_n hx hb d_AdjoinedSets_define_70 rfl (lv_at hl 1 rfl) ?_
  obtain rfl := Option.some.inj hs
  exact pg_iret C hw d_AdjoinedSets_define_71

def s_AdjoinedSets_define (x0 : Nat) (x1 : Int32) (x2 : Int32) (h : HP) : Option (Int32 × HP) :=
  if x1 < 0 then (
    some ((-1), h))
  else (
    if 4 ≤ x1 then (
      some ((-1), h))
    else (
      (gR h x0 8 2).bind fun v1 =>
      (aR v1 4 x1).bind fun v3 =>
      (kd v3 1).bind fun _ =>
      (s_Function_takes v3 h).bind fun q6 =>
      if q6 = 0 then (
        if x2 < 1 then (
          some ((-1), h))
        else (
          if x2 ≤ 3 then (
            (gR h x0 8 4).bind fun v8 =>
            (kd v8 3).bind fun _ =>
            (s_Reader_readBody v8 x1 x2 h).bind fun q11 =>
            if q11.1 < 0 then (
              s_AdjoinedSets_define_63 x0 q11.1 q11.2)
            else (
              (gR q11.2 x0 8 2).bind fun v13 =>
              (aR v13 4 x1).bind fun v15 =>
              (gR q11.2 x0 8 1).bind fun v17 =>
              (kd v15 1).bind fun _ =>
              (s_Function_become v15 x2 v17 q11.2).bind fun q20 =>
              s_AdjoinedSets_define_63 x0 0 q20))
          else (
            some ((-1), h))))
      else (
        some ((-1), h))))
set_option maxHeartbeats 4000000 in
set_option maxRecDepth 100000 in
theorem c_AdjoinedSets_define (l : Launch) (g : GG) {x0 : Nat} {x1 : Int32} {x2 : Int32} {h : HP} {z : Int32 × HP} (hs : s_AdjoinedSets_define x0 x1 x2 h = some z) : Ct l g y_AdjoinedSets_define w_AdjoinedSets_define (rmS 73 2098) [.ref (aD g x0), .int x1, .int x2] h (some (.int z.1)) z.2 := by
  refine Ct.of (own := R_AdjoinedSets) (by decide) rfl rfl (Nat.le_of_ble_eq_true rfl) ?_
  intro p e s m args below meth c ls C hl hw
  have hx := C.1
  have hb := C.2.1
  have hl : lv_has ls 4 [(0, .ref (aD g x0)), (1, .int x1), (2, .int x2)] := hl
  unfold s_AdjoinedSets_define at hs
  refine lv_iload_n hx hb d_AdjoinedSets_define_0 rfl (lv_at hl 1 rfl) ?_
  refine lv_if_lt hx hb d_AdjoinedSets_define_1 (tgt := 31) (by decide) (fun hc => ?_) (fun hc => ?_)
  · have hs := oi_t hc hs
    refine lv_iconst (v := (-1)) hx hb d_AdjoinedSets_define_31 (by decide) ?_
    obtain rfl := Option.some.inj hs
    exact pg_iret C hw d_AdjoinedSets_define_32
  · have hs := oi_f hc hs
    refine lv_iload_n hx hb d_AdjoinedSets_define_4 rfl (lv_at hl 1 rfl) ?_
    refine lv_iconst (v := 4) hx hb d_AdjoinedSets_define_5 (by decide) ?_
    refine lv_icmp_ge hx hb d_AdjoinedSets_define_6 (tgt := 31) (by decide) (fun hc => ?_) (fun hc => ?_)
    · have hs := oi_t hc hs
      refine lv_iconst (v := (-1)) hx hb d_AdjoinedSets_define_31 (by decide) ?_
      obtain rfl := Option.some.inj hs
      exact pg_iret C hw d_AdjoinedSets_define_32
    · have hs := oi_f hc hs
      refine lv_aload_n hx hb d_AdjoinedSets_define_9 rfl (lv_at hl 0 rfl) ?_
      obtain ⟨v1, e2, hs⟩ := ob hs
      refine pg_getR C hw fl_AdjoinedSets_22 e2 d_AdjoinedSets_define_10 ?_
      refine lv_iload_n hx hb d_AdjoinedSets_define_13 rfl (lv_at hl 1 rfl) ?_
      obtain ⟨v3, e4, hs⟩ := ob hs
      refine pg_aaload C hw (t0 := 4) rfl e4 d_AdjoinedSets_define_14 ?_
      obtain ⟨_, e5, hs⟩ := ob hs
      obtain ⟨q6, e7, hs⟩ := ob hs
      refine pg_callV C hw hl.1 ml_AdjoinedSets_97 e5 (As := []) (rest := []) (c_Function_takes l g e7) rfl (rm_ok (Nat.le_of_ble_eq_true rfl) (Nat.le_of_ble_eq_true rfl)) (Nat.le_of_ble_eq_true rfl) rfl (st1 := [.int q6]) rfl d_AdjoinedSets_define_15 (fun H locs hw => ?_)
      refine lv_if_ne hx hb d_AdjoinedSets_define_18 (tgt := 31) (by decide) (fun hc => ?_) (fun hc => ?_)
      · have hs := oi_f hc hs
        refine lv_iconst (v := (-1)) hx hb d_AdjoinedSets_define_31 (by decide) ?_
        obtain rfl := Option.some.inj hs
        exact pg_iret C hw d_AdjoinedSets_define_32
      · have hs := oi_t hc hs
        refine lv_iload_n hx hb d_AdjoinedSets_define_21 rfl (lv_at hl 2 rfl) ?_
        refine lv_iconst (v := 1) hx hb d_AdjoinedSets_define_22 (by decide) ?_
        refine lv_icmp_lt hx hb d_AdjoinedSets_define_23 (tgt := 31) (by decide) (fun hc => ?_) (fun hc => ?_)
        · have hs := oi_t hc hs
          refine lv_iconst (v := (-1)) hx hb d_AdjoinedSets_define_31 (by decide) ?_
          obtain rfl := Option.some.inj hs
          exact pg_iret C hw d_AdjoinedSets_define_32
        · have hs := oi_f hc hs
          refine lv_iload_n hx hb d_AdjoinedSets_define_26 rfl (lv_at hl 2 rfl) ?_
          refine lv_iconst (v := 3) hx hb d_AdjoinedSets_define_27 (by decide) ?_
          refine lv_icmp_le hx hb d_AdjoinedSets_define_28 (tgt := 33) (by decide) (fun hc => ?_) (fun hc => ?_)
          · have hs := oi_t hc hs
            refine lv_aload_n hx hb d_AdjoinedSets_define_33 rfl (lv_at hl 0 rfl) ?_
            obtain ⟨v8, e9, hs⟩ := ob hs
            refine pg_getR C hw fl_AdjoinedSets_39 e9 d_AdjoinedSets_define_34 ?_
            refine lv_iload_n hx hb d_AdjoinedSets_define_37 rfl (lv_at hl 1 rfl) ?_
            refine lv_iload_n hx hb d_AdjoinedSets_define_38 rfl (lv_at hl 2 rfl) ?_
            obtain ⟨_, e10, hs⟩ := ob hs
            obtain ⟨q11, e12, hs⟩ := ob hs
            refine pg_callV C hw hl.1 ml_AdjoinedSets_100 e10 (As := [.int x1, .int x2]) (rest := []) (c_Reader_readBody l g e12) rfl (rm_ok (Nat.le_of_ble_eq_true rfl) (Nat.le_of_ble_eq_true rfl)) (Nat.le_of_ble_eq_true rfl) rfl (st1 := [.int q11.1]) rfl d_AdjoinedSets_define_39 (fun H locs hw => ?_)
            refine lv_istore_n hx hb d_AdjoinedSets_define_42 rfl hl (by decide) (lv' := [(3, .int q11.1), (0, .ref (aD g x0)), (1, .int x1), (2, .int x2)]) rfl (fun ls hl => ?_)
            refine lv_iload_n hx hb d_AdjoinedSets_define_43 rfl (lv_at hl 0 rfl) ?_
            refine lv_if_lt hx hb d_AdjoinedSets_define_44 (tgt := 63) (by decide) (fun hc => ?_) (fun hc => ?_)
            · have hs := oi_t hc hs
              exact k_AdjoinedSets_define_63 C hw (lv_sub hl [1, 0] rfl) hs
            · have hs := oi_f hc hs
              refine lv_aload_n hx hb d_AdjoinedSets_define_47 rfl (lv_at hl 1 rfl) ?_
              obtain ⟨v13, e14, hs⟩ := ob hs
              refine pg_getR C hw fl_AdjoinedSets_22 e14 d_AdjoinedSets_define_48 ?_
              refine lv_iload_n hx hb d_AdjoinedSets_define_51 rfl (lv_at hl 2 rfl) ?_
              obtain ⟨v15, e16, hs⟩ := ob hs
              refine pg_aaload C hw (t0 := 4) rfl e16 d_AdjoinedSets_define_52 ?_
              refine lv_iload_n hx hb d_AdjoinedSets_define_53 rfl (lv_at hl 3 rfl) ?_
              refine lv_aload_n hx hb d_AdjoinedSets_define_54 rfl (lv_at hl 1 rfl) ?_
              obtain ⟨v17, e18, hs⟩ := ob hs
              refine pg_getR C hw fl_AdjoinedSets_16 e18 d_AdjoinedSets_define_55 ?_
              obtain ⟨_, e19, hs⟩ := ob hs
              obtain ⟨q20, e21, hs⟩ := ob hs
              refine pg_callV C hw hl.1 ml_AdjoinedSets_104 e19 (As := [.int x2, .ref (aD g v17)]) (rest := []) (c_Function_become l g e21) rfl (rm_ok (Nat.le_of_ble_eq_true rfl) (Nat.le_of_ble_eq_true rfl)) (Nat.le_of_ble_eq_true rfl) rfl (st1 := []) rfl d_AdjoinedSets_define_58 (fun H locs hw => ?_)
              refine lv_iconst (v := 0) hx hb d_AdjoinedSets_define_61 (by decide) ?_
              refine lv_istore_n hx hb d_AdjoinedSets_define_62 rfl hl (by decide) (lv' := [(3, .int 0), (0, .ref (aD g x0)), (1, .int x1), (2, .int x2)]) rfl (fun ls hl => ?_)
              exact k_AdjoinedSets_define_63 C hw (lv_sub hl [1, 0] rfl) hs
          · have hs := oi_f hc hs
            refine lv_iconst (v := (-1)) hx hb d_AdjoinedSets_define_31 (by decide) ?_
            obtain rfl := Option.some.inj hs
            exact pg_iret C hw d_AdjoinedSets_define_32

end
section
variable {p : Program} {l : Launch} {e : Env} {s : State} {m : MethodId} {args : Array Value} {below : List Frame} {meth : Method} {c : Code} {g : GG}
theorem d_AdjoinedSets_truth_0 : decode b_AdjoinedSets_truth 0 = .ok (.aload_n 0, 1) := by decide +kernel
theorem d_AdjoinedSets_truth_1 : decode b_AdjoinedSets_truth 1 = .ok (.getfield 39, 3) := by decide +kernel
theorem d_AdjoinedSets_truth_4 : decode b_AdjoinedSets_truth 4 = .ok (.invokevirtual 90, 3) := by decide +kernel
theorem d_AdjoinedSets_truth_7 : decode b_AdjoinedSets_truth 7 = .ok (.istore_n 1, 1) := by decide +kernel
theorem d_AdjoinedSets_truth_8 : decode b_AdjoinedSets_truth 8 = .ok (.iload_n 1, 1) := by decide +kernel
theorem d_AdjoinedSets_truth_9 : decode b_AdjoinedSets_truth 9 = .ok (.ifCond .lt 19, 3) := by decide +kernel
theorem d_AdjoinedSets_truth_12 : decode b_AdjoinedSets_truth 12 = .ok (.aload_n 0, 1) := by decide +kernel
theorem d_AdjoinedSets_truth_13 : decode b_AdjoinedSets_truth 13 = .ok (.invokevirtual 83, 3) := by decide +kernel
theorem d_AdjoinedSets_truth_16 : decode b_AdjoinedSets_truth 16 = .ok (.aload_n 0, 1) := by decide +kernel
theorem d_AdjoinedSets_truth_17 : decode b_AdjoinedSets_truth 17 = .ok (.getfield 48, 3) := by decide +kernel
theorem d_AdjoinedSets_truth_20 : decode b_AdjoinedSets_truth 20 = .ok (.aload_n 0, 1) := by decide +kernel
theorem d_AdjoinedSets_truth_21 : decode b_AdjoinedSets_truth 21 = .ok (.getfield 16, 3) := by decide +kernel
theorem d_AdjoinedSets_truth_24 : decode b_AdjoinedSets_truth 24 = .ok (.invokevirtual 93, 3) := by decide +kernel
theorem d_AdjoinedSets_truth_27 : decode b_AdjoinedSets_truth 27 = .ok (.istore_n 1, 1) := by decide +kernel
theorem d_AdjoinedSets_truth_28 : decode b_AdjoinedSets_truth 28 = .ok (.aload_n 0, 1) := by decide +kernel
theorem d_AdjoinedSets_truth_29 : decode b_AdjoinedSets_truth 29 = .ok (.getfield 16, 3) := by decide +kernel
theorem d_AdjoinedSets_truth_32 : decode b_AdjoinedSets_truth 32 = .ok (.invokevirtual 73, 3) := by decide +kernel
theorem d_AdjoinedSets_truth_35 : decode b_AdjoinedSets_truth 35 = .ok (.iload_n 1, 1) := by decide +kernel
theorem d_AdjoinedSets_truth_36 : decode b_AdjoinedSets_truth 36 = .ok (.ireturn, 1) := by decide +kernel
def s_AdjoinedSets_truth_28 (x0 : Nat) (x1 : Int32) (h : HP) : Option (Int32 × HP) :=
  (gR h x0 8 1).bind fun v1 =>
  (kd v1 0).bind fun _ =>
  (s_Text_empty v1 h).bind fun q4 =>
  some (x1, q4)
set_option maxHeartbeats 4000000 in
set_option maxRecDepth 100000 in
theorem k_AdjoinedSets_truth_28 {x0 : Nat} {x1 : Int32} {h : HP} {z : Int32 × HP} (C : CX g R_AdjoinedSets b_AdjoinedSets_truth 2 (some .int) p s m args meth c) {H : Heap} {locs : List Loc} {ls : Array Slot} (hw : WD g h s.heap H locs) (hl : lv_has ls 2 [(0, .ref (aD g x0)), (1, .int x1)]) (hs : s_AdjoinedSets_truth_28 x0 x1 h = some z) : W p l e (rmS 155 5215) s m args below meth c H locs 0 0 (MQ below (Qq g (some (.int z.1)) z.2) args s 0 0 (inA g)) (F0 m 28 ls []) := by
  unfold s_AdjoinedSets_truth_28 at hs
  have hx := C.1
  have hb := C.2.1
  refine lv_aload_n hx hb d_AdjoinedSets_truth_28 rfl (lv_at hl 0 rfl) ?_
  obtain ⟨v1, e2, hs⟩ := ob hs
  refine pg_getR C hw fl_AdjoinedSets_16 e2 d_AdjoinedSets_truth_29 ?_
  obtain ⟨_, e3, hs⟩ := ob hs
  obtain ⟨q4, e5, hs⟩ := ob hs
  refine pg_callV C hw hl.1 ml_AdjoinedSets_73 e3 (As := []) (rest := []) (c_Text_empty l g e5) rfl (rm_ok (Nat.le_of_ble_eq_true rfl) (Nat.le_of_ble_eq_true rfl)) (Nat.le_of_ble_eq_true rfl) rfl (st1 := []) rfl d_AdjoinedSets_truth_32 (fun H locs hw => ?_)
  refine lv_iload_n hx hb d_AdjoinedSets_truth_35 rfl (lv_at hl 1 rfl) ?_
  obtain rfl := Option.some.inj hs
  exact pg_iret C hw d_AdjoinedSets_truth_36

def s_AdjoinedSets_truth (x0 : Nat) (h : HP) : Option (Int32 × HP) :=
  (gR h x0 8 4).bind fun v1 =>
  (kd v1 3).bind fun _ =>
  (s_Reader_readFormula v1 h).bind fun q4 =>
  if q4.1 < 0 then (
    s_AdjoinedSets_truth_28 x0 q4.1 q4.2)
  else (
    (kd x0 8).bind fun _ =>
    (s_AdjoinedSets_giveValues x0 q4.2).bind fun q7 =>
    (gR q7 x0 8 5).bind fun v9 =>
    (gR q7 x0 8 1).bind fun v11 =>
    (kd v9 4).bind fun _ =>
    (s_Worker_truthOf v9 v11 q7).bind fun q14 =>
    s_AdjoinedSets_truth_28 x0 q14.1 q14.2)
set_option maxHeartbeats 4000000 in
set_option maxRecDepth 100000 in
theorem c_AdjoinedSets_truth (l : Launch) (g : GG) {x0 : Nat} {h : HP} {z : Int32 × HP} (hs : s_AdjoinedSets_truth x0 h = some z) : Ct l g y_AdjoinedSets_truth w_AdjoinedSets_truth (rmS 155 5215) [.ref (aD g x0)] h (some (.int z.1)) z.2 := by
  refine Ct.of (own := R_AdjoinedSets) (by decide) rfl rfl (Nat.le_of_ble_eq_true rfl) ?_
  intro p e s m args below meth c ls C hl hw
  have hx := C.1
  have hb := C.2.1
  have hl : lv_has ls 2 [(0, .ref (aD g x0))] := hl
  unfold s_AdjoinedSets_truth at hs
  refine lv_aload_n hx hb d_AdjoinedSets_truth_0 rfl (lv_at hl 0 rfl) ?_
  obtain ⟨v1, e2, hs⟩ := ob hs
  refine pg_getR C hw fl_AdjoinedSets_39 e2 d_AdjoinedSets_truth_1 ?_
  obtain ⟨_, e3, hs⟩ := ob hs
  obtain ⟨q4, e5, hs⟩ := ob hs
  refine pg_callV C hw hl.1 ml_AdjoinedSets_90 e3 (As := []) (rest := []) (c_Reader_readFormula l g e5) rfl (rm_ok (Nat.le_of_ble_eq_true rfl) (Nat.le_of_ble_eq_true rfl)) (Nat.le_of_ble_eq_true rfl) rfl (st1 := [.int q4.1]) rfl d_AdjoinedSets_truth_4 (fun H locs hw => ?_)
  refine lv_istore_n hx hb d_AdjoinedSets_truth_7 rfl hl (by decide) (lv' := [(1, .int q4.1), (0, .ref (aD g x0))]) rfl (fun ls hl => ?_)
  refine lv_iload_n hx hb d_AdjoinedSets_truth_8 rfl (lv_at hl 0 rfl) ?_
  refine lv_if_lt hx hb d_AdjoinedSets_truth_9 (tgt := 28) (by decide) (fun hc => ?_) (fun hc => ?_)
  · have hs := oi_t hc hs
    exact k_AdjoinedSets_truth_28 C hw (lv_sub hl [1, 0] rfl) hs
  · have hs := oi_f hc hs
    refine lv_aload_n hx hb d_AdjoinedSets_truth_12 rfl (lv_at hl 1 rfl) ?_
    obtain ⟨_, e6, hs⟩ := ob hs
    obtain ⟨q7, e8, hs⟩ := ob hs
    refine pg_callV C hw hl.1 ml_AdjoinedSets_83 e6 (As := []) (rest := []) (c_AdjoinedSets_giveValues l g e8) rfl (rm_ok (Nat.le_of_ble_eq_true rfl) (Nat.le_of_ble_eq_true rfl)) (Nat.le_of_ble_eq_true rfl) rfl (st1 := []) rfl d_AdjoinedSets_truth_13 (fun H locs hw => ?_)
    refine lv_aload_n hx hb d_AdjoinedSets_truth_16 rfl (lv_at hl 1 rfl) ?_
    obtain ⟨v9, e10, hs⟩ := ob hs
    refine pg_getR C hw fl_AdjoinedSets_48 e10 d_AdjoinedSets_truth_17 ?_
    refine lv_aload_n hx hb d_AdjoinedSets_truth_20 rfl (lv_at hl 1 rfl) ?_
    obtain ⟨v11, e12, hs⟩ := ob hs
    refine pg_getR C hw fl_AdjoinedSets_16 e12 d_AdjoinedSets_truth_21 ?_
    obtain ⟨_, e13, hs⟩ := ob hs
    obtain ⟨q14, e15, hs⟩ := ob hs
    refine pg_callV C hw hl.1 ml_AdjoinedSets_93 e13 (As := [.ref (aD g v11)]) (rest := []) (c_Worker_truthOf l g e15) rfl (rm_ok (Nat.le_of_ble_eq_true rfl) (Nat.le_of_ble_eq_true rfl)) (Nat.le_of_ble_eq_true rfl) rfl (st1 := [.int q14.1]) rfl d_AdjoinedSets_truth_24 (fun H locs hw => ?_)
    refine lv_istore_n hx hb d_AdjoinedSets_truth_27 rfl hl (by decide) (lv' := [(1, .int q14.1), (0, .ref (aD g x0))]) rfl (fun ls hl => ?_)
    exact k_AdjoinedSets_truth_28 C hw (lv_sub hl [1, 0] rfl) hs

end
