section
variable {p : Program} {l : Launch} {e : Env} {s : State} {m : MethodId} {args : Array Value} {below : List Frame} {meth : Method} {c : Code} {g : GG}
theorem d_AdjoinedSetsModel_follows_0 : decode b_AdjoinedSetsModel_follows 0 = .ok (.aload_n 0, 1) := by decide +kernel
theorem d_AdjoinedSetsModel_follows_1 : decode b_AdjoinedSetsModel_follows 1 = .ok (.iload_n 2, 1) := by decide +kernel
theorem d_AdjoinedSetsModel_follows_2 : decode b_AdjoinedSetsModel_follows 2 = .ok (.invokevirtual 271, 3) := by decide +kernel
theorem d_AdjoinedSetsModel_follows_5 : decode b_AdjoinedSetsModel_follows 5 = .ok (.istore_n 3, 1) := by decide +kernel
theorem d_AdjoinedSetsModel_follows_6 : decode b_AdjoinedSetsModel_follows 6 = .ok (.aload_n 0, 1) := by decide +kernel
theorem d_AdjoinedSetsModel_follows_7 : decode b_AdjoinedSetsModel_follows 7 = .ok (.getfield 20, 3) := by decide +kernel
theorem d_AdjoinedSetsModel_follows_10 : decode b_AdjoinedSetsModel_follows 10 = .ok (.iload_n 2, 1) := by decide +kernel
theorem d_AdjoinedSetsModel_follows_11 : decode b_AdjoinedSetsModel_follows 11 = .ok (.iaload, 1) := by decide +kernel
theorem d_AdjoinedSetsModel_follows_12 : decode b_AdjoinedSetsModel_follows 12 = .ok (.iconst 1, 1) := by decide +kernel
theorem d_AdjoinedSetsModel_follows_13 : decode b_AdjoinedSetsModel_follows 13 = .ok (.aload_n 0, 1) := by decide +kernel
theorem d_AdjoinedSetsModel_follows_14 : decode b_AdjoinedSetsModel_follows 14 = .ok (.getfield 20, 3) := by decide +kernel
theorem d_AdjoinedSetsModel_follows_17 : decode b_AdjoinedSetsModel_follows 17 = .ok (.iload_n 1, 1) := by decide +kernel
theorem d_AdjoinedSetsModel_follows_18 : decode b_AdjoinedSetsModel_follows 18 = .ok (.iaload, 1) := by decide +kernel
theorem d_AdjoinedSetsModel_follows_19 : decode b_AdjoinedSetsModel_follows 19 = .ok (.iadd, 1) := by decide +kernel
theorem d_AdjoinedSetsModel_follows_20 : decode b_AdjoinedSetsModel_follows 20 = .ok (.aload_n 0, 1) := by decide +kernel
theorem d_AdjoinedSetsModel_follows_21 : decode b_AdjoinedSetsModel_follows 21 = .ok (.getfield 124, 3) := by decide +kernel
theorem d_AdjoinedSetsModel_follows_24 : decode b_AdjoinedSetsModel_follows 24 = .ok (.iadd, 1) := by decide +kernel
theorem d_AdjoinedSetsModel_follows_25 : decode b_AdjoinedSetsModel_follows 25 = .ok (.if_icmp .ne 61, 3) := by decide +kernel
theorem d_AdjoinedSetsModel_follows_28 : decode b_AdjoinedSetsModel_follows 28 = .ok (.aload_n 0, 1) := by decide +kernel
theorem d_AdjoinedSetsModel_follows_29 : decode b_AdjoinedSetsModel_follows 29 = .ok (.getfield 7, 3) := by decide +kernel
theorem d_AdjoinedSetsModel_follows_32 : decode b_AdjoinedSetsModel_follows 32 = .ok (.iload_n 3, 1) := by decide +kernel
theorem d_AdjoinedSetsModel_follows_33 : decode b_AdjoinedSetsModel_follows 33 = .ok (.iaload, 1) := by decide +kernel
theorem d_AdjoinedSetsModel_follows_34 : decode b_AdjoinedSetsModel_follows 34 = .ok (.bipush 62, 2) := by decide +kernel
theorem d_AdjoinedSetsModel_follows_36 : decode b_AdjoinedSetsModel_follows 36 = .ok (.if_icmp .ne 50, 3) := by decide +kernel
theorem d_AdjoinedSetsModel_follows_39 : decode b_AdjoinedSetsModel_follows 39 = .ok (.aload_n 0, 1) := by decide +kernel
theorem d_AdjoinedSetsModel_follows_40 : decode b_AdjoinedSetsModel_follows 40 = .ok (.iload_n 3, 1) := by decide +kernel
theorem d_AdjoinedSetsModel_follows_41 : decode b_AdjoinedSetsModel_follows 41 = .ok (.iconst 1, 1) := by decide +kernel
theorem d_AdjoinedSetsModel_follows_42 : decode b_AdjoinedSetsModel_follows 42 = .ok (.iadd, 1) := by decide +kernel
theorem d_AdjoinedSetsModel_follows_43 : decode b_AdjoinedSetsModel_follows 43 = .ok (.aload_n 0, 1) := by decide +kernel
theorem d_AdjoinedSetsModel_follows_44 : decode b_AdjoinedSetsModel_follows 44 = .ok (.iload_n 1, 1) := by decide +kernel
theorem d_AdjoinedSetsModel_follows_45 : decode b_AdjoinedSetsModel_follows 45 = .ok (.invokevirtual 271, 3) := by decide +kernel
theorem d_AdjoinedSetsModel_follows_48 : decode b_AdjoinedSetsModel_follows 48 = .ok (.aload_n 0, 1) := by decide +kernel
theorem d_AdjoinedSetsModel_follows_49 : decode b_AdjoinedSetsModel_follows 49 = .ok (.getfield 20, 3) := by decide +kernel
theorem d_AdjoinedSetsModel_follows_52 : decode b_AdjoinedSetsModel_follows 52 = .ok (.iload_n 1, 1) := by decide +kernel
theorem d_AdjoinedSetsModel_follows_53 : decode b_AdjoinedSetsModel_follows 53 = .ok (.iaload, 1) := by decide +kernel
theorem d_AdjoinedSetsModel_follows_54 : decode b_AdjoinedSetsModel_follows 54 = .ok (.invokevirtual 240, 3) := by decide +kernel
theorem d_AdjoinedSetsModel_follows_57 : decode b_AdjoinedSetsModel_follows 57 = .ok (.ifCond .eq 29, 3) := by decide +kernel
theorem d_AdjoinedSetsModel_follows_60 : decode b_AdjoinedSetsModel_follows 60 = .ok (.aload_n 0, 1) := by decide +kernel
theorem d_AdjoinedSetsModel_follows_61 : decode b_AdjoinedSetsModel_follows 61 = .ok (.iload_n 3, 1) := by decide +kernel
theorem d_AdjoinedSetsModel_follows_62 : decode b_AdjoinedSetsModel_follows 62 = .ok (.iconst 1, 1) := by decide +kernel
theorem d_AdjoinedSetsModel_follows_63 : decode b_AdjoinedSetsModel_follows 63 = .ok (.iadd, 1) := by decide +kernel
theorem d_AdjoinedSetsModel_follows_64 : decode b_AdjoinedSetsModel_follows 64 = .ok (.aload_n 0, 1) := by decide +kernel
theorem d_AdjoinedSetsModel_follows_65 : decode b_AdjoinedSetsModel_follows 65 = .ok (.getfield 20, 3) := by decide +kernel
theorem d_AdjoinedSetsModel_follows_68 : decode b_AdjoinedSetsModel_follows 68 = .ok (.iload_n 1, 1) := by decide +kernel
theorem d_AdjoinedSetsModel_follows_69 : decode b_AdjoinedSetsModel_follows 69 = .ok (.iaload, 1) := by decide +kernel
theorem d_AdjoinedSetsModel_follows_70 : decode b_AdjoinedSetsModel_follows 70 = .ok (.iadd, 1) := by decide +kernel
theorem d_AdjoinedSetsModel_follows_71 : decode b_AdjoinedSetsModel_follows 71 = .ok (.iconst 0, 1) := by decide +kernel
theorem d_AdjoinedSetsModel_follows_72 : decode b_AdjoinedSetsModel_follows 72 = .ok (.aload_n 0, 1) := by decide +kernel
theorem d_AdjoinedSetsModel_follows_73 : decode b_AdjoinedSetsModel_follows 73 = .ok (.getfield 124, 3) := by decide +kernel
theorem d_AdjoinedSetsModel_follows_76 : decode b_AdjoinedSetsModel_follows 76 = .ok (.invokevirtual 240, 3) := by decide +kernel
theorem d_AdjoinedSetsModel_follows_79 : decode b_AdjoinedSetsModel_follows 79 = .ok (.ifCond .eq 7, 3) := by decide +kernel
theorem d_AdjoinedSetsModel_follows_82 : decode b_AdjoinedSetsModel_follows 82 = .ok (.iconst 1, 1) := by decide +kernel
theorem d_AdjoinedSetsModel_follows_83 : decode b_AdjoinedSetsModel_follows 83 = .ok (.goto 4, 3) := by decide +kernel
theorem d_AdjoinedSetsModel_follows_86 : decode b_AdjoinedSetsModel_follows 86 = .ok (.iconst 0, 1) := by decide +kernel
theorem d_AdjoinedSetsModel_follows_87 : decode b_AdjoinedSetsModel_follows 87 = .ok (.ireturn, 1) := by decide +kernel
def s_AdjoinedSetsModel_follows (x0 : Nat) (x1 : Int32) (x2 : Int32) (h : HP) : Option (Int32) :=
  (kd x0 9).bind fun _ =>
  (s_AdjoinedSetsModel_theoremAt x0 x2).bind fun q2 =>
  (gR h x0 9 5).bind fun v4 =>
  (aI h v4 0 x2).bind fun v6 =>
  (gR h x0 9 5).bind fun v8 =>
  (aI h v8 0 x1).bind fun v10 =>
  (gI h x0 9 1).bind fun v12 =>
  if v6 = ((1 + v10) + v12) then (
    (gR h x0 9 0).bind fun v15 =>
    (aI h v15 0 q2).bind fun v17 =>
    if v17 = 62 then (
      (kd x0 9).bind fun _ =>
      (s_AdjoinedSetsModel_theoremAt x0 x1).bind fun q21 =>
      (gR h x0 9 5).bind fun v23 =>
      (aI h v23 0 x1).bind fun v25 =>
      (kd x0 9).bind fun _ =>
      (s_AdjoinedSetsModel_isSame x0 (q2 + 1) q21 v25 h).bind fun q28 =>
      if q28 = 0 then (
        some 0)
      else (
        (gR h x0 9 5).bind fun v31 =>
        (aI h v31 0 x1).bind fun v33 =>
        (gI h x0 9 1).bind fun v35 =>
        (kd x0 9).bind fun _ =>
        (s_AdjoinedSetsModel_isSame x0 ((q2 + 1) + v33) 0 v35 h).bind fun q38 =>
        if q38 = 0 then (
          some 0)
        else (
          some 1)))
    else (
      some 0))
  else (
    some 0)
set_option maxHeartbeats 4000000 in
set_option maxRecDepth 100000 in
theorem c_AdjoinedSetsModel_follows (l : Launch) (g : GG) {h : HP} {x0 : Nat} {x1 : Int32} {x2 : Int32} {z : Int32} (hs : s_AdjoinedSetsModel_follows x0 x1 x2 h = some z) : Ct l g y_AdjoinedSetsModel_follows w_AdjoinedSetsModel_follows (rmS 1 25) [.ref (aD g x0), .int x1, .int x2] h (some (.int z)) h := by
  refine Ct.of (own := R_AdjoinedSetsModel) (by decide) rfl rfl (Nat.le_of_ble_eq_true rfl) ?_
  intro p e s m args below meth c ls C hl hw
  have hx := C.1
  have hb := C.2.1
  have hl : lv_has ls 4 [(0, .ref (aD g x0)), (1, .int x1), (2, .int x2)] := hl
  unfold s_AdjoinedSetsModel_follows at hs
  refine lv_aload_n hx hb d_AdjoinedSetsModel_follows_0 rfl (lv_at hl 0 rfl) ?_
  refine lv_iload_n hx hb d_AdjoinedSetsModel_follows_1 rfl (lv_at hl 2 rfl) ?_
  obtain ⟨_, e1, hs⟩ := ob hs
  obtain ⟨q2, e3, hs⟩ := ob hs
  refine pg_callV C hw hl.1 ml_AdjoinedSetsModel_271 e1 (As := [.int x2]) (rest := []) (c_AdjoinedSetsModel_theoremAt l g e3) rfl (rm_ok (Nat.le_of_ble_eq_true rfl) (Nat.le_of_ble_eq_true rfl)) (Nat.le_of_ble_eq_true rfl) rfl (st1 := [.int q2]) rfl d_AdjoinedSetsModel_follows_2 (fun H locs hw => ?_)
  refine lv_istore_n hx hb d_AdjoinedSetsModel_follows_5 rfl hl (by decide) (lv' := [(3, .int q2), (0, .ref (aD g x0)), (1, .int x1), (2, .int x2)]) rfl (fun ls hl => ?_)
  refine lv_aload_n hx hb d_AdjoinedSetsModel_follows_6 rfl (lv_at hl 1 rfl) ?_
  obtain ⟨v4, e5, hs⟩ := ob hs
  refine pg_getR C hw fl_AdjoinedSetsModel_20 e5 d_AdjoinedSetsModel_follows_7 ?_
  refine lv_iload_n hx hb d_AdjoinedSetsModel_follows_10 rfl (lv_at hl 3 rfl) ?_
  obtain ⟨v6, e7, hs⟩ := ob hs
  refine pg_iaload C hw (t0 := 0) rfl e7 d_AdjoinedSetsModel_follows_11 ?_
  refine lv_iconst (v := 1) hx hb d_AdjoinedSetsModel_follows_12 (by decide) ?_
  refine lv_aload_n hx hb d_AdjoinedSetsModel_follows_13 rfl (lv_at hl 1 rfl) ?_
  obtain ⟨v8, e9, hs⟩ := ob hs
  refine pg_getR C hw fl_AdjoinedSetsModel_20 e9 d_AdjoinedSetsModel_follows_14 ?_
  refine lv_iload_n hx hb d_AdjoinedSetsModel_follows_17 rfl (lv_at hl 2 rfl) ?_
  obtain ⟨v10, e11, hs⟩ := ob hs
  refine pg_iaload C hw (t0 := 0) rfl e11 d_AdjoinedSetsModel_follows_18 ?_
  refine lv_iadd hx hb d_AdjoinedSetsModel_follows_19 ?_
  refine lv_aload_n hx hb d_AdjoinedSetsModel_follows_20 rfl (lv_at hl 1 rfl) ?_
  obtain ⟨v12, e13, hs⟩ := ob hs
  refine pg_getI C hw fl_AdjoinedSetsModel_124 e13 d_AdjoinedSetsModel_follows_21 ?_
  refine lv_iadd hx hb d_AdjoinedSetsModel_follows_24 ?_
  refine lv_icmp_ne hx hb d_AdjoinedSetsModel_follows_25 (tgt := 86) (by decide) (fun hc => ?_) (fun hc => ?_)
  · have hs := oi_f hc hs
    refine lv_iconst (v := 0) hx hb d_AdjoinedSetsModel_follows_86 (by decide) ?_
    obtain rfl := Option.some.inj hs
    exact pg_zret (v := 0) C hw rfl d_AdjoinedSetsModel_follows_87
  · have hs := oi_t hc hs
    refine lv_aload_n hx hb d_AdjoinedSetsModel_follows_28 rfl (lv_at hl 1 rfl) ?_
    obtain ⟨v15, e16, hs⟩ := ob hs
    refine pg_getR C hw fl_AdjoinedSetsModel_7 e16 d_AdjoinedSetsModel_follows_29 ?_
    refine lv_iload_n hx hb d_AdjoinedSetsModel_follows_32 rfl (lv_at hl 0 rfl) ?_
    obtain ⟨v17, e18, hs⟩ := ob hs
    refine pg_iaload C hw (t0 := 0) rfl e18 d_AdjoinedSetsModel_follows_33 ?_
    refine lv_bipush (v := 62) hx hb d_AdjoinedSetsModel_follows_34 (by decide) ?_
    refine lv_icmp_ne hx hb d_AdjoinedSetsModel_follows_36 (tgt := 86) (by decide) (fun hc => ?_) (fun hc => ?_)
    · have hs := oi_f hc hs
      refine lv_iconst (v := 0) hx hb d_AdjoinedSetsModel_follows_86 (by decide) ?_
      obtain rfl := Option.some.inj hs
      exact pg_zret (v := 0) C hw rfl d_AdjoinedSetsModel_follows_87
    · have hs := oi_t hc hs
      refine lv_aload_n hx hb d_AdjoinedSetsModel_follows_39 rfl (lv_at hl 1 rfl) ?_
      refine lv_iload_n hx hb d_AdjoinedSetsModel_follows_40 rfl (lv_at hl 0 rfl) ?_
      refine lv_iconst (v := 1) hx hb d_AdjoinedSetsModel_follows_41 (by decide) ?_
      refine lv_iadd hx hb d_AdjoinedSetsModel_follows_42 ?_
      refine lv_aload_n hx hb d_AdjoinedSetsModel_follows_43 rfl (lv_at hl 1 rfl) ?_
      refine lv_iload_n hx hb d_AdjoinedSetsModel_follows_44 rfl (lv_at hl 2 rfl) ?_
      obtain ⟨_, e20, hs⟩ := ob hs
      obtain ⟨q21, e22, hs⟩ := ob hs
      refine pg_callV C hw hl.1 ml_AdjoinedSetsModel_271 e20 (As := [.int x1]) (rest := [.int (q2 + 1), .ref (aD g x0)]) (c_AdjoinedSetsModel_theoremAt l g e22) rfl (rm_ok (Nat.le_of_ble_eq_true rfl) (Nat.le_of_ble_eq_true rfl)) (Nat.le_of_ble_eq_true rfl) rfl (st1 := [.int q21, .int (q2 + 1), .ref (aD g x0)]) rfl d_AdjoinedSetsModel_follows_45 (fun H locs hw => ?_)
      refine lv_aload_n hx hb d_AdjoinedSetsModel_follows_48 rfl (lv_at hl 1 rfl) ?_
      obtain ⟨v23, e24, hs⟩ := ob hs
      refine pg_getR C hw fl_AdjoinedSetsModel_20 e24 d_AdjoinedSetsModel_follows_49 ?_
      refine lv_iload_n hx hb d_AdjoinedSetsModel_follows_52 rfl (lv_at hl 2 rfl) ?_
      obtain ⟨v25, e26, hs⟩ := ob hs
      refine pg_iaload C hw (t0 := 0) rfl e26 d_AdjoinedSetsModel_follows_53 ?_
      obtain ⟨_, e27, hs⟩ := ob hs
      obtain ⟨q28, e29, hs⟩ := ob hs
      refine pg_callV C hw hl.1 ml_AdjoinedSetsModel_240 e27 (As := [.int (q2 + 1), .int q21, .int v25]) (rest := []) (c_AdjoinedSetsModel_isSame l g e29) rfl (rm_ok (Nat.le_of_ble_eq_true rfl) (Nat.le_of_ble_eq_true rfl)) (Nat.le_of_ble_eq_true rfl) rfl (st1 := [.int q28]) rfl d_AdjoinedSetsModel_follows_54 (fun H locs hw => ?_)
      refine lv_if_eq hx hb d_AdjoinedSetsModel_follows_57 (tgt := 86) (by decide) (fun hc => ?_) (fun hc => ?_)
      · have hs := oi_t hc hs
        refine lv_iconst (v := 0) hx hb d_AdjoinedSetsModel_follows_86 (by decide) ?_
        obtain rfl := Option.some.inj hs
        exact pg_zret (v := 0) C hw rfl d_AdjoinedSetsModel_follows_87
      · have hs := oi_f hc hs
        refine lv_aload_n hx hb d_AdjoinedSetsModel_follows_60 rfl (lv_at hl 1 rfl) ?_
        refine lv_iload_n hx hb d_AdjoinedSetsModel_follows_61 rfl (lv_at hl 0 rfl) ?_
        refine lv_iconst (v := 1) hx hb d_AdjoinedSetsModel_follows_62 (by decide) ?_
        refine lv_iadd hx hb d_AdjoinedSetsModel_follows_63 ?_
        refine lv_aload_n hx hb d_AdjoinedSetsModel_follows_64 rfl (lv_at hl 1 rfl) ?_
        obtain ⟨v31, e32, hs⟩ := ob hs
        refine pg_getR C hw fl_AdjoinedSetsModel_20 e32 d_AdjoinedSetsModel_follows_65 ?_
        refine lv_iload_n hx hb d_AdjoinedSetsModel_follows_68 rfl (lv_at hl 2 rfl) ?_
        obtain ⟨v33, e34, hs⟩ := ob hs
        refine pg_iaload C hw (t0 := 0) rfl e34 d_AdjoinedSetsModel_follows_69 ?_
        refine lv_iadd hx hb d_AdjoinedSetsModel_follows_70 ?_
        refine lv_iconst (v := 0) hx hb d_AdjoinedSetsModel_follows_71 (by decide) ?_
        refine lv_aload_n hx hb d_AdjoinedSetsModel_follows_72 rfl (lv_at hl 1 rfl) ?_
        obtain ⟨v35, e36, hs⟩ := ob hs
        refine pg_getI C hw fl_AdjoinedSetsModel_124 e36 d_AdjoinedSetsModel_follows_73 ?_
        obtain ⟨_, e37, hs⟩ := ob hs
        obtain ⟨q38, e39, hs⟩ := ob hs
        refine pg_callV C hw hl.1 ml_AdjoinedSetsModel_240 e37 (As := [.int ((q2 + 1) + v33), .int 0, .int v35]) (rest := []) (c_AdjoinedSetsModel_isSame l g e39) rfl (rm_ok (Nat.le_of_ble_eq_true rfl) (Nat.le_of_ble_eq_true rfl)) (Nat.le_of_ble_eq_true rfl) rfl (st1 := [.int q38]) rfl d_AdjoinedSetsModel_follows_76 (fun H locs hw => ?_)
        refine lv_if_eq hx hb d_AdjoinedSetsModel_follows_79 (tgt := 86) (by decide) (fun hc => ?_) (fun hc => ?_)
        · have hs := oi_t hc hs
          refine lv_iconst (v := 0) hx hb d_AdjoinedSetsModel_follows_86 (by decide) ?_
          obtain rfl := Option.some.inj hs
          exact pg_zret (v := 0) C hw rfl d_AdjoinedSetsModel_follows_87
        · have hs := oi_f hc hs
          refine lv_iconst (v := 1) hx hb d_AdjoinedSetsModel_follows_82 (by decide) ?_
          refine lv_goto hx hb d_AdjoinedSetsModel_follows_83 (tgt := 87) (by decide) ?_
          obtain rfl := Option.some.inj hs
          exact pg_zret (v := 1) C hw rfl d_AdjoinedSetsModel_follows_87

end
section
variable {p : Program} {l : Launch} {e : Env} {s : State} {m : MethodId} {args : Array Value} {below : List Frame} {meth : Method} {c : Code} {g : GG}
theorem d_AdjoinedSetsModel_noReplacing_0 : decode b_AdjoinedSetsModel_noReplacing 0 = .ok (.iconst 0, 1) := by decide +kernel
theorem d_AdjoinedSetsModel_noReplacing_1 : decode b_AdjoinedSetsModel_noReplacing 1 = .ok (.istore_n 1, 1) := by decide +kernel
theorem d_AdjoinedSetsModel_noReplacing_2 : decode b_AdjoinedSetsModel_noReplacing 2 = .ok (.iload_n 1, 1) := by decide +kernel
theorem d_AdjoinedSetsModel_noReplacing_3 : decode b_AdjoinedSetsModel_noReplacing 3 = .ok (.bipush 8, 2) := by decide +kernel
theorem d_AdjoinedSetsModel_noReplacing_5 : decode b_AdjoinedSetsModel_noReplacing 5 = .ok (.if_icmp .ge 16, 3) := by decide +kernel
theorem d_AdjoinedSetsModel_noReplacing_8 : decode b_AdjoinedSetsModel_noReplacing 8 = .ok (.aload_n 0, 1) := by decide +kernel
theorem d_AdjoinedSetsModel_noReplacing_9 : decode b_AdjoinedSetsModel_noReplacing 9 = .ok (.getfield 78, 3) := by decide +kernel
theorem d_AdjoinedSetsModel_noReplacing_12 : decode b_AdjoinedSetsModel_noReplacing 12 = .ok (.iload_n 1, 1) := by decide +kernel
theorem d_AdjoinedSetsModel_noReplacing_13 : decode b_AdjoinedSetsModel_noReplacing 13 = .ok (.iconst 0, 1) := by decide +kernel
theorem d_AdjoinedSetsModel_noReplacing_14 : decode b_AdjoinedSetsModel_noReplacing 14 = .ok (.iastore, 1) := by decide +kernel
theorem d_AdjoinedSetsModel_noReplacing_15 : decode b_AdjoinedSetsModel_noReplacing 15 = .ok (.iinc 1 1, 3) := by decide +kernel
theorem d_AdjoinedSetsModel_noReplacing_18 : decode b_AdjoinedSetsModel_noReplacing 18 = .ok (.goto (-16), 3) := by decide +kernel
theorem d_AdjoinedSetsModel_noReplacing_21 : decode b_AdjoinedSetsModel_noReplacing 21 = .ok (.return_, 1) := by decide +kernel
def s_AdjoinedSetsModel_noReplacing_2 : Nat → Nat → Int32 → HP → Option (HP)
  | 0 => fun _ _ _ => none
  | k + 1 => fun x0 x1 h =>
  if 8 ≤ x1 then (
    some h)
  else (
    (gR h x0 9 30).bind fun v1 =>
    (uI h v1 0 x1 0).bind fun h3 =>
    (s_AdjoinedSetsModel_noReplacing_2 k) x0 (x1 + 1) h3)
set_option maxHeartbeats 4000000 in
set_option maxRecDepth 100000 in
theorem k_AdjoinedSetsModel_noReplacing_2 {z : HP} (C : CX g R_AdjoinedSetsModel b_AdjoinedSetsModel_noReplacing 2 none p s m args meth c) : ∀ (k : Nat) {x0 : Nat} {x1 : Int32} {h : HP} {H : Heap} {locs : List Loc} {ls : Array Slot}, WD g h s.heap H locs → lv_has ls 2 [(0, .ref (aD g x0)), (1, .int x1)] → s_AdjoinedSetsModel_noReplacing_2 k x0 x1 h = some z → W p l e (rmS 0 0) s m args below meth c H locs 0 0 (MQ below (Qq g none z) args s 0 0 (inA g)) (F0 m 2 ls []) := by
  have hx := C.1
  have hb := C.2.1
  intro k
  induction k with
  | zero =>
    intro x0 x1 h H locs ls hw hl hs
    exact (no_s hs).elim
  | succ k ih =>
    intro x0 x1 h H locs ls hw hl hs
    rw [s_AdjoinedSetsModel_noReplacing_2] at hs
    refine lv_iload_n hx hb d_AdjoinedSetsModel_noReplacing_2 rfl (lv_at hl 1 rfl) ?_
    refine lv_bipush (v := 8) hx hb d_AdjoinedSetsModel_noReplacing_3 (by decide) ?_
    refine lv_icmp_ge hx hb d_AdjoinedSetsModel_noReplacing_5 (tgt := 21) (by decide) (fun hc => ?_) (fun hc => ?_)
    · have hs := oi_t hc hs
      obtain rfl := Option.some.inj hs
      exact pg_vret C hw d_AdjoinedSetsModel_noReplacing_21
    · have hs := oi_f hc hs
      refine lv_aload_n hx hb d_AdjoinedSetsModel_noReplacing_8 rfl (lv_at hl 0 rfl) ?_
      obtain ⟨v1, e2, hs⟩ := ob hs
      refine pg_getR C hw fl_AdjoinedSetsModel_78 e2 d_AdjoinedSetsModel_noReplacing_9 ?_
      refine lv_iload_n hx hb d_AdjoinedSetsModel_noReplacing_12 rfl (lv_at hl 1 rfl) ?_
      refine lv_iconst (v := 0) hx hb d_AdjoinedSetsModel_noReplacing_13 (by decide) ?_
      obtain ⟨h3, e4, hs⟩ := ob hs
      refine pg_iastore C hw (t0 := 0) rfl e4 d_AdjoinedSetsModel_noReplacing_14 (fun H locs hw => ?_)
      refine lv_iinc hx hb d_AdjoinedSetsModel_noReplacing_15 hl (k := 1) rfl (v := (x1 + 1)) (iinc_e _ (by decide)) (by decide) (lv' := [(1, .int (x1 + 1)), (0, .ref (aD g x0))]) rfl (fun ls hl => ?_)
      refine lv_goto hx hb d_AdjoinedSetsModel_noReplacing_18 (tgt := 2) (by decide) ?_
      exact ih hw (lv_sub hl [1, 0] rfl) hs

def s_AdjoinedSetsModel_noReplacing (x0 : Nat) (h : HP) : Option (HP) :=
  s_AdjoinedSetsModel_noReplacing_2 20000 x0 0 h
set_option maxHeartbeats 4000000 in
set_option maxRecDepth 100000 in
theorem c_AdjoinedSetsModel_noReplacing (l : Launch) (g : GG) {x0 : Nat} {h : HP} {z : HP} (hs : s_AdjoinedSetsModel_noReplacing x0 h = some z) : Ct l g y_AdjoinedSetsModel_noReplacing w_AdjoinedSetsModel_noReplacing (rmS 0 0) [.ref (aD g x0)] h none z := by
  refine Ct.of (own := R_AdjoinedSetsModel) (by decide) rfl rfl (Nat.le_of_ble_eq_true rfl) ?_
  intro p e s m args below meth c ls C hl hw
  have hx := C.1
  have hb := C.2.1
  have hl : lv_has ls 2 [(0, .ref (aD g x0))] := hl
  unfold s_AdjoinedSetsModel_noReplacing at hs
  refine lv_iconst (v := 0) hx hb d_AdjoinedSetsModel_noReplacing_0 (by decide) ?_
  refine lv_istore_n hx hb d_AdjoinedSetsModel_noReplacing_1 rfl hl (by decide) (lv' := [(1, .int 0), (0, .ref (aD g x0))]) rfl (fun ls hl => ?_)
  exact k_AdjoinedSetsModel_noReplacing_2 C 20000 hw (lv_sub hl [1, 0] rfl) hs

end
section
variable {p : Program} {l : Launch} {e : Env} {s : State} {m : MethodId} {args : Array Value} {below : List Frame} {meth : Method} {c : Code} {g : GG}
theorem d_AdjoinedSetsModel_replace_0 : decode b_AdjoinedSetsModel_replace 0 = .ok (.aload_n 0, 1) := by decide +kernel
theorem d_AdjoinedSetsModel_replace_1 : decode b_AdjoinedSetsModel_replace 1 = .ok (.getfield 75, 3) := by decide +kernel
theorem d_AdjoinedSetsModel_replace_4 : decode b_AdjoinedSetsModel_replace 4 = .ok (.iload_n 1, 1) := by decide +kernel
theorem d_AdjoinedSetsModel_replace_5 : decode b_AdjoinedSetsModel_replace 5 = .ok (.iload_n 2, 1) := by decide +kernel
theorem d_AdjoinedSetsModel_replace_6 : decode b_AdjoinedSetsModel_replace 6 = .ok (.iastore, 1) := by decide +kernel
theorem d_AdjoinedSetsModel_replace_7 : decode b_AdjoinedSetsModel_replace 7 = .ok (.aload_n 0, 1) := by decide +kernel
theorem d_AdjoinedSetsModel_replace_8 : decode b_AdjoinedSetsModel_replace 8 = .ok (.getfield 78, 3) := by decide +kernel
theorem d_AdjoinedSetsModel_replace_11 : decode b_AdjoinedSetsModel_replace 11 = .ok (.iload_n 1, 1) := by decide +kernel
theorem d_AdjoinedSetsModel_replace_12 : decode b_AdjoinedSetsModel_replace 12 = .ok (.aload_n 0, 1) := by decide +kernel
theorem d_AdjoinedSetsModel_replace_13 : decode b_AdjoinedSetsModel_replace 13 = .ok (.iload_n 2, 1) := by decide +kernel
theorem d_AdjoinedSetsModel_replace_14 : decode b_AdjoinedSetsModel_replace 14 = .ok (.invokevirtual 197, 3) := by decide +kernel
theorem d_AdjoinedSetsModel_replace_17 : decode b_AdjoinedSetsModel_replace 17 = .ok (.iload_n 2, 1) := by decide +kernel
theorem d_AdjoinedSetsModel_replace_18 : decode b_AdjoinedSetsModel_replace 18 = .ok (.isub, 1) := by decide +kernel
theorem d_AdjoinedSetsModel_replace_19 : decode b_AdjoinedSetsModel_replace 19 = .ok (.iastore, 1) := by decide +kernel
theorem d_AdjoinedSetsModel_replace_20 : decode b_AdjoinedSetsModel_replace 20 = .ok (.aload_n 0, 1) := by decide +kernel
theorem d_AdjoinedSetsModel_replace_21 : decode b_AdjoinedSetsModel_replace 21 = .ok (.getfield 81, 3) := by decide +kernel
theorem d_AdjoinedSetsModel_replace_24 : decode b_AdjoinedSetsModel_replace 24 = .ok (.iload_n 1, 1) := by decide +kernel
theorem d_AdjoinedSetsModel_replace_25 : decode b_AdjoinedSetsModel_replace 25 = .ok (.aload_n 0, 1) := by decide +kernel
theorem d_AdjoinedSetsModel_replace_26 : decode b_AdjoinedSetsModel_replace 26 = .ok (.iload_n 2, 1) := by decide +kernel
theorem d_AdjoinedSetsModel_replace_27 : decode b_AdjoinedSetsModel_replace 27 = .ok (.invokevirtual 237, 3) := by decide +kernel
theorem d_AdjoinedSetsModel_replace_30 : decode b_AdjoinedSetsModel_replace 30 = .ok (.iastore, 1) := by decide +kernel
theorem d_AdjoinedSetsModel_replace_31 : decode b_AdjoinedSetsModel_replace 31 = .ok (.return_, 1) := by decide +kernel
def s_AdjoinedSetsModel_replace (x0 : Nat) (x1 : Int32) (x2 : Int32) (h : HP) : Option (HP) :=
  (gR h x0 9 29).bind fun v1 =>
  (uI h v1 0 x1 x2).bind fun h3 =>
  (gR h3 x0 9 30).bind fun v5 =>
  (kd x0 9).bind fun _ =>
  (s_AdjoinedSetsModel_endOf x0 x2 h3).bind fun q8 =>
  (uI h3 v5 0 x1 (q8 - x2)).bind fun h10 =>
  (gR h10 x0 9 31).bind fun v12 =>
  (kd x0 9).bind fun _ =>
  (s_AdjoinedSetsModel_freeIn x0 x2 h10).bind fun q15 =>
  (uI q15.2 v12 0 x1 q15.1).bind fun h17 =>
  some h17
set_option maxHeartbeats 4000000 in
set_option maxRecDepth 100000 in
theorem c_AdjoinedSetsModel_replace (l : Launch) (g : GG) {x0 : Nat} {x1 : Int32} {x2 : Int32} {h : HP} {z : HP} (hs : s_AdjoinedSetsModel_replace x0 x1 x2 h = some z) : Ct l g y_AdjoinedSetsModel_replace w_AdjoinedSetsModel_replace (rmS 4 91) [.ref (aD g x0), .int x1, .int x2] h none z := by
  refine Ct.of (own := R_AdjoinedSetsModel) (by decide) rfl rfl (Nat.le_of_ble_eq_true rfl) ?_
  intro p e s m args below meth c ls C hl hw
  have hx := C.1
  have hb := C.2.1
  have hl : lv_has ls 3 [(0, .ref (aD g x0)), (1, .int x1), (2, .int x2)] := hl
  unfold s_AdjoinedSetsModel_replace at hs
  refine lv_aload_n hx hb d_AdjoinedSetsModel_replace_0 rfl (lv_at hl 0 rfl) ?_
  obtain ⟨v1, e2, hs⟩ := ob hs
  refine pg_getR C hw fl_AdjoinedSetsModel_75 e2 d_AdjoinedSetsModel_replace_1 ?_
  refine lv_iload_n hx hb d_AdjoinedSetsModel_replace_4 rfl (lv_at hl 1 rfl) ?_
  refine lv_iload_n hx hb d_AdjoinedSetsModel_replace_5 rfl (lv_at hl 2 rfl) ?_
  obtain ⟨h3, e4, hs⟩ := ob hs
  refine pg_iastore C hw (t0 := 0) rfl e4 d_AdjoinedSetsModel_replace_6 (fun H locs hw => ?_)
  refine lv_aload_n hx hb d_AdjoinedSetsModel_replace_7 rfl (lv_at hl 0 rfl) ?_
  obtain ⟨v5, e6, hs⟩ := ob hs
  refine pg_getR C hw fl_AdjoinedSetsModel_78 e6 d_AdjoinedSetsModel_replace_8 ?_
  refine lv_iload_n hx hb d_AdjoinedSetsModel_replace_11 rfl (lv_at hl 1 rfl) ?_
  refine lv_aload_n hx hb d_AdjoinedSetsModel_replace_12 rfl (lv_at hl 0 rfl) ?_
  refine lv_iload_n hx hb d_AdjoinedSetsModel_replace_13 rfl (lv_at hl 2 rfl) ?_
  obtain ⟨_, e7, hs⟩ := ob hs
  obtain ⟨q8, e9, hs⟩ := ob hs
  refine pg_callV C hw hl.1 ml_AdjoinedSetsModel_197 e7 (As := [.int x2]) (rest := [.int x1, .ref (aD g v5)]) (c_AdjoinedSetsModel_endOf l g e9) rfl (rm_ok (Nat.le_of_ble_eq_true rfl) (Nat.le_of_ble_eq_true rfl)) (Nat.le_of_ble_eq_true rfl) rfl (st1 := [.int q8, .int x1, .ref (aD g v5)]) rfl d_AdjoinedSetsModel_replace_14 (fun H locs hw => ?_)
  refine lv_iload_n hx hb d_AdjoinedSetsModel_replace_17 rfl (lv_at hl 2 rfl) ?_
  refine lv_isub hx hb d_AdjoinedSetsModel_replace_18 ?_
  obtain ⟨h10, e11, hs⟩ := ob hs
  refine pg_iastore C hw (t0 := 0) rfl e11 d_AdjoinedSetsModel_replace_19 (fun H locs hw => ?_)
  refine lv_aload_n hx hb d_AdjoinedSetsModel_replace_20 rfl (lv_at hl 0 rfl) ?_
  obtain ⟨v12, e13, hs⟩ := ob hs
  refine pg_getR C hw fl_AdjoinedSetsModel_81 e13 d_AdjoinedSetsModel_replace_21 ?_
  refine lv_iload_n hx hb d_AdjoinedSetsModel_replace_24 rfl (lv_at hl 1 rfl) ?_
  refine lv_aload_n hx hb d_AdjoinedSetsModel_replace_25 rfl (lv_at hl 0 rfl) ?_
  refine lv_iload_n hx hb d_AdjoinedSetsModel_replace_26 rfl (lv_at hl 2 rfl) ?_
  obtain ⟨_, e14, hs⟩ := ob hs
  obtain ⟨q15, e16, hs⟩ := ob hs
  refine pg_callV C hw hl.1 ml_AdjoinedSetsModel_237 e14 (As := [.int x2]) (rest := [.int x1, .ref (aD g v12)]) (c_AdjoinedSetsModel_freeIn l g e16) rfl (rm_ok (Nat.le_of_ble_eq_true rfl) (Nat.le_of_ble_eq_true rfl)) (Nat.le_of_ble_eq_true rfl) rfl (st1 := [.int q15.1, .int x1, .ref (aD g v12)]) rfl d_AdjoinedSetsModel_replace_27 (fun H locs hw => ?_)
  obtain ⟨h17, e18, hs⟩ := ob hs
  refine pg_iastore C hw (t0 := 0) rfl e18 d_AdjoinedSetsModel_replace_30 (fun H locs hw => ?_)
  obtain rfl := Option.some.inj hs
  exact pg_vret C hw d_AdjoinedSetsModel_replace_31

end
