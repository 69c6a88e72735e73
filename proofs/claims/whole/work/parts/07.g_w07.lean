section
variable {p : Program} {l : Launch} {e : Env} {s : State} {m : MethodId} {args : Array Value} {below : List Frame} {meth : Method} {c : Code} {g : GG}
theorem d_AdjoinedSetsModel_partsOf_0 : decode b_AdjoinedSetsModel_partsOf 0 = .ok (.iload_n 1, 1) := by decide +kernel
theorem d_AdjoinedSetsModel_partsOf_1 : decode b_AdjoinedSetsModel_partsOf 1 = .ok (.invokestatic 109, 3) := by decide +kernel
theorem d_AdjoinedSetsModel_partsOf_4 : decode b_AdjoinedSetsModel_partsOf 4 = .ok (.ifCond .eq 7, 3) := by decide +kernel
theorem d_AdjoinedSetsModel_partsOf_7 : decode b_AdjoinedSetsModel_partsOf 7 = .ok (.iconst 2, 1) := by decide +kernel
theorem d_AdjoinedSetsModel_partsOf_8 : decode b_AdjoinedSetsModel_partsOf 8 = .ok (.goto 45, 3) := by decide +kernel
theorem d_AdjoinedSetsModel_partsOf_11 : decode b_AdjoinedSetsModel_partsOf 11 = .ok (.iload_n 1, 1) := by decide +kernel
theorem d_AdjoinedSetsModel_partsOf_12 : decode b_AdjoinedSetsModel_partsOf 12 = .ok (.invokestatic 112, 3) := by decide +kernel
theorem d_AdjoinedSetsModel_partsOf_15 : decode b_AdjoinedSetsModel_partsOf 15 = .ok (.ifCond .eq 7, 3) := by decide +kernel
theorem d_AdjoinedSetsModel_partsOf_18 : decode b_AdjoinedSetsModel_partsOf 18 = .ok (.iconst 1, 1) := by decide +kernel
theorem d_AdjoinedSetsModel_partsOf_19 : decode b_AdjoinedSetsModel_partsOf 19 = .ok (.goto 34, 3) := by decide +kernel
theorem d_AdjoinedSetsModel_partsOf_22 : decode b_AdjoinedSetsModel_partsOf 22 = .ok (.iload_n 1, 1) := by decide +kernel
theorem d_AdjoinedSetsModel_partsOf_23 : decode b_AdjoinedSetsModel_partsOf 23 = .ok (.invokestatic 115, 3) := by decide +kernel
theorem d_AdjoinedSetsModel_partsOf_26 : decode b_AdjoinedSetsModel_partsOf 26 = .ok (.ifCond .eq 7, 3) := by decide +kernel
theorem d_AdjoinedSetsModel_partsOf_29 : decode b_AdjoinedSetsModel_partsOf 29 = .ok (.iconst 3, 1) := by decide +kernel
theorem d_AdjoinedSetsModel_partsOf_30 : decode b_AdjoinedSetsModel_partsOf 30 = .ok (.goto 23, 3) := by decide +kernel
theorem d_AdjoinedSetsModel_partsOf_33 : decode b_AdjoinedSetsModel_partsOf 33 = .ok (.iload_n 1, 1) := by decide +kernel
theorem d_AdjoinedSetsModel_partsOf_34 : decode b_AdjoinedSetsModel_partsOf 34 = .ok (.invokestatic 103, 3) := by decide +kernel
theorem d_AdjoinedSetsModel_partsOf_37 : decode b_AdjoinedSetsModel_partsOf 37 = .ok (.ifCond .eq 15, 3) := by decide +kernel
theorem d_AdjoinedSetsModel_partsOf_40 : decode b_AdjoinedSetsModel_partsOf 40 = .ok (.aload_n 0, 1) := by decide +kernel
theorem d_AdjoinedSetsModel_partsOf_41 : decode b_AdjoinedSetsModel_partsOf 41 = .ok (.getfield 17, 3) := by decide +kernel
theorem d_AdjoinedSetsModel_partsOf_44 : decode b_AdjoinedSetsModel_partsOf 44 = .ok (.iload_n 1, 1) := by decide +kernel
theorem d_AdjoinedSetsModel_partsOf_45 : decode b_AdjoinedSetsModel_partsOf 45 = .ok (.bipush 65, 2) := by decide +kernel
theorem d_AdjoinedSetsModel_partsOf_47 : decode b_AdjoinedSetsModel_partsOf 47 = .ok (.isub, 1) := by decide +kernel
theorem d_AdjoinedSetsModel_partsOf_48 : decode b_AdjoinedSetsModel_partsOf 48 = .ok (.iaload, 1) := by decide +kernel
theorem d_AdjoinedSetsModel_partsOf_49 : decode b_AdjoinedSetsModel_partsOf 49 = .ok (.goto 4, 3) := by decide +kernel
theorem d_AdjoinedSetsModel_partsOf_52 : decode b_AdjoinedSetsModel_partsOf 52 = .ok (.iconst 0, 1) := by decide +kernel
theorem d_AdjoinedSetsModel_partsOf_53 : decode b_AdjoinedSetsModel_partsOf 53 = .ok (.ireturn, 1) := by decide +kernel
def s_AdjoinedSetsModel_partsOf (x0 : Nat) (x1 : Int32) (h : HP) : Option (Int32) :=
  (s_AdjoinedSetsModel_isPair x1).bind fun q1 =>
  if q1 = 0 then (
    (s_AdjoinedSetsModel_isSingle x1).bind fun q3 =>
    if q3 = 0 then (
      (s_AdjoinedSetsModel_isBinder x1).bind fun q5 =>
      if q5 = 0 then (
        (s_AdjoinedSetsModel_isFunction x1).bind fun q7 =>
        if q7 = 0 then (
          some 0)
        else (
          (gR h x0 9 3).bind fun v9 =>
          (aI h v9 0 (x1 - 65)).bind fun v11 =>
          some v11))
      else (
        some 3))
    else (
      some 1))
  else (
    some 2)
set_option maxHeartbeats 4000000 in
set_option maxRecDepth 100000 in
theorem c_AdjoinedSetsModel_partsOf (l : Launch) (g : GG) {h : HP} {x0 : Nat} {x1 : Int32} {z : Int32} (hs : s_AdjoinedSetsModel_partsOf x0 x1 h = some z) : Ct l g y_AdjoinedSetsModel_partsOf w_AdjoinedSetsModel_partsOf (rmS 1 20) [.ref (aD g x0), .int x1] h (some (.int z)) h := by
  refine Ct.of (own := R_AdjoinedSetsModel) (by decide) rfl rfl (Nat.le_of_ble_eq_true rfl) ?_
  intro p e s m args below meth c ls C hl hw
  have hx := C.1
  have hb := C.2.1
  have hl : lv_has ls 2 [(0, .ref (aD g x0)), (1, .int x1)] := hl
  unfold s_AdjoinedSetsModel_partsOf at hs
  refine lv_iload_n hx hb d_AdjoinedSetsModel_partsOf_0 rfl (lv_at hl 1 rfl) ?_
  obtain ⟨q1, e2, hs⟩ := ob hs
  refine pg_callS C hw hl.1 ml_AdjoinedSetsModel_109 (As := [.int x1]) (rest := []) (c_AdjoinedSetsModel_isPair l g e2) rfl (rm_ok (Nat.le_of_ble_eq_true rfl) (Nat.le_of_ble_eq_true rfl)) (Nat.le_of_ble_eq_true rfl) rfl (st1 := [.int q1]) rfl d_AdjoinedSetsModel_partsOf_1 (fun H locs hw => ?_)
  refine lv_if_eq hx hb d_AdjoinedSetsModel_partsOf_4 (tgt := 11) (by decide) (fun hc => ?_) (fun hc => ?_)
  · have hs := oi_t hc hs
    refine lv_iload_n hx hb d_AdjoinedSetsModel_partsOf_11 rfl (lv_at hl 1 rfl) ?_
    obtain ⟨q3, e4, hs⟩ := ob hs
    refine pg_callS C hw hl.1 ml_AdjoinedSetsModel_112 (As := [.int x1]) (rest := []) (c_AdjoinedSetsModel_isSingle l g e4) rfl (rm_ok (Nat.le_of_ble_eq_true rfl) (Nat.le_of_ble_eq_true rfl)) (Nat.le_of_ble_eq_true rfl) rfl (st1 := [.int q3]) rfl d_AdjoinedSetsModel_partsOf_12 (fun H locs hw => ?_)
    refine lv_if_eq hx hb d_AdjoinedSetsModel_partsOf_15 (tgt := 22) (by decide) (fun hc => ?_) (fun hc => ?_)
    · have hs := oi_t hc hs
      refine lv_iload_n hx hb d_AdjoinedSetsModel_partsOf_22 rfl (lv_at hl 1 rfl) ?_
      obtain ⟨q5, e6, hs⟩ := ob hs
      refine pg_callS C hw hl.1 ml_AdjoinedSetsModel_115 (As := [.int x1]) (rest := []) (c_AdjoinedSetsModel_isBinder l g e6) rfl (rm_ok (Nat.le_of_ble_eq_true rfl) (Nat.le_of_ble_eq_true rfl)) (Nat.le_of_ble_eq_true rfl) rfl (st1 := [.int q5]) rfl d_AdjoinedSetsModel_partsOf_23 (fun H locs hw => ?_)
      refine lv_if_eq hx hb d_AdjoinedSetsModel_partsOf_26 (tgt := 33) (by decide) (fun hc => ?_) (fun hc => ?_)
      · have hs := oi_t hc hs
        refine lv_iload_n hx hb d_AdjoinedSetsModel_partsOf_33 rfl (lv_at hl 1 rfl) ?_
        obtain ⟨q7, e8, hs⟩ := ob hs
        refine pg_callS C hw hl.1 ml_AdjoinedSetsModel_103 (As := [.int x1]) (rest := []) (c_AdjoinedSetsModel_isFunction l g e8) rfl (rm_ok (Nat.le_of_ble_eq_true rfl) (Nat.le_of_ble_eq_true rfl)) (Nat.le_of_ble_eq_true rfl) rfl (st1 := [.int q7]) rfl d_AdjoinedSetsModel_partsOf_34 (fun H locs hw => ?_)
        refine lv_if_eq hx hb d_AdjoinedSetsModel_partsOf_37 (tgt := 52) (by decide) (fun hc => ?_) (fun hc => ?_)
        · have hs := oi_t hc hs
          refine lv_iconst (v := 0) hx hb d_AdjoinedSetsModel_partsOf_52 (by decide) ?_
          obtain rfl := Option.some.inj hs
          exact pg_iret C hw d_AdjoinedSetsModel_partsOf_53
        · have hs := oi_f hc hs
          refine lv_aload_n hx hb d_AdjoinedSetsModel_partsOf_40 rfl (lv_at hl 0 rfl) ?_
          obtain ⟨v9, e10, hs⟩ := ob hs
          refine pg_getR C hw fl_AdjoinedSetsModel_17 e10 d_AdjoinedSetsModel_partsOf_41 ?_
          refine lv_iload_n hx hb d_AdjoinedSetsModel_partsOf_44 rfl (lv_at hl 1 rfl) ?_
          refine lv_bipush (v := 65) hx hb d_AdjoinedSetsModel_partsOf_45 (by decide) ?_
          refine lv_isub hx hb d_AdjoinedSetsModel_partsOf_47 ?_
          obtain ⟨v11, e12, hs⟩ := ob hs
          refine pg_iaload C hw (t0 := 0) rfl e12 d_AdjoinedSetsModel_partsOf_48 ?_
          refine lv_goto hx hb d_AdjoinedSetsModel_partsOf_49 (tgt := 53) (by decide) ?_
          obtain rfl := Option.some.inj hs
          exact pg_iret C hw d_AdjoinedSetsModel_partsOf_53
      · have hs := oi_f hc hs
        refine lv_iconst (v := 3) hx hb d_AdjoinedSetsModel_partsOf_29 (by decide) ?_
        refine lv_goto hx hb d_AdjoinedSetsModel_partsOf_30 (tgt := 53) (by decide) ?_
        obtain rfl := Option.some.inj hs
        exact pg_iret C hw d_AdjoinedSetsModel_partsOf_53
    · have hs := oi_f hc hs
      refine lv_iconst (v := 1) hx hb d_AdjoinedSetsModel_partsOf_18 (by decide) ?_
      refine lv_goto hx hb d_AdjoinedSetsModel_partsOf_19 (tgt := 53) (by decide) ?_
      obtain rfl := Option.some.inj hs
      exact pg_iret C hw d_AdjoinedSetsModel_partsOf_53
  · have hs := oi_f hc hs
    refine lv_iconst (v := 2) hx hb d_AdjoinedSetsModel_partsOf_7 (by decide) ?_
    refine lv_goto hx hb d_AdjoinedSetsModel_partsOf_8 (tgt := 53) (by decide) ?_
    obtain rfl := Option.some.inj hs
    exact pg_iret C hw d_AdjoinedSetsModel_partsOf_53

end
section
variable {p : Program} {l : Launch} {e : Env} {s : State} {m : MethodId} {args : Array Value} {below : List Frame} {meth : Method} {c : Code} {g : GG}
theorem d_AdjoinedSetsModel_wantParts_0 : decode b_AdjoinedSetsModel_wantParts 0 = .ok (.iload_n 2, 1) := by decide +kernel
theorem d_AdjoinedSetsModel_wantParts_1 : decode b_AdjoinedSetsModel_wantParts 1 = .ok (.bipush 33, 2) := by decide +kernel
theorem d_AdjoinedSetsModel_wantParts_3 : decode b_AdjoinedSetsModel_wantParts 3 = .ok (.if_icmp .eq 21, 3) := by decide +kernel
theorem d_AdjoinedSetsModel_wantParts_6 : decode b_AdjoinedSetsModel_wantParts 6 = .ok (.iload_n 2, 1) := by decide +kernel
theorem d_AdjoinedSetsModel_wantParts_7 : decode b_AdjoinedSetsModel_wantParts 7 = .ok (.bipush 94, 2) := by decide +kernel
theorem d_AdjoinedSetsModel_wantParts_9 : decode b_AdjoinedSetsModel_wantParts 9 = .ok (.if_icmp .eq 15, 3) := by decide +kernel
theorem d_AdjoinedSetsModel_wantParts_12 : decode b_AdjoinedSetsModel_wantParts 12 = .ok (.iload_n 2, 1) := by decide +kernel
theorem d_AdjoinedSetsModel_wantParts_13 : decode b_AdjoinedSetsModel_wantParts 13 = .ok (.bipush 118, 2) := by decide +kernel
theorem d_AdjoinedSetsModel_wantParts_15 : decode b_AdjoinedSetsModel_wantParts 15 = .ok (.if_icmp .eq 9, 3) := by decide +kernel
theorem d_AdjoinedSetsModel_wantParts_18 : decode b_AdjoinedSetsModel_wantParts 18 = .ok (.iload_n 2, 1) := by decide +kernel
theorem d_AdjoinedSetsModel_wantParts_19 : decode b_AdjoinedSetsModel_wantParts 19 = .ok (.bipush 62, 2) := by decide +kernel
theorem d_AdjoinedSetsModel_wantParts_21 : decode b_AdjoinedSetsModel_wantParts 21 = .ok (.if_icmp .ne 7, 3) := by decide +kernel
theorem d_AdjoinedSetsModel_wantParts_24 : decode b_AdjoinedSetsModel_wantParts 24 = .ok (.iconst 1, 1) := by decide +kernel
theorem d_AdjoinedSetsModel_wantParts_25 : decode b_AdjoinedSetsModel_wantParts 25 = .ok (.goto 4, 3) := by decide +kernel
theorem d_AdjoinedSetsModel_wantParts_28 : decode b_AdjoinedSetsModel_wantParts 28 = .ok (.iconst 0, 1) := by decide +kernel
theorem d_AdjoinedSetsModel_wantParts_29 : decode b_AdjoinedSetsModel_wantParts 29 = .ok (.istore 6, 2) := by decide +kernel
theorem d_AdjoinedSetsModel_wantParts_31 : decode b_AdjoinedSetsModel_wantParts 31 = .ok (.iload_n 2, 1) := by decide +kernel
theorem d_AdjoinedSetsModel_wantParts_32 : decode b_AdjoinedSetsModel_wantParts 32 = .ok (.invokestatic 115, 3) := by decide +kernel
theorem d_AdjoinedSetsModel_wantParts_35 : decode b_AdjoinedSetsModel_wantParts 35 = .ok (.ifCond .eq 142, 3) := by decide +kernel
theorem d_AdjoinedSetsModel_wantParts_38 : decode b_AdjoinedSetsModel_wantParts 38 = .ok (.iload_n 1, 1) := by decide +kernel
theorem d_AdjoinedSetsModel_wantParts_39 : decode b_AdjoinedSetsModel_wantParts 39 = .ok (.iconst 1, 1) := by decide +kernel
theorem d_AdjoinedSetsModel_wantParts_40 : decode b_AdjoinedSetsModel_wantParts 40 = .ok (.iadd, 1) := by decide +kernel
theorem d_AdjoinedSetsModel_wantParts_41 : decode b_AdjoinedSetsModel_wantParts 41 = .ok (.aload_n 0, 1) := by decide +kernel
theorem d_AdjoinedSetsModel_wantParts_42 : decode b_AdjoinedSetsModel_wantParts 42 = .ok (.getfield 124, 3) := by decide +kernel
theorem d_AdjoinedSetsModel_wantParts_45 : decode b_AdjoinedSetsModel_wantParts 45 = .ok (.if_icmp .ge 31, 3) := by decide +kernel
theorem d_AdjoinedSetsModel_wantParts_48 : decode b_AdjoinedSetsModel_wantParts 48 = .ok (.aload_n 0, 1) := by decide +kernel
theorem d_AdjoinedSetsModel_wantParts_49 : decode b_AdjoinedSetsModel_wantParts 49 = .ok (.getfield 7, 3) := by decide +kernel
theorem d_AdjoinedSetsModel_wantParts_52 : decode b_AdjoinedSetsModel_wantParts 52 = .ok (.iload_n 1, 1) := by decide +kernel
theorem d_AdjoinedSetsModel_wantParts_53 : decode b_AdjoinedSetsModel_wantParts 53 = .ok (.iconst 1, 1) := by decide +kernel
theorem d_AdjoinedSetsModel_wantParts_54 : decode b_AdjoinedSetsModel_wantParts 54 = .ok (.iadd, 1) := by decide +kernel
theorem d_AdjoinedSetsModel_wantParts_55 : decode b_AdjoinedSetsModel_wantParts 55 = .ok (.iaload, 1) := by decide +kernel
theorem d_AdjoinedSetsModel_wantParts_56 : decode b_AdjoinedSetsModel_wantParts 56 = .ok (.invokestatic 100, 3) := by decide +kernel
theorem d_AdjoinedSetsModel_wantParts_59 : decode b_AdjoinedSetsModel_wantParts 59 = .ok (.ifCond .eq 17, 3) := by decide +kernel
theorem d_AdjoinedSetsModel_wantParts_62 : decode b_AdjoinedSetsModel_wantParts 62 = .ok (.aload_n 0, 1) := by decide +kernel
theorem d_AdjoinedSetsModel_wantParts_63 : decode b_AdjoinedSetsModel_wantParts 63 = .ok (.getfield 7, 3) := by decide +kernel
theorem d_AdjoinedSetsModel_wantParts_66 : decode b_AdjoinedSetsModel_wantParts 66 = .ok (.iload_n 1, 1) := by decide +kernel
theorem d_AdjoinedSetsModel_wantParts_67 : decode b_AdjoinedSetsModel_wantParts 67 = .ok (.iconst 1, 1) := by decide +kernel
theorem d_AdjoinedSetsModel_wantParts_68 : decode b_AdjoinedSetsModel_wantParts 68 = .ok (.iadd, 1) := by decide +kernel
theorem d_AdjoinedSetsModel_wantParts_69 : decode b_AdjoinedSetsModel_wantParts 69 = .ok (.iaload, 1) := by decide +kernel
theorem d_AdjoinedSetsModel_wantParts_70 : decode b_AdjoinedSetsModel_wantParts 70 = .ok (.invokestatic 138, 3) := by decide +kernel
theorem d_AdjoinedSetsModel_wantParts_73 : decode b_AdjoinedSetsModel_wantParts 73 = .ok (.goto 4, 3) := by decide +kernel
theorem d_AdjoinedSetsModel_wantParts_76 : decode b_AdjoinedSetsModel_wantParts 76 = .ok (.iconst 0, 1) := by decide +kernel
theorem d_AdjoinedSetsModel_wantParts_77 : decode b_AdjoinedSetsModel_wantParts 77 = .ok (.istore 7, 2) := by decide +kernel
theorem d_AdjoinedSetsModel_wantParts_79 : decode b_AdjoinedSetsModel_wantParts 79 = .ok (.iload_n 1, 1) := by decide +kernel
theorem d_AdjoinedSetsModel_wantParts_80 : decode b_AdjoinedSetsModel_wantParts 80 = .ok (.iconst 2, 1) := by decide +kernel
theorem d_AdjoinedSetsModel_wantParts_81 : decode b_AdjoinedSetsModel_wantParts 81 = .ok (.iadd, 1) := by decide +kernel
theorem d_AdjoinedSetsModel_wantParts_82 : decode b_AdjoinedSetsModel_wantParts 82 = .ok (.aload_n 0, 1) := by decide +kernel
theorem d_AdjoinedSetsModel_wantParts_83 : decode b_AdjoinedSetsModel_wantParts 83 = .ok (.getfield 124, 3) := by decide +kernel
theorem d_AdjoinedSetsModel_wantParts_86 : decode b_AdjoinedSetsModel_wantParts 86 = .ok (.if_icmp .ge 27, 3) := by decide +kernel
theorem d_AdjoinedSetsModel_wantParts_89 : decode b_AdjoinedSetsModel_wantParts 89 = .ok (.aload_n 0, 1) := by decide +kernel
theorem d_AdjoinedSetsModel_wantParts_90 : decode b_AdjoinedSetsModel_wantParts 90 = .ok (.getfield 7, 3) := by decide +kernel
theorem d_AdjoinedSetsModel_wantParts_93 : decode b_AdjoinedSetsModel_wantParts 93 = .ok (.iload_n 1, 1) := by decide +kernel
theorem d_AdjoinedSetsModel_wantParts_94 : decode b_AdjoinedSetsModel_wantParts 94 = .ok (.iconst 2, 1) := by decide +kernel
theorem d_AdjoinedSetsModel_wantParts_95 : decode b_AdjoinedSetsModel_wantParts 95 = .ok (.iadd, 1) := by decide +kernel
theorem d_AdjoinedSetsModel_wantParts_96 : decode b_AdjoinedSetsModel_wantParts 96 = .ok (.iaload, 1) := by decide +kernel
theorem d_AdjoinedSetsModel_wantParts_97 : decode b_AdjoinedSetsModel_wantParts 97 = .ok (.bipush 97, 2) := by decide +kernel
theorem d_AdjoinedSetsModel_wantParts_99 : decode b_AdjoinedSetsModel_wantParts 99 = .ok (.if_icmp .ne 14, 3) := by decide +kernel
theorem d_AdjoinedSetsModel_wantParts_102 : decode b_AdjoinedSetsModel_wantParts 102 = .ok (.iload 4, 2) := by decide +kernel
theorem d_AdjoinedSetsModel_wantParts_104 : decode b_AdjoinedSetsModel_wantParts 104 = .ok (.iconst 1, 1) := by decide +kernel
theorem d_AdjoinedSetsModel_wantParts_105 : decode b_AdjoinedSetsModel_wantParts 105 = .ok (.iand, 1) := by decide +kernel
theorem d_AdjoinedSetsModel_wantParts_106 : decode b_AdjoinedSetsModel_wantParts 106 = .ok (.ifCond .ne 7, 3) := by decide +kernel
theorem d_AdjoinedSetsModel_wantParts_109 : decode b_AdjoinedSetsModel_wantParts 109 = .ok (.iconst 1, 1) := by decide +kernel
theorem d_AdjoinedSetsModel_wantParts_110 : decode b_AdjoinedSetsModel_wantParts 110 = .ok (.goto 4, 3) := by decide +kernel
theorem d_AdjoinedSetsModel_wantParts_113 : decode b_AdjoinedSetsModel_wantParts 113 = .ok (.iconst 0, 1) := by decide +kernel
theorem d_AdjoinedSetsModel_wantParts_114 : decode b_AdjoinedSetsModel_wantParts 114 = .ok (.istore 8, 2) := by decide +kernel
theorem d_AdjoinedSetsModel_wantParts_116 : decode b_AdjoinedSetsModel_wantParts 116 = .ok (.aload_n 0, 1) := by decide +kernel
theorem d_AdjoinedSetsModel_wantParts_117 : decode b_AdjoinedSetsModel_wantParts 117 = .ok (.iload_n 2, 1) := by decide +kernel
theorem d_AdjoinedSetsModel_wantParts_118 : decode b_AdjoinedSetsModel_wantParts 118 = .ok (.bipush 73, 2) := by decide +kernel
theorem d_AdjoinedSetsModel_wantParts_120 : decode b_AdjoinedSetsModel_wantParts 120 = .ok (.if_icmp .ne 7, 3) := by decide +kernel
theorem d_AdjoinedSetsModel_wantParts_123 : decode b_AdjoinedSetsModel_wantParts 123 = .ok (.iconst 0, 1) := by decide +kernel
theorem d_AdjoinedSetsModel_wantParts_124 : decode b_AdjoinedSetsModel_wantParts 124 = .ok (.goto 4, 3) := by decide +kernel
theorem d_AdjoinedSetsModel_wantParts_127 : decode b_AdjoinedSetsModel_wantParts 127 = .ok (.iconst 1, 1) := by decide +kernel
theorem d_AdjoinedSetsModel_wantParts_128 : decode b_AdjoinedSetsModel_wantParts 128 = .ok (.iload 4, 2) := by decide +kernel
theorem d_AdjoinedSetsModel_wantParts_130 : decode b_AdjoinedSetsModel_wantParts 130 = .ok (.iload 7, 2) := by decide +kernel
theorem d_AdjoinedSetsModel_wantParts_132 : decode b_AdjoinedSetsModel_wantParts 132 = .ok (.ior, 1) := by decide +kernel
theorem d_AdjoinedSetsModel_wantParts_133 : decode b_AdjoinedSetsModel_wantParts 133 = .ok (.iload 8, 2) := by decide +kernel
theorem d_AdjoinedSetsModel_wantParts_135 : decode b_AdjoinedSetsModel_wantParts 135 = .ok (.ifCond .eq 11, 3) := by decide +kernel
theorem d_AdjoinedSetsModel_wantParts_138 : decode b_AdjoinedSetsModel_wantParts 138 = .ok (.iload 5, 2) := by decide +kernel
theorem d_AdjoinedSetsModel_wantParts_140 : decode b_AdjoinedSetsModel_wantParts 140 = .ok (.iload 7, 2) := by decide +kernel
theorem d_AdjoinedSetsModel_wantParts_142 : decode b_AdjoinedSetsModel_wantParts 142 = .ok (.ior, 1) := by decide +kernel
theorem d_AdjoinedSetsModel_wantParts_143 : decode b_AdjoinedSetsModel_wantParts 143 = .ok (.goto 10, 3) := by decide +kernel
theorem d_AdjoinedSetsModel_wantParts_146 : decode b_AdjoinedSetsModel_wantParts 146 = .ok (.iload 5, 2) := by decide +kernel
theorem d_AdjoinedSetsModel_wantParts_148 : decode b_AdjoinedSetsModel_wantParts 148 = .ok (.iload 7, 2) := by decide +kernel
theorem d_AdjoinedSetsModel_wantParts_150 : decode b_AdjoinedSetsModel_wantParts 150 = .ok (.iconst (-1), 1) := by decide +kernel
theorem d_AdjoinedSetsModel_wantParts_151 : decode b_AdjoinedSetsModel_wantParts 151 = .ok (.ixor, 1) := by decide +kernel
theorem d_AdjoinedSetsModel_wantParts_152 : decode b_AdjoinedSetsModel_wantParts 152 = .ok (.iand, 1) := by decide +kernel
theorem d_AdjoinedSetsModel_wantParts_153 : decode b_AdjoinedSetsModel_wantParts 153 = .ok (.invokevirtual 141, 3) := by decide +kernel
theorem d_AdjoinedSetsModel_wantParts_156 : decode b_AdjoinedSetsModel_wantParts 156 = .ok (.aload_n 0, 1) := by decide +kernel
theorem d_AdjoinedSetsModel_wantParts_157 : decode b_AdjoinedSetsModel_wantParts 157 = .ok (.iconst 0, 1) := by decide +kernel
theorem d_AdjoinedSetsModel_wantParts_158 : decode b_AdjoinedSetsModel_wantParts 158 = .ok (.iload 4, 2) := by decide +kernel
theorem d_AdjoinedSetsModel_wantParts_160 : decode b_AdjoinedSetsModel_wantParts 160 = .ok (.iload 5, 2) := by decide +kernel
theorem d_AdjoinedSetsModel_wantParts_162 : decode b_AdjoinedSetsModel_wantParts 162 = .ok (.invokevirtual 141, 3) := by decide +kernel
theorem d_AdjoinedSetsModel_wantParts_165 : decode b_AdjoinedSetsModel_wantParts 165 = .ok (.aload_n 0, 1) := by decide +kernel
theorem d_AdjoinedSetsModel_wantParts_166 : decode b_AdjoinedSetsModel_wantParts 166 = .ok (.iconst 2, 1) := by decide +kernel
theorem d_AdjoinedSetsModel_wantParts_167 : decode b_AdjoinedSetsModel_wantParts 167 = .ok (.iload 4, 2) := by decide +kernel
theorem d_AdjoinedSetsModel_wantParts_169 : decode b_AdjoinedSetsModel_wantParts 169 = .ok (.iload 5, 2) := by decide +kernel
theorem d_AdjoinedSetsModel_wantParts_171 : decode b_AdjoinedSetsModel_wantParts 171 = .ok (.invokevirtual 141, 3) := by decide +kernel
theorem d_AdjoinedSetsModel_wantParts_174 : decode b_AdjoinedSetsModel_wantParts 174 = .ok (.goto 70, 3) := by decide +kernel
theorem d_AdjoinedSetsModel_wantParts_177 : decode b_AdjoinedSetsModel_wantParts 177 = .ok (.aload_n 0, 1) := by decide +kernel
theorem d_AdjoinedSetsModel_wantParts_178 : decode b_AdjoinedSetsModel_wantParts 178 = .ok (.iload_n 2, 1) := by decide +kernel
theorem d_AdjoinedSetsModel_wantParts_179 : decode b_AdjoinedSetsModel_wantParts 179 = .ok (.invokevirtual 118, 3) := by decide +kernel
theorem d_AdjoinedSetsModel_wantParts_182 : decode b_AdjoinedSetsModel_wantParts 182 = .ok (.istore 7, 2) := by decide +kernel
theorem d_AdjoinedSetsModel_wantParts_184 : decode b_AdjoinedSetsModel_wantParts 184 = .ok (.iconst 1, 1) := by decide +kernel
theorem d_AdjoinedSetsModel_wantParts_185 : decode b_AdjoinedSetsModel_wantParts 185 = .ok (.istore 8, 2) := by decide +kernel
theorem d_AdjoinedSetsModel_wantParts_187 : decode b_AdjoinedSetsModel_wantParts 187 = .ok (.iload 8, 2) := by decide +kernel
theorem d_AdjoinedSetsModel_wantParts_189 : decode b_AdjoinedSetsModel_wantParts 189 = .ok (.iload 7, 2) := by decide +kernel
theorem d_AdjoinedSetsModel_wantParts_191 : decode b_AdjoinedSetsModel_wantParts 191 = .ok (.if_icmp .ge 19, 3) := by decide +kernel
theorem d_AdjoinedSetsModel_wantParts_194 : decode b_AdjoinedSetsModel_wantParts 194 = .ok (.aload_n 0, 1) := by decide +kernel
theorem d_AdjoinedSetsModel_wantParts_195 : decode b_AdjoinedSetsModel_wantParts 195 = .ok (.iload 6, 2) := by decide +kernel
theorem d_AdjoinedSetsModel_wantParts_197 : decode b_AdjoinedSetsModel_wantParts 197 = .ok (.iload 4, 2) := by decide +kernel
theorem d_AdjoinedSetsModel_wantParts_199 : decode b_AdjoinedSetsModel_wantParts 199 = .ok (.iload 5, 2) := by decide +kernel
theorem d_AdjoinedSetsModel_wantParts_201 : decode b_AdjoinedSetsModel_wantParts 201 = .ok (.invokevirtual 141, 3) := by decide +kernel
theorem d_AdjoinedSetsModel_wantParts_204 : decode b_AdjoinedSetsModel_wantParts 204 = .ok (.iinc 8 1, 3) := by decide +kernel
theorem d_AdjoinedSetsModel_wantParts_207 : decode b_AdjoinedSetsModel_wantParts 207 = .ok (.goto (-20), 3) := by decide +kernel
theorem d_AdjoinedSetsModel_wantParts_210 : decode b_AdjoinedSetsModel_wantParts 210 = .ok (.iload 7, 2) := by decide +kernel
theorem d_AdjoinedSetsModel_wantParts_212 : decode b_AdjoinedSetsModel_wantParts 212 = .ok (.ifCond .le 32, 3) := by decide +kernel
theorem d_AdjoinedSetsModel_wantParts_215 : decode b_AdjoinedSetsModel_wantParts 215 = .ok (.aload_n 0, 1) := by decide +kernel
theorem d_AdjoinedSetsModel_wantParts_216 : decode b_AdjoinedSetsModel_wantParts 216 = .ok (.iload_n 2, 1) := by decide +kernel
theorem d_AdjoinedSetsModel_wantParts_217 : decode b_AdjoinedSetsModel_wantParts 217 = .ok (.invokestatic 103, 3) := by decide +kernel
theorem d_AdjoinedSetsModel_wantParts_220 : decode b_AdjoinedSetsModel_wantParts 220 = .ok (.ifCond .eq 15, 3) := by decide +kernel
theorem d_AdjoinedSetsModel_wantParts_223 : decode b_AdjoinedSetsModel_wantParts 223 = .ok (.iload_n 2, 1) := by decide +kernel
theorem d_AdjoinedSetsModel_wantParts_224 : decode b_AdjoinedSetsModel_wantParts 224 = .ok (.bipush 65, 2) := by decide +kernel
theorem d_AdjoinedSetsModel_wantParts_226 : decode b_AdjoinedSetsModel_wantParts 226 = .ok (.isub, 1) := by decide +kernel
theorem d_AdjoinedSetsModel_wantParts_227 : decode b_AdjoinedSetsModel_wantParts 227 = .ok (.iload_n 3, 1) := by decide +kernel
theorem d_AdjoinedSetsModel_wantParts_228 : decode b_AdjoinedSetsModel_wantParts 228 = .ok (.if_icmp .ne 7, 3) := by decide +kernel
theorem d_AdjoinedSetsModel_wantParts_231 : decode b_AdjoinedSetsModel_wantParts 231 = .ok (.iconst 3, 1) := by decide +kernel
theorem d_AdjoinedSetsModel_wantParts_232 : decode b_AdjoinedSetsModel_wantParts 232 = .ok (.goto 5, 3) := by decide +kernel
theorem d_AdjoinedSetsModel_wantParts_235 : decode b_AdjoinedSetsModel_wantParts 235 = .ok (.iload 6, 2) := by decide +kernel
theorem d_AdjoinedSetsModel_wantParts_237 : decode b_AdjoinedSetsModel_wantParts 237 = .ok (.iload 4, 2) := by decide +kernel
theorem d_AdjoinedSetsModel_wantParts_239 : decode b_AdjoinedSetsModel_wantParts 239 = .ok (.iload 5, 2) := by decide +kernel
theorem d_AdjoinedSetsModel_wantParts_241 : decode b_AdjoinedSetsModel_wantParts 241 = .ok (.invokevirtual 141, 3) := by decide +kernel
theorem d_AdjoinedSetsModel_wantParts_244 : decode b_AdjoinedSetsModel_wantParts 244 = .ok (.return_, 1) := by decide +kernel
def s_AdjoinedSetsModel_wantParts_153 (x0 : Nat) (x4 : Int32) (x5 : Int32) (t0 : Nat) (t1 : Int32) (t2 : Int32) (t3 : Int32) (h : HP) : Option (HP) :=
  (kd t0 9).bind fun _ =>
  (s_AdjoinedSetsModel_want t0 t1 t2 t3 h).bind fun q2 =>
  (kd x0 9).bind fun _ =>
  (s_AdjoinedSetsModel_want x0 0 x4 x5 q2).bind fun q5 =>
  (kd x0 9).bind fun _ =>
  (s_AdjoinedSetsModel_want x0 2 x4 x5 q5).bind fun q8 =>
  some q8
set_option maxHeartbeats 4000000 in
set_option maxRecDepth 100000 in
theorem k_AdjoinedSetsModel_wantParts_153 {x0 : Nat} {x4 : Int32} {x5 : Int32} {t0 : Nat} {t1 : Int32} {t2 : Int32} {t3 : Int32} {h : HP} {z : HP} (C : CX g R_AdjoinedSetsModel b_AdjoinedSetsModel_wantParts 9 none p s m args meth c) {H : Heap} {locs : List Loc} {ls : Array Slot} (hw : WD g h s.heap H locs) (hl : lv_has ls 9 [(0, .ref (aD g x0)), (4, .int x4), (5, .int x5)]) (hs : s_AdjoinedSetsModel_wantParts_153 x0 x4 x5 t0 t1 t2 t3 h = some z) : W p l e (rmS 2 41) s m args below meth c H locs 0 0 (MQ below (Qq g none z) args s 0 0 (inA g)) (F0 m 153 ls [.int t3, .int t2, .int t1, .ref (aD g t0)]) := by
  unfold s_AdjoinedSetsModel_wantParts_153 at hs
  have hx := C.1
  have hb := C.2.1
  obtain ⟨_, e1, hs⟩ := ob hs
  obtain ⟨q2, e3, hs⟩ := ob hs
  refine pg_callV C hw hl.1 ml_AdjoinedSetsModel_141 e1 (As := [.int t1, .int t2, .int t3]) (rest := []) (c_AdjoinedSetsModel_want l g e3) rfl (rm_ok (Nat.le_of_ble_eq_true rfl) (Nat.le_of_ble_eq_true rfl)) (Nat.le_of_ble_eq_true rfl) rfl (st1 := []) rfl d_AdjoinedSetsModel_wantParts_153 (fun H locs hw => ?_)
  refine lv_aload_n hx hb d_AdjoinedSetsModel_wantParts_156 rfl (lv_at hl 0 rfl) ?_
  refine lv_iconst (v := 0) hx hb d_AdjoinedSetsModel_wantParts_157 (by decide) ?_
  refine lv_iload hx hb d_AdjoinedSetsModel_wantParts_158 (lv_at hl 1 rfl) ?_
  refine lv_iload hx hb d_AdjoinedSetsModel_wantParts_160 (lv_at hl 2 rfl) ?_
  obtain ⟨_, e4, hs⟩ := ob hs
  obtain ⟨q5, e6, hs⟩ := ob hs
  refine pg_callV C hw hl.1 ml_AdjoinedSetsModel_141 e4 (As := [.int 0, .int x4, .int x5]) (rest := []) (c_AdjoinedSetsModel_want l g e6) rfl (rm_ok (Nat.le_of_ble_eq_true rfl) (Nat.le_of_ble_eq_true rfl)) (Nat.le_of_ble_eq_true rfl) rfl (st1 := []) rfl d_AdjoinedSetsModel_wantParts_162 (fun H locs hw => ?_)
  refine lv_aload_n hx hb d_AdjoinedSetsModel_wantParts_165 rfl (lv_at hl 0 rfl) ?_
  refine lv_iconst (v := 2) hx hb d_AdjoinedSetsModel_wantParts_166 (by decide) ?_
  refine lv_iload hx hb d_AdjoinedSetsModel_wantParts_167 (lv_at hl 1 rfl) ?_
  refine lv_iload hx hb d_AdjoinedSetsModel_wantParts_169 (lv_at hl 2 rfl) ?_
  obtain ⟨_, e7, hs⟩ := ob hs
  obtain ⟨q8, e9, hs⟩ := ob hs
  refine pg_callV C hw hl.1 ml_AdjoinedSetsModel_141 e7 (As := [.int 2, .int x4, .int x5]) (rest := []) (c_AdjoinedSetsModel_want l g e9) rfl (rm_ok (Nat.le_of_ble_eq_true rfl) (Nat.le_of_ble_eq_true rfl)) (Nat.le_of_ble_eq_true rfl) rfl (st1 := []) rfl d_AdjoinedSetsModel_wantParts_171 (fun H locs hw => ?_)
  refine lv_goto hx hb d_AdjoinedSetsModel_wantParts_174 (tgt := 244) (by decide) ?_
  obtain rfl := Option.some.inj hs
  exact pg_vret C hw d_AdjoinedSetsModel_wantParts_244

def s_AdjoinedSetsModel_wantParts_128 (x0 : Nat) (x4 : Int32) (x5 : Int32) (x7 : Int32) (x8 : Int32) (t0 : Nat) (t1 : Int32) (h : HP) : Option (HP) :=
  if x8 = 0 then (
    s_AdjoinedSetsModel_wantParts_153 x0 x4 x5 t0 t1 (x4 ||| x7) (x5 &&& (x7 ^^^ (-1))) h)
  else (
    s_AdjoinedSetsModel_wantParts_153 x0 x4 x5 t0 t1 (x4 ||| x7) (x5 ||| x7) h)
set_option maxHeartbeats 4000000 in
set_option maxRecDepth 100000 in
theorem k_AdjoinedSetsModel_wantParts_128 {x0 : Nat} {x4 : Int32} {x5 : Int32} {x7 : Int32} {x8 : Int32} {t0 : Nat} {t1 : Int32} {h : HP} {z : HP} (C : CX g R_AdjoinedSetsModel b_AdjoinedSetsModel_wantParts 9 none p s m args meth c) {H : Heap} {locs : List Loc} {ls : Array Slot} (hw : WD g h s.heap H locs) (hl : lv_has ls 9 [(0, .ref (aD g x0)), (4, .int x4), (5, .int x5), (7, .int x7), (8, .int x8)]) (hs : s_AdjoinedSetsModel_wantParts_128 x0 x4 x5 x7 x8 t0 t1 h = some z) : W p l e (rmS 2 41) s m args below meth c H locs 0 0 (MQ below (Qq g none z) args s 0 0 (inA g)) (F0 m 128 ls [.int t1, .ref (aD g t0)]) := by
  unfold s_AdjoinedSetsModel_wantParts_128 at hs
  have hx := C.1
  have hb := C.2.1
  refine lv_iload hx hb d_AdjoinedSetsModel_wantParts_128 (lv_at hl 1 rfl) ?_
  refine lv_iload hx hb d_AdjoinedSetsModel_wantParts_130 (lv_at hl 3 rfl) ?_
  refine lv_ior hx hb d_AdjoinedSetsModel_wantParts_132 ?_
  refine lv_iload hx hb d_AdjoinedSetsModel_wantParts_133 (lv_at hl 4 rfl) ?_
  refine lv_if_eq hx hb d_AdjoinedSetsModel_wantParts_135 (tgt := 146) (by decide) (fun hc => ?_) (fun hc => ?_)
  · have hs := oi_t hc hs
    refine lv_iload hx hb d_AdjoinedSetsModel_wantParts_146 (lv_at hl 2 rfl) ?_
    refine lv_iload hx hb d_AdjoinedSetsModel_wantParts_148 (lv_at hl 3 rfl) ?_
    refine lv_iconst (v := (-1)) hx hb d_AdjoinedSetsModel_wantParts_150 (by decide) ?_
    refine lv_ixor hx hb d_AdjoinedSetsModel_wantParts_151 ?_
    refine lv_iand hx hb d_AdjoinedSetsModel_wantParts_152 ?_
    exact k_AdjoinedSetsModel_wantParts_153 C hw (lv_sub hl [0, 1, 2] rfl) hs
  · have hs := oi_f hc hs
    refine lv_iload hx hb d_AdjoinedSetsModel_wantParts_138 (lv_at hl 2 rfl) ?_
    refine lv_iload hx hb d_AdjoinedSetsModel_wantParts_140 (lv_at hl 3 rfl) ?_
    refine lv_ior hx hb d_AdjoinedSetsModel_wantParts_142 ?_
    refine lv_goto hx hb d_AdjoinedSetsModel_wantParts_143 (tgt := 153) (by decide) ?_
    exact k_AdjoinedSetsModel_wantParts_153 C hw (lv_sub hl [0, 1, 2] rfl) hs

def s_AdjoinedSetsModel_wantParts_114 (x0 : Nat) (x2 : Int32) (x4 : Int32) (x5 : Int32) (x7 : Int32) (t0 : Int32) (h : HP) : Option (HP) :=
  if x2 = 73 then (
    s_AdjoinedSetsModel_wantParts_128 x0 x4 x5 x7 t0 x0 0 h)
  else (
    s_AdjoinedSetsModel_wantParts_128 x0 x4 x5 x7 t0 x0 1 h)
set_option maxHeartbeats 4000000 in
set_option maxRecDepth 100000 in
theorem k_AdjoinedSetsModel_wantParts_114 {x0 : Nat} {x2 : Int32} {x4 : Int32} {x5 : Int32} {x7 : Int32} {t0 : Int32} {h : HP} {z : HP} (C : CX g R_AdjoinedSetsModel b_AdjoinedSetsModel_wantParts 9 none p s m args meth c) {H : Heap} {locs : List Loc} {ls : Array Slot} (hw : WD g h s.heap H locs) (hl : lv_has ls 9 [(0, .ref (aD g x0)), (2, .int x2), (4, .int x4), (5, .int x5), (7, .int x7)]) (hs : s_AdjoinedSetsModel_wantParts_114 x0 x2 x4 x5 x7 t0 h = some z) : W p l e (rmS 2 41) s m args below meth c H locs 0 0 (MQ below (Qq g none z) args s 0 0 (inA g)) (F0 m 114 ls [.int t0]) := by
  unfold s_AdjoinedSetsModel_wantParts_114 at hs
  have hx := C.1
  have hb := C.2.1
  refine lv_istore hx hb d_AdjoinedSetsModel_wantParts_114 hl (by decide) (lv' := [(8, .int t0), (0, .ref (aD g x0)), (2, .int x2), (4, .int x4), (5, .int x5), (7, .int x7)]) rfl (fun ls hl => ?_)
  refine lv_aload_n hx hb d_AdjoinedSetsModel_wantParts_116 rfl (lv_at hl 1 rfl) ?_
  refine lv_iload_n hx hb d_AdjoinedSetsModel_wantParts_117 rfl (lv_at hl 2 rfl) ?_
  refine lv_bipush (v := 73) hx hb d_AdjoinedSetsModel_wantParts_118 (by decide) ?_
  refine lv_icmp_ne hx hb d_AdjoinedSetsModel_wantParts_120 (tgt := 127) (by decide) (fun hc => ?_) (fun hc => ?_)
  · have hs := oi_f hc hs
    refine lv_iconst (v := 1) hx hb d_AdjoinedSetsModel_wantParts_127 (by decide) ?_
    exact k_AdjoinedSetsModel_wantParts_128 C hw (lv_sub hl [1, 3, 4, 5, 0] rfl) hs
  · have hs := oi_t hc hs
    refine lv_iconst (v := 0) hx hb d_AdjoinedSetsModel_wantParts_123 (by decide) ?_
    refine lv_goto hx hb d_AdjoinedSetsModel_wantParts_124 (tgt := 128) (by decide) ?_
    exact k_AdjoinedSetsModel_wantParts_128 C hw (lv_sub hl [1, 3, 4, 5, 0] rfl) hs

def s_AdjoinedSetsModel_wantParts_113 (x0 : Nat) (x2 : Int32) (x4 : Int32) (x5 : Int32) (x7 : Int32) (h : HP) : Option (HP) :=
  s_AdjoinedSetsModel_wantParts_114 x0 x2 x4 x5 x7 0 h
set_option maxHeartbeats 4000000 in
set_option maxRecDepth 100000 in
theorem k_AdjoinedSetsModel_wantParts_113 {x0 : Nat} {x2 : Int32} {x4 : Int32} {x5 : Int32} {x7 : Int32} {h : HP} {z : HP} (C : CX g R_AdjoinedSetsModel b_AdjoinedSetsModel_wantParts 9 none p s m args meth c) {H : Heap} {locs : List Loc} {ls : Array Slot} (hw : WD g h s.heap H locs) (hl : lv_has ls 9 [(0, .ref (aD g x0)), (2, .int x2), (4, .int x4), (5, .int x5), (7, .int x7)]) (hs : s_AdjoinedSetsModel_wantParts_113 x0 x2 x4 x5 x7 h = some z) : W p l e (rmS 2 41) s m args below meth c H locs 0 0 (MQ below (Qq g none z) args s 0 0 (inA g)) (F0 m 113 ls []) := by
  unfold s_AdjoinedSetsModel_wantParts_113 at hs
  have hx := C.1
  have hb := C.2.1
  refine lv_iconst (v := 0) hx hb d_AdjoinedSetsModel_wantParts_113 (by decide) ?_
  exact k_AdjoinedSetsModel_wantParts_114 C hw (lv_sub hl [0, 1, 2, 3, 4] rfl) hs

def s_AdjoinedSetsModel_wantParts_77 (x0 : Nat) (x1 : Int32) (x2 : Int32) (x4 : Int32) (x5 : Int32) (t0 : Int32) (h : HP) : Option (HP) :=
  (gI h x0 9 1).bind fun v1 =>
  if v1 ≤ (x1 + 2) then (
    s_AdjoinedSetsModel_wantParts_113 x0 x2 x4 x5 t0 h)
  else (
    (gR h x0 9 0).bind fun v3 =>
    (aI h v3 0 (x1 + 2)).bind fun v5 =>
    if v5 = 97 then (
      if (x4 &&& 1) = 0 then (
        s_AdjoinedSetsModel_wantParts_114 x0 x2 x4 x5 t0 1 h)
      else (
        s_AdjoinedSetsModel_wantParts_113 x0 x2 x4 x5 t0 h))
    else (
      s_AdjoinedSetsModel_wantParts_113 x0 x2 x4 x5 t0 h))
set_option maxHeartbeats 4000000 in
set_option maxRecDepth 100000 in
theorem k_AdjoinedSetsModel_wantParts_77 {x0 : Nat} {x1 : Int32} {x2 : Int32} {x4 : Int32} {x5 : Int32} {t0 : Int32} {h : HP} {z : HP} (C : CX g R_AdjoinedSetsModel b_AdjoinedSetsModel_wantParts 9 none p s m args meth c) {H : Heap} {locs : List Loc} {ls : Array Slot} (hw : WD g h s.heap H locs) (hl : lv_has ls 9 [(0, .ref (aD g x0)), (1, .int x1), (2, .int x2), (4, .int x4), (5, .int x5)]) (hs : s_AdjoinedSetsModel_wantParts_77 x0 x1 x2 x4 x5 t0 h = some z) : W p l e (rmS 2 41) s m args below meth c H locs 0 0 (MQ below (Qq g none z) args s 0 0 (inA g)) (F0 m 77 ls [.int t0]) := by
  unfold s_AdjoinedSetsModel_wantParts_77 at hs
  have hx := C.1
  have hb := C.2.1
  refine lv_istore hx hb d_AdjoinedSetsModel_wantParts_77 hl (by decide) (lv' := [(7, .int t0), (0, .ref (aD g x0)), (1, .int x1), (2, .int x2), (4, .int x4), (5, .int x5)]) rfl (fun ls hl => ?_)
  refine lv_iload_n hx hb d_AdjoinedSetsModel_wantParts_79 rfl (lv_at hl 2 rfl) ?_
  refine lv_iconst (v := 2) hx hb d_AdjoinedSetsModel_wantParts_80 (by decide) ?_
  refine lv_iadd hx hb d_AdjoinedSetsModel_wantParts_81 ?_
  refine lv_aload_n hx hb d_AdjoinedSetsModel_wantParts_82 rfl (lv_at hl 1 rfl) ?_
  obtain ⟨v1, e2, hs⟩ := ob hs
  refine pg_getI C hw fl_AdjoinedSetsModel_124 e2 d_AdjoinedSetsModel_wantParts_83 ?_
  refine lv_icmp_ge hx hb d_AdjoinedSetsModel_wantParts_86 (tgt := 113) (by decide) (fun hc => ?_) (fun hc => ?_)
  · have hs := oi_t hc hs
    exact k_AdjoinedSetsModel_wantParts_113 C hw (lv_sub hl [1, 3, 4, 5, 0] rfl) hs
  · have hs := oi_f hc hs
    refine lv_aload_n hx hb d_AdjoinedSetsModel_wantParts_89 rfl (lv_at hl 1 rfl) ?_
    obtain ⟨v3, e4, hs⟩ := ob hs
    refine pg_getR C hw fl_AdjoinedSetsModel_7 e4 d_AdjoinedSetsModel_wantParts_90 ?_
    refine lv_iload_n hx hb d_AdjoinedSetsModel_wantParts_93 rfl (lv_at hl 2 rfl) ?_
    refine lv_iconst (v := 2) hx hb d_AdjoinedSetsModel_wantParts_94 (by decide) ?_
    refine lv_iadd hx hb d_AdjoinedSetsModel_wantParts_95 ?_
    obtain ⟨v5, e6, hs⟩ := ob hs
    refine pg_iaload C hw (t0 := 0) rfl e6 d_AdjoinedSetsModel_wantParts_96 ?_
    refine lv_bipush (v := 97) hx hb d_AdjoinedSetsModel_wantParts_97 (by decide) ?_
    refine lv_icmp_ne hx hb d_AdjoinedSetsModel_wantParts_99 (tgt := 113) (by decide) (fun hc => ?_) (fun hc => ?_)
    · have hs := oi_f hc hs
      exact k_AdjoinedSetsModel_wantParts_113 C hw (lv_sub hl [1, 3, 4, 5, 0] rfl) hs
    · have hs := oi_t hc hs
      refine lv_iload hx hb d_AdjoinedSetsModel_wantParts_102 (lv_at hl 4 rfl) ?_
      refine lv_iconst (v := 1) hx hb d_AdjoinedSetsModel_wantParts_104 (by decide) ?_
      refine lv_iand hx hb d_AdjoinedSetsModel_wantParts_105 ?_
      refine lv_if_ne hx hb d_AdjoinedSetsModel_wantParts_106 (tgt := 113) (by decide) (fun hc => ?_) (fun hc => ?_)
      · have hs := oi_f hc hs
        exact k_AdjoinedSetsModel_wantParts_113 C hw (lv_sub hl [1, 3, 4, 5, 0] rfl) hs
      · have hs := oi_t hc hs
        refine lv_iconst (v := 1) hx hb d_AdjoinedSetsModel_wantParts_109 (by decide) ?_
        refine lv_goto hx hb d_AdjoinedSetsModel_wantParts_110 (tgt := 114) (by decide) ?_
        exact k_AdjoinedSetsModel_wantParts_114 C hw (lv_sub hl [1, 3, 4, 5, 0] rfl) hs

def s_AdjoinedSetsModel_wantParts_76 (x0 : Nat) (x1 : Int32) (x2 : Int32) (x4 : Int32) (x5 : Int32) (h : HP) : Option (HP) :=
  s_AdjoinedSetsModel_wantParts_77 x0 x1 x2 x4 x5 0 h
set_option maxHeartbeats 4000000 in
set_option maxRecDepth 100000 in
theorem k_AdjoinedSetsModel_wantParts_76 {x0 : Nat} {x1 : Int32} {x2 : Int32} {x4 : Int32} {x5 : Int32} {h : HP} {z : HP} (C : CX g R_AdjoinedSetsModel b_AdjoinedSetsModel_wantParts 9 none p s m args meth c) {H : Heap} {locs : List Loc} {ls : Array Slot} (hw : WD g h s.heap H locs) (hl : lv_has ls 9 [(0, .ref (aD g x0)), (1, .int x1), (2, .int x2), (4, .int x4), (5, .int x5)]) (hs : s_AdjoinedSetsModel_wantParts_76 x0 x1 x2 x4 x5 h = some z) : W p l e (rmS 2 41) s m args below meth c H locs 0 0 (MQ below (Qq g none z) args s 0 0 (inA g)) (F0 m 76 ls []) := by
  unfold s_AdjoinedSetsModel_wantParts_76 at hs
  have hx := C.1
  have hb := C.2.1
  refine lv_iconst (v := 0) hx hb d_AdjoinedSetsModel_wantParts_76 (by decide) ?_
  exact k_AdjoinedSetsModel_wantParts_77 C hw (lv_sub hl [0, 1, 2, 3, 4] rfl) hs

def s_AdjoinedSetsModel_wantParts_237 (x4 : Int32) (x5 : Int32) (t0 : Nat) (t1 : Int32) (h : HP) : Option (HP) :=
  (kd t0 9).bind fun _ =>
  (s_AdjoinedSetsModel_want t0 t1 x4 x5 h).bind fun q2 =>
  some q2
set_option maxHeartbeats 4000000 in
set_option maxRecDepth 100000 in
theorem k_AdjoinedSetsModel_wantParts_237 {x4 : Int32} {x5 : Int32} {t0 : Nat} {t1 : Int32} {h : HP} {z : HP} (C : CX g R_AdjoinedSetsModel b_AdjoinedSetsModel_wantParts 9 none p s m args meth c) {H : Heap} {locs : List Loc} {ls : Array Slot} (hw : WD g h s.heap H locs) (hl : lv_has ls 9 [(4, .int x4), (5, .int x5)]) (hs : s_AdjoinedSetsModel_wantParts_237 x4 x5 t0 t1 h = some z) : W p l e (rmS 2 41) s m args below meth c H locs 0 0 (MQ below (Qq g none z) args s 0 0 (inA g)) (F0 m 237 ls [.int t1, .ref (aD g t0)]) := by
  unfold s_AdjoinedSetsModel_wantParts_237 at hs
  have hx := C.1
  have hb := C.2.1
  refine lv_iload hx hb d_AdjoinedSetsModel_wantParts_237 (lv_at hl 0 rfl) ?_
  refine lv_iload hx hb d_AdjoinedSetsModel_wantParts_239 (lv_at hl 1 rfl) ?_
  obtain ⟨_, e1, hs⟩ := ob hs
  obtain ⟨q2, e3, hs⟩ := ob hs
  refine pg_callV C hw hl.1 ml_AdjoinedSetsModel_141 e1 (As := [.int t1, .int x4, .int x5]) (rest := []) (c_AdjoinedSetsModel_want l g e3) rfl (rm_ok (Nat.le_of_ble_eq_true rfl) (Nat.le_of_ble_eq_true rfl)) (Nat.le_of_ble_eq_true rfl) rfl (st1 := []) rfl d_AdjoinedSetsModel_wantParts_241 (fun H locs hw => ?_)
  obtain rfl := Option.some.inj hs
  exact pg_vret C hw d_AdjoinedSetsModel_wantParts_244

def s_AdjoinedSetsModel_wantParts_235 (x4 : Int32) (x5 : Int32) (x6 : Int32) (t0 : Nat) (h : HP) : Option (HP) :=
  s_AdjoinedSetsModel_wantParts_237 x4 x5 t0 x6 h
set_option maxHeartbeats 4000000 in
set_option maxRecDepth 100000 in
theorem k_AdjoinedSetsModel_wantParts_235 {x4 : Int32} {x5 : Int32} {x6 : Int32} {t0 : Nat} {h : HP} {z : HP} (C : CX g R_AdjoinedSetsModel b_AdjoinedSetsModel_wantParts 9 none p s m args meth c) {H : Heap} {locs : List Loc} {ls : Array Slot} (hw : WD g h s.heap H locs) (hl : lv_has ls 9 [(4, .int x4), (5, .int x5), (6, .int x6)]) (hs : s_AdjoinedSetsModel_wantParts_235 x4 x5 x6 t0 h = some z) : W p l e (rmS 2 41) s m args below meth c H locs 0 0 (MQ below (Qq g none z) args s 0 0 (inA g)) (F0 m 235 ls [.ref (aD g t0)]) := by
  unfold s_AdjoinedSetsModel_wantParts_235 at hs
  have hx := C.1
  have hb := C.2.1
  refine lv_iload hx hb d_AdjoinedSetsModel_wantParts_235 (lv_at hl 2 rfl) ?_
  exact k_AdjoinedSetsModel_wantParts_237 C hw (lv_sub hl [0, 1] rfl) hs

def s_AdjoinedSetsModel_wantParts_187 : Nat → Nat → Int32 → Int32 → Int32 → Int32 → Int32 → Int32 → Int32 → HP → Option (HP)
  | 0 => fun _ _ _ _ _ _ _ _ _ => none
  | k + 1 => fun x0 x2 x3 x4 x5 x6 x7 x8 h =>
  if x7 ≤ x8 then (
    if x7 ≤ 0 then (
      some h)
    else (
      (s_AdjoinedSetsModel_isFunction x2).bind fun q1 =>
      if q1 = 0 then (
        s_AdjoinedSetsModel_wantParts_235 x4 x5 x6 x0 h)
      else (
        if (x2 - 65) = x3 then (
          s_AdjoinedSetsModel_wantParts_237 x4 x5 x0 3 h)
        else (
          s_AdjoinedSetsModel_wantParts_235 x4 x5 x6 x0 h))))
  else (
    (kd x0 9).bind fun _ =>
    (s_AdjoinedSetsModel_want x0 x6 x4 x5 h).bind fun q4 =>
    (s_AdjoinedSetsModel_wantParts_187 k) x0 x2 x3 x4 x5 x6 x7 (x8 + 1) q4)
set_option maxHeartbeats 4000000 in
set_option maxRecDepth 100000 in
theorem k_AdjoinedSetsModel_wantParts_187 {z : HP} (C : CX g R_AdjoinedSetsModel b_AdjoinedSetsModel_wantParts 9 none p s m args meth c) : ∀ (k : Nat) {x0 : Nat} {x2 : Int32} {x3 : Int32} {x4 : Int32} {x5 : Int32} {x6 : Int32} {x7 : Int32} {x8 : Int32} {h : HP} {H : Heap} {locs : List Loc} {ls : Array Slot}, WD g h s.heap H locs → lv_has ls 9 [(0, .ref (aD g x0)), (2, .int x2), (3, .int x3), (4, .int x4), (5, .int x5), (6, .int x6), (7, .int x7), (8, .int x8)] → s_AdjoinedSetsModel_wantParts_187 k x0 x2 x3 x4 x5 x6 x7 x8 h = some z → W p l e (rmS 2 41) s m args below meth c H locs 0 0 (MQ below (Qq g none z) args s 0 0 (inA g)) (F0 m 187 ls []) := by
  have hx := C.1
  have hb := C.2.1
  intro k
  induction k with
  | zero =>
    intro x0 x2 x3 x4 x5 x6 x7 x8 h H locs ls hw hl hs
    exact (no_s hs).elim
  | succ k ih =>
    intro x0 x2 x3 x4 x5 x6 x7 x8 h H locs ls hw hl hs
    rw [s_AdjoinedSetsModel_wantParts_187] at hs
    refine lv_iload hx hb d_AdjoinedSetsModel_wantParts_187 (lv_at hl 7 rfl) ?_
    refine lv_iload hx hb d_AdjoinedSetsModel_wantParts_189 (lv_at hl 6 rfl) ?_
    refine lv_icmp_ge hx hb d_AdjoinedSetsModel_wantParts_191 (tgt := 210) (by decide) (fun hc => ?_) (fun hc => ?_)
    · have hs := oi_t hc hs
      refine lv_iload hx hb d_AdjoinedSetsModel_wantParts_210 (lv_at hl 6 rfl) ?_
      refine lv_if_le hx hb d_AdjoinedSetsModel_wantParts_212 (tgt := 244) (by decide) (fun hc => ?_) (fun hc => ?_)
      · have hs := oi_t hc hs
        obtain rfl := Option.some.inj hs
        exact pg_vret C hw d_AdjoinedSetsModel_wantParts_244
      · have hs := oi_f hc hs
        refine lv_aload_n hx hb d_AdjoinedSetsModel_wantParts_215 rfl (lv_at hl 0 rfl) ?_
        refine lv_iload_n hx hb d_AdjoinedSetsModel_wantParts_216 rfl (lv_at hl 1 rfl) ?_
        obtain ⟨q1, e2, hs⟩ := ob hs
        refine pg_callS C hw hl.1 ml_AdjoinedSetsModel_103 (As := [.int x2]) (rest := [.ref (aD g x0)]) (c_AdjoinedSetsModel_isFunction l g e2) rfl (rm_ok (Nat.le_of_ble_eq_true rfl) (Nat.le_of_ble_eq_true rfl)) (Nat.le_of_ble_eq_true rfl) rfl (st1 := [.int q1, .ref (aD g x0)]) rfl d_AdjoinedSetsModel_wantParts_217 (fun H locs hw => ?_)
        refine lv_if_eq hx hb d_AdjoinedSetsModel_wantParts_220 (tgt := 235) (by decide) (fun hc => ?_) (fun hc => ?_)
        · have hs := oi_t hc hs
          exact k_AdjoinedSetsModel_wantParts_235 C hw (lv_sub hl [3, 4, 5] rfl) hs
        · have hs := oi_f hc hs
          refine lv_iload_n hx hb d_AdjoinedSetsModel_wantParts_223 rfl (lv_at hl 1 rfl) ?_
          refine lv_bipush (v := 65) hx hb d_AdjoinedSetsModel_wantParts_224 (by decide) ?_
          refine lv_isub hx hb d_AdjoinedSetsModel_wantParts_226 ?_
          refine lv_iload_n hx hb d_AdjoinedSetsModel_wantParts_227 rfl (lv_at hl 2 rfl) ?_
          refine lv_icmp_ne hx hb d_AdjoinedSetsModel_wantParts_228 (tgt := 235) (by decide) (fun hc => ?_) (fun hc => ?_)
          · have hs := oi_f hc hs
            exact k_AdjoinedSetsModel_wantParts_235 C hw (lv_sub hl [3, 4, 5] rfl) hs
          · have hs := oi_t hc hs
            refine lv_iconst (v := 3) hx hb d_AdjoinedSetsModel_wantParts_231 (by decide) ?_
            refine lv_goto hx hb d_AdjoinedSetsModel_wantParts_232 (tgt := 237) (by decide) ?_
            exact k_AdjoinedSetsModel_wantParts_237 C hw (lv_sub hl [3, 4] rfl) hs
    · have hs := oi_f hc hs
      refine lv_aload_n hx hb d_AdjoinedSetsModel_wantParts_194 rfl (lv_at hl 0 rfl) ?_
      refine lv_iload hx hb d_AdjoinedSetsModel_wantParts_195 (lv_at hl 5 rfl) ?_
      refine lv_iload hx hb d_AdjoinedSetsModel_wantParts_197 (lv_at hl 3 rfl) ?_
      refine lv_iload hx hb d_AdjoinedSetsModel_wantParts_199 (lv_at hl 4 rfl) ?_
      obtain ⟨_, e3, hs⟩ := ob hs
      obtain ⟨q4, e5, hs⟩ := ob hs
      refine pg_callV C hw hl.1 ml_AdjoinedSetsModel_141 e3 (As := [.int x6, .int x4, .int x5]) (rest := []) (c_AdjoinedSetsModel_want l g e5) rfl (rm_ok (Nat.le_of_ble_eq_true rfl) (Nat.le_of_ble_eq_true rfl)) (Nat.le_of_ble_eq_true rfl) rfl (st1 := []) rfl d_AdjoinedSetsModel_wantParts_201 (fun H locs hw => ?_)
      refine lv_iinc hx hb d_AdjoinedSetsModel_wantParts_204 hl (k := 7) rfl (v := (x8 + 1)) (iinc_e _ (by decide)) (by decide) (lv' := [(8, .int (x8 + 1)), (0, .ref (aD g x0)), (2, .int x2), (3, .int x3), (4, .int x4), (5, .int x5), (6, .int x6), (7, .int x7)]) rfl (fun ls hl => ?_)
      refine lv_goto hx hb d_AdjoinedSetsModel_wantParts_207 (tgt := 187) (by decide) ?_
      exact ih hw (lv_sub hl [1, 2, 3, 4, 5, 6, 7, 0] rfl) hs

def s_AdjoinedSetsModel_wantParts_29 (x0 : Nat) (x1 : Int32) (x2 : Int32) (x3 : Int32) (x4 : Int32) (x5 : Int32) (t0 : Int32) (h : HP) : Option (HP) :=
  (s_AdjoinedSetsModel_isBinder x2).bind fun q1 =>
  if q1 = 0 then (
    (kd x0 9).bind fun _ =>
    (s_AdjoinedSetsModel_partsOf x0 x2 h).bind fun q4 =>
    s_AdjoinedSetsModel_wantParts_187 20000 x0 x2 x3 x4 x5 t0 q4 1 h)
  else (
    (gI h x0 9 1).bind fun v6 =>
    if v6 ≤ (x1 + 1) then (
      s_AdjoinedSetsModel_wantParts_76 x0 x1 x2 x4 x5 h)
    else (
      (gR h x0 9 0).bind fun v8 =>
      (aI h v8 0 (x1 + 1)).bind fun v10 =>
      (s_AdjoinedSetsModel_isLow v10).bind fun q12 =>
      if q12 = 0 then (
        s_AdjoinedSetsModel_wantParts_76 x0 x1 x2 x4 x5 h)
      else (
        (gR h x0 9 0).bind fun v14 =>
        (aI h v14 0 (x1 + 1)).bind fun v16 =>
        (s_AdjoinedSetsModel_bit v16).bind fun q18 =>
        s_AdjoinedSetsModel_wantParts_77 x0 x1 x2 x4 x5 q18 h)))
set_option maxHeartbeats 4000000 in
set_option maxRecDepth 100000 in
theorem k_AdjoinedSetsModel_wantParts_29 {x0 : Nat} {x1 : Int32} {x2 : Int32} {x3 : Int32} {x4 : Int32} {x5 : Int32} {t0 : Int32} {h : HP} {z : HP} (C : CX g R_AdjoinedSetsModel b_AdjoinedSetsModel_wantParts 9 none p s m args meth c) {H : Heap} {locs : List Loc} {ls : Array Slot} (hw : WD g h s.heap H locs) (hl : lv_has ls 9 [(0, .ref (aD g x0)), (1, .int x1), (2, .int x2), (3, .int x3), (4, .int x4), (5, .int x5)]) (hs : s_AdjoinedSetsModel_wantParts_29 x0 x1 x2 x3 x4 x5 t0 h = some z) : W p l e (rmS 2 41) s m args below meth c H locs 0 0 (MQ below (Qq g none z) args s 0 0 (inA g)) (F0 m 29 ls [.int t0]) := by
  unfold s_AdjoinedSetsModel_wantParts_29 at hs
  have hx := C.1
  have hb := C.2.1
  refine lv_istore hx hb d_AdjoinedSetsModel_wantParts_29 hl (by decide) (lv' := [(6, .int t0), (0, .ref (aD g x0)), (1, .int x1), (2, .int x2), (3, .int x3), (4, .int x4), (5, .int x5)]) rfl (fun ls hl => ?_)
  refine lv_iload_n hx hb d_AdjoinedSetsModel_wantParts_31 rfl (lv_at hl 3 rfl) ?_
  obtain ⟨q1, e2, hs⟩ := ob hs
  refine pg_callS C hw hl.1 ml_AdjoinedSetsModel_115 (As := [.int x2]) (rest := []) (c_AdjoinedSetsModel_isBinder l g e2) rfl (rm_ok (Nat.le_of_ble_eq_true rfl) (Nat.le_of_ble_eq_true rfl)) (Nat.le_of_ble_eq_true rfl) rfl (st1 := [.int q1]) rfl d_AdjoinedSetsModel_wantParts_32 (fun H locs hw => ?_)
  refine lv_if_eq hx hb d_AdjoinedSetsModel_wantParts_35 (tgt := 177) (by decide) (fun hc => ?_) (fun hc => ?_)
  · have hs := oi_t hc hs
    refine lv_aload_n hx hb d_AdjoinedSetsModel_wantParts_177 rfl (lv_at hl 1 rfl) ?_
    refine lv_iload_n hx hb d_AdjoinedSetsModel_wantParts_178 rfl (lv_at hl 3 rfl) ?_
    obtain ⟨_, e3, hs⟩ := ob hs
    obtain ⟨q4, e5, hs⟩ := ob hs
    refine pg_callV C hw hl.1 ml_AdjoinedSetsModel_118 e3 (As := [.int x2]) (rest := []) (c_AdjoinedSetsModel_partsOf l g e5) rfl (rm_ok (Nat.le_of_ble_eq_true rfl) (Nat.le_of_ble_eq_true rfl)) (Nat.le_of_ble_eq_true rfl) rfl (st1 := [.int q4]) rfl d_AdjoinedSetsModel_wantParts_179 (fun H locs hw => ?_)
    refine lv_istore hx hb d_AdjoinedSetsModel_wantParts_182 hl (by decide) (lv' := [(7, .int q4), (6, .int t0), (0, .ref (aD g x0)), (1, .int x1), (2, .int x2), (3, .int x3), (4, .int x4), (5, .int x5)]) rfl (fun ls hl => ?_)
    refine lv_iconst (v := 1) hx hb d_AdjoinedSetsModel_wantParts_184 (by decide) ?_
    refine lv_istore hx hb d_AdjoinedSetsModel_wantParts_185 hl (by decide) (lv' := [(8, .int 1), (7, .int q4), (6, .int t0), (0, .ref (aD g x0)), (1, .int x1), (2, .int x2), (3, .int x3), (4, .int x4), (5, .int x5)]) rfl (fun ls hl => ?_)
    exact k_AdjoinedSetsModel_wantParts_187 C 20000 hw (lv_sub hl [3, 5, 6, 7, 8, 2, 1, 0] rfl) hs
  · have hs := oi_f hc hs
    refine lv_iload_n hx hb d_AdjoinedSetsModel_wantParts_38 rfl (lv_at hl 2 rfl) ?_
    refine lv_iconst (v := 1) hx hb d_AdjoinedSetsModel_wantParts_39 (by decide) ?_
    refine lv_iadd hx hb d_AdjoinedSetsModel_wantParts_40 ?_
    refine lv_aload_n hx hb d_AdjoinedSetsModel_wantParts_41 rfl (lv_at hl 1 rfl) ?_
    obtain ⟨v6, e7, hs⟩ := ob hs
    refine pg_getI C hw fl_AdjoinedSetsModel_124 e7 d_AdjoinedSetsModel_wantParts_42 ?_
    refine lv_icmp_ge hx hb d_AdjoinedSetsModel_wantParts_45 (tgt := 76) (by decide) (fun hc => ?_) (fun hc => ?_)
    · have hs := oi_t hc hs
      exact k_AdjoinedSetsModel_wantParts_76 C hw (lv_sub hl [1, 2, 3, 5, 6] rfl) hs
    · have hs := oi_f hc hs
      refine lv_aload_n hx hb d_AdjoinedSetsModel_wantParts_48 rfl (lv_at hl 1 rfl) ?_
      obtain ⟨v8, e9, hs⟩ := ob hs
      refine pg_getR C hw fl_AdjoinedSetsModel_7 e9 d_AdjoinedSetsModel_wantParts_49 ?_
      refine lv_iload_n hx hb d_AdjoinedSetsModel_wantParts_52 rfl (lv_at hl 2 rfl) ?_
      refine lv_iconst (v := 1) hx hb d_AdjoinedSetsModel_wantParts_53 (by decide) ?_
      refine lv_iadd hx hb d_AdjoinedSetsModel_wantParts_54 ?_
      obtain ⟨v10, e11, hs⟩ := ob hs
      refine pg_iaload C hw (t0 := 0) rfl e11 d_AdjoinedSetsModel_wantParts_55 ?_
      obtain ⟨q12, e13, hs⟩ := ob hs
      refine pg_callS C hw hl.1 ml_AdjoinedSetsModel_100 (As := [.int v10]) (rest := []) (c_AdjoinedSetsModel_isLow l g e13) rfl (rm_ok (Nat.le_of_ble_eq_true rfl) (Nat.le_of_ble_eq_true rfl)) (Nat.le_of_ble_eq_true rfl) rfl (st1 := [.int q12]) rfl d_AdjoinedSetsModel_wantParts_56 (fun H locs hw => ?_)
      refine lv_if_eq hx hb d_AdjoinedSetsModel_wantParts_59 (tgt := 76) (by decide) (fun hc => ?_) (fun hc => ?_)
      · have hs := oi_t hc hs
        exact k_AdjoinedSetsModel_wantParts_76 C hw (lv_sub hl [1, 2, 3, 5, 6] rfl) hs
      · have hs := oi_f hc hs
        refine lv_aload_n hx hb d_AdjoinedSetsModel_wantParts_62 rfl (lv_at hl 1 rfl) ?_
        obtain ⟨v14, e15, hs⟩ := ob hs
        refine pg_getR C hw fl_AdjoinedSetsModel_7 e15 d_AdjoinedSetsModel_wantParts_63 ?_
        refine lv_iload_n hx hb d_AdjoinedSetsModel_wantParts_66 rfl (lv_at hl 2 rfl) ?_
        refine lv_iconst (v := 1) hx hb d_AdjoinedSetsModel_wantParts_67 (by decide) ?_
        refine lv_iadd hx hb d_AdjoinedSetsModel_wantParts_68 ?_
        obtain ⟨v16, e17, hs⟩ := ob hs
        refine pg_iaload C hw (t0 := 0) rfl e17 d_AdjoinedSetsModel_wantParts_69 ?_
        obtain ⟨q18, e19, hs⟩ := ob hs
        refine pg_callS C hw hl.1 ml_AdjoinedSetsModel_138 (As := [.int v16]) (rest := []) (c_AdjoinedSetsModel_bit l g e19) rfl (rm_ok (Nat.le_of_ble_eq_true rfl) (Nat.le_of_ble_eq_true rfl)) (Nat.le_of_ble_eq_true rfl) rfl (st1 := [.int q18]) rfl d_AdjoinedSetsModel_wantParts_70 (fun H locs hw => ?_)
        refine lv_goto hx hb d_AdjoinedSetsModel_wantParts_73 (tgt := 77) (by decide) ?_
        exact k_AdjoinedSetsModel_wantParts_77 C hw (lv_sub hl [1, 2, 3, 5, 6] rfl) hs

def s_AdjoinedSetsModel_wantParts_24 (x0 : Nat) (x1 : Int32) (x2 : Int32) (x3 : Int32) (x4 : Int32) (x5 : Int32) (h : HP) : Option (HP) :=
  s_AdjoinedSetsModel_wantParts_29 x0 x1 x2 x3 x4 x5 1 h
set_option maxHeartbeats 4000000 in
set_option maxRecDepth 100000 in
theorem k_AdjoinedSetsModel_wantParts_24 {x0 : Nat} {x1 : Int32} {x2 : Int32} {x3 : Int32} {x4 : Int32} {x5 : Int32} {h : HP} {z : HP} (C : CX g R_AdjoinedSetsModel b_AdjoinedSetsModel_wantParts 9 none p s m args meth c) {H : Heap} {locs : List Loc} {ls : Array Slot} (hw : WD g h s.heap H locs) (hl : lv_has ls 9 [(0, .ref (aD g x0)), (1, .int x1), (2, .int x2), (3, .int x3), (4, .int x4), (5, .int x5)]) (hs : s_AdjoinedSetsModel_wantParts_24 x0 x1 x2 x3 x4 x5 h = some z) : W p l e (rmS 2 41) s m args below meth c H locs 0 0 (MQ below (Qq g none z) args s 0 0 (inA g)) (F0 m 24 ls []) := by
  unfold s_AdjoinedSetsModel_wantParts_24 at hs
  have hx := C.1
  have hb := C.2.1
  refine lv_iconst (v := 1) hx hb d_AdjoinedSetsModel_wantParts_24 (by decide) ?_
  refine lv_goto hx hb d_AdjoinedSetsModel_wantParts_25 (tgt := 29) (by decide) ?_
  exact k_AdjoinedSetsModel_wantParts_29 C hw (lv_sub hl [0, 1, 2, 3, 4, 5] rfl) hs

def s_AdjoinedSetsModel_wantParts (x0 : Nat) (x1 : Int32) (x2 : Int32) (x3 : Int32) (x4 : Int32) (x5 : Int32) (h : HP) : Option (HP) :=
  if x2 = 33 then (
    s_AdjoinedSetsModel_wantParts_24 x0 x1 x2 x3 x4 x5 h)
  else (
    if x2 = 94 then (
      s_AdjoinedSetsModel_wantParts_24 x0 x1 x2 x3 x4 x5 h)
    else (
      if x2 = 118 then (
        s_AdjoinedSetsModel_wantParts_24 x0 x1 x2 x3 x4 x5 h)
      else (
        if x2 = 62 then (
          s_AdjoinedSetsModel_wantParts_24 x0 x1 x2 x3 x4 x5 h)
        else (
          s_AdjoinedSetsModel_wantParts_29 x0 x1 x2 x3 x4 x5 0 h))))
set_option maxHeartbeats 4000000 in
set_option maxRecDepth 100000 in
theorem c_AdjoinedSetsModel_wantParts (l : Launch) (g : GG) {x0 : Nat} {x1 : Int32} {x2 : Int32} {x3 : Int32} {x4 : Int32} {x5 : Int32} {h : HP} {z : HP} (hs : s_AdjoinedSetsModel_wantParts x0 x1 x2 x3 x4 x5 h = some z) : Ct l g y_AdjoinedSetsModel_wantParts w_AdjoinedSetsModel_wantParts (rmS 2 41) [.ref (aD g x0), .int x1, .int x2, .int x3, .int x4, .int x5] h none z := by
  refine Ct.of (own := R_AdjoinedSetsModel) (by decide) rfl rfl (Nat.le_of_ble_eq_true rfl) ?_
  intro p e s m args below meth c ls C hl hw
  have hx := C.1
  have hb := C.2.1
  have hl : lv_has ls 9 [(0, .ref (aD g x0)), (1, .int x1), (2, .int x2), (3, .int x3), (4, .int x4), (5, .int x5)] := hl
  unfold s_AdjoinedSetsModel_wantParts at hs
  refine lv_iload_n hx hb d_AdjoinedSetsModel_wantParts_0 rfl (lv_at hl 2 rfl) ?_
  refine lv_bipush (v := 33) hx hb d_AdjoinedSetsModel_wantParts_1 (by decide) ?_
  refine lv_icmp_eq hx hb d_AdjoinedSetsModel_wantParts_3 (tgt := 24) (by decide) (fun hc => ?_) (fun hc => ?_)
  · have hs := oi_t hc hs
    exact k_AdjoinedSetsModel_wantParts_24 C hw (lv_sub hl [0, 1, 2, 3, 4, 5] rfl) hs
  · have hs := oi_f hc hs
    refine lv_iload_n hx hb d_AdjoinedSetsModel_wantParts_6 rfl (lv_at hl 2 rfl) ?_
    refine lv_bipush (v := 94) hx hb d_AdjoinedSetsModel_wantParts_7 (by decide) ?_
    refine lv_icmp_eq hx hb d_AdjoinedSetsModel_wantParts_9 (tgt := 24) (by decide) (fun hc => ?_) (fun hc => ?_)
    · have hs := oi_t hc hs
      exact k_AdjoinedSetsModel_wantParts_24 C hw (lv_sub hl [0, 1, 2, 3, 4, 5] rfl) hs
    · have hs := oi_f hc hs
      refine lv_iload_n hx hb d_AdjoinedSetsModel_wantParts_12 rfl (lv_at hl 2 rfl) ?_
      refine lv_bipush (v := 118) hx hb d_AdjoinedSetsModel_wantParts_13 (by decide) ?_
      refine lv_icmp_eq hx hb d_AdjoinedSetsModel_wantParts_15 (tgt := 24) (by decide) (fun hc => ?_) (fun hc => ?_)
      · have hs := oi_t hc hs
        exact k_AdjoinedSetsModel_wantParts_24 C hw (lv_sub hl [0, 1, 2, 3, 4, 5] rfl) hs
      · have hs := oi_f hc hs
        refine lv_iload_n hx hb d_AdjoinedSetsModel_wantParts_18 rfl (lv_at hl 2 rfl) ?_
        refine lv_bipush (v := 62) hx hb d_AdjoinedSetsModel_wantParts_19 (by decide) ?_
        refine lv_icmp_ne hx hb d_AdjoinedSetsModel_wantParts_21 (tgt := 28) (by decide) (fun hc => ?_) (fun hc => ?_)
        · have hs := oi_f hc hs
          refine lv_iconst (v := 0) hx hb d_AdjoinedSetsModel_wantParts_28 (by decide) ?_
          exact k_AdjoinedSetsModel_wantParts_29 C hw (lv_sub hl [0, 1, 2, 3, 4, 5] rfl) hs
        · have hs := oi_t hc hs
          exact k_AdjoinedSetsModel_wantParts_24 C hw (lv_sub hl [0, 1, 2, 3, 4, 5] rfl) hs

end
