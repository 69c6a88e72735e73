section
variable {p : Program} {l : Launch} {e : Env} {s : State} {m : MethodId} {args : Array Value} {below : List Frame} {meth : Method} {c : Code} {g : GG}
theorem d_AdjoinedSetsModel_isPattern_0 : decode b_AdjoinedSetsModel_isPattern 0 = .ok (.aload_n 0, 1) := by decide +kernel
theorem d_AdjoinedSetsModel_isPattern_1 : decode b_AdjoinedSetsModel_isPattern 1 = .ok (.iload_n 1, 1) := by decide +kernel
theorem d_AdjoinedSetsModel_isPattern_2 : decode b_AdjoinedSetsModel_isPattern 2 = .ok (.invokevirtual 257, 3) := by decide +kernel
theorem d_AdjoinedSetsModel_isPattern_5 : decode b_AdjoinedSetsModel_isPattern 5 = .ok (.ifCond .ne 5, 3) := by decide +kernel
theorem d_AdjoinedSetsModel_isPattern_8 : decode b_AdjoinedSetsModel_isPattern 8 = .ok (.iconst 0, 1) := by decide +kernel
theorem d_AdjoinedSetsModel_isPattern_9 : decode b_AdjoinedSetsModel_isPattern 9 = .ok (.ireturn, 1) := by decide +kernel
theorem d_AdjoinedSetsModel_isPattern_10 : decode b_AdjoinedSetsModel_isPattern 10 = .ok (.iload_n 1, 1) := by decide +kernel
theorem d_AdjoinedSetsModel_isPattern_11 : decode b_AdjoinedSetsModel_isPattern 11 = .ok (.bipush 7, 2) := by decide +kernel
theorem d_AdjoinedSetsModel_isPattern_13 : decode b_AdjoinedSetsModel_isPattern 13 = .ok (.if_icmp .ne 49, 3) := by decide +kernel
theorem d_AdjoinedSetsModel_isPattern_16 : decode b_AdjoinedSetsModel_isPattern 16 = .ok (.aload_n 0, 1) := by decide +kernel
theorem d_AdjoinedSetsModel_isPattern_17 : decode b_AdjoinedSetsModel_isPattern 17 = .ok (.aload_n 0, 1) := by decide +kernel
theorem d_AdjoinedSetsModel_isPattern_18 : decode b_AdjoinedSetsModel_isPattern 18 = .ok (.getfield 69, 3) := by decide +kernel
theorem d_AdjoinedSetsModel_isPattern_21 : decode b_AdjoinedSetsModel_isPattern 21 = .ok (.iconst 1, 1) := by decide +kernel
theorem d_AdjoinedSetsModel_isPattern_22 : decode b_AdjoinedSetsModel_isPattern 22 = .ok (.iaload, 1) := by decide +kernel
theorem d_AdjoinedSetsModel_isPattern_23 : decode b_AdjoinedSetsModel_isPattern 23 = .ok (.invokevirtual 237, 3) := by decide +kernel
theorem d_AdjoinedSetsModel_isPattern_26 : decode b_AdjoinedSetsModel_isPattern 26 = .ok (.aload_n 0, 1) := by decide +kernel
theorem d_AdjoinedSetsModel_isPattern_27 : decode b_AdjoinedSetsModel_isPattern 27 = .ok (.aload_n 0, 1) := by decide +kernel
theorem d_AdjoinedSetsModel_isPattern_28 : decode b_AdjoinedSetsModel_isPattern 28 = .ok (.getfield 69, 3) := by decide +kernel
theorem d_AdjoinedSetsModel_isPattern_31 : decode b_AdjoinedSetsModel_isPattern 31 = .ok (.iconst 2, 1) := by decide +kernel
theorem d_AdjoinedSetsModel_isPattern_32 : decode b_AdjoinedSetsModel_isPattern 32 = .ok (.iaload, 1) := by decide +kernel
theorem d_AdjoinedSetsModel_isPattern_33 : decode b_AdjoinedSetsModel_isPattern 33 = .ok (.invokevirtual 237, 3) := by decide +kernel
theorem d_AdjoinedSetsModel_isPattern_36 : decode b_AdjoinedSetsModel_isPattern 36 = .ok (.ior, 1) := by decide +kernel
theorem d_AdjoinedSetsModel_isPattern_37 : decode b_AdjoinedSetsModel_isPattern 37 = .ok (.aload_n 0, 1) := by decide +kernel
theorem d_AdjoinedSetsModel_isPattern_38 : decode b_AdjoinedSetsModel_isPattern 38 = .ok (.getfield 7, 3) := by decide +kernel
theorem d_AdjoinedSetsModel_isPattern_41 : decode b_AdjoinedSetsModel_isPattern 41 = .ok (.aload_n 0, 1) := by decide +kernel
theorem d_AdjoinedSetsModel_isPattern_42 : decode b_AdjoinedSetsModel_isPattern 42 = .ok (.getfield 69, 3) := by decide +kernel
theorem d_AdjoinedSetsModel_isPattern_45 : decode b_AdjoinedSetsModel_isPattern 45 = .ok (.bipush 6, 2) := by decide +kernel
theorem d_AdjoinedSetsModel_isPattern_47 : decode b_AdjoinedSetsModel_isPattern 47 = .ok (.iaload, 1) := by decide +kernel
theorem d_AdjoinedSetsModel_isPattern_48 : decode b_AdjoinedSetsModel_isPattern 48 = .ok (.iaload, 1) := by decide +kernel
theorem d_AdjoinedSetsModel_isPattern_49 : decode b_AdjoinedSetsModel_isPattern 49 = .ok (.invokestatic 138, 3) := by decide +kernel
theorem d_AdjoinedSetsModel_isPattern_52 : decode b_AdjoinedSetsModel_isPattern 52 = .ok (.iand, 1) := by decide +kernel
theorem d_AdjoinedSetsModel_isPattern_53 : decode b_AdjoinedSetsModel_isPattern 53 = .ok (.ifCond .ne 7, 3) := by decide +kernel
theorem d_AdjoinedSetsModel_isPattern_56 : decode b_AdjoinedSetsModel_isPattern 56 = .ok (.iconst 1, 1) := by decide +kernel
theorem d_AdjoinedSetsModel_isPattern_57 : decode b_AdjoinedSetsModel_isPattern 57 = .ok (.goto 4, 3) := by decide +kernel
theorem d_AdjoinedSetsModel_isPattern_60 : decode b_AdjoinedSetsModel_isPattern 60 = .ok (.iconst 0, 1) := by decide +kernel
theorem d_AdjoinedSetsModel_isPattern_61 : decode b_AdjoinedSetsModel_isPattern 61 = .ok (.ireturn, 1) := by decide +kernel
theorem d_AdjoinedSetsModel_isPattern_62 : decode b_AdjoinedSetsModel_isPattern 62 = .ok (.iload_n 1, 1) := by decide +kernel
theorem d_AdjoinedSetsModel_isPattern_63 : decode b_AdjoinedSetsModel_isPattern 63 = .ok (.bipush 8, 2) := by decide +kernel
theorem d_AdjoinedSetsModel_isPattern_65 : decode b_AdjoinedSetsModel_isPattern 65 = .ok (.if_icmp .ne 9, 3) := by decide +kernel
theorem d_AdjoinedSetsModel_isPattern_68 : decode b_AdjoinedSetsModel_isPattern 68 = .ok (.aload_n 0, 1) := by decide +kernel
theorem d_AdjoinedSetsModel_isPattern_69 : decode b_AdjoinedSetsModel_isPattern 69 = .ok (.iconst 2, 1) := by decide +kernel
theorem d_AdjoinedSetsModel_isPattern_70 : decode b_AdjoinedSetsModel_isPattern 70 = .ok (.invokevirtual 260, 3) := by decide +kernel
theorem d_AdjoinedSetsModel_isPattern_73 : decode b_AdjoinedSetsModel_isPattern 73 = .ok (.ireturn, 1) := by decide +kernel
theorem d_AdjoinedSetsModel_isPattern_74 : decode b_AdjoinedSetsModel_isPattern 74 = .ok (.iload_n 1, 1) := by decide +kernel
theorem d_AdjoinedSetsModel_isPattern_75 : decode b_AdjoinedSetsModel_isPattern 75 = .ok (.bipush 14, 2) := by decide +kernel
theorem d_AdjoinedSetsModel_isPattern_77 : decode b_AdjoinedSetsModel_isPattern 77 = .ok (.if_icmp .eq 9, 3) := by decide +kernel
theorem d_AdjoinedSetsModel_isPattern_80 : decode b_AdjoinedSetsModel_isPattern 80 = .ok (.iload_n 1, 1) := by decide +kernel
theorem d_AdjoinedSetsModel_isPattern_81 : decode b_AdjoinedSetsModel_isPattern 81 = .ok (.bipush 15, 2) := by decide +kernel
theorem d_AdjoinedSetsModel_isPattern_83 : decode b_AdjoinedSetsModel_isPattern 83 = .ok (.if_icmp .ne 11, 3) := by decide +kernel
theorem d_AdjoinedSetsModel_isPattern_86 : decode b_AdjoinedSetsModel_isPattern 86 = .ok (.aload_n 0, 1) := by decide +kernel
theorem d_AdjoinedSetsModel_isPattern_87 : decode b_AdjoinedSetsModel_isPattern 87 = .ok (.iconst 3, 1) := by decide +kernel
theorem d_AdjoinedSetsModel_isPattern_88 : decode b_AdjoinedSetsModel_isPattern 88 = .ok (.invokevirtual 260, 3) := by decide +kernel
theorem d_AdjoinedSetsModel_isPattern_91 : decode b_AdjoinedSetsModel_isPattern 91 = .ok (.ifCond .eq 7, 3) := by decide +kernel
theorem d_AdjoinedSetsModel_isPattern_94 : decode b_AdjoinedSetsModel_isPattern 94 = .ok (.iconst 1, 1) := by decide +kernel
theorem d_AdjoinedSetsModel_isPattern_95 : decode b_AdjoinedSetsModel_isPattern 95 = .ok (.goto 4, 3) := by decide +kernel
theorem d_AdjoinedSetsModel_isPattern_98 : decode b_AdjoinedSetsModel_isPattern 98 = .ok (.iconst 0, 1) := by decide +kernel
theorem d_AdjoinedSetsModel_isPattern_99 : decode b_AdjoinedSetsModel_isPattern 99 = .ok (.ireturn, 1) := by decide +kernel
def s_AdjoinedSetsModel_isPattern_86 (x0 : Nat) (h : HP) : Option (Int32 × HP) :=
  (kd x0 9).bind fun _ =>
  (s_AdjoinedSetsModel_isG x0 3 h).bind fun q2 =>
  if q2.1 = 0 then (
    some (0, q2.2))
  else (
    some (1, q2.2))
set_option maxHeartbeats 4000000 in
set_option maxRecDepth 100000 in
theorem k_AdjoinedSetsModel_isPattern_86 {x0 : Nat} {h : HP} {z : Int32 × HP} (C : CX g R_AdjoinedSetsModel b_AdjoinedSetsModel_isPattern 2 (some .boolean) p s m args meth c) {H : Heap} {locs : List Loc} {ls : Array Slot} (hw : WD g h s.heap H locs) (hl : lv_has ls 2 [(0, .ref (aD g x0))]) (hs : s_AdjoinedSetsModel_isPattern_86 x0 h = some z) : W p l e (rmS 6 134) s m args below meth c H locs 0 0 (MQ below (Qq g (some (.int z.1)) z.2) args s 0 0 (inA g)) (F0 m 86 ls []) := by
  unfold s_AdjoinedSetsModel_isPattern_86 at hs
  have hx := C.1
  have hb := C.2.1
  refine lv_aload_n hx hb d_AdjoinedSetsModel_isPattern_86 rfl (lv_at hl 0 rfl) ?_
  refine lv_iconst (v := 3) hx hb d_AdjoinedSetsModel_isPattern_87 (by decide) ?_
  obtain ⟨_, e1, hs⟩ := ob hs
  obtain ⟨q2, e3, hs⟩ := ob hs
  refine pg_callV C hw hl.1 ml_AdjoinedSetsModel_260 e1 (As := [.int 3]) (rest := []) (c_AdjoinedSetsModel_isG l g e3) rfl (rm_ok (Nat.le_of_ble_eq_true rfl) (Nat.le_of_ble_eq_true rfl)) (Nat.le_of_ble_eq_true rfl) rfl (st1 := [.int q2.1]) rfl d_AdjoinedSetsModel_isPattern_88 (fun H locs hw => ?_)
  refine lv_if_eq hx hb d_AdjoinedSetsModel_isPattern_91 (tgt := 98) (by decide) (fun hc => ?_) (fun hc => ?_)
  · have hs := oi_t hc hs
    refine lv_iconst (v := 0) hx hb d_AdjoinedSetsModel_isPattern_98 (by decide) ?_
    obtain rfl := Option.some.inj hs
    exact pg_zret (v := 0) C hw rfl d_AdjoinedSetsModel_isPattern_99
  · have hs := oi_f hc hs
    refine lv_iconst (v := 1) hx hb d_AdjoinedSetsModel_isPattern_94 (by decide) ?_
    refine lv_goto hx hb d_AdjoinedSetsModel_isPattern_95 (tgt := 99) (by decide) ?_
    obtain rfl := Option.some.inj hs
    exact pg_zret (v := 1) C hw rfl d_AdjoinedSetsModel_isPattern_99

def s_AdjoinedSetsModel_isPattern (x0 : Nat) (x1 : Int32) (h : HP) : Option (Int32 × HP) :=
  (kd x0 9).bind fun _ =>
  (s_AdjoinedSetsModel_fits x0 x1 h).bind fun q2 =>
  if q2.1 = 0 then (
    some (0, q2.2))
  else (
    if x1 = 7 then (
      (gR q2.2 x0 9 27).bind fun v9 =>
      (aI q2.2 v9 0 1).bind fun v11 =>
      (kd x0 9).bind fun _ =>
      (s_AdjoinedSetsModel_freeIn x0 v11 q2.2).bind fun q14 =>
      (gR q14.2 x0 9 27).bind fun v16 =>
      (aI q14.2 v16 0 2).bind fun v18 =>
      (kd x0 9).bind fun _ =>
      (s_AdjoinedSetsModel_freeIn x0 v18 q14.2).bind fun q21 =>
      (gR q21.2 x0 9 0).bind fun v23 =>
      (gR q21.2 x0 9 27).bind fun v25 =>
      (aI q21.2 v25 0 6).bind fun v27 =>
      (aI q21.2 v23 0 v27).bind fun v29 =>
      (s_AdjoinedSetsModel_bit v29).bind fun q31 =>
      if ((q14.1 ||| q21.1) &&& q31) = 0 then (
        some (1, q21.2))
      else (
        some (0, q21.2)))
    else (
      if x1 = 8 then (
        (kd x0 9).bind fun _ =>
        (s_AdjoinedSetsModel_isG x0 2 q2.2).bind fun q6 =>
        (zr q6.1).bind fun _ => some (q6.1, q6.2))
      else (
        if x1 = 14 then (
          s_AdjoinedSetsModel_isPattern_86 x0 q2.2)
        else (
          if x1 = 15 then (
            s_AdjoinedSetsModel_isPattern_86 x0 q2.2)
          else (
            some (1, q2.2))))))
set_option maxHeartbeats 4000000 in
set_option maxRecDepth 100000 in
theorem c_AdjoinedSetsModel_isPattern (l : Launch) (g : GG) {x0 : Nat} {x1 : Int32} {h : HP} {z : Int32 × HP} (hs : s_AdjoinedSetsModel_isPattern x0 x1 h = some z) : Ct l g y_AdjoinedSetsModel_isPattern w_AdjoinedSetsModel_isPattern (rmS 6 134) [.ref (aD g x0), .int x1] h (some (.int z.1)) z.2 := by
  refine Ct.of (own := R_AdjoinedSetsModel) (by decide) rfl rfl (Nat.le_of_ble_eq_true rfl) ?_
  intro p e s m args below meth c ls C hl hw
  have hx := C.1
  have hb := C.2.1
  have hl : lv_has ls 2 [(0, .ref (aD g x0)), (1, .int x1)] := hl
  unfold s_AdjoinedSetsModel_isPattern at hs
  refine lv_aload_n hx hb d_AdjoinedSetsModel_isPattern_0 rfl (lv_at hl 0 rfl) ?_
  refine lv_iload_n hx hb d_AdjoinedSetsModel_isPattern_1 rfl (lv_at hl 1 rfl) ?_
  obtain ⟨_, e1, hs⟩ := ob hs
  obtain ⟨q2, e3, hs⟩ := ob hs
  refine pg_callV C hw hl.1 ml_AdjoinedSetsModel_257 e1 (As := [.int x1]) (rest := []) (c_AdjoinedSetsModel_fits l g e3) rfl (rm_ok (Nat.le_of_ble_eq_true rfl) (Nat.le_of_ble_eq_true rfl)) (Nat.le_of_ble_eq_true rfl) rfl (st1 := [.int q2.1]) rfl d_AdjoinedSetsModel_isPattern_2 (fun H locs hw => ?_)
  refine lv_if_ne hx hb d_AdjoinedSetsModel_isPattern_5 (tgt := 10) (by decide) (fun hc => ?_) (fun hc => ?_)
  · have hs := oi_f hc hs
    refine lv_iload_n hx hb d_AdjoinedSetsModel_isPattern_10 rfl (lv_at hl 1 rfl) ?_
    refine lv_bipush (v := 7) hx hb d_AdjoinedSetsModel_isPattern_11 (by decide) ?_
    refine lv_icmp_ne hx hb d_AdjoinedSetsModel_isPattern_13 (tgt := 62) (by decide) (fun hc => ?_) (fun hc => ?_)
    · have hs := oi_f hc hs
      refine lv_iload_n hx hb d_AdjoinedSetsModel_isPattern_62 rfl (lv_at hl 1 rfl) ?_
      refine lv_bipush (v := 8) hx hb d_AdjoinedSetsModel_isPattern_63 (by decide) ?_
      refine lv_icmp_ne hx hb d_AdjoinedSetsModel_isPattern_65 (tgt := 74) (by decide) (fun hc => ?_) (fun hc => ?_)
      · have hs := oi_f hc hs
        refine lv_iload_n hx hb d_AdjoinedSetsModel_isPattern_74 rfl (lv_at hl 1 rfl) ?_
        refine lv_bipush (v := 14) hx hb d_AdjoinedSetsModel_isPattern_75 (by decide) ?_
        refine lv_icmp_eq hx hb d_AdjoinedSetsModel_isPattern_77 (tgt := 86) (by decide) (fun hc => ?_) (fun hc => ?_)
        · have hs := oi_t hc hs
          exact k_AdjoinedSetsModel_isPattern_86 C hw (lv_sub hl [0] rfl) hs
        · have hs := oi_f hc hs
          refine lv_iload_n hx hb d_AdjoinedSetsModel_isPattern_80 rfl (lv_at hl 1 rfl) ?_
          refine lv_bipush (v := 15) hx hb d_AdjoinedSetsModel_isPattern_81 (by decide) ?_
          refine lv_icmp_ne hx hb d_AdjoinedSetsModel_isPattern_83 (tgt := 94) (by decide) (fun hc => ?_) (fun hc => ?_)
          · have hs := oi_f hc hs
            refine lv_iconst (v := 1) hx hb d_AdjoinedSetsModel_isPattern_94 (by decide) ?_
            refine lv_goto hx hb d_AdjoinedSetsModel_isPattern_95 (tgt := 99) (by decide) ?_
            obtain rfl := Option.some.inj hs
            exact pg_zret (v := 1) C hw rfl d_AdjoinedSetsModel_isPattern_99
          · have hs := oi_t hc hs
            exact k_AdjoinedSetsModel_isPattern_86 C hw (lv_sub hl [0] rfl) hs
      · have hs := oi_t hc hs
        refine lv_aload_n hx hb d_AdjoinedSetsModel_isPattern_68 rfl (lv_at hl 0 rfl) ?_
        refine lv_iconst (v := 2) hx hb d_AdjoinedSetsModel_isPattern_69 (by decide) ?_
        obtain ⟨_, e5, hs⟩ := ob hs
        obtain ⟨q6, e7, hs⟩ := ob hs
        refine pg_callV C hw hl.1 ml_AdjoinedSetsModel_260 e5 (As := [.int 2]) (rest := []) (c_AdjoinedSetsModel_isG l g e7) rfl (rm_ok (Nat.le_of_ble_eq_true rfl) (Nat.le_of_ble_eq_true rfl)) (Nat.le_of_ble_eq_true rfl) rfl (st1 := [.int q6.1]) rfl d_AdjoinedSetsModel_isPattern_70 (fun H locs hw => ?_)
        obtain ⟨_, e8, hs⟩ := ob hs
        obtain rfl := Option.some.inj hs
        exact pg_zret (v := q6.1) C hw (zr_n e8) d_AdjoinedSetsModel_isPattern_73
    · have hs := oi_t hc hs
      refine lv_aload_n hx hb d_AdjoinedSetsModel_isPattern_16 rfl (lv_at hl 0 rfl) ?_
      refine lv_aload_n hx hb d_AdjoinedSetsModel_isPattern_17 rfl (lv_at hl 0 rfl) ?_
      obtain ⟨v9, e10, hs⟩ := ob hs
      refine pg_getR C hw fl_AdjoinedSetsModel_69 e10 d_AdjoinedSetsModel_isPattern_18 ?_
      refine lv_iconst (v := 1) hx hb d_AdjoinedSetsModel_isPattern_21 (by decide) ?_
      obtain ⟨v11, e12, hs⟩ := ob hs
      refine pg_iaload C hw (t0 := 0) rfl e12 d_AdjoinedSetsModel_isPattern_22 ?_
      obtain ⟨_, e13, hs⟩ := ob hs
      obtain ⟨q14, e15, hs⟩ := ob hs
      refine pg_callV C hw hl.1 ml_AdjoinedSetsModel_237 e13 (As := [.int v11]) (rest := []) (c_AdjoinedSetsModel_freeIn l g e15) rfl (rm_ok (Nat.le_of_ble_eq_true rfl) (Nat.le_of_ble_eq_true rfl)) (Nat.le_of_ble_eq_true rfl) rfl (st1 := [.int q14.1]) rfl d_AdjoinedSetsModel_isPattern_23 (fun H locs hw => ?_)
      refine lv_aload_n hx hb d_AdjoinedSetsModel_isPattern_26 rfl (lv_at hl 0 rfl) ?_
      refine lv_aload_n hx hb d_AdjoinedSetsModel_isPattern_27 rfl (lv_at hl 0 rfl) ?_
      obtain ⟨v16, e17, hs⟩ := ob hs
      refine pg_getR C hw fl_AdjoinedSetsModel_69 e17 d_AdjoinedSetsModel_isPattern_28 ?_
      refine lv_iconst (v := 2) hx hb d_AdjoinedSetsModel_isPattern_31 (by decide) ?_
      obtain ⟨v18, e19, hs⟩ := ob hs
      refine pg_iaload C hw (t0 := 0) rfl e19 d_AdjoinedSetsModel_isPattern_32 ?_
      obtain ⟨_, e20, hs⟩ := ob hs
      obtain ⟨q21, e22, hs⟩ := ob hs
      refine pg_callV C hw hl.1 ml_AdjoinedSetsModel_237 e20 (As := [.int v18]) (rest := [.int q14.1]) (c_AdjoinedSetsModel_freeIn l g e22) rfl (rm_ok (Nat.le_of_ble_eq_true rfl) (Nat.le_of_ble_eq_true rfl)) (Nat.le_of_ble_eq_true rfl) rfl (st1 := [.int q21.1, .int q14.1]) rfl d_AdjoinedSetsModel_isPattern_33 (fun H locs hw => ?_)
      refine lv_ior hx hb d_AdjoinedSetsModel_isPattern_36 ?_
      refine lv_aload_n hx hb d_AdjoinedSetsModel_isPattern_37 rfl (lv_at hl 0 rfl) ?_
      obtain ⟨v23, e24, hs⟩ := ob hs
      refine pg_getR C hw fl_AdjoinedSetsModel_7 e24 d_AdjoinedSetsModel_isPattern_38 ?_
      refine lv_aload_n hx hb d_AdjoinedSetsModel_isPattern_41 rfl (lv_at hl 0 rfl) ?_
      obtain ⟨v25, e26, hs⟩ := ob hs
      refine pg_getR C hw fl_AdjoinedSetsModel_69 e26 d_AdjoinedSetsModel_isPattern_42 ?_
      refine lv_bipush (v := 6) hx hb d_AdjoinedSetsModel_isPattern_45 (by decide) ?_
      obtain ⟨v27, e28, hs⟩ := ob hs
      refine pg_iaload C hw (t0 := 0) rfl e28 d_AdjoinedSetsModel_isPattern_47 ?_
      obtain ⟨v29, e30, hs⟩ := ob hs
      refine pg_iaload C hw (t0 := 0) rfl e30 d_AdjoinedSetsModel_isPattern_48 ?_
      obtain ⟨q31, e32, hs⟩ := ob hs
      refine pg_callS C hw hl.1 ml_AdjoinedSetsModel_138 (As := [.int v29]) (rest := [.int (q14.1 ||| q21.1)]) (c_AdjoinedSetsModel_bit l g e32) rfl (rm_ok (Nat.le_of_ble_eq_true rfl) (Nat.le_of_ble_eq_true rfl)) (Nat.le_of_ble_eq_true rfl) rfl (st1 := [.int q31, .int (q14.1 ||| q21.1)]) rfl d_AdjoinedSetsModel_isPattern_49 (fun H locs hw => ?_)
      refine lv_iand hx hb d_AdjoinedSetsModel_isPattern_52 ?_
      refine lv_if_ne hx hb d_AdjoinedSetsModel_isPattern_53 (tgt := 60) (by decide) (fun hc => ?_) (fun hc => ?_)
      · have hs := oi_f hc hs
        refine lv_iconst (v := 0) hx hb d_AdjoinedSetsModel_isPattern_60 (by decide) ?_
        obtain rfl := Option.some.inj hs
        exact pg_zret (v := 0) C hw rfl d_AdjoinedSetsModel_isPattern_61
      · have hs := oi_t hc hs
        refine lv_iconst (v := 1) hx hb d_AdjoinedSetsModel_isPattern_56 (by decide) ?_
        refine lv_goto hx hb d_AdjoinedSetsModel_isPattern_57 (tgt := 61) (by decide) ?_
        obtain rfl := Option.some.inj hs
        exact pg_zret (v := 1) C hw rfl d_AdjoinedSetsModel_isPattern_61
  · have hs := oi_t hc hs
    refine lv_iconst (v := 0) hx hb d_AdjoinedSetsModel_isPattern_8 (by decide) ?_
    obtain rfl := Option.some.inj hs
    exact pg_zret (v := 0) C hw rfl d_AdjoinedSetsModel_isPattern_9

end
section
variable {p : Program} {l : Launch} {e : Env} {s : State} {m : MethodId} {args : Array Value} {below : List Frame} {meth : Method} {c : Code} {g : GG}
theorem d_AdjoinedSetsModel_allows_0 : decode b_AdjoinedSetsModel_allows 0 = .ok (.iload_n 1, 1) := by decide +kernel
theorem d_AdjoinedSetsModel_allows_1 : decode b_AdjoinedSetsModel_allows 1 = .ok (.tableswitch 108 0 13 #[71, 108, 108, 108, 108, 108, 108, 108, 108, 76, 83, 90, 96, 103], 71) := by decide +kernel
theorem d_AdjoinedSetsModel_allows_72 : decode b_AdjoinedSetsModel_allows 72 = .ok (.aload_n 0, 1) := by decide +kernel
theorem d_AdjoinedSetsModel_allows_73 : decode b_AdjoinedSetsModel_allows 73 = .ok (.invokevirtual 278, 3) := by decide +kernel
theorem d_AdjoinedSetsModel_allows_76 : decode b_AdjoinedSetsModel_allows 76 = .ok (.ireturn, 1) := by decide +kernel
theorem d_AdjoinedSetsModel_allows_77 : decode b_AdjoinedSetsModel_allows 77 = .ok (.aload_n 0, 1) := by decide +kernel
theorem d_AdjoinedSetsModel_allows_78 : decode b_AdjoinedSetsModel_allows 78 = .ok (.iload_n 2, 1) := by decide +kernel
theorem d_AdjoinedSetsModel_allows_79 : decode b_AdjoinedSetsModel_allows 79 = .ok (.iload_n 3, 1) := by decide +kernel
theorem d_AdjoinedSetsModel_allows_80 : decode b_AdjoinedSetsModel_allows 80 = .ok (.invokevirtual 282, 3) := by decide +kernel
theorem d_AdjoinedSetsModel_allows_83 : decode b_AdjoinedSetsModel_allows 83 = .ok (.ireturn, 1) := by decide +kernel
theorem d_AdjoinedSetsModel_allows_84 : decode b_AdjoinedSetsModel_allows 84 = .ok (.aload_n 0, 1) := by decide +kernel
theorem d_AdjoinedSetsModel_allows_85 : decode b_AdjoinedSetsModel_allows 85 = .ok (.iload_n 2, 1) := by decide +kernel
theorem d_AdjoinedSetsModel_allows_86 : decode b_AdjoinedSetsModel_allows 86 = .ok (.iload_n 3, 1) := by decide +kernel
theorem d_AdjoinedSetsModel_allows_87 : decode b_AdjoinedSetsModel_allows 87 = .ok (.invokevirtual 285, 3) := by decide +kernel
theorem d_AdjoinedSetsModel_allows_90 : decode b_AdjoinedSetsModel_allows 90 = .ok (.ireturn, 1) := by decide +kernel
theorem d_AdjoinedSetsModel_allows_91 : decode b_AdjoinedSetsModel_allows 91 = .ok (.aload_n 0, 1) := by decide +kernel
theorem d_AdjoinedSetsModel_allows_92 : decode b_AdjoinedSetsModel_allows 92 = .ok (.iload_n 2, 1) := by decide +kernel
theorem d_AdjoinedSetsModel_allows_93 : decode b_AdjoinedSetsModel_allows 93 = .ok (.invokevirtual 288, 3) := by decide +kernel
theorem d_AdjoinedSetsModel_allows_96 : decode b_AdjoinedSetsModel_allows 96 = .ok (.ireturn, 1) := by decide +kernel
theorem d_AdjoinedSetsModel_allows_97 : decode b_AdjoinedSetsModel_allows 97 = .ok (.aload_n 0, 1) := by decide +kernel
theorem d_AdjoinedSetsModel_allows_98 : decode b_AdjoinedSetsModel_allows 98 = .ok (.iload_n 2, 1) := by decide +kernel
theorem d_AdjoinedSetsModel_allows_99 : decode b_AdjoinedSetsModel_allows 99 = .ok (.iload_n 3, 1) := by decide +kernel
theorem d_AdjoinedSetsModel_allows_100 : decode b_AdjoinedSetsModel_allows 100 = .ok (.invokevirtual 291, 3) := by decide +kernel
theorem d_AdjoinedSetsModel_allows_103 : decode b_AdjoinedSetsModel_allows 103 = .ok (.ireturn, 1) := by decide +kernel
theorem d_AdjoinedSetsModel_allows_104 : decode b_AdjoinedSetsModel_allows 104 = .ok (.aload_n 0, 1) := by decide +kernel
theorem d_AdjoinedSetsModel_allows_105 : decode b_AdjoinedSetsModel_allows 105 = .ok (.invokevirtual 294, 3) := by decide +kernel
theorem d_AdjoinedSetsModel_allows_108 : decode b_AdjoinedSetsModel_allows 108 = .ok (.ireturn, 1) := by decide +kernel
theorem d_AdjoinedSetsModel_allows_109 : decode b_AdjoinedSetsModel_allows 109 = .ok (.aload_n 0, 1) := by decide +kernel
theorem d_AdjoinedSetsModel_allows_110 : decode b_AdjoinedSetsModel_allows 110 = .ok (.iload_n 1, 1) := by decide +kernel
theorem d_AdjoinedSetsModel_allows_111 : decode b_AdjoinedSetsModel_allows 111 = .ok (.invokevirtual 297, 3) := by decide +kernel
theorem d_AdjoinedSetsModel_allows_114 : decode b_AdjoinedSetsModel_allows 114 = .ok (.ireturn, 1) := by decide +kernel
def s_AdjoinedSetsModel_allows_109 (x0 : Nat) (x1 : Int32) (h : HP) : Option (Int32 × HP) :=
  (kd x0 9).bind fun _ =>
  (s_AdjoinedSetsModel_isPattern x0 x1 h).bind fun q2 =>
  (zr q2.1).bind fun _ => some (q2.1, q2.2)
set_option maxHeartbeats 4000000 in
set_option maxRecDepth 100000 in
theorem k_AdjoinedSetsModel_allows_109 {x0 : Nat} {x1 : Int32} {h : HP} {z : Int32 × HP} (C : CX g R_AdjoinedSetsModel b_AdjoinedSetsModel_allows 4 (some .boolean) p s m args meth c) {H : Heap} {locs : List Loc} {ls : Array Slot} (hw : WD g h s.heap H locs) (hl : lv_has ls 4 [(0, .ref (aD g x0)), (1, .int x1)]) (hs : s_AdjoinedSetsModel_allows_109 x0 x1 h = some z) : W p l e (rmS 7 165) s m args below meth c H locs 0 0 (MQ below (Qq g (some (.int z.1)) z.2) args s 0 0 (inA g)) (F0 m 109 ls []) := by
  unfold s_AdjoinedSetsModel_allows_109 at hs
  have hx := C.1
  have hb := C.2.1
  refine lv_aload_n hx hb d_AdjoinedSetsModel_allows_109 rfl (lv_at hl 0 rfl) ?_
  refine lv_iload_n hx hb d_AdjoinedSetsModel_allows_110 rfl (lv_at hl 1 rfl) ?_
  obtain ⟨_, e1, hs⟩ := ob hs
  obtain ⟨q2, e3, hs⟩ := ob hs
  refine pg_callV C hw hl.1 ml_AdjoinedSetsModel_297 e1 (As := [.int x1]) (rest := []) (c_AdjoinedSetsModel_isPattern l g e3) rfl (rm_ok (Nat.le_of_ble_eq_true rfl) (Nat.le_of_ble_eq_true rfl)) (Nat.le_of_ble_eq_true rfl) rfl (st1 := [.int q2.1]) rfl d_AdjoinedSetsModel_allows_111 (fun H locs hw => ?_)
  obtain ⟨_, e4, hs⟩ := ob hs
  obtain rfl := Option.some.inj hs
  exact pg_zret (v := q2.1) C hw (zr_n e4) d_AdjoinedSetsModel_allows_114

def s_AdjoinedSetsModel_allows (x0 : Nat) (x1 : Int32) (x2 : Int32) (x3 : Int32) (h : HP) : Option (Int32 × HP) :=
  if x1 = 0 then (
    (kd x0 9).bind fun _ =>
    (s_AdjoinedSetsModel_isTautology x0 h).bind fun q2 =>
    (zr q2.1).bind fun _ => some (q2.1, q2.2))
  else (
  if x1 = 1 then (
    s_AdjoinedSetsModel_allows_109 x0 x1 h)
  else (
  if x1 = 2 then (
    s_AdjoinedSetsModel_allows_109 x0 x1 h)
  else (
  if x1 = 3 then (
    s_AdjoinedSetsModel_allows_109 x0 x1 h)
  else (
  if x1 = 4 then (
    s_AdjoinedSetsModel_allows_109 x0 x1 h)
  else (
  if x1 = 5 then (
    s_AdjoinedSetsModel_allows_109 x0 x1 h)
  else (
  if x1 = 6 then (
    s_AdjoinedSetsModel_allows_109 x0 x1 h)
  else (
  if x1 = 7 then (
    s_AdjoinedSetsModel_allows_109 x0 x1 h)
  else (
  if x1 = 8 then (
    s_AdjoinedSetsModel_allows_109 x0 x1 h)
  else (
  if x1 = 9 then (
    (kd x0 9).bind fun _ =>
    (s_AdjoinedSetsModel_follows x0 x2 x3 h).bind fun q6 =>
    (zr q6).bind fun _ => some (q6, h))
  else (
  if x1 = 10 then (
    (kd x0 9).bind fun _ =>
    (s_AdjoinedSetsModel_isInstance x0 x2 x3 h).bind fun q10 =>
    (zr q10.1).bind fun _ => some (q10.1, q10.2))
  else (
  if x1 = 11 then (
    (kd x0 9).bind fun _ =>
    (s_AdjoinedSetsModel_isForAll x0 x2 h).bind fun q14 =>
    (zr q14.1).bind fun _ => some (q14.1, q14.2))
  else (
  if x1 = 12 then (
    (kd x0 9).bind fun _ =>
    (s_AdjoinedSetsModel_isInduced x0 x2 x3 h).bind fun q18 =>
    (zr q18.1).bind fun _ => some (q18.1, q18.2))
  else (
  if x1 = 13 then (
    (kd x0 9).bind fun _ =>
    (s_AdjoinedSetsModel_isDefinition x0 h).bind fun q22 =>
    (zr q22.1).bind fun _ => some (q22.1, q22.2))
  else (
    s_AdjoinedSetsModel_allows_109 x0 x1 h))))))))))))))
set_option maxHeartbeats 4000000 in
set_option maxRecDepth 100000 in
theorem c_AdjoinedSetsModel_allows (l : Launch) (g : GG) {x0 : Nat} {x1 : Int32} {x2 : Int32} {x3 : Int32} {h : HP} {z : Int32 × HP} (hs : s_AdjoinedSetsModel_allows x0 x1 x2 x3 h = some z) : Ct l g y_AdjoinedSetsModel_allows w_AdjoinedSetsModel_allows (rmS 7 165) [.ref (aD g x0), .int x1, .int x2, .int x3] h (some (.int z.1)) z.2 := by
  refine Ct.of (own := R_AdjoinedSetsModel) (by decide) rfl rfl (Nat.le_of_ble_eq_true rfl) ?_
  intro p e s m args below meth c ls C hl hw
  have hx := C.1
  have hb := C.2.1
  have hl : lv_has ls 4 [(0, .ref (aD g x0)), (1, .int x1), (2, .int x2), (3, .int x3)] := hl
  unfold s_AdjoinedSetsModel_allows at hs
  refine lv_iload_n hx hb d_AdjoinedSetsModel_allows_0 rfl (lv_at hl 1 rfl) ?_
  refine by_c (fun (hk0 : x1 = 0) => ?_) (fun (hk0 : ¬ x1 = 0) => ?_)
  · have hs := oi_t hk0 hs
    refine lv_tableIn hx hb d_AdjoinedSetsModel_allows_1 (by rw [hk0]; decide) (by rw [hk0]; decide) (off := 71) (by rw [hk0]; decide) (tgt := 72) (by decide) ?_
    refine lv_aload_n hx hb d_AdjoinedSetsModel_allows_72 rfl (lv_at hl 0 rfl) ?_
    obtain ⟨_, e1, hs⟩ := ob hs
    obtain ⟨q2, e3, hs⟩ := ob hs
    refine pg_callV C hw hl.1 ml_AdjoinedSetsModel_278 e1 (As := []) (rest := []) (c_AdjoinedSetsModel_isTautology l g e3) rfl (rm_ok (Nat.le_of_ble_eq_true rfl) (Nat.le_of_ble_eq_true rfl)) (Nat.le_of_ble_eq_true rfl) rfl (st1 := [.int q2.1]) rfl d_AdjoinedSetsModel_allows_73 (fun H locs hw => ?_)
    obtain ⟨_, e4, hs⟩ := ob hs
    obtain rfl := Option.some.inj hs
    exact pg_zret (v := q2.1) C hw (zr_n e4) d_AdjoinedSetsModel_allows_76
  have hs := oi_f hk0 hs
  refine by_c (fun (hk1 : x1 = 1) => ?_) (fun (hk1 : ¬ x1 = 1) => ?_)
  · have hs := oi_t hk1 hs
    refine lv_tableIn hx hb d_AdjoinedSetsModel_allows_1 (by rw [hk1]; decide) (by rw [hk1]; decide) (off := 108) (by rw [hk1]; decide) (tgt := 109) (by decide) ?_
    exact k_AdjoinedSetsModel_allows_109 C hw (lv_sub hl [0, 1] rfl) hs
  have hs := oi_f hk1 hs
  refine by_c (fun (hk2 : x1 = 2) => ?_) (fun (hk2 : ¬ x1 = 2) => ?_)
  · have hs := oi_t hk2 hs
    refine lv_tableIn hx hb d_AdjoinedSetsModel_allows_1 (by rw [hk2]; decide) (by rw [hk2]; decide) (off := 108) (by rw [hk2]; decide) (tgt := 109) (by decide) ?_
    exact k_AdjoinedSetsModel_allows_109 C hw (lv_sub hl [0, 1] rfl) hs
  have hs := oi_f hk2 hs
  refine by_c (fun (hk3 : x1 = 3) => ?_) (fun (hk3 : ¬ x1 = 3) => ?_)
  · have hs := oi_t hk3 hs
    refine lv_tableIn hx hb d_AdjoinedSetsModel_allows_1 (by rw [hk3]; decide) (by rw [hk3]; decide) (off := 108) (by rw [hk3]; decide) (tgt := 109) (by decide) ?_
    exact k_AdjoinedSetsModel_allows_109 C hw (lv_sub hl [0, 1] rfl) hs
  have hs := oi_f hk3 hs
  refine by_c (fun (hk4 : x1 = 4) => ?_) (fun (hk4 : ¬ x1 = 4) => ?_)
  · have hs := oi_t hk4 hs
    refine lv_tableIn hx hb d_AdjoinedSetsModel_allows_1 (by rw [hk4]; decide) (by rw [hk4]; decide) (off := 108) (by rw [hk4]; decide) (tgt := 109) (by decide) ?_
    exact k_AdjoinedSetsModel_allows_109 C hw (lv_sub hl [0, 1] rfl) hs
  have hs := oi_f hk4 hs
  refine by_c (fun (hk5 : x1 = 5) => ?_) (fun (hk5 : ¬ x1 = 5) => ?_)
  · have hs := oi_t hk5 hs
    refine lv_tableIn hx hb d_AdjoinedSetsModel_allows_1 (by rw [hk5]; decide) (by rw [hk5]; decide) (off := 108) (by rw [hk5]; decide) (tgt := 109) (by decide) ?_
    exact k_AdjoinedSetsModel_allows_109 C hw (lv_sub hl [0, 1] rfl) hs
  have hs := oi_f hk5 hs
  refine by_c (fun (hk6 : x1 = 6) => ?_) (fun (hk6 : ¬ x1 = 6) => ?_)
  · have hs := oi_t hk6 hs
    refine lv_tableIn hx hb d_AdjoinedSetsModel_allows_1 (by rw [hk6]; decide) (by rw [hk6]; decide) (off := 108) (by rw [hk6]; decide) (tgt := 109) (by decide) ?_
    exact k_AdjoinedSetsModel_allows_109 C hw (lv_sub hl [0, 1] rfl) hs
  have hs := oi_f hk6 hs
  refine by_c (fun (hk7 : x1 = 7) => ?_) (fun (hk7 : ¬ x1 = 7) => ?_)
  · have hs := oi_t hk7 hs
    refine lv_tableIn hx hb d_AdjoinedSetsModel_allows_1 (by rw [hk7]; decide) (by rw [hk7]; decide) (off := 108) (by rw [hk7]; decide) (tgt := 109) (by decide) ?_
    exact k_AdjoinedSetsModel_allows_109 C hw (lv_sub hl [0, 1] rfl) hs
  have hs := oi_f hk7 hs
  refine by_c (fun (hk8 : x1 = 8) => ?_) (fun (hk8 : ¬ x1 = 8) => ?_)
  · have hs := oi_t hk8 hs
    refine lv_tableIn hx hb d_AdjoinedSetsModel_allows_1 (by rw [hk8]; decide) (by rw [hk8]; decide) (off := 108) (by rw [hk8]; decide) (tgt := 109) (by decide) ?_
    exact k_AdjoinedSetsModel_allows_109 C hw (lv_sub hl [0, 1] rfl) hs
  have hs := oi_f hk8 hs
  refine by_c (fun (hk9 : x1 = 9) => ?_) (fun (hk9 : ¬ x1 = 9) => ?_)
  · have hs := oi_t hk9 hs
    refine lv_tableIn hx hb d_AdjoinedSetsModel_allows_1 (by rw [hk9]; decide) (by rw [hk9]; decide) (off := 76) (by rw [hk9]; decide) (tgt := 77) (by decide) ?_
    refine lv_aload_n hx hb d_AdjoinedSetsModel_allows_77 rfl (lv_at hl 0 rfl) ?_
    refine lv_iload_n hx hb d_AdjoinedSetsModel_allows_78 rfl (lv_at hl 2 rfl) ?_
    refine lv_iload_n hx hb d_AdjoinedSetsModel_allows_79 rfl (lv_at hl 3 rfl) ?_
    obtain ⟨_, e5, hs⟩ := ob hs
    obtain ⟨q6, e7, hs⟩ := ob hs
    refine pg_callV C hw hl.1 ml_AdjoinedSetsModel_282 e5 (As := [.int x2, .int x3]) (rest := []) (c_AdjoinedSetsModel_follows l g e7) rfl (rm_ok (Nat.le_of_ble_eq_true rfl) (Nat.le_of_ble_eq_true rfl)) (Nat.le_of_ble_eq_true rfl) rfl (st1 := [.int q6]) rfl d_AdjoinedSetsModel_allows_80 (fun H locs hw => ?_)
    obtain ⟨_, e8, hs⟩ := ob hs
    obtain rfl := Option.some.inj hs
    exact pg_zret (v := q6) C hw (zr_n e8) d_AdjoinedSetsModel_allows_83
  have hs := oi_f hk9 hs
  refine by_c (fun (hk10 : x1 = 10) => ?_) (fun (hk10 : ¬ x1 = 10) => ?_)
  · have hs := oi_t hk10 hs
    refine lv_tableIn hx hb d_AdjoinedSetsModel_allows_1 (by rw [hk10]; decide) (by rw [hk10]; decide) (off := 83) (by rw [hk10]; decide) (tgt := 84) (by decide) ?_
    refine lv_aload_n hx hb d_AdjoinedSetsModel_allows_84 rfl (lv_at hl 0 rfl) ?_
    refine lv_iload_n hx hb d_AdjoinedSetsModel_allows_85 rfl (lv_at hl 2 rfl) ?_
    refine lv_iload_n hx hb d_AdjoinedSetsModel_allows_86 rfl (lv_at hl 3 rfl) ?_
    obtain ⟨_, e9, hs⟩ := ob hs
    obtain ⟨q10, e11, hs⟩ := ob hs
    refine pg_callV C hw hl.1 ml_AdjoinedSetsModel_285 e9 (As := [.int x2, .int x3]) (rest := []) (c_AdjoinedSetsModel_isInstance l g e11) rfl (rm_ok (Nat.le_of_ble_eq_true rfl) (Nat.le_of_ble_eq_true rfl)) (Nat.le_of_ble_eq_true rfl) rfl (st1 := [.int q10.1]) rfl d_AdjoinedSetsModel_allows_87 (fun H locs hw => ?_)
    obtain ⟨_, e12, hs⟩ := ob hs
    obtain rfl := Option.some.inj hs
    exact pg_zret (v := q10.1) C hw (zr_n e12) d_AdjoinedSetsModel_allows_90
  have hs := oi_f hk10 hs
  refine by_c (fun (hk11 : x1 = 11) => ?_) (fun (hk11 : ¬ x1 = 11) => ?_)
  · have hs := oi_t hk11 hs
    refine lv_tableIn hx hb d_AdjoinedSetsModel_allows_1 (by rw [hk11]; decide) (by rw [hk11]; decide) (off := 90) (by rw [hk11]; decide) (tgt := 91) (by decide) ?_
    refine lv_aload_n hx hb d_AdjoinedSetsModel_allows_91 rfl (lv_at hl 0 rfl) ?_
    refine lv_iload_n hx hb d_AdjoinedSetsModel_allows_92 rfl (lv_at hl 2 rfl) ?_
    obtain ⟨_, e13, hs⟩ := ob hs
    obtain ⟨q14, e15, hs⟩ := ob hs
    refine pg_callV C hw hl.1 ml_AdjoinedSetsModel_288 e13 (As := [.int x2]) (rest := []) (c_AdjoinedSetsModel_isForAll l g e15) rfl (rm_ok (Nat.le_of_ble_eq_true rfl) (Nat.le_of_ble_eq_true rfl)) (Nat.le_of_ble_eq_true rfl) rfl (st1 := [.int q14.1]) rfl d_AdjoinedSetsModel_allows_93 (fun H locs hw => ?_)
    obtain ⟨_, e16, hs⟩ := ob hs
    obtain rfl := Option.some.inj hs
    exact pg_zret (v := q14.1) C hw (zr_n e16) d_AdjoinedSetsModel_allows_96
  have hs := oi_f hk11 hs
  refine by_c (fun (hk12 : x1 = 12) => ?_) (fun (hk12 : ¬ x1 = 12) => ?_)
  · have hs := oi_t hk12 hs
    refine lv_tableIn hx hb d_AdjoinedSetsModel_allows_1 (by rw [hk12]; decide) (by rw [hk12]; decide) (off := 96) (by rw [hk12]; decide) (tgt := 97) (by decide) ?_
    refine lv_aload_n hx hb d_AdjoinedSetsModel_allows_97 rfl (lv_at hl 0 rfl) ?_
    refine lv_iload_n hx hb d_AdjoinedSetsModel_allows_98 rfl (lv_at hl 2 rfl) ?_
    refine lv_iload_n hx hb d_AdjoinedSetsModel_allows_99 rfl (lv_at hl 3 rfl) ?_
    obtain ⟨_, e17, hs⟩ := ob hs
    obtain ⟨q18, e19, hs⟩ := ob hs
    refine pg_callV C hw hl.1 ml_AdjoinedSetsModel_291 e17 (As := [.int x2, .int x3]) (rest := []) (c_AdjoinedSetsModel_isInduced l g e19) rfl (rm_ok (Nat.le_of_ble_eq_true rfl) (Nat.le_of_ble_eq_true rfl)) (Nat.le_of_ble_eq_true rfl) rfl (st1 := [.int q18.1]) rfl d_AdjoinedSetsModel_allows_100 (fun H locs hw => ?_)
    obtain ⟨_, e20, hs⟩ := ob hs
    obtain rfl := Option.some.inj hs
    exact pg_zret (v := q18.1) C hw (zr_n e20) d_AdjoinedSetsModel_allows_103
  have hs := oi_f hk12 hs
  refine by_c (fun (hk13 : x1 = 13) => ?_) (fun (hk13 : ¬ x1 = 13) => ?_)
  · have hs := oi_t hk13 hs
    refine lv_tableIn hx hb d_AdjoinedSetsModel_allows_1 (by rw [hk13]; decide) (by rw [hk13]; decide) (off := 103) (by rw [hk13]; decide) (tgt := 104) (by decide) ?_
    refine lv_aload_n hx hb d_AdjoinedSetsModel_allows_104 rfl (lv_at hl 0 rfl) ?_
    obtain ⟨_, e21, hs⟩ := ob hs
    obtain ⟨q22, e23, hs⟩ := ob hs
    refine pg_callV C hw hl.1 ml_AdjoinedSetsModel_294 e21 (As := []) (rest := []) (c_AdjoinedSetsModel_isDefinition l g e23) rfl (rm_ok (Nat.le_of_ble_eq_true rfl) (Nat.le_of_ble_eq_true rfl)) (Nat.le_of_ble_eq_true rfl) rfl (st1 := [.int q22.1]) rfl d_AdjoinedSetsModel_allows_105 (fun H locs hw => ?_)
    obtain ⟨_, e24, hs⟩ := ob hs
    obtain rfl := Option.some.inj hs
    exact pg_zret (v := q22.1) C hw (zr_n e24) d_AdjoinedSetsModel_allows_108
  have hs := oi_f hk13 hs
  refine lv_tableOut hx hb d_AdjoinedSetsModel_allows_1 (tb_out (by have q0 := lv_neT (a := 0) hk0 (by decide); have q1 := lv_neT (a := 1) hk1 (by decide); have q2 := lv_neT (a := 2) hk2 (by decide); have q3 := lv_neT (a := 3) hk3 (by decide); have q4 := lv_neT (a := 4) hk4 (by decide); have q5 := lv_neT (a := 5) hk5 (by decide); have q6 := lv_neT (a := 6) hk6 (by decide); have q7 := lv_neT (a := 7) hk7 (by decide); have q8 := lv_neT (a := 8) hk8 (by decide); have q9 := lv_neT (a := 9) hk9 (by decide); have q10 := lv_neT (a := 10) hk10 (by decide); have q11 := lv_neT (a := 11) hk11 (by decide); have q12 := lv_neT (a := 12) hk12 (by decide); have q13 := lv_neT (a := 13) hk13 (by decide); omega)) (tgt := 109) (by decide) ?_
  exact k_AdjoinedSetsModel_allows_109 C hw (lv_sub hl [0, 1] rfl) hs

end
