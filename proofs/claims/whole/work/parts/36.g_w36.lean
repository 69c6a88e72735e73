section
variable {p : Program} {l : Launch} {e : Env} {s : State} {m : MethodId} {args : Array Value} {below : List Frame} {meth : Method} {c : Code} {g : GG}
theorem d_AdjoinedSets_refute_0 : decode b_AdjoinedSets_refute 0 = .ok (.iload_n 1, 1) := by decide +kernel
theorem d_AdjoinedSets_refute_1 : decode b_AdjoinedSets_refute 1 = .ok (.iconst 1, 1) := by decide +kernel
theorem d_AdjoinedSets_refute_2 : decode b_AdjoinedSets_refute 2 = .ok (.if_icmp .lt 9, 3) := by decide +kernel
theorem d_AdjoinedSets_refute_5 : decode b_AdjoinedSets_refute 5 = .ok (.iload_n 1, 1) := by decide +kernel
theorem d_AdjoinedSets_refute_6 : decode b_AdjoinedSets_refute 6 = .ok (.bipush 8, 2) := by decide +kernel
theorem d_AdjoinedSets_refute_8 : decode b_AdjoinedSets_refute 8 = .ok (.if_icmp .le 5, 3) := by decide +kernel
theorem d_AdjoinedSets_refute_11 : decode b_AdjoinedSets_refute 11 = .ok (.iconst (-1), 1) := by decide +kernel
theorem d_AdjoinedSets_refute_12 : decode b_AdjoinedSets_refute 12 = .ok (.ireturn, 1) := by decide +kernel
theorem d_AdjoinedSets_refute_13 : decode b_AdjoinedSets_refute 13 = .ok (.aload_n 0, 1) := by decide +kernel
theorem d_AdjoinedSets_refute_14 : decode b_AdjoinedSets_refute 14 = .ok (.getfield 39, 3) := by decide +kernel
theorem d_AdjoinedSets_refute_17 : decode b_AdjoinedSets_refute 17 = .ok (.invokevirtual 90, 3) := by decide +kernel
theorem d_AdjoinedSets_refute_20 : decode b_AdjoinedSets_refute 20 = .ok (.istore_n 2, 1) := by decide +kernel
theorem d_AdjoinedSets_refute_21 : decode b_AdjoinedSets_refute 21 = .ok (.iload_n 2, 1) := by decide +kernel
theorem d_AdjoinedSets_refute_22 : decode b_AdjoinedSets_refute 22 = .ok (.ifCond .lt 32, 3) := by decide +kernel
theorem d_AdjoinedSets_refute_25 : decode b_AdjoinedSets_refute 25 = .ok (.aload_n 0, 1) := by decide +kernel
theorem d_AdjoinedSets_refute_26 : decode b_AdjoinedSets_refute 26 = .ok (.getfield 16, 3) := by decide +kernel
theorem d_AdjoinedSets_refute_29 : decode b_AdjoinedSets_refute 29 = .ok (.iconst 0, 1) := by decide +kernel
theorem d_AdjoinedSets_refute_30 : decode b_AdjoinedSets_refute 30 = .ok (.iconst 1, 1) := by decide +kernel
theorem d_AdjoinedSets_refute_31 : decode b_AdjoinedSets_refute 31 = .ok (.invokevirtual 140, 3) := by decide +kernel
theorem d_AdjoinedSets_refute_34 : decode b_AdjoinedSets_refute 34 = .ok (.istore_n 3, 1) := by decide +kernel
theorem d_AdjoinedSets_refute_35 : decode b_AdjoinedSets_refute 35 = .ok (.iload_n 3, 1) := by decide +kernel
theorem d_AdjoinedSets_refute_36 : decode b_AdjoinedSets_refute 36 = .ok (.invokestatic 143, 3) := by decide +kernel
theorem d_AdjoinedSets_refute_39 : decode b_AdjoinedSets_refute 39 = .ok (.iconst 2, 1) := by decide +kernel
theorem d_AdjoinedSets_refute_40 : decode b_AdjoinedSets_refute 40 = .ok (.if_icmp .le 7, 3) := by decide +kernel
theorem d_AdjoinedSets_refute_43 : decode b_AdjoinedSets_refute 43 = .ok (.iconst (-1), 1) := by decide +kernel
theorem d_AdjoinedSets_refute_44 : decode b_AdjoinedSets_refute 44 = .ok (.goto 9, 3) := by decide +kernel
theorem d_AdjoinedSets_refute_47 : decode b_AdjoinedSets_refute 47 = .ok (.aload_n 0, 1) := by decide +kernel
theorem d_AdjoinedSets_refute_48 : decode b_AdjoinedSets_refute 48 = .ok (.iload_n 3, 1) := by decide +kernel
theorem d_AdjoinedSets_refute_49 : decode b_AdjoinedSets_refute 49 = .ok (.iload_n 1, 1) := by decide +kernel
theorem d_AdjoinedSets_refute_50 : decode b_AdjoinedSets_refute 50 = .ok (.invokevirtual 148, 3) := by decide +kernel
theorem d_AdjoinedSets_refute_53 : decode b_AdjoinedSets_refute 53 = .ok (.istore_n 2, 1) := by decide +kernel
theorem d_AdjoinedSets_refute_54 : decode b_AdjoinedSets_refute 54 = .ok (.aload_n 0, 1) := by decide +kernel
theorem d_AdjoinedSets_refute_55 : decode b_AdjoinedSets_refute 55 = .ok (.getfield 16, 3) := by decide +kernel
theorem d_AdjoinedSets_refute_58 : decode b_AdjoinedSets_refute 58 = .ok (.invokevirtual 73, 3) := by decide +kernel
theorem d_AdjoinedSets_refute_61 : decode b_AdjoinedSets_refute 61 = .ok (.iload_n 2, 1) := by decide +kernel
theorem d_AdjoinedSets_refute_62 : decode b_AdjoinedSets_refute 62 = .ok (.ireturn, 1) := by decide +kernel
def s_AdjoinedSets_refute_54 (x0 : Nat) (x2 : Int32) (h : HP) : Option (Int32 × HP) :=
  (gR h x0 8 1).bind fun v1 =>
  (kd v1 0).bind fun _ =>
  (s_Text_empty v1 h).bind fun q4 =>
  some (x2, q4)
set_option maxHeartbeats 4000000 in
set_option maxRecDepth 100000 in
theorem k_AdjoinedSets_refute_54 {x0 : Nat} {x2 : Int32} {h : HP} {z : Int32 × HP} (C : CX g R_AdjoinedSets b_AdjoinedSets_refute 4 (some .int) p s m args meth c) {H : Heap} {locs : List Loc} {ls : Array Slot} (hw : WD g h s.heap H locs) (hl : lv_has ls 4 [(0, .ref (aD g x0)), (2, .int x2)]) (hs : s_AdjoinedSets_refute_54 x0 x2 h = some z) : W p l e (rmS 156 5243) s m args below meth c H locs 0 0 (MQ below (Qq g (some (.int z.1)) z.2) args s 0 0 (inA g)) (F0 m 54 ls []) := by
  unfold s_AdjoinedSets_refute_54 at hs
  have hx := C.1
  have hb := C.2.1
  refine lv_aload_n hx hb d_AdjoinedSets_refute_54 rfl (lv_at hl 0 rfl) ?_
  obtain ⟨v1, e2, hs⟩ := ob hs
  refine pg_getR C hw fl_AdjoinedSets_16 e2 d_AdjoinedSets_refute_55 ?_
  obtain ⟨_, e3, hs⟩ := ob hs
  obtain ⟨q4, e5, hs⟩ := ob hs
  refine pg_callV C hw hl.1 ml_AdjoinedSets_73 e3 (As := []) (rest := []) (c_Text_empty l g e5) rfl (rm_ok (Nat.le_of_ble_eq_true rfl) (Nat.le_of_ble_eq_true rfl)) (Nat.le_of_ble_eq_true rfl) rfl (st1 := []) rfl d_AdjoinedSets_refute_58 (fun H locs hw => ?_)
  refine lv_iload_n hx hb d_AdjoinedSets_refute_61 rfl (lv_at hl 1 rfl) ?_
  obtain rfl := Option.some.inj hs
  exact pg_iret C hw d_AdjoinedSets_refute_62

def s_AdjoinedSets_refute_53 (x0 : Nat) (t0 : Int32) (h : HP) : Option (Int32 × HP) :=
  s_AdjoinedSets_refute_54 x0 t0 h
set_option maxHeartbeats 4000000 in
set_option maxRecDepth 100000 in
theorem k_AdjoinedSets_refute_53 {x0 : Nat} {t0 : Int32} {h : HP} {z : Int32 × HP} (C : CX g R_AdjoinedSets b_AdjoinedSets_refute 4 (some .int) p s m args meth c) {H : Heap} {locs : List Loc} {ls : Array Slot} (hw : WD g h s.heap H locs) (hl : lv_has ls 4 [(0, .ref (aD g x0))]) (hs : s_AdjoinedSets_refute_53 x0 t0 h = some z) : W p l e (rmS 156 5243) s m args below meth c H locs 0 0 (MQ below (Qq g (some (.int z.1)) z.2) args s 0 0 (inA g)) (F0 m 53 ls [.int t0]) := by
  unfold s_AdjoinedSets_refute_53 at hs
  have hx := C.1
  have hb := C.2.1
  refine lv_istore_n hx hb d_AdjoinedSets_refute_53 rfl hl (by decide) (lv' := [(2, .int t0), (0, .ref (aD g x0))]) rfl (fun ls hl => ?_)
  exact k_AdjoinedSets_refute_54 C hw (lv_sub hl [1, 0] rfl) hs

def s_AdjoinedSets_refute (x0 : Nat) (x1 : Int32) (h : HP) : Option (Int32 × HP) :=
  if x1 < 1 then (
    some ((-1), h))
  else (
    if x1 ≤ 8 then (
      (gR h x0 8 4).bind fun v1 =>
      (kd v1 3).bind fun _ =>
      (s_Reader_readFormula v1 h).bind fun q4 =>
      if q4.1 < 0 then (
        s_AdjoinedSets_refute_54 x0 q4.1 q4.2)
      else (
        (gR q4.2 x0 8 1).bind fun v6 =>
        (kd v6 0).bind fun _ =>
        ((s_grp_Text_freeIn 13) v6 0 1 q4.2).bind fun q9 =>
        (s_Integer_bitCount q9).bind fun q11 =>
        if q11 ≤ 2 then (
          (kd x0 8).bind fun _ =>
          (s_AdjoinedSets_firstRefuting x0 q9 x1 q4.2).bind fun q14 =>
          s_AdjoinedSets_refute_53 x0 q14.1 q14.2)
        else (
          s_AdjoinedSets_refute_53 x0 (-1) q4.2)))
    else (
      some ((-1), h)))
set_option maxHeartbeats 4000000 in
set_option maxRecDepth 100000 in
theorem c_AdjoinedSets_refute (l : Launch) (g : GG) {x0 : Nat} {x1 : Int32} {h : HP} {z : Int32 × HP} (hs : s_AdjoinedSets_refute x0 x1 h = some z) : Ct l g y_AdjoinedSets_refute w_AdjoinedSets_refute (rmS 156 5243) [.ref (aD g x0), .int x1] h (some (.int z.1)) z.2 := by
  refine Ct.of (own := R_AdjoinedSets) (by decide) rfl rfl (Nat.le_of_ble_eq_true rfl) ?_
  intro p e s m args below meth c ls C hl hw
  have hx := C.1
  have hb := C.2.1
  have hl : lv_has ls 4 [(0, .ref (aD g x0)), (1, .int x1)] := hl
  unfold s_AdjoinedSets_refute at hs
  refine lv_iload_n hx hb d_AdjoinedSets_refute_0 rfl (lv_at hl 1 rfl) ?_
  refine lv_iconst (v := 1) hx hb d_AdjoinedSets_refute_1 (by decide) ?_
  refine lv_icmp_lt hx hb d_AdjoinedSets_refute_2 (tgt := 11) (by decide) (fun hc => ?_) (fun hc => ?_)
  · have hs := oi_t hc hs
    refine lv_iconst (v := (-1)) hx hb d_AdjoinedSets_refute_11 (by decide) ?_
    obtain rfl := Option.some.inj hs
    exact pg_iret C hw d_AdjoinedSets_refute_12
  · have hs := oi_f hc hs
    refine lv_iload_n hx hb d_AdjoinedSets_refute_5 rfl (lv_at hl 1 rfl) ?_
    refine lv_bipush (v := 8) hx hb d_AdjoinedSets_refute_6 (by decide) ?_
    refine lv_icmp_le hx hb d_AdjoinedSets_refute_8 (tgt := 13) (by decide) (fun hc => ?_) (fun hc => ?_)
    · have hs := oi_t hc hs
      refine lv_aload_n hx hb d_AdjoinedSets_refute_13 rfl (lv_at hl 0 rfl) ?_
      obtain ⟨v1, e2, hs⟩ := ob hs
      refine pg_getR C hw fl_AdjoinedSets_39 e2 d_AdjoinedSets_refute_14 ?_
      obtain ⟨_, e3, hs⟩ := ob hs
      obtain ⟨q4, e5, hs⟩ := ob hs
      refine pg_callV C hw hl.1 ml_AdjoinedSets_90 e3 (As := []) (rest := []) (c_Reader_readFormula l g e5) rfl (rm_ok (Nat.le_of_ble_eq_true rfl) (Nat.le_of_ble_eq_true rfl)) (Nat.le_of_ble_eq_true rfl) rfl (st1 := [.int q4.1]) rfl d_AdjoinedSets_refute_17 (fun H locs hw => ?_)
      refine lv_istore_n hx hb d_AdjoinedSets_refute_20 rfl hl (by decide) (lv' := [(2, .int q4.1), (0, .ref (aD g x0)), (1, .int x1)]) rfl (fun ls hl => ?_)
      refine lv_iload_n hx hb d_AdjoinedSets_refute_21 rfl (lv_at hl 0 rfl) ?_
      refine lv_if_lt hx hb d_AdjoinedSets_refute_22 (tgt := 54) (by decide) (fun hc => ?_) (fun hc => ?_)
      · have hs := oi_t hc hs
        exact k_AdjoinedSets_refute_54 C hw (lv_sub hl [1, 0] rfl) hs
      · have hs := oi_f hc hs
        refine lv_aload_n hx hb d_AdjoinedSets_refute_25 rfl (lv_at hl 1 rfl) ?_
        obtain ⟨v6, e7, hs⟩ := ob hs
        refine pg_getR C hw fl_AdjoinedSets_16 e7 d_AdjoinedSets_refute_26 ?_
        refine lv_iconst (v := 0) hx hb d_AdjoinedSets_refute_29 (by decide) ?_
        refine lv_iconst (v := 1) hx hb d_AdjoinedSets_refute_30 (by decide) ?_
        obtain ⟨_, e8, hs⟩ := ob hs
        obtain ⟨q9, e10, hs⟩ := ob hs
        refine pg_callV C hw hl.1 ml_AdjoinedSets_140 e8 (As := [.int 0, .int 1]) (rest := []) ((cg_Text_freeIn l g 13) e10) rfl (rm_ok (Nat.le_of_ble_eq_true rfl) (Nat.le_of_ble_eq_true rfl)) (Nat.le_of_ble_eq_true rfl) rfl (st1 := [.int q9]) rfl d_AdjoinedSets_refute_31 (fun H locs hw => ?_)
        refine lv_istore_n hx hb d_AdjoinedSets_refute_34 rfl hl (by decide) (lv' := [(3, .int q9), (2, .int q4.1), (0, .ref (aD g x0)), (1, .int x1)]) rfl (fun ls hl => ?_)
        refine lv_iload_n hx hb d_AdjoinedSets_refute_35 rfl (lv_at hl 0 rfl) ?_
        obtain ⟨q11, e12, hs⟩ := ob hs
        refine pg_callS C hw hl.1 ml_AdjoinedSets_143 (As := [.int q9]) (rest := []) (c_Integer_bitCount l g e12) rfl (rm_ok (Nat.le_of_ble_eq_true rfl) (Nat.le_of_ble_eq_true rfl)) (Nat.le_of_ble_eq_true rfl) rfl (st1 := [.int q11]) rfl d_AdjoinedSets_refute_36 (fun H locs hw => ?_)
        refine lv_iconst (v := 2) hx hb d_AdjoinedSets_refute_39 (by decide) ?_
        refine lv_icmp_le hx hb d_AdjoinedSets_refute_40 (tgt := 47) (by decide) (fun hc => ?_) (fun hc => ?_)
        · have hs := oi_t hc hs
          refine lv_aload_n hx hb d_AdjoinedSets_refute_47 rfl (lv_at hl 2 rfl) ?_
          refine lv_iload_n hx hb d_AdjoinedSets_refute_48 rfl (lv_at hl 0 rfl) ?_
          refine lv_iload_n hx hb d_AdjoinedSets_refute_49 rfl (lv_at hl 3 rfl) ?_
          obtain ⟨_, e13, hs⟩ := ob hs
          obtain ⟨q14, e15, hs⟩ := ob hs
          refine pg_callV C hw hl.1 ml_AdjoinedSets_148 e13 (As := [.int q9, .int x1]) (rest := []) (c_AdjoinedSets_firstRefuting l g e15) rfl (rm_ok (Nat.le_of_ble_eq_true rfl) (Nat.le_of_ble_eq_true rfl)) (Nat.le_of_ble_eq_true rfl) rfl (st1 := [.int q14.1]) rfl d_AdjoinedSets_refute_50 (fun H locs hw => ?_)
          exact k_AdjoinedSets_refute_53 C hw (lv_sub hl [2] rfl) hs
        · have hs := oi_f hc hs
          refine lv_iconst (v := (-1)) hx hb d_AdjoinedSets_refute_43 (by decide) ?_
          refine lv_goto hx hb d_AdjoinedSets_refute_44 (tgt := 53) (by decide) ?_
          exact k_AdjoinedSets_refute_53 C hw (lv_sub hl [2] rfl) hs
    · have hs := oi_f hc hs
      refine lv_iconst (v := (-1)) hx hb d_AdjoinedSets_refute_11 (by decide) ?_
      obtain rfl := Option.some.inj hs
      exact pg_iret C hw d_AdjoinedSets_refute_12

end
section
variable {p : Program} {l : Launch} {e : Env} {s : State} {m : MethodId} {args : Array Value} {below : List Frame} {meth : Method} {c : Code} {g : GG}
theorem d_AdjoinedSets_rests_0 : decode b_AdjoinedSets_rests 0 = .ok (.aload_n 0, 1) := by decide +kernel
theorem d_AdjoinedSets_rests_1 : decode b_AdjoinedSets_rests 1 = .ok (.getfield 29, 3) := by decide +kernel
theorem d_AdjoinedSets_rests_4 : decode b_AdjoinedSets_rests 4 = .ok (.iload_n 1, 1) := by decide +kernel
theorem d_AdjoinedSets_rests_5 : decode b_AdjoinedSets_rests 5 = .ok (.invokevirtual 125, 3) := by decide +kernel
theorem d_AdjoinedSets_rests_8 : decode b_AdjoinedSets_rests 8 = .ok (.ifCond .eq 14, 3) := by decide +kernel
theorem d_AdjoinedSets_rests_11 : decode b_AdjoinedSets_rests 11 = .ok (.aload_n 0, 1) := by decide +kernel
theorem d_AdjoinedSets_rests_12 : decode b_AdjoinedSets_rests 12 = .ok (.getfield 29, 3) := by decide +kernel
theorem d_AdjoinedSets_rests_15 : decode b_AdjoinedSets_rests 15 = .ok (.iload_n 1, 1) := by decide +kernel
theorem d_AdjoinedSets_rests_16 : decode b_AdjoinedSets_rests 16 = .ok (.invokevirtual 137, 3) := by decide +kernel
theorem d_AdjoinedSets_rests_19 : decode b_AdjoinedSets_rests 19 = .ok (.goto 4, 3) := by decide +kernel
theorem d_AdjoinedSets_rests_22 : decode b_AdjoinedSets_rests 22 = .ok (.iconst (-1), 1) := by decide +kernel
theorem d_AdjoinedSets_rests_23 : decode b_AdjoinedSets_rests 23 = .ok (.ireturn, 1) := by decide +kernel
def s_AdjoinedSets_rests (x0 : Nat) (x1 : Int32) (h : HP) : Option (Int32) :=
  (gR h x0 8 3).bind fun v1 =>
  (kd v1 2).bind fun _ =>
  (s_Laws_has v1 x1 h).bind fun q4 =>
  if q4 = 0 then (
    some (-1))
  else (
    (gR h x0 8 3).bind fun v6 =>
    (kd v6 2).bind fun _ =>
    (s_Laws_restsOf v6 x1 h).bind fun q9 =>
    some q9)
set_option maxHeartbeats 4000000 in
set_option maxRecDepth 100000 in
theorem c_AdjoinedSets_rests (l : Launch) (g : GG) {h : HP} {x0 : Nat} {x1 : Int32} {z : Int32} (hs : s_AdjoinedSets_rests x0 x1 h = some z) : Ct l g y_AdjoinedSets_rests w_AdjoinedSets_rests (rmS 1 21) [.ref (aD g x0), .int x1] h (some (.int z)) h := by
  refine Ct.of (own := R_AdjoinedSets) (by decide) rfl rfl (Nat.le_of_ble_eq_true rfl) ?_
  intro p e s m args below meth c ls C hl hw
  have hx := C.1
  have hb := C.2.1
  have hl : lv_has ls 2 [(0, .ref (aD g x0)), (1, .int x1)] := hl
  unfold s_AdjoinedSets_rests at hs
  refine lv_aload_n hx hb d_AdjoinedSets_rests_0 rfl (lv_at hl 0 rfl) ?_
  obtain ⟨v1, e2, hs⟩ := ob hs
  refine pg_getR C hw fl_AdjoinedSets_29 e2 d_AdjoinedSets_rests_1 ?_
  refine lv_iload_n hx hb d_AdjoinedSets_rests_4 rfl (lv_at hl 1 rfl) ?_
  obtain ⟨_, e3, hs⟩ := ob hs
  obtain ⟨q4, e5, hs⟩ := ob hs
  refine pg_callV C hw hl.1 ml_AdjoinedSets_125 e3 (As := [.int x1]) (rest := []) (c_Laws_has l g e5) rfl (rm_ok (Nat.le_of_ble_eq_true rfl) (Nat.le_of_ble_eq_true rfl)) (Nat.le_of_ble_eq_true rfl) rfl (st1 := [.int q4]) rfl d_AdjoinedSets_rests_5 (fun H locs hw => ?_)
  refine lv_if_eq hx hb d_AdjoinedSets_rests_8 (tgt := 22) (by decide) (fun hc => ?_) (fun hc => ?_)
  · have hs := oi_t hc hs
    refine lv_iconst (v := (-1)) hx hb d_AdjoinedSets_rests_22 (by decide) ?_
    obtain rfl := Option.some.inj hs
    exact pg_iret C hw d_AdjoinedSets_rests_23
  · have hs := oi_f hc hs
    refine lv_aload_n hx hb d_AdjoinedSets_rests_11 rfl (lv_at hl 0 rfl) ?_
    obtain ⟨v6, e7, hs⟩ := ob hs
    refine pg_getR C hw fl_AdjoinedSets_29 e7 d_AdjoinedSets_rests_12 ?_
    refine lv_iload_n hx hb d_AdjoinedSets_rests_15 rfl (lv_at hl 1 rfl) ?_
    obtain ⟨_, e8, hs⟩ := ob hs
    obtain ⟨q9, e10, hs⟩ := ob hs
    refine pg_callV C hw hl.1 ml_AdjoinedSets_137 e8 (As := [.int x1]) (rest := []) (c_Laws_restsOf l g e10) rfl (rm_ok (Nat.le_of_ble_eq_true rfl) (Nat.le_of_ble_eq_true rfl)) (Nat.le_of_ble_eq_true rfl) rfl (st1 := [.int q9]) rfl d_AdjoinedSets_rests_16 (fun H locs hw => ?_)
    refine lv_goto hx hb d_AdjoinedSets_rests_19 (tgt := 23) (by decide) ?_
    obtain rfl := Option.some.inj hs
    exact pg_iret C hw d_AdjoinedSets_rests_23

end
section
variable {p : Program} {l : Launch} {e : Env} {s : State} {m : MethodId} {args : Array Value} {below : List Frame} {meth : Method} {c : Code} {g : GG}
theorem d_Laws_text_0 : decode b_Laws_text 0 = .ok (.aload_n 0, 1) := by decide +kernel
theorem d_Laws_text_1 : decode b_Laws_text 1 = .ok (.getfield 11, 3) := by decide +kernel
theorem d_Laws_text_4 : decode b_Laws_text 4 = .ok (.iload_n 1, 1) := by decide +kernel
theorem d_Laws_text_5 : decode b_Laws_text 5 = .ok (.aaload, 1) := by decide +kernel
theorem d_Laws_text_6 : decode b_Laws_text 6 = .ok (.areturn, 1) := by decide +kernel
def s_Laws_text (x0 : Nat) (x1 : Int32) (h : HP) : Option (Nat) :=
  (gR h x0 2 0).bind fun v1 =>
  (aR v1 3 x1).bind fun v3 =>
  some v3
set_option maxHeartbeats 4000000 in
set_option maxRecDepth 100000 in
theorem c_Laws_text (l : Launch) (g : GG) {h : HP} {x0 : Nat} {x1 : Int32} {z : Nat} (hs : s_Laws_text x0 x1 h = some z) : Ct l g y_Laws_text w_Laws_text (rmS 0 0) [.ref (aD g x0), .int x1] h (some (.ref (aD g z))) h := by
  refine Ct.of (own := R_Laws) (by decide) rfl rfl (Nat.le_of_ble_eq_true rfl) ?_
  intro p e s m args below meth c ls C hl hw
  have hx := C.1
  have hb := C.2.1
  have hl : lv_has ls 2 [(0, .ref (aD g x0)), (1, .int x1)] := hl
  unfold s_Laws_text at hs
  refine lv_aload_n hx hb d_Laws_text_0 rfl (lv_at hl 0 rfl) ?_
  obtain ⟨v1, e2, hs⟩ := ob hs
  refine pg_getR C hw fl_Laws_11 e2 d_Laws_text_1 ?_
  refine lv_iload_n hx hb d_Laws_text_4 rfl (lv_at hl 1 rfl) ?_
  obtain ⟨v3, e4, hs⟩ := ob hs
  refine pg_aaload C hw (t0 := 3) rfl e4 d_Laws_text_5 ?_
  obtain rfl := Option.some.inj hs
  exact pg_aret C hw (by first | exact Or.inl ⟨_, rfl⟩ | exact Or.inr ⟨_, rfl⟩) d_Laws_text_6

end
section
variable {p : Program} {l : Launch} {e : Env} {s : State} {m : MethodId} {args : Array Value} {below : List Frame} {meth : Method} {c : Code} {g : GG}
theorem d_AdjoinedSets_theorem_0 : decode b_AdjoinedSets_theorem 0 = .ok (.aload_n 0, 1) := by decide +kernel
theorem d_AdjoinedSets_theorem_1 : decode b_AdjoinedSets_theorem 1 = .ok (.getfield 29, 3) := by decide +kernel
theorem d_AdjoinedSets_theorem_4 : decode b_AdjoinedSets_theorem 4 = .ok (.iload_n 1, 1) := by decide +kernel
theorem d_AdjoinedSets_theorem_5 : decode b_AdjoinedSets_theorem 5 = .ok (.invokevirtual 125, 3) := by decide +kernel
theorem d_AdjoinedSets_theorem_8 : decode b_AdjoinedSets_theorem 8 = .ok (.ifCond .eq 22, 3) := by decide +kernel
theorem d_AdjoinedSets_theorem_11 : decode b_AdjoinedSets_theorem 11 = .ok (.iload_n 2, 1) := by decide +kernel
theorem d_AdjoinedSets_theorem_12 : decode b_AdjoinedSets_theorem 12 = .ok (.ifCond .lt 18, 3) := by decide +kernel
theorem d_AdjoinedSets_theorem_15 : decode b_AdjoinedSets_theorem 15 = .ok (.iload_n 2, 1) := by decide +kernel
theorem d_AdjoinedSets_theorem_16 : decode b_AdjoinedSets_theorem 16 = .ok (.aload_n 0, 1) := by decide +kernel
theorem d_AdjoinedSets_theorem_17 : decode b_AdjoinedSets_theorem 17 = .ok (.getfield 29, 3) := by decide +kernel
theorem d_AdjoinedSets_theorem_20 : decode b_AdjoinedSets_theorem 20 = .ok (.iload_n 1, 1) := by decide +kernel
theorem d_AdjoinedSets_theorem_21 : decode b_AdjoinedSets_theorem 21 = .ok (.invokevirtual 129, 3) := by decide +kernel
theorem d_AdjoinedSets_theorem_24 : decode b_AdjoinedSets_theorem 24 = .ok (.invokevirtual 65, 3) := by decide +kernel
theorem d_AdjoinedSets_theorem_27 : decode b_AdjoinedSets_theorem 27 = .ok (.if_icmp .lt 5, 3) := by decide +kernel
theorem d_AdjoinedSets_theorem_30 : decode b_AdjoinedSets_theorem 30 = .ok (.iconst (-1), 1) := by decide +kernel
theorem d_AdjoinedSets_theorem_31 : decode b_AdjoinedSets_theorem 31 = .ok (.ireturn, 1) := by decide +kernel
theorem d_AdjoinedSets_theorem_32 : decode b_AdjoinedSets_theorem 32 = .ok (.aload_n 0, 1) := by decide +kernel
theorem d_AdjoinedSets_theorem_33 : decode b_AdjoinedSets_theorem 33 = .ok (.getfield 29, 3) := by decide +kernel
theorem d_AdjoinedSets_theorem_36 : decode b_AdjoinedSets_theorem 36 = .ok (.iload_n 1, 1) := by decide +kernel
theorem d_AdjoinedSets_theorem_37 : decode b_AdjoinedSets_theorem 37 = .ok (.invokevirtual 129, 3) := by decide +kernel
theorem d_AdjoinedSets_theorem_40 : decode b_AdjoinedSets_theorem 40 = .ok (.iload_n 2, 1) := by decide +kernel
theorem d_AdjoinedSets_theorem_41 : decode b_AdjoinedSets_theorem 41 = .ok (.invokevirtual 133, 3) := by decide +kernel
theorem d_AdjoinedSets_theorem_44 : decode b_AdjoinedSets_theorem 44 = .ok (.ireturn, 1) := by decide +kernel
def s_AdjoinedSets_theorem (x0 : Nat) (x1 : Int32) (x2 : Int32) (h : HP) : Option (Int32) :=
  (gR h x0 8 3).bind fun v1 =>
  (kd v1 2).bind fun _ =>
  (s_Laws_has v1 x1 h).bind fun q4 =>
  if q4 = 0 then (
    some (-1))
  else (
    if x2 < 0 then (
      some (-1))
    else (
      (gR h x0 8 3).bind fun v6 =>
      (kd v6 2).bind fun _ =>
      (s_Laws_text v6 x1 h).bind fun q9 =>
      (kd q9 0).bind fun _ =>
      (s_Text_length q9 h).bind fun q12 =>
      if x2 < q12 then (
        (gR h x0 8 3).bind fun v14 =>
        (kd v14 2).bind fun _ =>
        (s_Laws_text v14 x1 h).bind fun q17 =>
        (kd q17 0).bind fun _ =>
        (s_Text_at q17 x2 h).bind fun q20 =>
        some q20)
      else (
        some (-1))))
set_option maxHeartbeats 4000000 in
set_option maxRecDepth 100000 in
theorem c_AdjoinedSets_theorem (l : Launch) (g : GG) {h : HP} {x0 : Nat} {x1 : Int32} {x2 : Int32} {z : Int32} (hs : s_AdjoinedSets_theorem x0 x1 x2 h = some z) : Ct l g y_AdjoinedSets_theorem w_AdjoinedSets_theorem (rmS 1 21) [.ref (aD g x0), .int x1, .int x2] h (some (.int z)) h := by
  refine Ct.of (own := R_AdjoinedSets) (by decide) rfl rfl (Nat.le_of_ble_eq_true rfl) ?_
  intro p e s m args below meth c ls C hl hw
  have hx := C.1
  have hb := C.2.1
  have hl : lv_has ls 3 [(0, .ref (aD g x0)), (1, .int x1), (2, .int x2)] := hl
  unfold s_AdjoinedSets_theorem at hs
  refine lv_aload_n hx hb d_AdjoinedSets_theorem_0 rfl (lv_at hl 0 rfl) ?_
  obtain ⟨v1, e2, hs⟩ := ob hs
  refine pg_getR C hw fl_AdjoinedSets_29 e2 d_AdjoinedSets_theorem_1 ?_
  refine lv_iload_n hx hb d_AdjoinedSets_theorem_4 rfl (lv_at hl 1 rfl) ?_
  obtain ⟨_, e3, hs⟩ := ob hs
  obtain ⟨q4, e5, hs⟩ := ob hs
  refine pg_callV C hw hl.1 ml_AdjoinedSets_125 e3 (As := [.int x1]) (rest := []) (c_Laws_has l g e5) rfl (rm_ok (Nat.le_of_ble_eq_true rfl) (Nat.le_of_ble_eq_true rfl)) (Nat.le_of_ble_eq_true rfl) rfl (st1 := [.int q4]) rfl d_AdjoinedSets_theorem_5 (fun H locs hw => ?_)
  refine lv_if_eq hx hb d_AdjoinedSets_theorem_8 (tgt := 30) (by decide) (fun hc => ?_) (fun hc => ?_)
  · have hs := oi_t hc hs
    refine lv_iconst (v := (-1)) hx hb d_AdjoinedSets_theorem_30 (by decide) ?_
    obtain rfl := Option.some.inj hs
    exact pg_iret C hw d_AdjoinedSets_theorem_31
  · have hs := oi_f hc hs
    refine lv_iload_n hx hb d_AdjoinedSets_theorem_11 rfl (lv_at hl 2 rfl) ?_
    refine lv_if_lt hx hb d_AdjoinedSets_theorem_12 (tgt := 30) (by decide) (fun hc => ?_) (fun hc => ?_)
    · have hs := oi_t hc hs
      refine lv_iconst (v := (-1)) hx hb d_AdjoinedSets_theorem_30 (by decide) ?_
      obtain rfl := Option.some.inj hs
      exact pg_iret C hw d_AdjoinedSets_theorem_31
    · have hs := oi_f hc hs
      refine lv_iload_n hx hb d_AdjoinedSets_theorem_15 rfl (lv_at hl 2 rfl) ?_
      refine lv_aload_n hx hb d_AdjoinedSets_theorem_16 rfl (lv_at hl 0 rfl) ?_
      obtain ⟨v6, e7, hs⟩ := ob hs
      refine pg_getR C hw fl_AdjoinedSets_29 e7 d_AdjoinedSets_theorem_17 ?_
      refine lv_iload_n hx hb d_AdjoinedSets_theorem_20 rfl (lv_at hl 1 rfl) ?_
      obtain ⟨_, e8, hs⟩ := ob hs
      obtain ⟨q9, e10, hs⟩ := ob hs
      refine pg_callV C hw hl.1 ml_AdjoinedSets_129 e8 (As := [.int x1]) (rest := [.int x2]) (c_Laws_text l g e10) rfl (rm_ok (Nat.le_of_ble_eq_true rfl) (Nat.le_of_ble_eq_true rfl)) (Nat.le_of_ble_eq_true rfl) rfl (st1 := [.ref (aD g q9), .int x2]) rfl d_AdjoinedSets_theorem_21 (fun H locs hw => ?_)
      obtain ⟨_, e11, hs⟩ := ob hs
      obtain ⟨q12, e13, hs⟩ := ob hs
      refine pg_callV C hw hl.1 ml_AdjoinedSets_65 e11 (As := []) (rest := [.int x2]) (c_Text_length l g e13) rfl (rm_ok (Nat.le_of_ble_eq_true rfl) (Nat.le_of_ble_eq_true rfl)) (Nat.le_of_ble_eq_true rfl) rfl (st1 := [.int q12, .int x2]) rfl d_AdjoinedSets_theorem_24 (fun H locs hw => ?_)
      refine lv_icmp_lt hx hb d_AdjoinedSets_theorem_27 (tgt := 32) (by decide) (fun hc => ?_) (fun hc => ?_)
      · have hs := oi_t hc hs
        refine lv_aload_n hx hb d_AdjoinedSets_theorem_32 rfl (lv_at hl 0 rfl) ?_
        obtain ⟨v14, e15, hs⟩ := ob hs
        refine pg_getR C hw fl_AdjoinedSets_29 e15 d_AdjoinedSets_theorem_33 ?_
        refine lv_iload_n hx hb d_AdjoinedSets_theorem_36 rfl (lv_at hl 1 rfl) ?_
        obtain ⟨_, e16, hs⟩ := ob hs
        obtain ⟨q17, e18, hs⟩ := ob hs
        refine pg_callV C hw hl.1 ml_AdjoinedSets_129 e16 (As := [.int x1]) (rest := []) (c_Laws_text l g e18) rfl (rm_ok (Nat.le_of_ble_eq_true rfl) (Nat.le_of_ble_eq_true rfl)) (Nat.le_of_ble_eq_true rfl) rfl (st1 := [.ref (aD g q17)]) rfl d_AdjoinedSets_theorem_37 (fun H locs hw => ?_)
        refine lv_iload_n hx hb d_AdjoinedSets_theorem_40 rfl (lv_at hl 2 rfl) ?_
        obtain ⟨_, e19, hs⟩ := ob hs
        obtain ⟨q20, e21, hs⟩ := ob hs
        refine pg_callV C hw hl.1 ml_AdjoinedSets_133 e19 (As := [.int x2]) (rest := []) (c_Text_at l g e21) rfl (rm_ok (Nat.le_of_ble_eq_true rfl) (Nat.le_of_ble_eq_true rfl)) (Nat.le_of_ble_eq_true rfl) rfl (st1 := [.int q20]) rfl d_AdjoinedSets_theorem_41 (fun H locs hw => ?_)
        obtain rfl := Option.some.inj hs
        exact pg_iret C hw d_AdjoinedSets_theorem_44
      · have hs := oi_f hc hs
        refine lv_iconst (v := (-1)) hx hb d_AdjoinedSets_theorem_30 (by decide) ?_
        obtain rfl := Option.some.inj hs
        exact pg_iret C hw d_AdjoinedSets_theorem_31

end
section
variable {p : Program} {l : Launch} {e : Env} {s : State} {m : MethodId} {args : Array Value} {below : List Frame} {meth : Method} {c : Code} {g : GG}
theorem d_Laws_count_0 : decode b_Laws_count 0 = .ok (.aload_n 0, 1) := by decide +kernel
theorem d_Laws_count_1 : decode b_Laws_count 1 = .ok (.getfield 21, 3) := by decide +kernel
theorem d_Laws_count_4 : decode b_Laws_count 4 = .ok (.ireturn, 1) := by decide +kernel
def s_Laws_count (x0 : Nat) (h : HP) : Option (Int32) :=
  (gI h x0 2 2).bind fun v1 =>
  some v1
set_option maxHeartbeats 4000000 in
set_option maxRecDepth 100000 in
theorem c_Laws_count (l : Launch) (g : GG) {h : HP} {x0 : Nat} {z : Int32} (hs : s_Laws_count x0 h = some z) : Ct l g y_Laws_count w_Laws_count (rmS 0 0) [.ref (aD g x0)] h (some (.int z)) h := by
  refine Ct.of (own := R_Laws) (by decide) rfl rfl (Nat.le_of_ble_eq_true rfl) ?_
  intro p e s m args below meth c ls C hl hw
  have hx := C.1
  have hb := C.2.1
  have hl : lv_has ls 1 [(0, .ref (aD g x0))] := hl
  unfold s_Laws_count at hs
  refine lv_aload_n hx hb d_Laws_count_0 rfl (lv_at hl 0 rfl) ?_
  obtain ⟨v1, e2, hs⟩ := ob hs
  refine pg_getI C hw fl_Laws_21 e2 d_Laws_count_1 ?_
  obtain rfl := Option.some.inj hs
  exact pg_iret C hw d_Laws_count_4

end
section
variable {p : Program} {l : Launch} {e : Env} {s : State} {m : MethodId} {args : Array Value} {below : List Frame} {meth : Method} {c : Code} {g : GG}
theorem d_AdjoinedSets_theorems_0 : decode b_AdjoinedSets_theorems 0 = .ok (.aload_n 0, 1) := by decide +kernel
theorem d_AdjoinedSets_theorems_1 : decode b_AdjoinedSets_theorems 1 = .ok (.getfield 29, 3) := by decide +kernel
theorem d_AdjoinedSets_theorems_4 : decode b_AdjoinedSets_theorems 4 = .ok (.invokevirtual 112, 3) := by decide +kernel
theorem d_AdjoinedSets_theorems_7 : decode b_AdjoinedSets_theorems 7 = .ok (.ireturn, 1) := by decide +kernel
def s_AdjoinedSets_theorems (x0 : Nat) (h : HP) : Option (Int32) :=
  (gR h x0 8 3).bind fun v1 =>
  (kd v1 2).bind fun _ =>
  (s_Laws_count v1 h).bind fun q4 =>
  some q4
set_option maxHeartbeats 4000000 in
set_option maxRecDepth 100000 in
theorem c_AdjoinedSets_theorems (l : Launch) (g : GG) {h : HP} {x0 : Nat} {z : Int32} (hs : s_AdjoinedSets_theorems x0 h = some z) : Ct l g y_AdjoinedSets_theorems w_AdjoinedSets_theorems (rmS 1 20) [.ref (aD g x0)] h (some (.int z)) h := by
  refine Ct.of (own := R_AdjoinedSets) (by decide) rfl rfl (Nat.le_of_ble_eq_true rfl) ?_
  intro p e s m args below meth c ls C hl hw
  have hx := C.1
  have hb := C.2.1
  have hl : lv_has ls 1 [(0, .ref (aD g x0))] := hl
  unfold s_AdjoinedSets_theorems at hs
  refine lv_aload_n hx hb d_AdjoinedSets_theorems_0 rfl (lv_at hl 0 rfl) ?_
  obtain ⟨v1, e2, hs⟩ := ob hs
  refine pg_getR C hw fl_AdjoinedSets_29 e2 d_AdjoinedSets_theorems_1 ?_
  obtain ⟨_, e3, hs⟩ := ob hs
  obtain ⟨q4, e5, hs⟩ := ob hs
  refine pg_callV C hw hl.1 ml_AdjoinedSets_112 e3 (As := []) (rest := []) (c_Laws_count l g e5) rfl (rm_ok (Nat.le_of_ble_eq_true rfl) (Nat.le_of_ble_eq_true rfl)) (Nat.le_of_ble_eq_true rfl) rfl (st1 := [.int q4]) rfl d_AdjoinedSets_theorems_4 (fun H locs hw => ?_)
  obtain rfl := Option.some.inj hs
  exact pg_iret C hw d_AdjoinedSets_theorems_7

end
section
variable {p : Program} {l : Launch} {e : Env} {s : State} {m : MethodId} {args : Array Value} {below : List Frame} {meth : Method} {c : Code} {g : GG}
theorem d_Text_has_0 : decode b_Text_has 0 = .ok (.iconst 0, 1) := by decide +kernel
theorem d_Text_has_1 : decode b_Text_has 1 = .ok (.istore 5, 2) := by decide +kernel
theorem d_Text_has_3 : decode b_Text_has 3 = .ok (.iload 5, 2) := by decide +kernel
theorem d_Text_has_5 : decode b_Text_has 5 = .ok (.bipush 60, 2) := by decide +kernel
theorem d_Text_has_7 : decode b_Text_has 7 = .ok (.if_icmp .ge 48, 3) := by decide +kernel
theorem d_Text_has_10 : decode b_Text_has 10 = .ok (.iload_n 3, 1) := by decide +kernel
theorem d_Text_has_11 : decode b_Text_has 11 = .ok (.iload 5, 2) := by decide +kernel
theorem d_Text_has_13 : decode b_Text_has 13 = .ok (.iadd, 1) := by decide +kernel
theorem d_Text_has_14 : decode b_Text_has 14 = .ok (.iload 4, 2) := by decide +kernel
theorem d_Text_has_16 : decode b_Text_has 16 = .ok (.if_icmp .ge 39, 3) := by decide +kernel
theorem d_Text_has_19 : decode b_Text_has 19 = .ok (.aload_n 0, 1) := by decide +kernel
theorem d_Text_has_20 : decode b_Text_has 20 = .ok (.iload_n 1, 1) := by decide +kernel
theorem d_Text_has_21 : decode b_Text_has 21 = .ok (.iload 5, 2) := by decide +kernel
theorem d_Text_has_23 : decode b_Text_has 23 = .ok (.iadd, 1) := by decide +kernel
theorem d_Text_has_24 : decode b_Text_has 24 = .ok (.invokevirtual 23, 3) := by decide +kernel
theorem d_Text_has_27 : decode b_Text_has 27 = .ok (.istore 6, 2) := by decide +kernel
theorem d_Text_has_29 : decode b_Text_has 29 = .ok (.iload 6, 2) := by decide +kernel
theorem d_Text_has_31 : decode b_Text_has 31 = .ok (.ifCond .eq 16, 3) := by decide +kernel
theorem d_Text_has_34 : decode b_Text_has 34 = .ok (.iload 6, 2) := by decide +kernel
theorem d_Text_has_36 : decode b_Text_has 36 = .ok (.aload_n 2, 1) := by decide +kernel
theorem d_Text_has_37 : decode b_Text_has 37 = .ok (.iload_n 3, 1) := by decide +kernel
theorem d_Text_has_38 : decode b_Text_has 38 = .ok (.iload 5, 2) := by decide +kernel
theorem d_Text_has_40 : decode b_Text_has 40 = .ok (.iadd, 1) := by decide +kernel
theorem d_Text_has_41 : decode b_Text_has 41 = .ok (.invokevirtual 23, 3) := by decide +kernel
theorem d_Text_has_44 : decode b_Text_has 44 = .ok (.if_icmp .eq 5, 3) := by decide +kernel
theorem d_Text_has_47 : decode b_Text_has 47 = .ok (.iconst 0, 1) := by decide +kernel
theorem d_Text_has_48 : decode b_Text_has 48 = .ok (.ireturn, 1) := by decide +kernel
theorem d_Text_has_49 : decode b_Text_has 49 = .ok (.iinc 5 1, 3) := by decide +kernel
theorem d_Text_has_52 : decode b_Text_has 52 = .ok (.goto (-49), 3) := by decide +kernel
theorem d_Text_has_55 : decode b_Text_has 55 = .ok (.iconst 1, 1) := by decide +kernel
theorem d_Text_has_56 : decode b_Text_has 56 = .ok (.ireturn, 1) := by decide +kernel
def s_Text_has_3 : Nat → Nat → Int32 → Nat → Int32 → Int32 → Int32 → HP → Option (Int32)
  | 0 => fun _ _ _ _ _ _ _ => none
  | k + 1 => fun x0 x1 x2 x3 x4 x5 h =>
  if 60 ≤ x5 then (
    some 1)
  else (
    if x4 ≤ (x3 + x5) then (
      some 1)
    else (
      (kd x0 0).bind fun _ =>
      (s_Text_at x0 (x1 + x5) h).bind fun q4 =>
      if q4 = 0 then (
        some 0)
      else (
        (kd x2 0).bind fun _ =>
        (s_Text_at x2 (x3 + x5) h).bind fun q8 =>
        if q4 = q8 then (
          (s_Text_has_3 k) x0 x1 x2 x3 x4 (x5 + 1) h)
        else (
          some 0))))
set_option maxHeartbeats 4000000 in
set_option maxRecDepth 100000 in
theorem k_Text_has_3 {h : HP} {z : Int32} (C : CX g R_Text b_Text_has 7 (some .boolean) p s m args meth c) : ∀ (k : Nat) {x0 : Nat} {x1 : Int32} {x2 : Nat} {x3 : Int32} {x4 : Int32} {x5 : Int32} {H : Heap} {locs : List Loc} {ls : Array Slot}, WD g h s.heap H locs → lv_has ls 7 [(0, .ref (aD g x0)), (1, .int x1), (2, .ref (aD g x2)), (3, .int x3), (4, .int x4), (5, .int x5)] → s_Text_has_3 k x0 x1 x2 x3 x4 x5 h = some z → W p l e (rmS 1 21) s m args below meth c H locs 0 0 (MQ below (Qq g (some (.int z)) h) args s 0 0 (inA g)) (F0 m 3 ls []) := by
  have hx := C.1
  have hb := C.2.1
  intro k
  induction k with
  | zero =>
    intro x0 x1 x2 x3 x4 x5 H locs ls hw hl hs
    exact (no_s hs).elim
  | succ k ih =>
    intro x0 x1 x2 x3 x4 x5 H locs ls hw hl hs
    rw [s_Text_has_3] at hs
    refine lv_iload hx hb d_Text_has_3 (lv_at hl 5 rfl) ?_
    refine lv_bipush (v := 60) hx hb d_Text_has_5 (by decide) ?_
    refine lv_icmp_ge hx hb d_Text_has_7 (tgt := 55) (by decide) (fun hc => ?_) (fun hc => ?_)
    · have hs := oi_t hc hs
      refine lv_iconst (v := 1) hx hb d_Text_has_55 (by decide) ?_
      obtain rfl := Option.some.inj hs
      exact pg_zret (v := 1) C hw rfl d_Text_has_56
    · have hs := oi_f hc hs
      refine lv_iload_n hx hb d_Text_has_10 rfl (lv_at hl 3 rfl) ?_
      refine lv_iload hx hb d_Text_has_11 (lv_at hl 5 rfl) ?_
      refine lv_iadd hx hb d_Text_has_13 ?_
      refine lv_iload hx hb d_Text_has_14 (lv_at hl 4 rfl) ?_
      refine lv_icmp_ge hx hb d_Text_has_16 (tgt := 55) (by decide) (fun hc => ?_) (fun hc => ?_)
      · have hs := oi_t hc hs
        refine lv_iconst (v := 1) hx hb d_Text_has_55 (by decide) ?_
        obtain rfl := Option.some.inj hs
        exact pg_zret (v := 1) C hw rfl d_Text_has_56
      · have hs := oi_f hc hs
        refine lv_aload_n hx hb d_Text_has_19 rfl (lv_at hl 0 rfl) ?_
        refine lv_iload_n hx hb d_Text_has_20 rfl (lv_at hl 1 rfl) ?_
        refine lv_iload hx hb d_Text_has_21 (lv_at hl 5 rfl) ?_
        refine lv_iadd hx hb d_Text_has_23 ?_
        obtain ⟨_, e3, hs⟩ := ob hs
        obtain ⟨q4, e5, hs⟩ := ob hs
        refine pg_callV C hw hl.1 ml_Text_23 e3 (As := [.int (x1 + x5)]) (rest := []) (c_Text_at l g e5) rfl (rm_ok (Nat.le_of_ble_eq_true rfl) (Nat.le_of_ble_eq_true rfl)) (Nat.le_of_ble_eq_true rfl) rfl (st1 := [.int q4]) rfl d_Text_has_24 (fun H locs hw => ?_)
        refine lv_istore hx hb d_Text_has_27 hl (by decide) (lv' := [(6, .int q4), (0, .ref (aD g x0)), (1, .int x1), (2, .ref (aD g x2)), (3, .int x3), (4, .int x4), (5, .int x5)]) rfl (fun ls hl => ?_)
        refine lv_iload hx hb d_Text_has_29 (lv_at hl 0 rfl) ?_
        refine lv_if_eq hx hb d_Text_has_31 (tgt := 47) (by decide) (fun hc => ?_) (fun hc => ?_)
        · have hs := oi_t hc hs
          refine lv_iconst (v := 0) hx hb d_Text_has_47 (by decide) ?_
          obtain rfl := Option.some.inj hs
          exact pg_zret (v := 0) C hw rfl d_Text_has_48
        · have hs := oi_f hc hs
          refine lv_iload hx hb d_Text_has_34 (lv_at hl 0 rfl) ?_
          refine lv_aload_n hx hb d_Text_has_36 rfl (lv_at hl 3 rfl) ?_
          refine lv_iload_n hx hb d_Text_has_37 rfl (lv_at hl 4 rfl) ?_
          refine lv_iload hx hb d_Text_has_38 (lv_at hl 6 rfl) ?_
          refine lv_iadd hx hb d_Text_has_40 ?_
          obtain ⟨_, e7, hs⟩ := ob hs
          obtain ⟨q8, e9, hs⟩ := ob hs
          refine pg_callV C hw hl.1 ml_Text_23 e7 (As := [.int (x3 + x5)]) (rest := [.int q4]) (c_Text_at l g e9) rfl (rm_ok (Nat.le_of_ble_eq_true rfl) (Nat.le_of_ble_eq_true rfl)) (Nat.le_of_ble_eq_true rfl) rfl (st1 := [.int q8, .int q4]) rfl d_Text_has_41 (fun H locs hw => ?_)
          refine lv_icmp_eq hx hb d_Text_has_44 (tgt := 49) (by decide) (fun hc => ?_) (fun hc => ?_)
          · have hs := oi_t hc hs
            refine lv_iinc hx hb d_Text_has_49 hl (k := 6) rfl (v := (x5 + 1)) (iinc_e _ (by decide)) (by decide) (lv' := [(5, .int (x5 + 1)), (6, .int q4), (0, .ref (aD g x0)), (1, .int x1), (2, .ref (aD g x2)), (3, .int x3), (4, .int x4)]) rfl (fun ls hl => ?_)
            refine lv_goto hx hb d_Text_has_52 (tgt := 3) (by decide) ?_
            exact ih hw (lv_sub hl [2, 3, 4, 5, 6, 0] rfl) hs
          · have hs := oi_f hc hs
            refine lv_iconst (v := 0) hx hb d_Text_has_47 (by decide) ?_
            obtain rfl := Option.some.inj hs
            exact pg_zret (v := 0) C hw rfl d_Text_has_48

def s_Text_has (x0 : Nat) (x1 : Int32) (x2 : Nat) (x3 : Int32) (x4 : Int32) (h : HP) : Option (Int32) :=
  s_Text_has_3 20000 x0 x1 x2 x3 x4 0 h
set_option maxHeartbeats 4000000 in
set_option maxRecDepth 100000 in
theorem c_Text_has (l : Launch) (g : GG) {h : HP} {x0 : Nat} {x1 : Int32} {x2 : Nat} {x3 : Int32} {x4 : Int32} {z : Int32} (hs : s_Text_has x0 x1 x2 x3 x4 h = some z) : Ct l g y_Text_has w_Text_has (rmS 1 21) [.ref (aD g x0), .int x1, .ref (aD g x2), .int x3, .int x4] h (some (.int z)) h := by
  refine Ct.of (own := R_Text) (by decide) rfl rfl (Nat.le_of_ble_eq_true rfl) ?_
  intro p e s m args below meth c ls C hl hw
  have hx := C.1
  have hb := C.2.1
  have hl : lv_has ls 7 [(0, .ref (aD g x0)), (1, .int x1), (2, .ref (aD g x2)), (3, .int x3), (4, .int x4)] := hl
  unfold s_Text_has at hs
  refine lv_iconst (v := 0) hx hb d_Text_has_0 (by decide) ?_
  refine lv_istore hx hb d_Text_has_1 hl (by decide) (lv' := [(5, .int 0), (0, .ref (aD g x0)), (1, .int x1), (2, .ref (aD g x2)), (3, .int x3), (4, .int x4)]) rfl (fun ls hl => ?_)
  exact k_Text_has_3 C 20000 hw (lv_sub hl [1, 2, 3, 4, 5, 0] rfl) hs

end
section
variable {p : Program} {l : Launch} {e : Env} {s : State} {m : MethodId} {args : Array Value} {below : List Frame} {meth : Method} {c : Code} {g : GG}
theorem d_Rules_countPart_0 : decode b_Rules_countPart 0 = .ok (.iconst 0, 1) := by decide +kernel
theorem d_Rules_countPart_1 : decode b_Rules_countPart 1 = .ok (.istore_n 2, 1) := by decide +kernel
theorem d_Rules_countPart_2 : decode b_Rules_countPart 2 = .ok (.iload_n 2, 1) := by decide +kernel
theorem d_Rules_countPart_3 : decode b_Rules_countPart 3 = .ok (.aload_n 0, 1) := by decide +kernel
theorem d_Rules_countPart_4 : decode b_Rules_countPart 4 = .ok (.getfield 25, 3) := by decide +kernel
theorem d_Rules_countPart_7 : decode b_Rules_countPart 7 = .ok (.if_icmp .ge 43, 3) := by decide +kernel
theorem d_Rules_countPart_10 : decode b_Rules_countPart 10 = .ok (.aload_n 0, 1) := by decide +kernel
theorem d_Rules_countPart_11 : decode b_Rules_countPart 11 = .ok (.getfield 29, 3) := by decide +kernel
theorem d_Rules_countPart_14 : decode b_Rules_countPart 14 = .ok (.iload_n 1, 1) := by decide +kernel
theorem d_Rules_countPart_15 : decode b_Rules_countPart 15 = .ok (.aload_n 0, 1) := by decide +kernel
theorem d_Rules_countPart_16 : decode b_Rules_countPart 16 = .ok (.getfield 29, 3) := by decide +kernel
theorem d_Rules_countPart_19 : decode b_Rules_countPart 19 = .ok (.aload_n 0, 1) := by decide +kernel
theorem d_Rules_countPart_20 : decode b_Rules_countPart 20 = .ok (.getfield 18, 3) := by decide +kernel
theorem d_Rules_countPart_23 : decode b_Rules_countPart 23 = .ok (.iload_n 2, 1) := by decide +kernel
theorem d_Rules_countPart_24 : decode b_Rules_countPart 24 = .ok (.iaload, 1) := by decide +kernel
theorem d_Rules_countPart_25 : decode b_Rules_countPart 25 = .ok (.aload_n 0, 1) := by decide +kernel
theorem d_Rules_countPart_26 : decode b_Rules_countPart 26 = .ok (.getfield 29, 3) := by decide +kernel
theorem d_Rules_countPart_29 : decode b_Rules_countPart 29 = .ok (.aload_n 0, 1) := by decide +kernel
theorem d_Rules_countPart_30 : decode b_Rules_countPart 30 = .ok (.getfield 18, 3) := by decide +kernel
theorem d_Rules_countPart_33 : decode b_Rules_countPart 33 = .ok (.iload_n 2, 1) := by decide +kernel
theorem d_Rules_countPart_34 : decode b_Rules_countPart 34 = .ok (.iaload, 1) := by decide +kernel
theorem d_Rules_countPart_35 : decode b_Rules_countPart 35 = .ok (.invokevirtual 192, 3) := by decide +kernel
theorem d_Rules_countPart_38 : decode b_Rules_countPart 38 = .ok (.invokevirtual 153, 3) := by decide +kernel
theorem d_Rules_countPart_41 : decode b_Rules_countPart 41 = .ok (.ifCond .ne 9, 3) := by decide +kernel
theorem d_Rules_countPart_44 : decode b_Rules_countPart 44 = .ok (.iinc 2 1, 3) := by decide +kernel
theorem d_Rules_countPart_47 : decode b_Rules_countPart 47 = .ok (.goto (-45), 3) := by decide +kernel
theorem d_Rules_countPart_50 : decode b_Rules_countPart 50 = .ok (.iload_n 2, 1) := by decide +kernel
theorem d_Rules_countPart_51 : decode b_Rules_countPart 51 = .ok (.bipush 6, 2) := by decide +kernel
theorem d_Rules_countPart_53 : decode b_Rules_countPart 53 = .ok (.if_icmp .ge 13, 3) := by decide +kernel
theorem d_Rules_countPart_56 : decode b_Rules_countPart 56 = .ok (.iload_n 1, 1) := by decide +kernel
theorem d_Rules_countPart_57 : decode b_Rules_countPart 57 = .ok (.ifCond .lt 9, 3) := by decide +kernel
theorem d_Rules_countPart_60 : decode b_Rules_countPart 60 = .ok (.iload_n 1, 1) := by decide +kernel
theorem d_Rules_countPart_61 : decode b_Rules_countPart 61 = .ok (.bipush 60, 2) := by decide +kernel
theorem d_Rules_countPart_63 : decode b_Rules_countPart 63 = .ok (.if_icmp .lt 5, 3) := by decide +kernel
theorem d_Rules_countPart_66 : decode b_Rules_countPart 66 = .ok (.iconst 0, 1) := by decide +kernel
theorem d_Rules_countPart_67 : decode b_Rules_countPart 67 = .ok (.ireturn, 1) := by decide +kernel
theorem d_Rules_countPart_68 : decode b_Rules_countPart 68 = .ok (.iload_n 2, 1) := by decide +kernel
theorem d_Rules_countPart_69 : decode b_Rules_countPart 69 = .ok (.aload_n 0, 1) := by decide +kernel
theorem d_Rules_countPart_70 : decode b_Rules_countPart 70 = .ok (.getfield 25, 3) := by decide +kernel
theorem d_Rules_countPart_73 : decode b_Rules_countPart 73 = .ok (.if_icmp .ne 20, 3) := by decide +kernel
theorem d_Rules_countPart_76 : decode b_Rules_countPart 76 = .ok (.aload_n 0, 1) := by decide +kernel
theorem d_Rules_countPart_77 : decode b_Rules_countPart 77 = .ok (.getfield 18, 3) := by decide +kernel
theorem d_Rules_countPart_80 : decode b_Rules_countPart 80 = .ok (.iload_n 2, 1) := by decide +kernel
theorem d_Rules_countPart_81 : decode b_Rules_countPart 81 = .ok (.iload_n 1, 1) := by decide +kernel
theorem d_Rules_countPart_82 : decode b_Rules_countPart 82 = .ok (.iastore, 1) := by decide +kernel
theorem d_Rules_countPart_83 : decode b_Rules_countPart 83 = .ok (.aload_n 0, 1) := by decide +kernel
theorem d_Rules_countPart_84 : decode b_Rules_countPart 84 = .ok (.dup, 1) := by decide +kernel
theorem d_Rules_countPart_85 : decode b_Rules_countPart 85 = .ok (.getfield 25, 3) := by decide +kernel
theorem d_Rules_countPart_88 : decode b_Rules_countPart 88 = .ok (.iconst 1, 1) := by decide +kernel
theorem d_Rules_countPart_89 : decode b_Rules_countPart 89 = .ok (.iadd, 1) := by decide +kernel
theorem d_Rules_countPart_90 : decode b_Rules_countPart 90 = .ok (.putfield 25, 3) := by decide +kernel
theorem d_Rules_countPart_93 : decode b_Rules_countPart 93 = .ok (.aload_n 0, 1) := by decide +kernel
theorem d_Rules_countPart_94 : decode b_Rules_countPart 94 = .ok (.getfield 22, 3) := by decide +kernel
theorem d_Rules_countPart_97 : decode b_Rules_countPart 97 = .ok (.iload_n 1, 1) := by decide +kernel
theorem d_Rules_countPart_98 : decode b_Rules_countPart 98 = .ok (.iload_n 2, 1) := by decide +kernel
theorem d_Rules_countPart_99 : decode b_Rules_countPart 99 = .ok (.iastore, 1) := by decide +kernel
theorem d_Rules_countPart_100 : decode b_Rules_countPart 100 = .ok (.iconst 1, 1) := by decide +kernel
theorem d_Rules_countPart_101 : decode b_Rules_countPart 101 = .ok (.ireturn, 1) := by decide +kernel
def s_Rules_countPart_93 (x0 : Nat) (x1 : Int32) (x2 : Int32) (h : HP) : Option (Int32 × HP) :=
  (gR h x0 7 7).bind fun v1 =>
  (uI h v1 0 x1 x2).bind fun h3 =>
  some (1, h3)
set_option maxHeartbeats 4000000 in
set_option maxRecDepth 100000 in
theorem k_Rules_countPart_93 {x0 : Nat} {x1 : Int32} {x2 : Int32} {h : HP} {z : Int32 × HP} (C : CX g R_Rules b_Rules_countPart 3 (some .boolean) p s m args meth c) {H : Heap} {locs : List Loc} {ls : Array Slot} (hw : WD g h s.heap H locs) (hl : lv_has ls 3 [(0, .ref (aD g x0)), (1, .int x1), (2, .int x2)]) (hs : s_Rules_countPart_93 x0 x1 x2 h = some z) : W p l e (rmS 2 47) s m args below meth c H locs 0 0 (MQ below (Qq g (some (.int z.1)) z.2) args s 0 0 (inA g)) (F0 m 93 ls []) := by
  unfold s_Rules_countPart_93 at hs
  have hx := C.1
  have hb := C.2.1
  refine lv_aload_n hx hb d_Rules_countPart_93 rfl (lv_at hl 0 rfl) ?_
  obtain ⟨v1, e2, hs⟩ := ob hs
  refine pg_getR C hw fl_Rules_22 e2 d_Rules_countPart_94 ?_
  refine lv_iload_n hx hb d_Rules_countPart_97 rfl (lv_at hl 1 rfl) ?_
  refine lv_iload_n hx hb d_Rules_countPart_98 rfl (lv_at hl 2 rfl) ?_
  obtain ⟨h3, e4, hs⟩ := ob hs
  refine pg_iastore C hw (t0 := 0) rfl e4 d_Rules_countPart_99 (fun H locs hw => ?_)
  refine lv_iconst (v := 1) hx hb d_Rules_countPart_100 (by decide) ?_
  obtain rfl := Option.some.inj hs
  exact pg_zret (v := 1) C hw rfl d_Rules_countPart_101

def s_Rules_countPart_50 (x0 : Nat) (x1 : Int32) (x2 : Int32) (h : HP) : Option (Int32 × HP) :=
  if 6 ≤ x2 then (
    some (0, h))
  else (
    if x1 < 0 then (
      some (0, h))
    else (
      if x1 < 60 then (
        (gI h x0 7 8).bind fun v3 =>
        if x2 = v3 then (
          (gR h x0 7 6).bind fun v5 =>
          (uI h v5 0 x2 x1).bind fun h7 =>
          (gI h7 x0 7 8).bind fun v9 =>
          (pI h7 x0 7 8 (v9 + 1)).bind fun h11 =>
          s_Rules_countPart_93 x0 x1 x2 h11)
        else (
          s_Rules_countPart_93 x0 x1 x2 h))
      else (
        some (0, h))))
set_option maxHeartbeats 4000000 in
set_option maxRecDepth 100000 in
theorem k_Rules_countPart_50 {x0 : Nat} {x1 : Int32} {x2 : Int32} {h : HP} {z : Int32 × HP} (C : CX g R_Rules b_Rules_countPart 3 (some .boolean) p s m args meth c) {H : Heap} {locs : List Loc} {ls : Array Slot} (hw : WD g h s.heap H locs) (hl : lv_has ls 3 [(0, .ref (aD g x0)), (1, .int x1), (2, .int x2)]) (hs : s_Rules_countPart_50 x0 x1 x2 h = some z) : W p l e (rmS 2 47) s m args below meth c H locs 0 0 (MQ below (Qq g (some (.int z.1)) z.2) args s 0 0 (inA g)) (F0 m 50 ls []) := by
  unfold s_Rules_countPart_50 at hs
  have hx := C.1
  have hb := C.2.1
  refine lv_iload_n hx hb d_Rules_countPart_50 rfl (lv_at hl 2 rfl) ?_
  refine lv_bipush (v := 6) hx hb d_Rules_countPart_51 (by decide) ?_
  refine lv_icmp_ge hx hb d_Rules_countPart_53 (tgt := 66) (by decide) (fun hc => ?_) (fun hc => ?_)
  · have hs := oi_t hc hs
    refine lv_iconst (v := 0) hx hb d_Rules_countPart_66 (by decide) ?_
    obtain rfl := Option.some.inj hs
    exact pg_zret (v := 0) C hw rfl d_Rules_countPart_67
  · have hs := oi_f hc hs
    refine lv_iload_n hx hb d_Rules_countPart_56 rfl (lv_at hl 1 rfl) ?_
    refine lv_if_lt hx hb d_Rules_countPart_57 (tgt := 66) (by decide) (fun hc => ?_) (fun hc => ?_)
    · have hs := oi_t hc hs
      refine lv_iconst (v := 0) hx hb d_Rules_countPart_66 (by decide) ?_
      obtain rfl := Option.some.inj hs
      exact pg_zret (v := 0) C hw rfl d_Rules_countPart_67
    · have hs := oi_f hc hs
      refine lv_iload_n hx hb d_Rules_countPart_60 rfl (lv_at hl 1 rfl) ?_
      refine lv_bipush (v := 60) hx hb d_Rules_countPart_61 (by decide) ?_
      refine lv_icmp_lt hx hb d_Rules_countPart_63 (tgt := 68) (by decide) (fun hc => ?_) (fun hc => ?_)
      · have hs := oi_t hc hs
        refine lv_iload_n hx hb d_Rules_countPart_68 rfl (lv_at hl 2 rfl) ?_
        refine lv_aload_n hx hb d_Rules_countPart_69 rfl (lv_at hl 0 rfl) ?_
        obtain ⟨v3, e4, hs⟩ := ob hs
        refine pg_getI C hw fl_Rules_25 e4 d_Rules_countPart_70 ?_
        refine lv_icmp_ne hx hb d_Rules_countPart_73 (tgt := 93) (by decide) (fun hc => ?_) (fun hc => ?_)
        · have hs := oi_f hc hs
          exact k_Rules_countPart_93 C hw (lv_sub hl [0, 1, 2] rfl) hs
        · have hs := oi_t hc hs
          refine lv_aload_n hx hb d_Rules_countPart_76 rfl (lv_at hl 0 rfl) ?_
          obtain ⟨v5, e6, hs⟩ := ob hs
          refine pg_getR C hw fl_Rules_18 e6 d_Rules_countPart_77 ?_
          refine lv_iload_n hx hb d_Rules_countPart_80 rfl (lv_at hl 2 rfl) ?_
          refine lv_iload_n hx hb d_Rules_countPart_81 rfl (lv_at hl 1 rfl) ?_
          obtain ⟨h7, e8, hs⟩ := ob hs
          refine pg_iastore C hw (t0 := 0) rfl e8 d_Rules_countPart_82 (fun H locs hw => ?_)
          refine lv_aload_n hx hb d_Rules_countPart_83 rfl (lv_at hl 0 rfl) ?_
          refine lv_dup hx hb d_Rules_countPart_84 rfl ?_
          obtain ⟨v9, e10, hs⟩ := ob hs
          refine pg_getI C hw fl_Rules_25 e10 d_Rules_countPart_85 ?_
          refine lv_iconst (v := 1) hx hb d_Rules_countPart_88 (by decide) ?_
          refine lv_iadd hx hb d_Rules_countPart_89 ?_
          obtain ⟨h11, e12, hs⟩ := ob hs
          refine pg_putI C hw pl_Rules_25 e12 d_Rules_countPart_90 (fun H locs hw => ?_)
          exact k_Rules_countPart_93 C hw (lv_sub hl [0, 1, 2] rfl) hs
      · have hs := oi_f hc hs
        refine lv_iconst (v := 0) hx hb d_Rules_countPart_66 (by decide) ?_
        obtain rfl := Option.some.inj hs
        exact pg_zret (v := 0) C hw rfl d_Rules_countPart_67

def s_Rules_countPart_2 : Nat → Nat → Int32 → Int32 → HP → Option (Int32 × HP)
  | 0 => fun _ _ _ _ => none
  | k + 1 => fun x0 x1 x2 h =>
  (gI h x0 7 8).bind fun v1 =>
  if v1 ≤ x2 then (
    s_Rules_countPart_50 x0 x1 x2 h)
  else (
    (gR h x0 7 0).bind fun v3 =>
    (gR h x0 7 0).bind fun v5 =>
    (gR h x0 7 6).bind fun v7 =>
    (aI h v7 0 x2).bind fun v9 =>
    (gR h x0 7 0).bind fun v11 =>
    (gR h x0 7 6).bind fun v13 =>
    (aI h v13 0 x2).bind fun v15 =>
    (kd v11 0).bind fun _ =>
    (s_Text_endOf v11 v15 h).bind fun q18 =>
    (kd v3 0).bind fun _ =>
    (s_Text_has v3 x1 v5 v9 q18 h).bind fun q21 =>
    if q21 = 0 then (
      (s_Rules_countPart_2 k) x0 x1 (x2 + 1) h)
    else (
      s_Rules_countPart_50 x0 x1 x2 h))
set_option maxHeartbeats 4000000 in
set_option maxRecDepth 100000 in
theorem k_Rules_countPart_2 {z : Int32 × HP} (C : CX g R_Rules b_Rules_countPart 3 (some .boolean) p s m args meth c) : ∀ (k : Nat) {x0 : Nat} {x1 : Int32} {x2 : Int32} {h : HP} {H : Heap} {locs : List Loc} {ls : Array Slot}, WD g h s.heap H locs → lv_has ls 3 [(0, .ref (aD g x0)), (1, .int x1), (2, .int x2)] → s_Rules_countPart_2 k x0 x1 x2 h = some z → W p l e (rmS 2 47) s m args below meth c H locs 0 0 (MQ below (Qq g (some (.int z.1)) z.2) args s 0 0 (inA g)) (F0 m 2 ls []) := by
  have hx := C.1
  have hb := C.2.1
  intro k
  induction k with
  | zero =>
    intro x0 x1 x2 h H locs ls hw hl hs
    exact (no_s hs).elim
  | succ k ih =>
    intro x0 x1 x2 h H locs ls hw hl hs
    rw [s_Rules_countPart_2] at hs
    refine lv_iload_n hx hb d_Rules_countPart_2 rfl (lv_at hl 2 rfl) ?_
    refine lv_aload_n hx hb d_Rules_countPart_3 rfl (lv_at hl 0 rfl) ?_
    obtain ⟨v1, e2, hs⟩ := ob hs
    refine pg_getI C hw fl_Rules_25 e2 d_Rules_countPart_4 ?_
    refine lv_icmp_ge hx hb d_Rules_countPart_7 (tgt := 50) (by decide) (fun hc => ?_) (fun hc => ?_)
    · have hs := oi_t hc hs
      exact k_Rules_countPart_50 C hw (lv_sub hl [0, 1, 2] rfl) hs
    · have hs := oi_f hc hs
      refine lv_aload_n hx hb d_Rules_countPart_10 rfl (lv_at hl 0 rfl) ?_
      obtain ⟨v3, e4, hs⟩ := ob hs
      refine pg_getR C hw fl_Rules_29 e4 d_Rules_countPart_11 ?_
      refine lv_iload_n hx hb d_Rules_countPart_14 rfl (lv_at hl 1 rfl) ?_
      refine lv_aload_n hx hb d_Rules_countPart_15 rfl (lv_at hl 0 rfl) ?_
      obtain ⟨v5, e6, hs⟩ := ob hs
      refine pg_getR C hw fl_Rules_29 e6 d_Rules_countPart_16 ?_
      refine lv_aload_n hx hb d_Rules_countPart_19 rfl (lv_at hl 0 rfl) ?_
      obtain ⟨v7, e8, hs⟩ := ob hs
      refine pg_getR C hw fl_Rules_18 e8 d_Rules_countPart_20 ?_
      refine lv_iload_n hx hb d_Rules_countPart_23 rfl (lv_at hl 2 rfl) ?_
      obtain ⟨v9, e10, hs⟩ := ob hs
      refine pg_iaload C hw (t0 := 0) rfl e10 d_Rules_countPart_24 ?_
      refine lv_aload_n hx hb d_Rules_countPart_25 rfl (lv_at hl 0 rfl) ?_
      obtain ⟨v11, e12, hs⟩ := ob hs
      refine pg_getR C hw fl_Rules_29 e12 d_Rules_countPart_26 ?_
      refine lv_aload_n hx hb d_Rules_countPart_29 rfl (lv_at hl 0 rfl) ?_
      obtain ⟨v13, e14, hs⟩ := ob hs
      refine pg_getR C hw fl_Rules_18 e14 d_Rules_countPart_30 ?_
      refine lv_iload_n hx hb d_Rules_countPart_33 rfl (lv_at hl 2 rfl) ?_
      obtain ⟨v15, e16, hs⟩ := ob hs
      refine pg_iaload C hw (t0 := 0) rfl e16 d_Rules_countPart_34 ?_
      obtain ⟨_, e17, hs⟩ := ob hs
      obtain ⟨q18, e19, hs⟩ := ob hs
      refine pg_callV C hw hl.1 ml_Rules_192 e17 (As := [.int v15]) (rest := [.int v9, .ref (aD g v5), .int x1, .ref (aD g v3)]) (c_Text_endOf l g e19) rfl (rm_ok (Nat.le_of_ble_eq_true rfl) (Nat.le_of_ble_eq_true rfl)) (Nat.le_of_ble_eq_true rfl) rfl (st1 := [.int q18, .int v9, .ref (aD g v5), .int x1, .ref (aD g v3)]) rfl d_Rules_countPart_35 (fun H locs hw => ?_)
      obtain ⟨_, e20, hs⟩ := ob hs
      obtain ⟨q21, e22, hs⟩ := ob hs
      refine pg_callV C hw hl.1 ml_Rules_153 e20 (As := [.int x1, .ref (aD g v5), .int v9, .int q18]) (rest := []) (c_Text_has l g e22) rfl (rm_ok (Nat.le_of_ble_eq_true rfl) (Nat.le_of_ble_eq_true rfl)) (Nat.le_of_ble_eq_true rfl) rfl (st1 := [.int q21]) rfl d_Rules_countPart_38 (fun H locs hw => ?_)
      refine lv_if_ne hx hb d_Rules_countPart_41 (tgt := 50) (by decide) (fun hc => ?_) (fun hc => ?_)
      · have hs := oi_f hc hs
        exact k_Rules_countPart_50 C hw (lv_sub hl [0, 1, 2] rfl) hs
      · have hs := oi_t hc hs
        refine lv_iinc hx hb d_Rules_countPart_44 hl (k := 2) rfl (v := (x2 + 1)) (iinc_e _ (by decide)) (by decide) (lv' := [(2, .int (x2 + 1)), (0, .ref (aD g x0)), (1, .int x1)]) rfl (fun ls hl => ?_)
        refine lv_goto hx hb d_Rules_countPart_47 (tgt := 2) (by decide) ?_
        exact ih hw (lv_sub hl [1, 2, 0] rfl) hs

def s_Rules_countPart (x0 : Nat) (x1 : Int32) (h : HP) : Option (Int32 × HP) :=
  s_Rules_countPart_2 20000 x0 x1 0 h
set_option maxHeartbeats 4000000 in
set_option maxRecDepth 100000 in
theorem c_Rules_countPart (l : Launch) (g : GG) {x0 : Nat} {x1 : Int32} {h : HP} {z : Int32 × HP} (hs : s_Rules_countPart x0 x1 h = some z) : Ct l g y_Rules_countPart w_Rules_countPart (rmS 2 47) [.ref (aD g x0), .int x1] h (some (.int z.1)) z.2 := by
  refine Ct.of (own := R_Rules) (by decide) rfl rfl (Nat.le_of_ble_eq_true rfl) ?_
  intro p e s m args below meth c ls C hl hw
  have hx := C.1
  have hb := C.2.1
  have hl : lv_has ls 3 [(0, .ref (aD g x0)), (1, .int x1)] := hl
  unfold s_Rules_countPart at hs
  refine lv_iconst (v := 0) hx hb d_Rules_countPart_0 (by decide) ?_
  refine lv_istore_n hx hb d_Rules_countPart_1 rfl hl (by decide) (lv' := [(2, .int 0), (0, .ref (aD g x0)), (1, .int x1)]) rfl (fun ls hl => ?_)
  exact k_Rules_countPart_2 C 20000 hw (lv_sub hl [1, 2, 0] rfl) hs

end
