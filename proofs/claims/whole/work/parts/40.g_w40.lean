section
variable {p : Program} {l : Launch} {e : Env} {s : State} {m : MethodId} {args : Array Value} {below : List Frame} {meth : Method} {c : Code} {g : GG}
theorem d_Replacement_termComes_0 : decode b_Replacement_termComes 0 = .ok (.aload_n 0, 1) := by decide +kernel
theorem d_Replacement_termComes_1 : decode b_Replacement_termComes 1 = .ok (.getfield 9, 3) := by decide +kernel
theorem d_Replacement_termComes_4 : decode b_Replacement_termComes 4 = .ok (.iload_n 1, 1) := by decide +kernel
theorem d_Replacement_termComes_5 : decode b_Replacement_termComes 5 = .ok (.iaload, 1) := by decide +kernel
theorem d_Replacement_termComes_6 : decode b_Replacement_termComes 6 = .ok (.bipush (-2), 2) := by decide +kernel
theorem d_Replacement_termComes_8 : decode b_Replacement_termComes 8 = .ok (.if_icmp .ne 13, 3) := by decide +kernel
theorem d_Replacement_termComes_11 : decode b_Replacement_termComes 11 = .ok (.aload_n 0, 1) := by decide +kernel
theorem d_Replacement_termComes_12 : decode b_Replacement_termComes 12 = .ok (.getfield 9, 3) := by decide +kernel
theorem d_Replacement_termComes_15 : decode b_Replacement_termComes 15 = .ok (.iload_n 1, 1) := by decide +kernel
theorem d_Replacement_termComes_16 : decode b_Replacement_termComes 16 = .ok (.aload_n 0, 1) := by decide +kernel
theorem d_Replacement_termComes_17 : decode b_Replacement_termComes 17 = .ok (.getfield 15, 3) := by decide +kernel
theorem d_Replacement_termComes_20 : decode b_Replacement_termComes 20 = .ok (.iastore, 1) := by decide +kernel
theorem d_Replacement_termComes_21 : decode b_Replacement_termComes 21 = .ok (.aload_n 0, 1) := by decide +kernel
theorem d_Replacement_termComes_22 : decode b_Replacement_termComes 22 = .ok (.getfield 9, 3) := by decide +kernel
theorem d_Replacement_termComes_25 : decode b_Replacement_termComes 25 = .ok (.iload_n 1, 1) := by decide +kernel
theorem d_Replacement_termComes_26 : decode b_Replacement_termComes 26 = .ok (.iaload, 1) := by decide +kernel
theorem d_Replacement_termComes_27 : decode b_Replacement_termComes 27 = .ok (.istore 4, 2) := by decide +kernel
theorem d_Replacement_termComes_29 : decode b_Replacement_termComes 29 = .ok (.aload_n 0, 1) := by decide +kernel
theorem d_Replacement_termComes_30 : decode b_Replacement_termComes 30 = .ok (.getfield 19, 3) := by decide +kernel
theorem d_Replacement_termComes_33 : decode b_Replacement_termComes 33 = .ok (.iload 4, 2) := by decide +kernel
theorem d_Replacement_termComes_35 : decode b_Replacement_termComes 35 = .ok (.invokevirtual 62, 3) := by decide +kernel
theorem d_Replacement_termComes_38 : decode b_Replacement_termComes 38 = .ok (.istore 5, 2) := by decide +kernel
theorem d_Replacement_termComes_40 : decode b_Replacement_termComes 40 = .ok (.aload_n 0, 1) := by decide +kernel
theorem d_Replacement_termComes_41 : decode b_Replacement_termComes 41 = .ok (.getfield 19, 3) := by decide +kernel
theorem d_Replacement_termComes_44 : decode b_Replacement_termComes 44 = .ok (.iload 4, 2) := by decide +kernel
theorem d_Replacement_termComes_46 : decode b_Replacement_termComes 46 = .ok (.iconst 1, 1) := by decide +kernel
theorem d_Replacement_termComes_47 : decode b_Replacement_termComes 47 = .ok (.invokevirtual 68, 3) := by decide +kernel
theorem d_Replacement_termComes_50 : decode b_Replacement_termComes 50 = .ok (.iload_n 3, 1) := by decide +kernel
theorem d_Replacement_termComes_51 : decode b_Replacement_termComes 51 = .ok (.iand, 1) := by decide +kernel
theorem d_Replacement_termComes_52 : decode b_Replacement_termComes 52 = .ok (.ifCond .ne 22, 3) := by decide +kernel
theorem d_Replacement_termComes_55 : decode b_Replacement_termComes 55 = .ok (.aload_n 2, 1) := by decide +kernel
theorem d_Replacement_termComes_56 : decode b_Replacement_termComes 56 = .ok (.aload_n 0, 1) := by decide +kernel
theorem d_Replacement_termComes_57 : decode b_Replacement_termComes 57 = .ok (.getfield 15, 3) := by decide +kernel
theorem d_Replacement_termComes_60 : decode b_Replacement_termComes 60 = .ok (.aload_n 0, 1) := by decide +kernel
theorem d_Replacement_termComes_61 : decode b_Replacement_termComes 61 = .ok (.getfield 19, 3) := by decide +kernel
theorem d_Replacement_termComes_64 : decode b_Replacement_termComes 64 = .ok (.iload 4, 2) := by decide +kernel
theorem d_Replacement_termComes_66 : decode b_Replacement_termComes 66 = .ok (.iload 5, 2) := by decide +kernel
theorem d_Replacement_termComes_68 : decode b_Replacement_termComes 68 = .ok (.invokevirtual 58, 3) := by decide +kernel
theorem d_Replacement_termComes_71 : decode b_Replacement_termComes 71 = .ok (.ifCond .ne 5, 3) := by decide +kernel
theorem d_Replacement_termComes_74 : decode b_Replacement_termComes 74 = .ok (.iconst 0, 1) := by decide +kernel
theorem d_Replacement_termComes_75 : decode b_Replacement_termComes 75 = .ok (.ireturn, 1) := by decide +kernel
theorem d_Replacement_termComes_76 : decode b_Replacement_termComes 76 = .ok (.aload_n 0, 1) := by decide +kernel
theorem d_Replacement_termComes_77 : decode b_Replacement_termComes 77 = .ok (.dup, 1) := by decide +kernel
theorem d_Replacement_termComes_78 : decode b_Replacement_termComes 78 = .ok (.getfield 15, 3) := by decide +kernel
theorem d_Replacement_termComes_81 : decode b_Replacement_termComes 81 = .ok (.iload 5, 2) := by decide +kernel
theorem d_Replacement_termComes_83 : decode b_Replacement_termComes 83 = .ok (.iload 4, 2) := by decide +kernel
theorem d_Replacement_termComes_85 : decode b_Replacement_termComes 85 = .ok (.isub, 1) := by decide +kernel
theorem d_Replacement_termComes_86 : decode b_Replacement_termComes 86 = .ok (.iadd, 1) := by decide +kernel
theorem d_Replacement_termComes_87 : decode b_Replacement_termComes 87 = .ok (.putfield 15, 3) := by decide +kernel
theorem d_Replacement_termComes_90 : decode b_Replacement_termComes 90 = .ok (.iconst 1, 1) := by decide +kernel
theorem d_Replacement_termComes_91 : decode b_Replacement_termComes 91 = .ok (.ireturn, 1) := by decide +kernel
def s_Replacement_termComes_21 (x0 : Nat) (x1 : Int32) (x2 : Nat) (x3 : Int32) (h : HP) : Option (Int32 × HP) :=
  (gR h x0 5 0).bind fun v1 =>
  (aI h v1 0 x1).bind fun v3 =>
  (gR h x0 5 1).bind fun v5 =>
  (kd v5 0).bind fun _ =>
  (s_Text_endOf v5 v3 h).bind fun q8 =>
  (gR h x0 5 1).bind fun v10 =>
  (kd v10 0).bind fun _ =>
  ((s_grp_Text_freeIn 13) v10 v3 1 h).bind fun q13 =>
  if (q13 &&& x3) = 0 then (
    (gI h x0 5 2).bind fun v16 =>
    (gR h x0 5 1).bind fun v18 =>
    (kd x2 0).bind fun _ =>
    (s_Text_has x2 v16 v18 v3 q8 h).bind fun q21 =>
    if q21 = 0 then (
      some (0, h))
    else (
      (gI h x0 5 2).bind fun v23 =>
      (pI h x0 5 2 (v23 + (q8 - v3))).bind fun h25 =>
      some (1, h25)))
  else (
    some (0, h))
set_option maxHeartbeats 4000000 in
set_option maxRecDepth 100000 in
theorem k_Replacement_termComes_21 {x0 : Nat} {x1 : Int32} {x2 : Nat} {x3 : Int32} {h : HP} {z : Int32 × HP} (C : CX g R_Replacement b_Replacement_termComes 6 (some .boolean) p s m args meth c) {H : Heap} {locs : List Loc} {ls : Array Slot} (hw : WD g h s.heap H locs) (hl : lv_has ls 6 [(0, .ref (aD g x0)), (1, .int x1), (2, .ref (aD g x2)), (3, .int x3)]) (hs : s_Replacement_termComes_21 x0 x1 x2 x3 h = some z) : W p l e (rmS 16 434) s m args below meth c H locs 0 0 (MQ below (Qq g (some (.int z.1)) z.2) args s 0 0 (inA g)) (F0 m 21 ls []) := by
  unfold s_Replacement_termComes_21 at hs
  have hx := C.1
  have hb := C.2.1
  refine lv_aload_n hx hb d_Replacement_termComes_21 rfl (lv_at hl 0 rfl) ?_
  obtain ⟨v1, e2, hs⟩ := ob hs
  refine pg_getR C hw fl_Replacement_9 e2 d_Replacement_termComes_22 ?_
  refine lv_iload_n hx hb d_Replacement_termComes_25 rfl (lv_at hl 1 rfl) ?_
  obtain ⟨v3, e4, hs⟩ := ob hs
  refine pg_iaload C hw (t0 := 0) rfl e4 d_Replacement_termComes_26 ?_
  refine lv_istore hx hb d_Replacement_termComes_27 hl (by decide) (lv' := [(4, .int v3), (0, .ref (aD g x0)), (1, .int x1), (2, .ref (aD g x2)), (3, .int x3)]) rfl (fun ls hl => ?_)
  refine lv_aload_n hx hb d_Replacement_termComes_29 rfl (lv_at hl 1 rfl) ?_
  obtain ⟨v5, e6, hs⟩ := ob hs
  refine pg_getR C hw fl_Replacement_19 e6 d_Replacement_termComes_30 ?_
  refine lv_iload hx hb d_Replacement_termComes_33 (lv_at hl 0 rfl) ?_
  obtain ⟨_, e7, hs⟩ := ob hs
  obtain ⟨q8, e9, hs⟩ := ob hs
  refine pg_callV C hw hl.1 ml_Replacement_62 e7 (As := [.int v3]) (rest := []) (c_Text_endOf l g e9) rfl (rm_ok (Nat.le_of_ble_eq_true rfl) (Nat.le_of_ble_eq_true rfl)) (Nat.le_of_ble_eq_true rfl) rfl (st1 := [.int q8]) rfl d_Replacement_termComes_35 (fun H locs hw => ?_)
  refine lv_istore hx hb d_Replacement_termComes_38 hl (by decide) (lv' := [(5, .int q8), (4, .int v3), (0, .ref (aD g x0)), (1, .int x1), (2, .ref (aD g x2)), (3, .int x3)]) rfl (fun ls hl => ?_)
  refine lv_aload_n hx hb d_Replacement_termComes_40 rfl (lv_at hl 2 rfl) ?_
  obtain ⟨v10, e11, hs⟩ := ob hs
  refine pg_getR C hw fl_Replacement_19 e11 d_Replacement_termComes_41 ?_
  refine lv_iload hx hb d_Replacement_termComes_44 (lv_at hl 1 rfl) ?_
  refine lv_iconst (v := 1) hx hb d_Replacement_termComes_46 (by decide) ?_
  obtain ⟨_, e12, hs⟩ := ob hs
  obtain ⟨q13, e14, hs⟩ := ob hs
  refine pg_callV C hw hl.1 ml_Replacement_68 e12 (As := [.int v3, .int 1]) (rest := []) ((cg_Text_freeIn l g 13) e14) rfl (rm_ok (Nat.le_of_ble_eq_true rfl) (Nat.le_of_ble_eq_true rfl)) (Nat.le_of_ble_eq_true rfl) rfl (st1 := [.int q13]) rfl d_Replacement_termComes_47 (fun H locs hw => ?_)
  refine lv_iload_n hx hb d_Replacement_termComes_50 rfl (lv_at hl 5 rfl) ?_
  refine lv_iand hx hb d_Replacement_termComes_51 ?_
  refine lv_if_ne hx hb d_Replacement_termComes_52 (tgt := 74) (by decide) (fun hc => ?_) (fun hc => ?_)
  · have hs := oi_f hc hs
    refine lv_iconst (v := 0) hx hb d_Replacement_termComes_74 (by decide) ?_
    obtain rfl := Option.some.inj hs
    exact pg_zret (v := 0) C hw rfl d_Replacement_termComes_75
  · have hs := oi_t hc hs
    refine lv_aload_n hx hb d_Replacement_termComes_55 rfl (lv_at hl 4 rfl) ?_
    refine lv_aload_n hx hb d_Replacement_termComes_56 rfl (lv_at hl 2 rfl) ?_
    obtain ⟨v16, e17, hs⟩ := ob hs
    refine pg_getI C hw fl_Replacement_15 e17 d_Replacement_termComes_57 ?_
    refine lv_aload_n hx hb d_Replacement_termComes_60 rfl (lv_at hl 2 rfl) ?_
    obtain ⟨v18, e19, hs⟩ := ob hs
    refine pg_getR C hw fl_Replacement_19 e19 d_Replacement_termComes_61 ?_
    refine lv_iload hx hb d_Replacement_termComes_64 (lv_at hl 1 rfl) ?_
    refine lv_iload hx hb d_Replacement_termComes_66 (lv_at hl 0 rfl) ?_
    obtain ⟨_, e20, hs⟩ := ob hs
    obtain ⟨q21, e22, hs⟩ := ob hs
    refine pg_callV C hw hl.1 ml_Replacement_58 e20 (As := [.int v16, .ref (aD g v18), .int v3, .int q8]) (rest := []) (c_Text_has l g e22) rfl (rm_ok (Nat.le_of_ble_eq_true rfl) (Nat.le_of_ble_eq_true rfl)) (Nat.le_of_ble_eq_true rfl) rfl (st1 := [.int q21]) rfl d_Replacement_termComes_68 (fun H locs hw => ?_)
    refine lv_if_ne hx hb d_Replacement_termComes_71 (tgt := 76) (by decide) (fun hc => ?_) (fun hc => ?_)
    · have hs := oi_f hc hs
      refine lv_aload_n hx hb d_Replacement_termComes_76 rfl (lv_at hl 2 rfl) ?_
      refine lv_dup hx hb d_Replacement_termComes_77 rfl ?_
      obtain ⟨v23, e24, hs⟩ := ob hs
      refine pg_getI C hw fl_Replacement_15 e24 d_Replacement_termComes_78 ?_
      refine lv_iload hx hb d_Replacement_termComes_81 (lv_at hl 0 rfl) ?_
      refine lv_iload hx hb d_Replacement_termComes_83 (lv_at hl 1 rfl) ?_
      refine lv_isub hx hb d_Replacement_termComes_85 ?_
      refine lv_iadd hx hb d_Replacement_termComes_86 ?_
      obtain ⟨h25, e26, hs⟩ := ob hs
      refine pg_putI C hw pl_Replacement_15 e26 d_Replacement_termComes_87 (fun H locs hw => ?_)
      refine lv_iconst (v := 1) hx hb d_Replacement_termComes_90 (by decide) ?_
      obtain rfl := Option.some.inj hs
      exact pg_zret (v := 1) C hw rfl d_Replacement_termComes_91
    · have hs := oi_t hc hs
      refine lv_iconst (v := 0) hx hb d_Replacement_termComes_74 (by decide) ?_
      obtain rfl := Option.some.inj hs
      exact pg_zret (v := 0) C hw rfl d_Replacement_termComes_75

def s_Replacement_termComes (x0 : Nat) (x1 : Int32) (x2 : Nat) (x3 : Int32) (h : HP) : Option (Int32 × HP) :=
  (gR h x0 5 0).bind fun v1 =>
  (aI h v1 0 x1).bind fun v3 =>
  if v3 = (-2) then (
    (gR h x0 5 0).bind fun v5 =>
    (gI h x0 5 2).bind fun v7 =>
    (uI h v5 0 x1 v7).bind fun h9 =>
    s_Replacement_termComes_21 x0 x1 x2 x3 h9)
  else (
    s_Replacement_termComes_21 x0 x1 x2 x3 h)
set_option maxHeartbeats 4000000 in
set_option maxRecDepth 100000 in
theorem c_Replacement_termComes (l : Launch) (g : GG) {x0 : Nat} {x1 : Int32} {x2 : Nat} {x3 : Int32} {h : HP} {z : Int32 × HP} (hs : s_Replacement_termComes x0 x1 x2 x3 h = some z) : Ct l g y_Replacement_termComes w_Replacement_termComes (rmS 16 434) [.ref (aD g x0), .int x1, .ref (aD g x2), .int x3] h (some (.int z.1)) z.2 := by
  refine Ct.of (own := R_Replacement) (by decide) rfl rfl (Nat.le_of_ble_eq_true rfl) ?_
  intro p e s m args below meth c ls C hl hw
  have hx := C.1
  have hb := C.2.1
  have hl : lv_has ls 6 [(0, .ref (aD g x0)), (1, .int x1), (2, .ref (aD g x2)), (3, .int x3)] := hl
  unfold s_Replacement_termComes at hs
  refine lv_aload_n hx hb d_Replacement_termComes_0 rfl (lv_at hl 0 rfl) ?_
  obtain ⟨v1, e2, hs⟩ := ob hs
  refine pg_getR C hw fl_Replacement_9 e2 d_Replacement_termComes_1 ?_
  refine lv_iload_n hx hb d_Replacement_termComes_4 rfl (lv_at hl 1 rfl) ?_
  obtain ⟨v3, e4, hs⟩ := ob hs
  refine pg_iaload C hw (t0 := 0) rfl e4 d_Replacement_termComes_5 ?_
  refine lv_bipush (v := (-2)) hx hb d_Replacement_termComes_6 (by decide) ?_
  refine lv_icmp_ne hx hb d_Replacement_termComes_8 (tgt := 21) (by decide) (fun hc => ?_) (fun hc => ?_)
  · have hs := oi_f hc hs
    exact k_Replacement_termComes_21 C hw (lv_sub hl [0, 1, 2, 3] rfl) hs
  · have hs := oi_t hc hs
    refine lv_aload_n hx hb d_Replacement_termComes_11 rfl (lv_at hl 0 rfl) ?_
    obtain ⟨v5, e6, hs⟩ := ob hs
    refine pg_getR C hw fl_Replacement_9 e6 d_Replacement_termComes_12 ?_
    refine lv_iload_n hx hb d_Replacement_termComes_15 rfl (lv_at hl 1 rfl) ?_
    refine lv_aload_n hx hb d_Replacement_termComes_16 rfl (lv_at hl 0 rfl) ?_
    obtain ⟨v7, e8, hs⟩ := ob hs
    refine pg_getI C hw fl_Replacement_15 e8 d_Replacement_termComes_17 ?_
    obtain ⟨h9, e10, hs⟩ := ob hs
    refine pg_iastore C hw (t0 := 0) rfl e10 d_Replacement_termComes_20 (fun H locs hw => ?_)
    exact k_Replacement_termComes_21 C hw (lv_sub hl [0, 1, 2, 3] rfl) hs

end
section
variable {p : Program} {l : Launch} {e : Env} {s : State} {m : MethodId} {args : Array Value} {below : List Frame} {meth : Method} {c : Code} {g : GG}
theorem d_Replacement_goesOn_0 : decode b_Replacement_goesOn 0 = .ok (.iload 5, 2) := by decide +kernel
theorem d_Replacement_goesOn_2 : decode b_Replacement_goesOn 2 = .ok (.bipush 12, 2) := by decide +kernel
theorem d_Replacement_goesOn_4 : decode b_Replacement_goesOn 4 = .ok (.if_icmp .le 5, 3) := by decide +kernel
theorem d_Replacement_goesOn_7 : decode b_Replacement_goesOn 7 = .ok (.iconst 0, 1) := by decide +kernel
theorem d_Replacement_goesOn_8 : decode b_Replacement_goesOn 8 = .ok (.ireturn, 1) := by decide +kernel
theorem d_Replacement_goesOn_9 : decode b_Replacement_goesOn 9 = .ok (.aload_n 1, 1) := by decide +kernel
theorem d_Replacement_goesOn_10 : decode b_Replacement_goesOn 10 = .ok (.iload_n 2, 1) := by decide +kernel
theorem d_Replacement_goesOn_11 : decode b_Replacement_goesOn 11 = .ok (.invokevirtual 41, 3) := by decide +kernel
theorem d_Replacement_goesOn_14 : decode b_Replacement_goesOn 14 = .ok (.istore 6, 2) := by decide +kernel
theorem d_Replacement_goesOn_16 : decode b_Replacement_goesOn 16 = .ok (.iload 6, 2) := by decide +kernel
theorem d_Replacement_goesOn_18 : decode b_Replacement_goesOn 18 = .ok (.invokestatic 47, 3) := by decide +kernel
theorem d_Replacement_goesOn_21 : decode b_Replacement_goesOn 21 = .ok (.ifCond .eq 43, 3) := by decide +kernel
theorem d_Replacement_goesOn_24 : decode b_Replacement_goesOn 24 = .ok (.iload 4, 2) := by decide +kernel
theorem d_Replacement_goesOn_26 : decode b_Replacement_goesOn 26 = .ok (.iload 6, 2) := by decide +kernel
theorem d_Replacement_goesOn_28 : decode b_Replacement_goesOn 28 = .ok (.bipush 97, 2) := by decide +kernel
theorem d_Replacement_goesOn_30 : decode b_Replacement_goesOn 30 = .ok (.isub, 1) := by decide +kernel
theorem d_Replacement_goesOn_31 : decode b_Replacement_goesOn 31 = .ok (.ishr, 1) := by decide +kernel
theorem d_Replacement_goesOn_32 : decode b_Replacement_goesOn 32 = .ok (.iconst 1, 1) := by decide +kernel
theorem d_Replacement_goesOn_33 : decode b_Replacement_goesOn 33 = .ok (.iand, 1) := by decide +kernel
theorem d_Replacement_goesOn_34 : decode b_Replacement_goesOn 34 = .ok (.ifCond .ne 30, 3) := by decide +kernel
theorem d_Replacement_goesOn_37 : decode b_Replacement_goesOn 37 = .ok (.aload_n 0, 1) := by decide +kernel
theorem d_Replacement_goesOn_38 : decode b_Replacement_goesOn 38 = .ok (.getfield 9, 3) := by decide +kernel
theorem d_Replacement_goesOn_41 : decode b_Replacement_goesOn 41 = .ok (.iload 6, 2) := by decide +kernel
theorem d_Replacement_goesOn_43 : decode b_Replacement_goesOn 43 = .ok (.bipush 97, 2) := by decide +kernel
theorem d_Replacement_goesOn_45 : decode b_Replacement_goesOn 45 = .ok (.isub, 1) := by decide +kernel
theorem d_Replacement_goesOn_46 : decode b_Replacement_goesOn 46 = .ok (.iaload, 1) := by decide +kernel
theorem d_Replacement_goesOn_47 : decode b_Replacement_goesOn 47 = .ok (.iconst (-1), 1) := by decide +kernel
theorem d_Replacement_goesOn_48 : decode b_Replacement_goesOn 48 = .ok (.if_icmp .eq 16, 3) := by decide +kernel
theorem d_Replacement_goesOn_51 : decode b_Replacement_goesOn 51 = .ok (.aload_n 0, 1) := by decide +kernel
theorem d_Replacement_goesOn_52 : decode b_Replacement_goesOn 52 = .ok (.iload 6, 2) := by decide +kernel
theorem d_Replacement_goesOn_54 : decode b_Replacement_goesOn 54 = .ok (.bipush 97, 2) := by decide +kernel
theorem d_Replacement_goesOn_56 : decode b_Replacement_goesOn 56 = .ok (.isub, 1) := by decide +kernel
theorem d_Replacement_goesOn_57 : decode b_Replacement_goesOn 57 = .ok (.aload_n 3, 1) := by decide +kernel
theorem d_Replacement_goesOn_58 : decode b_Replacement_goesOn 58 = .ok (.iload 4, 2) := by decide +kernel
theorem d_Replacement_goesOn_60 : decode b_Replacement_goesOn 60 = .ok (.invokevirtual 51, 3) := by decide +kernel
theorem d_Replacement_goesOn_63 : decode b_Replacement_goesOn 63 = .ok (.ireturn, 1) := by decide +kernel
theorem d_Replacement_goesOn_64 : decode b_Replacement_goesOn 64 = .ok (.aload_n 1, 1) := by decide +kernel
theorem d_Replacement_goesOn_65 : decode b_Replacement_goesOn 65 = .ok (.iload_n 2, 1) := by decide +kernel
theorem d_Replacement_goesOn_66 : decode b_Replacement_goesOn 66 = .ok (.invokevirtual 55, 3) := by decide +kernel
theorem d_Replacement_goesOn_69 : decode b_Replacement_goesOn 69 = .ok (.istore 7, 2) := by decide +kernel
theorem d_Replacement_goesOn_71 : decode b_Replacement_goesOn 71 = .ok (.aload_n 3, 1) := by decide +kernel
theorem d_Replacement_goesOn_72 : decode b_Replacement_goesOn 72 = .ok (.aload_n 0, 1) := by decide +kernel
theorem d_Replacement_goesOn_73 : decode b_Replacement_goesOn 73 = .ok (.getfield 15, 3) := by decide +kernel
theorem d_Replacement_goesOn_76 : decode b_Replacement_goesOn 76 = .ok (.aload_n 1, 1) := by decide +kernel
theorem d_Replacement_goesOn_77 : decode b_Replacement_goesOn 77 = .ok (.iload_n 2, 1) := by decide +kernel
theorem d_Replacement_goesOn_78 : decode b_Replacement_goesOn 78 = .ok (.iload 7, 2) := by decide +kernel
theorem d_Replacement_goesOn_80 : decode b_Replacement_goesOn 80 = .ok (.invokevirtual 58, 3) := by decide +kernel
theorem d_Replacement_goesOn_83 : decode b_Replacement_goesOn 83 = .ok (.ifCond .ne 5, 3) := by decide +kernel
theorem d_Replacement_goesOn_86 : decode b_Replacement_goesOn 86 = .ok (.iconst 0, 1) := by decide +kernel
theorem d_Replacement_goesOn_87 : decode b_Replacement_goesOn 87 = .ok (.ireturn, 1) := by decide +kernel
theorem d_Replacement_goesOn_88 : decode b_Replacement_goesOn 88 = .ok (.aload_n 0, 1) := by decide +kernel
theorem d_Replacement_goesOn_89 : decode b_Replacement_goesOn 89 = .ok (.dup, 1) := by decide +kernel
theorem d_Replacement_goesOn_90 : decode b_Replacement_goesOn 90 = .ok (.getfield 15, 3) := by decide +kernel
theorem d_Replacement_goesOn_93 : decode b_Replacement_goesOn 93 = .ok (.iload 7, 2) := by decide +kernel
theorem d_Replacement_goesOn_95 : decode b_Replacement_goesOn 95 = .ok (.iload_n 2, 1) := by decide +kernel
theorem d_Replacement_goesOn_96 : decode b_Replacement_goesOn 96 = .ok (.isub, 1) := by decide +kernel
theorem d_Replacement_goesOn_97 : decode b_Replacement_goesOn 97 = .ok (.iadd, 1) := by decide +kernel
theorem d_Replacement_goesOn_98 : decode b_Replacement_goesOn 98 = .ok (.putfield 15, 3) := by decide +kernel
theorem d_Replacement_goesOn_101 : decode b_Replacement_goesOn 101 = .ok (.aload_n 1, 1) := by decide +kernel
theorem d_Replacement_goesOn_102 : decode b_Replacement_goesOn 102 = .ok (.iload_n 2, 1) := by decide +kernel
theorem d_Replacement_goesOn_103 : decode b_Replacement_goesOn 103 = .ok (.invokevirtual 62, 3) := by decide +kernel
theorem d_Replacement_goesOn_106 : decode b_Replacement_goesOn 106 = .ok (.istore 8, 2) := by decide +kernel
theorem d_Replacement_goesOn_108 : decode b_Replacement_goesOn 108 = .ok (.iconst 0, 1) := by decide +kernel
theorem d_Replacement_goesOn_109 : decode b_Replacement_goesOn 109 = .ok (.istore 9, 2) := by decide +kernel
theorem d_Replacement_goesOn_111 : decode b_Replacement_goesOn 111 = .ok (.iload 9, 2) := by decide +kernel
theorem d_Replacement_goesOn_113 : decode b_Replacement_goesOn 113 = .ok (.iconst 3, 1) := by decide +kernel
theorem d_Replacement_goesOn_114 : decode b_Replacement_goesOn 114 = .ok (.if_icmp .ge 64, 3) := by decide +kernel
theorem d_Replacement_goesOn_117 : decode b_Replacement_goesOn 117 = .ok (.iload 7, 2) := by decide +kernel
theorem d_Replacement_goesOn_119 : decode b_Replacement_goesOn 119 = .ok (.iload 8, 2) := by decide +kernel
theorem d_Replacement_goesOn_121 : decode b_Replacement_goesOn 121 = .ok (.if_icmp .ge 57, 3) := by decide +kernel
theorem d_Replacement_goesOn_124 : decode b_Replacement_goesOn 124 = .ok (.iload 9, 2) := by decide +kernel
theorem d_Replacement_goesOn_126 : decode b_Replacement_goesOn 126 = .ok (.iconst 1, 1) := by decide +kernel
theorem d_Replacement_goesOn_127 : decode b_Replacement_goesOn 127 = .ok (.if_icmp .ne 14, 3) := by decide +kernel
theorem d_Replacement_goesOn_130 : decode b_Replacement_goesOn 130 = .ok (.iload 4, 2) := by decide +kernel
theorem d_Replacement_goesOn_132 : decode b_Replacement_goesOn 132 = .ok (.aload_n 1, 1) := by decide +kernel
theorem d_Replacement_goesOn_133 : decode b_Replacement_goesOn 133 = .ok (.iload_n 2, 1) := by decide +kernel
theorem d_Replacement_goesOn_134 : decode b_Replacement_goesOn 134 = .ok (.invokevirtual 65, 3) := by decide +kernel
theorem d_Replacement_goesOn_137 : decode b_Replacement_goesOn 137 = .ok (.ior, 1) := by decide +kernel
theorem d_Replacement_goesOn_138 : decode b_Replacement_goesOn 138 = .ok (.goto 5, 3) := by decide +kernel
theorem d_Replacement_goesOn_141 : decode b_Replacement_goesOn 141 = .ok (.iload 4, 2) := by decide +kernel
theorem d_Replacement_goesOn_143 : decode b_Replacement_goesOn 143 = .ok (.istore 10, 2) := by decide +kernel
theorem d_Replacement_goesOn_145 : decode b_Replacement_goesOn 145 = .ok (.aload_n 0, 1) := by decide +kernel
theorem d_Replacement_goesOn_146 : decode b_Replacement_goesOn 146 = .ok (.aload_n 1, 1) := by decide +kernel
theorem d_Replacement_goesOn_147 : decode b_Replacement_goesOn 147 = .ok (.iload 7, 2) := by decide +kernel
theorem d_Replacement_goesOn_149 : decode b_Replacement_goesOn 149 = .ok (.aload_n 3, 1) := by decide +kernel
theorem d_Replacement_goesOn_150 : decode b_Replacement_goesOn 150 = .ok (.iload 10, 2) := by decide +kernel
theorem d_Replacement_goesOn_152 : decode b_Replacement_goesOn 152 = .ok (.iload 5, 2) := by decide +kernel
theorem d_Replacement_goesOn_154 : decode b_Replacement_goesOn 154 = .ok (.iconst 1, 1) := by decide +kernel
theorem d_Replacement_goesOn_155 : decode b_Replacement_goesOn 155 = .ok (.iadd, 1) := by decide +kernel
theorem d_Replacement_goesOn_156 : decode b_Replacement_goesOn 156 = .ok (.invokevirtual 37, 3) := by decide +kernel
theorem d_Replacement_goesOn_159 : decode b_Replacement_goesOn 159 = .ok (.ifCond .ne 5, 3) := by decide +kernel
theorem d_Replacement_goesOn_162 : decode b_Replacement_goesOn 162 = .ok (.iconst 0, 1) := by decide +kernel
theorem d_Replacement_goesOn_163 : decode b_Replacement_goesOn 163 = .ok (.ireturn, 1) := by decide +kernel
theorem d_Replacement_goesOn_164 : decode b_Replacement_goesOn 164 = .ok (.aload_n 1, 1) := by decide +kernel
theorem d_Replacement_goesOn_165 : decode b_Replacement_goesOn 165 = .ok (.iload 7, 2) := by decide +kernel
theorem d_Replacement_goesOn_167 : decode b_Replacement_goesOn 167 = .ok (.invokevirtual 62, 3) := by decide +kernel
theorem d_Replacement_goesOn_170 : decode b_Replacement_goesOn 170 = .ok (.istore 7, 2) := by decide +kernel
theorem d_Replacement_goesOn_172 : decode b_Replacement_goesOn 172 = .ok (.iinc 9 1, 3) := by decide +kernel
theorem d_Replacement_goesOn_175 : decode b_Replacement_goesOn 175 = .ok (.goto (-64), 3) := by decide +kernel
theorem d_Replacement_goesOn_178 : decode b_Replacement_goesOn 178 = .ok (.iconst 1, 1) := by decide +kernel
theorem d_Replacement_goesOn_179 : decode b_Replacement_goesOn 179 = .ok (.ireturn, 1) := by decide +kernel
abbrev GT_Replacement_goesOn : Type := (Nat → Nat → Int32 → Nat → Int32 → Int32 → HP → Option (Int32 × HP))
abbrev HG_Replacement_goesOn (l : Launch) (g : GG) (gf : GT_Replacement_goesOn) (n : Nat) : Prop :=
  (∀ {h : HP} {x0 : Nat} {x1 : Nat} {x2 : Int32} {x3 : Nat} {x4 : Int32} {x5 : Int32} {z : Int32 × HP}, gf x0 x1 x2 x3 x4 x5 h = some z → Ct l g y_Replacement_goesOn w_Replacement_goesOn (rmS (n + 17) (n * 30 + 459)) [.ref (aD g x0), .ref (aD g x1), .int x2, .ref (aD g x3), .int x4, .int x5] h (some (.int z.1)) z.2)
def s_Replacement_goesOn_143 (gf : GT_Replacement_goesOn) (c111 : Nat → Nat → Int32 → Nat → Int32 → Int32 → Int32 → Int32 → Int32 → HP → Option (Int32 × HP)) (x0 : Nat) (x1 : Nat) (x2 : Int32) (x3 : Nat) (x4 : Int32) (x5 : Int32) (x7 : Int32) (x8 : Int32) (x9 : Int32) (t0 : Int32) (h : HP) : Option (Int32 × HP) :=
  (kd x0 5).bind fun _ =>
  (gf x0 x1 x7 x3 t0 (x5 + 1) h).bind fun q2 =>
  if q2.1 = 0 then (
    some (0, q2.2))
  else (
    (kd x1 0).bind fun _ =>
    (s_Text_endOf x1 x7 q2.2).bind fun q5 =>
    c111 x0 x1 x2 x3 x4 x5 q5 x8 (x9 + 1) q2.2)
set_option maxHeartbeats 4000000 in
set_option maxRecDepth 100000 in
theorem k_Replacement_goesOn_143 {x0 : Nat} {x1 : Nat} {x2 : Int32} {x3 : Nat} {x4 : Int32} {x5 : Int32} {x7 : Int32} {x8 : Int32} {x9 : Int32} {t0 : Int32} {h : HP} {z : Int32 × HP} (C : CX g R_Replacement b_Replacement_goesOn 11 (some .boolean) p s m args meth c) (gf : GT_Replacement_goesOn) (n : Nat) (hG : HG_Replacement_goesOn l g gf n) (c111 : Nat → Nat → Int32 → Nat → Int32 → Int32 → Int32 → Int32 → Int32 → HP → Option (Int32 × HP))
    (hc111 : ∀ {x0 : Nat} {x1 : Nat} {x2 : Int32} {x3 : Nat} {x4 : Int32} {x5 : Int32} {x7 : Int32} {x8 : Int32} {x9 : Int32} {h : HP} {H : Heap} {locs : List Loc} {ls : Array Slot}, WD g h s.heap H locs → lv_has ls 11 [(0, .ref (aD g x0)), (1, .ref (aD g x1)), (2, .int x2), (3, .ref (aD g x3)), (4, .int x4), (5, .int x5), (7, .int x7), (8, .int x8), (9, .int x9)] → c111 x0 x1 x2 x3 x4 x5 x7 x8 x9 h = some z → W p l e (rmS (n + 1 + 17) ((n + 1) * 30 + 459)) s m args below meth c H locs 0 0 (MQ below (Qq g (some (.int z.1)) z.2) args s 0 0 (inA g)) (F0 m 111 ls [])) {H : Heap} {locs : List Loc} {ls : Array Slot} (hw : WD g h s.heap H locs) (hl : lv_has ls 11 [(0, .ref (aD g x0)), (1, .ref (aD g x1)), (2, .int x2), (3, .ref (aD g x3)), (4, .int x4), (5, .int x5), (7, .int x7), (8, .int x8), (9, .int x9)]) (hs : s_Replacement_goesOn_143 gf c111 x0 x1 x2 x3 x4 x5 x7 x8 x9 t0 h = some z) : W p l e (rmS (n + 1 + 17) ((n + 1) * 30 + 459)) s m args below meth c H locs 0 0 (MQ below (Qq g (some (.int z.1)) z.2) args s 0 0 (inA g)) (F0 m 143 ls [.int t0]) := by
  unfold s_Replacement_goesOn_143 at hs
  have hx := C.1
  have hb := C.2.1
  refine lv_istore hx hb d_Replacement_goesOn_143 hl (by decide) (lv' := [(10, .int t0), (0, .ref (aD g x0)), (1, .ref (aD g x1)), (2, .int x2), (3, .ref (aD g x3)), (4, .int x4), (5, .int x5), (7, .int x7), (8, .int x8), (9, .int x9)]) rfl (fun ls hl => ?_)
  refine lv_aload_n hx hb d_Replacement_goesOn_145 rfl (lv_at hl 1 rfl) ?_
  refine lv_aload_n hx hb d_Replacement_goesOn_146 rfl (lv_at hl 2 rfl) ?_
  refine lv_iload hx hb d_Replacement_goesOn_147 (lv_at hl 7 rfl) ?_
  refine lv_aload_n hx hb d_Replacement_goesOn_149 rfl (lv_at hl 4 rfl) ?_
  refine lv_iload hx hb d_Replacement_goesOn_150 (lv_at hl 0 rfl) ?_
  refine lv_iload hx hb d_Replacement_goesOn_152 (lv_at hl 6 rfl) ?_
  refine lv_iconst (v := 1) hx hb d_Replacement_goesOn_154 (by decide) ?_
  refine lv_iadd hx hb d_Replacement_goesOn_155 ?_
  obtain ⟨_, e1, hs⟩ := ob hs
  obtain ⟨q2, e3, hs⟩ := ob hs
  refine pg_callV C hw hl.1 ml_Replacement_37 e1 (As := [.ref (aD g x1), .int x7, .ref (aD g x3), .int t0, .int (x5 + 1)]) (rest := []) (hG e3) rfl (rm_ok (by omega) (by omega)) (Nat.le_of_ble_eq_true rfl) rfl (st1 := [.int q2.1]) rfl d_Replacement_goesOn_156 (fun H locs hw => ?_)
  refine lv_if_ne hx hb d_Replacement_goesOn_159 (tgt := 164) (by decide) (fun hc => ?_) (fun hc => ?_)
  · have hs := oi_f hc hs
    refine lv_aload_n hx hb d_Replacement_goesOn_164 rfl (lv_at hl 2 rfl) ?_
    refine lv_iload hx hb d_Replacement_goesOn_165 (lv_at hl 7 rfl) ?_
    obtain ⟨_, e4, hs⟩ := ob hs
    obtain ⟨q5, e6, hs⟩ := ob hs
    refine pg_callV C hw hl.1 ml_Replacement_62 e4 (As := [.int x7]) (rest := []) (c_Text_endOf l g e6) rfl (rm_ok (by omega) (by omega)) (Nat.le_of_ble_eq_true rfl) rfl (st1 := [.int q5]) rfl d_Replacement_goesOn_167 (fun H locs hw => ?_)
    refine lv_istore hx hb d_Replacement_goesOn_170 hl (by decide) (lv' := [(7, .int q5), (10, .int t0), (0, .ref (aD g x0)), (1, .ref (aD g x1)), (2, .int x2), (3, .ref (aD g x3)), (4, .int x4), (5, .int x5), (8, .int x8), (9, .int x9)]) rfl (fun ls hl => ?_)
    refine lv_iinc hx hb d_Replacement_goesOn_172 hl (k := 9) rfl (v := (x9 + 1)) (iinc_e _ (by decide)) (by decide) (lv' := [(9, .int (x9 + 1)), (7, .int q5), (10, .int t0), (0, .ref (aD g x0)), (1, .ref (aD g x1)), (2, .int x2), (3, .ref (aD g x3)), (4, .int x4), (5, .int x5), (8, .int x8)]) rfl (fun ls hl => ?_)
    refine lv_goto hx hb d_Replacement_goesOn_175 (tgt := 111) (by decide) ?_
    exact hc111 hw (lv_sub hl [3, 4, 5, 6, 7, 8, 1, 9, 0] rfl) hs
  · have hs := oi_t hc hs
    refine lv_iconst (v := 0) hx hb d_Replacement_goesOn_162 (by decide) ?_
    obtain rfl := Option.some.inj hs
    exact pg_zret (v := 0) C hw rfl d_Replacement_goesOn_163

def s_Replacement_goesOn_111 (gf : GT_Replacement_goesOn) : Nat → Nat → Nat → Int32 → Nat → Int32 → Int32 → Int32 → Int32 → Int32 → HP → Option (Int32 × HP)
  | 0 => fun _ _ _ _ _ _ _ _ _ _ => none
  | k + 1 => fun x0 x1 x2 x3 x4 x5 x7 x8 x9 h =>
  if 3 ≤ x9 then (
    some (1, h))
  else (
    if x8 ≤ x7 then (
      some (1, h))
    else (
      if x9 = 1 then (
        (kd x1 0).bind fun _ =>
        (s_Text_boundBy x1 x2 h).bind fun q4 =>
        s_Replacement_goesOn_143 gf (s_Replacement_goesOn_111 gf k) x0 x1 x2 x3 x4 x5 x7 x8 x9 (x4 ||| q4) h)
      else (
        s_Replacement_goesOn_143 gf (s_Replacement_goesOn_111 gf k) x0 x1 x2 x3 x4 x5 x7 x8 x9 x4 h)))
set_option maxHeartbeats 4000000 in
set_option maxRecDepth 100000 in
theorem k_Replacement_goesOn_111 {z : Int32 × HP} (C : CX g R_Replacement b_Replacement_goesOn 11 (some .boolean) p s m args meth c) (gf : GT_Replacement_goesOn) (n : Nat) (hG : HG_Replacement_goesOn l g gf n) : ∀ (k : Nat) {x0 : Nat} {x1 : Nat} {x2 : Int32} {x3 : Nat} {x4 : Int32} {x5 : Int32} {x7 : Int32} {x8 : Int32} {x9 : Int32} {h : HP} {H : Heap} {locs : List Loc} {ls : Array Slot}, WD g h s.heap H locs → lv_has ls 11 [(0, .ref (aD g x0)), (1, .ref (aD g x1)), (2, .int x2), (3, .ref (aD g x3)), (4, .int x4), (5, .int x5), (7, .int x7), (8, .int x8), (9, .int x9)] → s_Replacement_goesOn_111 gf k x0 x1 x2 x3 x4 x5 x7 x8 x9 h = some z → W p l e (rmS (n + 1 + 17) ((n + 1) * 30 + 459)) s m args below meth c H locs 0 0 (MQ below (Qq g (some (.int z.1)) z.2) args s 0 0 (inA g)) (F0 m 111 ls []) := by
  have hx := C.1
  have hb := C.2.1
  intro k
  induction k with
  | zero =>
    intro x0 x1 x2 x3 x4 x5 x7 x8 x9 h H locs ls hw hl hs
    exact (no_s hs).elim
  | succ k ih =>
    intro x0 x1 x2 x3 x4 x5 x7 x8 x9 h H locs ls hw hl hs
    rw [s_Replacement_goesOn_111] at hs
    refine lv_iload hx hb d_Replacement_goesOn_111 (lv_at hl 8 rfl) ?_
    refine lv_iconst (v := 3) hx hb d_Replacement_goesOn_113 (by decide) ?_
    refine lv_icmp_ge hx hb d_Replacement_goesOn_114 (tgt := 178) (by decide) (fun hc => ?_) (fun hc => ?_)
    · have hs := oi_t hc hs
      refine lv_iconst (v := 1) hx hb d_Replacement_goesOn_178 (by decide) ?_
      obtain rfl := Option.some.inj hs
      exact pg_zret (v := 1) C hw rfl d_Replacement_goesOn_179
    · have hs := oi_f hc hs
      refine lv_iload hx hb d_Replacement_goesOn_117 (lv_at hl 6 rfl) ?_
      refine lv_iload hx hb d_Replacement_goesOn_119 (lv_at hl 7 rfl) ?_
      refine lv_icmp_ge hx hb d_Replacement_goesOn_121 (tgt := 178) (by decide) (fun hc => ?_) (fun hc => ?_)
      · have hs := oi_t hc hs
        refine lv_iconst (v := 1) hx hb d_Replacement_goesOn_178 (by decide) ?_
        obtain rfl := Option.some.inj hs
        exact pg_zret (v := 1) C hw rfl d_Replacement_goesOn_179
      · have hs := oi_f hc hs
        refine lv_iload hx hb d_Replacement_goesOn_124 (lv_at hl 8 rfl) ?_
        refine lv_iconst (v := 1) hx hb d_Replacement_goesOn_126 (by decide) ?_
        refine lv_icmp_ne hx hb d_Replacement_goesOn_127 (tgt := 141) (by decide) (fun hc => ?_) (fun hc => ?_)
        · have hs := oi_f hc hs
          refine lv_iload hx hb d_Replacement_goesOn_141 (lv_at hl 4 rfl) ?_
          exact k_Replacement_goesOn_143 C gf n hG (s_Replacement_goesOn_111 gf k) ih hw (lv_sub hl [0, 1, 2, 3, 4, 5, 6, 7, 8] rfl) hs
        · have hs := oi_t hc hs
          refine lv_iload hx hb d_Replacement_goesOn_130 (lv_at hl 4 rfl) ?_
          refine lv_aload_n hx hb d_Replacement_goesOn_132 rfl (lv_at hl 1 rfl) ?_
          refine lv_iload_n hx hb d_Replacement_goesOn_133 rfl (lv_at hl 2 rfl) ?_
          obtain ⟨_, e3, hs⟩ := ob hs
          obtain ⟨q4, e5, hs⟩ := ob hs
          refine pg_callV C hw hl.1 ml_Replacement_65 e3 (As := [.int x2]) (rest := [.int x4]) (c_Text_boundBy l g e5) rfl (rm_ok (by omega) (by omega)) (Nat.le_of_ble_eq_true rfl) rfl (st1 := [.int q4, .int x4]) rfl d_Replacement_goesOn_134 (fun H locs hw => ?_)
          refine lv_ior hx hb d_Replacement_goesOn_137 ?_
          refine lv_goto hx hb d_Replacement_goesOn_138 (tgt := 143) (by decide) ?_
          exact k_Replacement_goesOn_143 C gf n hG (s_Replacement_goesOn_111 gf k) ih hw (lv_sub hl [0, 1, 2, 3, 4, 5, 6, 7, 8] rfl) hs

def s_Replacement_goesOn_64 (gf : GT_Replacement_goesOn) (x0 : Nat) (x1 : Nat) (x2 : Int32) (x3 : Nat) (x4 : Int32) (x5 : Int32) (h : HP) : Option (Int32 × HP) :=
  (kd x1 0).bind fun _ =>
  (s_Text_firstPartOf x1 x2 h).bind fun q2 =>
  (gI h x0 5 2).bind fun v4 =>
  (kd x3 0).bind fun _ =>
  (s_Text_has x3 v4 x1 x2 q2 h).bind fun q7 =>
  if q7 = 0 then (
    some (0, h))
  else (
    (gI h x0 5 2).bind fun v9 =>
    (pI h x0 5 2 (v9 + (q2 - x2))).bind fun h11 =>
    (kd x1 0).bind fun _ =>
    (s_Text_endOf x1 x2 h11).bind fun q14 =>
    s_Replacement_goesOn_111 gf 20000 x0 x1 x2 x3 x4 x5 q2 q14 0 h11)
set_option maxHeartbeats 4000000 in
set_option maxRecDepth 100000 in
theorem k_Replacement_goesOn_64 {x0 : Nat} {x1 : Nat} {x2 : Int32} {x3 : Nat} {x4 : Int32} {x5 : Int32} {h : HP} {z : Int32 × HP} (C : CX g R_Replacement b_Replacement_goesOn 11 (some .boolean) p s m args meth c) (gf : GT_Replacement_goesOn) (n : Nat) (hG : HG_Replacement_goesOn l g gf n) {H : Heap} {locs : List Loc} {ls : Array Slot} (hw : WD g h s.heap H locs) (hl : lv_has ls 11 [(0, .ref (aD g x0)), (1, .ref (aD g x1)), (2, .int x2), (3, .ref (aD g x3)), (4, .int x4), (5, .int x5)]) (hs : s_Replacement_goesOn_64 gf x0 x1 x2 x3 x4 x5 h = some z) : W p l e (rmS (n + 1 + 17) ((n + 1) * 30 + 459)) s m args below meth c H locs 0 0 (MQ below (Qq g (some (.int z.1)) z.2) args s 0 0 (inA g)) (F0 m 64 ls []) := by
  unfold s_Replacement_goesOn_64 at hs
  have hx := C.1
  have hb := C.2.1
  refine lv_aload_n hx hb d_Replacement_goesOn_64 rfl (lv_at hl 1 rfl) ?_
  refine lv_iload_n hx hb d_Replacement_goesOn_65 rfl (lv_at hl 2 rfl) ?_
  obtain ⟨_, e1, hs⟩ := ob hs
  obtain ⟨q2, e3, hs⟩ := ob hs
  refine pg_callV C hw hl.1 ml_Replacement_55 e1 (As := [.int x2]) (rest := []) (c_Text_firstPartOf l g e3) rfl (rm_ok (by omega) (by omega)) (Nat.le_of_ble_eq_true rfl) rfl (st1 := [.int q2]) rfl d_Replacement_goesOn_66 (fun H locs hw => ?_)
  refine lv_istore hx hb d_Replacement_goesOn_69 hl (by decide) (lv' := [(7, .int q2), (0, .ref (aD g x0)), (1, .ref (aD g x1)), (2, .int x2), (3, .ref (aD g x3)), (4, .int x4), (5, .int x5)]) rfl (fun ls hl => ?_)
  refine lv_aload_n hx hb d_Replacement_goesOn_71 rfl (lv_at hl 4 rfl) ?_
  refine lv_aload_n hx hb d_Replacement_goesOn_72 rfl (lv_at hl 1 rfl) ?_
  obtain ⟨v4, e5, hs⟩ := ob hs
  refine pg_getI C hw fl_Replacement_15 e5 d_Replacement_goesOn_73 ?_
  refine lv_aload_n hx hb d_Replacement_goesOn_76 rfl (lv_at hl 2 rfl) ?_
  refine lv_iload_n hx hb d_Replacement_goesOn_77 rfl (lv_at hl 3 rfl) ?_
  refine lv_iload hx hb d_Replacement_goesOn_78 (lv_at hl 0 rfl) ?_
  obtain ⟨_, e6, hs⟩ := ob hs
  obtain ⟨q7, e8, hs⟩ := ob hs
  refine pg_callV C hw hl.1 ml_Replacement_58 e6 (As := [.int v4, .ref (aD g x1), .int x2, .int q2]) (rest := []) (c_Text_has l g e8) rfl (rm_ok (by omega) (by omega)) (Nat.le_of_ble_eq_true rfl) rfl (st1 := [.int q7]) rfl d_Replacement_goesOn_80 (fun H locs hw => ?_)
  refine lv_if_ne hx hb d_Replacement_goesOn_83 (tgt := 88) (by decide) (fun hc => ?_) (fun hc => ?_)
  · have hs := oi_f hc hs
    refine lv_aload_n hx hb d_Replacement_goesOn_88 rfl (lv_at hl 1 rfl) ?_
    refine lv_dup hx hb d_Replacement_goesOn_89 rfl ?_
    obtain ⟨v9, e10, hs⟩ := ob hs
    refine pg_getI C hw fl_Replacement_15 e10 d_Replacement_goesOn_90 ?_
    refine lv_iload hx hb d_Replacement_goesOn_93 (lv_at hl 0 rfl) ?_
    refine lv_iload_n hx hb d_Replacement_goesOn_95 rfl (lv_at hl 3 rfl) ?_
    refine lv_isub hx hb d_Replacement_goesOn_96 ?_
    refine lv_iadd hx hb d_Replacement_goesOn_97 ?_
    obtain ⟨h11, e12, hs⟩ := ob hs
    refine pg_putI C hw pl_Replacement_15 e12 d_Replacement_goesOn_98 (fun H locs hw => ?_)
    refine lv_aload_n hx hb d_Replacement_goesOn_101 rfl (lv_at hl 2 rfl) ?_
    refine lv_iload_n hx hb d_Replacement_goesOn_102 rfl (lv_at hl 3 rfl) ?_
    obtain ⟨_, e13, hs⟩ := ob hs
    obtain ⟨q14, e15, hs⟩ := ob hs
    refine pg_callV C hw hl.1 ml_Replacement_62 e13 (As := [.int x2]) (rest := []) (c_Text_endOf l g e15) rfl (rm_ok (by omega) (by omega)) (Nat.le_of_ble_eq_true rfl) rfl (st1 := [.int q14]) rfl d_Replacement_goesOn_103 (fun H locs hw => ?_)
    refine lv_istore hx hb d_Replacement_goesOn_106 hl (by decide) (lv' := [(8, .int q14), (7, .int q2), (0, .ref (aD g x0)), (1, .ref (aD g x1)), (2, .int x2), (3, .ref (aD g x3)), (4, .int x4), (5, .int x5)]) rfl (fun ls hl => ?_)
    refine lv_iconst (v := 0) hx hb d_Replacement_goesOn_108 (by decide) ?_
    refine lv_istore hx hb d_Replacement_goesOn_109 hl (by decide) (lv' := [(9, .int 0), (8, .int q14), (7, .int q2), (0, .ref (aD g x0)), (1, .ref (aD g x1)), (2, .int x2), (3, .ref (aD g x3)), (4, .int x4), (5, .int x5)]) rfl (fun ls hl => ?_)
    exact k_Replacement_goesOn_111 C gf n hG 20000 hw (lv_sub hl [3, 4, 5, 6, 7, 8, 2, 1, 0] rfl) hs
  · have hs := oi_t hc hs
    refine lv_iconst (v := 0) hx hb d_Replacement_goesOn_86 (by decide) ?_
    obtain rfl := Option.some.inj hs
    exact pg_zret (v := 0) C hw rfl d_Replacement_goesOn_87

def s_Replacement_goesOn (gf : GT_Replacement_goesOn) (x0 : Nat) (x1 : Nat) (x2 : Int32) (x3 : Nat) (x4 : Int32) (x5 : Int32) (h : HP) : Option (Int32 × HP) :=
  if x5 ≤ 12 then (
    (kd x1 0).bind fun _ =>
    (s_Text_at x1 x2 h).bind fun q2 =>
    (s_AdjoinedSets_isLetter q2).bind fun q4 =>
    if q4 = 0 then (
      s_Replacement_goesOn_64 gf x0 x1 x2 x3 x4 x5 h)
    else (
      if ((x4 >>> ((q2 - 97) &&& 31)) &&& 1) = 0 then (
        (gR h x0 5 0).bind fun v6 =>
        (aI h v6 0 (q2 - 97)).bind fun v8 =>
        if v8 = (-1) then (
          s_Replacement_goesOn_64 gf x0 x1 x2 x3 x4 x5 h)
        else (
          (kd x0 5).bind fun _ =>
          (s_Replacement_termComes x0 (q2 - 97) x3 x4 h).bind fun q11 =>
          (zr q11.1).bind fun _ => some (q11.1, q11.2)))
      else (
        s_Replacement_goesOn_64 gf x0 x1 x2 x3 x4 x5 h)))
  else (
    some (0, h))
set_option maxHeartbeats 4000000 in
set_option maxRecDepth 100000 in
theorem c_Replacement_goesOn (l : Launch) (g : GG) (gf : GT_Replacement_goesOn) (n : Nat) (hG : HG_Replacement_goesOn l g gf n) {x0 : Nat} {x1 : Nat} {x2 : Int32} {x3 : Nat} {x4 : Int32} {x5 : Int32} {h : HP} {z : Int32 × HP} (hs : s_Replacement_goesOn gf x0 x1 x2 x3 x4 x5 h = some z) : Ct l g y_Replacement_goesOn w_Replacement_goesOn (rmS (n + 1 + 17) ((n + 1) * 30 + 459)) [.ref (aD g x0), .ref (aD g x1), .int x2, .ref (aD g x3), .int x4, .int x5] h (some (.int z.1)) z.2 := by
  refine Ct.of (own := R_Replacement) (by decide) rfl rfl (Nat.le_of_ble_eq_true rfl) ?_
  intro p e s m args below meth c ls C hl hw
  have hx := C.1
  have hb := C.2.1
  have hl : lv_has ls 11 [(0, .ref (aD g x0)), (1, .ref (aD g x1)), (2, .int x2), (3, .ref (aD g x3)), (4, .int x4), (5, .int x5)] := hl
  unfold s_Replacement_goesOn at hs
  refine lv_iload hx hb d_Replacement_goesOn_0 (lv_at hl 5 rfl) ?_
  refine lv_bipush (v := 12) hx hb d_Replacement_goesOn_2 (by decide) ?_
  refine lv_icmp_le hx hb d_Replacement_goesOn_4 (tgt := 9) (by decide) (fun hc => ?_) (fun hc => ?_)
  · have hs := oi_t hc hs
    refine lv_aload_n hx hb d_Replacement_goesOn_9 rfl (lv_at hl 1 rfl) ?_
    refine lv_iload_n hx hb d_Replacement_goesOn_10 rfl (lv_at hl 2 rfl) ?_
    obtain ⟨_, e1, hs⟩ := ob hs
    obtain ⟨q2, e3, hs⟩ := ob hs
    refine pg_callV C hw hl.1 ml_Replacement_41 e1 (As := [.int x2]) (rest := []) (c_Text_at l g e3) rfl (rm_ok (by omega) (by omega)) (Nat.le_of_ble_eq_true rfl) rfl (st1 := [.int q2]) rfl d_Replacement_goesOn_11 (fun H locs hw => ?_)
    refine lv_istore hx hb d_Replacement_goesOn_14 hl (by decide) (lv' := [(6, .int q2), (0, .ref (aD g x0)), (1, .ref (aD g x1)), (2, .int x2), (3, .ref (aD g x3)), (4, .int x4), (5, .int x5)]) rfl (fun ls hl => ?_)
    refine lv_iload hx hb d_Replacement_goesOn_16 (lv_at hl 0 rfl) ?_
    obtain ⟨q4, e5, hs⟩ := ob hs
    refine pg_callSN C hw hl.1 ml_Replacement_47 (As := [.int q2]) (rest := []) (c_AdjoinedSets_isLetter l g e5) rfl (rm_ok (by omega) (by omega)) (Nat.le_of_ble_eq_true rfl) rfl (st1 := [.int q4]) rfl d_Replacement_goesOn_18 (fun H locs hw => ?_)
    refine lv_if_eq hx hb d_Replacement_goesOn_21 (tgt := 64) (by decide) (fun hc => ?_) (fun hc => ?_)
    · have hs := oi_t hc hs
      exact k_Replacement_goesOn_64 C gf n hG hw (lv_sub hl [1, 2, 3, 4, 5, 6] rfl) hs
    · have hs := oi_f hc hs
      refine lv_iload hx hb d_Replacement_goesOn_24 (lv_at hl 5 rfl) ?_
      refine lv_iload hx hb d_Replacement_goesOn_26 (lv_at hl 0 rfl) ?_
      refine lv_bipush (v := 97) hx hb d_Replacement_goesOn_28 (by decide) ?_
      refine lv_isub hx hb d_Replacement_goesOn_30 ?_
      refine lv_ishr hx hb d_Replacement_goesOn_31 ?_
      refine lv_iconst (v := 1) hx hb d_Replacement_goesOn_32 (by decide) ?_
      refine lv_iand hx hb d_Replacement_goesOn_33 ?_
      refine lv_if_ne hx hb d_Replacement_goesOn_34 (tgt := 64) (by decide) (fun hc => ?_) (fun hc => ?_)
      · have hs := oi_f hc hs
        exact k_Replacement_goesOn_64 C gf n hG hw (lv_sub hl [1, 2, 3, 4, 5, 6] rfl) hs
      · have hs := oi_t hc hs
        refine lv_aload_n hx hb d_Replacement_goesOn_37 rfl (lv_at hl 1 rfl) ?_
        obtain ⟨v6, e7, hs⟩ := ob hs
        refine pg_getR C hw fl_Replacement_9 e7 d_Replacement_goesOn_38 ?_
        refine lv_iload hx hb d_Replacement_goesOn_41 (lv_at hl 0 rfl) ?_
        refine lv_bipush (v := 97) hx hb d_Replacement_goesOn_43 (by decide) ?_
        refine lv_isub hx hb d_Replacement_goesOn_45 ?_
        obtain ⟨v8, e9, hs⟩ := ob hs
        refine pg_iaload C hw (t0 := 0) rfl e9 d_Replacement_goesOn_46 ?_
        refine lv_iconst (v := (-1)) hx hb d_Replacement_goesOn_47 (by decide) ?_
        refine lv_icmp_eq hx hb d_Replacement_goesOn_48 (tgt := 64) (by decide) (fun hc => ?_) (fun hc => ?_)
        · have hs := oi_t hc hs
          exact k_Replacement_goesOn_64 C gf n hG hw (lv_sub hl [1, 2, 3, 4, 5, 6] rfl) hs
        · have hs := oi_f hc hs
          refine lv_aload_n hx hb d_Replacement_goesOn_51 rfl (lv_at hl 1 rfl) ?_
          refine lv_iload hx hb d_Replacement_goesOn_52 (lv_at hl 0 rfl) ?_
          refine lv_bipush (v := 97) hx hb d_Replacement_goesOn_54 (by decide) ?_
          refine lv_isub hx hb d_Replacement_goesOn_56 ?_
          refine lv_aload_n hx hb d_Replacement_goesOn_57 rfl (lv_at hl 4 rfl) ?_
          refine lv_iload hx hb d_Replacement_goesOn_58 (lv_at hl 5 rfl) ?_
          obtain ⟨_, e10, hs⟩ := ob hs
          obtain ⟨q11, e12, hs⟩ := ob hs
          refine pg_callV C hw hl.1 ml_Replacement_51 e10 (As := [.int (q2 - 97), .ref (aD g x3), .int x4]) (rest := []) (c_Replacement_termComes l g e12) rfl (rm_ok (by omega) (by omega)) (Nat.le_of_ble_eq_true rfl) rfl (st1 := [.int q11.1]) rfl d_Replacement_goesOn_60 (fun H locs hw => ?_)
          obtain ⟨_, e13, hs⟩ := ob hs
          obtain rfl := Option.some.inj hs
          exact pg_zret (v := q11.1) C hw (zr_n e13) d_Replacement_goesOn_63
  · have hs := oi_f hc hs
    refine lv_iconst (v := 0) hx hb d_Replacement_goesOn_7 (by decide) ?_
    obtain rfl := Option.some.inj hs
    exact pg_zret (v := 0) C hw rfl d_Replacement_goesOn_8

def s_grp_Replacement_goesOn : Nat → GT_Replacement_goesOn
  | 0 => fun _ _ _ _ _ _ _ => none
  | n + 1 => s_Replacement_goesOn (s_grp_Replacement_goesOn n)
theorem cg_Replacement_goesOn (l : Launch) (g : GG) : ∀ n : Nat, HG_Replacement_goesOn l g (s_grp_Replacement_goesOn n) n := by
  intro n
  induction n with
  | zero => exact fun hs => (no_s hs).elim
  | succ n ih => exact fun hs => c_Replacement_goesOn l g (s_grp_Replacement_goesOn n) n ih hs

end
section
variable {p : Program} {l : Launch} {e : Env} {s : State} {m : MethodId} {args : Array Value} {below : List Frame} {meth : Method} {c : Code} {g : GG}
theorem d_Replacement_gives_0 : decode b_Replacement_gives 0 = .ok (.aload_n 0, 1) := by decide +kernel
theorem d_Replacement_gives_1 : decode b_Replacement_gives 1 = .ok (.iload 4, 2) := by decide +kernel
theorem d_Replacement_gives_3 : decode b_Replacement_gives 3 = .ok (.putfield 15, 3) := by decide +kernel
theorem d_Replacement_gives_6 : decode b_Replacement_gives 6 = .ok (.aload_n 0, 1) := by decide +kernel
theorem d_Replacement_gives_7 : decode b_Replacement_gives 7 = .ok (.aload_n 1, 1) := by decide +kernel
theorem d_Replacement_gives_8 : decode b_Replacement_gives 8 = .ok (.iload_n 2, 1) := by decide +kernel
theorem d_Replacement_gives_9 : decode b_Replacement_gives 9 = .ok (.aload_n 3, 1) := by decide +kernel
theorem d_Replacement_gives_10 : decode b_Replacement_gives 10 = .ok (.iconst 0, 1) := by decide +kernel
theorem d_Replacement_gives_11 : decode b_Replacement_gives 11 = .ok (.iconst 1, 1) := by decide +kernel
theorem d_Replacement_gives_12 : decode b_Replacement_gives 12 = .ok (.invokevirtual 37, 3) := by decide +kernel
theorem d_Replacement_gives_15 : decode b_Replacement_gives 15 = .ok (.ifCond .eq 16, 3) := by decide +kernel
theorem d_Replacement_gives_18 : decode b_Replacement_gives 18 = .ok (.aload_n 0, 1) := by decide +kernel
theorem d_Replacement_gives_19 : decode b_Replacement_gives 19 = .ok (.getfield 15, 3) := by decide +kernel
theorem d_Replacement_gives_22 : decode b_Replacement_gives 22 = .ok (.iload 5, 2) := by decide +kernel
theorem d_Replacement_gives_24 : decode b_Replacement_gives 24 = .ok (.if_icmp .ne 7, 3) := by decide +kernel
theorem d_Replacement_gives_27 : decode b_Replacement_gives 27 = .ok (.iconst 1, 1) := by decide +kernel
theorem d_Replacement_gives_28 : decode b_Replacement_gives 28 = .ok (.goto 4, 3) := by decide +kernel
theorem d_Replacement_gives_31 : decode b_Replacement_gives 31 = .ok (.iconst 0, 1) := by decide +kernel
theorem d_Replacement_gives_32 : decode b_Replacement_gives 32 = .ok (.ireturn, 1) := by decide +kernel
def s_Replacement_gives (x0 : Nat) (x1 : Nat) (x2 : Int32) (x3 : Nat) (x4 : Int32) (x5 : Int32) (h : HP) : Option (Int32 × HP) :=
  (pI h x0 5 2 x4).bind fun h1 =>
  (kd x0 5).bind fun _ =>
  ((s_grp_Replacement_goesOn 14) x0 x1 x2 x3 0 1 h1).bind fun q4 =>
  if q4.1 = 0 then (
    some (0, q4.2))
  else (
    (gI q4.2 x0 5 2).bind fun v7 =>
    if v7 = x5 then (
      some (1, q4.2))
    else (
      some (0, q4.2)))
set_option maxHeartbeats 4000000 in
set_option maxRecDepth 100000 in
theorem c_Replacement_gives (l : Launch) (g : GG) {x0 : Nat} {x1 : Nat} {x2 : Int32} {x3 : Nat} {x4 : Int32} {x5 : Int32} {h : HP} {z : Int32 × HP} (hs : s_Replacement_gives x0 x1 x2 x3 x4 x5 h = some z) : Ct l g y_Replacement_gives w_Replacement_gives (rmS 32 909) [.ref (aD g x0), .ref (aD g x1), .int x2, .ref (aD g x3), .int x4, .int x5] h (some (.int z.1)) z.2 := by
  refine Ct.of (own := R_Replacement) (by decide) rfl rfl (Nat.le_of_ble_eq_true rfl) ?_
  intro p e s m args below meth c ls C hl hw
  have hx := C.1
  have hb := C.2.1
  have hl : lv_has ls 6 [(0, .ref (aD g x0)), (1, .ref (aD g x1)), (2, .int x2), (3, .ref (aD g x3)), (4, .int x4), (5, .int x5)] := hl
  unfold s_Replacement_gives at hs
  refine lv_aload_n hx hb d_Replacement_gives_0 rfl (lv_at hl 0 rfl) ?_
  refine lv_iload hx hb d_Replacement_gives_1 (lv_at hl 4 rfl) ?_
  obtain ⟨h1, e2, hs⟩ := ob hs
  refine pg_putI C hw pl_Replacement_15 e2 d_Replacement_gives_3 (fun H locs hw => ?_)
  refine lv_aload_n hx hb d_Replacement_gives_6 rfl (lv_at hl 0 rfl) ?_
  refine lv_aload_n hx hb d_Replacement_gives_7 rfl (lv_at hl 1 rfl) ?_
  refine lv_iload_n hx hb d_Replacement_gives_8 rfl (lv_at hl 2 rfl) ?_
  refine lv_aload_n hx hb d_Replacement_gives_9 rfl (lv_at hl 3 rfl) ?_
  refine lv_iconst (v := 0) hx hb d_Replacement_gives_10 (by decide) ?_
  refine lv_iconst (v := 1) hx hb d_Replacement_gives_11 (by decide) ?_
  obtain ⟨_, e3, hs⟩ := ob hs
  obtain ⟨q4, e5, hs⟩ := ob hs
  refine pg_callV C hw hl.1 ml_Replacement_37 e3 (As := [.ref (aD g x1), .int x2, .ref (aD g x3), .int 0, .int 1]) (rest := []) ((cg_Replacement_goesOn l g 14) e5) rfl (rm_ok (Nat.le_of_ble_eq_true rfl) (Nat.le_of_ble_eq_true rfl)) (Nat.le_of_ble_eq_true rfl) rfl (st1 := [.int q4.1]) rfl d_Replacement_gives_12 (fun H locs hw => ?_)
  refine lv_if_eq hx hb d_Replacement_gives_15 (tgt := 31) (by decide) (fun hc => ?_) (fun hc => ?_)
  · have hs := oi_t hc hs
    refine lv_iconst (v := 0) hx hb d_Replacement_gives_31 (by decide) ?_
    obtain rfl := Option.some.inj hs
    exact pg_zret (v := 0) C hw rfl d_Replacement_gives_32
  · have hs := oi_f hc hs
    refine lv_aload_n hx hb d_Replacement_gives_18 rfl (lv_at hl 0 rfl) ?_
    obtain ⟨v7, e8, hs⟩ := ob hs
    refine pg_getI C hw fl_Replacement_15 e8 d_Replacement_gives_19 ?_
    refine lv_iload hx hb d_Replacement_gives_22 (lv_at hl 5 rfl) ?_
    refine lv_icmp_ne hx hb d_Replacement_gives_24 (tgt := 31) (by decide) (fun hc => ?_) (fun hc => ?_)
    · have hs := oi_f hc hs
      refine lv_iconst (v := 0) hx hb d_Replacement_gives_31 (by decide) ?_
      obtain rfl := Option.some.inj hs
      exact pg_zret (v := 0) C hw rfl d_Replacement_gives_32
    · have hs := oi_t hc hs
      refine lv_iconst (v := 1) hx hb d_Replacement_gives_27 (by decide) ?_
      refine lv_goto hx hb d_Replacement_gives_28 (tgt := 32) (by decide) ?_
      obtain rfl := Option.some.inj hs
      exact pg_zret (v := 1) C hw rfl d_Replacement_gives_32

end
