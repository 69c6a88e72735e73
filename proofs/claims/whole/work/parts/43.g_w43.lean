section
variable {p : Program} {l : Launch} {e : Env} {s : State} {m : MethodId} {args : Array Value} {below : List Frame} {meth : Method} {c : Code} {g : GG}
theorem d_Rules_isUnfolding_0 : decode b_Rules_isUnfolding 0 = .ok (.aload_n 0, 1) := by decide +kernel
theorem d_Rules_isUnfolding_1 : decode b_Rules_isUnfolding 1 = .ok (.getfield 29, 3) := by decide +kernel
theorem d_Rules_isUnfolding_4 : decode b_Rules_isUnfolding 4 = .ok (.iconst 1, 1) := by decide +kernel
theorem d_Rules_isUnfolding_5 : decode b_Rules_isUnfolding 5 = .ok (.invokevirtual 149, 3) := by decide +kernel
theorem d_Rules_isUnfolding_8 : decode b_Rules_isUnfolding 8 = .ok (.bipush 65, 2) := by decide +kernel
theorem d_Rules_isUnfolding_10 : decode b_Rules_isUnfolding 10 = .ok (.isub, 1) := by decide +kernel
theorem d_Rules_isUnfolding_11 : decode b_Rules_isUnfolding 11 = .ok (.istore_n 1, 1) := by decide +kernel
theorem d_Rules_isUnfolding_12 : decode b_Rules_isUnfolding 12 = .ok (.aload_n 0, 1) := by decide +kernel
theorem d_Rules_isUnfolding_13 : decode b_Rules_isUnfolding 13 = .ok (.getfield 29, 3) := by decide +kernel
theorem d_Rules_isUnfolding_16 : decode b_Rules_isUnfolding 16 = .ok (.iconst 0, 1) := by decide +kernel
theorem d_Rules_isUnfolding_17 : decode b_Rules_isUnfolding 17 = .ok (.invokevirtual 149, 3) := by decide +kernel
theorem d_Rules_isUnfolding_20 : decode b_Rules_isUnfolding 20 = .ok (.bipush 61, 2) := by decide +kernel
theorem d_Rules_isUnfolding_22 : decode b_Rules_isUnfolding 22 = .ok (.if_icmp .ne 12, 3) := by decide +kernel
theorem d_Rules_isUnfolding_25 : decode b_Rules_isUnfolding 25 = .ok (.iload_n 1, 1) := by decide +kernel
theorem d_Rules_isUnfolding_26 : decode b_Rules_isUnfolding 26 = .ok (.ifCond .lt 8, 3) := by decide +kernel
theorem d_Rules_isUnfolding_29 : decode b_Rules_isUnfolding 29 = .ok (.iload_n 1, 1) := by decide +kernel
theorem d_Rules_isUnfolding_30 : decode b_Rules_isUnfolding 30 = .ok (.iconst 4, 1) := by decide +kernel
theorem d_Rules_isUnfolding_31 : decode b_Rules_isUnfolding 31 = .ok (.if_icmp .lt 5, 3) := by decide +kernel
theorem d_Rules_isUnfolding_34 : decode b_Rules_isUnfolding 34 = .ok (.iconst 0, 1) := by decide +kernel
theorem d_Rules_isUnfolding_35 : decode b_Rules_isUnfolding 35 = .ok (.ireturn, 1) := by decide +kernel
theorem d_Rules_isUnfolding_36 : decode b_Rules_isUnfolding 36 = .ok (.aload_n 0, 1) := by decide +kernel
theorem d_Rules_isUnfolding_37 : decode b_Rules_isUnfolding 37 = .ok (.getfield 45, 3) := by decide +kernel
theorem d_Rules_isUnfolding_40 : decode b_Rules_isUnfolding 40 = .ok (.aload_n 0, 1) := by decide +kernel
theorem d_Rules_isUnfolding_41 : decode b_Rules_isUnfolding 41 = .ok (.getfield 29, 3) := by decide +kernel
theorem d_Rules_isUnfolding_44 : decode b_Rules_isUnfolding 44 = .ok (.invokevirtual 157, 3) := by decide +kernel
theorem d_Rules_isUnfolding_47 : decode b_Rules_isUnfolding 47 = .ok (.iconst 2, 1) := by decide +kernel
theorem d_Rules_isUnfolding_48 : decode b_Rules_isUnfolding 48 = .ok (.istore_n 2, 1) := by decide +kernel
theorem d_Rules_isUnfolding_49 : decode b_Rules_isUnfolding 49 = .ok (.iconst 0, 1) := by decide +kernel
theorem d_Rules_isUnfolding_50 : decode b_Rules_isUnfolding 50 = .ok (.istore_n 3, 1) := by decide +kernel
theorem d_Rules_isUnfolding_51 : decode b_Rules_isUnfolding 51 = .ok (.iload_n 3, 1) := by decide +kernel
theorem d_Rules_isUnfolding_52 : decode b_Rules_isUnfolding 52 = .ok (.aload_n 0, 1) := by decide +kernel
theorem d_Rules_isUnfolding_53 : decode b_Rules_isUnfolding 53 = .ok (.getfield 32, 3) := by decide +kernel
theorem d_Rules_isUnfolding_56 : decode b_Rules_isUnfolding 56 = .ok (.iload_n 1, 1) := by decide +kernel
theorem d_Rules_isUnfolding_57 : decode b_Rules_isUnfolding 57 = .ok (.aaload, 1) := by decide +kernel
theorem d_Rules_isUnfolding_58 : decode b_Rules_isUnfolding 58 = .ok (.invokevirtual 184, 3) := by decide +kernel
theorem d_Rules_isUnfolding_61 : decode b_Rules_isUnfolding 61 = .ok (.if_icmp .ge 27, 3) := by decide +kernel
theorem d_Rules_isUnfolding_64 : decode b_Rules_isUnfolding 64 = .ok (.aload_n 0, 1) := by decide +kernel
theorem d_Rules_isUnfolding_65 : decode b_Rules_isUnfolding 65 = .ok (.getfield 45, 3) := by decide +kernel
theorem d_Rules_isUnfolding_68 : decode b_Rules_isUnfolding 68 = .ok (.iload_n 3, 1) := by decide +kernel
theorem d_Rules_isUnfolding_69 : decode b_Rules_isUnfolding 69 = .ok (.iload_n 2, 1) := by decide +kernel
theorem d_Rules_isUnfolding_70 : decode b_Rules_isUnfolding 70 = .ok (.invokevirtual 189, 3) := by decide +kernel
theorem d_Rules_isUnfolding_73 : decode b_Rules_isUnfolding 73 = .ok (.aload_n 0, 1) := by decide +kernel
theorem d_Rules_isUnfolding_74 : decode b_Rules_isUnfolding 74 = .ok (.getfield 29, 3) := by decide +kernel
theorem d_Rules_isUnfolding_77 : decode b_Rules_isUnfolding 77 = .ok (.iload_n 2, 1) := by decide +kernel
theorem d_Rules_isUnfolding_78 : decode b_Rules_isUnfolding 78 = .ok (.invokevirtual 192, 3) := by decide +kernel
theorem d_Rules_isUnfolding_81 : decode b_Rules_isUnfolding 81 = .ok (.istore_n 2, 1) := by decide +kernel
theorem d_Rules_isUnfolding_82 : decode b_Rules_isUnfolding 82 = .ok (.iinc 3 1, 3) := by decide +kernel
theorem d_Rules_isUnfolding_85 : decode b_Rules_isUnfolding 85 = .ok (.goto (-34), 3) := by decide +kernel
theorem d_Rules_isUnfolding_88 : decode b_Rules_isUnfolding 88 = .ok (.aload_n 0, 1) := by decide +kernel
theorem d_Rules_isUnfolding_89 : decode b_Rules_isUnfolding 89 = .ok (.getfield 45, 3) := by decide +kernel
theorem d_Rules_isUnfolding_92 : decode b_Rules_isUnfolding 92 = .ok (.aload_n 0, 1) := by decide +kernel
theorem d_Rules_isUnfolding_93 : decode b_Rules_isUnfolding 93 = .ok (.getfield 32, 3) := by decide +kernel
theorem d_Rules_isUnfolding_96 : decode b_Rules_isUnfolding 96 = .ok (.iload_n 1, 1) := by decide +kernel
theorem d_Rules_isUnfolding_97 : decode b_Rules_isUnfolding 97 = .ok (.aaload, 1) := by decide +kernel
theorem d_Rules_isUnfolding_98 : decode b_Rules_isUnfolding 98 = .ok (.invokevirtual 194, 3) := by decide +kernel
theorem d_Rules_isUnfolding_101 : decode b_Rules_isUnfolding 101 = .ok (.iconst 0, 1) := by decide +kernel
theorem d_Rules_isUnfolding_102 : decode b_Rules_isUnfolding 102 = .ok (.aload_n 0, 1) := by decide +kernel
theorem d_Rules_isUnfolding_103 : decode b_Rules_isUnfolding 103 = .ok (.getfield 29, 3) := by decide +kernel
theorem d_Rules_isUnfolding_106 : decode b_Rules_isUnfolding 106 = .ok (.iload_n 2, 1) := by decide +kernel
theorem d_Rules_isUnfolding_107 : decode b_Rules_isUnfolding 107 = .ok (.aload_n 0, 1) := by decide +kernel
theorem d_Rules_isUnfolding_108 : decode b_Rules_isUnfolding 108 = .ok (.getfield 29, 3) := by decide +kernel
theorem d_Rules_isUnfolding_111 : decode b_Rules_isUnfolding 111 = .ok (.invokevirtual 146, 3) := by decide +kernel
theorem d_Rules_isUnfolding_114 : decode b_Rules_isUnfolding 114 = .ok (.invokevirtual 142, 3) := by decide +kernel
theorem d_Rules_isUnfolding_117 : decode b_Rules_isUnfolding 117 = .ok (.ireturn, 1) := by decide +kernel
def s_Rules_isUnfolding_51 : Nat → Nat → Int32 → Int32 → Int32 → HP → Option (Int32 × HP)
  | 0 => fun _ _ _ _ _ => none
  | k + 1 => fun x0 x1 x2 x3 h =>
  (gR h x0 7 1).bind fun v1 =>
  (aR v1 4 x1).bind fun v3 =>
  (kd v3 1).bind fun _ =>
  (s_Function_takes v3 h).bind fun q6 =>
  if q6 ≤ x3 then (
    (gR h x0 7 4).bind fun v8 =>
    (gR h x0 7 1).bind fun v10 =>
    (aR v10 4 x1).bind fun v12 =>
    (kd v12 1).bind fun _ =>
    (s_Function_body v12 h).bind fun q15 =>
    (gR h x0 7 0).bind fun v17 =>
    (gR h x0 7 0).bind fun v19 =>
    (kd v19 0).bind fun _ =>
    (s_Text_length v19 h).bind fun q22 =>
    (kd v8 5).bind fun _ =>
    (s_Replacement_gives v8 q15 0 v17 x2 q22 h).bind fun q25 =>
    (zr q25.1).bind fun _ => some (q25.1, q25.2))
  else (
    (gR h x0 7 4).bind fun v28 =>
    (kd v28 5).bind fun _ =>
    (s_Replacement_put v28 x3 x2 h).bind fun q31 =>
    (gR q31 x0 7 0).bind fun v33 =>
    (kd v33 0).bind fun _ =>
    (s_Text_endOf v33 x2 q31).bind fun q36 =>
    (s_Rules_isUnfolding_51 k) x0 x1 q36 (x3 + 1) q31)
set_option maxHeartbeats 4000000 in
set_option maxRecDepth 100000 in
theorem k_Rules_isUnfolding_51 {z : Int32 × HP} (C : CX g R_Rules b_Rules_isUnfolding 4 (some .boolean) p s m args meth c) : ∀ (k : Nat) {x0 : Nat} {x1 : Int32} {x2 : Int32} {x3 : Int32} {h : HP} {H : Heap} {locs : List Loc} {ls : Array Slot}, WD g h s.heap H locs → lv_has ls 4 [(0, .ref (aD g x0)), (1, .int x1), (2, .int x2), (3, .int x3)] → s_Rules_isUnfolding_51 k x0 x1 x2 x3 h = some z → W p l e (rmS 33 934) s m args below meth c H locs 0 0 (MQ below (Qq g (some (.int z.1)) z.2) args s 0 0 (inA g)) (F0 m 51 ls []) := by
  have hx := C.1
  have hb := C.2.1
  intro k
  induction k with
  | zero =>
    intro x0 x1 x2 x3 h H locs ls hw hl hs
    exact (no_s hs).elim
  | succ k ih =>
    intro x0 x1 x2 x3 h H locs ls hw hl hs
    rw [s_Rules_isUnfolding_51] at hs
    refine lv_iload_n hx hb d_Rules_isUnfolding_51 rfl (lv_at hl 3 rfl) ?_
    refine lv_aload_n hx hb d_Rules_isUnfolding_52 rfl (lv_at hl 0 rfl) ?_
    obtain ⟨v1, e2, hs⟩ := ob hs
    refine pg_getR C hw fl_Rules_32 e2 d_Rules_isUnfolding_53 ?_
    refine lv_iload_n hx hb d_Rules_isUnfolding_56 rfl (lv_at hl 1 rfl) ?_
    obtain ⟨v3, e4, hs⟩ := ob hs
    refine pg_aaload C hw (t0 := 4) rfl e4 d_Rules_isUnfolding_57 ?_
    obtain ⟨_, e5, hs⟩ := ob hs
    obtain ⟨q6, e7, hs⟩ := ob hs
    refine pg_callV C hw hl.1 ml_Rules_184 e5 (As := []) (rest := [.int x3]) (c_Function_takes l g e7) rfl (rm_ok (Nat.le_of_ble_eq_true rfl) (Nat.le_of_ble_eq_true rfl)) (Nat.le_of_ble_eq_true rfl) rfl (st1 := [.int q6, .int x3]) rfl d_Rules_isUnfolding_58 (fun H locs hw => ?_)
    refine lv_icmp_ge hx hb d_Rules_isUnfolding_61 (tgt := 88) (by decide) (fun hc => ?_) (fun hc => ?_)
    · have hs := oi_t hc hs
      refine lv_aload_n hx hb d_Rules_isUnfolding_88 rfl (lv_at hl 0 rfl) ?_
      obtain ⟨v8, e9, hs⟩ := ob hs
      refine pg_getR C hw fl_Rules_45 e9 d_Rules_isUnfolding_89 ?_
      refine lv_aload_n hx hb d_Rules_isUnfolding_92 rfl (lv_at hl 0 rfl) ?_
      obtain ⟨v10, e11, hs⟩ := ob hs
      refine pg_getR C hw fl_Rules_32 e11 d_Rules_isUnfolding_93 ?_
      refine lv_iload_n hx hb d_Rules_isUnfolding_96 rfl (lv_at hl 1 rfl) ?_
      obtain ⟨v12, e13, hs⟩ := ob hs
      refine pg_aaload C hw (t0 := 4) rfl e13 d_Rules_isUnfolding_97 ?_
      obtain ⟨_, e14, hs⟩ := ob hs
      obtain ⟨q15, e16, hs⟩ := ob hs
      refine pg_callV C hw hl.1 ml_Rules_194 e14 (As := []) (rest := [.ref (aD g v8)]) (c_Function_body l g e16) rfl (rm_ok (Nat.le_of_ble_eq_true rfl) (Nat.le_of_ble_eq_true rfl)) (Nat.le_of_ble_eq_true rfl) rfl (st1 := [.ref (aD g q15), .ref (aD g v8)]) rfl d_Rules_isUnfolding_98 (fun H locs hw => ?_)
      refine lv_iconst (v := 0) hx hb d_Rules_isUnfolding_101 (by decide) ?_
      refine lv_aload_n hx hb d_Rules_isUnfolding_102 rfl (lv_at hl 0 rfl) ?_
      obtain ⟨v17, e18, hs⟩ := ob hs
      refine pg_getR C hw fl_Rules_29 e18 d_Rules_isUnfolding_103 ?_
      refine lv_iload_n hx hb d_Rules_isUnfolding_106 rfl (lv_at hl 2 rfl) ?_
      refine lv_aload_n hx hb d_Rules_isUnfolding_107 rfl (lv_at hl 0 rfl) ?_
      obtain ⟨v19, e20, hs⟩ := ob hs
      refine pg_getR C hw fl_Rules_29 e20 d_Rules_isUnfolding_108 ?_
      obtain ⟨_, e21, hs⟩ := ob hs
      obtain ⟨q22, e23, hs⟩ := ob hs
      refine pg_callV C hw hl.1 ml_Rules_146 e21 (As := []) (rest := [.int x2, .ref (aD g v17), .int 0, .ref (aD g q15), .ref (aD g v8)]) (c_Text_length l g e23) rfl (rm_ok (Nat.le_of_ble_eq_true rfl) (Nat.le_of_ble_eq_true rfl)) (Nat.le_of_ble_eq_true rfl) rfl (st1 := [.int q22, .int x2, .ref (aD g v17), .int 0, .ref (aD g q15), .ref (aD g v8)]) rfl d_Rules_isUnfolding_111 (fun H locs hw => ?_)
      obtain ⟨_, e24, hs⟩ := ob hs
      obtain ⟨q25, e26, hs⟩ := ob hs
      refine pg_callV C hw hl.1 ml_Rules_142 e24 (As := [.ref (aD g q15), .int 0, .ref (aD g v17), .int x2, .int q22]) (rest := []) (c_Replacement_gives l g e26) rfl (rm_ok (Nat.le_of_ble_eq_true rfl) (Nat.le_of_ble_eq_true rfl)) (Nat.le_of_ble_eq_true rfl) rfl (st1 := [.int q25.1]) rfl d_Rules_isUnfolding_114 (fun H locs hw => ?_)
      obtain ⟨_, e27, hs⟩ := ob hs
      obtain rfl := Option.some.inj hs
      exact pg_zret (v := q25.1) C hw (zr_n e27) d_Rules_isUnfolding_117
    · have hs := oi_f hc hs
      refine lv_aload_n hx hb d_Rules_isUnfolding_64 rfl (lv_at hl 0 rfl) ?_
      obtain ⟨v28, e29, hs⟩ := ob hs
      refine pg_getR C hw fl_Rules_45 e29 d_Rules_isUnfolding_65 ?_
      refine lv_iload_n hx hb d_Rules_isUnfolding_68 rfl (lv_at hl 3 rfl) ?_
      refine lv_iload_n hx hb d_Rules_isUnfolding_69 rfl (lv_at hl 2 rfl) ?_
      obtain ⟨_, e30, hs⟩ := ob hs
      obtain ⟨q31, e32, hs⟩ := ob hs
      refine pg_callV C hw hl.1 ml_Rules_189 e30 (As := [.int x3, .int x2]) (rest := []) (c_Replacement_put l g e32) rfl (rm_ok (Nat.le_of_ble_eq_true rfl) (Nat.le_of_ble_eq_true rfl)) (Nat.le_of_ble_eq_true rfl) rfl (st1 := []) rfl d_Rules_isUnfolding_70 (fun H locs hw => ?_)
      refine lv_aload_n hx hb d_Rules_isUnfolding_73 rfl (lv_at hl 0 rfl) ?_
      obtain ⟨v33, e34, hs⟩ := ob hs
      refine pg_getR C hw fl_Rules_29 e34 d_Rules_isUnfolding_74 ?_
      refine lv_iload_n hx hb d_Rules_isUnfolding_77 rfl (lv_at hl 2 rfl) ?_
      obtain ⟨_, e35, hs⟩ := ob hs
      obtain ⟨q36, e37, hs⟩ := ob hs
      refine pg_callV C hw hl.1 ml_Rules_192 e35 (As := [.int x2]) (rest := []) (c_Text_endOf l g e37) rfl (rm_ok (Nat.le_of_ble_eq_true rfl) (Nat.le_of_ble_eq_true rfl)) (Nat.le_of_ble_eq_true rfl) rfl (st1 := [.int q36]) rfl d_Rules_isUnfolding_78 (fun H locs hw => ?_)
      refine lv_istore_n hx hb d_Rules_isUnfolding_81 rfl hl (by decide) (lv' := [(2, .int q36), (0, .ref (aD g x0)), (1, .int x1), (3, .int x3)]) rfl (fun ls hl => ?_)
      refine lv_iinc hx hb d_Rules_isUnfolding_82 hl (k := 3) rfl (v := (x3 + 1)) (iinc_e _ (by decide)) (by decide) (lv' := [(3, .int (x3 + 1)), (2, .int q36), (0, .ref (aD g x0)), (1, .int x1)]) rfl (fun ls hl => ?_)
      refine lv_goto hx hb d_Rules_isUnfolding_85 (tgt := 51) (by decide) ?_
      exact ih hw (lv_sub hl [2, 3, 1, 0] rfl) hs

def s_Rules_isUnfolding (x0 : Nat) (h : HP) : Option (Int32 × HP) :=
  (gR h x0 7 0).bind fun v1 =>
  (kd v1 0).bind fun _ =>
  (s_Text_at v1 1 h).bind fun q4 =>
  (gR h x0 7 0).bind fun v6 =>
  (kd v6 0).bind fun _ =>
  (s_Text_at v6 0 h).bind fun q9 =>
  if q9 = 61 then (
    if (q4 - 65) < 0 then (
      some (0, h))
    else (
      if (q4 - 65) < 4 then (
        (gR h x0 7 4).bind fun v13 =>
        (gR h x0 7 0).bind fun v15 =>
        (kd v13 5).bind fun _ =>
        (s_Replacement_begin v13 v15 h).bind fun q18 =>
        s_Rules_isUnfolding_51 20000 x0 (q4 - 65) 2 0 q18)
      else (
        some (0, h))))
  else (
    some (0, h))
set_option maxHeartbeats 4000000 in
set_option maxRecDepth 100000 in
theorem c_Rules_isUnfolding (l : Launch) (g : GG) {x0 : Nat} {h : HP} {z : Int32 × HP} (hs : s_Rules_isUnfolding x0 h = some z) : Ct l g y_Rules_isUnfolding w_Rules_isUnfolding (rmS 33 934) [.ref (aD g x0)] h (some (.int z.1)) z.2 := by
  refine Ct.of (own := R_Rules) (by decide) rfl rfl (Nat.le_of_ble_eq_true rfl) ?_
  intro p e s m args below meth c ls C hl hw
  have hx := C.1
  have hb := C.2.1
  have hl : lv_has ls 4 [(0, .ref (aD g x0))] := hl
  unfold s_Rules_isUnfolding at hs
  refine lv_aload_n hx hb d_Rules_isUnfolding_0 rfl (lv_at hl 0 rfl) ?_
  obtain ⟨v1, e2, hs⟩ := ob hs
  refine pg_getR C hw fl_Rules_29 e2 d_Rules_isUnfolding_1 ?_
  refine lv_iconst (v := 1) hx hb d_Rules_isUnfolding_4 (by decide) ?_
  obtain ⟨_, e3, hs⟩ := ob hs
  obtain ⟨q4, e5, hs⟩ := ob hs
  refine pg_callV C hw hl.1 ml_Rules_149 e3 (As := [.int 1]) (rest := []) (c_Text_at l g e5) rfl (rm_ok (Nat.le_of_ble_eq_true rfl) (Nat.le_of_ble_eq_true rfl)) (Nat.le_of_ble_eq_true rfl) rfl (st1 := [.int q4]) rfl d_Rules_isUnfolding_5 (fun H locs hw => ?_)
  refine lv_bipush (v := 65) hx hb d_Rules_isUnfolding_8 (by decide) ?_
  refine lv_isub hx hb d_Rules_isUnfolding_10 ?_
  refine lv_istore_n hx hb d_Rules_isUnfolding_11 rfl hl (by decide) (lv' := [(1, .int (q4 - 65)), (0, .ref (aD g x0))]) rfl (fun ls hl => ?_)
  refine lv_aload_n hx hb d_Rules_isUnfolding_12 rfl (lv_at hl 1 rfl) ?_
  obtain ⟨v6, e7, hs⟩ := ob hs
  refine pg_getR C hw fl_Rules_29 e7 d_Rules_isUnfolding_13 ?_
  refine lv_iconst (v := 0) hx hb d_Rules_isUnfolding_16 (by decide) ?_
  obtain ⟨_, e8, hs⟩ := ob hs
  obtain ⟨q9, e10, hs⟩ := ob hs
  refine pg_callV C hw hl.1 ml_Rules_149 e8 (As := [.int 0]) (rest := []) (c_Text_at l g e10) rfl (rm_ok (Nat.le_of_ble_eq_true rfl) (Nat.le_of_ble_eq_true rfl)) (Nat.le_of_ble_eq_true rfl) rfl (st1 := [.int q9]) rfl d_Rules_isUnfolding_17 (fun H locs hw => ?_)
  refine lv_bipush (v := 61) hx hb d_Rules_isUnfolding_20 (by decide) ?_
  refine lv_icmp_ne hx hb d_Rules_isUnfolding_22 (tgt := 34) (by decide) (fun hc => ?_) (fun hc => ?_)
  · have hs := oi_f hc hs
    refine lv_iconst (v := 0) hx hb d_Rules_isUnfolding_34 (by decide) ?_
    obtain rfl := Option.some.inj hs
    exact pg_zret (v := 0) C hw rfl d_Rules_isUnfolding_35
  · have hs := oi_t hc hs
    refine lv_iload_n hx hb d_Rules_isUnfolding_25 rfl (lv_at hl 0 rfl) ?_
    refine lv_if_lt hx hb d_Rules_isUnfolding_26 (tgt := 34) (by decide) (fun hc => ?_) (fun hc => ?_)
    · have hs := oi_t hc hs
      refine lv_iconst (v := 0) hx hb d_Rules_isUnfolding_34 (by decide) ?_
      obtain rfl := Option.some.inj hs
      exact pg_zret (v := 0) C hw rfl d_Rules_isUnfolding_35
    · have hs := oi_f hc hs
      refine lv_iload_n hx hb d_Rules_isUnfolding_29 rfl (lv_at hl 0 rfl) ?_
      refine lv_iconst (v := 4) hx hb d_Rules_isUnfolding_30 (by decide) ?_
      refine lv_icmp_lt hx hb d_Rules_isUnfolding_31 (tgt := 36) (by decide) (fun hc => ?_) (fun hc => ?_)
      · have hs := oi_t hc hs
        refine lv_aload_n hx hb d_Rules_isUnfolding_36 rfl (lv_at hl 1 rfl) ?_
        obtain ⟨v13, e14, hs⟩ := ob hs
        refine pg_getR C hw fl_Rules_45 e14 d_Rules_isUnfolding_37 ?_
        refine lv_aload_n hx hb d_Rules_isUnfolding_40 rfl (lv_at hl 1 rfl) ?_
        obtain ⟨v15, e16, hs⟩ := ob hs
        refine pg_getR C hw fl_Rules_29 e16 d_Rules_isUnfolding_41 ?_
        obtain ⟨_, e17, hs⟩ := ob hs
        obtain ⟨q18, e19, hs⟩ := ob hs
        refine pg_callV C hw hl.1 ml_Rules_157 e17 (As := [.ref (aD g v15)]) (rest := []) (c_Replacement_begin l g e19) rfl (rm_ok (Nat.le_of_ble_eq_true rfl) (Nat.le_of_ble_eq_true rfl)) (Nat.le_of_ble_eq_true rfl) rfl (st1 := []) rfl d_Rules_isUnfolding_44 (fun H locs hw => ?_)
        refine lv_iconst (v := 2) hx hb d_Rules_isUnfolding_47 (by decide) ?_
        refine lv_istore_n hx hb d_Rules_isUnfolding_48 rfl hl (by decide) (lv' := [(2, .int 2), (1, .int (q4 - 65)), (0, .ref (aD g x0))]) rfl (fun ls hl => ?_)
        refine lv_iconst (v := 0) hx hb d_Rules_isUnfolding_49 (by decide) ?_
        refine lv_istore_n hx hb d_Rules_isUnfolding_50 rfl hl (by decide) (lv' := [(3, .int 0), (2, .int 2), (1, .int (q4 - 65)), (0, .ref (aD g x0))]) rfl (fun ls hl => ?_)
        exact k_Rules_isUnfolding_51 C 20000 hw (lv_sub hl [3, 2, 1, 0] rfl) hs
      · have hs := oi_f hc hs
        refine lv_iconst (v := 0) hx hb d_Rules_isUnfolding_34 (by decide) ?_
        obtain rfl := Option.some.inj hs
        exact pg_zret (v := 0) C hw rfl d_Rules_isUnfolding_35

end
section
variable {p : Program} {l : Launch} {e : Env} {s : State} {m : MethodId} {args : Array Value} {below : List Frame} {meth : Method} {c : Code} {g : GG}
theorem d_Rules_allow_0 : decode b_Rules_allow 0 = .ok (.iload_n 1, 1) := by decide +kernel
theorem d_Rules_allow_1 : decode b_Rules_allow 1 = .ok (.tableswitch 260 0 15 #[79, 260, 260, 260, 260, 260, 260, 84, 128, 157, 178, 192, 205, 226, 231, 231], 79) := by decide +kernel
theorem d_Rules_allow_80 : decode b_Rules_allow 80 = .ok (.aload_n 0, 1) := by decide +kernel
theorem d_Rules_allow_81 : decode b_Rules_allow 81 = .ok (.invokevirtual 56, 3) := by decide +kernel
theorem d_Rules_allow_84 : decode b_Rules_allow 84 = .ok (.ireturn, 1) := by decide +kernel
theorem d_Rules_allow_85 : decode b_Rules_allow 85 = .ok (.aload_n 0, 1) := by decide +kernel
theorem d_Rules_allow_86 : decode b_Rules_allow 86 = .ok (.getfield 52, 3) := by decide +kernel
theorem d_Rules_allow_89 : decode b_Rules_allow 89 = .ok (.iload_n 1, 1) := by decide +kernel
theorem d_Rules_allow_90 : decode b_Rules_allow 90 = .ok (.invokestatic 60, 3) := by decide +kernel
theorem d_Rules_allow_93 : decode b_Rules_allow 93 = .ok (.invokevirtual 64, 3) := by decide +kernel
theorem d_Rules_allow_96 : decode b_Rules_allow 96 = .ok (.ifCond .eq 31, 3) := by decide +kernel
theorem d_Rules_allow_99 : decode b_Rules_allow 99 = .ok (.aload_n 0, 1) := by decide +kernel
theorem d_Rules_allow_100 : decode b_Rules_allow 100 = .ok (.getfield 52, 3) := by decide +kernel
theorem d_Rules_allow_103 : decode b_Rules_allow 103 = .ok (.bipush 115, 2) := by decide +kernel
theorem d_Rules_allow_105 : decode b_Rules_allow 105 = .ok (.invokevirtual 68, 3) := by decide +kernel
theorem d_Rules_allow_108 : decode b_Rules_allow 108 = .ok (.ifCond .ne 19, 3) := by decide +kernel
theorem d_Rules_allow_111 : decode b_Rules_allow 111 = .ok (.aload_n 0, 1) := by decide +kernel
theorem d_Rules_allow_112 : decode b_Rules_allow 112 = .ok (.getfield 52, 3) := by decide +kernel
theorem d_Rules_allow_115 : decode b_Rules_allow 115 = .ok (.bipush 116, 2) := by decide +kernel
theorem d_Rules_allow_117 : decode b_Rules_allow 117 = .ok (.invokevirtual 68, 3) := by decide +kernel
theorem d_Rules_allow_120 : decode b_Rules_allow 120 = .ok (.ifCond .ne 7, 3) := by decide +kernel
theorem d_Rules_allow_123 : decode b_Rules_allow 123 = .ok (.iconst 1, 1) := by decide +kernel
theorem d_Rules_allow_124 : decode b_Rules_allow 124 = .ok (.goto 4, 3) := by decide +kernel
theorem d_Rules_allow_127 : decode b_Rules_allow 127 = .ok (.iconst 0, 1) := by decide +kernel
theorem d_Rules_allow_128 : decode b_Rules_allow 128 = .ok (.ireturn, 1) := by decide +kernel
theorem d_Rules_allow_129 : decode b_Rules_allow 129 = .ok (.aload_n 0, 1) := by decide +kernel
theorem d_Rules_allow_130 : decode b_Rules_allow 130 = .ok (.getfield 52, 3) := by decide +kernel
theorem d_Rules_allow_133 : decode b_Rules_allow 133 = .ok (.iload_n 1, 1) := by decide +kernel
theorem d_Rules_allow_134 : decode b_Rules_allow 134 = .ok (.invokestatic 60, 3) := by decide +kernel
theorem d_Rules_allow_137 : decode b_Rules_allow 137 = .ok (.invokevirtual 64, 3) := by decide +kernel
theorem d_Rules_allow_140 : decode b_Rules_allow 140 = .ok (.ifCond .eq 16, 3) := by decide +kernel
theorem d_Rules_allow_143 : decode b_Rules_allow 143 = .ok (.aload_n 0, 1) := by decide +kernel
theorem d_Rules_allow_144 : decode b_Rules_allow 144 = .ok (.bipush 116, 2) := by decide +kernel
theorem d_Rules_allow_146 : decode b_Rules_allow 146 = .ok (.invokevirtual 72, 3) := by decide +kernel
theorem d_Rules_allow_149 : decode b_Rules_allow 149 = .ok (.ifCond .eq 7, 3) := by decide +kernel
theorem d_Rules_allow_152 : decode b_Rules_allow 152 = .ok (.iconst 1, 1) := by decide +kernel
theorem d_Rules_allow_153 : decode b_Rules_allow 153 = .ok (.goto 4, 3) := by decide +kernel
theorem d_Rules_allow_156 : decode b_Rules_allow 156 = .ok (.iconst 0, 1) := by decide +kernel
theorem d_Rules_allow_157 : decode b_Rules_allow 157 = .ok (.ireturn, 1) := by decide +kernel
theorem d_Rules_allow_158 : decode b_Rules_allow 158 = .ok (.aload_n 0, 1) := by decide +kernel
theorem d_Rules_allow_159 : decode b_Rules_allow 159 = .ok (.aload_n 0, 1) := by decide +kernel
theorem d_Rules_allow_160 : decode b_Rules_allow 160 = .ok (.getfield 36, 3) := by decide +kernel
theorem d_Rules_allow_163 : decode b_Rules_allow 163 = .ok (.iload_n 2, 1) := by decide +kernel
theorem d_Rules_allow_164 : decode b_Rules_allow 164 = .ok (.invokevirtual 75, 3) := by decide +kernel
theorem d_Rules_allow_167 : decode b_Rules_allow 167 = .ok (.aload_n 0, 1) := by decide +kernel
theorem d_Rules_allow_168 : decode b_Rules_allow 168 = .ok (.getfield 36, 3) := by decide +kernel
theorem d_Rules_allow_171 : decode b_Rules_allow 171 = .ok (.iload_n 3, 1) := by decide +kernel
theorem d_Rules_allow_172 : decode b_Rules_allow 172 = .ok (.invokevirtual 75, 3) := by decide +kernel
theorem d_Rules_allow_175 : decode b_Rules_allow 175 = .ok (.invokevirtual 81, 3) := by decide +kernel
theorem d_Rules_allow_178 : decode b_Rules_allow 178 = .ok (.ireturn, 1) := by decide +kernel
theorem d_Rules_allow_179 : decode b_Rules_allow 179 = .ok (.aload_n 0, 1) := by decide +kernel
theorem d_Rules_allow_180 : decode b_Rules_allow 180 = .ok (.aload_n 0, 1) := by decide +kernel
theorem d_Rules_allow_181 : decode b_Rules_allow 181 = .ok (.getfield 36, 3) := by decide +kernel
theorem d_Rules_allow_184 : decode b_Rules_allow 184 = .ok (.iload_n 2, 1) := by decide +kernel
theorem d_Rules_allow_185 : decode b_Rules_allow 185 = .ok (.invokevirtual 75, 3) := by decide +kernel
theorem d_Rules_allow_188 : decode b_Rules_allow 188 = .ok (.iload_n 3, 1) := by decide +kernel
theorem d_Rules_allow_189 : decode b_Rules_allow 189 = .ok (.invokevirtual 85, 3) := by decide +kernel
theorem d_Rules_allow_192 : decode b_Rules_allow 192 = .ok (.ireturn, 1) := by decide +kernel
theorem d_Rules_allow_193 : decode b_Rules_allow 193 = .ok (.aload_n 0, 1) := by decide +kernel
theorem d_Rules_allow_194 : decode b_Rules_allow 194 = .ok (.aload_n 0, 1) := by decide +kernel
theorem d_Rules_allow_195 : decode b_Rules_allow 195 = .ok (.getfield 36, 3) := by decide +kernel
theorem d_Rules_allow_198 : decode b_Rules_allow 198 = .ok (.iload_n 2, 1) := by decide +kernel
theorem d_Rules_allow_199 : decode b_Rules_allow 199 = .ok (.invokevirtual 75, 3) := by decide +kernel
theorem d_Rules_allow_202 : decode b_Rules_allow 202 = .ok (.invokevirtual 89, 3) := by decide +kernel
theorem d_Rules_allow_205 : decode b_Rules_allow 205 = .ok (.ireturn, 1) := by decide +kernel
theorem d_Rules_allow_206 : decode b_Rules_allow 206 = .ok (.aload_n 0, 1) := by decide +kernel
theorem d_Rules_allow_207 : decode b_Rules_allow 207 = .ok (.aload_n 0, 1) := by decide +kernel
theorem d_Rules_allow_208 : decode b_Rules_allow 208 = .ok (.getfield 36, 3) := by decide +kernel
theorem d_Rules_allow_211 : decode b_Rules_allow 211 = .ok (.iload_n 2, 1) := by decide +kernel
theorem d_Rules_allow_212 : decode b_Rules_allow 212 = .ok (.invokevirtual 75, 3) := by decide +kernel
theorem d_Rules_allow_215 : decode b_Rules_allow 215 = .ok (.aload_n 0, 1) := by decide +kernel
theorem d_Rules_allow_216 : decode b_Rules_allow 216 = .ok (.getfield 36, 3) := by decide +kernel
theorem d_Rules_allow_219 : decode b_Rules_allow 219 = .ok (.iload_n 3, 1) := by decide +kernel
theorem d_Rules_allow_220 : decode b_Rules_allow 220 = .ok (.invokevirtual 75, 3) := by decide +kernel
theorem d_Rules_allow_223 : decode b_Rules_allow 223 = .ok (.invokevirtual 93, 3) := by decide +kernel
theorem d_Rules_allow_226 : decode b_Rules_allow 226 = .ok (.ireturn, 1) := by decide +kernel
theorem d_Rules_allow_227 : decode b_Rules_allow 227 = .ok (.aload_n 0, 1) := by decide +kernel
theorem d_Rules_allow_228 : decode b_Rules_allow 228 = .ok (.invokevirtual 96, 3) := by decide +kernel
theorem d_Rules_allow_231 : decode b_Rules_allow 231 = .ok (.ireturn, 1) := by decide +kernel
theorem d_Rules_allow_232 : decode b_Rules_allow 232 = .ok (.aload_n 0, 1) := by decide +kernel
theorem d_Rules_allow_233 : decode b_Rules_allow 233 = .ok (.getfield 52, 3) := by decide +kernel
theorem d_Rules_allow_236 : decode b_Rules_allow 236 = .ok (.iload_n 1, 1) := by decide +kernel
theorem d_Rules_allow_237 : decode b_Rules_allow 237 = .ok (.invokestatic 60, 3) := by decide +kernel
theorem d_Rules_allow_240 : decode b_Rules_allow 240 = .ok (.invokevirtual 64, 3) := by decide +kernel
theorem d_Rules_allow_243 : decode b_Rules_allow 243 = .ok (.ifCond .eq 16, 3) := by decide +kernel
theorem d_Rules_allow_246 : decode b_Rules_allow 246 = .ok (.aload_n 0, 1) := by decide +kernel
theorem d_Rules_allow_247 : decode b_Rules_allow 247 = .ok (.bipush 117, 2) := by decide +kernel
theorem d_Rules_allow_249 : decode b_Rules_allow 249 = .ok (.invokevirtual 72, 3) := by decide +kernel
theorem d_Rules_allow_252 : decode b_Rules_allow 252 = .ok (.ifCond .eq 7, 3) := by decide +kernel
theorem d_Rules_allow_255 : decode b_Rules_allow 255 = .ok (.iconst 1, 1) := by decide +kernel
theorem d_Rules_allow_256 : decode b_Rules_allow 256 = .ok (.goto 4, 3) := by decide +kernel
theorem d_Rules_allow_259 : decode b_Rules_allow 259 = .ok (.iconst 0, 1) := by decide +kernel
theorem d_Rules_allow_260 : decode b_Rules_allow 260 = .ok (.ireturn, 1) := by decide +kernel
theorem d_Rules_allow_261 : decode b_Rules_allow 261 = .ok (.aload_n 0, 1) := by decide +kernel
theorem d_Rules_allow_262 : decode b_Rules_allow 262 = .ok (.getfield 52, 3) := by decide +kernel
theorem d_Rules_allow_265 : decode b_Rules_allow 265 = .ok (.iload_n 1, 1) := by decide +kernel
theorem d_Rules_allow_266 : decode b_Rules_allow 266 = .ok (.invokestatic 60, 3) := by decide +kernel
theorem d_Rules_allow_269 : decode b_Rules_allow 269 = .ok (.invokevirtual 64, 3) := by decide +kernel
theorem d_Rules_allow_272 : decode b_Rules_allow 272 = .ok (.ireturn, 1) := by decide +kernel
def s_Rules_allow_232 (x0 : Nat) (x1 : Int32) (h : HP) : Option (Int32 × HP) :=
  (gR h x0 7 5).bind fun v1 =>
  (s_Rules_formOf x1).bind fun q3 =>
  (kd v1 6).bind fun _ =>
  (s_Form_fits v1 q3 h).bind fun q6 =>
  if q6.1 = 0 then (
    some (0, q6.2))
  else (
    (kd x0 7).bind fun _ =>
    (s_Rules_isReplacedBy x0 117 q6.2).bind fun q10 =>
    if q10.1 = 0 then (
      some (0, q10.2))
    else (
      some (1, q10.2)))
set_option maxHeartbeats 4000000 in
set_option maxRecDepth 100000 in
theorem k_Rules_allow_232 {x0 : Nat} {x1 : Int32} {h : HP} {z : Int32 × HP} (C : CX g R_Rules b_Rules_allow 4 (some .boolean) p s m args meth c) {H : Heap} {locs : List Loc} {ls : Array Slot} (hw : WD g h s.heap H locs) (hl : lv_has ls 4 [(0, .ref (aD g x0)), (1, .int x1)]) (hs : s_Rules_allow_232 x0 x1 h = some z) : W p l e (rmS 34 962) s m args below meth c H locs 0 0 (MQ below (Qq g (some (.int z.1)) z.2) args s 0 0 (inA g)) (F0 m 232 ls []) := by
  unfold s_Rules_allow_232 at hs
  have hx := C.1
  have hb := C.2.1
  refine lv_aload_n hx hb d_Rules_allow_232 rfl (lv_at hl 0 rfl) ?_
  obtain ⟨v1, e2, hs⟩ := ob hs
  refine pg_getR C hw fl_Rules_52 e2 d_Rules_allow_233 ?_
  refine lv_iload_n hx hb d_Rules_allow_236 rfl (lv_at hl 1 rfl) ?_
  obtain ⟨q3, e4, hs⟩ := ob hs
  refine pg_callS C hw hl.1 ml_Rules_60 (As := [.int x1]) (rest := [.ref (aD g v1)]) (c_Rules_formOf l g e4) rfl (rm_ok (Nat.le_of_ble_eq_true rfl) (Nat.le_of_ble_eq_true rfl)) (Nat.le_of_ble_eq_true rfl) rfl (st1 := [.ref (sK g q3), .ref (aD g v1)]) rfl d_Rules_allow_237 (fun H locs hw => ?_)
  obtain ⟨_, e5, hs⟩ := ob hs
  obtain ⟨q6, e7, hs⟩ := ob hs
  refine pg_callV C hw hl.1 ml_Rules_64 e5 (As := [.ref (sK g q3)]) (rest := []) (c_Form_fits l g e7) rfl (rm_ok (Nat.le_of_ble_eq_true rfl) (Nat.le_of_ble_eq_true rfl)) (Nat.le_of_ble_eq_true rfl) rfl (st1 := [.int q6.1]) rfl d_Rules_allow_240 (fun H locs hw => ?_)
  refine lv_if_eq hx hb d_Rules_allow_243 (tgt := 259) (by decide) (fun hc => ?_) (fun hc => ?_)
  · have hs := oi_t hc hs
    refine lv_iconst (v := 0) hx hb d_Rules_allow_259 (by decide) ?_
    obtain rfl := Option.some.inj hs
    exact pg_zret (v := 0) C hw rfl d_Rules_allow_260
  · have hs := oi_f hc hs
    refine lv_aload_n hx hb d_Rules_allow_246 rfl (lv_at hl 0 rfl) ?_
    refine lv_bipush (v := 117) hx hb d_Rules_allow_247 (by decide) ?_
    obtain ⟨_, e9, hs⟩ := ob hs
    obtain ⟨q10, e11, hs⟩ := ob hs
    refine pg_callV C hw hl.1 ml_Rules_72 e9 (As := [.int 117]) (rest := []) (c_Rules_isReplacedBy l g e11) rfl (rm_ok (Nat.le_of_ble_eq_true rfl) (Nat.le_of_ble_eq_true rfl)) (Nat.le_of_ble_eq_true rfl) rfl (st1 := [.int q10.1]) rfl d_Rules_allow_249 (fun H locs hw => ?_)
    refine lv_if_eq hx hb d_Rules_allow_252 (tgt := 259) (by decide) (fun hc => ?_) (fun hc => ?_)
    · have hs := oi_t hc hs
      refine lv_iconst (v := 0) hx hb d_Rules_allow_259 (by decide) ?_
      obtain rfl := Option.some.inj hs
      exact pg_zret (v := 0) C hw rfl d_Rules_allow_260
    · have hs := oi_f hc hs
      refine lv_iconst (v := 1) hx hb d_Rules_allow_255 (by decide) ?_
      refine lv_goto hx hb d_Rules_allow_256 (tgt := 260) (by decide) ?_
      obtain rfl := Option.some.inj hs
      exact pg_zret (v := 1) C hw rfl d_Rules_allow_260

def s_Rules_allow_261 (x0 : Nat) (x1 : Int32) (h : HP) : Option (Int32 × HP) :=
  (gR h x0 7 5).bind fun v1 =>
  (s_Rules_formOf x1).bind fun q3 =>
  (kd v1 6).bind fun _ =>
  (s_Form_fits v1 q3 h).bind fun q6 =>
  (zr q6.1).bind fun _ => some (q6.1, q6.2)
set_option maxHeartbeats 4000000 in
set_option maxRecDepth 100000 in
theorem k_Rules_allow_261 {x0 : Nat} {x1 : Int32} {h : HP} {z : Int32 × HP} (C : CX g R_Rules b_Rules_allow 4 (some .boolean) p s m args meth c) {H : Heap} {locs : List Loc} {ls : Array Slot} (hw : WD g h s.heap H locs) (hl : lv_has ls 4 [(0, .ref (aD g x0)), (1, .int x1)]) (hs : s_Rules_allow_261 x0 x1 h = some z) : W p l e (rmS 34 962) s m args below meth c H locs 0 0 (MQ below (Qq g (some (.int z.1)) z.2) args s 0 0 (inA g)) (F0 m 261 ls []) := by
  unfold s_Rules_allow_261 at hs
  have hx := C.1
  have hb := C.2.1
  refine lv_aload_n hx hb d_Rules_allow_261 rfl (lv_at hl 0 rfl) ?_
  obtain ⟨v1, e2, hs⟩ := ob hs
  refine pg_getR C hw fl_Rules_52 e2 d_Rules_allow_262 ?_
  refine lv_iload_n hx hb d_Rules_allow_265 rfl (lv_at hl 1 rfl) ?_
  obtain ⟨q3, e4, hs⟩ := ob hs
  refine pg_callS C hw hl.1 ml_Rules_60 (As := [.int x1]) (rest := [.ref (aD g v1)]) (c_Rules_formOf l g e4) rfl (rm_ok (Nat.le_of_ble_eq_true rfl) (Nat.le_of_ble_eq_true rfl)) (Nat.le_of_ble_eq_true rfl) rfl (st1 := [.ref (sK g q3), .ref (aD g v1)]) rfl d_Rules_allow_266 (fun H locs hw => ?_)
  obtain ⟨_, e5, hs⟩ := ob hs
  obtain ⟨q6, e7, hs⟩ := ob hs
  refine pg_callV C hw hl.1 ml_Rules_64 e5 (As := [.ref (sK g q3)]) (rest := []) (c_Form_fits l g e7) rfl (rm_ok (Nat.le_of_ble_eq_true rfl) (Nat.le_of_ble_eq_true rfl)) (Nat.le_of_ble_eq_true rfl) rfl (st1 := [.int q6.1]) rfl d_Rules_allow_269 (fun H locs hw => ?_)
  obtain ⟨_, e8, hs⟩ := ob hs
  obtain rfl := Option.some.inj hs
  exact pg_zret (v := q6.1) C hw (zr_n e8) d_Rules_allow_272

def s_Rules_allow (x0 : Nat) (x1 : Int32) (x2 : Int32) (x3 : Int32) (h : HP) : Option (Int32 × HP) :=
  if x1 = 0 then (
    (kd x0 7).bind fun _ =>
    (s_Rules_holdsForAllValues x0 h).bind fun q2 =>
    (zr q2.1).bind fun _ => some (q2.1, q2.2))
  else (
  if x1 = 1 then (
    s_Rules_allow_261 x0 x1 h)
  else (
  if x1 = 2 then (
    s_Rules_allow_261 x0 x1 h)
  else (
  if x1 = 3 then (
    s_Rules_allow_261 x0 x1 h)
  else (
  if x1 = 4 then (
    s_Rules_allow_261 x0 x1 h)
  else (
  if x1 = 5 then (
    s_Rules_allow_261 x0 x1 h)
  else (
  if x1 = 6 then (
    s_Rules_allow_261 x0 x1 h)
  else (
  if x1 = 7 then (
    (gR h x0 7 5).bind fun v5 =>
    (s_Rules_formOf x1).bind fun q7 =>
    (kd v5 6).bind fun _ =>
    (s_Form_fits v5 q7 h).bind fun q10 =>
    if q10.1 = 0 then (
      some (0, q10.2))
    else (
      (gR q10.2 x0 7 5).bind fun v13 =>
      (kd v13 6).bind fun _ =>
      (s_Form_letterIsFreeIn v13 115 q10.2).bind fun q16 =>
      if q16 = 0 then (
        (gR q10.2 x0 7 5).bind fun v19 =>
        (kd v19 6).bind fun _ =>
        (s_Form_letterIsFreeIn v19 116 q10.2).bind fun q22 =>
        if q22 = 0 then (
          some (1, q10.2))
        else (
          some (0, q10.2)))
      else (
        some (0, q10.2))))
  else (
  if x1 = 8 then (
    (gR h x0 7 5).bind fun v26 =>
    (s_Rules_formOf x1).bind fun q28 =>
    (kd v26 6).bind fun _ =>
    (s_Form_fits v26 q28 h).bind fun q31 =>
    if q31.1 = 0 then (
      some (0, q31.2))
    else (
      (kd x0 7).bind fun _ =>
      (s_Rules_isReplacedBy x0 116 q31.2).bind fun q35 =>
      if q35.1 = 0 then (
        some (0, q35.2))
      else (
        some (1, q35.2))))
  else (
  if x1 = 9 then (
    (gR h x0 7 2).bind fun v39 =>
    (kd v39 2).bind fun _ =>
    (s_Laws_text v39 x2 h).bind fun q42 =>
    (gR h x0 7 2).bind fun v44 =>
    (kd v44 2).bind fun _ =>
    (s_Laws_text v44 x3 h).bind fun q47 =>
    (kd x0 7).bind fun _ =>
    (s_Rules_isDetached x0 q42 q47 h).bind fun q50 =>
    (zr q50).bind fun _ => some (q50, h))
  else (
  if x1 = 10 then (
    (gR h x0 7 2).bind fun v53 =>
    (kd v53 2).bind fun _ =>
    (s_Laws_text v53 x2 h).bind fun q56 =>
    (kd x0 7).bind fun _ =>
    (s_Rules_isInstanceOf x0 q56 x3 h).bind fun q59 =>
    (zr q59.1).bind fun _ => some (q59.1, q59.2))
  else (
  if x1 = 11 then (
    (gR h x0 7 2).bind fun v62 =>
    (kd v62 2).bind fun _ =>
    (s_Laws_text v62 x2 h).bind fun q65 =>
    (kd x0 7).bind fun _ =>
    (s_Rules_isForAllMembers x0 q65 h).bind fun q68 =>
    (zr q68.1).bind fun _ => some (q68.1, q68.2))
  else (
  if x1 = 12 then (
    (gR h x0 7 2).bind fun v71 =>
    (kd v71 2).bind fun _ =>
    (s_Laws_text v71 x2 h).bind fun q74 =>
    (gR h x0 7 2).bind fun v76 =>
    (kd v76 2).bind fun _ =>
    (s_Laws_text v76 x3 h).bind fun q79 =>
    (kd x0 7).bind fun _ =>
    (s_Rules_isByInduction x0 q74 q79 h).bind fun q82 =>
    (zr q82.1).bind fun _ => some (q82.1, q82.2))
  else (
  if x1 = 13 then (
    (kd x0 7).bind fun _ =>
    (s_Rules_isUnfolding x0 h).bind fun q86 =>
    (zr q86.1).bind fun _ => some (q86.1, q86.2))
  else (
  if x1 = 14 then (
    s_Rules_allow_232 x0 x1 h)
  else (
  if x1 = 15 then (
    s_Rules_allow_232 x0 x1 h)
  else (
    s_Rules_allow_261 x0 x1 h))))))))))))))))
set_option maxHeartbeats 4000000 in
set_option maxRecDepth 100000 in
theorem c_Rules_allow (l : Launch) (g : GG) {x0 : Nat} {x1 : Int32} {x2 : Int32} {x3 : Int32} {h : HP} {z : Int32 × HP} (hs : s_Rules_allow x0 x1 x2 x3 h = some z) : Ct l g y_Rules_allow w_Rules_allow (rmS 34 962) [.ref (aD g x0), .int x1, .int x2, .int x3] h (some (.int z.1)) z.2 := by
  refine Ct.of (own := R_Rules) (by decide) rfl rfl (Nat.le_of_ble_eq_true rfl) ?_
  intro p e s m args below meth c ls C hl hw
  have hx := C.1
  have hb := C.2.1
  have hl : lv_has ls 4 [(0, .ref (aD g x0)), (1, .int x1), (2, .int x2), (3, .int x3)] := hl
  unfold s_Rules_allow at hs
  refine lv_iload_n hx hb d_Rules_allow_0 rfl (lv_at hl 1 rfl) ?_
  refine by_c (fun (hk0 : x1 = 0) => ?_) (fun (hk0 : ¬ x1 = 0) => ?_)
  · have hs := oi_t hk0 hs
    refine lv_tableIn hx hb d_Rules_allow_1 (by rw [hk0]; decide) (by rw [hk0]; decide) (off := 79) (by rw [hk0]; decide) (tgt := 80) (by decide) ?_
    refine lv_aload_n hx hb d_Rules_allow_80 rfl (lv_at hl 0 rfl) ?_
    obtain ⟨_, e1, hs⟩ := ob hs
    obtain ⟨q2, e3, hs⟩ := ob hs
    refine pg_callV C hw hl.1 ml_Rules_56 e1 (As := []) (rest := []) (c_Rules_holdsForAllValues l g e3) rfl (rm_ok (Nat.le_of_ble_eq_true rfl) (Nat.le_of_ble_eq_true rfl)) (Nat.le_of_ble_eq_true rfl) rfl (st1 := [.int q2.1]) rfl d_Rules_allow_81 (fun H locs hw => ?_)
    obtain ⟨_, e4, hs⟩ := ob hs
    obtain rfl := Option.some.inj hs
    exact pg_zret (v := q2.1) C hw (zr_n e4) d_Rules_allow_84
  have hs := oi_f hk0 hs
  refine by_c (fun (hk1 : x1 = 1) => ?_) (fun (hk1 : ¬ x1 = 1) => ?_)
  · have hs := oi_t hk1 hs
    refine lv_tableIn hx hb d_Rules_allow_1 (by rw [hk1]; decide) (by rw [hk1]; decide) (off := 260) (by rw [hk1]; decide) (tgt := 261) (by decide) ?_
    exact k_Rules_allow_261 C hw (lv_sub hl [0, 1] rfl) hs
  have hs := oi_f hk1 hs
  refine by_c (fun (hk2 : x1 = 2) => ?_) (fun (hk2 : ¬ x1 = 2) => ?_)
  · have hs := oi_t hk2 hs
    refine lv_tableIn hx hb d_Rules_allow_1 (by rw [hk2]; decide) (by rw [hk2]; decide) (off := 260) (by rw [hk2]; decide) (tgt := 261) (by decide) ?_
    exact k_Rules_allow_261 C hw (lv_sub hl [0, 1] rfl) hs
  have hs := oi_f hk2 hs
  refine by_c (fun (hk3 : x1 = 3) => ?_) (fun (hk3 : ¬ x1 = 3) => ?_)
  · have hs := oi_t hk3 hs
    refine lv_tableIn hx hb d_Rules_allow_1 (by rw [hk3]; decide) (by rw [hk3]; decide) (off := 260) (by rw [hk3]; decide) (tgt := 261) (by decide) ?_
    exact k_Rules_allow_261 C hw (lv_sub hl [0, 1] rfl) hs
  have hs := oi_f hk3 hs
  refine by_c (fun (hk4 : x1 = 4) => ?_) (fun (hk4 : ¬ x1 = 4) => ?_)
  · have hs := oi_t hk4 hs
    refine lv_tableIn hx hb d_Rules_allow_1 (by rw [hk4]; decide) (by rw [hk4]; decide) (off := 260) (by rw [hk4]; decide) (tgt := 261) (by decide) ?_
    exact k_Rules_allow_261 C hw (lv_sub hl [0, 1] rfl) hs
  have hs := oi_f hk4 hs
  refine by_c (fun (hk5 : x1 = 5) => ?_) (fun (hk5 : ¬ x1 = 5) => ?_)
  · have hs := oi_t hk5 hs
    refine lv_tableIn hx hb d_Rules_allow_1 (by rw [hk5]; decide) (by rw [hk5]; decide) (off := 260) (by rw [hk5]; decide) (tgt := 261) (by decide) ?_
    exact k_Rules_allow_261 C hw (lv_sub hl [0, 1] rfl) hs
  have hs := oi_f hk5 hs
  refine by_c (fun (hk6 : x1 = 6) => ?_) (fun (hk6 : ¬ x1 = 6) => ?_)
  · have hs := oi_t hk6 hs
    refine lv_tableIn hx hb d_Rules_allow_1 (by rw [hk6]; decide) (by rw [hk6]; decide) (off := 260) (by rw [hk6]; decide) (tgt := 261) (by decide) ?_
    exact k_Rules_allow_261 C hw (lv_sub hl [0, 1] rfl) hs
  have hs := oi_f hk6 hs
  refine by_c (fun (hk7 : x1 = 7) => ?_) (fun (hk7 : ¬ x1 = 7) => ?_)
  · have hs := oi_t hk7 hs
    refine lv_tableIn hx hb d_Rules_allow_1 (by rw [hk7]; decide) (by rw [hk7]; decide) (off := 84) (by rw [hk7]; decide) (tgt := 85) (by decide) ?_
    refine lv_aload_n hx hb d_Rules_allow_85 rfl (lv_at hl 0 rfl) ?_
    obtain ⟨v5, e6, hs⟩ := ob hs
    refine pg_getR C hw fl_Rules_52 e6 d_Rules_allow_86 ?_
    refine lv_iload_n hx hb d_Rules_allow_89 rfl (lv_at hl 1 rfl) ?_
    obtain ⟨q7, e8, hs⟩ := ob hs
    refine pg_callS C hw hl.1 ml_Rules_60 (As := [.int x1]) (rest := [.ref (aD g v5)]) (c_Rules_formOf l g e8) rfl (rm_ok (Nat.le_of_ble_eq_true rfl) (Nat.le_of_ble_eq_true rfl)) (Nat.le_of_ble_eq_true rfl) rfl (st1 := [.ref (sK g q7), .ref (aD g v5)]) rfl d_Rules_allow_90 (fun H locs hw => ?_)
    obtain ⟨_, e9, hs⟩ := ob hs
    obtain ⟨q10, e11, hs⟩ := ob hs
    refine pg_callV C hw hl.1 ml_Rules_64 e9 (As := [.ref (sK g q7)]) (rest := []) (c_Form_fits l g e11) rfl (rm_ok (Nat.le_of_ble_eq_true rfl) (Nat.le_of_ble_eq_true rfl)) (Nat.le_of_ble_eq_true rfl) rfl (st1 := [.int q10.1]) rfl d_Rules_allow_93 (fun H locs hw => ?_)
    refine lv_if_eq hx hb d_Rules_allow_96 (tgt := 127) (by decide) (fun hc => ?_) (fun hc => ?_)
    · have hs := oi_t hc hs
      refine lv_iconst (v := 0) hx hb d_Rules_allow_127 (by decide) ?_
      obtain rfl := Option.some.inj hs
      exact pg_zret (v := 0) C hw rfl d_Rules_allow_128
    · have hs := oi_f hc hs
      refine lv_aload_n hx hb d_Rules_allow_99 rfl (lv_at hl 0 rfl) ?_
      obtain ⟨v13, e14, hs⟩ := ob hs
      refine pg_getR C hw fl_Rules_52 e14 d_Rules_allow_100 ?_
      refine lv_bipush (v := 115) hx hb d_Rules_allow_103 (by decide) ?_
      obtain ⟨_, e15, hs⟩ := ob hs
      obtain ⟨q16, e17, hs⟩ := ob hs
      refine pg_callV C hw hl.1 ml_Rules_68 e15 (As := [.int 115]) (rest := []) (c_Form_letterIsFreeIn l g e17) rfl (rm_ok (Nat.le_of_ble_eq_true rfl) (Nat.le_of_ble_eq_true rfl)) (Nat.le_of_ble_eq_true rfl) rfl (st1 := [.int q16]) rfl d_Rules_allow_105 (fun H locs hw => ?_)
      refine lv_if_ne hx hb d_Rules_allow_108 (tgt := 127) (by decide) (fun hc => ?_) (fun hc => ?_)
      · have hs := oi_f hc hs
        refine lv_iconst (v := 0) hx hb d_Rules_allow_127 (by decide) ?_
        obtain rfl := Option.some.inj hs
        exact pg_zret (v := 0) C hw rfl d_Rules_allow_128
      · have hs := oi_t hc hs
        refine lv_aload_n hx hb d_Rules_allow_111 rfl (lv_at hl 0 rfl) ?_
        obtain ⟨v19, e20, hs⟩ := ob hs
        refine pg_getR C hw fl_Rules_52 e20 d_Rules_allow_112 ?_
        refine lv_bipush (v := 116) hx hb d_Rules_allow_115 (by decide) ?_
        obtain ⟨_, e21, hs⟩ := ob hs
        obtain ⟨q22, e23, hs⟩ := ob hs
        refine pg_callV C hw hl.1 ml_Rules_68 e21 (As := [.int 116]) (rest := []) (c_Form_letterIsFreeIn l g e23) rfl (rm_ok (Nat.le_of_ble_eq_true rfl) (Nat.le_of_ble_eq_true rfl)) (Nat.le_of_ble_eq_true rfl) rfl (st1 := [.int q22]) rfl d_Rules_allow_117 (fun H locs hw => ?_)
        refine lv_if_ne hx hb d_Rules_allow_120 (tgt := 127) (by decide) (fun hc => ?_) (fun hc => ?_)
        · have hs := oi_f hc hs
          refine lv_iconst (v := 0) hx hb d_Rules_allow_127 (by decide) ?_
          obtain rfl := Option.some.inj hs
          exact pg_zret (v := 0) C hw rfl d_Rules_allow_128
        · have hs := oi_t hc hs
          refine lv_iconst (v := 1) hx hb d_Rules_allow_123 (by decide) ?_
          refine lv_goto hx hb d_Rules_allow_124 (tgt := 128) (by decide) ?_
          obtain rfl := Option.some.inj hs
          exact pg_zret (v := 1) C hw rfl d_Rules_allow_128
  have hs := oi_f hk7 hs
  refine by_c (fun (hk8 : x1 = 8) => ?_) (fun (hk8 : ¬ x1 = 8) => ?_)
  · have hs := oi_t hk8 hs
    refine lv_tableIn hx hb d_Rules_allow_1 (by rw [hk8]; decide) (by rw [hk8]; decide) (off := 128) (by rw [hk8]; decide) (tgt := 129) (by decide) ?_
    refine lv_aload_n hx hb d_Rules_allow_129 rfl (lv_at hl 0 rfl) ?_
    obtain ⟨v26, e27, hs⟩ := ob hs
    refine pg_getR C hw fl_Rules_52 e27 d_Rules_allow_130 ?_
    refine lv_iload_n hx hb d_Rules_allow_133 rfl (lv_at hl 1 rfl) ?_
    obtain ⟨q28, e29, hs⟩ := ob hs
    refine pg_callS C hw hl.1 ml_Rules_60 (As := [.int x1]) (rest := [.ref (aD g v26)]) (c_Rules_formOf l g e29) rfl (rm_ok (Nat.le_of_ble_eq_true rfl) (Nat.le_of_ble_eq_true rfl)) (Nat.le_of_ble_eq_true rfl) rfl (st1 := [.ref (sK g q28), .ref (aD g v26)]) rfl d_Rules_allow_134 (fun H locs hw => ?_)
    obtain ⟨_, e30, hs⟩ := ob hs
    obtain ⟨q31, e32, hs⟩ := ob hs
    refine pg_callV C hw hl.1 ml_Rules_64 e30 (As := [.ref (sK g q28)]) (rest := []) (c_Form_fits l g e32) rfl (rm_ok (Nat.le_of_ble_eq_true rfl) (Nat.le_of_ble_eq_true rfl)) (Nat.le_of_ble_eq_true rfl) rfl (st1 := [.int q31.1]) rfl d_Rules_allow_137 (fun H locs hw => ?_)
    refine lv_if_eq hx hb d_Rules_allow_140 (tgt := 156) (by decide) (fun hc => ?_) (fun hc => ?_)
    · have hs := oi_t hc hs
      refine lv_iconst (v := 0) hx hb d_Rules_allow_156 (by decide) ?_
      obtain rfl := Option.some.inj hs
      exact pg_zret (v := 0) C hw rfl d_Rules_allow_157
    · have hs := oi_f hc hs
      refine lv_aload_n hx hb d_Rules_allow_143 rfl (lv_at hl 0 rfl) ?_
      refine lv_bipush (v := 116) hx hb d_Rules_allow_144 (by decide) ?_
      obtain ⟨_, e34, hs⟩ := ob hs
      obtain ⟨q35, e36, hs⟩ := ob hs
      refine pg_callV C hw hl.1 ml_Rules_72 e34 (As := [.int 116]) (rest := []) (c_Rules_isReplacedBy l g e36) rfl (rm_ok (Nat.le_of_ble_eq_true rfl) (Nat.le_of_ble_eq_true rfl)) (Nat.le_of_ble_eq_true rfl) rfl (st1 := [.int q35.1]) rfl d_Rules_allow_146 (fun H locs hw => ?_)
      refine lv_if_eq hx hb d_Rules_allow_149 (tgt := 156) (by decide) (fun hc => ?_) (fun hc => ?_)
      · have hs := oi_t hc hs
        refine lv_iconst (v := 0) hx hb d_Rules_allow_156 (by decide) ?_
        obtain rfl := Option.some.inj hs
        exact pg_zret (v := 0) C hw rfl d_Rules_allow_157
      · have hs := oi_f hc hs
        refine lv_iconst (v := 1) hx hb d_Rules_allow_152 (by decide) ?_
        refine lv_goto hx hb d_Rules_allow_153 (tgt := 157) (by decide) ?_
        obtain rfl := Option.some.inj hs
        exact pg_zret (v := 1) C hw rfl d_Rules_allow_157
  have hs := oi_f hk8 hs
  refine by_c (fun (hk9 : x1 = 9) => ?_) (fun (hk9 : ¬ x1 = 9) => ?_)
  · have hs := oi_t hk9 hs
    refine lv_tableIn hx hb d_Rules_allow_1 (by rw [hk9]; decide) (by rw [hk9]; decide) (off := 157) (by rw [hk9]; decide) (tgt := 158) (by decide) ?_
    refine lv_aload_n hx hb d_Rules_allow_158 rfl (lv_at hl 0 rfl) ?_
    refine lv_aload_n hx hb d_Rules_allow_159 rfl (lv_at hl 0 rfl) ?_
    obtain ⟨v39, e40, hs⟩ := ob hs
    refine pg_getR C hw fl_Rules_36 e40 d_Rules_allow_160 ?_
    refine lv_iload_n hx hb d_Rules_allow_163 rfl (lv_at hl 2 rfl) ?_
    obtain ⟨_, e41, hs⟩ := ob hs
    obtain ⟨q42, e43, hs⟩ := ob hs
    refine pg_callV C hw hl.1 ml_Rules_75 e41 (As := [.int x2]) (rest := [.ref (aD g x0)]) (c_Laws_text l g e43) rfl (rm_ok (Nat.le_of_ble_eq_true rfl) (Nat.le_of_ble_eq_true rfl)) (Nat.le_of_ble_eq_true rfl) rfl (st1 := [.ref (aD g q42), .ref (aD g x0)]) rfl d_Rules_allow_164 (fun H locs hw => ?_)
    refine lv_aload_n hx hb d_Rules_allow_167 rfl (lv_at hl 0 rfl) ?_
    obtain ⟨v44, e45, hs⟩ := ob hs
    refine pg_getR C hw fl_Rules_36 e45 d_Rules_allow_168 ?_
    refine lv_iload_n hx hb d_Rules_allow_171 rfl (lv_at hl 3 rfl) ?_
    obtain ⟨_, e46, hs⟩ := ob hs
    obtain ⟨q47, e48, hs⟩ := ob hs
    refine pg_callV C hw hl.1 ml_Rules_75 e46 (As := [.int x3]) (rest := [.ref (aD g q42), .ref (aD g x0)]) (c_Laws_text l g e48) rfl (rm_ok (Nat.le_of_ble_eq_true rfl) (Nat.le_of_ble_eq_true rfl)) (Nat.le_of_ble_eq_true rfl) rfl (st1 := [.ref (aD g q47), .ref (aD g q42), .ref (aD g x0)]) rfl d_Rules_allow_172 (fun H locs hw => ?_)
    obtain ⟨_, e49, hs⟩ := ob hs
    obtain ⟨q50, e51, hs⟩ := ob hs
    refine pg_callV C hw hl.1 ml_Rules_81 e49 (As := [.ref (aD g q42), .ref (aD g q47)]) (rest := []) (c_Rules_isDetached l g e51) rfl (rm_ok (Nat.le_of_ble_eq_true rfl) (Nat.le_of_ble_eq_true rfl)) (Nat.le_of_ble_eq_true rfl) rfl (st1 := [.int q50]) rfl d_Rules_allow_175 (fun H locs hw => ?_)
    obtain ⟨_, e52, hs⟩ := ob hs
    obtain rfl := Option.some.inj hs
    exact pg_zret (v := q50) C hw (zr_n e52) d_Rules_allow_178
  have hs := oi_f hk9 hs
  refine by_c (fun (hk10 : x1 = 10) => ?_) (fun (hk10 : ¬ x1 = 10) => ?_)
  · have hs := oi_t hk10 hs
    refine lv_tableIn hx hb d_Rules_allow_1 (by rw [hk10]; decide) (by rw [hk10]; decide) (off := 178) (by rw [hk10]; decide) (tgt := 179) (by decide) ?_
    refine lv_aload_n hx hb d_Rules_allow_179 rfl (lv_at hl 0 rfl) ?_
    refine lv_aload_n hx hb d_Rules_allow_180 rfl (lv_at hl 0 rfl) ?_
    obtain ⟨v53, e54, hs⟩ := ob hs
    refine pg_getR C hw fl_Rules_36 e54 d_Rules_allow_181 ?_
    refine lv_iload_n hx hb d_Rules_allow_184 rfl (lv_at hl 2 rfl) ?_
    obtain ⟨_, e55, hs⟩ := ob hs
    obtain ⟨q56, e57, hs⟩ := ob hs
    refine pg_callV C hw hl.1 ml_Rules_75 e55 (As := [.int x2]) (rest := [.ref (aD g x0)]) (c_Laws_text l g e57) rfl (rm_ok (Nat.le_of_ble_eq_true rfl) (Nat.le_of_ble_eq_true rfl)) (Nat.le_of_ble_eq_true rfl) rfl (st1 := [.ref (aD g q56), .ref (aD g x0)]) rfl d_Rules_allow_185 (fun H locs hw => ?_)
    refine lv_iload_n hx hb d_Rules_allow_188 rfl (lv_at hl 3 rfl) ?_
    obtain ⟨_, e58, hs⟩ := ob hs
    obtain ⟨q59, e60, hs⟩ := ob hs
    refine pg_callV C hw hl.1 ml_Rules_85 e58 (As := [.ref (aD g q56), .int x3]) (rest := []) (c_Rules_isInstanceOf l g e60) rfl (rm_ok (Nat.le_of_ble_eq_true rfl) (Nat.le_of_ble_eq_true rfl)) (Nat.le_of_ble_eq_true rfl) rfl (st1 := [.int q59.1]) rfl d_Rules_allow_189 (fun H locs hw => ?_)
    obtain ⟨_, e61, hs⟩ := ob hs
    obtain rfl := Option.some.inj hs
    exact pg_zret (v := q59.1) C hw (zr_n e61) d_Rules_allow_192
  have hs := oi_f hk10 hs
  refine by_c (fun (hk11 : x1 = 11) => ?_) (fun (hk11 : ¬ x1 = 11) => ?_)
  · have hs := oi_t hk11 hs
    refine lv_tableIn hx hb d_Rules_allow_1 (by rw [hk11]; decide) (by rw [hk11]; decide) (off := 192) (by rw [hk11]; decide) (tgt := 193) (by decide) ?_
    refine lv_aload_n hx hb d_Rules_allow_193 rfl (lv_at hl 0 rfl) ?_
    refine lv_aload_n hx hb d_Rules_allow_194 rfl (lv_at hl 0 rfl) ?_
    obtain ⟨v62, e63, hs⟩ := ob hs
    refine pg_getR C hw fl_Rules_36 e63 d_Rules_allow_195 ?_
    refine lv_iload_n hx hb d_Rules_allow_198 rfl (lv_at hl 2 rfl) ?_
    obtain ⟨_, e64, hs⟩ := ob hs
    obtain ⟨q65, e66, hs⟩ := ob hs
    refine pg_callV C hw hl.1 ml_Rules_75 e64 (As := [.int x2]) (rest := [.ref (aD g x0)]) (c_Laws_text l g e66) rfl (rm_ok (Nat.le_of_ble_eq_true rfl) (Nat.le_of_ble_eq_true rfl)) (Nat.le_of_ble_eq_true rfl) rfl (st1 := [.ref (aD g q65), .ref (aD g x0)]) rfl d_Rules_allow_199 (fun H locs hw => ?_)
    obtain ⟨_, e67, hs⟩ := ob hs
    obtain ⟨q68, e69, hs⟩ := ob hs
    refine pg_callV C hw hl.1 ml_Rules_89 e67 (As := [.ref (aD g q65)]) (rest := []) (c_Rules_isForAllMembers l g e69) rfl (rm_ok (Nat.le_of_ble_eq_true rfl) (Nat.le_of_ble_eq_true rfl)) (Nat.le_of_ble_eq_true rfl) rfl (st1 := [.int q68.1]) rfl d_Rules_allow_202 (fun H locs hw => ?_)
    obtain ⟨_, e70, hs⟩ := ob hs
    obtain rfl := Option.some.inj hs
    exact pg_zret (v := q68.1) C hw (zr_n e70) d_Rules_allow_205
  have hs := oi_f hk11 hs
  refine by_c (fun (hk12 : x1 = 12) => ?_) (fun (hk12 : ¬ x1 = 12) => ?_)
  · have hs := oi_t hk12 hs
    refine lv_tableIn hx hb d_Rules_allow_1 (by rw [hk12]; decide) (by rw [hk12]; decide) (off := 205) (by rw [hk12]; decide) (tgt := 206) (by decide) ?_
    refine lv_aload_n hx hb d_Rules_allow_206 rfl (lv_at hl 0 rfl) ?_
    refine lv_aload_n hx hb d_Rules_allow_207 rfl (lv_at hl 0 rfl) ?_
    obtain ⟨v71, e72, hs⟩ := ob hs
    refine pg_getR C hw fl_Rules_36 e72 d_Rules_allow_208 ?_
    refine lv_iload_n hx hb d_Rules_allow_211 rfl (lv_at hl 2 rfl) ?_
    obtain ⟨_, e73, hs⟩ := ob hs
    obtain ⟨q74, e75, hs⟩ := ob hs
    refine pg_callV C hw hl.1 ml_Rules_75 e73 (As := [.int x2]) (rest := [.ref (aD g x0)]) (c_Laws_text l g e75) rfl (rm_ok (Nat.le_of_ble_eq_true rfl) (Nat.le_of_ble_eq_true rfl)) (Nat.le_of_ble_eq_true rfl) rfl (st1 := [.ref (aD g q74), .ref (aD g x0)]) rfl d_Rules_allow_212 (fun H locs hw => ?_)
    refine lv_aload_n hx hb d_Rules_allow_215 rfl (lv_at hl 0 rfl) ?_
    obtain ⟨v76, e77, hs⟩ := ob hs
    refine pg_getR C hw fl_Rules_36 e77 d_Rules_allow_216 ?_
    refine lv_iload_n hx hb d_Rules_allow_219 rfl (lv_at hl 3 rfl) ?_
    obtain ⟨_, e78, hs⟩ := ob hs
    obtain ⟨q79, e80, hs⟩ := ob hs
    refine pg_callV C hw hl.1 ml_Rules_75 e78 (As := [.int x3]) (rest := [.ref (aD g q74), .ref (aD g x0)]) (c_Laws_text l g e80) rfl (rm_ok (Nat.le_of_ble_eq_true rfl) (Nat.le_of_ble_eq_true rfl)) (Nat.le_of_ble_eq_true rfl) rfl (st1 := [.ref (aD g q79), .ref (aD g q74), .ref (aD g x0)]) rfl d_Rules_allow_220 (fun H locs hw => ?_)
    obtain ⟨_, e81, hs⟩ := ob hs
    obtain ⟨q82, e83, hs⟩ := ob hs
    refine pg_callV C hw hl.1 ml_Rules_93 e81 (As := [.ref (aD g q74), .ref (aD g q79)]) (rest := []) (c_Rules_isByInduction l g e83) rfl (rm_ok (Nat.le_of_ble_eq_true rfl) (Nat.le_of_ble_eq_true rfl)) (Nat.le_of_ble_eq_true rfl) rfl (st1 := [.int q82.1]) rfl d_Rules_allow_223 (fun H locs hw => ?_)
    obtain ⟨_, e84, hs⟩ := ob hs
    obtain rfl := Option.some.inj hs
    exact pg_zret (v := q82.1) C hw (zr_n e84) d_Rules_allow_226
  have hs := oi_f hk12 hs
  refine by_c (fun (hk13 : x1 = 13) => ?_) (fun (hk13 : ¬ x1 = 13) => ?_)
  · have hs := oi_t hk13 hs
    refine lv_tableIn hx hb d_Rules_allow_1 (by rw [hk13]; decide) (by rw [hk13]; decide) (off := 226) (by rw [hk13]; decide) (tgt := 227) (by decide) ?_
    refine lv_aload_n hx hb d_Rules_allow_227 rfl (lv_at hl 0 rfl) ?_
    obtain ⟨_, e85, hs⟩ := ob hs
    obtain ⟨q86, e87, hs⟩ := ob hs
    refine pg_callV C hw hl.1 ml_Rules_96 e85 (As := []) (rest := []) (c_Rules_isUnfolding l g e87) rfl (rm_ok (Nat.le_of_ble_eq_true rfl) (Nat.le_of_ble_eq_true rfl)) (Nat.le_of_ble_eq_true rfl) rfl (st1 := [.int q86.1]) rfl d_Rules_allow_228 (fun H locs hw => ?_)
    obtain ⟨_, e88, hs⟩ := ob hs
    obtain rfl := Option.some.inj hs
    exact pg_zret (v := q86.1) C hw (zr_n e88) d_Rules_allow_231
  have hs := oi_f hk13 hs
  refine by_c (fun (hk14 : x1 = 14) => ?_) (fun (hk14 : ¬ x1 = 14) => ?_)
  · have hs := oi_t hk14 hs
    refine lv_tableIn hx hb d_Rules_allow_1 (by rw [hk14]; decide) (by rw [hk14]; decide) (off := 231) (by rw [hk14]; decide) (tgt := 232) (by decide) ?_
    exact k_Rules_allow_232 C hw (lv_sub hl [0, 1] rfl) hs
  have hs := oi_f hk14 hs
  refine by_c (fun (hk15 : x1 = 15) => ?_) (fun (hk15 : ¬ x1 = 15) => ?_)
  · have hs := oi_t hk15 hs
    refine lv_tableIn hx hb d_Rules_allow_1 (by rw [hk15]; decide) (by rw [hk15]; decide) (off := 231) (by rw [hk15]; decide) (tgt := 232) (by decide) ?_
    exact k_Rules_allow_232 C hw (lv_sub hl [0, 1] rfl) hs
  have hs := oi_f hk15 hs
  refine lv_tableOut hx hb d_Rules_allow_1 (tb_out (by have q0 := lv_neT (a := 0) hk0 (by decide); have q1 := lv_neT (a := 1) hk1 (by decide); have q2 := lv_neT (a := 2) hk2 (by decide); have q3 := lv_neT (a := 3) hk3 (by decide); have q4 := lv_neT (a := 4) hk4 (by decide); have q5 := lv_neT (a := 5) hk5 (by decide); have q6 := lv_neT (a := 6) hk6 (by decide); have q7 := lv_neT (a := 7) hk7 (by decide); have q8 := lv_neT (a := 8) hk8 (by decide); have q9 := lv_neT (a := 9) hk9 (by decide); have q10 := lv_neT (a := 10) hk10 (by decide); have q11 := lv_neT (a := 11) hk11 (by decide); have q12 := lv_neT (a := 12) hk12 (by decide); have q13 := lv_neT (a := 13) hk13 (by decide); have q14 := lv_neT (a := 14) hk14 (by decide); have q15 := lv_neT (a := 15) hk15 (by decide); omega)) (tgt := 261) (by decide) ?_
  exact k_Rules_allow_261 C hw (lv_sub hl [0, 1] rfl) hs

end
