section
variable {p : Program} {l : Launch} {e : Env} {s : State} {m : MethodId} {args : Array Value} {below : List Frame} {meth : Method} {c : Code} {g : GG}
theorem d_Worker_truthOf_0 : decode b_Worker_truthOf 0 = .ok (.aload_n 0, 1) := by decide +kernel
theorem d_Worker_truthOf_1 : decode b_Worker_truthOf 1 = .ok (.iconst 0, 1) := by decide +kernel
theorem d_Worker_truthOf_2 : decode b_Worker_truthOf 2 = .ok (.putfield 15, 3) := by decide +kernel
theorem d_Worker_truthOf_5 : decode b_Worker_truthOf 5 = .ok (.aload_n 0, 1) := by decide +kernel
theorem d_Worker_truthOf_6 : decode b_Worker_truthOf 6 = .ok (.aload_n 1, 1) := by decide +kernel
theorem d_Worker_truthOf_7 : decode b_Worker_truthOf 7 = .ok (.iconst 0, 1) := by decide +kernel
theorem d_Worker_truthOf_8 : decode b_Worker_truthOf 8 = .ok (.iconst 0, 1) := by decide +kernel
theorem d_Worker_truthOf_9 : decode b_Worker_truthOf 9 = .ok (.iconst 1, 1) := by decide +kernel
theorem d_Worker_truthOf_10 : decode b_Worker_truthOf 10 = .ok (.invokevirtual 27, 3) := by decide +kernel
theorem d_Worker_truthOf_13 : decode b_Worker_truthOf 13 = .ok (.ireturn, 1) := by decide +kernel
def s_Worker_truthOf (x0 : Nat) (x1 : Nat) (h : HP) : Option (Int32 × HP) :=
  (pI h x0 4 2 0).bind fun h1 =>
  (kd x0 4).bind fun _ =>
  ((s_grp_Worker_broughtBy 150).2.2.2.1 x0 x1 0 0 1 h1).bind fun q4 =>
  some (q4.1, q4.2)
set_option maxHeartbeats 4000000 in
set_option maxRecDepth 100000 in
theorem c_Worker_truthOf (l : Launch) (g : GG) {x0 : Nat} {x1 : Nat} {h : HP} {z : Int32 × HP} (hs : s_Worker_truthOf x0 x1 h = some z) : Ct l g y_Worker_truthOf w_Worker_truthOf (rmS 154 5194) [.ref (aD g x0), .ref (aD g x1)] h (some (.int z.1)) z.2 := by
  refine Ct.of (own := R_Worker) (by decide) rfl rfl (Nat.le_of_ble_eq_true rfl) ?_
  intro p e s m args below meth c ls C hl hw
  have hx := C.1
  have hb := C.2.1
  have hl : lv_has ls 2 [(0, .ref (aD g x0)), (1, .ref (aD g x1))] := hl
  unfold s_Worker_truthOf at hs
  refine lv_aload_n hx hb d_Worker_truthOf_0 rfl (lv_at hl 0 rfl) ?_
  refine lv_iconst (v := 0) hx hb d_Worker_truthOf_1 (by decide) ?_
  obtain ⟨h1, e2, hs⟩ := ob hs
  refine pg_putI C hw pl_Worker_15 e2 d_Worker_truthOf_2 (fun H locs hw => ?_)
  refine lv_aload_n hx hb d_Worker_truthOf_5 rfl (lv_at hl 0 rfl) ?_
  refine lv_aload_n hx hb d_Worker_truthOf_6 rfl (lv_at hl 1 rfl) ?_
  refine lv_iconst (v := 0) hx hb d_Worker_truthOf_7 (by decide) ?_
  refine lv_iconst (v := 0) hx hb d_Worker_truthOf_8 (by decide) ?_
  refine lv_iconst (v := 1) hx hb d_Worker_truthOf_9 (by decide) ?_
  obtain ⟨_, e3, hs⟩ := ob hs
  obtain ⟨q4, e5, hs⟩ := ob hs
  refine pg_callV C hw hl.1 ml_Worker_27 e3 (As := [.ref (aD g x1), .int 0, .int 0, .int 1]) (rest := []) ((cg_Worker_broughtBy l g 150).2.2.2.1 e5) rfl (rm_ok (Nat.le_of_ble_eq_true rfl) (Nat.le_of_ble_eq_true rfl)) (Nat.le_of_ble_eq_true rfl) rfl (st1 := [.int q4.1]) rfl d_Worker_truthOf_10 (fun H locs hw => ?_)
  obtain rfl := Option.some.inj hs
  exact pg_iret C hw d_Worker_truthOf_13

end
section
variable {p : Program} {l : Launch} {e : Env} {s : State} {m : MethodId} {args : Array Value} {below : List Frame} {meth : Method} {c : Code} {g : GG}
theorem d_AdjoinedSets_firstRefuting_0 : decode b_AdjoinedSets_firstRefuting 0 = .ok (.iload_n 1, 1) := by decide +kernel
theorem d_AdjoinedSets_firstRefuting_1 : decode b_AdjoinedSets_firstRefuting 1 = .ok (.invokestatic 174, 3) := by decide +kernel
theorem d_AdjoinedSets_firstRefuting_4 : decode b_AdjoinedSets_firstRefuting 4 = .ok (.istore_n 3, 1) := by decide +kernel
theorem d_AdjoinedSets_firstRefuting_5 : decode b_AdjoinedSets_firstRefuting 5 = .ok (.iload_n 1, 1) := by decide +kernel
theorem d_AdjoinedSets_firstRefuting_6 : decode b_AdjoinedSets_firstRefuting 6 = .ok (.iload_n 1, 1) := by decide +kernel
theorem d_AdjoinedSets_firstRefuting_7 : decode b_AdjoinedSets_firstRefuting 7 = .ok (.iconst 1, 1) := by decide +kernel
theorem d_AdjoinedSets_firstRefuting_8 : decode b_AdjoinedSets_firstRefuting 8 = .ok (.isub, 1) := by decide +kernel
theorem d_AdjoinedSets_firstRefuting_9 : decode b_AdjoinedSets_firstRefuting 9 = .ok (.iand, 1) := by decide +kernel
theorem d_AdjoinedSets_firstRefuting_10 : decode b_AdjoinedSets_firstRefuting 10 = .ok (.invokestatic 174, 3) := by decide +kernel
theorem d_AdjoinedSets_firstRefuting_13 : decode b_AdjoinedSets_firstRefuting 13 = .ok (.istore 4, 2) := by decide +kernel
theorem d_AdjoinedSets_firstRefuting_15 : decode b_AdjoinedSets_firstRefuting 15 = .ok (.iload_n 3, 1) := by decide +kernel
theorem d_AdjoinedSets_firstRefuting_16 : decode b_AdjoinedSets_firstRefuting 16 = .ok (.bipush 8, 2) := by decide +kernel
theorem d_AdjoinedSets_firstRefuting_18 : decode b_AdjoinedSets_firstRefuting 18 = .ok (.if_icmp .ge 7, 3) := by decide +kernel
theorem d_AdjoinedSets_firstRefuting_21 : decode b_AdjoinedSets_firstRefuting 21 = .ok (.iload_n 2, 1) := by decide +kernel
theorem d_AdjoinedSets_firstRefuting_22 : decode b_AdjoinedSets_firstRefuting 22 = .ok (.goto 4, 3) := by decide +kernel
theorem d_AdjoinedSets_firstRefuting_25 : decode b_AdjoinedSets_firstRefuting 25 = .ok (.iconst 1, 1) := by decide +kernel
theorem d_AdjoinedSets_firstRefuting_26 : decode b_AdjoinedSets_firstRefuting 26 = .ok (.istore 5, 2) := by decide +kernel
theorem d_AdjoinedSets_firstRefuting_28 : decode b_AdjoinedSets_firstRefuting 28 = .ok (.iload 4, 2) := by decide +kernel
theorem d_AdjoinedSets_firstRefuting_30 : decode b_AdjoinedSets_firstRefuting 30 = .ok (.bipush 8, 2) := by decide +kernel
theorem d_AdjoinedSets_firstRefuting_32 : decode b_AdjoinedSets_firstRefuting 32 = .ok (.if_icmp .ge 7, 3) := by decide +kernel
theorem d_AdjoinedSets_firstRefuting_35 : decode b_AdjoinedSets_firstRefuting 35 = .ok (.iload_n 2, 1) := by decide +kernel
theorem d_AdjoinedSets_firstRefuting_36 : decode b_AdjoinedSets_firstRefuting 36 = .ok (.goto 4, 3) := by decide +kernel
theorem d_AdjoinedSets_firstRefuting_39 : decode b_AdjoinedSets_firstRefuting 39 = .ok (.iconst 1, 1) := by decide +kernel
theorem d_AdjoinedSets_firstRefuting_40 : decode b_AdjoinedSets_firstRefuting 40 = .ok (.istore 6, 2) := by decide +kernel
theorem d_AdjoinedSets_firstRefuting_42 : decode b_AdjoinedSets_firstRefuting 42 = .ok (.iconst 0, 1) := by decide +kernel
theorem d_AdjoinedSets_firstRefuting_43 : decode b_AdjoinedSets_firstRefuting 43 = .ok (.istore 7, 2) := by decide +kernel
theorem d_AdjoinedSets_firstRefuting_45 : decode b_AdjoinedSets_firstRefuting 45 = .ok (.iload 7, 2) := by decide +kernel
theorem d_AdjoinedSets_firstRefuting_47 : decode b_AdjoinedSets_firstRefuting 47 = .ok (.iload 5, 2) := by decide +kernel
theorem d_AdjoinedSets_firstRefuting_49 : decode b_AdjoinedSets_firstRefuting 49 = .ok (.if_icmp .ge 71, 3) := by decide +kernel
theorem d_AdjoinedSets_firstRefuting_52 : decode b_AdjoinedSets_firstRefuting 52 = .ok (.iconst 0, 1) := by decide +kernel
theorem d_AdjoinedSets_firstRefuting_53 : decode b_AdjoinedSets_firstRefuting 53 = .ok (.istore 8, 2) := by decide +kernel
theorem d_AdjoinedSets_firstRefuting_55 : decode b_AdjoinedSets_firstRefuting 55 = .ok (.iload 8, 2) := by decide +kernel
theorem d_AdjoinedSets_firstRefuting_57 : decode b_AdjoinedSets_firstRefuting 57 = .ok (.iload 6, 2) := by decide +kernel
theorem d_AdjoinedSets_firstRefuting_59 : decode b_AdjoinedSets_firstRefuting 59 = .ok (.if_icmp .ge 55, 3) := by decide +kernel
theorem d_AdjoinedSets_firstRefuting_62 : decode b_AdjoinedSets_firstRefuting 62 = .ok (.aload_n 0, 1) := by decide +kernel
theorem d_AdjoinedSets_firstRefuting_63 : decode b_AdjoinedSets_firstRefuting 63 = .ok (.getfield 48, 3) := by decide +kernel
theorem d_AdjoinedSets_firstRefuting_66 : decode b_AdjoinedSets_firstRefuting 66 = .ok (.iload_n 3, 1) := by decide +kernel
theorem d_AdjoinedSets_firstRefuting_67 : decode b_AdjoinedSets_firstRefuting 67 = .ok (.iload 7, 2) := by decide +kernel
theorem d_AdjoinedSets_firstRefuting_69 : decode b_AdjoinedSets_firstRefuting 69 = .ok (.i2l, 1) := by decide +kernel
theorem d_AdjoinedSets_firstRefuting_70 : decode b_AdjoinedSets_firstRefuting 70 = .ok (.invokevirtual 170, 3) := by decide +kernel
theorem d_AdjoinedSets_firstRefuting_73 : decode b_AdjoinedSets_firstRefuting 73 = .ok (.aload_n 0, 1) := by decide +kernel
theorem d_AdjoinedSets_firstRefuting_74 : decode b_AdjoinedSets_firstRefuting 74 = .ok (.getfield 48, 3) := by decide +kernel
theorem d_AdjoinedSets_firstRefuting_77 : decode b_AdjoinedSets_firstRefuting 77 = .ok (.iload 4, 2) := by decide +kernel
theorem d_AdjoinedSets_firstRefuting_79 : decode b_AdjoinedSets_firstRefuting 79 = .ok (.iload 8, 2) := by decide +kernel
theorem d_AdjoinedSets_firstRefuting_81 : decode b_AdjoinedSets_firstRefuting 81 = .ok (.i2l, 1) := by decide +kernel
theorem d_AdjoinedSets_firstRefuting_82 : decode b_AdjoinedSets_firstRefuting 82 = .ok (.invokevirtual 170, 3) := by decide +kernel
theorem d_AdjoinedSets_firstRefuting_85 : decode b_AdjoinedSets_firstRefuting 85 = .ok (.aload_n 0, 1) := by decide +kernel
theorem d_AdjoinedSets_firstRefuting_86 : decode b_AdjoinedSets_firstRefuting 86 = .ok (.getfield 48, 3) := by decide +kernel
theorem d_AdjoinedSets_firstRefuting_89 : decode b_AdjoinedSets_firstRefuting 89 = .ok (.aload_n 0, 1) := by decide +kernel
theorem d_AdjoinedSets_firstRefuting_90 : decode b_AdjoinedSets_firstRefuting 90 = .ok (.getfield 16, 3) := by decide +kernel
theorem d_AdjoinedSets_firstRefuting_93 : decode b_AdjoinedSets_firstRefuting 93 = .ok (.invokevirtual 93, 3) := by decide +kernel
theorem d_AdjoinedSets_firstRefuting_96 : decode b_AdjoinedSets_firstRefuting 96 = .ok (.ifCond .ne 12, 3) := by decide +kernel
theorem d_AdjoinedSets_firstRefuting_99 : decode b_AdjoinedSets_firstRefuting 99 = .ok (.bipush 64, 2) := by decide +kernel
theorem d_AdjoinedSets_firstRefuting_101 : decode b_AdjoinedSets_firstRefuting 101 = .ok (.iload 7, 2) := by decide +kernel
theorem d_AdjoinedSets_firstRefuting_103 : decode b_AdjoinedSets_firstRefuting 103 = .ok (.imul, 1) := by decide +kernel
theorem d_AdjoinedSets_firstRefuting_104 : decode b_AdjoinedSets_firstRefuting 104 = .ok (.iload 8, 2) := by decide +kernel
theorem d_AdjoinedSets_firstRefuting_106 : decode b_AdjoinedSets_firstRefuting 106 = .ok (.iadd, 1) := by decide +kernel
theorem d_AdjoinedSets_firstRefuting_107 : decode b_AdjoinedSets_firstRefuting 107 = .ok (.ireturn, 1) := by decide +kernel
theorem d_AdjoinedSets_firstRefuting_108 : decode b_AdjoinedSets_firstRefuting 108 = .ok (.iinc 8 1, 3) := by decide +kernel
theorem d_AdjoinedSets_firstRefuting_111 : decode b_AdjoinedSets_firstRefuting 111 = .ok (.goto (-56), 3) := by decide +kernel
theorem d_AdjoinedSets_firstRefuting_114 : decode b_AdjoinedSets_firstRefuting 114 = .ok (.iinc 7 1, 3) := by decide +kernel
theorem d_AdjoinedSets_firstRefuting_117 : decode b_AdjoinedSets_firstRefuting 117 = .ok (.goto (-72), 3) := by decide +kernel
theorem d_AdjoinedSets_firstRefuting_120 : decode b_AdjoinedSets_firstRefuting 120 = .ok (.bipush (-4), 2) := by decide +kernel
theorem d_AdjoinedSets_firstRefuting_122 : decode b_AdjoinedSets_firstRefuting 122 = .ok (.ireturn, 1) := by decide +kernel
def s_AdjoinedSets_firstRefuting_55 (c45 : Nat → Int32 → Int32 → Int32 → Int32 → Int32 → HP → Option (Int32 × HP)) : Nat → Nat → Int32 → Int32 → Int32 → Int32 → Int32 → Int32 → HP → Option (Int32 × HP)
  | 0 => fun _ _ _ _ _ _ _ _ => none
  | k + 1 => fun x0 x3 x4 x5 x6 x7 x8 h =>
  if x6 ≤ x8 then (
    c45 x0 x3 x4 x5 x6 (x7 + 1) h)
  else (
    (gR h x0 8 5).bind fun v1 =>
    (kd v1 4).bind fun _ =>
    (s_Worker_give v1 x3 x7.toInt64 h).bind fun q4 =>
    (gR q4 x0 8 5).bind fun v6 =>
    (kd v6 4).bind fun _ =>
    (s_Worker_give v6 x4 x8.toInt64 q4).bind fun q9 =>
    (gR q9 x0 8 5).bind fun v11 =>
    (gR q9 x0 8 1).bind fun v13 =>
    (kd v11 4).bind fun _ =>
    (s_Worker_truthOf v11 v13 q9).bind fun q16 =>
    if q16.1 = 0 then (
      some (((64 * x7) + x8), q16.2))
    else (
      (s_AdjoinedSets_firstRefuting_55 c45 k) x0 x3 x4 x5 x6 x7 (x8 + 1) q16.2))
set_option maxHeartbeats 4000000 in
set_option maxRecDepth 100000 in
theorem k_AdjoinedSets_firstRefuting_55 {z : Int32 × HP} (C : CX g R_AdjoinedSets b_AdjoinedSets_firstRefuting 9 (some .int) p s m args meth c) (c45 : Nat → Int32 → Int32 → Int32 → Int32 → Int32 → HP → Option (Int32 × HP))
    (hc45 : ∀ {x0 : Nat} {x3 : Int32} {x4 : Int32} {x5 : Int32} {x6 : Int32} {x7 : Int32} {h : HP} {H : Heap} {locs : List Loc} {ls : Array Slot}, WD g h s.heap H locs → lv_has ls 9 [(0, .ref (aD g x0)), (3, .int x3), (4, .int x4), (5, .int x5), (6, .int x6), (7, .int x7)] → c45 x0 x3 x4 x5 x6 x7 h = some z → W p l e (rmS 155 5215) s m args below meth c H locs 0 0 (MQ below (Qq g (some (.int z.1)) z.2) args s 0 0 (inA g)) (F0 m 45 ls [])) : ∀ (k : Nat) {x0 : Nat} {x3 : Int32} {x4 : Int32} {x5 : Int32} {x6 : Int32} {x7 : Int32} {x8 : Int32} {h : HP} {H : Heap} {locs : List Loc} {ls : Array Slot}, WD g h s.heap H locs → lv_has ls 9 [(0, .ref (aD g x0)), (3, .int x3), (4, .int x4), (5, .int x5), (6, .int x6), (7, .int x7), (8, .int x8)] → s_AdjoinedSets_firstRefuting_55 c45 k x0 x3 x4 x5 x6 x7 x8 h = some z → W p l e (rmS 155 5215) s m args below meth c H locs 0 0 (MQ below (Qq g (some (.int z.1)) z.2) args s 0 0 (inA g)) (F0 m 55 ls []) := by
  have hx := C.1
  have hb := C.2.1
  intro k
  induction k with
  | zero =>
    intro x0 x3 x4 x5 x6 x7 x8 h H locs ls hw hl hs
    exact (no_s hs).elim
  | succ k ih =>
    intro x0 x3 x4 x5 x6 x7 x8 h H locs ls hw hl hs
    rw [s_AdjoinedSets_firstRefuting_55] at hs
    refine lv_iload hx hb d_AdjoinedSets_firstRefuting_55 (lv_at hl 6 rfl) ?_
    refine lv_iload hx hb d_AdjoinedSets_firstRefuting_57 (lv_at hl 4 rfl) ?_
    refine lv_icmp_ge hx hb d_AdjoinedSets_firstRefuting_59 (tgt := 114) (by decide) (fun hc => ?_) (fun hc => ?_)
    · have hs := oi_t hc hs
      refine lv_iinc hx hb d_AdjoinedSets_firstRefuting_114 hl (k := 5) rfl (v := (x7 + 1)) (iinc_e _ (by decide)) (by decide) (lv' := [(7, .int (x7 + 1)), (0, .ref (aD g x0)), (3, .int x3), (4, .int x4), (5, .int x5), (6, .int x6), (8, .int x8)]) rfl (fun ls hl => ?_)
      refine lv_goto hx hb d_AdjoinedSets_firstRefuting_117 (tgt := 45) (by decide) ?_
      exact hc45 hw (lv_sub hl [1, 2, 3, 4, 5, 0] rfl) hs
    · have hs := oi_f hc hs
      refine lv_aload_n hx hb d_AdjoinedSets_firstRefuting_62 rfl (lv_at hl 0 rfl) ?_
      obtain ⟨v1, e2, hs⟩ := ob hs
      refine pg_getR C hw fl_AdjoinedSets_48 e2 d_AdjoinedSets_firstRefuting_63 ?_
      refine lv_iload_n hx hb d_AdjoinedSets_firstRefuting_66 rfl (lv_at hl 1 rfl) ?_
      refine lv_iload hx hb d_AdjoinedSets_firstRefuting_67 (lv_at hl 5 rfl) ?_
      refine lv_i2l (v := x7.toInt64) hx hb d_AdjoinedSets_firstRefuting_69 rfl ?_
      obtain ⟨_, e3, hs⟩ := ob hs
      obtain ⟨q4, e5, hs⟩ := ob hs
      refine pg_callV C hw hl.1 ml_AdjoinedSets_170 e3 (As := [.int x3, .long x7.toInt64]) (rest := []) (c_Worker_give l g e5) rfl (rm_ok (Nat.le_of_ble_eq_true rfl) (Nat.le_of_ble_eq_true rfl)) (Nat.le_of_ble_eq_true rfl) rfl (st1 := []) rfl d_AdjoinedSets_firstRefuting_70 (fun H locs hw => ?_)
      refine lv_aload_n hx hb d_AdjoinedSets_firstRefuting_73 rfl (lv_at hl 0 rfl) ?_
      obtain ⟨v6, e7, hs⟩ := ob hs
      refine pg_getR C hw fl_AdjoinedSets_48 e7 d_AdjoinedSets_firstRefuting_74 ?_
      refine lv_iload hx hb d_AdjoinedSets_firstRefuting_77 (lv_at hl 2 rfl) ?_
      refine lv_iload hx hb d_AdjoinedSets_firstRefuting_79 (lv_at hl 6 rfl) ?_
      refine lv_i2l (v := x8.toInt64) hx hb d_AdjoinedSets_firstRefuting_81 rfl ?_
      obtain ⟨_, e8, hs⟩ := ob hs
      obtain ⟨q9, e10, hs⟩ := ob hs
      refine pg_callV C hw hl.1 ml_AdjoinedSets_170 e8 (As := [.int x4, .long x8.toInt64]) (rest := []) (c_Worker_give l g e10) rfl (rm_ok (Nat.le_of_ble_eq_true rfl) (Nat.le_of_ble_eq_true rfl)) (Nat.le_of_ble_eq_true rfl) rfl (st1 := []) rfl d_AdjoinedSets_firstRefuting_82 (fun H locs hw => ?_)
      refine lv_aload_n hx hb d_AdjoinedSets_firstRefuting_85 rfl (lv_at hl 0 rfl) ?_
      obtain ⟨v11, e12, hs⟩ := ob hs
      refine pg_getR C hw fl_AdjoinedSets_48 e12 d_AdjoinedSets_firstRefuting_86 ?_
      refine lv_aload_n hx hb d_AdjoinedSets_firstRefuting_89 rfl (lv_at hl 0 rfl) ?_
      obtain ⟨v13, e14, hs⟩ := ob hs
      refine pg_getR C hw fl_AdjoinedSets_16 e14 d_AdjoinedSets_firstRefuting_90 ?_
      obtain ⟨_, e15, hs⟩ := ob hs
      obtain ⟨q16, e17, hs⟩ := ob hs
      refine pg_callV C hw hl.1 ml_AdjoinedSets_93 e15 (As := [.ref (aD g v13)]) (rest := []) (c_Worker_truthOf l g e17) rfl (rm_ok (Nat.le_of_ble_eq_true rfl) (Nat.le_of_ble_eq_true rfl)) (Nat.le_of_ble_eq_true rfl) rfl (st1 := [.int q16.1]) rfl d_AdjoinedSets_firstRefuting_93 (fun H locs hw => ?_)
      refine lv_if_ne hx hb d_AdjoinedSets_firstRefuting_96 (tgt := 108) (by decide) (fun hc => ?_) (fun hc => ?_)
      · have hs := oi_f hc hs
        refine lv_iinc hx hb d_AdjoinedSets_firstRefuting_108 hl (k := 6) rfl (v := (x8 + 1)) (iinc_e _ (by decide)) (by decide) (lv' := [(8, .int (x8 + 1)), (0, .ref (aD g x0)), (3, .int x3), (4, .int x4), (5, .int x5), (6, .int x6), (7, .int x7)]) rfl (fun ls hl => ?_)
        refine lv_goto hx hb d_AdjoinedSets_firstRefuting_111 (tgt := 55) (by decide) ?_
        exact ih hw (lv_sub hl [1, 2, 3, 4, 5, 6, 0] rfl) hs
      · have hs := oi_t hc hs
        refine lv_bipush (v := 64) hx hb d_AdjoinedSets_firstRefuting_99 (by decide) ?_
        refine lv_iload hx hb d_AdjoinedSets_firstRefuting_101 (lv_at hl 5 rfl) ?_
        refine lv_imul hx hb d_AdjoinedSets_firstRefuting_103 ?_
        refine lv_iload hx hb d_AdjoinedSets_firstRefuting_104 (lv_at hl 6 rfl) ?_
        refine lv_iadd hx hb d_AdjoinedSets_firstRefuting_106 ?_
        obtain rfl := Option.some.inj hs
        exact pg_iret C hw d_AdjoinedSets_firstRefuting_107

def s_AdjoinedSets_firstRefuting_45 : Nat → Nat → Int32 → Int32 → Int32 → Int32 → Int32 → HP → Option (Int32 × HP)
  | 0 => fun _ _ _ _ _ _ _ => none
  | k + 1 => fun x0 x3 x4 x5 x6 x7 h =>
  if x5 ≤ x7 then (
    some ((-4), h))
  else (
    s_AdjoinedSets_firstRefuting_55 (s_AdjoinedSets_firstRefuting_45 k) 20000 x0 x3 x4 x5 x6 x7 0 h)
set_option maxHeartbeats 4000000 in
set_option maxRecDepth 100000 in
theorem k_AdjoinedSets_firstRefuting_45 {z : Int32 × HP} (C : CX g R_AdjoinedSets b_AdjoinedSets_firstRefuting 9 (some .int) p s m args meth c) : ∀ (k : Nat) {x0 : Nat} {x3 : Int32} {x4 : Int32} {x5 : Int32} {x6 : Int32} {x7 : Int32} {h : HP} {H : Heap} {locs : List Loc} {ls : Array Slot}, WD g h s.heap H locs → lv_has ls 9 [(0, .ref (aD g x0)), (3, .int x3), (4, .int x4), (5, .int x5), (6, .int x6), (7, .int x7)] → s_AdjoinedSets_firstRefuting_45 k x0 x3 x4 x5 x6 x7 h = some z → W p l e (rmS 155 5215) s m args below meth c H locs 0 0 (MQ below (Qq g (some (.int z.1)) z.2) args s 0 0 (inA g)) (F0 m 45 ls []) := by
  have hx := C.1
  have hb := C.2.1
  intro k
  induction k with
  | zero =>
    intro x0 x3 x4 x5 x6 x7 h H locs ls hw hl hs
    exact (no_s hs).elim
  | succ k ih =>
    intro x0 x3 x4 x5 x6 x7 h H locs ls hw hl hs
    rw [s_AdjoinedSets_firstRefuting_45] at hs
    refine lv_iload hx hb d_AdjoinedSets_firstRefuting_45 (lv_at hl 5 rfl) ?_
    refine lv_iload hx hb d_AdjoinedSets_firstRefuting_47 (lv_at hl 3 rfl) ?_
    refine lv_icmp_ge hx hb d_AdjoinedSets_firstRefuting_49 (tgt := 120) (by decide) (fun hc => ?_) (fun hc => ?_)
    · have hs := oi_t hc hs
      refine lv_bipush (v := (-4)) hx hb d_AdjoinedSets_firstRefuting_120 (by decide) ?_
      obtain rfl := Option.some.inj hs
      exact pg_iret C hw d_AdjoinedSets_firstRefuting_122
    · have hs := oi_f hc hs
      refine lv_iconst (v := 0) hx hb d_AdjoinedSets_firstRefuting_52 (by decide) ?_
      refine lv_istore hx hb d_AdjoinedSets_firstRefuting_53 hl (by decide) (lv' := [(8, .int 0), (0, .ref (aD g x0)), (3, .int x3), (4, .int x4), (5, .int x5), (6, .int x6), (7, .int x7)]) rfl (fun ls hl => ?_)
      exact k_AdjoinedSets_firstRefuting_55 C (s_AdjoinedSets_firstRefuting_45 k) ih 20000 hw (lv_sub hl [1, 2, 3, 4, 5, 6, 0] rfl) hs

def s_AdjoinedSets_firstRefuting_40 (x0 : Nat) (x3 : Int32) (x4 : Int32) (x5 : Int32) (t0 : Int32) (h : HP) : Option (Int32 × HP) :=
  s_AdjoinedSets_firstRefuting_45 20000 x0 x3 x4 x5 t0 0 h
set_option maxHeartbeats 4000000 in
set_option maxRecDepth 100000 in
theorem k_AdjoinedSets_firstRefuting_40 {x0 : Nat} {x3 : Int32} {x4 : Int32} {x5 : Int32} {t0 : Int32} {h : HP} {z : Int32 × HP} (C : CX g R_AdjoinedSets b_AdjoinedSets_firstRefuting 9 (some .int) p s m args meth c) {H : Heap} {locs : List Loc} {ls : Array Slot} (hw : WD g h s.heap H locs) (hl : lv_has ls 9 [(0, .ref (aD g x0)), (3, .int x3), (4, .int x4), (5, .int x5)]) (hs : s_AdjoinedSets_firstRefuting_40 x0 x3 x4 x5 t0 h = some z) : W p l e (rmS 155 5215) s m args below meth c H locs 0 0 (MQ below (Qq g (some (.int z.1)) z.2) args s 0 0 (inA g)) (F0 m 40 ls [.int t0]) := by
  unfold s_AdjoinedSets_firstRefuting_40 at hs
  have hx := C.1
  have hb := C.2.1
  refine lv_istore hx hb d_AdjoinedSets_firstRefuting_40 hl (by decide) (lv' := [(6, .int t0), (0, .ref (aD g x0)), (3, .int x3), (4, .int x4), (5, .int x5)]) rfl (fun ls hl => ?_)
  refine lv_iconst (v := 0) hx hb d_AdjoinedSets_firstRefuting_42 (by decide) ?_
  refine lv_istore hx hb d_AdjoinedSets_firstRefuting_43 hl (by decide) (lv' := [(7, .int 0), (6, .int t0), (0, .ref (aD g x0)), (3, .int x3), (4, .int x4), (5, .int x5)]) rfl (fun ls hl => ?_)
  exact k_AdjoinedSets_firstRefuting_45 C 20000 hw (lv_sub hl [2, 3, 4, 5, 1, 0] rfl) hs

def s_AdjoinedSets_firstRefuting_26 (x0 : Nat) (x2 : Int32) (x3 : Int32) (x4 : Int32) (t0 : Int32) (h : HP) : Option (Int32 × HP) :=
  if 8 ≤ x4 then (
    s_AdjoinedSets_firstRefuting_40 x0 x3 x4 t0 1 h)
  else (
    s_AdjoinedSets_firstRefuting_40 x0 x3 x4 t0 x2 h)
set_option maxHeartbeats 4000000 in
set_option maxRecDepth 100000 in
theorem k_AdjoinedSets_firstRefuting_26 {x0 : Nat} {x2 : Int32} {x3 : Int32} {x4 : Int32} {t0 : Int32} {h : HP} {z : Int32 × HP} (C : CX g R_AdjoinedSets b_AdjoinedSets_firstRefuting 9 (some .int) p s m args meth c) {H : Heap} {locs : List Loc} {ls : Array Slot} (hw : WD g h s.heap H locs) (hl : lv_has ls 9 [(0, .ref (aD g x0)), (2, .int x2), (3, .int x3), (4, .int x4)]) (hs : s_AdjoinedSets_firstRefuting_26 x0 x2 x3 x4 t0 h = some z) : W p l e (rmS 155 5215) s m args below meth c H locs 0 0 (MQ below (Qq g (some (.int z.1)) z.2) args s 0 0 (inA g)) (F0 m 26 ls [.int t0]) := by
  unfold s_AdjoinedSets_firstRefuting_26 at hs
  have hx := C.1
  have hb := C.2.1
  refine lv_istore hx hb d_AdjoinedSets_firstRefuting_26 hl (by decide) (lv' := [(5, .int t0), (0, .ref (aD g x0)), (2, .int x2), (3, .int x3), (4, .int x4)]) rfl (fun ls hl => ?_)
  refine lv_iload hx hb d_AdjoinedSets_firstRefuting_28 (lv_at hl 4 rfl) ?_
  refine lv_bipush (v := 8) hx hb d_AdjoinedSets_firstRefuting_30 (by decide) ?_
  refine lv_icmp_ge hx hb d_AdjoinedSets_firstRefuting_32 (tgt := 39) (by decide) (fun hc => ?_) (fun hc => ?_)
  · have hs := oi_t hc hs
    refine lv_iconst (v := 1) hx hb d_AdjoinedSets_firstRefuting_39 (by decide) ?_
    exact k_AdjoinedSets_firstRefuting_40 C hw (lv_sub hl [1, 3, 4, 0] rfl) hs
  · have hs := oi_f hc hs
    refine lv_iload_n hx hb d_AdjoinedSets_firstRefuting_35 rfl (lv_at hl 2 rfl) ?_
    refine lv_goto hx hb d_AdjoinedSets_firstRefuting_36 (tgt := 40) (by decide) ?_
    exact k_AdjoinedSets_firstRefuting_40 C hw (lv_sub hl [1, 3, 4, 0] rfl) hs

def s_AdjoinedSets_firstRefuting (x0 : Nat) (x1 : Int32) (x2 : Int32) (h : HP) : Option (Int32 × HP) :=
  (s_AdjoinedSets_lowestLetter x1).bind fun q1 =>
  (s_AdjoinedSets_lowestLetter (x1 &&& (x1 - 1))).bind fun q3 =>
  if 8 ≤ q1 then (
    s_AdjoinedSets_firstRefuting_26 x0 x2 q1 q3 1 h)
  else (
    s_AdjoinedSets_firstRefuting_26 x0 x2 q1 q3 x2 h)
set_option maxHeartbeats 4000000 in
set_option maxRecDepth 100000 in
theorem c_AdjoinedSets_firstRefuting (l : Launch) (g : GG) {x0 : Nat} {x1 : Int32} {x2 : Int32} {h : HP} {z : Int32 × HP} (hs : s_AdjoinedSets_firstRefuting x0 x1 x2 h = some z) : Ct l g y_AdjoinedSets_firstRefuting w_AdjoinedSets_firstRefuting (rmS 155 5215) [.ref (aD g x0), .int x1, .int x2] h (some (.int z.1)) z.2 := by
  refine Ct.of (own := R_AdjoinedSets) (by decide) rfl rfl (Nat.le_of_ble_eq_true rfl) ?_
  intro p e s m args below meth c ls C hl hw
  have hx := C.1
  have hb := C.2.1
  have hl : lv_has ls 9 [(0, .ref (aD g x0)), (1, .int x1), (2, .int x2)] := hl
  unfold s_AdjoinedSets_firstRefuting at hs
  refine lv_iload_n hx hb d_AdjoinedSets_firstRefuting_0 rfl (lv_at hl 1 rfl) ?_
  obtain ⟨q1, e2, hs⟩ := ob hs
  refine pg_callS C hw hl.1 ml_AdjoinedSets_174 (As := [.int x1]) (rest := []) (c_AdjoinedSets_lowestLetter l g e2) rfl (rm_ok (Nat.le_of_ble_eq_true rfl) (Nat.le_of_ble_eq_true rfl)) (Nat.le_of_ble_eq_true rfl) rfl (st1 := [.int q1]) rfl d_AdjoinedSets_firstRefuting_1 (fun H locs hw => ?_)
  refine lv_istore_n hx hb d_AdjoinedSets_firstRefuting_4 rfl hl (by decide) (lv' := [(3, .int q1), (0, .ref (aD g x0)), (1, .int x1), (2, .int x2)]) rfl (fun ls hl => ?_)
  refine lv_iload_n hx hb d_AdjoinedSets_firstRefuting_5 rfl (lv_at hl 2 rfl) ?_
  refine lv_iload_n hx hb d_AdjoinedSets_firstRefuting_6 rfl (lv_at hl 2 rfl) ?_
  refine lv_iconst (v := 1) hx hb d_AdjoinedSets_firstRefuting_7 (by decide) ?_
  refine lv_isub hx hb d_AdjoinedSets_firstRefuting_8 ?_
  refine lv_iand hx hb d_AdjoinedSets_firstRefuting_9 ?_
  obtain ⟨q3, e4, hs⟩ := ob hs
  refine pg_callS C hw hl.1 ml_AdjoinedSets_174 (As := [.int (x1 &&& (x1 - 1))]) (rest := []) (c_AdjoinedSets_lowestLetter l g e4) rfl (rm_ok (Nat.le_of_ble_eq_true rfl) (Nat.le_of_ble_eq_true rfl)) (Nat.le_of_ble_eq_true rfl) rfl (st1 := [.int q3]) rfl d_AdjoinedSets_firstRefuting_10 (fun H locs hw => ?_)
  refine lv_istore hx hb d_AdjoinedSets_firstRefuting_13 hl (by decide) (lv' := [(4, .int q3), (3, .int q1), (0, .ref (aD g x0)), (1, .int x1), (2, .int x2)]) rfl (fun ls hl => ?_)
  refine lv_iload_n hx hb d_AdjoinedSets_firstRefuting_15 rfl (lv_at hl 1 rfl) ?_
  refine lv_bipush (v := 8) hx hb d_AdjoinedSets_firstRefuting_16 (by decide) ?_
  refine lv_icmp_ge hx hb d_AdjoinedSets_firstRefuting_18 (tgt := 25) (by decide) (fun hc => ?_) (fun hc => ?_)
  · have hs := oi_t hc hs
    refine lv_iconst (v := 1) hx hb d_AdjoinedSets_firstRefuting_25 (by decide) ?_
    exact k_AdjoinedSets_firstRefuting_26 C hw (lv_sub hl [2, 4, 1, 0] rfl) hs
  · have hs := oi_f hc hs
    refine lv_iload_n hx hb d_AdjoinedSets_firstRefuting_21 rfl (lv_at hl 4 rfl) ?_
    refine lv_goto hx hb d_AdjoinedSets_firstRefuting_22 (tgt := 26) (by decide) ?_
    exact k_AdjoinedSets_firstRefuting_26 C hw (lv_sub hl [2, 4, 1, 0] rfl) hs

end
section
variable {p : Program} {l : Launch} {e : Env} {s : State} {m : MethodId} {args : Array Value} {below : List Frame} {meth : Method} {c : Code} {g : GG}
theorem d_Laws_restsOf_0 : decode b_Laws_restsOf 0 = .ok (.aload_n 0, 1) := by decide +kernel
theorem d_Laws_restsOf_1 : decode b_Laws_restsOf 1 = .ok (.getfield 17, 3) := by decide +kernel
theorem d_Laws_restsOf_4 : decode b_Laws_restsOf 4 = .ok (.iload_n 1, 1) := by decide +kernel
theorem d_Laws_restsOf_5 : decode b_Laws_restsOf 5 = .ok (.iaload, 1) := by decide +kernel
theorem d_Laws_restsOf_6 : decode b_Laws_restsOf 6 = .ok (.ireturn, 1) := by decide +kernel
def s_Laws_restsOf (x0 : Nat) (x1 : Int32) (h : HP) : Option (Int32) :=
  (gR h x0 2 1).bind fun v1 =>
  (aI h v1 0 x1).bind fun v3 =>
  some v3
set_option maxHeartbeats 4000000 in
set_option maxRecDepth 100000 in
theorem c_Laws_restsOf (l : Launch) (g : GG) {h : HP} {x0 : Nat} {x1 : Int32} {z : Int32} (hs : s_Laws_restsOf x0 x1 h = some z) : Ct l g y_Laws_restsOf w_Laws_restsOf (rmS 0 0) [.ref (aD g x0), .int x1] h (some (.int z)) h := by
  refine Ct.of (own := R_Laws) (by decide) rfl rfl (Nat.le_of_ble_eq_true rfl) ?_
  intro p e s m args below meth c ls C hl hw
  have hx := C.1
  have hb := C.2.1
  have hl : lv_has ls 2 [(0, .ref (aD g x0)), (1, .int x1)] := hl
  unfold s_Laws_restsOf at hs
  refine lv_aload_n hx hb d_Laws_restsOf_0 rfl (lv_at hl 0 rfl) ?_
  obtain ⟨v1, e2, hs⟩ := ob hs
  refine pg_getR C hw fl_Laws_17 e2 d_Laws_restsOf_1 ?_
  refine lv_iload_n hx hb d_Laws_restsOf_4 rfl (lv_at hl 1 rfl) ?_
  obtain ⟨v3, e4, hs⟩ := ob hs
  refine pg_iaload C hw (t0 := 0) rfl e4 d_Laws_restsOf_5 ?_
  obtain rfl := Option.some.inj hs
  exact pg_iret C hw d_Laws_restsOf_6

end
section
variable {p : Program} {l : Launch} {e : Env} {s : State} {m : MethodId} {args : Array Value} {below : List Frame} {meth : Method} {c : Code} {g : GG}
theorem d_AdjoinedSets_restsByRule_0 : decode b_AdjoinedSets_restsByRule 0 = .ok (.iload_n 1, 1) := by decide +kernel
theorem d_AdjoinedSets_restsByRule_1 : decode b_AdjoinedSets_restsByRule 1 = .ok (.tableswitch 58 9 12 #[31, 49, 49, 31], 31) := by decide +kernel
theorem d_AdjoinedSets_restsByRule_32 : decode b_AdjoinedSets_restsByRule 32 = .ok (.aload_n 0, 1) := by decide +kernel
theorem d_AdjoinedSets_restsByRule_33 : decode b_AdjoinedSets_restsByRule 33 = .ok (.getfield 29, 3) := by decide +kernel
theorem d_AdjoinedSets_restsByRule_36 : decode b_AdjoinedSets_restsByRule 36 = .ok (.iload_n 2, 1) := by decide +kernel
theorem d_AdjoinedSets_restsByRule_37 : decode b_AdjoinedSets_restsByRule 37 = .ok (.invokevirtual 137, 3) := by decide +kernel
theorem d_AdjoinedSets_restsByRule_40 : decode b_AdjoinedSets_restsByRule 40 = .ok (.aload_n 0, 1) := by decide +kernel
theorem d_AdjoinedSets_restsByRule_41 : decode b_AdjoinedSets_restsByRule 41 = .ok (.getfield 29, 3) := by decide +kernel
theorem d_AdjoinedSets_restsByRule_44 : decode b_AdjoinedSets_restsByRule 44 = .ok (.iload_n 3, 1) := by decide +kernel
theorem d_AdjoinedSets_restsByRule_45 : decode b_AdjoinedSets_restsByRule 45 = .ok (.invokevirtual 137, 3) := by decide +kernel
theorem d_AdjoinedSets_restsByRule_48 : decode b_AdjoinedSets_restsByRule 48 = .ok (.ior, 1) := by decide +kernel
theorem d_AdjoinedSets_restsByRule_49 : decode b_AdjoinedSets_restsByRule 49 = .ok (.ireturn, 1) := by decide +kernel
theorem d_AdjoinedSets_restsByRule_50 : decode b_AdjoinedSets_restsByRule 50 = .ok (.aload_n 0, 1) := by decide +kernel
theorem d_AdjoinedSets_restsByRule_51 : decode b_AdjoinedSets_restsByRule 51 = .ok (.getfield 29, 3) := by decide +kernel
theorem d_AdjoinedSets_restsByRule_54 : decode b_AdjoinedSets_restsByRule 54 = .ok (.iload_n 2, 1) := by decide +kernel
theorem d_AdjoinedSets_restsByRule_55 : decode b_AdjoinedSets_restsByRule 55 = .ok (.invokevirtual 137, 3) := by decide +kernel
theorem d_AdjoinedSets_restsByRule_58 : decode b_AdjoinedSets_restsByRule 58 = .ok (.ireturn, 1) := by decide +kernel
theorem d_AdjoinedSets_restsByRule_59 : decode b_AdjoinedSets_restsByRule 59 = .ok (.iconst 0, 1) := by decide +kernel
theorem d_AdjoinedSets_restsByRule_60 : decode b_AdjoinedSets_restsByRule 60 = .ok (.ireturn, 1) := by decide +kernel
def s_AdjoinedSets_restsByRule_32 (x0 : Nat) (x2 : Int32) (x3 : Int32) (h : HP) : Option (Int32) :=
  (gR h x0 8 3).bind fun v1 =>
  (kd v1 2).bind fun _ =>
  (s_Laws_restsOf v1 x2 h).bind fun q4 =>
  (gR h x0 8 3).bind fun v6 =>
  (kd v6 2).bind fun _ =>
  (s_Laws_restsOf v6 x3 h).bind fun q9 =>
  some (q4 ||| q9)
set_option maxHeartbeats 4000000 in
set_option maxRecDepth 100000 in
theorem k_AdjoinedSets_restsByRule_32 {h : HP} {x0 : Nat} {x2 : Int32} {x3 : Int32} {z : Int32} (C : CX g R_AdjoinedSets b_AdjoinedSets_restsByRule 4 (some .int) p s m args meth c) {H : Heap} {locs : List Loc} {ls : Array Slot} (hw : WD g h s.heap H locs) (hl : lv_has ls 4 [(0, .ref (aD g x0)), (2, .int x2), (3, .int x3)]) (hs : s_AdjoinedSets_restsByRule_32 x0 x2 x3 h = some z) : W p l e (rmS 1 21) s m args below meth c H locs 0 0 (MQ below (Qq g (some (.int z)) h) args s 0 0 (inA g)) (F0 m 32 ls []) := by
  unfold s_AdjoinedSets_restsByRule_32 at hs
  have hx := C.1
  have hb := C.2.1
  refine lv_aload_n hx hb d_AdjoinedSets_restsByRule_32 rfl (lv_at hl 0 rfl) ?_
  obtain ⟨v1, e2, hs⟩ := ob hs
  refine pg_getR C hw fl_AdjoinedSets_29 e2 d_AdjoinedSets_restsByRule_33 ?_
  refine lv_iload_n hx hb d_AdjoinedSets_restsByRule_36 rfl (lv_at hl 1 rfl) ?_
  obtain ⟨_, e3, hs⟩ := ob hs
  obtain ⟨q4, e5, hs⟩ := ob hs
  refine pg_callV C hw hl.1 ml_AdjoinedSets_137 e3 (As := [.int x2]) (rest := []) (c_Laws_restsOf l g e5) rfl (rm_ok (Nat.le_of_ble_eq_true rfl) (Nat.le_of_ble_eq_true rfl)) (Nat.le_of_ble_eq_true rfl) rfl (st1 := [.int q4]) rfl d_AdjoinedSets_restsByRule_37 (fun H locs hw => ?_)
  refine lv_aload_n hx hb d_AdjoinedSets_restsByRule_40 rfl (lv_at hl 0 rfl) ?_
  obtain ⟨v6, e7, hs⟩ := ob hs
  refine pg_getR C hw fl_AdjoinedSets_29 e7 d_AdjoinedSets_restsByRule_41 ?_
  refine lv_iload_n hx hb d_AdjoinedSets_restsByRule_44 rfl (lv_at hl 2 rfl) ?_
  obtain ⟨_, e8, hs⟩ := ob hs
  obtain ⟨q9, e10, hs⟩ := ob hs
  refine pg_callV C hw hl.1 ml_AdjoinedSets_137 e8 (As := [.int x3]) (rest := [.int q4]) (c_Laws_restsOf l g e10) rfl (rm_ok (Nat.le_of_ble_eq_true rfl) (Nat.le_of_ble_eq_true rfl)) (Nat.le_of_ble_eq_true rfl) rfl (st1 := [.int q9, .int q4]) rfl d_AdjoinedSets_restsByRule_45 (fun H locs hw => ?_)
  refine lv_ior hx hb d_AdjoinedSets_restsByRule_48 ?_
  obtain rfl := Option.some.inj hs
  exact pg_iret C hw d_AdjoinedSets_restsByRule_49

def s_AdjoinedSets_restsByRule_50 (x0 : Nat) (x2 : Int32) (h : HP) : Option (Int32) :=
  (gR h x0 8 3).bind fun v1 =>
  (kd v1 2).bind fun _ =>
  (s_Laws_restsOf v1 x2 h).bind fun q4 =>
  some q4
set_option maxHeartbeats 4000000 in
set_option maxRecDepth 100000 in
theorem k_AdjoinedSets_restsByRule_50 {h : HP} {x0 : Nat} {x2 : Int32} {z : Int32} (C : CX g R_AdjoinedSets b_AdjoinedSets_restsByRule 4 (some .int) p s m args meth c) {H : Heap} {locs : List Loc} {ls : Array Slot} (hw : WD g h s.heap H locs) (hl : lv_has ls 4 [(0, .ref (aD g x0)), (2, .int x2)]) (hs : s_AdjoinedSets_restsByRule_50 x0 x2 h = some z) : W p l e (rmS 1 21) s m args below meth c H locs 0 0 (MQ below (Qq g (some (.int z)) h) args s 0 0 (inA g)) (F0 m 50 ls []) := by
  unfold s_AdjoinedSets_restsByRule_50 at hs
  have hx := C.1
  have hb := C.2.1
  refine lv_aload_n hx hb d_AdjoinedSets_restsByRule_50 rfl (lv_at hl 0 rfl) ?_
  obtain ⟨v1, e2, hs⟩ := ob hs
  refine pg_getR C hw fl_AdjoinedSets_29 e2 d_AdjoinedSets_restsByRule_51 ?_
  refine lv_iload_n hx hb d_AdjoinedSets_restsByRule_54 rfl (lv_at hl 1 rfl) ?_
  obtain ⟨_, e3, hs⟩ := ob hs
  obtain ⟨q4, e5, hs⟩ := ob hs
  refine pg_callV C hw hl.1 ml_AdjoinedSets_137 e3 (As := [.int x2]) (rest := []) (c_Laws_restsOf l g e5) rfl (rm_ok (Nat.le_of_ble_eq_true rfl) (Nat.le_of_ble_eq_true rfl)) (Nat.le_of_ble_eq_true rfl) rfl (st1 := [.int q4]) rfl d_AdjoinedSets_restsByRule_55 (fun H locs hw => ?_)
  obtain rfl := Option.some.inj hs
  exact pg_iret C hw d_AdjoinedSets_restsByRule_58

def s_AdjoinedSets_restsByRule (x0 : Nat) (x1 : Int32) (x2 : Int32) (x3 : Int32) (h : HP) : Option (Int32) :=
  if x1 = 9 then (
    s_AdjoinedSets_restsByRule_32 x0 x2 x3 h)
  else (
  if x1 = 10 then (
    s_AdjoinedSets_restsByRule_50 x0 x2 h)
  else (
  if x1 = 11 then (
    s_AdjoinedSets_restsByRule_50 x0 x2 h)
  else (
  if x1 = 12 then (
    s_AdjoinedSets_restsByRule_32 x0 x2 x3 h)
  else (
    some 0))))
set_option maxHeartbeats 4000000 in
set_option maxRecDepth 100000 in
theorem c_AdjoinedSets_restsByRule (l : Launch) (g : GG) {h : HP} {x0 : Nat} {x1 : Int32} {x2 : Int32} {x3 : Int32} {z : Int32} (hs : s_AdjoinedSets_restsByRule x0 x1 x2 x3 h = some z) : Ct l g y_AdjoinedSets_restsByRule w_AdjoinedSets_restsByRule (rmS 1 21) [.ref (aD g x0), .int x1, .int x2, .int x3] h (some (.int z)) h := by
  refine Ct.of (own := R_AdjoinedSets) (by decide) rfl rfl (Nat.le_of_ble_eq_true rfl) ?_
  intro p e s m args below meth c ls C hl hw
  have hx := C.1
  have hb := C.2.1
  have hl : lv_has ls 4 [(0, .ref (aD g x0)), (1, .int x1), (2, .int x2), (3, .int x3)] := hl
  unfold s_AdjoinedSets_restsByRule at hs
  refine lv_iload_n hx hb d_AdjoinedSets_restsByRule_0 rfl (lv_at hl 1 rfl) ?_
  refine by_c (fun (hk0 : x1 = 9) => ?_) (fun (hk0 : ¬ x1 = 9) => ?_)
  · have hs := oi_t hk0 hs
    refine lv_tableIn hx hb d_AdjoinedSets_restsByRule_1 (by rw [hk0]; decide) (by rw [hk0]; decide) (off := 31) (by rw [hk0]; decide) (tgt := 32) (by decide) ?_
    exact k_AdjoinedSets_restsByRule_32 C hw (lv_sub hl [0, 2, 3] rfl) hs
  have hs := oi_f hk0 hs
  refine by_c (fun (hk1 : x1 = 10) => ?_) (fun (hk1 : ¬ x1 = 10) => ?_)
  · have hs := oi_t hk1 hs
    refine lv_tableIn hx hb d_AdjoinedSets_restsByRule_1 (by rw [hk1]; decide) (by rw [hk1]; decide) (off := 49) (by rw [hk1]; decide) (tgt := 50) (by decide) ?_
    exact k_AdjoinedSets_restsByRule_50 C hw (lv_sub hl [0, 2] rfl) hs
  have hs := oi_f hk1 hs
  refine by_c (fun (hk2 : x1 = 11) => ?_) (fun (hk2 : ¬ x1 = 11) => ?_)
  · have hs := oi_t hk2 hs
    refine lv_tableIn hx hb d_AdjoinedSets_restsByRule_1 (by rw [hk2]; decide) (by rw [hk2]; decide) (off := 49) (by rw [hk2]; decide) (tgt := 50) (by decide) ?_
    exact k_AdjoinedSets_restsByRule_50 C hw (lv_sub hl [0, 2] rfl) hs
  have hs := oi_f hk2 hs
  refine by_c (fun (hk3 : x1 = 12) => ?_) (fun (hk3 : ¬ x1 = 12) => ?_)
  · have hs := oi_t hk3 hs
    refine lv_tableIn hx hb d_AdjoinedSets_restsByRule_1 (by rw [hk3]; decide) (by rw [hk3]; decide) (off := 31) (by rw [hk3]; decide) (tgt := 32) (by decide) ?_
    exact k_AdjoinedSets_restsByRule_32 C hw (lv_sub hl [0, 2, 3] rfl) hs
  have hs := oi_f hk3 hs
  refine lv_tableOut hx hb d_AdjoinedSets_restsByRule_1 (tb_out (by have q0 := lv_neT (a := 9) hk0 (by decide); have q1 := lv_neT (a := 10) hk1 (by decide); have q2 := lv_neT (a := 11) hk2 (by decide); have q3 := lv_neT (a := 12) hk3 (by decide); omega)) (tgt := 59) (by decide) ?_
  refine lv_iconst (v := 0) hx hb d_AdjoinedSets_restsByRule_59 (by decide) ?_
  obtain rfl := Option.some.inj hs
  exact pg_iret C hw d_AdjoinedSets_restsByRule_60

end
section
variable {p : Program} {l : Launch} {e : Env} {s : State} {m : MethodId} {args : Array Value} {below : List Frame} {meth : Method} {c : Code} {g : GG}
theorem d_Laws_has_0 : decode b_Laws_has 0 = .ok (.iload_n 1, 1) := by decide +kernel
theorem d_Laws_has_1 : decode b_Laws_has 1 = .ok (.ifCond .lt 15, 3) := by decide +kernel
theorem d_Laws_has_4 : decode b_Laws_has 4 = .ok (.iload_n 1, 1) := by decide +kernel
theorem d_Laws_has_5 : decode b_Laws_has 5 = .ok (.aload_n 0, 1) := by decide +kernel
theorem d_Laws_has_6 : decode b_Laws_has 6 = .ok (.getfield 21, 3) := by decide +kernel
theorem d_Laws_has_9 : decode b_Laws_has 9 = .ok (.if_icmp .ge 7, 3) := by decide +kernel
theorem d_Laws_has_12 : decode b_Laws_has 12 = .ok (.iconst 1, 1) := by decide +kernel
theorem d_Laws_has_13 : decode b_Laws_has 13 = .ok (.goto 4, 3) := by decide +kernel
theorem d_Laws_has_16 : decode b_Laws_has 16 = .ok (.iconst 0, 1) := by decide +kernel
theorem d_Laws_has_17 : decode b_Laws_has 17 = .ok (.ireturn, 1) := by decide +kernel
def s_Laws_has (x0 : Nat) (x1 : Int32) (h : HP) : Option (Int32) :=
  if x1 < 0 then (
    some 0)
  else (
    (gI h x0 2 2).bind fun v2 =>
    if v2 ≤ x1 then (
      some 0)
    else (
      some 1))
set_option maxHeartbeats 4000000 in
set_option maxRecDepth 100000 in
theorem c_Laws_has (l : Launch) (g : GG) {h : HP} {x0 : Nat} {x1 : Int32} {z : Int32} (hs : s_Laws_has x0 x1 h = some z) : Ct l g y_Laws_has w_Laws_has (rmS 0 0) [.ref (aD g x0), .int x1] h (some (.int z)) h := by
  refine Ct.of (own := R_Laws) (by decide) rfl rfl (Nat.le_of_ble_eq_true rfl) ?_
  intro p e s m args below meth c ls C hl hw
  have hx := C.1
  have hb := C.2.1
  have hl : lv_has ls 2 [(0, .ref (aD g x0)), (1, .int x1)] := hl
  unfold s_Laws_has at hs
  refine lv_iload_n hx hb d_Laws_has_0 rfl (lv_at hl 1 rfl) ?_
  refine lv_if_lt hx hb d_Laws_has_1 (tgt := 16) (by decide) (fun hc => ?_) (fun hc => ?_)
  · have hs := oi_t hc hs
    refine lv_iconst (v := 0) hx hb d_Laws_has_16 (by decide) ?_
    obtain rfl := Option.some.inj hs
    exact pg_zret (v := 0) C hw rfl d_Laws_has_17
  · have hs := oi_f hc hs
    refine lv_iload_n hx hb d_Laws_has_4 rfl (lv_at hl 1 rfl) ?_
    refine lv_aload_n hx hb d_Laws_has_5 rfl (lv_at hl 0 rfl) ?_
    obtain ⟨v2, e3, hs⟩ := ob hs
    refine pg_getI C hw fl_Laws_21 e3 d_Laws_has_6 ?_
    refine lv_icmp_ge hx hb d_Laws_has_9 (tgt := 16) (by decide) (fun hc => ?_) (fun hc => ?_)
    · have hs := oi_t hc hs
      refine lv_iconst (v := 0) hx hb d_Laws_has_16 (by decide) ?_
      obtain rfl := Option.some.inj hs
      exact pg_zret (v := 0) C hw rfl d_Laws_has_17
    · have hs := oi_f hc hs
      refine lv_iconst (v := 1) hx hb d_Laws_has_12 (by decide) ?_
      refine lv_goto hx hb d_Laws_has_13 (tgt := 17) (by decide) ?_
      obtain rfl := Option.some.inj hs
      exact pg_zret (v := 1) C hw rfl d_Laws_has_17

end
section
variable {p : Program} {l : Launch} {e : Env} {s : State} {m : MethodId} {args : Array Value} {below : List Frame} {meth : Method} {c : Code} {g : GG}
theorem d_AdjoinedSets_namesWhatIsThere_0 : decode b_AdjoinedSets_namesWhatIsThere 0 = .ok (.iload_n 1, 1) := by decide +kernel
theorem d_AdjoinedSets_namesWhatIsThere_1 : decode b_AdjoinedSets_namesWhatIsThere 1 = .ok (.tableswitch 95 9 12 #[31, 59, 86, 31], 31) := by decide +kernel
theorem d_AdjoinedSets_namesWhatIsThere_32 : decode b_AdjoinedSets_namesWhatIsThere 32 = .ok (.aload_n 0, 1) := by decide +kernel
theorem d_AdjoinedSets_namesWhatIsThere_33 : decode b_AdjoinedSets_namesWhatIsThere 33 = .ok (.getfield 29, 3) := by decide +kernel
theorem d_AdjoinedSets_namesWhatIsThere_36 : decode b_AdjoinedSets_namesWhatIsThere 36 = .ok (.iload_n 2, 1) := by decide +kernel
theorem d_AdjoinedSets_namesWhatIsThere_37 : decode b_AdjoinedSets_namesWhatIsThere 37 = .ok (.invokevirtual 125, 3) := by decide +kernel
theorem d_AdjoinedSets_namesWhatIsThere_40 : decode b_AdjoinedSets_namesWhatIsThere 40 = .ok (.ifCond .eq 18, 3) := by decide +kernel
theorem d_AdjoinedSets_namesWhatIsThere_43 : decode b_AdjoinedSets_namesWhatIsThere 43 = .ok (.aload_n 0, 1) := by decide +kernel
theorem d_AdjoinedSets_namesWhatIsThere_44 : decode b_AdjoinedSets_namesWhatIsThere 44 = .ok (.getfield 29, 3) := by decide +kernel
theorem d_AdjoinedSets_namesWhatIsThere_47 : decode b_AdjoinedSets_namesWhatIsThere 47 = .ok (.iload_n 3, 1) := by decide +kernel
theorem d_AdjoinedSets_namesWhatIsThere_48 : decode b_AdjoinedSets_namesWhatIsThere 48 = .ok (.invokevirtual 125, 3) := by decide +kernel
theorem d_AdjoinedSets_namesWhatIsThere_51 : decode b_AdjoinedSets_namesWhatIsThere 51 = .ok (.ifCond .eq 7, 3) := by decide +kernel
theorem d_AdjoinedSets_namesWhatIsThere_54 : decode b_AdjoinedSets_namesWhatIsThere 54 = .ok (.iconst 1, 1) := by decide +kernel
theorem d_AdjoinedSets_namesWhatIsThere_55 : decode b_AdjoinedSets_namesWhatIsThere 55 = .ok (.goto 4, 3) := by decide +kernel
theorem d_AdjoinedSets_namesWhatIsThere_58 : decode b_AdjoinedSets_namesWhatIsThere 58 = .ok (.iconst 0, 1) := by decide +kernel
theorem d_AdjoinedSets_namesWhatIsThere_59 : decode b_AdjoinedSets_namesWhatIsThere 59 = .ok (.ireturn, 1) := by decide +kernel
theorem d_AdjoinedSets_namesWhatIsThere_60 : decode b_AdjoinedSets_namesWhatIsThere 60 = .ok (.aload_n 0, 1) := by decide +kernel
theorem d_AdjoinedSets_namesWhatIsThere_61 : decode b_AdjoinedSets_namesWhatIsThere 61 = .ok (.getfield 29, 3) := by decide +kernel
theorem d_AdjoinedSets_namesWhatIsThere_64 : decode b_AdjoinedSets_namesWhatIsThere 64 = .ok (.iload_n 2, 1) := by decide +kernel
theorem d_AdjoinedSets_namesWhatIsThere_65 : decode b_AdjoinedSets_namesWhatIsThere 65 = .ok (.invokevirtual 125, 3) := by decide +kernel
theorem d_AdjoinedSets_namesWhatIsThere_68 : decode b_AdjoinedSets_namesWhatIsThere 68 = .ok (.ifCond .eq 17, 3) := by decide +kernel
theorem d_AdjoinedSets_namesWhatIsThere_71 : decode b_AdjoinedSets_namesWhatIsThere 71 = .ok (.iload_n 3, 1) := by decide +kernel
theorem d_AdjoinedSets_namesWhatIsThere_72 : decode b_AdjoinedSets_namesWhatIsThere 72 = .ok (.ifCond .lt 13, 3) := by decide +kernel
theorem d_AdjoinedSets_namesWhatIsThere_75 : decode b_AdjoinedSets_namesWhatIsThere 75 = .ok (.iload_n 3, 1) := by decide +kernel
theorem d_AdjoinedSets_namesWhatIsThere_76 : decode b_AdjoinedSets_namesWhatIsThere 76 = .ok (.bipush 8, 2) := by decide +kernel
theorem d_AdjoinedSets_namesWhatIsThere_78 : decode b_AdjoinedSets_namesWhatIsThere 78 = .ok (.if_icmp .ge 7, 3) := by decide +kernel
theorem d_AdjoinedSets_namesWhatIsThere_81 : decode b_AdjoinedSets_namesWhatIsThere 81 = .ok (.iconst 1, 1) := by decide +kernel
theorem d_AdjoinedSets_namesWhatIsThere_82 : decode b_AdjoinedSets_namesWhatIsThere 82 = .ok (.goto 4, 3) := by decide +kernel
theorem d_AdjoinedSets_namesWhatIsThere_85 : decode b_AdjoinedSets_namesWhatIsThere 85 = .ok (.iconst 0, 1) := by decide +kernel
theorem d_AdjoinedSets_namesWhatIsThere_86 : decode b_AdjoinedSets_namesWhatIsThere 86 = .ok (.ireturn, 1) := by decide +kernel
theorem d_AdjoinedSets_namesWhatIsThere_87 : decode b_AdjoinedSets_namesWhatIsThere 87 = .ok (.aload_n 0, 1) := by decide +kernel
theorem d_AdjoinedSets_namesWhatIsThere_88 : decode b_AdjoinedSets_namesWhatIsThere 88 = .ok (.getfield 29, 3) := by decide +kernel
theorem d_AdjoinedSets_namesWhatIsThere_91 : decode b_AdjoinedSets_namesWhatIsThere 91 = .ok (.iload_n 2, 1) := by decide +kernel
theorem d_AdjoinedSets_namesWhatIsThere_92 : decode b_AdjoinedSets_namesWhatIsThere 92 = .ok (.invokevirtual 125, 3) := by decide +kernel
theorem d_AdjoinedSets_namesWhatIsThere_95 : decode b_AdjoinedSets_namesWhatIsThere 95 = .ok (.ireturn, 1) := by decide +kernel
theorem d_AdjoinedSets_namesWhatIsThere_96 : decode b_AdjoinedSets_namesWhatIsThere 96 = .ok (.iconst 1, 1) := by decide +kernel
theorem d_AdjoinedSets_namesWhatIsThere_97 : decode b_AdjoinedSets_namesWhatIsThere 97 = .ok (.ireturn, 1) := by decide +kernel
def s_AdjoinedSets_namesWhatIsThere_32 (x0 : Nat) (x2 : Int32) (x3 : Int32) (h : HP) : Option (Int32) :=
  (gR h x0 8 3).bind fun v1 =>
  (kd v1 2).bind fun _ =>
  (s_Laws_has v1 x2 h).bind fun q4 =>
  if q4 = 0 then (
    some 0)
  else (
    (gR h x0 8 3).bind fun v7 =>
    (kd v7 2).bind fun _ =>
    (s_Laws_has v7 x3 h).bind fun q10 =>
    if q10 = 0 then (
      some 0)
    else (
      some 1))
set_option maxHeartbeats 4000000 in
set_option maxRecDepth 100000 in
theorem k_AdjoinedSets_namesWhatIsThere_32 {h : HP} {x0 : Nat} {x2 : Int32} {x3 : Int32} {z : Int32} (C : CX g R_AdjoinedSets b_AdjoinedSets_namesWhatIsThere 4 (some .boolean) p s m args meth c) {H : Heap} {locs : List Loc} {ls : Array Slot} (hw : WD g h s.heap H locs) (hl : lv_has ls 4 [(0, .ref (aD g x0)), (2, .int x2), (3, .int x3)]) (hs : s_AdjoinedSets_namesWhatIsThere_32 x0 x2 x3 h = some z) : W p l e (rmS 1 21) s m args below meth c H locs 0 0 (MQ below (Qq g (some (.int z)) h) args s 0 0 (inA g)) (F0 m 32 ls []) := by
  unfold s_AdjoinedSets_namesWhatIsThere_32 at hs
  have hx := C.1
  have hb := C.2.1
  refine lv_aload_n hx hb d_AdjoinedSets_namesWhatIsThere_32 rfl (lv_at hl 0 rfl) ?_
  obtain ⟨v1, e2, hs⟩ := ob hs
  refine pg_getR C hw fl_AdjoinedSets_29 e2 d_AdjoinedSets_namesWhatIsThere_33 ?_
  refine lv_iload_n hx hb d_AdjoinedSets_namesWhatIsThere_36 rfl (lv_at hl 1 rfl) ?_
  obtain ⟨_, e3, hs⟩ := ob hs
  obtain ⟨q4, e5, hs⟩ := ob hs
  refine pg_callV C hw hl.1 ml_AdjoinedSets_125 e3 (As := [.int x2]) (rest := []) (c_Laws_has l g e5) rfl (rm_ok (Nat.le_of_ble_eq_true rfl) (Nat.le_of_ble_eq_true rfl)) (Nat.le_of_ble_eq_true rfl) rfl (st1 := [.int q4]) rfl d_AdjoinedSets_namesWhatIsThere_37 (fun H locs hw => ?_)
  refine lv_if_eq hx hb d_AdjoinedSets_namesWhatIsThere_40 (tgt := 58) (by decide) (fun hc => ?_) (fun hc => ?_)
  · have hs := oi_t hc hs
    refine lv_iconst (v := 0) hx hb d_AdjoinedSets_namesWhatIsThere_58 (by decide) ?_
    obtain rfl := Option.some.inj hs
    exact pg_zret (v := 0) C hw rfl d_AdjoinedSets_namesWhatIsThere_59
  · have hs := oi_f hc hs
    refine lv_aload_n hx hb d_AdjoinedSets_namesWhatIsThere_43 rfl (lv_at hl 0 rfl) ?_
    obtain ⟨v7, e8, hs⟩ := ob hs
    refine pg_getR C hw fl_AdjoinedSets_29 e8 d_AdjoinedSets_namesWhatIsThere_44 ?_
    refine lv_iload_n hx hb d_AdjoinedSets_namesWhatIsThere_47 rfl (lv_at hl 2 rfl) ?_
    obtain ⟨_, e9, hs⟩ := ob hs
    obtain ⟨q10, e11, hs⟩ := ob hs
    refine pg_callV C hw hl.1 ml_AdjoinedSets_125 e9 (As := [.int x3]) (rest := []) (c_Laws_has l g e11) rfl (rm_ok (Nat.le_of_ble_eq_true rfl) (Nat.le_of_ble_eq_true rfl)) (Nat.le_of_ble_eq_true rfl) rfl (st1 := [.int q10]) rfl d_AdjoinedSets_namesWhatIsThere_48 (fun H locs hw => ?_)
    refine lv_if_eq hx hb d_AdjoinedSets_namesWhatIsThere_51 (tgt := 58) (by decide) (fun hc => ?_) (fun hc => ?_)
    · have hs := oi_t hc hs
      refine lv_iconst (v := 0) hx hb d_AdjoinedSets_namesWhatIsThere_58 (by decide) ?_
      obtain rfl := Option.some.inj hs
      exact pg_zret (v := 0) C hw rfl d_AdjoinedSets_namesWhatIsThere_59
    · have hs := oi_f hc hs
      refine lv_iconst (v := 1) hx hb d_AdjoinedSets_namesWhatIsThere_54 (by decide) ?_
      refine lv_goto hx hb d_AdjoinedSets_namesWhatIsThere_55 (tgt := 59) (by decide) ?_
      obtain rfl := Option.some.inj hs
      exact pg_zret (v := 1) C hw rfl d_AdjoinedSets_namesWhatIsThere_59

def s_AdjoinedSets_namesWhatIsThere (x0 : Nat) (x1 : Int32) (x2 : Int32) (x3 : Int32) (h : HP) : Option (Int32) :=
  if x1 = 9 then (
    s_AdjoinedSets_namesWhatIsThere_32 x0 x2 x3 h)
  else (
  if x1 = 10 then (
    (gR h x0 8 3).bind fun v1 =>
    (kd v1 2).bind fun _ =>
    (s_Laws_has v1 x2 h).bind fun q4 =>
    if q4 = 0 then (
      some 0)
    else (
      if x3 < 0 then (
        some 0)
      else (
        if 8 ≤ x3 then (
          some 0)
        else (
          some 1))))
  else (
  if x1 = 11 then (
    (gR h x0 8 3).bind fun v10 =>
    (kd v10 2).bind fun _ =>
    (s_Laws_has v10 x2 h).bind fun q13 =>
    (zr q13).bind fun _ => some q13)
  else (
  if x1 = 12 then (
    s_AdjoinedSets_namesWhatIsThere_32 x0 x2 x3 h)
  else (
    some 1))))
set_option maxHeartbeats 4000000 in
set_option maxRecDepth 100000 in
theorem c_AdjoinedSets_namesWhatIsThere (l : Launch) (g : GG) {h : HP} {x0 : Nat} {x1 : Int32} {x2 : Int32} {x3 : Int32} {z : Int32} (hs : s_AdjoinedSets_namesWhatIsThere x0 x1 x2 x3 h = some z) : Ct l g y_AdjoinedSets_namesWhatIsThere w_AdjoinedSets_namesWhatIsThere (rmS 1 21) [.ref (aD g x0), .int x1, .int x2, .int x3] h (some (.int z)) h := by
  refine Ct.of (own := R_AdjoinedSets) (by decide) rfl rfl (Nat.le_of_ble_eq_true rfl) ?_
  intro p e s m args below meth c ls C hl hw
  have hx := C.1
  have hb := C.2.1
  have hl : lv_has ls 4 [(0, .ref (aD g x0)), (1, .int x1), (2, .int x2), (3, .int x3)] := hl
  unfold s_AdjoinedSets_namesWhatIsThere at hs
  refine lv_iload_n hx hb d_AdjoinedSets_namesWhatIsThere_0 rfl (lv_at hl 1 rfl) ?_
  refine by_c (fun (hk0 : x1 = 9) => ?_) (fun (hk0 : ¬ x1 = 9) => ?_)
  · have hs := oi_t hk0 hs
    refine lv_tableIn hx hb d_AdjoinedSets_namesWhatIsThere_1 (by rw [hk0]; decide) (by rw [hk0]; decide) (off := 31) (by rw [hk0]; decide) (tgt := 32) (by decide) ?_
    exact k_AdjoinedSets_namesWhatIsThere_32 C hw (lv_sub hl [0, 2, 3] rfl) hs
  have hs := oi_f hk0 hs
  refine by_c (fun (hk1 : x1 = 10) => ?_) (fun (hk1 : ¬ x1 = 10) => ?_)
  · have hs := oi_t hk1 hs
    refine lv_tableIn hx hb d_AdjoinedSets_namesWhatIsThere_1 (by rw [hk1]; decide) (by rw [hk1]; decide) (off := 59) (by rw [hk1]; decide) (tgt := 60) (by decide) ?_
    refine lv_aload_n hx hb d_AdjoinedSets_namesWhatIsThere_60 rfl (lv_at hl 0 rfl) ?_
    obtain ⟨v1, e2, hs⟩ := ob hs
    refine pg_getR C hw fl_AdjoinedSets_29 e2 d_AdjoinedSets_namesWhatIsThere_61 ?_
    refine lv_iload_n hx hb d_AdjoinedSets_namesWhatIsThere_64 rfl (lv_at hl 2 rfl) ?_
    obtain ⟨_, e3, hs⟩ := ob hs
    obtain ⟨q4, e5, hs⟩ := ob hs
    refine pg_callV C hw hl.1 ml_AdjoinedSets_125 e3 (As := [.int x2]) (rest := []) (c_Laws_has l g e5) rfl (rm_ok (Nat.le_of_ble_eq_true rfl) (Nat.le_of_ble_eq_true rfl)) (Nat.le_of_ble_eq_true rfl) rfl (st1 := [.int q4]) rfl d_AdjoinedSets_namesWhatIsThere_65 (fun H locs hw => ?_)
    refine lv_if_eq hx hb d_AdjoinedSets_namesWhatIsThere_68 (tgt := 85) (by decide) (fun hc => ?_) (fun hc => ?_)
    · have hs := oi_t hc hs
      refine lv_iconst (v := 0) hx hb d_AdjoinedSets_namesWhatIsThere_85 (by decide) ?_
      obtain rfl := Option.some.inj hs
      exact pg_zret (v := 0) C hw rfl d_AdjoinedSets_namesWhatIsThere_86
    · have hs := oi_f hc hs
      refine lv_iload_n hx hb d_AdjoinedSets_namesWhatIsThere_71 rfl (lv_at hl 3 rfl) ?_
      refine lv_if_lt hx hb d_AdjoinedSets_namesWhatIsThere_72 (tgt := 85) (by decide) (fun hc => ?_) (fun hc => ?_)
      · have hs := oi_t hc hs
        refine lv_iconst (v := 0) hx hb d_AdjoinedSets_namesWhatIsThere_85 (by decide) ?_
        obtain rfl := Option.some.inj hs
        exact pg_zret (v := 0) C hw rfl d_AdjoinedSets_namesWhatIsThere_86
      · have hs := oi_f hc hs
        refine lv_iload_n hx hb d_AdjoinedSets_namesWhatIsThere_75 rfl (lv_at hl 3 rfl) ?_
        refine lv_bipush (v := 8) hx hb d_AdjoinedSets_namesWhatIsThere_76 (by decide) ?_
        refine lv_icmp_ge hx hb d_AdjoinedSets_namesWhatIsThere_78 (tgt := 85) (by decide) (fun hc => ?_) (fun hc => ?_)
        · have hs := oi_t hc hs
          refine lv_iconst (v := 0) hx hb d_AdjoinedSets_namesWhatIsThere_85 (by decide) ?_
          obtain rfl := Option.some.inj hs
          exact pg_zret (v := 0) C hw rfl d_AdjoinedSets_namesWhatIsThere_86
        · have hs := oi_f hc hs
          refine lv_iconst (v := 1) hx hb d_AdjoinedSets_namesWhatIsThere_81 (by decide) ?_
          refine lv_goto hx hb d_AdjoinedSets_namesWhatIsThere_82 (tgt := 86) (by decide) ?_
          obtain rfl := Option.some.inj hs
          exact pg_zret (v := 1) C hw rfl d_AdjoinedSets_namesWhatIsThere_86
  have hs := oi_f hk1 hs
  refine by_c (fun (hk2 : x1 = 11) => ?_) (fun (hk2 : ¬ x1 = 11) => ?_)
  · have hs := oi_t hk2 hs
    refine lv_tableIn hx hb d_AdjoinedSets_namesWhatIsThere_1 (by rw [hk2]; decide) (by rw [hk2]; decide) (off := 86) (by rw [hk2]; decide) (tgt := 87) (by decide) ?_
    refine lv_aload_n hx hb d_AdjoinedSets_namesWhatIsThere_87 rfl (lv_at hl 0 rfl) ?_
    obtain ⟨v10, e11, hs⟩ := ob hs
    refine pg_getR C hw fl_AdjoinedSets_29 e11 d_AdjoinedSets_namesWhatIsThere_88 ?_
    refine lv_iload_n hx hb d_AdjoinedSets_namesWhatIsThere_91 rfl (lv_at hl 2 rfl) ?_
    obtain ⟨_, e12, hs⟩ := ob hs
    obtain ⟨q13, e14, hs⟩ := ob hs
    refine pg_callV C hw hl.1 ml_AdjoinedSets_125 e12 (As := [.int x2]) (rest := []) (c_Laws_has l g e14) rfl (rm_ok (Nat.le_of_ble_eq_true rfl) (Nat.le_of_ble_eq_true rfl)) (Nat.le_of_ble_eq_true rfl) rfl (st1 := [.int q13]) rfl d_AdjoinedSets_namesWhatIsThere_92 (fun H locs hw => ?_)
    obtain ⟨_, e15, hs⟩ := ob hs
    obtain rfl := Option.some.inj hs
    exact pg_zret (v := q13) C hw (zr_n e15) d_AdjoinedSets_namesWhatIsThere_95
  have hs := oi_f hk2 hs
  refine by_c (fun (hk3 : x1 = 12) => ?_) (fun (hk3 : ¬ x1 = 12) => ?_)
  · have hs := oi_t hk3 hs
    refine lv_tableIn hx hb d_AdjoinedSets_namesWhatIsThere_1 (by rw [hk3]; decide) (by rw [hk3]; decide) (off := 31) (by rw [hk3]; decide) (tgt := 32) (by decide) ?_
    exact k_AdjoinedSets_namesWhatIsThere_32 C hw (lv_sub hl [0, 2, 3] rfl) hs
  have hs := oi_f hk3 hs
  refine lv_tableOut hx hb d_AdjoinedSets_namesWhatIsThere_1 (tb_out (by have q0 := lv_neT (a := 9) hk0 (by decide); have q1 := lv_neT (a := 10) hk1 (by decide); have q2 := lv_neT (a := 11) hk2 (by decide); have q3 := lv_neT (a := 12) hk3 (by decide); omega)) (tgt := 96) (by decide) ?_
  refine lv_iconst (v := 1) hx hb d_AdjoinedSets_namesWhatIsThere_96 (by decide) ?_
  obtain rfl := Option.some.inj hs
  exact pg_zret (v := 1) C hw rfl d_AdjoinedSets_namesWhatIsThere_97

end
