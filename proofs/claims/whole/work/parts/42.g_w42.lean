section
variable {p : Program} {l : Launch} {e : Env} {s : State} {m : MethodId} {args : Array Value} {below : List Frame} {meth : Method} {c : Code} {g : GG}
theorem d_Rules_spareBecomesAdjoined_0 : decode b_Rules_spareBecomesAdjoined 0 = .ok (.aload_n 0, 1) := by decide +kernel
theorem d_Rules_spareBecomesAdjoined_1 : decode b_Rules_spareBecomesAdjoined 1 = .ok (.getfield 12, 3) := by decide +kernel
theorem d_Rules_spareBecomesAdjoined_4 : decode b_Rules_spareBecomesAdjoined 4 = .ok (.invokevirtual 175, 3) := by decide +kernel
theorem d_Rules_spareBecomesAdjoined_7 : decode b_Rules_spareBecomesAdjoined 7 = .ok (.aload_n 0, 1) := by decide +kernel
theorem d_Rules_spareBecomesAdjoined_8 : decode b_Rules_spareBecomesAdjoined 8 = .ok (.getfield 12, 3) := by decide +kernel
theorem d_Rules_spareBecomesAdjoined_11 : decode b_Rules_spareBecomesAdjoined 11 = .ok (.bipush 43, 2) := by decide +kernel
theorem d_Rules_spareBecomesAdjoined_13 : decode b_Rules_spareBecomesAdjoined 13 = .ok (.invokevirtual 178, 3) := by decide +kernel
theorem d_Rules_spareBecomesAdjoined_16 : decode b_Rules_spareBecomesAdjoined 16 = .ok (.aload_n 0, 1) := by decide +kernel
theorem d_Rules_spareBecomesAdjoined_17 : decode b_Rules_spareBecomesAdjoined 17 = .ok (.getfield 12, 3) := by decide +kernel
theorem d_Rules_spareBecomesAdjoined_20 : decode b_Rules_spareBecomesAdjoined 20 = .ok (.bipush 97, 2) := by decide +kernel
theorem d_Rules_spareBecomesAdjoined_22 : decode b_Rules_spareBecomesAdjoined 22 = .ok (.iload_n 1, 1) := by decide +kernel
theorem d_Rules_spareBecomesAdjoined_23 : decode b_Rules_spareBecomesAdjoined 23 = .ok (.iadd, 1) := by decide +kernel
theorem d_Rules_spareBecomesAdjoined_24 : decode b_Rules_spareBecomesAdjoined 24 = .ok (.invokevirtual 178, 3) := by decide +kernel
theorem d_Rules_spareBecomesAdjoined_27 : decode b_Rules_spareBecomesAdjoined 27 = .ok (.aload_n 0, 1) := by decide +kernel
theorem d_Rules_spareBecomesAdjoined_28 : decode b_Rules_spareBecomesAdjoined 28 = .ok (.getfield 12, 3) := by decide +kernel
theorem d_Rules_spareBecomesAdjoined_31 : decode b_Rules_spareBecomesAdjoined 31 = .ok (.bipush 97, 2) := by decide +kernel
theorem d_Rules_spareBecomesAdjoined_33 : decode b_Rules_spareBecomesAdjoined 33 = .ok (.iload_n 2, 1) := by decide +kernel
theorem d_Rules_spareBecomesAdjoined_34 : decode b_Rules_spareBecomesAdjoined 34 = .ok (.iadd, 1) := by decide +kernel
theorem d_Rules_spareBecomesAdjoined_35 : decode b_Rules_spareBecomesAdjoined 35 = .ok (.invokevirtual 178, 3) := by decide +kernel
theorem d_Rules_spareBecomesAdjoined_38 : decode b_Rules_spareBecomesAdjoined 38 = .ok (.aload_n 0, 1) := by decide +kernel
theorem d_Rules_spareBecomesAdjoined_39 : decode b_Rules_spareBecomesAdjoined 39 = .ok (.getfield 12, 3) := by decide +kernel
theorem d_Rules_spareBecomesAdjoined_42 : decode b_Rules_spareBecomesAdjoined 42 = .ok (.iconst 0, 1) := by decide +kernel
theorem d_Rules_spareBecomesAdjoined_43 : decode b_Rules_spareBecomesAdjoined 43 = .ok (.iconst 3, 1) := by decide +kernel
theorem d_Rules_spareBecomesAdjoined_44 : decode b_Rules_spareBecomesAdjoined 44 = .ok (.invokevirtual 181, 3) := by decide +kernel
theorem d_Rules_spareBecomesAdjoined_47 : decode b_Rules_spareBecomesAdjoined 47 = .ok (.aload_n 0, 1) := by decide +kernel
theorem d_Rules_spareBecomesAdjoined_48 : decode b_Rules_spareBecomesAdjoined 48 = .ok (.getfield 12, 3) := by decide +kernel
theorem d_Rules_spareBecomesAdjoined_51 : decode b_Rules_spareBecomesAdjoined 51 = .ok (.iconst 1, 1) := by decide +kernel
theorem d_Rules_spareBecomesAdjoined_52 : decode b_Rules_spareBecomesAdjoined 52 = .ok (.iconst 2, 1) := by decide +kernel
theorem d_Rules_spareBecomesAdjoined_53 : decode b_Rules_spareBecomesAdjoined 53 = .ok (.invokevirtual 181, 3) := by decide +kernel
theorem d_Rules_spareBecomesAdjoined_56 : decode b_Rules_spareBecomesAdjoined 56 = .ok (.aload_n 0, 1) := by decide +kernel
theorem d_Rules_spareBecomesAdjoined_57 : decode b_Rules_spareBecomesAdjoined 57 = .ok (.getfield 12, 3) := by decide +kernel
theorem d_Rules_spareBecomesAdjoined_60 : decode b_Rules_spareBecomesAdjoined 60 = .ok (.iconst 2, 1) := by decide +kernel
theorem d_Rules_spareBecomesAdjoined_61 : decode b_Rules_spareBecomesAdjoined 61 = .ok (.iconst 3, 1) := by decide +kernel
theorem d_Rules_spareBecomesAdjoined_62 : decode b_Rules_spareBecomesAdjoined 62 = .ok (.invokevirtual 181, 3) := by decide +kernel
theorem d_Rules_spareBecomesAdjoined_65 : decode b_Rules_spareBecomesAdjoined 65 = .ok (.return_, 1) := by decide +kernel
def s_Rules_spareBecomesAdjoined (x0 : Nat) (x1 : Int32) (x2 : Int32) (h : HP) : Option (HP) :=
  (gR h x0 7 3).bind fun v1 =>
  (kd v1 0).bind fun _ =>
  (s_Text_empty v1 h).bind fun q4 =>
  (gR q4 x0 7 3).bind fun v6 =>
  (kd v6 0).bind fun _ =>
  (s_Text_add v6 43 q4).bind fun q9 =>
  (gR q9 x0 7 3).bind fun v11 =>
  (kd v11 0).bind fun _ =>
  (s_Text_add v11 (97 + x1) q9).bind fun q14 =>
  (gR q14 x0 7 3).bind fun v16 =>
  (kd v16 0).bind fun _ =>
  (s_Text_add v16 (97 + x2) q14).bind fun q19 =>
  (gR q19 x0 7 3).bind fun v21 =>
  (kd v21 0).bind fun _ =>
  (s_Text_setEnd v21 0 3 q19).bind fun q24 =>
  (gR q24 x0 7 3).bind fun v26 =>
  (kd v26 0).bind fun _ =>
  (s_Text_setEnd v26 1 2 q24).bind fun q29 =>
  (gR q29 x0 7 3).bind fun v31 =>
  (kd v31 0).bind fun _ =>
  (s_Text_setEnd v31 2 3 q29).bind fun q34 =>
  some q34
set_option maxHeartbeats 4000000 in
set_option maxRecDepth 100000 in
theorem c_Rules_spareBecomesAdjoined (l : Launch) (g : GG) {x0 : Nat} {x1 : Int32} {x2 : Int32} {h : HP} {z : HP} (hs : s_Rules_spareBecomesAdjoined x0 x1 x2 h = some z) : Ct l g y_Rules_spareBecomesAdjoined w_Rules_spareBecomesAdjoined (rmS 1 22) [.ref (aD g x0), .int x1, .int x2] h none z := by
  refine Ct.of (own := R_Rules) (by decide) rfl rfl (Nat.le_of_ble_eq_true rfl) ?_
  intro p e s m args below meth c ls C hl hw
  have hx := C.1
  have hb := C.2.1
  have hl : lv_has ls 3 [(0, .ref (aD g x0)), (1, .int x1), (2, .int x2)] := hl
  unfold s_Rules_spareBecomesAdjoined at hs
  refine lv_aload_n hx hb d_Rules_spareBecomesAdjoined_0 rfl (lv_at hl 0 rfl) ?_
  obtain ⟨v1, e2, hs⟩ := ob hs
  refine pg_getR C hw fl_Rules_12 e2 d_Rules_spareBecomesAdjoined_1 ?_
  obtain ⟨_, e3, hs⟩ := ob hs
  obtain ⟨q4, e5, hs⟩ := ob hs
  refine pg_callV C hw hl.1 ml_Rules_175 e3 (As := []) (rest := []) (c_Text_empty l g e5) rfl (rm_ok (Nat.le_of_ble_eq_true rfl) (Nat.le_of_ble_eq_true rfl)) (Nat.le_of_ble_eq_true rfl) rfl (st1 := []) rfl d_Rules_spareBecomesAdjoined_4 (fun H locs hw => ?_)
  refine lv_aload_n hx hb d_Rules_spareBecomesAdjoined_7 rfl (lv_at hl 0 rfl) ?_
  obtain ⟨v6, e7, hs⟩ := ob hs
  refine pg_getR C hw fl_Rules_12 e7 d_Rules_spareBecomesAdjoined_8 ?_
  refine lv_bipush (v := 43) hx hb d_Rules_spareBecomesAdjoined_11 (by decide) ?_
  obtain ⟨_, e8, hs⟩ := ob hs
  obtain ⟨q9, e10, hs⟩ := ob hs
  refine pg_callV C hw hl.1 ml_Rules_178 e8 (As := [.int 43]) (rest := []) (c_Text_add l g e10) rfl (rm_ok (Nat.le_of_ble_eq_true rfl) (Nat.le_of_ble_eq_true rfl)) (Nat.le_of_ble_eq_true rfl) rfl (st1 := []) rfl d_Rules_spareBecomesAdjoined_13 (fun H locs hw => ?_)
  refine lv_aload_n hx hb d_Rules_spareBecomesAdjoined_16 rfl (lv_at hl 0 rfl) ?_
  obtain ⟨v11, e12, hs⟩ := ob hs
  refine pg_getR C hw fl_Rules_12 e12 d_Rules_spareBecomesAdjoined_17 ?_
  refine lv_bipush (v := 97) hx hb d_Rules_spareBecomesAdjoined_20 (by decide) ?_
  refine lv_iload_n hx hb d_Rules_spareBecomesAdjoined_22 rfl (lv_at hl 1 rfl) ?_
  refine lv_iadd hx hb d_Rules_spareBecomesAdjoined_23 ?_
  obtain ⟨_, e13, hs⟩ := ob hs
  obtain ⟨q14, e15, hs⟩ := ob hs
  refine pg_callV C hw hl.1 ml_Rules_178 e13 (As := [.int (97 + x1)]) (rest := []) (c_Text_add l g e15) rfl (rm_ok (Nat.le_of_ble_eq_true rfl) (Nat.le_of_ble_eq_true rfl)) (Nat.le_of_ble_eq_true rfl) rfl (st1 := []) rfl d_Rules_spareBecomesAdjoined_24 (fun H locs hw => ?_)
  refine lv_aload_n hx hb d_Rules_spareBecomesAdjoined_27 rfl (lv_at hl 0 rfl) ?_
  obtain ⟨v16, e17, hs⟩ := ob hs
  refine pg_getR C hw fl_Rules_12 e17 d_Rules_spareBecomesAdjoined_28 ?_
  refine lv_bipush (v := 97) hx hb d_Rules_spareBecomesAdjoined_31 (by decide) ?_
  refine lv_iload_n hx hb d_Rules_spareBecomesAdjoined_33 rfl (lv_at hl 2 rfl) ?_
  refine lv_iadd hx hb d_Rules_spareBecomesAdjoined_34 ?_
  obtain ⟨_, e18, hs⟩ := ob hs
  obtain ⟨q19, e20, hs⟩ := ob hs
  refine pg_callV C hw hl.1 ml_Rules_178 e18 (As := [.int (97 + x2)]) (rest := []) (c_Text_add l g e20) rfl (rm_ok (Nat.le_of_ble_eq_true rfl) (Nat.le_of_ble_eq_true rfl)) (Nat.le_of_ble_eq_true rfl) rfl (st1 := []) rfl d_Rules_spareBecomesAdjoined_35 (fun H locs hw => ?_)
  refine lv_aload_n hx hb d_Rules_spareBecomesAdjoined_38 rfl (lv_at hl 0 rfl) ?_
  obtain ⟨v21, e22, hs⟩ := ob hs
  refine pg_getR C hw fl_Rules_12 e22 d_Rules_spareBecomesAdjoined_39 ?_
  refine lv_iconst (v := 0) hx hb d_Rules_spareBecomesAdjoined_42 (by decide) ?_
  refine lv_iconst (v := 3) hx hb d_Rules_spareBecomesAdjoined_43 (by decide) ?_
  obtain ⟨_, e23, hs⟩ := ob hs
  obtain ⟨q24, e25, hs⟩ := ob hs
  refine pg_callV C hw hl.1 ml_Rules_181 e23 (As := [.int 0, .int 3]) (rest := []) (c_Text_setEnd l g e25) rfl (rm_ok (Nat.le_of_ble_eq_true rfl) (Nat.le_of_ble_eq_true rfl)) (Nat.le_of_ble_eq_true rfl) rfl (st1 := []) rfl d_Rules_spareBecomesAdjoined_44 (fun H locs hw => ?_)
  refine lv_aload_n hx hb d_Rules_spareBecomesAdjoined_47 rfl (lv_at hl 0 rfl) ?_
  obtain ⟨v26, e27, hs⟩ := ob hs
  refine pg_getR C hw fl_Rules_12 e27 d_Rules_spareBecomesAdjoined_48 ?_
  refine lv_iconst (v := 1) hx hb d_Rules_spareBecomesAdjoined_51 (by decide) ?_
  refine lv_iconst (v := 2) hx hb d_Rules_spareBecomesAdjoined_52 (by decide) ?_
  obtain ⟨_, e28, hs⟩ := ob hs
  obtain ⟨q29, e30, hs⟩ := ob hs
  refine pg_callV C hw hl.1 ml_Rules_181 e28 (As := [.int 1, .int 2]) (rest := []) (c_Text_setEnd l g e30) rfl (rm_ok (Nat.le_of_ble_eq_true rfl) (Nat.le_of_ble_eq_true rfl)) (Nat.le_of_ble_eq_true rfl) rfl (st1 := []) rfl d_Rules_spareBecomesAdjoined_53 (fun H locs hw => ?_)
  refine lv_aload_n hx hb d_Rules_spareBecomesAdjoined_56 rfl (lv_at hl 0 rfl) ?_
  obtain ⟨v31, e32, hs⟩ := ob hs
  refine pg_getR C hw fl_Rules_12 e32 d_Rules_spareBecomesAdjoined_57 ?_
  refine lv_iconst (v := 2) hx hb d_Rules_spareBecomesAdjoined_60 (by decide) ?_
  refine lv_iconst (v := 3) hx hb d_Rules_spareBecomesAdjoined_61 (by decide) ?_
  obtain ⟨_, e33, hs⟩ := ob hs
  obtain ⟨q34, e35, hs⟩ := ob hs
  refine pg_callV C hw hl.1 ml_Rules_181 e33 (As := [.int 2, .int 3]) (rest := []) (c_Text_setEnd l g e35) rfl (rm_ok (Nat.le_of_ble_eq_true rfl) (Nat.le_of_ble_eq_true rfl)) (Nat.le_of_ble_eq_true rfl) rfl (st1 := []) rfl d_Rules_spareBecomesAdjoined_62 (fun H locs hw => ?_)
  obtain rfl := Option.some.inj hs
  exact pg_vret C hw d_Rules_spareBecomesAdjoined_65

end
section
variable {p : Program} {l : Launch} {e : Env} {s : State} {m : MethodId} {args : Array Value} {below : List Frame} {meth : Method} {c : Code} {g : GG}
theorem d_Rules_isByInduction_0 : decode b_Rules_isByInduction 0 = .ok (.iconst 1, 1) := by decide +kernel
theorem d_Rules_isByInduction_1 : decode b_Rules_isByInduction 1 = .ok (.aload_n 0, 1) := by decide +kernel
theorem d_Rules_isByInduction_2 : decode b_Rules_isByInduction 2 = .ok (.getfield 29, 3) := by decide +kernel
theorem d_Rules_isByInduction_5 : decode b_Rules_isByInduction 5 = .ok (.invokevirtual 146, 3) := by decide +kernel
theorem d_Rules_isByInduction_8 : decode b_Rules_isByInduction 8 = .ok (.iadd, 1) := by decide +kernel
theorem d_Rules_isByInduction_9 : decode b_Rules_isByInduction 9 = .ok (.istore_n 3, 1) := by decide +kernel
theorem d_Rules_isByInduction_10 : decode b_Rules_isByInduction 10 = .ok (.aload_n 2, 1) := by decide +kernel
theorem d_Rules_isByInduction_11 : decode b_Rules_isByInduction 11 = .ok (.iconst 0, 1) := by decide +kernel
theorem d_Rules_isByInduction_12 : decode b_Rules_isByInduction 12 = .ok (.invokevirtual 149, 3) := by decide +kernel
theorem d_Rules_isByInduction_15 : decode b_Rules_isByInduction 15 = .ok (.bipush 62, 2) := by decide +kernel
theorem d_Rules_isByInduction_17 : decode b_Rules_isByInduction 17 = .ok (.if_icmp .ne 23, 3) := by decide +kernel
theorem d_Rules_isByInduction_20 : decode b_Rules_isByInduction 20 = .ok (.aload_n 2, 1) := by decide +kernel
theorem d_Rules_isByInduction_21 : decode b_Rules_isByInduction 21 = .ok (.iconst 1, 1) := by decide +kernel
theorem d_Rules_isByInduction_22 : decode b_Rules_isByInduction 22 = .ok (.aload_n 0, 1) := by decide +kernel
theorem d_Rules_isByInduction_23 : decode b_Rules_isByInduction 23 = .ok (.getfield 29, 3) := by decide +kernel
theorem d_Rules_isByInduction_26 : decode b_Rules_isByInduction 26 = .ok (.iconst 0, 1) := by decide +kernel
theorem d_Rules_isByInduction_27 : decode b_Rules_isByInduction 27 = .ok (.aload_n 0, 1) := by decide +kernel
theorem d_Rules_isByInduction_28 : decode b_Rules_isByInduction 28 = .ok (.getfield 29, 3) := by decide +kernel
theorem d_Rules_isByInduction_31 : decode b_Rules_isByInduction 31 = .ok (.invokevirtual 146, 3) := by decide +kernel
theorem d_Rules_isByInduction_34 : decode b_Rules_isByInduction 34 = .ok (.invokevirtual 153, 3) := by decide +kernel
theorem d_Rules_isByInduction_37 : decode b_Rules_isByInduction 37 = .ok (.ifCond .ne 5, 3) := by decide +kernel
theorem d_Rules_isByInduction_40 : decode b_Rules_isByInduction 40 = .ok (.iconst 0, 1) := by decide +kernel
theorem d_Rules_isByInduction_41 : decode b_Rules_isByInduction 41 = .ok (.ireturn, 1) := by decide +kernel
theorem d_Rules_isByInduction_42 : decode b_Rules_isByInduction 42 = .ok (.aload_n 0, 1) := by decide +kernel
theorem d_Rules_isByInduction_43 : decode b_Rules_isByInduction 43 = .ok (.getfield 29, 3) := by decide +kernel
theorem d_Rules_isByInduction_46 : decode b_Rules_isByInduction 46 = .ok (.iconst 0, 1) := by decide +kernel
theorem d_Rules_isByInduction_47 : decode b_Rules_isByInduction 47 = .ok (.iconst 1, 1) := by decide +kernel
theorem d_Rules_isByInduction_48 : decode b_Rules_isByInduction 48 = .ok (.invokevirtual 164, 3) := by decide +kernel
theorem d_Rules_isByInduction_51 : decode b_Rules_isByInduction 51 = .ok (.istore 4, 2) := by decide +kernel
theorem d_Rules_isByInduction_53 : decode b_Rules_isByInduction 53 = .ok (.iconst 0, 1) := by decide +kernel
theorem d_Rules_isByInduction_54 : decode b_Rules_isByInduction 54 = .ok (.istore 5, 2) := by decide +kernel
theorem d_Rules_isByInduction_56 : decode b_Rules_isByInduction 56 = .ok (.iload 5, 2) := by decide +kernel
theorem d_Rules_isByInduction_58 : decode b_Rules_isByInduction 58 = .ok (.bipush 8, 2) := by decide +kernel
theorem d_Rules_isByInduction_60 : decode b_Rules_isByInduction 60 = .ok (.if_icmp .ge 128, 3) := by decide +kernel
theorem d_Rules_isByInduction_63 : decode b_Rules_isByInduction 63 = .ok (.aload_n 0, 1) := by decide +kernel
theorem d_Rules_isByInduction_64 : decode b_Rules_isByInduction 64 = .ok (.getfield 45, 3) := by decide +kernel
theorem d_Rules_isByInduction_67 : decode b_Rules_isByInduction 67 = .ok (.aload_n 0, 1) := by decide +kernel
theorem d_Rules_isByInduction_68 : decode b_Rules_isByInduction 68 = .ok (.getfield 12, 3) := by decide +kernel
theorem d_Rules_isByInduction_71 : decode b_Rules_isByInduction 71 = .ok (.iload 5, 2) := by decide +kernel
theorem d_Rules_isByInduction_73 : decode b_Rules_isByInduction 73 = .ok (.iconst 0, 1) := by decide +kernel
theorem d_Rules_isByInduction_74 : decode b_Rules_isByInduction 74 = .ok (.invokevirtual 135, 3) := by decide +kernel
theorem d_Rules_isByInduction_77 : decode b_Rules_isByInduction 77 = .ok (.aload_n 0, 1) := by decide +kernel
theorem d_Rules_isByInduction_78 : decode b_Rules_isByInduction 78 = .ok (.invokevirtual 168, 3) := by decide +kernel
theorem d_Rules_isByInduction_81 : decode b_Rules_isByInduction 81 = .ok (.aload_n 0, 1) := by decide +kernel
theorem d_Rules_isByInduction_82 : decode b_Rules_isByInduction 82 = .ok (.getfield 45, 3) := by decide +kernel
theorem d_Rules_isByInduction_85 : decode b_Rules_isByInduction 85 = .ok (.aload_n 0, 1) := by decide +kernel
theorem d_Rules_isByInduction_86 : decode b_Rules_isByInduction 86 = .ok (.getfield 29, 3) := by decide +kernel
theorem d_Rules_isByInduction_89 : decode b_Rules_isByInduction 89 = .ok (.iconst 0, 1) := by decide +kernel
theorem d_Rules_isByInduction_90 : decode b_Rules_isByInduction 90 = .ok (.aload_n 1, 1) := by decide +kernel
theorem d_Rules_isByInduction_91 : decode b_Rules_isByInduction 91 = .ok (.iconst 0, 1) := by decide +kernel
theorem d_Rules_isByInduction_92 : decode b_Rules_isByInduction 92 = .ok (.aload_n 1, 1) := by decide +kernel
theorem d_Rules_isByInduction_93 : decode b_Rules_isByInduction 93 = .ok (.invokevirtual 146, 3) := by decide +kernel
theorem d_Rules_isByInduction_96 : decode b_Rules_isByInduction 96 = .ok (.invokevirtual 142, 3) := by decide +kernel
theorem d_Rules_isByInduction_99 : decode b_Rules_isByInduction 99 = .ok (.istore 6, 2) := by decide +kernel
theorem d_Rules_isByInduction_101 : decode b_Rules_isByInduction 101 = .ok (.iconst 0, 1) := by decide +kernel
theorem d_Rules_isByInduction_102 : decode b_Rules_isByInduction 102 = .ok (.istore 7, 2) := by decide +kernel
theorem d_Rules_isByInduction_104 : decode b_Rules_isByInduction 104 = .ok (.iload 7, 2) := by decide +kernel
theorem d_Rules_isByInduction_106 : decode b_Rules_isByInduction 106 = .ok (.bipush 8, 2) := by decide +kernel
theorem d_Rules_isByInduction_108 : decode b_Rules_isByInduction 108 = .ok (.if_icmp .ge 74, 3) := by decide +kernel
theorem d_Rules_isByInduction_111 : decode b_Rules_isByInduction 111 = .ok (.iload 6, 2) := by decide +kernel
theorem d_Rules_isByInduction_113 : decode b_Rules_isByInduction 113 = .ok (.ifCond .eq 69, 3) := by decide +kernel
theorem d_Rules_isByInduction_116 : decode b_Rules_isByInduction 116 = .ok (.aload_n 0, 1) := by decide +kernel
theorem d_Rules_isByInduction_117 : decode b_Rules_isByInduction 117 = .ok (.iload 5, 2) := by decide +kernel
theorem d_Rules_isByInduction_119 : decode b_Rules_isByInduction 119 = .ok (.iload 7, 2) := by decide +kernel
theorem d_Rules_isByInduction_121 : decode b_Rules_isByInduction 121 = .ok (.invokevirtual 171, 3) := by decide +kernel
theorem d_Rules_isByInduction_124 : decode b_Rules_isByInduction 124 = .ok (.iload 7, 2) := by decide +kernel
theorem d_Rules_isByInduction_126 : decode b_Rules_isByInduction 126 = .ok (.iload 5, 2) := by decide +kernel
theorem d_Rules_isByInduction_128 : decode b_Rules_isByInduction 128 = .ok (.if_icmp .eq 17, 3) := by decide +kernel
theorem d_Rules_isByInduction_131 : decode b_Rules_isByInduction 131 = .ok (.iload 4, 2) := by decide +kernel
theorem d_Rules_isByInduction_133 : decode b_Rules_isByInduction 133 = .ok (.iload 7, 2) := by decide +kernel
theorem d_Rules_isByInduction_135 : decode b_Rules_isByInduction 135 = .ok (.ishr, 1) := by decide +kernel
theorem d_Rules_isByInduction_136 : decode b_Rules_isByInduction 136 = .ok (.iconst 1, 1) := by decide +kernel
theorem d_Rules_isByInduction_137 : decode b_Rules_isByInduction 137 = .ok (.iand, 1) := by decide +kernel
theorem d_Rules_isByInduction_138 : decode b_Rules_isByInduction 138 = .ok (.ifCond .ne 7, 3) := by decide +kernel
theorem d_Rules_isByInduction_141 : decode b_Rules_isByInduction 141 = .ok (.iconst 1, 1) := by decide +kernel
theorem d_Rules_isByInduction_142 : decode b_Rules_isByInduction 142 = .ok (.goto 4, 3) := by decide +kernel
theorem d_Rules_isByInduction_145 : decode b_Rules_isByInduction 145 = .ok (.iconst 0, 1) := by decide +kernel
theorem d_Rules_isByInduction_146 : decode b_Rules_isByInduction 146 = .ok (.istore 8, 2) := by decide +kernel
theorem d_Rules_isByInduction_148 : decode b_Rules_isByInduction 148 = .ok (.iload 8, 2) := by decide +kernel
theorem d_Rules_isByInduction_150 : decode b_Rules_isByInduction 150 = .ok (.ifCond .eq 26, 3) := by decide +kernel
theorem d_Rules_isByInduction_153 : decode b_Rules_isByInduction 153 = .ok (.aload_n 0, 1) := by decide +kernel
theorem d_Rules_isByInduction_154 : decode b_Rules_isByInduction 154 = .ok (.getfield 45, 3) := by decide +kernel
theorem d_Rules_isByInduction_157 : decode b_Rules_isByInduction 157 = .ok (.aload_n 0, 1) := by decide +kernel
theorem d_Rules_isByInduction_158 : decode b_Rules_isByInduction 158 = .ok (.getfield 29, 3) := by decide +kernel
theorem d_Rules_isByInduction_161 : decode b_Rules_isByInduction 161 = .ok (.iconst 0, 1) := by decide +kernel
theorem d_Rules_isByInduction_162 : decode b_Rules_isByInduction 162 = .ok (.aload_n 2, 1) := by decide +kernel
theorem d_Rules_isByInduction_163 : decode b_Rules_isByInduction 163 = .ok (.iload_n 3, 1) := by decide +kernel
theorem d_Rules_isByInduction_164 : decode b_Rules_isByInduction 164 = .ok (.aload_n 2, 1) := by decide +kernel
theorem d_Rules_isByInduction_165 : decode b_Rules_isByInduction 165 = .ok (.invokevirtual 146, 3) := by decide +kernel
theorem d_Rules_isByInduction_168 : decode b_Rules_isByInduction 168 = .ok (.invokevirtual 142, 3) := by decide +kernel
theorem d_Rules_isByInduction_171 : decode b_Rules_isByInduction 171 = .ok (.ifCond .eq 5, 3) := by decide +kernel
theorem d_Rules_isByInduction_174 : decode b_Rules_isByInduction 174 = .ok (.iconst 1, 1) := by decide +kernel
theorem d_Rules_isByInduction_175 : decode b_Rules_isByInduction 175 = .ok (.ireturn, 1) := by decide +kernel
theorem d_Rules_isByInduction_176 : decode b_Rules_isByInduction 176 = .ok (.iinc 7 1, 3) := by decide +kernel
theorem d_Rules_isByInduction_179 : decode b_Rules_isByInduction 179 = .ok (.goto (-75), 3) := by decide +kernel
theorem d_Rules_isByInduction_182 : decode b_Rules_isByInduction 182 = .ok (.iinc 5 1, 3) := by decide +kernel
theorem d_Rules_isByInduction_185 : decode b_Rules_isByInduction 185 = .ok (.goto (-129), 3) := by decide +kernel
theorem d_Rules_isByInduction_188 : decode b_Rules_isByInduction 188 = .ok (.iconst 0, 1) := by decide +kernel
theorem d_Rules_isByInduction_189 : decode b_Rules_isByInduction 189 = .ok (.ireturn, 1) := by decide +kernel
def s_Rules_isByInduction_176 (c56 : Nat → Nat → Nat → Int32 → Int32 → Int32 → HP → Option (Int32 × HP)) (c104 : Nat → Nat → Nat → Int32 → Int32 → Int32 → Int32 → Int32 → HP → Option (Int32 × HP)) (x0 : Nat) (x1 : Nat) (x2 : Nat) (x3 : Int32) (x4 : Int32) (x5 : Int32) (x6 : Int32) (x7 : Int32) (h : HP) : Option (Int32 × HP) :=
  c104 x0 x1 x2 x3 x4 x5 x6 (x7 + 1) h
set_option maxHeartbeats 4000000 in
set_option maxRecDepth 100000 in
theorem k_Rules_isByInduction_176 {x0 : Nat} {x1 : Nat} {x2 : Nat} {x3 : Int32} {x4 : Int32} {x5 : Int32} {x6 : Int32} {x7 : Int32} {h : HP} {z : Int32 × HP} (C : CX g R_Rules b_Rules_isByInduction 9 (some .boolean) p s m args meth c) (c56 : Nat → Nat → Nat → Int32 → Int32 → Int32 → HP → Option (Int32 × HP)) (c104 : Nat → Nat → Nat → Int32 → Int32 → Int32 → Int32 → Int32 → HP → Option (Int32 × HP))
    (hc56 : ∀ {x0 : Nat} {x1 : Nat} {x2 : Nat} {x3 : Int32} {x4 : Int32} {x5 : Int32} {h : HP} {H : Heap} {locs : List Loc} {ls : Array Slot}, WD g h s.heap H locs → lv_has ls 9 [(0, .ref (aD g x0)), (1, .ref (aD g x1)), (2, .ref (aD g x2)), (3, .int x3), (4, .int x4), (5, .int x5)] → c56 x0 x1 x2 x3 x4 x5 h = some z → W p l e (rmS 33 934) s m args below meth c H locs 0 0 (MQ below (Qq g (some (.int z.1)) z.2) args s 0 0 (inA g)) (F0 m 56 ls []))
    (hc104 : ∀ {x0 : Nat} {x1 : Nat} {x2 : Nat} {x3 : Int32} {x4 : Int32} {x5 : Int32} {x6 : Int32} {x7 : Int32} {h : HP} {H : Heap} {locs : List Loc} {ls : Array Slot}, WD g h s.heap H locs → lv_has ls 9 [(0, .ref (aD g x0)), (1, .ref (aD g x1)), (2, .ref (aD g x2)), (3, .int x3), (4, .int x4), (5, .int x5), (6, .int x6), (7, .int x7)] → c104 x0 x1 x2 x3 x4 x5 x6 x7 h = some z → W p l e (rmS 33 934) s m args below meth c H locs 0 0 (MQ below (Qq g (some (.int z.1)) z.2) args s 0 0 (inA g)) (F0 m 104 ls [])) {H : Heap} {locs : List Loc} {ls : Array Slot} (hw : WD g h s.heap H locs) (hl : lv_has ls 9 [(0, .ref (aD g x0)), (1, .ref (aD g x1)), (2, .ref (aD g x2)), (3, .int x3), (4, .int x4), (5, .int x5), (6, .int x6), (7, .int x7)]) (hs : s_Rules_isByInduction_176 c56 c104 x0 x1 x2 x3 x4 x5 x6 x7 h = some z) : W p l e (rmS 33 934) s m args below meth c H locs 0 0 (MQ below (Qq g (some (.int z.1)) z.2) args s 0 0 (inA g)) (F0 m 176 ls []) := by
  unfold s_Rules_isByInduction_176 at hs
  have hx := C.1
  have hb := C.2.1
  refine lv_iinc hx hb d_Rules_isByInduction_176 hl (k := 7) rfl (v := (x7 + 1)) (iinc_e _ (by decide)) (by decide) (lv' := [(7, .int (x7 + 1)), (0, .ref (aD g x0)), (1, .ref (aD g x1)), (2, .ref (aD g x2)), (3, .int x3), (4, .int x4), (5, .int x5), (6, .int x6)]) rfl (fun ls hl => ?_)
  refine lv_goto hx hb d_Rules_isByInduction_179 (tgt := 104) (by decide) ?_
  exact hc104 hw (lv_sub hl [1, 2, 3, 4, 5, 6, 7, 0] rfl) hs

def s_Rules_isByInduction_146 (c56 : Nat → Nat → Nat → Int32 → Int32 → Int32 → HP → Option (Int32 × HP)) (c104 : Nat → Nat → Nat → Int32 → Int32 → Int32 → Int32 → Int32 → HP → Option (Int32 × HP)) (x0 : Nat) (x1 : Nat) (x2 : Nat) (x3 : Int32) (x4 : Int32) (x5 : Int32) (x6 : Int32) (x7 : Int32) (t0 : Int32) (h : HP) : Option (Int32 × HP) :=
  if t0 = 0 then (
    s_Rules_isByInduction_176 c56 c104 x0 x1 x2 x3 x4 x5 x6 x7 h)
  else (
    (gR h x0 7 4).bind fun v1 =>
    (gR h x0 7 0).bind fun v3 =>
    (kd x2 0).bind fun _ =>
    (s_Text_length x2 h).bind fun q6 =>
    (kd v1 5).bind fun _ =>
    (s_Replacement_gives v1 v3 0 x2 x3 q6 h).bind fun q9 =>
    if q9.1 = 0 then (
      s_Rules_isByInduction_176 c56 c104 x0 x1 x2 x3 x4 x5 x6 x7 q9.2)
    else (
      some (1, q9.2)))
set_option maxHeartbeats 4000000 in
set_option maxRecDepth 100000 in
theorem k_Rules_isByInduction_146 {x0 : Nat} {x1 : Nat} {x2 : Nat} {x3 : Int32} {x4 : Int32} {x5 : Int32} {x6 : Int32} {x7 : Int32} {t0 : Int32} {h : HP} {z : Int32 × HP} (C : CX g R_Rules b_Rules_isByInduction 9 (some .boolean) p s m args meth c) (c56 : Nat → Nat → Nat → Int32 → Int32 → Int32 → HP → Option (Int32 × HP)) (c104 : Nat → Nat → Nat → Int32 → Int32 → Int32 → Int32 → Int32 → HP → Option (Int32 × HP))
    (hc56 : ∀ {x0 : Nat} {x1 : Nat} {x2 : Nat} {x3 : Int32} {x4 : Int32} {x5 : Int32} {h : HP} {H : Heap} {locs : List Loc} {ls : Array Slot}, WD g h s.heap H locs → lv_has ls 9 [(0, .ref (aD g x0)), (1, .ref (aD g x1)), (2, .ref (aD g x2)), (3, .int x3), (4, .int x4), (5, .int x5)] → c56 x0 x1 x2 x3 x4 x5 h = some z → W p l e (rmS 33 934) s m args below meth c H locs 0 0 (MQ below (Qq g (some (.int z.1)) z.2) args s 0 0 (inA g)) (F0 m 56 ls []))
    (hc104 : ∀ {x0 : Nat} {x1 : Nat} {x2 : Nat} {x3 : Int32} {x4 : Int32} {x5 : Int32} {x6 : Int32} {x7 : Int32} {h : HP} {H : Heap} {locs : List Loc} {ls : Array Slot}, WD g h s.heap H locs → lv_has ls 9 [(0, .ref (aD g x0)), (1, .ref (aD g x1)), (2, .ref (aD g x2)), (3, .int x3), (4, .int x4), (5, .int x5), (6, .int x6), (7, .int x7)] → c104 x0 x1 x2 x3 x4 x5 x6 x7 h = some z → W p l e (rmS 33 934) s m args below meth c H locs 0 0 (MQ below (Qq g (some (.int z.1)) z.2) args s 0 0 (inA g)) (F0 m 104 ls [])) {H : Heap} {locs : List Loc} {ls : Array Slot} (hw : WD g h s.heap H locs) (hl : lv_has ls 9 [(0, .ref (aD g x0)), (1, .ref (aD g x1)), (2, .ref (aD g x2)), (3, .int x3), (4, .int x4), (5, .int x5), (6, .int x6), (7, .int x7)]) (hs : s_Rules_isByInduction_146 c56 c104 x0 x1 x2 x3 x4 x5 x6 x7 t0 h = some z) : W p l e (rmS 33 934) s m args below meth c H locs 0 0 (MQ below (Qq g (some (.int z.1)) z.2) args s 0 0 (inA g)) (F0 m 146 ls [.int t0]) := by
  unfold s_Rules_isByInduction_146 at hs
  have hx := C.1
  have hb := C.2.1
  refine lv_istore hx hb d_Rules_isByInduction_146 hl (by decide) (lv' := [(8, .int t0), (0, .ref (aD g x0)), (1, .ref (aD g x1)), (2, .ref (aD g x2)), (3, .int x3), (4, .int x4), (5, .int x5), (6, .int x6), (7, .int x7)]) rfl (fun ls hl => ?_)
  refine lv_iload hx hb d_Rules_isByInduction_148 (lv_at hl 0 rfl) ?_
  refine lv_if_eq hx hb d_Rules_isByInduction_150 (tgt := 176) (by decide) (fun hc => ?_) (fun hc => ?_)
  · have hs := oi_t hc hs
    exact k_Rules_isByInduction_176 C c56 c104 hc56 hc104 hw (lv_sub hl [1, 2, 3, 4, 5, 6, 7, 8] rfl) hs
  · have hs := oi_f hc hs
    refine lv_aload_n hx hb d_Rules_isByInduction_153 rfl (lv_at hl 1 rfl) ?_
    obtain ⟨v1, e2, hs⟩ := ob hs
    refine pg_getR C hw fl_Rules_45 e2 d_Rules_isByInduction_154 ?_
    refine lv_aload_n hx hb d_Rules_isByInduction_157 rfl (lv_at hl 1 rfl) ?_
    obtain ⟨v3, e4, hs⟩ := ob hs
    refine pg_getR C hw fl_Rules_29 e4 d_Rules_isByInduction_158 ?_
    refine lv_iconst (v := 0) hx hb d_Rules_isByInduction_161 (by decide) ?_
    refine lv_aload_n hx hb d_Rules_isByInduction_162 rfl (lv_at hl 3 rfl) ?_
    refine lv_iload_n hx hb d_Rules_isByInduction_163 rfl (lv_at hl 4 rfl) ?_
    refine lv_aload_n hx hb d_Rules_isByInduction_164 rfl (lv_at hl 3 rfl) ?_
    obtain ⟨_, e5, hs⟩ := ob hs
    obtain ⟨q6, e7, hs⟩ := ob hs
    refine pg_callV C hw hl.1 ml_Rules_146 e5 (As := []) (rest := [.int x3, .ref (aD g x2), .int 0, .ref (aD g v3), .ref (aD g v1)]) (c_Text_length l g e7) rfl (rm_ok (Nat.le_of_ble_eq_true rfl) (Nat.le_of_ble_eq_true rfl)) (Nat.le_of_ble_eq_true rfl) rfl (st1 := [.int q6, .int x3, .ref (aD g x2), .int 0, .ref (aD g v3), .ref (aD g v1)]) rfl d_Rules_isByInduction_165 (fun H locs hw => ?_)
    obtain ⟨_, e8, hs⟩ := ob hs
    obtain ⟨q9, e10, hs⟩ := ob hs
    refine pg_callV C hw hl.1 ml_Rules_142 e8 (As := [.ref (aD g v3), .int 0, .ref (aD g x2), .int x3, .int q6]) (rest := []) (c_Replacement_gives l g e10) rfl (rm_ok (Nat.le_of_ble_eq_true rfl) (Nat.le_of_ble_eq_true rfl)) (Nat.le_of_ble_eq_true rfl) rfl (st1 := [.int q9.1]) rfl d_Rules_isByInduction_168 (fun H locs hw => ?_)
    refine lv_if_eq hx hb d_Rules_isByInduction_171 (tgt := 176) (by decide) (fun hc => ?_) (fun hc => ?_)
    · have hs := oi_t hc hs
      exact k_Rules_isByInduction_176 C c56 c104 hc56 hc104 hw (lv_sub hl [1, 2, 3, 4, 5, 6, 7, 8] rfl) hs
    · have hs := oi_f hc hs
      refine lv_iconst (v := 1) hx hb d_Rules_isByInduction_174 (by decide) ?_
      obtain rfl := Option.some.inj hs
      exact pg_zret (v := 1) C hw rfl d_Rules_isByInduction_175

def s_Rules_isByInduction_145 (c56 : Nat → Nat → Nat → Int32 → Int32 → Int32 → HP → Option (Int32 × HP)) (c104 : Nat → Nat → Nat → Int32 → Int32 → Int32 → Int32 → Int32 → HP → Option (Int32 × HP)) (x0 : Nat) (x1 : Nat) (x2 : Nat) (x3 : Int32) (x4 : Int32) (x5 : Int32) (x6 : Int32) (x7 : Int32) (h : HP) : Option (Int32 × HP) :=
  s_Rules_isByInduction_146 c56 c104 x0 x1 x2 x3 x4 x5 x6 x7 0 h
set_option maxHeartbeats 4000000 in
set_option maxRecDepth 100000 in
theorem k_Rules_isByInduction_145 {x0 : Nat} {x1 : Nat} {x2 : Nat} {x3 : Int32} {x4 : Int32} {x5 : Int32} {x6 : Int32} {x7 : Int32} {h : HP} {z : Int32 × HP} (C : CX g R_Rules b_Rules_isByInduction 9 (some .boolean) p s m args meth c) (c56 : Nat → Nat → Nat → Int32 → Int32 → Int32 → HP → Option (Int32 × HP)) (c104 : Nat → Nat → Nat → Int32 → Int32 → Int32 → Int32 → Int32 → HP → Option (Int32 × HP))
    (hc56 : ∀ {x0 : Nat} {x1 : Nat} {x2 : Nat} {x3 : Int32} {x4 : Int32} {x5 : Int32} {h : HP} {H : Heap} {locs : List Loc} {ls : Array Slot}, WD g h s.heap H locs → lv_has ls 9 [(0, .ref (aD g x0)), (1, .ref (aD g x1)), (2, .ref (aD g x2)), (3, .int x3), (4, .int x4), (5, .int x5)] → c56 x0 x1 x2 x3 x4 x5 h = some z → W p l e (rmS 33 934) s m args below meth c H locs 0 0 (MQ below (Qq g (some (.int z.1)) z.2) args s 0 0 (inA g)) (F0 m 56 ls []))
    (hc104 : ∀ {x0 : Nat} {x1 : Nat} {x2 : Nat} {x3 : Int32} {x4 : Int32} {x5 : Int32} {x6 : Int32} {x7 : Int32} {h : HP} {H : Heap} {locs : List Loc} {ls : Array Slot}, WD g h s.heap H locs → lv_has ls 9 [(0, .ref (aD g x0)), (1, .ref (aD g x1)), (2, .ref (aD g x2)), (3, .int x3), (4, .int x4), (5, .int x5), (6, .int x6), (7, .int x7)] → c104 x0 x1 x2 x3 x4 x5 x6 x7 h = some z → W p l e (rmS 33 934) s m args below meth c H locs 0 0 (MQ below (Qq g (some (.int z.1)) z.2) args s 0 0 (inA g)) (F0 m 104 ls [])) {H : Heap} {locs : List Loc} {ls : Array Slot} (hw : WD g h s.heap H locs) (hl : lv_has ls 9 [(0, .ref (aD g x0)), (1, .ref (aD g x1)), (2, .ref (aD g x2)), (3, .int x3), (4, .int x4), (5, .int x5), (6, .int x6), (7, .int x7)]) (hs : s_Rules_isByInduction_145 c56 c104 x0 x1 x2 x3 x4 x5 x6 x7 h = some z) : W p l e (rmS 33 934) s m args below meth c H locs 0 0 (MQ below (Qq g (some (.int z.1)) z.2) args s 0 0 (inA g)) (F0 m 145 ls []) := by
  unfold s_Rules_isByInduction_145 at hs
  have hx := C.1
  have hb := C.2.1
  refine lv_iconst (v := 0) hx hb d_Rules_isByInduction_145 (by decide) ?_
  exact k_Rules_isByInduction_146 C c56 c104 hc56 hc104 hw (lv_sub hl [0, 1, 2, 3, 4, 5, 6, 7] rfl) hs

def s_Rules_isByInduction_182 (c56 : Nat → Nat → Nat → Int32 → Int32 → Int32 → HP → Option (Int32 × HP)) (x0 : Nat) (x1 : Nat) (x2 : Nat) (x3 : Int32) (x4 : Int32) (x5 : Int32) (h : HP) : Option (Int32 × HP) :=
  c56 x0 x1 x2 x3 x4 (x5 + 1) h
set_option maxHeartbeats 4000000 in
set_option maxRecDepth 100000 in
theorem k_Rules_isByInduction_182 {x0 : Nat} {x1 : Nat} {x2 : Nat} {x3 : Int32} {x4 : Int32} {x5 : Int32} {h : HP} {z : Int32 × HP} (C : CX g R_Rules b_Rules_isByInduction 9 (some .boolean) p s m args meth c) (c56 : Nat → Nat → Nat → Int32 → Int32 → Int32 → HP → Option (Int32 × HP))
    (hc56 : ∀ {x0 : Nat} {x1 : Nat} {x2 : Nat} {x3 : Int32} {x4 : Int32} {x5 : Int32} {h : HP} {H : Heap} {locs : List Loc} {ls : Array Slot}, WD g h s.heap H locs → lv_has ls 9 [(0, .ref (aD g x0)), (1, .ref (aD g x1)), (2, .ref (aD g x2)), (3, .int x3), (4, .int x4), (5, .int x5)] → c56 x0 x1 x2 x3 x4 x5 h = some z → W p l e (rmS 33 934) s m args below meth c H locs 0 0 (MQ below (Qq g (some (.int z.1)) z.2) args s 0 0 (inA g)) (F0 m 56 ls [])) {H : Heap} {locs : List Loc} {ls : Array Slot} (hw : WD g h s.heap H locs) (hl : lv_has ls 9 [(0, .ref (aD g x0)), (1, .ref (aD g x1)), (2, .ref (aD g x2)), (3, .int x3), (4, .int x4), (5, .int x5)]) (hs : s_Rules_isByInduction_182 c56 x0 x1 x2 x3 x4 x5 h = some z) : W p l e (rmS 33 934) s m args below meth c H locs 0 0 (MQ below (Qq g (some (.int z.1)) z.2) args s 0 0 (inA g)) (F0 m 182 ls []) := by
  unfold s_Rules_isByInduction_182 at hs
  have hx := C.1
  have hb := C.2.1
  refine lv_iinc hx hb d_Rules_isByInduction_182 hl (k := 5) rfl (v := (x5 + 1)) (iinc_e _ (by decide)) (by decide) (lv' := [(5, .int (x5 + 1)), (0, .ref (aD g x0)), (1, .ref (aD g x1)), (2, .ref (aD g x2)), (3, .int x3), (4, .int x4)]) rfl (fun ls hl => ?_)
  refine lv_goto hx hb d_Rules_isByInduction_185 (tgt := 56) (by decide) ?_
  exact hc56 hw (lv_sub hl [1, 2, 3, 4, 5, 0] rfl) hs

def s_Rules_isByInduction_104 (c56 : Nat → Nat → Nat → Int32 → Int32 → Int32 → HP → Option (Int32 × HP)) : Nat → Nat → Nat → Nat → Int32 → Int32 → Int32 → Int32 → Int32 → HP → Option (Int32 × HP)
  | 0 => fun _ _ _ _ _ _ _ _ _ => none
  | k + 1 => fun x0 x1 x2 x3 x4 x5 x6 x7 h =>
  if 8 ≤ x7 then (
    s_Rules_isByInduction_182 c56 x0 x1 x2 x3 x4 x5 h)
  else (
    if x6 = 0 then (
      s_Rules_isByInduction_182 c56 x0 x1 x2 x3 x4 x5 h)
    else (
      (kd x0 7).bind fun _ =>
      (s_Rules_spareBecomesAdjoined x0 x5 x7 h).bind fun q2 =>
      if x7 = x5 then (
        s_Rules_isByInduction_145 c56 (s_Rules_isByInduction_104 c56 k) x0 x1 x2 x3 x4 x5 x6 x7 q2)
      else (
        if ((x4 >>> (x7 &&& 31)) &&& 1) = 0 then (
          s_Rules_isByInduction_146 c56 (s_Rules_isByInduction_104 c56 k) x0 x1 x2 x3 x4 x5 x6 x7 1 q2)
        else (
          s_Rules_isByInduction_145 c56 (s_Rules_isByInduction_104 c56 k) x0 x1 x2 x3 x4 x5 x6 x7 q2))))
set_option maxHeartbeats 4000000 in
set_option maxRecDepth 100000 in
theorem k_Rules_isByInduction_104 {z : Int32 × HP} (C : CX g R_Rules b_Rules_isByInduction 9 (some .boolean) p s m args meth c) (c56 : Nat → Nat → Nat → Int32 → Int32 → Int32 → HP → Option (Int32 × HP))
    (hc56 : ∀ {x0 : Nat} {x1 : Nat} {x2 : Nat} {x3 : Int32} {x4 : Int32} {x5 : Int32} {h : HP} {H : Heap} {locs : List Loc} {ls : Array Slot}, WD g h s.heap H locs → lv_has ls 9 [(0, .ref (aD g x0)), (1, .ref (aD g x1)), (2, .ref (aD g x2)), (3, .int x3), (4, .int x4), (5, .int x5)] → c56 x0 x1 x2 x3 x4 x5 h = some z → W p l e (rmS 33 934) s m args below meth c H locs 0 0 (MQ below (Qq g (some (.int z.1)) z.2) args s 0 0 (inA g)) (F0 m 56 ls [])) : ∀ (k : Nat) {x0 : Nat} {x1 : Nat} {x2 : Nat} {x3 : Int32} {x4 : Int32} {x5 : Int32} {x6 : Int32} {x7 : Int32} {h : HP} {H : Heap} {locs : List Loc} {ls : Array Slot}, WD g h s.heap H locs → lv_has ls 9 [(0, .ref (aD g x0)), (1, .ref (aD g x1)), (2, .ref (aD g x2)), (3, .int x3), (4, .int x4), (5, .int x5), (6, .int x6), (7, .int x7)] → s_Rules_isByInduction_104 c56 k x0 x1 x2 x3 x4 x5 x6 x7 h = some z → W p l e (rmS 33 934) s m args below meth c H locs 0 0 (MQ below (Qq g (some (.int z.1)) z.2) args s 0 0 (inA g)) (F0 m 104 ls []) := by
  have hx := C.1
  have hb := C.2.1
  intro k
  induction k with
  | zero =>
    intro x0 x1 x2 x3 x4 x5 x6 x7 h H locs ls hw hl hs
    exact (no_s hs).elim
  | succ k ih =>
    intro x0 x1 x2 x3 x4 x5 x6 x7 h H locs ls hw hl hs
    rw [s_Rules_isByInduction_104] at hs
    refine lv_iload hx hb d_Rules_isByInduction_104 (lv_at hl 7 rfl) ?_
    refine lv_bipush (v := 8) hx hb d_Rules_isByInduction_106 (by decide) ?_
    refine lv_icmp_ge hx hb d_Rules_isByInduction_108 (tgt := 182) (by decide) (fun hc => ?_) (fun hc => ?_)
    · have hs := oi_t hc hs
      exact k_Rules_isByInduction_182 C c56 hc56 hw (lv_sub hl [0, 1, 2, 3, 4, 5] rfl) hs
    · have hs := oi_f hc hs
      refine lv_iload hx hb d_Rules_isByInduction_111 (lv_at hl 6 rfl) ?_
      refine lv_if_eq hx hb d_Rules_isByInduction_113 (tgt := 182) (by decide) (fun hc => ?_) (fun hc => ?_)
      · have hs := oi_t hc hs
        exact k_Rules_isByInduction_182 C c56 hc56 hw (lv_sub hl [0, 1, 2, 3, 4, 5] rfl) hs
      · have hs := oi_f hc hs
        refine lv_aload_n hx hb d_Rules_isByInduction_116 rfl (lv_at hl 0 rfl) ?_
        refine lv_iload hx hb d_Rules_isByInduction_117 (lv_at hl 5 rfl) ?_
        refine lv_iload hx hb d_Rules_isByInduction_119 (lv_at hl 7 rfl) ?_
        obtain ⟨_, e1, hs⟩ := ob hs
        obtain ⟨q2, e3, hs⟩ := ob hs
        refine pg_callV C hw hl.1 ml_Rules_171 e1 (As := [.int x5, .int x7]) (rest := []) (c_Rules_spareBecomesAdjoined l g e3) rfl (rm_ok (Nat.le_of_ble_eq_true rfl) (Nat.le_of_ble_eq_true rfl)) (Nat.le_of_ble_eq_true rfl) rfl (st1 := []) rfl d_Rules_isByInduction_121 (fun H locs hw => ?_)
        refine lv_iload hx hb d_Rules_isByInduction_124 (lv_at hl 7 rfl) ?_
        refine lv_iload hx hb d_Rules_isByInduction_126 (lv_at hl 5 rfl) ?_
        refine lv_icmp_eq hx hb d_Rules_isByInduction_128 (tgt := 145) (by decide) (fun hc => ?_) (fun hc => ?_)
        · have hs := oi_t hc hs
          exact k_Rules_isByInduction_145 C c56 (s_Rules_isByInduction_104 c56 k) hc56 ih hw (lv_sub hl [0, 1, 2, 3, 4, 5, 6, 7] rfl) hs
        · have hs := oi_f hc hs
          refine lv_iload hx hb d_Rules_isByInduction_131 (lv_at hl 4 rfl) ?_
          refine lv_iload hx hb d_Rules_isByInduction_133 (lv_at hl 7 rfl) ?_
          refine lv_ishr hx hb d_Rules_isByInduction_135 ?_
          refine lv_iconst (v := 1) hx hb d_Rules_isByInduction_136 (by decide) ?_
          refine lv_iand hx hb d_Rules_isByInduction_137 ?_
          refine lv_if_ne hx hb d_Rules_isByInduction_138 (tgt := 145) (by decide) (fun hc => ?_) (fun hc => ?_)
          · have hs := oi_f hc hs
            exact k_Rules_isByInduction_145 C c56 (s_Rules_isByInduction_104 c56 k) hc56 ih hw (lv_sub hl [0, 1, 2, 3, 4, 5, 6, 7] rfl) hs
          · have hs := oi_t hc hs
            refine lv_iconst (v := 1) hx hb d_Rules_isByInduction_141 (by decide) ?_
            refine lv_goto hx hb d_Rules_isByInduction_142 (tgt := 146) (by decide) ?_
            exact k_Rules_isByInduction_146 C c56 (s_Rules_isByInduction_104 c56 k) hc56 ih hw (lv_sub hl [0, 1, 2, 3, 4, 5, 6, 7] rfl) hs

def s_Rules_isByInduction_56 : Nat → Nat → Nat → Nat → Int32 → Int32 → Int32 → HP → Option (Int32 × HP)
  | 0 => fun _ _ _ _ _ _ _ => none
  | k + 1 => fun x0 x1 x2 x3 x4 x5 h =>
  if 8 ≤ x5 then (
    some (0, h))
  else (
    (gR h x0 7 4).bind fun v2 =>
    (gR h x0 7 3).bind fun v4 =>
    (kd v2 5).bind fun _ =>
    (s_Replacement_beginWith v2 v4 x5 0 h).bind fun q7 =>
    (kd x0 7).bind fun _ =>
    (s_Rules_spareBecomesZero x0 q7).bind fun q10 =>
    (gR q10 x0 7 4).bind fun v12 =>
    (gR q10 x0 7 0).bind fun v14 =>
    (kd x1 0).bind fun _ =>
    (s_Text_length x1 q10).bind fun q17 =>
    (kd v12 5).bind fun _ =>
    (s_Replacement_gives v12 v14 0 x1 0 q17 q10).bind fun q20 =>
    s_Rules_isByInduction_104 (s_Rules_isByInduction_56 k) 20000 x0 x1 x2 x3 x4 x5 q20.1 0 q20.2)
set_option maxHeartbeats 4000000 in
set_option maxRecDepth 100000 in
theorem k_Rules_isByInduction_56 {z : Int32 × HP} (C : CX g R_Rules b_Rules_isByInduction 9 (some .boolean) p s m args meth c) : ∀ (k : Nat) {x0 : Nat} {x1 : Nat} {x2 : Nat} {x3 : Int32} {x4 : Int32} {x5 : Int32} {h : HP} {H : Heap} {locs : List Loc} {ls : Array Slot}, WD g h s.heap H locs → lv_has ls 9 [(0, .ref (aD g x0)), (1, .ref (aD g x1)), (2, .ref (aD g x2)), (3, .int x3), (4, .int x4), (5, .int x5)] → s_Rules_isByInduction_56 k x0 x1 x2 x3 x4 x5 h = some z → W p l e (rmS 33 934) s m args below meth c H locs 0 0 (MQ below (Qq g (some (.int z.1)) z.2) args s 0 0 (inA g)) (F0 m 56 ls []) := by
  have hx := C.1
  have hb := C.2.1
  intro k
  induction k with
  | zero =>
    intro x0 x1 x2 x3 x4 x5 h H locs ls hw hl hs
    exact (no_s hs).elim
  | succ k ih =>
    intro x0 x1 x2 x3 x4 x5 h H locs ls hw hl hs
    rw [s_Rules_isByInduction_56] at hs
    refine lv_iload hx hb d_Rules_isByInduction_56 (lv_at hl 5 rfl) ?_
    refine lv_bipush (v := 8) hx hb d_Rules_isByInduction_58 (by decide) ?_
    refine lv_icmp_ge hx hb d_Rules_isByInduction_60 (tgt := 188) (by decide) (fun hc => ?_) (fun hc => ?_)
    · have hs := oi_t hc hs
      refine lv_iconst (v := 0) hx hb d_Rules_isByInduction_188 (by decide) ?_
      obtain rfl := Option.some.inj hs
      exact pg_zret (v := 0) C hw rfl d_Rules_isByInduction_189
    · have hs := oi_f hc hs
      refine lv_aload_n hx hb d_Rules_isByInduction_63 rfl (lv_at hl 0 rfl) ?_
      obtain ⟨v2, e3, hs⟩ := ob hs
      refine pg_getR C hw fl_Rules_45 e3 d_Rules_isByInduction_64 ?_
      refine lv_aload_n hx hb d_Rules_isByInduction_67 rfl (lv_at hl 0 rfl) ?_
      obtain ⟨v4, e5, hs⟩ := ob hs
      refine pg_getR C hw fl_Rules_12 e5 d_Rules_isByInduction_68 ?_
      refine lv_iload hx hb d_Rules_isByInduction_71 (lv_at hl 5 rfl) ?_
      refine lv_iconst (v := 0) hx hb d_Rules_isByInduction_73 (by decide) ?_
      obtain ⟨_, e6, hs⟩ := ob hs
      obtain ⟨q7, e8, hs⟩ := ob hs
      refine pg_callV C hw hl.1 ml_Rules_135 e6 (As := [.ref (aD g v4), .int x5, .int 0]) (rest := []) (c_Replacement_beginWith l g e8) rfl (rm_ok (Nat.le_of_ble_eq_true rfl) (Nat.le_of_ble_eq_true rfl)) (Nat.le_of_ble_eq_true rfl) rfl (st1 := []) rfl d_Rules_isByInduction_74 (fun H locs hw => ?_)
      refine lv_aload_n hx hb d_Rules_isByInduction_77 rfl (lv_at hl 0 rfl) ?_
      obtain ⟨_, e9, hs⟩ := ob hs
      obtain ⟨q10, e11, hs⟩ := ob hs
      refine pg_callV C hw hl.1 ml_Rules_168 e9 (As := []) (rest := []) (c_Rules_spareBecomesZero l g e11) rfl (rm_ok (Nat.le_of_ble_eq_true rfl) (Nat.le_of_ble_eq_true rfl)) (Nat.le_of_ble_eq_true rfl) rfl (st1 := []) rfl d_Rules_isByInduction_78 (fun H locs hw => ?_)
      refine lv_aload_n hx hb d_Rules_isByInduction_81 rfl (lv_at hl 0 rfl) ?_
      obtain ⟨v12, e13, hs⟩ := ob hs
      refine pg_getR C hw fl_Rules_45 e13 d_Rules_isByInduction_82 ?_
      refine lv_aload_n hx hb d_Rules_isByInduction_85 rfl (lv_at hl 0 rfl) ?_
      obtain ⟨v14, e15, hs⟩ := ob hs
      refine pg_getR C hw fl_Rules_29 e15 d_Rules_isByInduction_86 ?_
      refine lv_iconst (v := 0) hx hb d_Rules_isByInduction_89 (by decide) ?_
      refine lv_aload_n hx hb d_Rules_isByInduction_90 rfl (lv_at hl 1 rfl) ?_
      refine lv_iconst (v := 0) hx hb d_Rules_isByInduction_91 (by decide) ?_
      refine lv_aload_n hx hb d_Rules_isByInduction_92 rfl (lv_at hl 1 rfl) ?_
      obtain ⟨_, e16, hs⟩ := ob hs
      obtain ⟨q17, e18, hs⟩ := ob hs
      refine pg_callV C hw hl.1 ml_Rules_146 e16 (As := []) (rest := [.int 0, .ref (aD g x1), .int 0, .ref (aD g v14), .ref (aD g v12)]) (c_Text_length l g e18) rfl (rm_ok (Nat.le_of_ble_eq_true rfl) (Nat.le_of_ble_eq_true rfl)) (Nat.le_of_ble_eq_true rfl) rfl (st1 := [.int q17, .int 0, .ref (aD g x1), .int 0, .ref (aD g v14), .ref (aD g v12)]) rfl d_Rules_isByInduction_93 (fun H locs hw => ?_)
      obtain ⟨_, e19, hs⟩ := ob hs
      obtain ⟨q20, e21, hs⟩ := ob hs
      refine pg_callV C hw hl.1 ml_Rules_142 e19 (As := [.ref (aD g v14), .int 0, .ref (aD g x1), .int 0, .int q17]) (rest := []) (c_Replacement_gives l g e21) rfl (rm_ok (Nat.le_of_ble_eq_true rfl) (Nat.le_of_ble_eq_true rfl)) (Nat.le_of_ble_eq_true rfl) rfl (st1 := [.int q20.1]) rfl d_Rules_isByInduction_96 (fun H locs hw => ?_)
      refine lv_istore hx hb d_Rules_isByInduction_99 hl (by decide) (lv' := [(6, .int q20.1), (0, .ref (aD g x0)), (1, .ref (aD g x1)), (2, .ref (aD g x2)), (3, .int x3), (4, .int x4), (5, .int x5)]) rfl (fun ls hl => ?_)
      refine lv_iconst (v := 0) hx hb d_Rules_isByInduction_101 (by decide) ?_
      refine lv_istore hx hb d_Rules_isByInduction_102 hl (by decide) (lv' := [(7, .int 0), (6, .int q20.1), (0, .ref (aD g x0)), (1, .ref (aD g x1)), (2, .ref (aD g x2)), (3, .int x3), (4, .int x4), (5, .int x5)]) rfl (fun ls hl => ?_)
      exact k_Rules_isByInduction_104 C (s_Rules_isByInduction_56 k) ih 20000 hw (lv_sub hl [2, 3, 4, 5, 6, 7, 1, 0] rfl) hs

def s_Rules_isByInduction (x0 : Nat) (x1 : Nat) (x2 : Nat) (h : HP) : Option (Int32 × HP) :=
  (gR h x0 7 0).bind fun v1 =>
  (kd v1 0).bind fun _ =>
  (s_Text_length v1 h).bind fun q4 =>
  (kd x2 0).bind fun _ =>
  (s_Text_at x2 0 h).bind fun q7 =>
  if q7 = 62 then (
    (gR h x0 7 0).bind fun v10 =>
    (gR h x0 7 0).bind fun v12 =>
    (kd v12 0).bind fun _ =>
    (s_Text_length v12 h).bind fun q15 =>
    (kd x2 0).bind fun _ =>
    (s_Text_has x2 1 v10 0 q15 h).bind fun q18 =>
    if q18 = 0 then (
      some (0, h))
    else (
      (gR h x0 7 0).bind fun v20 =>
      (kd v20 0).bind fun _ =>
      ((s_grp_Text_freeIn 13) v20 0 1 h).bind fun q23 =>
      s_Rules_isByInduction_56 20000 x0 x1 x2 (1 + q4) q23 0 h))
  else (
    some (0, h))
set_option maxHeartbeats 4000000 in
set_option maxRecDepth 100000 in
theorem c_Rules_isByInduction (l : Launch) (g : GG) {x0 : Nat} {x1 : Nat} {x2 : Nat} {h : HP} {z : Int32 × HP} (hs : s_Rules_isByInduction x0 x1 x2 h = some z) : Ct l g y_Rules_isByInduction w_Rules_isByInduction (rmS 33 934) [.ref (aD g x0), .ref (aD g x1), .ref (aD g x2)] h (some (.int z.1)) z.2 := by
  refine Ct.of (own := R_Rules) (by decide) rfl rfl (Nat.le_of_ble_eq_true rfl) ?_
  intro p e s m args below meth c ls C hl hw
  have hx := C.1
  have hb := C.2.1
  have hl : lv_has ls 9 [(0, .ref (aD g x0)), (1, .ref (aD g x1)), (2, .ref (aD g x2))] := hl
  unfold s_Rules_isByInduction at hs
  refine lv_iconst (v := 1) hx hb d_Rules_isByInduction_0 (by decide) ?_
  refine lv_aload_n hx hb d_Rules_isByInduction_1 rfl (lv_at hl 0 rfl) ?_
  obtain ⟨v1, e2, hs⟩ := ob hs
  refine pg_getR C hw fl_Rules_29 e2 d_Rules_isByInduction_2 ?_
  obtain ⟨_, e3, hs⟩ := ob hs
  obtain ⟨q4, e5, hs⟩ := ob hs
  refine pg_callV C hw hl.1 ml_Rules_146 e3 (As := []) (rest := [.int 1]) (c_Text_length l g e5) rfl (rm_ok (Nat.le_of_ble_eq_true rfl) (Nat.le_of_ble_eq_true rfl)) (Nat.le_of_ble_eq_true rfl) rfl (st1 := [.int q4, .int 1]) rfl d_Rules_isByInduction_5 (fun H locs hw => ?_)
  refine lv_iadd hx hb d_Rules_isByInduction_8 ?_
  refine lv_istore_n hx hb d_Rules_isByInduction_9 rfl hl (by decide) (lv' := [(3, .int (1 + q4)), (0, .ref (aD g x0)), (1, .ref (aD g x1)), (2, .ref (aD g x2))]) rfl (fun ls hl => ?_)
  refine lv_aload_n hx hb d_Rules_isByInduction_10 rfl (lv_at hl 3 rfl) ?_
  refine lv_iconst (v := 0) hx hb d_Rules_isByInduction_11 (by decide) ?_
  obtain ⟨_, e6, hs⟩ := ob hs
  obtain ⟨q7, e8, hs⟩ := ob hs
  refine pg_callV C hw hl.1 ml_Rules_149 e6 (As := [.int 0]) (rest := []) (c_Text_at l g e8) rfl (rm_ok (Nat.le_of_ble_eq_true rfl) (Nat.le_of_ble_eq_true rfl)) (Nat.le_of_ble_eq_true rfl) rfl (st1 := [.int q7]) rfl d_Rules_isByInduction_12 (fun H locs hw => ?_)
  refine lv_bipush (v := 62) hx hb d_Rules_isByInduction_15 (by decide) ?_
  refine lv_icmp_ne hx hb d_Rules_isByInduction_17 (tgt := 40) (by decide) (fun hc => ?_) (fun hc => ?_)
  · have hs := oi_f hc hs
    refine lv_iconst (v := 0) hx hb d_Rules_isByInduction_40 (by decide) ?_
    obtain rfl := Option.some.inj hs
    exact pg_zret (v := 0) C hw rfl d_Rules_isByInduction_41
  · have hs := oi_t hc hs
    refine lv_aload_n hx hb d_Rules_isByInduction_20 rfl (lv_at hl 3 rfl) ?_
    refine lv_iconst (v := 1) hx hb d_Rules_isByInduction_21 (by decide) ?_
    refine lv_aload_n hx hb d_Rules_isByInduction_22 rfl (lv_at hl 1 rfl) ?_
    obtain ⟨v10, e11, hs⟩ := ob hs
    refine pg_getR C hw fl_Rules_29 e11 d_Rules_isByInduction_23 ?_
    refine lv_iconst (v := 0) hx hb d_Rules_isByInduction_26 (by decide) ?_
    refine lv_aload_n hx hb d_Rules_isByInduction_27 rfl (lv_at hl 1 rfl) ?_
    obtain ⟨v12, e13, hs⟩ := ob hs
    refine pg_getR C hw fl_Rules_29 e13 d_Rules_isByInduction_28 ?_
    obtain ⟨_, e14, hs⟩ := ob hs
    obtain ⟨q15, e16, hs⟩ := ob hs
    refine pg_callV C hw hl.1 ml_Rules_146 e14 (As := []) (rest := [.int 0, .ref (aD g v10), .int 1, .ref (aD g x2)]) (c_Text_length l g e16) rfl (rm_ok (Nat.le_of_ble_eq_true rfl) (Nat.le_of_ble_eq_true rfl)) (Nat.le_of_ble_eq_true rfl) rfl (st1 := [.int q15, .int 0, .ref (aD g v10), .int 1, .ref (aD g x2)]) rfl d_Rules_isByInduction_31 (fun H locs hw => ?_)
    obtain ⟨_, e17, hs⟩ := ob hs
    obtain ⟨q18, e19, hs⟩ := ob hs
    refine pg_callV C hw hl.1 ml_Rules_153 e17 (As := [.int 1, .ref (aD g v10), .int 0, .int q15]) (rest := []) (c_Text_has l g e19) rfl (rm_ok (Nat.le_of_ble_eq_true rfl) (Nat.le_of_ble_eq_true rfl)) (Nat.le_of_ble_eq_true rfl) rfl (st1 := [.int q18]) rfl d_Rules_isByInduction_34 (fun H locs hw => ?_)
    refine lv_if_ne hx hb d_Rules_isByInduction_37 (tgt := 42) (by decide) (fun hc => ?_) (fun hc => ?_)
    · have hs := oi_f hc hs
      refine lv_aload_n hx hb d_Rules_isByInduction_42 rfl (lv_at hl 1 rfl) ?_
      obtain ⟨v20, e21, hs⟩ := ob hs
      refine pg_getR C hw fl_Rules_29 e21 d_Rules_isByInduction_43 ?_
      refine lv_iconst (v := 0) hx hb d_Rules_isByInduction_46 (by decide) ?_
      refine lv_iconst (v := 1) hx hb d_Rules_isByInduction_47 (by decide) ?_
      obtain ⟨_, e22, hs⟩ := ob hs
      obtain ⟨q23, e24, hs⟩ := ob hs
      refine pg_callV C hw hl.1 ml_Rules_164 e22 (As := [.int 0, .int 1]) (rest := []) ((cg_Text_freeIn l g 13) e24) rfl (rm_ok (Nat.le_of_ble_eq_true rfl) (Nat.le_of_ble_eq_true rfl)) (Nat.le_of_ble_eq_true rfl) rfl (st1 := [.int q23]) rfl d_Rules_isByInduction_48 (fun H locs hw => ?_)
      refine lv_istore hx hb d_Rules_isByInduction_51 hl (by decide) (lv' := [(4, .int q23), (3, .int (1 + q4)), (0, .ref (aD g x0)), (1, .ref (aD g x1)), (2, .ref (aD g x2))]) rfl (fun ls hl => ?_)
      refine lv_iconst (v := 0) hx hb d_Rules_isByInduction_53 (by decide) ?_
      refine lv_istore hx hb d_Rules_isByInduction_54 hl (by decide) (lv' := [(5, .int 0), (4, .int q23), (3, .int (1 + q4)), (0, .ref (aD g x0)), (1, .ref (aD g x1)), (2, .ref (aD g x2))]) rfl (fun ls hl => ?_)
      exact k_Rules_isByInduction_56 C 20000 hw (lv_sub hl [3, 4, 5, 2, 1, 0] rfl) hs
    · have hs := oi_t hc hs
      refine lv_iconst (v := 0) hx hb d_Rules_isByInduction_40 (by decide) ?_
      obtain rfl := Option.some.inj hs
      exact pg_zret (v := 0) C hw rfl d_Rules_isByInduction_41

end
