section
variable {p : Program} {l : Launch} {e : Env} {s : State} {m : MethodId} {args : Array Value} {below : List Frame} {meth : Method} {c : Code} {g : GG}
theorem d_Reader_readTerm_0 : decode b_Reader_readTerm 0 = .ok (.aload_n 0, 1) := by decide +kernel
theorem d_Reader_readTerm_1 : decode b_Reader_readTerm 1 = .ok (.iconst (-1), 1) := by decide +kernel
theorem d_Reader_readTerm_2 : decode b_Reader_readTerm 2 = .ok (.iconst 0, 1) := by decide +kernel
theorem d_Reader_readTerm_3 : decode b_Reader_readTerm 3 = .ok (.bipush 8, 2) := by decide +kernel
theorem d_Reader_readTerm_5 : decode b_Reader_readTerm 5 = .ok (.invokevirtual 33, 3) := by decide +kernel
theorem d_Reader_readTerm_8 : decode b_Reader_readTerm 8 = .ok (.aload_n 0, 1) := by decide +kernel
theorem d_Reader_readTerm_9 : decode b_Reader_readTerm 9 = .ok (.aload_n 0, 1) := by decide +kernel
theorem d_Reader_readTerm_10 : decode b_Reader_readTerm 10 = .ok (.iconst 0, 1) := by decide +kernel
theorem d_Reader_readTerm_11 : decode b_Reader_readTerm 11 = .ok (.iconst 1, 1) := by decide +kernel
theorem d_Reader_readTerm_12 : decode b_Reader_readTerm 12 = .ok (.invokevirtual 37, 3) := by decide +kernel
theorem d_Reader_readTerm_15 : decode b_Reader_readTerm 15 = .ok (.invokevirtual 41, 3) := by decide +kernel
theorem d_Reader_readTerm_18 : decode b_Reader_readTerm 18 = .ok (.ireturn, 1) := by decide +kernel
def s_Reader_readTerm (x0 : Nat) (h : HP) : Option (Int32 × HP) :=
  (kd x0 3).bind fun _ =>
  (s_Reader_start x0 (-1) 0 8 h).bind fun q2 =>
  (kd x0 3).bind fun _ =>
  ((s_grp_Reader_binder 70).2.2.2.2.2.2 x0 0 1 q2).bind fun q5 =>
  (kd x0 3).bind fun _ =>
  (s_Reader_whole x0 q5.1 q5.2).bind fun q8 =>
  some (q8, q5.2)
set_option maxHeartbeats 4000000 in
set_option maxRecDepth 100000 in
theorem c_Reader_readTerm (l : Launch) (g : GG) {x0 : Nat} {h : HP} {z : Int32 × HP} (hs : s_Reader_readTerm x0 h = some z) : Ct l g y_Reader_readTerm w_Reader_readTerm (rmS 72 2076) [.ref (aD g x0)] h (some (.int z.1)) z.2 := by
  refine Ct.of (own := R_Reader) (by decide) rfl rfl (Nat.le_of_ble_eq_true rfl) ?_
  intro p e s m args below meth c ls C hl hw
  have hx := C.1
  have hb := C.2.1
  have hl : lv_has ls 1 [(0, .ref (aD g x0))] := hl
  unfold s_Reader_readTerm at hs
  refine lv_aload_n hx hb d_Reader_readTerm_0 rfl (lv_at hl 0 rfl) ?_
  refine lv_iconst (v := (-1)) hx hb d_Reader_readTerm_1 (by decide) ?_
  refine lv_iconst (v := 0) hx hb d_Reader_readTerm_2 (by decide) ?_
  refine lv_bipush (v := 8) hx hb d_Reader_readTerm_3 (by decide) ?_
  obtain ⟨_, e1, hs⟩ := ob hs
  obtain ⟨q2, e3, hs⟩ := ob hs
  refine pg_callV C hw hl.1 ml_Reader_33 e1 (As := [.int (-1), .int 0, .int 8]) (rest := []) (c_Reader_start l g e3) rfl (rm_ok (Nat.le_of_ble_eq_true rfl) (Nat.le_of_ble_eq_true rfl)) (Nat.le_of_ble_eq_true rfl) rfl (st1 := []) rfl d_Reader_readTerm_5 (fun H locs hw => ?_)
  refine lv_aload_n hx hb d_Reader_readTerm_8 rfl (lv_at hl 0 rfl) ?_
  refine lv_aload_n hx hb d_Reader_readTerm_9 rfl (lv_at hl 0 rfl) ?_
  refine lv_iconst (v := 0) hx hb d_Reader_readTerm_10 (by decide) ?_
  refine lv_iconst (v := 1) hx hb d_Reader_readTerm_11 (by decide) ?_
  obtain ⟨_, e4, hs⟩ := ob hs
  obtain ⟨q5, e6, hs⟩ := ob hs
  refine pg_callV C hw hl.1 ml_Reader_37 e4 (As := [.int 0, .int 1]) (rest := [.ref (aD g x0)]) ((cg_Reader_binder l g 70).2.2.2.2.2.2 e6) rfl (rm_ok (Nat.le_of_ble_eq_true rfl) (Nat.le_of_ble_eq_true rfl)) (Nat.le_of_ble_eq_true rfl) rfl (st1 := [.int q5.1, .ref (aD g x0)]) rfl d_Reader_readTerm_12 (fun H locs hw => ?_)
  obtain ⟨_, e7, hs⟩ := ob hs
  obtain ⟨q8, e9, hs⟩ := ob hs
  refine pg_callV C hw hl.1 ml_Reader_41 e7 (As := [.int q5.1]) (rest := []) (c_Reader_whole l g e9) rfl (rm_ok (Nat.le_of_ble_eq_true rfl) (Nat.le_of_ble_eq_true rfl)) (Nat.le_of_ble_eq_true rfl) rfl (st1 := [.int q8]) rfl d_Reader_readTerm_15 (fun H locs hw => ?_)
  obtain rfl := Option.some.inj hs
  exact pg_iret C hw d_Reader_readTerm_18

end
section
variable {p : Program} {l : Launch} {e : Env} {s : State} {m : MethodId} {args : Array Value} {below : List Frame} {meth : Method} {c : Code} {g : GG}
theorem d_Worker_codeOf_0 : decode b_Worker_codeOf 0 = .ok (.aload_n 0, 1) := by decide +kernel
theorem d_Worker_codeOf_1 : decode b_Worker_codeOf 1 = .ok (.iconst 0, 1) := by decide +kernel
theorem d_Worker_codeOf_2 : decode b_Worker_codeOf 2 = .ok (.putfield 15, 3) := by decide +kernel
theorem d_Worker_codeOf_5 : decode b_Worker_codeOf 5 = .ok (.aload_n 0, 1) := by decide +kernel
theorem d_Worker_codeOf_6 : decode b_Worker_codeOf 6 = .ok (.aload_n 1, 1) := by decide +kernel
theorem d_Worker_codeOf_7 : decode b_Worker_codeOf 7 = .ok (.iconst 0, 1) := by decide +kernel
theorem d_Worker_codeOf_8 : decode b_Worker_codeOf 8 = .ok (.iconst 0, 1) := by decide +kernel
theorem d_Worker_codeOf_9 : decode b_Worker_codeOf 9 = .ok (.iconst 1, 1) := by decide +kernel
theorem d_Worker_codeOf_10 : decode b_Worker_codeOf 10 = .ok (.invokevirtual 23, 3) := by decide +kernel
theorem d_Worker_codeOf_13 : decode b_Worker_codeOf 13 = .ok (.lreturn, 1) := by decide +kernel
def s_Worker_codeOf (x0 : Nat) (x1 : Nat) (h : HP) : Option (Int64 × HP) :=
  (pI h x0 4 2 0).bind fun h1 =>
  (kd x0 4).bind fun _ =>
  ((s_grp_Worker_broughtBy 150).2.2.2.2.2.2.2 x0 x1 0 0 1 h1).bind fun q4 =>
  some (q4.1, q4.2)
set_option maxHeartbeats 4000000 in
set_option maxRecDepth 100000 in
theorem c_Worker_codeOf (l : Launch) (g : GG) {x0 : Nat} {x1 : Nat} {h : HP} {z : Int64 × HP} (hs : s_Worker_codeOf x0 x1 h = some z) : Ct l g y_Worker_codeOf w_Worker_codeOf (rmS 154 5198) [.ref (aD g x0), .ref (aD g x1)] h (some (.long z.1)) z.2 := by
  refine Ct.of (own := R_Worker) (by decide) rfl rfl (Nat.le_of_ble_eq_true rfl) ?_
  intro p e s m args below meth c ls C hl hw
  have hx := C.1
  have hb := C.2.1
  have hl : lv_has ls 2 [(0, .ref (aD g x0)), (1, .ref (aD g x1))] := hl
  unfold s_Worker_codeOf at hs
  refine lv_aload_n hx hb d_Worker_codeOf_0 rfl (lv_at hl 0 rfl) ?_
  refine lv_iconst (v := 0) hx hb d_Worker_codeOf_1 (by decide) ?_
  obtain ⟨h1, e2, hs⟩ := ob hs
  refine pg_putI C hw pl_Worker_15 e2 d_Worker_codeOf_2 (fun H locs hw => ?_)
  refine lv_aload_n hx hb d_Worker_codeOf_5 rfl (lv_at hl 0 rfl) ?_
  refine lv_aload_n hx hb d_Worker_codeOf_6 rfl (lv_at hl 1 rfl) ?_
  refine lv_iconst (v := 0) hx hb d_Worker_codeOf_7 (by decide) ?_
  refine lv_iconst (v := 0) hx hb d_Worker_codeOf_8 (by decide) ?_
  refine lv_iconst (v := 1) hx hb d_Worker_codeOf_9 (by decide) ?_
  obtain ⟨_, e3, hs⟩ := ob hs
  obtain ⟨q4, e5, hs⟩ := ob hs
  refine pg_callV C hw hl.1 ml_Worker_23 e3 (As := [.ref (aD g x1), .int 0, .int 0, .int 1]) (rest := []) ((cg_Worker_broughtBy l g 150).2.2.2.2.2.2.2 e5) rfl (rm_ok (Nat.le_of_ble_eq_true rfl) (Nat.le_of_ble_eq_true rfl)) (Nat.le_of_ble_eq_true rfl) rfl (st1 := [.long q4.1]) rfl d_Worker_codeOf_10 (fun H locs hw => ?_)
  obtain rfl := Option.some.inj hs
  exact pg_lret C hw d_Worker_codeOf_13

end
section
variable {p : Program} {l : Launch} {e : Env} {s : State} {m : MethodId} {args : Array Value} {below : List Frame} {meth : Method} {c : Code} {g : GG}
theorem d_AdjoinedSets_eval_0 : decode b_AdjoinedSets_eval 0 = .ok (.aload_n 0, 1) := by decide +kernel
theorem d_AdjoinedSets_eval_1 : decode b_AdjoinedSets_eval 1 = .ok (.getfield 39, 3) := by decide +kernel
theorem d_AdjoinedSets_eval_4 : decode b_AdjoinedSets_eval 4 = .ok (.invokevirtual 80, 3) := by decide +kernel
theorem d_AdjoinedSets_eval_7 : decode b_AdjoinedSets_eval 7 = .ok (.i2l, 1) := by decide +kernel
theorem d_AdjoinedSets_eval_8 : decode b_AdjoinedSets_eval 8 = .ok (.lstore_n 1, 1) := by decide +kernel
theorem d_AdjoinedSets_eval_9 : decode b_AdjoinedSets_eval 9 = .ok (.lload_n 1, 1) := by decide +kernel
theorem d_AdjoinedSets_eval_10 : decode b_AdjoinedSets_eval 10 = .ok (.lconst 0, 1) := by decide +kernel
theorem d_AdjoinedSets_eval_11 : decode b_AdjoinedSets_eval 11 = .ok (.lcmp, 1) := by decide +kernel
theorem d_AdjoinedSets_eval_12 : decode b_AdjoinedSets_eval 12 = .ok (.ifCond .lt 19, 3) := by decide +kernel
theorem d_AdjoinedSets_eval_15 : decode b_AdjoinedSets_eval 15 = .ok (.aload_n 0, 1) := by decide +kernel
theorem d_AdjoinedSets_eval_16 : decode b_AdjoinedSets_eval 16 = .ok (.invokevirtual 83, 3) := by decide +kernel
theorem d_AdjoinedSets_eval_19 : decode b_AdjoinedSets_eval 19 = .ok (.aload_n 0, 1) := by decide +kernel
theorem d_AdjoinedSets_eval_20 : decode b_AdjoinedSets_eval 20 = .ok (.getfield 48, 3) := by decide +kernel
theorem d_AdjoinedSets_eval_23 : decode b_AdjoinedSets_eval 23 = .ok (.aload_n 0, 1) := by decide +kernel
theorem d_AdjoinedSets_eval_24 : decode b_AdjoinedSets_eval 24 = .ok (.getfield 16, 3) := by decide +kernel
theorem d_AdjoinedSets_eval_27 : decode b_AdjoinedSets_eval 27 = .ok (.invokevirtual 86, 3) := by decide +kernel
theorem d_AdjoinedSets_eval_30 : decode b_AdjoinedSets_eval 30 = .ok (.lstore_n 1, 1) := by decide +kernel
theorem d_AdjoinedSets_eval_31 : decode b_AdjoinedSets_eval 31 = .ok (.aload_n 0, 1) := by decide +kernel
theorem d_AdjoinedSets_eval_32 : decode b_AdjoinedSets_eval 32 = .ok (.getfield 16, 3) := by decide +kernel
theorem d_AdjoinedSets_eval_35 : decode b_AdjoinedSets_eval 35 = .ok (.invokevirtual 73, 3) := by decide +kernel
theorem d_AdjoinedSets_eval_38 : decode b_AdjoinedSets_eval 38 = .ok (.lload_n 1, 1) := by decide +kernel
theorem d_AdjoinedSets_eval_39 : decode b_AdjoinedSets_eval 39 = .ok (.lreturn, 1) := by decide +kernel
def s_AdjoinedSets_eval_31 (x0 : Nat) (x1 : Int64) (h : HP) : Option (Int64 × HP) :=
  (gR h x0 8 1).bind fun v1 =>
  (kd v1 0).bind fun _ =>
  (s_Text_empty v1 h).bind fun q4 =>
  some (x1, q4)
set_option maxHeartbeats 4000000 in
set_option maxRecDepth 100000 in
theorem k_AdjoinedSets_eval_31 {x0 : Nat} {x1 : Int64} {h : HP} {z : Int64 × HP} (C : CX g R_AdjoinedSets b_AdjoinedSets_eval 3 (some .long) p s m args meth c) {H : Heap} {locs : List Loc} {ls : Array Slot} (hw : WD g h s.heap H locs) (hl : lv_has ls 3 [(0, .ref (aD g x0)), (1, .long x1)]) (hs : s_AdjoinedSets_eval_31 x0 x1 h = some z) : W p l e (rmS 155 5219) s m args below meth c H locs 0 0 (MQ below (Qq g (some (.long z.1)) z.2) args s 0 0 (inA g)) (F0 m 31 ls []) := by
  unfold s_AdjoinedSets_eval_31 at hs
  have hx := C.1
  have hb := C.2.1
  refine lv_aload_n hx hb d_AdjoinedSets_eval_31 rfl (lv_at hl 0 rfl) ?_
  obtain ⟨v1, e2, hs⟩ := ob hs
  refine pg_getR C hw fl_AdjoinedSets_16 e2 d_AdjoinedSets_eval_32 ?_
  obtain ⟨_, e3, hs⟩ := ob hs
  obtain ⟨q4, e5, hs⟩ := ob hs
  refine pg_callV C hw hl.1 ml_AdjoinedSets_73 e3 (As := []) (rest := []) (c_Text_empty l g e5) rfl (rm_ok (Nat.le_of_ble_eq_true rfl) (Nat.le_of_ble_eq_true rfl)) (Nat.le_of_ble_eq_true rfl) rfl (st1 := []) rfl d_AdjoinedSets_eval_35 (fun H locs hw => ?_)
  refine lv_lload_n hx hb d_AdjoinedSets_eval_38 rfl (lv_at hl 1 rfl) ?_
  obtain rfl := Option.some.inj hs
  exact pg_lret C hw d_AdjoinedSets_eval_39

def s_AdjoinedSets_eval (x0 : Nat) (h : HP) : Option (Int64 × HP) :=
  (gR h x0 8 4).bind fun v1 =>
  (kd v1 3).bind fun _ =>
  (s_Reader_readTerm v1 h).bind fun q4 =>
  if (lg_cmp q4.1.toInt64 0) < 0 then (
    s_AdjoinedSets_eval_31 x0 q4.1.toInt64 q4.2)
  else (
    (kd x0 8).bind fun _ =>
    (s_AdjoinedSets_giveValues x0 q4.2).bind fun q7 =>
    (gR q7 x0 8 5).bind fun v9 =>
    (gR q7 x0 8 1).bind fun v11 =>
    (kd v9 4).bind fun _ =>
    (s_Worker_codeOf v9 v11 q7).bind fun q14 =>
    s_AdjoinedSets_eval_31 x0 q14.1 q14.2)
set_option maxHeartbeats 4000000 in
set_option maxRecDepth 100000 in
theorem c_AdjoinedSets_eval (l : Launch) (g : GG) {x0 : Nat} {h : HP} {z : Int64 × HP} (hs : s_AdjoinedSets_eval x0 h = some z) : Ct l g y_AdjoinedSets_eval w_AdjoinedSets_eval (rmS 155 5219) [.ref (aD g x0)] h (some (.long z.1)) z.2 := by
  refine Ct.of (own := R_AdjoinedSets) (by decide) rfl rfl (Nat.le_of_ble_eq_true rfl) ?_
  intro p e s m args below meth c ls C hl hw
  have hx := C.1
  have hb := C.2.1
  have hl : lv_has ls 3 [(0, .ref (aD g x0))] := hl
  unfold s_AdjoinedSets_eval at hs
  refine lv_aload_n hx hb d_AdjoinedSets_eval_0 rfl (lv_at hl 0 rfl) ?_
  obtain ⟨v1, e2, hs⟩ := ob hs
  refine pg_getR C hw fl_AdjoinedSets_39 e2 d_AdjoinedSets_eval_1 ?_
  obtain ⟨_, e3, hs⟩ := ob hs
  obtain ⟨q4, e5, hs⟩ := ob hs
  refine pg_callV C hw hl.1 ml_AdjoinedSets_80 e3 (As := []) (rest := []) (c_Reader_readTerm l g e5) rfl (rm_ok (Nat.le_of_ble_eq_true rfl) (Nat.le_of_ble_eq_true rfl)) (Nat.le_of_ble_eq_true rfl) rfl (st1 := [.int q4.1]) rfl d_AdjoinedSets_eval_4 (fun H locs hw => ?_)
  refine lv_i2l (v := q4.1.toInt64) hx hb d_AdjoinedSets_eval_7 rfl ?_
  refine lv_lstore_n hx hb d_AdjoinedSets_eval_8 rfl hl (by decide) (lv' := [(1, .long q4.1.toInt64), (0, .ref (aD g x0))]) rfl (fun ls hl => ?_)
  refine lv_lload_n hx hb d_AdjoinedSets_eval_9 rfl (lv_at hl 0 rfl) ?_
  refine lv_lconst (v := 0) hx hb d_AdjoinedSets_eval_10 (by decide) ?_
  refine W.lcmp hx hb d_AdjoinedSets_eval_11 ?_
  refine lv_if_lt hx hb d_AdjoinedSets_eval_12 (tgt := 31) (by decide) (fun hc => ?_) (fun hc => ?_)
  · have hs := oi_t hc hs
    exact k_AdjoinedSets_eval_31 C hw (lv_sub hl [1, 0] rfl) hs
  · have hs := oi_f hc hs
    refine lv_aload_n hx hb d_AdjoinedSets_eval_15 rfl (lv_at hl 1 rfl) ?_
    obtain ⟨_, e6, hs⟩ := ob hs
    obtain ⟨q7, e8, hs⟩ := ob hs
    refine pg_callV C hw hl.1 ml_AdjoinedSets_83 e6 (As := []) (rest := []) (c_AdjoinedSets_giveValues l g e8) rfl (rm_ok (Nat.le_of_ble_eq_true rfl) (Nat.le_of_ble_eq_true rfl)) (Nat.le_of_ble_eq_true rfl) rfl (st1 := []) rfl d_AdjoinedSets_eval_16 (fun H locs hw => ?_)
    refine lv_aload_n hx hb d_AdjoinedSets_eval_19 rfl (lv_at hl 1 rfl) ?_
    obtain ⟨v9, e10, hs⟩ := ob hs
    refine pg_getR C hw fl_AdjoinedSets_48 e10 d_AdjoinedSets_eval_20 ?_
    refine lv_aload_n hx hb d_AdjoinedSets_eval_23 rfl (lv_at hl 1 rfl) ?_
    obtain ⟨v11, e12, hs⟩ := ob hs
    refine pg_getR C hw fl_AdjoinedSets_16 e12 d_AdjoinedSets_eval_24 ?_
    obtain ⟨_, e13, hs⟩ := ob hs
    obtain ⟨q14, e15, hs⟩ := ob hs
    refine pg_callV C hw hl.1 ml_AdjoinedSets_86 e13 (As := [.ref (aD g v11)]) (rest := []) (c_Worker_codeOf l g e15) rfl (rm_ok (Nat.le_of_ble_eq_true rfl) (Nat.le_of_ble_eq_true rfl)) (Nat.le_of_ble_eq_true rfl) rfl (st1 := [.long q14.1]) rfl d_AdjoinedSets_eval_27 (fun H locs hw => ?_)
    refine lv_lstore_n hx hb d_AdjoinedSets_eval_30 rfl hl (by decide) (lv' := [(1, .long q14.1), (0, .ref (aD g x0))]) rfl (fun ls hl => ?_)
    exact k_AdjoinedSets_eval_31 C hw (lv_sub hl [1, 0] rfl) hs

end
section
variable {p : Program} {l : Launch} {e : Env} {s : State} {m : MethodId} {args : Array Value} {below : List Frame} {meth : Method} {c : Code} {g : GG}
theorem d_AdjoinedSets_let_0 : decode b_AdjoinedSets_let 0 = .ok (.iload_n 1, 1) := by decide +kernel
theorem d_AdjoinedSets_let_1 : decode b_AdjoinedSets_let 1 = .ok (.ifCond .lt 16, 3) := by decide +kernel
theorem d_AdjoinedSets_let_4 : decode b_AdjoinedSets_let 4 = .ok (.iload_n 1, 1) := by decide +kernel
theorem d_AdjoinedSets_let_5 : decode b_AdjoinedSets_let 5 = .ok (.bipush 8, 2) := by decide +kernel
theorem d_AdjoinedSets_let_7 : decode b_AdjoinedSets_let 7 = .ok (.if_icmp .ge 10, 3) := by decide +kernel
theorem d_AdjoinedSets_let_10 : decode b_AdjoinedSets_let 10 = .ok (.lload_n 2, 1) := by decide +kernel
theorem d_AdjoinedSets_let_11 : decode b_AdjoinedSets_let 11 = .ok (.invokestatic 76, 3) := by decide +kernel
theorem d_AdjoinedSets_let_14 : decode b_AdjoinedSets_let 14 = .ok (.ifCond .ne 5, 3) := by decide +kernel
theorem d_AdjoinedSets_let_17 : decode b_AdjoinedSets_let 17 = .ok (.iconst 0, 1) := by decide +kernel
theorem d_AdjoinedSets_let_18 : decode b_AdjoinedSets_let 18 = .ok (.ireturn, 1) := by decide +kernel
theorem d_AdjoinedSets_let_19 : decode b_AdjoinedSets_let 19 = .ok (.aload_n 0, 1) := by decide +kernel
theorem d_AdjoinedSets_let_20 : decode b_AdjoinedSets_let 20 = .ok (.getfield 9, 3) := by decide +kernel
theorem d_AdjoinedSets_let_23 : decode b_AdjoinedSets_let 23 = .ok (.iload_n 1, 1) := by decide +kernel
theorem d_AdjoinedSets_let_24 : decode b_AdjoinedSets_let 24 = .ok (.lload_n 2, 1) := by decide +kernel
theorem d_AdjoinedSets_let_25 : decode b_AdjoinedSets_let 25 = .ok (.lastore, 1) := by decide +kernel
theorem d_AdjoinedSets_let_26 : decode b_AdjoinedSets_let 26 = .ok (.iconst 1, 1) := by decide +kernel
theorem d_AdjoinedSets_let_27 : decode b_AdjoinedSets_let 27 = .ok (.ireturn, 1) := by decide +kernel
def s_AdjoinedSets_let (x0 : Nat) (x1 : Int32) (x2 : Int64) (h : HP) : Option (Int32 × HP) :=
  if x1 < 0 then (
    some (0, h))
  else (
    if 8 ≤ x1 then (
      some (0, h))
    else (
      (s_AdjoinedSets_isCode x2).bind fun q3 =>
      if q3 = 0 then (
        some (0, h))
      else (
        (gR h x0 8 0).bind fun v5 =>
        (uL h v5 2 x1 x2).bind fun h7 =>
        some (1, h7))))
set_option maxHeartbeats 4000000 in
set_option maxRecDepth 100000 in
theorem c_AdjoinedSets_let (l : Launch) (g : GG) {x0 : Nat} {x1 : Int32} {x2 : Int64} {h : HP} {z : Int32 × HP} (hs : s_AdjoinedSets_let x0 x1 x2 h = some z) : Ct l g y_AdjoinedSets_let w_AdjoinedSets_let (rmS 1 21) [.ref (aD g x0), .int x1, .long x2] h (some (.int z.1)) z.2 := by
  refine Ct.of (own := R_AdjoinedSets) (by decide) rfl rfl (Nat.le_of_ble_eq_true rfl) ?_
  intro p e s m args below meth c ls C hl hw
  have hx := C.1
  have hb := C.2.1
  have hl : lv_has ls 4 [(0, .ref (aD g x0)), (1, .int x1), (2, .long x2)] := hl
  unfold s_AdjoinedSets_let at hs
  refine lv_iload_n hx hb d_AdjoinedSets_let_0 rfl (lv_at hl 1 rfl) ?_
  refine lv_if_lt hx hb d_AdjoinedSets_let_1 (tgt := 17) (by decide) (fun hc => ?_) (fun hc => ?_)
  · have hs := oi_t hc hs
    refine lv_iconst (v := 0) hx hb d_AdjoinedSets_let_17 (by decide) ?_
    obtain rfl := Option.some.inj hs
    exact pg_zret (v := 0) C hw rfl d_AdjoinedSets_let_18
  · have hs := oi_f hc hs
    refine lv_iload_n hx hb d_AdjoinedSets_let_4 rfl (lv_at hl 1 rfl) ?_
    refine lv_bipush (v := 8) hx hb d_AdjoinedSets_let_5 (by decide) ?_
    refine lv_icmp_ge hx hb d_AdjoinedSets_let_7 (tgt := 17) (by decide) (fun hc => ?_) (fun hc => ?_)
    · have hs := oi_t hc hs
      refine lv_iconst (v := 0) hx hb d_AdjoinedSets_let_17 (by decide) ?_
      obtain rfl := Option.some.inj hs
      exact pg_zret (v := 0) C hw rfl d_AdjoinedSets_let_18
    · have hs := oi_f hc hs
      refine lv_lload_n hx hb d_AdjoinedSets_let_10 rfl (lv_at hl 2 rfl) ?_
      obtain ⟨q3, e4, hs⟩ := ob hs
      refine pg_callS C hw hl.1 ml_AdjoinedSets_76 (As := [.long x2]) (rest := []) (c_AdjoinedSets_isCode l g e4) rfl (rm_ok (Nat.le_of_ble_eq_true rfl) (Nat.le_of_ble_eq_true rfl)) (Nat.le_of_ble_eq_true rfl) rfl (st1 := [.int q3]) rfl d_AdjoinedSets_let_11 (fun H locs hw => ?_)
      refine lv_if_ne hx hb d_AdjoinedSets_let_14 (tgt := 19) (by decide) (fun hc => ?_) (fun hc => ?_)
      · have hs := oi_f hc hs
        refine lv_aload_n hx hb d_AdjoinedSets_let_19 rfl (lv_at hl 0 rfl) ?_
        obtain ⟨v5, e6, hs⟩ := ob hs
        refine pg_getR C hw fl_AdjoinedSets_9 e6 d_AdjoinedSets_let_20 ?_
        refine lv_iload_n hx hb d_AdjoinedSets_let_23 rfl (lv_at hl 1 rfl) ?_
        refine lv_lload_n hx hb d_AdjoinedSets_let_24 rfl (lv_at hl 2 rfl) ?_
        obtain ⟨h7, e8, hs⟩ := ob hs
        refine pg_lastore C hw (t0 := 2) rfl e8 d_AdjoinedSets_let_25 (fun H locs hw => ?_)
        refine lv_iconst (v := 1) hx hb d_AdjoinedSets_let_26 (by decide) ?_
        obtain rfl := Option.some.inj hs
        exact pg_zret (v := 1) C hw rfl d_AdjoinedSets_let_27
      · have hs := oi_t hc hs
        refine lv_iconst (v := 0) hx hb d_AdjoinedSets_let_17 (by decide) ?_
        obtain rfl := Option.some.inj hs
        exact pg_zret (v := 0) C hw rfl d_AdjoinedSets_let_18

end
section
variable {p : Program} {l : Launch} {e : Env} {s : State} {m : MethodId} {args : Array Value} {below : List Frame} {meth : Method} {c : Code} {g : GG}
theorem d_AdjoinedSets_clear_0 : decode b_AdjoinedSets_clear 0 = .ok (.aload_n 0, 1) := by decide +kernel
theorem d_AdjoinedSets_clear_1 : decode b_AdjoinedSets_clear 1 = .ok (.getfield 16, 3) := by decide +kernel
theorem d_AdjoinedSets_clear_4 : decode b_AdjoinedSets_clear 4 = .ok (.invokevirtual 65, 3) := by decide +kernel
theorem d_AdjoinedSets_clear_7 : decode b_AdjoinedSets_clear 7 = .ok (.istore_n 1, 1) := by decide +kernel
theorem d_AdjoinedSets_clear_8 : decode b_AdjoinedSets_clear 8 = .ok (.aload_n 0, 1) := by decide +kernel
theorem d_AdjoinedSets_clear_9 : decode b_AdjoinedSets_clear 9 = .ok (.getfield 16, 3) := by decide +kernel
theorem d_AdjoinedSets_clear_12 : decode b_AdjoinedSets_clear 12 = .ok (.invokevirtual 73, 3) := by decide +kernel
theorem d_AdjoinedSets_clear_15 : decode b_AdjoinedSets_clear 15 = .ok (.iload_n 1, 1) := by decide +kernel
theorem d_AdjoinedSets_clear_16 : decode b_AdjoinedSets_clear 16 = .ok (.ireturn, 1) := by decide +kernel
def s_AdjoinedSets_clear (x0 : Nat) (h : HP) : Option (Int32 × HP) :=
  (gR h x0 8 1).bind fun v1 =>
  (kd v1 0).bind fun _ =>
  (s_Text_length v1 h).bind fun q4 =>
  (gR h x0 8 1).bind fun v6 =>
  (kd v6 0).bind fun _ =>
  (s_Text_empty v6 h).bind fun q9 =>
  some (q4, q9)
set_option maxHeartbeats 4000000 in
set_option maxRecDepth 100000 in
theorem c_AdjoinedSets_clear (l : Launch) (g : GG) {x0 : Nat} {h : HP} {z : Int32 × HP} (hs : s_AdjoinedSets_clear x0 h = some z) : Ct l g y_AdjoinedSets_clear w_AdjoinedSets_clear (rmS 1 20) [.ref (aD g x0)] h (some (.int z.1)) z.2 := by
  refine Ct.of (own := R_AdjoinedSets) (by decide) rfl rfl (Nat.le_of_ble_eq_true rfl) ?_
  intro p e s m args below meth c ls C hl hw
  have hx := C.1
  have hb := C.2.1
  have hl : lv_has ls 2 [(0, .ref (aD g x0))] := hl
  unfold s_AdjoinedSets_clear at hs
  refine lv_aload_n hx hb d_AdjoinedSets_clear_0 rfl (lv_at hl 0 rfl) ?_
  obtain ⟨v1, e2, hs⟩ := ob hs
  refine pg_getR C hw fl_AdjoinedSets_16 e2 d_AdjoinedSets_clear_1 ?_
  obtain ⟨_, e3, hs⟩ := ob hs
  obtain ⟨q4, e5, hs⟩ := ob hs
  refine pg_callV C hw hl.1 ml_AdjoinedSets_65 e3 (As := []) (rest := []) (c_Text_length l g e5) rfl (rm_ok (Nat.le_of_ble_eq_true rfl) (Nat.le_of_ble_eq_true rfl)) (Nat.le_of_ble_eq_true rfl) rfl (st1 := [.int q4]) rfl d_AdjoinedSets_clear_4 (fun H locs hw => ?_)
  refine lv_istore_n hx hb d_AdjoinedSets_clear_7 rfl hl (by decide) (lv' := [(1, .int q4), (0, .ref (aD g x0))]) rfl (fun ls hl => ?_)
  refine lv_aload_n hx hb d_AdjoinedSets_clear_8 rfl (lv_at hl 1 rfl) ?_
  obtain ⟨v6, e7, hs⟩ := ob hs
  refine pg_getR C hw fl_AdjoinedSets_16 e7 d_AdjoinedSets_clear_9 ?_
  obtain ⟨_, e8, hs⟩ := ob hs
  obtain ⟨q9, e10, hs⟩ := ob hs
  refine pg_callV C hw hl.1 ml_AdjoinedSets_73 e8 (As := []) (rest := []) (c_Text_empty l g e10) rfl (rm_ok (Nat.le_of_ble_eq_true rfl) (Nat.le_of_ble_eq_true rfl)) (Nat.le_of_ble_eq_true rfl) rfl (st1 := []) rfl d_AdjoinedSets_clear_12 (fun H locs hw => ?_)
  refine lv_iload_n hx hb d_AdjoinedSets_clear_15 rfl (lv_at hl 0 rfl) ?_
  obtain rfl := Option.some.inj hs
  exact pg_iret C hw d_AdjoinedSets_clear_16

end
section
variable {p : Program} {l : Launch} {e : Env} {s : State} {m : MethodId} {args : Array Value} {below : List Frame} {meth : Method} {c : Code} {g : GG}
theorem d_AdjoinedSets_type_0 : decode b_AdjoinedSets_type 0 = .ok (.iload_n 3, 1) := by decide +kernel
theorem d_AdjoinedSets_type_1 : decode b_AdjoinedSets_type 1 = .ok (.iconst 1, 1) := by decide +kernel
theorem d_AdjoinedSets_type_2 : decode b_AdjoinedSets_type 2 = .ok (.if_icmp .lt 9, 3) := by decide +kernel
theorem d_AdjoinedSets_type_5 : decode b_AdjoinedSets_type 5 = .ok (.iload_n 3, 1) := by decide +kernel
theorem d_AdjoinedSets_type_6 : decode b_AdjoinedSets_type 6 = .ok (.bipush 8, 2) := by decide +kernel
theorem d_AdjoinedSets_type_8 : decode b_AdjoinedSets_type 8 = .ok (.if_icmp .le 5, 3) := by decide +kernel
theorem d_AdjoinedSets_type_11 : decode b_AdjoinedSets_type 11 = .ok (.iconst (-1), 1) := by decide +kernel
theorem d_AdjoinedSets_type_12 : decode b_AdjoinedSets_type 12 = .ok (.ireturn, 1) := by decide +kernel
theorem d_AdjoinedSets_type_13 : decode b_AdjoinedSets_type 13 = .ok (.iconst 0, 1) := by decide +kernel
theorem d_AdjoinedSets_type_14 : decode b_AdjoinedSets_type 14 = .ok (.istore 4, 2) := by decide +kernel
theorem d_AdjoinedSets_type_16 : decode b_AdjoinedSets_type 16 = .ok (.iload 4, 2) := by decide +kernel
theorem d_AdjoinedSets_type_18 : decode b_AdjoinedSets_type 18 = .ok (.iload_n 3, 1) := by decide +kernel
theorem d_AdjoinedSets_type_19 : decode b_AdjoinedSets_type 19 = .ok (.if_icmp .ge 33, 3) := by decide +kernel
theorem d_AdjoinedSets_type_22 : decode b_AdjoinedSets_type 22 = .ok (.lload_n 1, 1) := by decide +kernel
theorem d_AdjoinedSets_type_23 : decode b_AdjoinedSets_type 23 = .ok (.iload 4, 2) := by decide +kernel
theorem d_AdjoinedSets_type_25 : decode b_AdjoinedSets_type 25 = .ok (.invokestatic 61, 3) := by decide +kernel
theorem d_AdjoinedSets_type_28 : decode b_AdjoinedSets_type 28 = .ok (.istore 5, 2) := by decide +kernel
theorem d_AdjoinedSets_type_30 : decode b_AdjoinedSets_type 30 = .ok (.iload 5, 2) := by decide +kernel
theorem d_AdjoinedSets_type_32 : decode b_AdjoinedSets_type 32 = .ok (.bipush 33, 2) := by decide +kernel
theorem d_AdjoinedSets_type_34 : decode b_AdjoinedSets_type 34 = .ok (.if_icmp .lt 10, 3) := by decide +kernel
theorem d_AdjoinedSets_type_37 : decode b_AdjoinedSets_type 37 = .ok (.iload 5, 2) := by decide +kernel
theorem d_AdjoinedSets_type_39 : decode b_AdjoinedSets_type 39 = .ok (.bipush 126, 2) := by decide +kernel
theorem d_AdjoinedSets_type_41 : decode b_AdjoinedSets_type 41 = .ok (.if_icmp .le 5, 3) := by decide +kernel
theorem d_AdjoinedSets_type_44 : decode b_AdjoinedSets_type 44 = .ok (.iconst (-1), 1) := by decide +kernel
theorem d_AdjoinedSets_type_45 : decode b_AdjoinedSets_type 45 = .ok (.ireturn, 1) := by decide +kernel
theorem d_AdjoinedSets_type_46 : decode b_AdjoinedSets_type 46 = .ok (.iinc 4 1, 3) := by decide +kernel
theorem d_AdjoinedSets_type_49 : decode b_AdjoinedSets_type 49 = .ok (.goto (-33), 3) := by decide +kernel
theorem d_AdjoinedSets_type_52 : decode b_AdjoinedSets_type 52 = .ok (.aload_n 0, 1) := by decide +kernel
theorem d_AdjoinedSets_type_53 : decode b_AdjoinedSets_type 53 = .ok (.getfield 16, 3) := by decide +kernel
theorem d_AdjoinedSets_type_56 : decode b_AdjoinedSets_type 56 = .ok (.invokevirtual 65, 3) := by decide +kernel
theorem d_AdjoinedSets_type_59 : decode b_AdjoinedSets_type 59 = .ok (.iload_n 3, 1) := by decide +kernel
theorem d_AdjoinedSets_type_60 : decode b_AdjoinedSets_type 60 = .ok (.iadd, 1) := by decide +kernel
theorem d_AdjoinedSets_type_61 : decode b_AdjoinedSets_type 61 = .ok (.bipush 60, 2) := by decide +kernel
theorem d_AdjoinedSets_type_63 : decode b_AdjoinedSets_type 63 = .ok (.if_icmp .le 6, 3) := by decide +kernel
theorem d_AdjoinedSets_type_66 : decode b_AdjoinedSets_type 66 = .ok (.bipush (-2), 2) := by decide +kernel
theorem d_AdjoinedSets_type_68 : decode b_AdjoinedSets_type 68 = .ok (.ireturn, 1) := by decide +kernel
theorem d_AdjoinedSets_type_69 : decode b_AdjoinedSets_type 69 = .ok (.iload_n 3, 1) := by decide +kernel
theorem d_AdjoinedSets_type_70 : decode b_AdjoinedSets_type 70 = .ok (.iconst 1, 1) := by decide +kernel
theorem d_AdjoinedSets_type_71 : decode b_AdjoinedSets_type 71 = .ok (.isub, 1) := by decide +kernel
theorem d_AdjoinedSets_type_72 : decode b_AdjoinedSets_type 72 = .ok (.istore 4, 2) := by decide +kernel
theorem d_AdjoinedSets_type_74 : decode b_AdjoinedSets_type 74 = .ok (.iload 4, 2) := by decide +kernel
theorem d_AdjoinedSets_type_76 : decode b_AdjoinedSets_type 76 = .ok (.ifCond .lt 22, 3) := by decide +kernel
theorem d_AdjoinedSets_type_79 : decode b_AdjoinedSets_type 79 = .ok (.aload_n 0, 1) := by decide +kernel
theorem d_AdjoinedSets_type_80 : decode b_AdjoinedSets_type 80 = .ok (.getfield 16, 3) := by decide +kernel
theorem d_AdjoinedSets_type_83 : decode b_AdjoinedSets_type 83 = .ok (.lload_n 1, 1) := by decide +kernel
theorem d_AdjoinedSets_type_84 : decode b_AdjoinedSets_type 84 = .ok (.iload 4, 2) := by decide +kernel
theorem d_AdjoinedSets_type_86 : decode b_AdjoinedSets_type 86 = .ok (.invokestatic 61, 3) := by decide +kernel
theorem d_AdjoinedSets_type_89 : decode b_AdjoinedSets_type 89 = .ok (.invokevirtual 69, 3) := by decide +kernel
theorem d_AdjoinedSets_type_92 : decode b_AdjoinedSets_type 92 = .ok (.iinc 4 (-1), 3) := by decide +kernel
theorem d_AdjoinedSets_type_95 : decode b_AdjoinedSets_type 95 = .ok (.goto (-21), 3) := by decide +kernel
theorem d_AdjoinedSets_type_98 : decode b_AdjoinedSets_type 98 = .ok (.aload_n 0, 1) := by decide +kernel
theorem d_AdjoinedSets_type_99 : decode b_AdjoinedSets_type 99 = .ok (.getfield 16, 3) := by decide +kernel
theorem d_AdjoinedSets_type_102 : decode b_AdjoinedSets_type 102 = .ok (.invokevirtual 65, 3) := by decide +kernel
theorem d_AdjoinedSets_type_105 : decode b_AdjoinedSets_type 105 = .ok (.ireturn, 1) := by decide +kernel
def s_AdjoinedSets_type_74 : Nat → Nat → Int64 → Int32 → HP → Option (Int32 × HP)
  | 0 => fun _ _ _ _ => none
  | k + 1 => fun x0 x1 x4 h =>
  if x4 < 0 then (
    (gR h x0 8 1).bind fun v1 =>
    (kd v1 0).bind fun _ =>
    (s_Text_length v1 h).bind fun q4 =>
    some (q4, h))
  else (
    (gR h x0 8 1).bind fun v6 =>
    (s_AdjoinedSets_byteAt x1 x4).bind fun q8 =>
    (kd v6 0).bind fun _ =>
    (s_Text_add v6 q8 h).bind fun q11 =>
    (s_AdjoinedSets_type_74 k) x0 x1 (x4 + (-1)) q11)
set_option maxHeartbeats 4000000 in
set_option maxRecDepth 100000 in
theorem k_AdjoinedSets_type_74 {z : Int32 × HP} (C : CX g R_AdjoinedSets b_AdjoinedSets_type 6 (some .int) p s m args meth c) : ∀ (k : Nat) {x0 : Nat} {x1 : Int64} {x4 : Int32} {h : HP} {H : Heap} {locs : List Loc} {ls : Array Slot}, WD g h s.heap H locs → lv_has ls 6 [(0, .ref (aD g x0)), (1, .long x1), (4, .int x4)] → s_AdjoinedSets_type_74 k x0 x1 x4 h = some z → W p l e (rmS 1 22) s m args below meth c H locs 0 0 (MQ below (Qq g (some (.int z.1)) z.2) args s 0 0 (inA g)) (F0 m 74 ls []) := by
  have hx := C.1
  have hb := C.2.1
  intro k
  induction k with
  | zero =>
    intro x0 x1 x4 h H locs ls hw hl hs
    exact (no_s hs).elim
  | succ k ih =>
    intro x0 x1 x4 h H locs ls hw hl hs
    rw [s_AdjoinedSets_type_74] at hs
    refine lv_iload hx hb d_AdjoinedSets_type_74 (lv_at hl 2 rfl) ?_
    refine lv_if_lt hx hb d_AdjoinedSets_type_76 (tgt := 98) (by decide) (fun hc => ?_) (fun hc => ?_)
    · have hs := oi_t hc hs
      refine lv_aload_n hx hb d_AdjoinedSets_type_98 rfl (lv_at hl 0 rfl) ?_
      obtain ⟨v1, e2, hs⟩ := ob hs
      refine pg_getR C hw fl_AdjoinedSets_16 e2 d_AdjoinedSets_type_99 ?_
      obtain ⟨_, e3, hs⟩ := ob hs
      obtain ⟨q4, e5, hs⟩ := ob hs
      refine pg_callV C hw hl.1 ml_AdjoinedSets_65 e3 (As := []) (rest := []) (c_Text_length l g e5) rfl (rm_ok (Nat.le_of_ble_eq_true rfl) (Nat.le_of_ble_eq_true rfl)) (Nat.le_of_ble_eq_true rfl) rfl (st1 := [.int q4]) rfl d_AdjoinedSets_type_102 (fun H locs hw => ?_)
      obtain rfl := Option.some.inj hs
      exact pg_iret C hw d_AdjoinedSets_type_105
    · have hs := oi_f hc hs
      refine lv_aload_n hx hb d_AdjoinedSets_type_79 rfl (lv_at hl 0 rfl) ?_
      obtain ⟨v6, e7, hs⟩ := ob hs
      refine pg_getR C hw fl_AdjoinedSets_16 e7 d_AdjoinedSets_type_80 ?_
      refine lv_lload_n hx hb d_AdjoinedSets_type_83 rfl (lv_at hl 1 rfl) ?_
      refine lv_iload hx hb d_AdjoinedSets_type_84 (lv_at hl 2 rfl) ?_
      obtain ⟨q8, e9, hs⟩ := ob hs
      refine pg_callS C hw hl.1 ml_AdjoinedSets_61 (As := [.long x1, .int x4]) (rest := [.ref (aD g v6)]) (c_AdjoinedSets_byteAt l g e9) rfl (rm_ok (Nat.le_of_ble_eq_true rfl) (Nat.le_of_ble_eq_true rfl)) (Nat.le_of_ble_eq_true rfl) rfl (st1 := [.int q8, .ref (aD g v6)]) rfl d_AdjoinedSets_type_86 (fun H locs hw => ?_)
      obtain ⟨_, e10, hs⟩ := ob hs
      obtain ⟨q11, e12, hs⟩ := ob hs
      refine pg_callV C hw hl.1 ml_AdjoinedSets_69 e10 (As := [.int q8]) (rest := []) (c_Text_add l g e12) rfl (rm_ok (Nat.le_of_ble_eq_true rfl) (Nat.le_of_ble_eq_true rfl)) (Nat.le_of_ble_eq_true rfl) rfl (st1 := []) rfl d_AdjoinedSets_type_89 (fun H locs hw => ?_)
      refine lv_iinc hx hb d_AdjoinedSets_type_92 hl (k := 2) rfl (v := (x4 + (-1))) (iinc_e _ (by decide)) (by decide) (lv' := [(4, .int (x4 + (-1))), (0, .ref (aD g x0)), (1, .long x1)]) rfl (fun ls hl => ?_)
      refine lv_goto hx hb d_AdjoinedSets_type_95 (tgt := 74) (by decide) ?_
      exact ih hw (lv_sub hl [1, 2, 0] rfl) hs

def s_AdjoinedSets_type_16 : Nat → Nat → Int64 → Int32 → Int32 → HP → Option (Int32 × HP)
  | 0 => fun _ _ _ _ _ => none
  | k + 1 => fun x0 x1 x3 x4 h =>
  if x3 ≤ x4 then (
    (gR h x0 8 1).bind fun v1 =>
    (kd v1 0).bind fun _ =>
    (s_Text_length v1 h).bind fun q4 =>
    if (q4 + x3) ≤ 60 then (
      s_AdjoinedSets_type_74 20000 x0 x1 (x3 - 1) h)
    else (
      some ((-2), h)))
  else (
    (s_AdjoinedSets_byteAt x1 x4).bind fun q6 =>
    if q6 < 33 then (
      some ((-1), h))
    else (
      if q6 ≤ 126 then (
        (s_AdjoinedSets_type_16 k) x0 x1 x3 (x4 + 1) h)
      else (
        some ((-1), h))))
set_option maxHeartbeats 4000000 in
set_option maxRecDepth 100000 in
theorem k_AdjoinedSets_type_16 {z : Int32 × HP} (C : CX g R_AdjoinedSets b_AdjoinedSets_type 6 (some .int) p s m args meth c) : ∀ (k : Nat) {x0 : Nat} {x1 : Int64} {x3 : Int32} {x4 : Int32} {h : HP} {H : Heap} {locs : List Loc} {ls : Array Slot}, WD g h s.heap H locs → lv_has ls 6 [(0, .ref (aD g x0)), (1, .long x1), (3, .int x3), (4, .int x4)] → s_AdjoinedSets_type_16 k x0 x1 x3 x4 h = some z → W p l e (rmS 1 22) s m args below meth c H locs 0 0 (MQ below (Qq g (some (.int z.1)) z.2) args s 0 0 (inA g)) (F0 m 16 ls []) := by
  have hx := C.1
  have hb := C.2.1
  intro k
  induction k with
  | zero =>
    intro x0 x1 x3 x4 h H locs ls hw hl hs
    exact (no_s hs).elim
  | succ k ih =>
    intro x0 x1 x3 x4 h H locs ls hw hl hs
    rw [s_AdjoinedSets_type_16] at hs
    refine lv_iload hx hb d_AdjoinedSets_type_16 (lv_at hl 3 rfl) ?_
    refine lv_iload_n hx hb d_AdjoinedSets_type_18 rfl (lv_at hl 2 rfl) ?_
    refine lv_icmp_ge hx hb d_AdjoinedSets_type_19 (tgt := 52) (by decide) (fun hc => ?_) (fun hc => ?_)
    · have hs := oi_t hc hs
      refine lv_aload_n hx hb d_AdjoinedSets_type_52 rfl (lv_at hl 0 rfl) ?_
      obtain ⟨v1, e2, hs⟩ := ob hs
      refine pg_getR C hw fl_AdjoinedSets_16 e2 d_AdjoinedSets_type_53 ?_
      obtain ⟨_, e3, hs⟩ := ob hs
      obtain ⟨q4, e5, hs⟩ := ob hs
      refine pg_callV C hw hl.1 ml_AdjoinedSets_65 e3 (As := []) (rest := []) (c_Text_length l g e5) rfl (rm_ok (Nat.le_of_ble_eq_true rfl) (Nat.le_of_ble_eq_true rfl)) (Nat.le_of_ble_eq_true rfl) rfl (st1 := [.int q4]) rfl d_AdjoinedSets_type_56 (fun H locs hw => ?_)
      refine lv_iload_n hx hb d_AdjoinedSets_type_59 rfl (lv_at hl 2 rfl) ?_
      refine lv_iadd hx hb d_AdjoinedSets_type_60 ?_
      refine lv_bipush (v := 60) hx hb d_AdjoinedSets_type_61 (by decide) ?_
      refine lv_icmp_le hx hb d_AdjoinedSets_type_63 (tgt := 69) (by decide) (fun hc => ?_) (fun hc => ?_)
      · have hs := oi_t hc hs
        refine lv_iload_n hx hb d_AdjoinedSets_type_69 rfl (lv_at hl 2 rfl) ?_
        refine lv_iconst (v := 1) hx hb d_AdjoinedSets_type_70 (by decide) ?_
        refine lv_isub hx hb d_AdjoinedSets_type_71 ?_
        refine lv_istore hx hb d_AdjoinedSets_type_72 hl (by decide) (lv' := [(4, .int (x3 - 1)), (0, .ref (aD g x0)), (1, .long x1), (3, .int x3)]) rfl (fun ls hl => ?_)
        exact k_AdjoinedSets_type_74 C 20000 hw (lv_sub hl [1, 2, 0] rfl) hs
      · have hs := oi_f hc hs
        refine lv_bipush (v := (-2)) hx hb d_AdjoinedSets_type_66 (by decide) ?_
        obtain rfl := Option.some.inj hs
        exact pg_iret C hw d_AdjoinedSets_type_68
    · have hs := oi_f hc hs
      refine lv_lload_n hx hb d_AdjoinedSets_type_22 rfl (lv_at hl 1 rfl) ?_
      refine lv_iload hx hb d_AdjoinedSets_type_23 (lv_at hl 3 rfl) ?_
      obtain ⟨q6, e7, hs⟩ := ob hs
      refine pg_callS C hw hl.1 ml_AdjoinedSets_61 (As := [.long x1, .int x4]) (rest := []) (c_AdjoinedSets_byteAt l g e7) rfl (rm_ok (Nat.le_of_ble_eq_true rfl) (Nat.le_of_ble_eq_true rfl)) (Nat.le_of_ble_eq_true rfl) rfl (st1 := [.int q6]) rfl d_AdjoinedSets_type_25 (fun H locs hw => ?_)
      refine lv_istore hx hb d_AdjoinedSets_type_28 hl (by decide) (lv' := [(5, .int q6), (0, .ref (aD g x0)), (1, .long x1), (3, .int x3), (4, .int x4)]) rfl (fun ls hl => ?_)
      refine lv_iload hx hb d_AdjoinedSets_type_30 (lv_at hl 0 rfl) ?_
      refine lv_bipush (v := 33) hx hb d_AdjoinedSets_type_32 (by decide) ?_
      refine lv_icmp_lt hx hb d_AdjoinedSets_type_34 (tgt := 44) (by decide) (fun hc => ?_) (fun hc => ?_)
      · have hs := oi_t hc hs
        refine lv_iconst (v := (-1)) hx hb d_AdjoinedSets_type_44 (by decide) ?_
        obtain rfl := Option.some.inj hs
        exact pg_iret C hw d_AdjoinedSets_type_45
      · have hs := oi_f hc hs
        refine lv_iload hx hb d_AdjoinedSets_type_37 (lv_at hl 0 rfl) ?_
        refine lv_bipush (v := 126) hx hb d_AdjoinedSets_type_39 (by decide) ?_
        refine lv_icmp_le hx hb d_AdjoinedSets_type_41 (tgt := 46) (by decide) (fun hc => ?_) (fun hc => ?_)
        · have hs := oi_t hc hs
          refine lv_iinc hx hb d_AdjoinedSets_type_46 hl (k := 4) rfl (v := (x4 + 1)) (iinc_e _ (by decide)) (by decide) (lv' := [(4, .int (x4 + 1)), (5, .int q6), (0, .ref (aD g x0)), (1, .long x1), (3, .int x3)]) rfl (fun ls hl => ?_)
          refine lv_goto hx hb d_AdjoinedSets_type_49 (tgt := 16) (by decide) ?_
          exact ih hw (lv_sub hl [2, 3, 4, 0] rfl) hs
        · have hs := oi_f hc hs
          refine lv_iconst (v := (-1)) hx hb d_AdjoinedSets_type_44 (by decide) ?_
          obtain rfl := Option.some.inj hs
          exact pg_iret C hw d_AdjoinedSets_type_45

def s_AdjoinedSets_type (x0 : Nat) (x1 : Int64) (x3 : Int32) (h : HP) : Option (Int32 × HP) :=
  if x3 < 1 then (
    some ((-1), h))
  else (
    if x3 ≤ 8 then (
      s_AdjoinedSets_type_16 20000 x0 x1 x3 0 h)
    else (
      some ((-1), h)))
set_option maxHeartbeats 4000000 in
set_option maxRecDepth 100000 in
theorem c_AdjoinedSets_type (l : Launch) (g : GG) {x0 : Nat} {x1 : Int64} {x3 : Int32} {h : HP} {z : Int32 × HP} (hs : s_AdjoinedSets_type x0 x1 x3 h = some z) : Ct l g y_AdjoinedSets_type w_AdjoinedSets_type (rmS 1 22) [.ref (aD g x0), .long x1, .int x3] h (some (.int z.1)) z.2 := by
  refine Ct.of (own := R_AdjoinedSets) (by decide) rfl rfl (Nat.le_of_ble_eq_true rfl) ?_
  intro p e s m args below meth c ls C hl hw
  have hx := C.1
  have hb := C.2.1
  have hl : lv_has ls 6 [(0, .ref (aD g x0)), (1, .long x1), (3, .int x3)] := hl
  unfold s_AdjoinedSets_type at hs
  refine lv_iload_n hx hb d_AdjoinedSets_type_0 rfl (lv_at hl 2 rfl) ?_
  refine lv_iconst (v := 1) hx hb d_AdjoinedSets_type_1 (by decide) ?_
  refine lv_icmp_lt hx hb d_AdjoinedSets_type_2 (tgt := 11) (by decide) (fun hc => ?_) (fun hc => ?_)
  · have hs := oi_t hc hs
    refine lv_iconst (v := (-1)) hx hb d_AdjoinedSets_type_11 (by decide) ?_
    obtain rfl := Option.some.inj hs
    exact pg_iret C hw d_AdjoinedSets_type_12
  · have hs := oi_f hc hs
    refine lv_iload_n hx hb d_AdjoinedSets_type_5 rfl (lv_at hl 2 rfl) ?_
    refine lv_bipush (v := 8) hx hb d_AdjoinedSets_type_6 (by decide) ?_
    refine lv_icmp_le hx hb d_AdjoinedSets_type_8 (tgt := 13) (by decide) (fun hc => ?_) (fun hc => ?_)
    · have hs := oi_t hc hs
      refine lv_iconst (v := 0) hx hb d_AdjoinedSets_type_13 (by decide) ?_
      refine lv_istore hx hb d_AdjoinedSets_type_14 hl (by decide) (lv' := [(4, .int 0), (0, .ref (aD g x0)), (1, .long x1), (3, .int x3)]) rfl (fun ls hl => ?_)
      exact k_AdjoinedSets_type_16 C 20000 hw (lv_sub hl [1, 2, 3, 0] rfl) hs
    · have hs := oi_f hc hs
      refine lv_iconst (v := (-1)) hx hb d_AdjoinedSets_type_11 (by decide) ?_
      obtain rfl := Option.some.inj hs
      exact pg_iret C hw d_AdjoinedSets_type_12

end
