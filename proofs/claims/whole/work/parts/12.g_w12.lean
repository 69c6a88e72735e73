section
variable {p : Program} {l : Launch} {e : Env} {s : State} {m : MethodId} {args : Array Value} {below : List Frame} {meth : Method} {c : Code} {g : GG}
theorem d_AdjoinedSetsModel_valueOf_0 : decode b_AdjoinedSetsModel_valueOf 0 = .ok (.iload_n 2, 1) := by decide +kernel
theorem d_AdjoinedSetsModel_valueOf_1 : decode b_AdjoinedSetsModel_valueOf 1 = .ok (.istore_n 3, 1) := by decide +kernel
theorem d_AdjoinedSetsModel_valueOf_2 : decode b_AdjoinedSetsModel_valueOf 2 = .ok (.iload_n 3, 1) := by decide +kernel
theorem d_AdjoinedSetsModel_valueOf_3 : decode b_AdjoinedSetsModel_valueOf 3 = .ok (.ifCond .lt 95, 3) := by decide +kernel
theorem d_AdjoinedSetsModel_valueOf_6 : decode b_AdjoinedSetsModel_valueOf 6 = .ok (.aload_n 0, 1) := by decide +kernel
theorem d_AdjoinedSetsModel_valueOf_7 : decode b_AdjoinedSetsModel_valueOf 7 = .ok (.getfield 7, 3) := by decide +kernel
theorem d_AdjoinedSetsModel_valueOf_10 : decode b_AdjoinedSetsModel_valueOf 10 = .ok (.aload_n 0, 1) := by decide +kernel
theorem d_AdjoinedSetsModel_valueOf_11 : decode b_AdjoinedSetsModel_valueOf 11 = .ok (.getfield 45, 3) := by decide +kernel
theorem d_AdjoinedSetsModel_valueOf_14 : decode b_AdjoinedSetsModel_valueOf 14 = .ok (.iload_n 3, 1) := by decide +kernel
theorem d_AdjoinedSetsModel_valueOf_15 : decode b_AdjoinedSetsModel_valueOf 15 = .ok (.iaload, 1) := by decide +kernel
theorem d_AdjoinedSetsModel_valueOf_16 : decode b_AdjoinedSetsModel_valueOf 16 = .ok (.iaload, 1) := by decide +kernel
theorem d_AdjoinedSetsModel_valueOf_17 : decode b_AdjoinedSetsModel_valueOf 17 = .ok (.istore 4, 2) := by decide +kernel
theorem d_AdjoinedSetsModel_valueOf_19 : decode b_AdjoinedSetsModel_valueOf 19 = .ok (.iload 4, 2) := by decide +kernel
theorem d_AdjoinedSetsModel_valueOf_21 : decode b_AdjoinedSetsModel_valueOf 21 = .ok (.invokestatic 103, 3) := by decide +kernel
theorem d_AdjoinedSetsModel_valueOf_24 : decode b_AdjoinedSetsModel_valueOf 24 = .ok (.ifCond .eq 37, 3) := by decide +kernel
theorem d_AdjoinedSetsModel_valueOf_27 : decode b_AdjoinedSetsModel_valueOf 27 = .ok (.iload_n 1, 1) := by decide +kernel
theorem d_AdjoinedSetsModel_valueOf_28 : decode b_AdjoinedSetsModel_valueOf 28 = .ok (.ifCond .ne 12, 3) := by decide +kernel
theorem d_AdjoinedSetsModel_valueOf_31 : decode b_AdjoinedSetsModel_valueOf 31 = .ok (.aload_n 0, 1) := by decide +kernel
theorem d_AdjoinedSetsModel_valueOf_32 : decode b_AdjoinedSetsModel_valueOf 32 = .ok (.getfield 57, 3) := by decide +kernel
theorem d_AdjoinedSetsModel_valueOf_35 : decode b_AdjoinedSetsModel_valueOf 35 = .ok (.iload_n 3, 1) := by decide +kernel
theorem d_AdjoinedSetsModel_valueOf_36 : decode b_AdjoinedSetsModel_valueOf 36 = .ok (.laload, 1) := by decide +kernel
theorem d_AdjoinedSetsModel_valueOf_37 : decode b_AdjoinedSetsModel_valueOf 37 = .ok (.goto 23, 3) := by decide +kernel
theorem d_AdjoinedSetsModel_valueOf_40 : decode b_AdjoinedSetsModel_valueOf 40 = .ok (.iload_n 1, 1) := by decide +kernel
theorem d_AdjoinedSetsModel_valueOf_41 : decode b_AdjoinedSetsModel_valueOf 41 = .ok (.iconst 1, 1) := by decide +kernel
theorem d_AdjoinedSetsModel_valueOf_42 : decode b_AdjoinedSetsModel_valueOf 42 = .ok (.if_icmp .ne 12, 3) := by decide +kernel
theorem d_AdjoinedSetsModel_valueOf_45 : decode b_AdjoinedSetsModel_valueOf 45 = .ok (.aload_n 0, 1) := by decide +kernel
theorem d_AdjoinedSetsModel_valueOf_46 : decode b_AdjoinedSetsModel_valueOf 46 = .ok (.getfield 60, 3) := by decide +kernel
theorem d_AdjoinedSetsModel_valueOf_49 : decode b_AdjoinedSetsModel_valueOf 49 = .ok (.iload_n 3, 1) := by decide +kernel
theorem d_AdjoinedSetsModel_valueOf_50 : decode b_AdjoinedSetsModel_valueOf 50 = .ok (.laload, 1) := by decide +kernel
theorem d_AdjoinedSetsModel_valueOf_51 : decode b_AdjoinedSetsModel_valueOf 51 = .ok (.goto 9, 3) := by decide +kernel
theorem d_AdjoinedSetsModel_valueOf_54 : decode b_AdjoinedSetsModel_valueOf 54 = .ok (.aload_n 0, 1) := by decide +kernel
theorem d_AdjoinedSetsModel_valueOf_55 : decode b_AdjoinedSetsModel_valueOf 55 = .ok (.getfield 63, 3) := by decide +kernel
theorem d_AdjoinedSetsModel_valueOf_58 : decode b_AdjoinedSetsModel_valueOf 58 = .ok (.iload_n 3, 1) := by decide +kernel
theorem d_AdjoinedSetsModel_valueOf_59 : decode b_AdjoinedSetsModel_valueOf 59 = .ok (.laload, 1) := by decide +kernel
theorem d_AdjoinedSetsModel_valueOf_60 : decode b_AdjoinedSetsModel_valueOf 60 = .ok (.lreturn, 1) := by decide +kernel
theorem d_AdjoinedSetsModel_valueOf_61 : decode b_AdjoinedSetsModel_valueOf 61 = .ok (.aload_n 0, 1) := by decide +kernel
theorem d_AdjoinedSetsModel_valueOf_62 : decode b_AdjoinedSetsModel_valueOf 62 = .ok (.getfield 7, 3) := by decide +kernel
theorem d_AdjoinedSetsModel_valueOf_65 : decode b_AdjoinedSetsModel_valueOf 65 = .ok (.aload_n 0, 1) := by decide +kernel
theorem d_AdjoinedSetsModel_valueOf_66 : decode b_AdjoinedSetsModel_valueOf 66 = .ok (.getfield 45, 3) := by decide +kernel
theorem d_AdjoinedSetsModel_valueOf_69 : decode b_AdjoinedSetsModel_valueOf 69 = .ok (.iload_n 3, 1) := by decide +kernel
theorem d_AdjoinedSetsModel_valueOf_70 : decode b_AdjoinedSetsModel_valueOf 70 = .ok (.iaload, 1) := by decide +kernel
theorem d_AdjoinedSetsModel_valueOf_71 : decode b_AdjoinedSetsModel_valueOf 71 = .ok (.iconst 1, 1) := by decide +kernel
theorem d_AdjoinedSetsModel_valueOf_72 : decode b_AdjoinedSetsModel_valueOf 72 = .ok (.iadd, 1) := by decide +kernel
theorem d_AdjoinedSetsModel_valueOf_73 : decode b_AdjoinedSetsModel_valueOf 73 = .ok (.iaload, 1) := by decide +kernel
theorem d_AdjoinedSetsModel_valueOf_74 : decode b_AdjoinedSetsModel_valueOf 74 = .ok (.bipush 97, 2) := by decide +kernel
theorem d_AdjoinedSetsModel_valueOf_76 : decode b_AdjoinedSetsModel_valueOf 76 = .ok (.isub, 1) := by decide +kernel
theorem d_AdjoinedSetsModel_valueOf_77 : decode b_AdjoinedSetsModel_valueOf 77 = .ok (.iload_n 1, 1) := by decide +kernel
theorem d_AdjoinedSetsModel_valueOf_78 : decode b_AdjoinedSetsModel_valueOf 78 = .ok (.if_icmp .ne 10, 3) := by decide +kernel
theorem d_AdjoinedSetsModel_valueOf_81 : decode b_AdjoinedSetsModel_valueOf 81 = .ok (.aload_n 0, 1) := by decide +kernel
theorem d_AdjoinedSetsModel_valueOf_82 : decode b_AdjoinedSetsModel_valueOf 82 = .ok (.getfield 63, 3) := by decide +kernel
theorem d_AdjoinedSetsModel_valueOf_85 : decode b_AdjoinedSetsModel_valueOf 85 = .ok (.iload_n 3, 1) := by decide +kernel
theorem d_AdjoinedSetsModel_valueOf_86 : decode b_AdjoinedSetsModel_valueOf 86 = .ok (.laload, 1) := by decide +kernel
theorem d_AdjoinedSetsModel_valueOf_87 : decode b_AdjoinedSetsModel_valueOf 87 = .ok (.lreturn, 1) := by decide +kernel
theorem d_AdjoinedSetsModel_valueOf_88 : decode b_AdjoinedSetsModel_valueOf 88 = .ok (.aload_n 0, 1) := by decide +kernel
theorem d_AdjoinedSetsModel_valueOf_89 : decode b_AdjoinedSetsModel_valueOf 89 = .ok (.getfield 48, 3) := by decide +kernel
theorem d_AdjoinedSetsModel_valueOf_92 : decode b_AdjoinedSetsModel_valueOf 92 = .ok (.iload_n 3, 1) := by decide +kernel
theorem d_AdjoinedSetsModel_valueOf_93 : decode b_AdjoinedSetsModel_valueOf 93 = .ok (.iaload, 1) := by decide +kernel
theorem d_AdjoinedSetsModel_valueOf_94 : decode b_AdjoinedSetsModel_valueOf 94 = .ok (.istore_n 3, 1) := by decide +kernel
theorem d_AdjoinedSetsModel_valueOf_95 : decode b_AdjoinedSetsModel_valueOf 95 = .ok (.goto (-93), 3) := by decide +kernel
theorem d_AdjoinedSetsModel_valueOf_98 : decode b_AdjoinedSetsModel_valueOf 98 = .ok (.aload_n 0, 1) := by decide +kernel
theorem d_AdjoinedSetsModel_valueOf_99 : decode b_AdjoinedSetsModel_valueOf 99 = .ok (.getfield 13, 3) := by decide +kernel
theorem d_AdjoinedSetsModel_valueOf_102 : decode b_AdjoinedSetsModel_valueOf 102 = .ok (.iload_n 1, 1) := by decide +kernel
theorem d_AdjoinedSetsModel_valueOf_103 : decode b_AdjoinedSetsModel_valueOf 103 = .ok (.laload, 1) := by decide +kernel
theorem d_AdjoinedSetsModel_valueOf_104 : decode b_AdjoinedSetsModel_valueOf 104 = .ok (.lreturn, 1) := by decide +kernel
def s_AdjoinedSetsModel_valueOf_2 : Nat → Nat → Int32 → Int32 → HP → Option (Int64)
  | 0 => fun _ _ _ _ => none
  | k + 1 => fun x0 x1 x3 h =>
  if x3 < 0 then (
    (gR h x0 9 2).bind fun v1 =>
    (aL h v1 2 x1).bind fun v3 =>
    some v3)
  else (
    (gR h x0 9 0).bind fun v5 =>
    (gR h x0 9 18).bind fun v7 =>
    (aI h v7 0 x3).bind fun v9 =>
    (aI h v5 0 v9).bind fun v11 =>
    (s_AdjoinedSetsModel_isFunction v11).bind fun q13 =>
    if q13 = 0 then (
      (gR h x0 9 0).bind fun v15 =>
      (gR h x0 9 18).bind fun v17 =>
      (aI h v17 0 x3).bind fun v19 =>
      (aI h v15 0 (v19 + 1)).bind fun v21 =>
      if (v21 - 97) = x1 then (
        (gR h x0 9 24).bind fun v27 =>
        (aL h v27 2 x3).bind fun v29 =>
        some v29)
      else (
        (gR h x0 9 19).bind fun v23 =>
        (aI h v23 0 x3).bind fun v25 =>
        (s_AdjoinedSetsModel_valueOf_2 k) x0 x1 v25 h))
    else (
      if x1 = 0 then (
        (gR h x0 9 22).bind fun v39 =>
        (aL h v39 2 x3).bind fun v41 =>
        some v41)
      else (
        if x1 = 1 then (
          (gR h x0 9 23).bind fun v35 =>
          (aL h v35 2 x3).bind fun v37 =>
          some v37)
        else (
          (gR h x0 9 24).bind fun v31 =>
          (aL h v31 2 x3).bind fun v33 =>
          some v33))))
set_option maxHeartbeats 4000000 in
set_option maxRecDepth 100000 in
theorem k_AdjoinedSetsModel_valueOf_2 {h : HP} {z : Int64} (C : CX g R_AdjoinedSetsModel b_AdjoinedSetsModel_valueOf 5 (some .long) p s m args meth c) : ∀ (k : Nat) {x0 : Nat} {x1 : Int32} {x3 : Int32} {H : Heap} {locs : List Loc} {ls : Array Slot}, WD g h s.heap H locs → lv_has ls 5 [(0, .ref (aD g x0)), (1, .int x1), (3, .int x3)] → s_AdjoinedSetsModel_valueOf_2 k x0 x1 x3 h = some z → W p l e (rmS 1 20) s m args below meth c H locs 0 0 (MQ below (Qq g (some (.long z)) h) args s 0 0 (inA g)) (F0 m 2 ls []) := by
  have hx := C.1
  have hb := C.2.1
  intro k
  induction k with
  | zero =>
    intro x0 x1 x3 H locs ls hw hl hs
    exact (no_s hs).elim
  | succ k ih =>
    intro x0 x1 x3 H locs ls hw hl hs
    rw [s_AdjoinedSetsModel_valueOf_2] at hs
    refine lv_iload_n hx hb d_AdjoinedSetsModel_valueOf_2 rfl (lv_at hl 2 rfl) ?_
    refine lv_if_lt hx hb d_AdjoinedSetsModel_valueOf_3 (tgt := 98) (by decide) (fun hc => ?_) (fun hc => ?_)
    · have hs := oi_t hc hs
      refine lv_aload_n hx hb d_AdjoinedSetsModel_valueOf_98 rfl (lv_at hl 0 rfl) ?_
      obtain ⟨v1, e2, hs⟩ := ob hs
      refine pg_getR C hw fl_AdjoinedSetsModel_13 e2 d_AdjoinedSetsModel_valueOf_99 ?_
      refine lv_iload_n hx hb d_AdjoinedSetsModel_valueOf_102 rfl (lv_at hl 1 rfl) ?_
      obtain ⟨v3, e4, hs⟩ := ob hs
      refine pg_laload C hw (t0 := 2) rfl e4 d_AdjoinedSetsModel_valueOf_103 ?_
      obtain rfl := Option.some.inj hs
      exact pg_lret C hw d_AdjoinedSetsModel_valueOf_104
    · have hs := oi_f hc hs
      refine lv_aload_n hx hb d_AdjoinedSetsModel_valueOf_6 rfl (lv_at hl 0 rfl) ?_
      obtain ⟨v5, e6, hs⟩ := ob hs
      refine pg_getR C hw fl_AdjoinedSetsModel_7 e6 d_AdjoinedSetsModel_valueOf_7 ?_
      refine lv_aload_n hx hb d_AdjoinedSetsModel_valueOf_10 rfl (lv_at hl 0 rfl) ?_
      obtain ⟨v7, e8, hs⟩ := ob hs
      refine pg_getR C hw fl_AdjoinedSetsModel_45 e8 d_AdjoinedSetsModel_valueOf_11 ?_
      refine lv_iload_n hx hb d_AdjoinedSetsModel_valueOf_14 rfl (lv_at hl 2 rfl) ?_
      obtain ⟨v9, e10, hs⟩ := ob hs
      refine pg_iaload C hw (t0 := 0) rfl e10 d_AdjoinedSetsModel_valueOf_15 ?_
      obtain ⟨v11, e12, hs⟩ := ob hs
      refine pg_iaload C hw (t0 := 0) rfl e12 d_AdjoinedSetsModel_valueOf_16 ?_
      refine lv_istore hx hb d_AdjoinedSetsModel_valueOf_17 hl (by decide) (lv' := [(4, .int v11), (0, .ref (aD g x0)), (1, .int x1), (3, .int x3)]) rfl (fun ls hl => ?_)
      refine lv_iload hx hb d_AdjoinedSetsModel_valueOf_19 (lv_at hl 0 rfl) ?_
      obtain ⟨q13, e14, hs⟩ := ob hs
      refine pg_callS C hw hl.1 ml_AdjoinedSetsModel_103 (As := [.int v11]) (rest := []) (c_AdjoinedSetsModel_isFunction l g e14) rfl (rm_ok (Nat.le_of_ble_eq_true rfl) (Nat.le_of_ble_eq_true rfl)) (Nat.le_of_ble_eq_true rfl) rfl (st1 := [.int q13]) rfl d_AdjoinedSetsModel_valueOf_21 (fun H locs hw => ?_)
      refine lv_if_eq hx hb d_AdjoinedSetsModel_valueOf_24 (tgt := 61) (by decide) (fun hc => ?_) (fun hc => ?_)
      · have hs := oi_t hc hs
        refine lv_aload_n hx hb d_AdjoinedSetsModel_valueOf_61 rfl (lv_at hl 1 rfl) ?_
        obtain ⟨v15, e16, hs⟩ := ob hs
        refine pg_getR C hw fl_AdjoinedSetsModel_7 e16 d_AdjoinedSetsModel_valueOf_62 ?_
        refine lv_aload_n hx hb d_AdjoinedSetsModel_valueOf_65 rfl (lv_at hl 1 rfl) ?_
        obtain ⟨v17, e18, hs⟩ := ob hs
        refine pg_getR C hw fl_AdjoinedSetsModel_45 e18 d_AdjoinedSetsModel_valueOf_66 ?_
        refine lv_iload_n hx hb d_AdjoinedSetsModel_valueOf_69 rfl (lv_at hl 3 rfl) ?_
        obtain ⟨v19, e20, hs⟩ := ob hs
        refine pg_iaload C hw (t0 := 0) rfl e20 d_AdjoinedSetsModel_valueOf_70 ?_
        refine lv_iconst (v := 1) hx hb d_AdjoinedSetsModel_valueOf_71 (by decide) ?_
        refine lv_iadd hx hb d_AdjoinedSetsModel_valueOf_72 ?_
        obtain ⟨v21, e22, hs⟩ := ob hs
        refine pg_iaload C hw (t0 := 0) rfl e22 d_AdjoinedSetsModel_valueOf_73 ?_
        refine lv_bipush (v := 97) hx hb d_AdjoinedSetsModel_valueOf_74 (by decide) ?_
        refine lv_isub hx hb d_AdjoinedSetsModel_valueOf_76 ?_
        refine lv_iload_n hx hb d_AdjoinedSetsModel_valueOf_77 rfl (lv_at hl 2 rfl) ?_
        refine lv_icmp_ne hx hb d_AdjoinedSetsModel_valueOf_78 (tgt := 88) (by decide) (fun hc => ?_) (fun hc => ?_)
        · have hs := oi_f hc hs
          refine lv_aload_n hx hb d_AdjoinedSetsModel_valueOf_88 rfl (lv_at hl 1 rfl) ?_
          obtain ⟨v23, e24, hs⟩ := ob hs
          refine pg_getR C hw fl_AdjoinedSetsModel_48 e24 d_AdjoinedSetsModel_valueOf_89 ?_
          refine lv_iload_n hx hb d_AdjoinedSetsModel_valueOf_92 rfl (lv_at hl 3 rfl) ?_
          obtain ⟨v25, e26, hs⟩ := ob hs
          refine pg_iaload C hw (t0 := 0) rfl e26 d_AdjoinedSetsModel_valueOf_93 ?_
          refine lv_istore_n hx hb d_AdjoinedSetsModel_valueOf_94 rfl hl (by decide) (lv' := [(3, .int v25), (4, .int v11), (0, .ref (aD g x0)), (1, .int x1)]) rfl (fun ls hl => ?_)
          refine lv_goto hx hb d_AdjoinedSetsModel_valueOf_95 (tgt := 2) (by decide) ?_
          exact ih hw (lv_sub hl [2, 3, 0] rfl) hs
        · have hs := oi_t hc hs
          refine lv_aload_n hx hb d_AdjoinedSetsModel_valueOf_81 rfl (lv_at hl 1 rfl) ?_
          obtain ⟨v27, e28, hs⟩ := ob hs
          refine pg_getR C hw fl_AdjoinedSetsModel_63 e28 d_AdjoinedSetsModel_valueOf_82 ?_
          refine lv_iload_n hx hb d_AdjoinedSetsModel_valueOf_85 rfl (lv_at hl 3 rfl) ?_
          obtain ⟨v29, e30, hs⟩ := ob hs
          refine pg_laload C hw (t0 := 2) rfl e30 d_AdjoinedSetsModel_valueOf_86 ?_
          obtain rfl := Option.some.inj hs
          exact pg_lret C hw d_AdjoinedSetsModel_valueOf_87
      · have hs := oi_f hc hs
        refine lv_iload_n hx hb d_AdjoinedSetsModel_valueOf_27 rfl (lv_at hl 2 rfl) ?_
        refine lv_if_ne hx hb d_AdjoinedSetsModel_valueOf_28 (tgt := 40) (by decide) (fun hc => ?_) (fun hc => ?_)
        · have hs := oi_f hc hs
          refine lv_iload_n hx hb d_AdjoinedSetsModel_valueOf_40 rfl (lv_at hl 2 rfl) ?_
          refine lv_iconst (v := 1) hx hb d_AdjoinedSetsModel_valueOf_41 (by decide) ?_
          refine lv_icmp_ne hx hb d_AdjoinedSetsModel_valueOf_42 (tgt := 54) (by decide) (fun hc => ?_) (fun hc => ?_)
          · have hs := oi_f hc hs
            refine lv_aload_n hx hb d_AdjoinedSetsModel_valueOf_54 rfl (lv_at hl 1 rfl) ?_
            obtain ⟨v31, e32, hs⟩ := ob hs
            refine pg_getR C hw fl_AdjoinedSetsModel_63 e32 d_AdjoinedSetsModel_valueOf_55 ?_
            refine lv_iload_n hx hb d_AdjoinedSetsModel_valueOf_58 rfl (lv_at hl 3 rfl) ?_
            obtain ⟨v33, e34, hs⟩ := ob hs
            refine pg_laload C hw (t0 := 2) rfl e34 d_AdjoinedSetsModel_valueOf_59 ?_
            obtain rfl := Option.some.inj hs
            exact pg_lret C hw d_AdjoinedSetsModel_valueOf_60
          · have hs := oi_t hc hs
            refine lv_aload_n hx hb d_AdjoinedSetsModel_valueOf_45 rfl (lv_at hl 1 rfl) ?_
            obtain ⟨v35, e36, hs⟩ := ob hs
            refine pg_getR C hw fl_AdjoinedSetsModel_60 e36 d_AdjoinedSetsModel_valueOf_46 ?_
            refine lv_iload_n hx hb d_AdjoinedSetsModel_valueOf_49 rfl (lv_at hl 3 rfl) ?_
            obtain ⟨v37, e38, hs⟩ := ob hs
            refine pg_laload C hw (t0 := 2) rfl e38 d_AdjoinedSetsModel_valueOf_50 ?_
            refine lv_goto hx hb d_AdjoinedSetsModel_valueOf_51 (tgt := 60) (by decide) ?_
            obtain rfl := Option.some.inj hs
            exact pg_lret C hw d_AdjoinedSetsModel_valueOf_60
        · have hs := oi_t hc hs
          refine lv_aload_n hx hb d_AdjoinedSetsModel_valueOf_31 rfl (lv_at hl 1 rfl) ?_
          obtain ⟨v39, e40, hs⟩ := ob hs
          refine pg_getR C hw fl_AdjoinedSetsModel_57 e40 d_AdjoinedSetsModel_valueOf_32 ?_
          refine lv_iload_n hx hb d_AdjoinedSetsModel_valueOf_35 rfl (lv_at hl 3 rfl) ?_
          obtain ⟨v41, e42, hs⟩ := ob hs
          refine pg_laload C hw (t0 := 2) rfl e42 d_AdjoinedSetsModel_valueOf_36 ?_
          refine lv_goto hx hb d_AdjoinedSetsModel_valueOf_37 (tgt := 60) (by decide) ?_
          obtain rfl := Option.some.inj hs
          exact pg_lret C hw d_AdjoinedSetsModel_valueOf_60

def s_AdjoinedSetsModel_valueOf (x0 : Nat) (x1 : Int32) (x2 : Int32) (h : HP) : Option (Int64) :=
  s_AdjoinedSetsModel_valueOf_2 20000 x0 x1 x2 h
set_option maxHeartbeats 4000000 in
set_option maxRecDepth 100000 in
theorem c_AdjoinedSetsModel_valueOf (l : Launch) (g : GG) {h : HP} {x0 : Nat} {x1 : Int32} {x2 : Int32} {z : Int64} (hs : s_AdjoinedSetsModel_valueOf x0 x1 x2 h = some z) : Ct l g y_AdjoinedSetsModel_valueOf w_AdjoinedSetsModel_valueOf (rmS 1 20) [.ref (aD g x0), .int x1, .int x2] h (some (.long z)) h := by
  refine Ct.of (own := R_AdjoinedSetsModel) (by decide) rfl rfl (Nat.le_of_ble_eq_true rfl) ?_
  intro p e s m args below meth c ls C hl hw
  have hx := C.1
  have hb := C.2.1
  have hl : lv_has ls 5 [(0, .ref (aD g x0)), (1, .int x1), (2, .int x2)] := hl
  unfold s_AdjoinedSetsModel_valueOf at hs
  refine lv_iload_n hx hb d_AdjoinedSetsModel_valueOf_0 rfl (lv_at hl 2 rfl) ?_
  refine lv_istore_n hx hb d_AdjoinedSetsModel_valueOf_1 rfl hl (by decide) (lv' := [(3, .int x2), (0, .ref (aD g x0)), (1, .int x1), (2, .int x2)]) rfl (fun ls hl => ?_)
  exact k_AdjoinedSetsModel_valueOf_2 C 20000 hw (lv_sub hl [1, 2, 0] rfl) hs

end
section
variable {p : Program} {l : Launch} {e : Env} {s : State} {m : MethodId} {args : Array Value} {below : List Frame} {meth : Method} {c : Code} {g : GG}
theorem d_AdjoinedSetsModel_bind_0 : decode b_AdjoinedSetsModel_bind 0 = .ok (.aload_n 0, 1) := by decide +kernel
theorem d_AdjoinedSetsModel_bind_1 : decode b_AdjoinedSetsModel_bind 1 = .ok (.getfield 51, 3) := by decide +kernel
theorem d_AdjoinedSetsModel_bind_4 : decode b_AdjoinedSetsModel_bind 4 = .ok (.iload_n 1, 1) := by decide +kernel
theorem d_AdjoinedSetsModel_bind_5 : decode b_AdjoinedSetsModel_bind 5 = .ok (.iaload, 1) := by decide +kernel
theorem d_AdjoinedSetsModel_bind_6 : decode b_AdjoinedSetsModel_bind 6 = .ok (.ifCond .ne 22, 3) := by decide +kernel
theorem d_AdjoinedSetsModel_bind_9 : decode b_AdjoinedSetsModel_bind 9 = .ok (.aload_n 0, 1) := by decide +kernel
theorem d_AdjoinedSetsModel_bind_10 : decode b_AdjoinedSetsModel_bind 10 = .ok (.aload_n 0, 1) := by decide +kernel
theorem d_AdjoinedSetsModel_bind_11 : decode b_AdjoinedSetsModel_bind 11 = .ok (.getfield 45, 3) := by decide +kernel
theorem d_AdjoinedSetsModel_bind_14 : decode b_AdjoinedSetsModel_bind 14 = .ok (.iload_n 1, 1) := by decide +kernel
theorem d_AdjoinedSetsModel_bind_15 : decode b_AdjoinedSetsModel_bind 15 = .ok (.iaload, 1) := by decide +kernel
theorem d_AdjoinedSetsModel_bind_16 : decode b_AdjoinedSetsModel_bind 16 = .ok (.iconst 2, 1) := by decide +kernel
theorem d_AdjoinedSetsModel_bind_17 : decode b_AdjoinedSetsModel_bind 17 = .ok (.iadd, 1) := by decide +kernel
theorem d_AdjoinedSetsModel_bind_18 : decode b_AdjoinedSetsModel_bind 18 = .ok (.aload_n 0, 1) := by decide +kernel
theorem d_AdjoinedSetsModel_bind_19 : decode b_AdjoinedSetsModel_bind 19 = .ok (.getfield 48, 3) := by decide +kernel
theorem d_AdjoinedSetsModel_bind_22 : decode b_AdjoinedSetsModel_bind 22 = .ok (.iload_n 1, 1) := by decide +kernel
theorem d_AdjoinedSetsModel_bind_23 : decode b_AdjoinedSetsModel_bind 23 = .ok (.iaload, 1) := by decide +kernel
theorem d_AdjoinedSetsModel_bind_24 : decode b_AdjoinedSetsModel_bind 24 = .ok (.invokevirtual 212, 3) := by decide +kernel
theorem d_AdjoinedSetsModel_bind_27 : decode b_AdjoinedSetsModel_bind 27 = .ok (.return_, 1) := by decide +kernel
theorem d_AdjoinedSetsModel_bind_28 : decode b_AdjoinedSetsModel_bind 28 = .ok (.aload_n 0, 1) := by decide +kernel
theorem d_AdjoinedSetsModel_bind_29 : decode b_AdjoinedSetsModel_bind 29 = .ok (.getfield 63, 3) := by decide +kernel
theorem d_AdjoinedSetsModel_bind_32 : decode b_AdjoinedSetsModel_bind 32 = .ok (.iload_n 1, 1) := by decide +kernel
theorem d_AdjoinedSetsModel_bind_33 : decode b_AdjoinedSetsModel_bind 33 = .ok (.laload, 1) := by decide +kernel
theorem d_AdjoinedSetsModel_bind_34 : decode b_AdjoinedSetsModel_bind 34 = .ok (.l2i, 1) := by decide +kernel
theorem d_AdjoinedSetsModel_bind_35 : decode b_AdjoinedSetsModel_bind 35 = .ok (.iconst 1, 1) := by decide +kernel
theorem d_AdjoinedSetsModel_bind_36 : decode b_AdjoinedSetsModel_bind 36 = .ok (.iadd, 1) := by decide +kernel
theorem d_AdjoinedSetsModel_bind_37 : decode b_AdjoinedSetsModel_bind 37 = .ok (.istore_n 2, 1) := by decide +kernel
theorem d_AdjoinedSetsModel_bind_38 : decode b_AdjoinedSetsModel_bind 38 = .ok (.iload_n 2, 1) := by decide +kernel
theorem d_AdjoinedSetsModel_bind_39 : decode b_AdjoinedSetsModel_bind 39 = .ok (.bipush 62, 2) := by decide +kernel
theorem d_AdjoinedSetsModel_bind_41 : decode b_AdjoinedSetsModel_bind 41 = .ok (.if_icmp .ge 24, 3) := by decide +kernel
theorem d_AdjoinedSetsModel_bind_44 : decode b_AdjoinedSetsModel_bind 44 = .ok (.aload_n 0, 1) := by decide +kernel
theorem d_AdjoinedSetsModel_bind_45 : decode b_AdjoinedSetsModel_bind 45 = .ok (.getfield 57, 3) := by decide +kernel
theorem d_AdjoinedSetsModel_bind_48 : decode b_AdjoinedSetsModel_bind 48 = .ok (.iload_n 1, 1) := by decide +kernel
theorem d_AdjoinedSetsModel_bind_49 : decode b_AdjoinedSetsModel_bind 49 = .ok (.laload, 1) := by decide +kernel
theorem d_AdjoinedSetsModel_bind_50 : decode b_AdjoinedSetsModel_bind 50 = .ok (.iload_n 2, 1) := by decide +kernel
theorem d_AdjoinedSetsModel_bind_51 : decode b_AdjoinedSetsModel_bind 51 = .ok (.lshr, 1) := by decide +kernel
theorem d_AdjoinedSetsModel_bind_52 : decode b_AdjoinedSetsModel_bind 52 = .ok (.lconst 1, 1) := by decide +kernel
theorem d_AdjoinedSetsModel_bind_53 : decode b_AdjoinedSetsModel_bind 53 = .ok (.land, 1) := by decide +kernel
theorem d_AdjoinedSetsModel_bind_54 : decode b_AdjoinedSetsModel_bind 54 = .ok (.lconst 0, 1) := by decide +kernel
theorem d_AdjoinedSetsModel_bind_55 : decode b_AdjoinedSetsModel_bind 55 = .ok (.lcmp, 1) := by decide +kernel
theorem d_AdjoinedSetsModel_bind_56 : decode b_AdjoinedSetsModel_bind 56 = .ok (.ifCond .ne 9, 3) := by decide +kernel
theorem d_AdjoinedSetsModel_bind_59 : decode b_AdjoinedSetsModel_bind 59 = .ok (.iinc 2 1, 3) := by decide +kernel
theorem d_AdjoinedSetsModel_bind_62 : decode b_AdjoinedSetsModel_bind 62 = .ok (.goto (-24), 3) := by decide +kernel
theorem d_AdjoinedSetsModel_bind_65 : decode b_AdjoinedSetsModel_bind 65 = .ok (.aload_n 0, 1) := by decide +kernel
theorem d_AdjoinedSetsModel_bind_66 : decode b_AdjoinedSetsModel_bind 66 = .ok (.getfield 63, 3) := by decide +kernel
theorem d_AdjoinedSetsModel_bind_69 : decode b_AdjoinedSetsModel_bind 69 = .ok (.iload_n 1, 1) := by decide +kernel
theorem d_AdjoinedSetsModel_bind_70 : decode b_AdjoinedSetsModel_bind 70 = .ok (.iload_n 2, 1) := by decide +kernel
theorem d_AdjoinedSetsModel_bind_71 : decode b_AdjoinedSetsModel_bind 71 = .ok (.i2l, 1) := by decide +kernel
theorem d_AdjoinedSetsModel_bind_72 : decode b_AdjoinedSetsModel_bind 72 = .ok (.lastore, 1) := by decide +kernel
theorem d_AdjoinedSetsModel_bind_73 : decode b_AdjoinedSetsModel_bind 73 = .ok (.iload_n 2, 1) := by decide +kernel
theorem d_AdjoinedSetsModel_bind_74 : decode b_AdjoinedSetsModel_bind 74 = .ok (.bipush 62, 2) := by decide +kernel
theorem d_AdjoinedSetsModel_bind_76 : decode b_AdjoinedSetsModel_bind 76 = .ok (.if_icmp .ne 16, 3) := by decide +kernel
theorem d_AdjoinedSetsModel_bind_79 : decode b_AdjoinedSetsModel_bind 79 = .ok (.aload_n 0, 1) := by decide +kernel
theorem d_AdjoinedSetsModel_bind_80 : decode b_AdjoinedSetsModel_bind 80 = .ok (.aload_n 0, 1) := by decide +kernel
theorem d_AdjoinedSetsModel_bind_81 : decode b_AdjoinedSetsModel_bind 81 = .ok (.getfield 60, 3) := by decide +kernel
theorem d_AdjoinedSetsModel_bind_84 : decode b_AdjoinedSetsModel_bind 84 = .ok (.iload_n 1, 1) := by decide +kernel
theorem d_AdjoinedSetsModel_bind_85 : decode b_AdjoinedSetsModel_bind 85 = .ok (.laload, 1) := by decide +kernel
theorem d_AdjoinedSetsModel_bind_86 : decode b_AdjoinedSetsModel_bind 86 = .ok (.invokevirtual 200, 3) := by decide +kernel
theorem d_AdjoinedSetsModel_bind_89 : decode b_AdjoinedSetsModel_bind 89 = .ok (.goto 20, 3) := by decide +kernel
theorem d_AdjoinedSetsModel_bind_92 : decode b_AdjoinedSetsModel_bind 92 = .ok (.aload_n 0, 1) := by decide +kernel
theorem d_AdjoinedSetsModel_bind_93 : decode b_AdjoinedSetsModel_bind 93 = .ok (.aload_n 0, 1) := by decide +kernel
theorem d_AdjoinedSetsModel_bind_94 : decode b_AdjoinedSetsModel_bind 94 = .ok (.aload_n 0, 1) := by decide +kernel
theorem d_AdjoinedSetsModel_bind_95 : decode b_AdjoinedSetsModel_bind 95 = .ok (.getfield 45, 3) := by decide +kernel
theorem d_AdjoinedSetsModel_bind_98 : decode b_AdjoinedSetsModel_bind 98 = .ok (.iload_n 1, 1) := by decide +kernel
theorem d_AdjoinedSetsModel_bind_99 : decode b_AdjoinedSetsModel_bind 99 = .ok (.iaload, 1) := by decide +kernel
theorem d_AdjoinedSetsModel_bind_100 : decode b_AdjoinedSetsModel_bind 100 = .ok (.iconst 2, 1) := by decide +kernel
theorem d_AdjoinedSetsModel_bind_101 : decode b_AdjoinedSetsModel_bind 101 = .ok (.iadd, 1) := by decide +kernel
theorem d_AdjoinedSetsModel_bind_102 : decode b_AdjoinedSetsModel_bind 102 = .ok (.invokevirtual 197, 3) := by decide +kernel
theorem d_AdjoinedSetsModel_bind_105 : decode b_AdjoinedSetsModel_bind 105 = .ok (.iload_n 1, 1) := by decide +kernel
theorem d_AdjoinedSetsModel_bind_106 : decode b_AdjoinedSetsModel_bind 106 = .ok (.invokevirtual 212, 3) := by decide +kernel
theorem d_AdjoinedSetsModel_bind_109 : decode b_AdjoinedSetsModel_bind 109 = .ok (.return_, 1) := by decide +kernel
def s_AdjoinedSetsModel_bind_65 (x0 : Nat) (x1 : Int32) (x2 : Int32) (h : HP) : Option (HP) :=
  (gR h x0 9 24).bind fun v1 =>
  (uL h v1 2 x1 x2.toInt64).bind fun h3 =>
  if x2 = 62 then (
    (gR h3 x0 9 23).bind fun v15 =>
    (aL h3 v15 2 x1).bind fun v17 =>
    (kd x0 9).bind fun _ =>
    (s_AdjoinedSetsModel_finish x0 v17 h3).bind fun q20 =>
    some q20)
  else (
    (gR h3 x0 9 18).bind fun v5 =>
    (aI h3 v5 0 x1).bind fun v7 =>
    (kd x0 9).bind fun _ =>
    (s_AdjoinedSetsModel_endOf x0 (v7 + 2) h3).bind fun q10 =>
    (kd x0 9).bind fun _ =>
    (s_AdjoinedSetsModel_push x0 q10 x1 h3).bind fun q13 =>
    some q13)
set_option maxHeartbeats 4000000 in
set_option maxRecDepth 100000 in
theorem k_AdjoinedSetsModel_bind_65 {x0 : Nat} {x1 : Int32} {x2 : Int32} {h : HP} {z : HP} (C : CX g R_AdjoinedSetsModel b_AdjoinedSetsModel_bind 3 none p s m args meth c) {H : Heap} {locs : List Loc} {ls : Array Slot} (hw : WD g h s.heap H locs) (hl : lv_has ls 3 [(0, .ref (aD g x0)), (1, .int x1), (2, .int x2)]) (hs : s_AdjoinedSetsModel_bind_65 x0 x1 x2 h = some z) : W p l e (rmS 3 64) s m args below meth c H locs 0 0 (MQ below (Qq g none z) args s 0 0 (inA g)) (F0 m 65 ls []) := by
  unfold s_AdjoinedSetsModel_bind_65 at hs
  have hx := C.1
  have hb := C.2.1
  refine lv_aload_n hx hb d_AdjoinedSetsModel_bind_65 rfl (lv_at hl 0 rfl) ?_
  obtain ⟨v1, e2, hs⟩ := ob hs
  refine pg_getR C hw fl_AdjoinedSetsModel_63 e2 d_AdjoinedSetsModel_bind_66 ?_
  refine lv_iload_n hx hb d_AdjoinedSetsModel_bind_69 rfl (lv_at hl 1 rfl) ?_
  refine lv_iload_n hx hb d_AdjoinedSetsModel_bind_70 rfl (lv_at hl 2 rfl) ?_
  refine lv_i2l (v := x2.toInt64) hx hb d_AdjoinedSetsModel_bind_71 rfl ?_
  obtain ⟨h3, e4, hs⟩ := ob hs
  refine pg_lastore C hw (t0 := 2) rfl e4 d_AdjoinedSetsModel_bind_72 (fun H locs hw => ?_)
  refine lv_iload_n hx hb d_AdjoinedSetsModel_bind_73 rfl (lv_at hl 2 rfl) ?_
  refine lv_bipush (v := 62) hx hb d_AdjoinedSetsModel_bind_74 (by decide) ?_
  refine lv_icmp_ne hx hb d_AdjoinedSetsModel_bind_76 (tgt := 92) (by decide) (fun hc => ?_) (fun hc => ?_)
  · have hs := oi_f hc hs
    refine lv_aload_n hx hb d_AdjoinedSetsModel_bind_92 rfl (lv_at hl 0 rfl) ?_
    refine lv_aload_n hx hb d_AdjoinedSetsModel_bind_93 rfl (lv_at hl 0 rfl) ?_
    refine lv_aload_n hx hb d_AdjoinedSetsModel_bind_94 rfl (lv_at hl 0 rfl) ?_
    obtain ⟨v5, e6, hs⟩ := ob hs
    refine pg_getR C hw fl_AdjoinedSetsModel_45 e6 d_AdjoinedSetsModel_bind_95 ?_
    refine lv_iload_n hx hb d_AdjoinedSetsModel_bind_98 rfl (lv_at hl 1 rfl) ?_
    obtain ⟨v7, e8, hs⟩ := ob hs
    refine pg_iaload C hw (t0 := 0) rfl e8 d_AdjoinedSetsModel_bind_99 ?_
    refine lv_iconst (v := 2) hx hb d_AdjoinedSetsModel_bind_100 (by decide) ?_
    refine lv_iadd hx hb d_AdjoinedSetsModel_bind_101 ?_
    obtain ⟨_, e9, hs⟩ := ob hs
    obtain ⟨q10, e11, hs⟩ := ob hs
    refine pg_callV C hw hl.1 ml_AdjoinedSetsModel_197 e9 (As := [.int (v7 + 2)]) (rest := [.ref (aD g x0)]) (c_AdjoinedSetsModel_endOf l g e11) rfl (rm_ok (Nat.le_of_ble_eq_true rfl) (Nat.le_of_ble_eq_true rfl)) (Nat.le_of_ble_eq_true rfl) rfl (st1 := [.int q10, .ref (aD g x0)]) rfl d_AdjoinedSetsModel_bind_102 (fun H locs hw => ?_)
    refine lv_iload_n hx hb d_AdjoinedSetsModel_bind_105 rfl (lv_at hl 1 rfl) ?_
    obtain ⟨_, e12, hs⟩ := ob hs
    obtain ⟨q13, e14, hs⟩ := ob hs
    refine pg_callV C hw hl.1 ml_AdjoinedSetsModel_212 e12 (As := [.int q10, .int x1]) (rest := []) (c_AdjoinedSetsModel_push l g e14) rfl (rm_ok (Nat.le_of_ble_eq_true rfl) (Nat.le_of_ble_eq_true rfl)) (Nat.le_of_ble_eq_true rfl) rfl (st1 := []) rfl d_AdjoinedSetsModel_bind_106 (fun H locs hw => ?_)
    obtain rfl := Option.some.inj hs
    exact pg_vret C hw d_AdjoinedSetsModel_bind_109
  · have hs := oi_t hc hs
    refine lv_aload_n hx hb d_AdjoinedSetsModel_bind_79 rfl (lv_at hl 0 rfl) ?_
    refine lv_aload_n hx hb d_AdjoinedSetsModel_bind_80 rfl (lv_at hl 0 rfl) ?_
    obtain ⟨v15, e16, hs⟩ := ob hs
    refine pg_getR C hw fl_AdjoinedSetsModel_60 e16 d_AdjoinedSetsModel_bind_81 ?_
    refine lv_iload_n hx hb d_AdjoinedSetsModel_bind_84 rfl (lv_at hl 1 rfl) ?_
    obtain ⟨v17, e18, hs⟩ := ob hs
    refine pg_laload C hw (t0 := 2) rfl e18 d_AdjoinedSetsModel_bind_85 ?_
    obtain ⟨_, e19, hs⟩ := ob hs
    obtain ⟨q20, e21, hs⟩ := ob hs
    refine pg_callV C hw hl.1 ml_AdjoinedSetsModel_200 e19 (As := [.long v17]) (rest := []) (c_AdjoinedSetsModel_finish l g e21) rfl (rm_ok (Nat.le_of_ble_eq_true rfl) (Nat.le_of_ble_eq_true rfl)) (Nat.le_of_ble_eq_true rfl) rfl (st1 := []) rfl d_AdjoinedSetsModel_bind_86 (fun H locs hw => ?_)
    refine lv_goto hx hb d_AdjoinedSetsModel_bind_89 (tgt := 109) (by decide) ?_
    obtain rfl := Option.some.inj hs
    exact pg_vret C hw d_AdjoinedSetsModel_bind_109

def s_AdjoinedSetsModel_bind_38 : Nat → Nat → Int32 → Int32 → HP → Option (HP)
  | 0 => fun _ _ _ _ => none
  | k + 1 => fun x0 x1 x2 h =>
  if 62 ≤ x2 then (
    s_AdjoinedSetsModel_bind_65 x0 x1 x2 h)
  else (
    (gR h x0 9 22).bind fun v1 =>
    (aL h v1 2 x1).bind fun v3 =>
    if (lg_cmp ((v3 >>> (x2.toInt64 &&& 63)) &&& 1) 0) = 0 then (
      (s_AdjoinedSetsModel_bind_38 k) x0 x1 (x2 + 1) h)
    else (
      s_AdjoinedSetsModel_bind_65 x0 x1 x2 h))
set_option maxHeartbeats 4000000 in
set_option maxRecDepth 100000 in
theorem k_AdjoinedSetsModel_bind_38 {z : HP} (C : CX g R_AdjoinedSetsModel b_AdjoinedSetsModel_bind 3 none p s m args meth c) : ∀ (k : Nat) {x0 : Nat} {x1 : Int32} {x2 : Int32} {h : HP} {H : Heap} {locs : List Loc} {ls : Array Slot}, WD g h s.heap H locs → lv_has ls 3 [(0, .ref (aD g x0)), (1, .int x1), (2, .int x2)] → s_AdjoinedSetsModel_bind_38 k x0 x1 x2 h = some z → W p l e (rmS 3 64) s m args below meth c H locs 0 0 (MQ below (Qq g none z) args s 0 0 (inA g)) (F0 m 38 ls []) := by
  have hx := C.1
  have hb := C.2.1
  intro k
  induction k with
  | zero =>
    intro x0 x1 x2 h H locs ls hw hl hs
    exact (no_s hs).elim
  | succ k ih =>
    intro x0 x1 x2 h H locs ls hw hl hs
    rw [s_AdjoinedSetsModel_bind_38] at hs
    refine lv_iload_n hx hb d_AdjoinedSetsModel_bind_38 rfl (lv_at hl 2 rfl) ?_
    refine lv_bipush (v := 62) hx hb d_AdjoinedSetsModel_bind_39 (by decide) ?_
    refine lv_icmp_ge hx hb d_AdjoinedSetsModel_bind_41 (tgt := 65) (by decide) (fun hc => ?_) (fun hc => ?_)
    · have hs := oi_t hc hs
      exact k_AdjoinedSetsModel_bind_65 C hw (lv_sub hl [0, 1, 2] rfl) hs
    · have hs := oi_f hc hs
      refine lv_aload_n hx hb d_AdjoinedSetsModel_bind_44 rfl (lv_at hl 0 rfl) ?_
      obtain ⟨v1, e2, hs⟩ := ob hs
      refine pg_getR C hw fl_AdjoinedSetsModel_57 e2 d_AdjoinedSetsModel_bind_45 ?_
      refine lv_iload_n hx hb d_AdjoinedSetsModel_bind_48 rfl (lv_at hl 1 rfl) ?_
      obtain ⟨v3, e4, hs⟩ := ob hs
      refine pg_laload C hw (t0 := 2) rfl e4 d_AdjoinedSetsModel_bind_49 ?_
      refine lv_iload_n hx hb d_AdjoinedSetsModel_bind_50 rfl (lv_at hl 2 rfl) ?_
      refine lv_lshr (v := (v3 >>> (x2.toInt64 &&& 63))) hx hb d_AdjoinedSetsModel_bind_51 rfl ?_
      refine lv_lconst (v := 1) hx hb d_AdjoinedSetsModel_bind_52 (by decide) ?_
      refine lv_land hx hb d_AdjoinedSetsModel_bind_53 ?_
      refine lv_lconst (v := 0) hx hb d_AdjoinedSetsModel_bind_54 (by decide) ?_
      refine W.lcmp hx hb d_AdjoinedSetsModel_bind_55 ?_
      refine lv_if_ne hx hb d_AdjoinedSetsModel_bind_56 (tgt := 65) (by decide) (fun hc => ?_) (fun hc => ?_)
      · have hs := oi_f hc hs
        exact k_AdjoinedSetsModel_bind_65 C hw (lv_sub hl [0, 1, 2] rfl) hs
      · have hs := oi_t hc hs
        refine lv_iinc hx hb d_AdjoinedSetsModel_bind_59 hl (k := 2) rfl (v := (x2 + 1)) (iinc_e _ (by decide)) (by decide) (lv' := [(2, .int (x2 + 1)), (0, .ref (aD g x0)), (1, .int x1)]) rfl (fun ls hl => ?_)
        refine lv_goto hx hb d_AdjoinedSetsModel_bind_62 (tgt := 38) (by decide) ?_
        exact ih hw (lv_sub hl [1, 2, 0] rfl) hs

def s_AdjoinedSetsModel_bind (x0 : Nat) (x1 : Int32) (h : HP) : Option (HP) :=
  (gR h x0 9 20).bind fun v1 =>
  (aI h v1 0 x1).bind fun v3 =>
  if v3 = 0 then (
    (gR h x0 9 18).bind fun v9 =>
    (aI h v9 0 x1).bind fun v11 =>
    (gR h x0 9 19).bind fun v13 =>
    (aI h v13 0 x1).bind fun v15 =>
    (kd x0 9).bind fun _ =>
    (s_AdjoinedSetsModel_push x0 (v11 + 2) v15 h).bind fun q18 =>
    some q18)
  else (
    (gR h x0 9 24).bind fun v5 =>
    (aL h v5 2 x1).bind fun v7 =>
    s_AdjoinedSetsModel_bind_38 20000 x0 x1 (v7.toInt32 + 1) h)
set_option maxHeartbeats 4000000 in
set_option maxRecDepth 100000 in
theorem c_AdjoinedSetsModel_bind (l : Launch) (g : GG) {x0 : Nat} {x1 : Int32} {h : HP} {z : HP} (hs : s_AdjoinedSetsModel_bind x0 x1 h = some z) : Ct l g y_AdjoinedSetsModel_bind w_AdjoinedSetsModel_bind (rmS 3 64) [.ref (aD g x0), .int x1] h none z := by
  refine Ct.of (own := R_AdjoinedSetsModel) (by decide) rfl rfl (Nat.le_of_ble_eq_true rfl) ?_
  intro p e s m args below meth c ls C hl hw
  have hx := C.1
  have hb := C.2.1
  have hl : lv_has ls 3 [(0, .ref (aD g x0)), (1, .int x1)] := hl
  unfold s_AdjoinedSetsModel_bind at hs
  refine lv_aload_n hx hb d_AdjoinedSetsModel_bind_0 rfl (lv_at hl 0 rfl) ?_
  obtain ⟨v1, e2, hs⟩ := ob hs
  refine pg_getR C hw fl_AdjoinedSetsModel_51 e2 d_AdjoinedSetsModel_bind_1 ?_
  refine lv_iload_n hx hb d_AdjoinedSetsModel_bind_4 rfl (lv_at hl 1 rfl) ?_
  obtain ⟨v3, e4, hs⟩ := ob hs
  refine pg_iaload C hw (t0 := 0) rfl e4 d_AdjoinedSetsModel_bind_5 ?_
  refine lv_if_ne hx hb d_AdjoinedSetsModel_bind_6 (tgt := 28) (by decide) (fun hc => ?_) (fun hc => ?_)
  · have hs := oi_f hc hs
    refine lv_aload_n hx hb d_AdjoinedSetsModel_bind_28 rfl (lv_at hl 0 rfl) ?_
    obtain ⟨v5, e6, hs⟩ := ob hs
    refine pg_getR C hw fl_AdjoinedSetsModel_63 e6 d_AdjoinedSetsModel_bind_29 ?_
    refine lv_iload_n hx hb d_AdjoinedSetsModel_bind_32 rfl (lv_at hl 1 rfl) ?_
    obtain ⟨v7, e8, hs⟩ := ob hs
    refine pg_laload C hw (t0 := 2) rfl e8 d_AdjoinedSetsModel_bind_33 ?_
    refine lv_l2i (v := v7.toInt32) hx hb d_AdjoinedSetsModel_bind_34 rfl ?_
    refine lv_iconst (v := 1) hx hb d_AdjoinedSetsModel_bind_35 (by decide) ?_
    refine lv_iadd hx hb d_AdjoinedSetsModel_bind_36 ?_
    refine lv_istore_n hx hb d_AdjoinedSetsModel_bind_37 rfl hl (by decide) (lv' := [(2, .int (v7.toInt32 + 1)), (0, .ref (aD g x0)), (1, .int x1)]) rfl (fun ls hl => ?_)
    exact k_AdjoinedSetsModel_bind_38 C 20000 hw (lv_sub hl [1, 2, 0] rfl) hs
  · have hs := oi_t hc hs
    refine lv_aload_n hx hb d_AdjoinedSetsModel_bind_9 rfl (lv_at hl 0 rfl) ?_
    refine lv_aload_n hx hb d_AdjoinedSetsModel_bind_10 rfl (lv_at hl 0 rfl) ?_
    obtain ⟨v9, e10, hs⟩ := ob hs
    refine pg_getR C hw fl_AdjoinedSetsModel_45 e10 d_AdjoinedSetsModel_bind_11 ?_
    refine lv_iload_n hx hb d_AdjoinedSetsModel_bind_14 rfl (lv_at hl 1 rfl) ?_
    obtain ⟨v11, e12, hs⟩ := ob hs
    refine pg_iaload C hw (t0 := 0) rfl e12 d_AdjoinedSetsModel_bind_15 ?_
    refine lv_iconst (v := 2) hx hb d_AdjoinedSetsModel_bind_16 (by decide) ?_
    refine lv_iadd hx hb d_AdjoinedSetsModel_bind_17 ?_
    refine lv_aload_n hx hb d_AdjoinedSetsModel_bind_18 rfl (lv_at hl 0 rfl) ?_
    obtain ⟨v13, e14, hs⟩ := ob hs
    refine pg_getR C hw fl_AdjoinedSetsModel_48 e14 d_AdjoinedSetsModel_bind_19 ?_
    refine lv_iload_n hx hb d_AdjoinedSetsModel_bind_22 rfl (lv_at hl 1 rfl) ?_
    obtain ⟨v15, e16, hs⟩ := ob hs
    refine pg_iaload C hw (t0 := 0) rfl e16 d_AdjoinedSetsModel_bind_23 ?_
    obtain ⟨_, e17, hs⟩ := ob hs
    obtain ⟨q18, e19, hs⟩ := ob hs
    refine pg_callV C hw hl.1 ml_AdjoinedSetsModel_212 e17 (As := [.int (v11 + 2), .int v15]) (rest := []) (c_AdjoinedSetsModel_push l g e19) rfl (rm_ok (Nat.le_of_ble_eq_true rfl) (Nat.le_of_ble_eq_true rfl)) (Nat.le_of_ble_eq_true rfl) rfl (st1 := []) rfl d_AdjoinedSetsModel_bind_24 (fun H locs hw => ?_)
    obtain rfl := Option.some.inj hs
    exact pg_vret C hw d_AdjoinedSetsModel_bind_27

end
section
variable {p : Program} {l : Launch} {e : Env} {s : State} {m : MethodId} {args : Array Value} {below : List Frame} {meth : Method} {c : Code} {g : GG}
theorem d_AdjoinedSetsModel_power_0 : decode b_AdjoinedSetsModel_power 0 = .ok (.lload_n 1, 1) := by decide +kernel
theorem d_AdjoinedSetsModel_power_1 : decode b_AdjoinedSetsModel_power 1 = .ok (.ldc2_w 176, 3) := by decide +kernel
theorem d_AdjoinedSetsModel_power_4 : decode b_AdjoinedSetsModel_power 4 = .ok (.lcmp, 1) := by decide +kernel
theorem d_AdjoinedSetsModel_power_5 : decode b_AdjoinedSetsModel_power 5 = .ok (.ifCond .le 10, 3) := by decide +kernel
theorem d_AdjoinedSetsModel_power_8 : decode b_AdjoinedSetsModel_power 8 = .ok (.aload_n 0, 1) := by decide +kernel
theorem d_AdjoinedSetsModel_power_9 : decode b_AdjoinedSetsModel_power 9 = .ok (.iconst 1, 1) := by decide +kernel
theorem d_AdjoinedSetsModel_power_10 : decode b_AdjoinedSetsModel_power 10 = .ok (.putfield 166, 3) := by decide +kernel
theorem d_AdjoinedSetsModel_power_13 : decode b_AdjoinedSetsModel_power 13 = .ok (.lconst 0, 1) := by decide +kernel
theorem d_AdjoinedSetsModel_power_14 : decode b_AdjoinedSetsModel_power 14 = .ok (.lreturn, 1) := by decide +kernel
theorem d_AdjoinedSetsModel_power_15 : decode b_AdjoinedSetsModel_power 15 = .ok (.lconst 0, 1) := by decide +kernel
theorem d_AdjoinedSetsModel_power_16 : decode b_AdjoinedSetsModel_power 16 = .ok (.lstore_n 3, 1) := by decide +kernel
theorem d_AdjoinedSetsModel_power_17 : decode b_AdjoinedSetsModel_power 17 = .ok (.iconst 0, 1) := by decide +kernel
theorem d_AdjoinedSetsModel_power_18 : decode b_AdjoinedSetsModel_power 18 = .ok (.istore 5, 2) := by decide +kernel
theorem d_AdjoinedSetsModel_power_20 : decode b_AdjoinedSetsModel_power 20 = .ok (.iload 5, 2) := by decide +kernel
theorem d_AdjoinedSetsModel_power_22 : decode b_AdjoinedSetsModel_power 22 = .ok (.bipush 62, 2) := by decide +kernel
theorem d_AdjoinedSetsModel_power_24 : decode b_AdjoinedSetsModel_power 24 = .ok (.if_icmp .ge 34, 3) := by decide +kernel
theorem d_AdjoinedSetsModel_power_27 : decode b_AdjoinedSetsModel_power 27 = .ok (.iload 5, 2) := by decide +kernel
theorem d_AdjoinedSetsModel_power_29 : decode b_AdjoinedSetsModel_power 29 = .ok (.i2l, 1) := by decide +kernel
theorem d_AdjoinedSetsModel_power_30 : decode b_AdjoinedSetsModel_power 30 = .ok (.lload_n 1, 1) := by decide +kernel
theorem d_AdjoinedSetsModel_power_31 : decode b_AdjoinedSetsModel_power 31 = .ok (.ldc2_w 178, 3) := by decide +kernel
theorem d_AdjoinedSetsModel_power_34 : decode b_AdjoinedSetsModel_power 34 = .ok (.lxor, 1) := by decide +kernel
theorem d_AdjoinedSetsModel_power_35 : decode b_AdjoinedSetsModel_power 35 = .ok (.land, 1) := by decide +kernel
theorem d_AdjoinedSetsModel_power_36 : decode b_AdjoinedSetsModel_power 36 = .ok (.lconst 0, 1) := by decide +kernel
theorem d_AdjoinedSetsModel_power_37 : decode b_AdjoinedSetsModel_power 37 = .ok (.lcmp, 1) := by decide +kernel
theorem d_AdjoinedSetsModel_power_38 : decode b_AdjoinedSetsModel_power 38 = .ok (.ifCond .ne 12, 3) := by decide +kernel
theorem d_AdjoinedSetsModel_power_41 : decode b_AdjoinedSetsModel_power 41 = .ok (.lload_n 3, 1) := by decide +kernel
theorem d_AdjoinedSetsModel_power_42 : decode b_AdjoinedSetsModel_power 42 = .ok (.lconst 1, 1) := by decide +kernel
theorem d_AdjoinedSetsModel_power_43 : decode b_AdjoinedSetsModel_power 43 = .ok (.iload 5, 2) := by decide +kernel
theorem d_AdjoinedSetsModel_power_45 : decode b_AdjoinedSetsModel_power 45 = .ok (.lshl, 1) := by decide +kernel
theorem d_AdjoinedSetsModel_power_46 : decode b_AdjoinedSetsModel_power 46 = .ok (.lor, 1) := by decide +kernel
theorem d_AdjoinedSetsModel_power_47 : decode b_AdjoinedSetsModel_power 47 = .ok (.goto 4, 3) := by decide +kernel
theorem d_AdjoinedSetsModel_power_50 : decode b_AdjoinedSetsModel_power 50 = .ok (.lload_n 3, 1) := by decide +kernel
theorem d_AdjoinedSetsModel_power_51 : decode b_AdjoinedSetsModel_power 51 = .ok (.lstore_n 3, 1) := by decide +kernel
theorem d_AdjoinedSetsModel_power_52 : decode b_AdjoinedSetsModel_power 52 = .ok (.iinc 5 1, 3) := by decide +kernel
theorem d_AdjoinedSetsModel_power_55 : decode b_AdjoinedSetsModel_power 55 = .ok (.goto (-35), 3) := by decide +kernel
theorem d_AdjoinedSetsModel_power_58 : decode b_AdjoinedSetsModel_power 58 = .ok (.lload_n 3, 1) := by decide +kernel
theorem d_AdjoinedSetsModel_power_59 : decode b_AdjoinedSetsModel_power 59 = .ok (.lreturn, 1) := by decide +kernel
def s_AdjoinedSetsModel_power_51 (c20 : Int64 → Int64 → Int32 → HP → Option (Int64 × HP)) (x1 : Int64) (x5 : Int32) (t0 : Int64) (h : HP) : Option (Int64 × HP) :=
  c20 x1 t0 (x5 + 1) h
set_option maxHeartbeats 4000000 in
set_option maxRecDepth 100000 in
theorem k_AdjoinedSetsModel_power_51 {x1 : Int64} {x5 : Int32} {t0 : Int64} {h : HP} {z : Int64 × HP} (C : CX g R_AdjoinedSetsModel b_AdjoinedSetsModel_power 6 (some .long) p s m args meth c) (c20 : Int64 → Int64 → Int32 → HP → Option (Int64 × HP))
    (hc20 : ∀ {x1 : Int64} {x3 : Int64} {x5 : Int32} {h : HP} {H : Heap} {locs : List Loc} {ls : Array Slot}, WD g h s.heap H locs → lv_has ls 6 [(1, .long x1), (3, .long x3), (5, .int x5)] → c20 x1 x3 x5 h = some z → W p l e (rmS 0 0) s m args below meth c H locs 0 0 (MQ below (Qq g (some (.long z.1)) z.2) args s 0 0 (inA g)) (F0 m 20 ls [])) {H : Heap} {locs : List Loc} {ls : Array Slot} (hw : WD g h s.heap H locs) (hl : lv_has ls 6 [(1, .long x1), (5, .int x5)]) (hs : s_AdjoinedSetsModel_power_51 c20 x1 x5 t0 h = some z) : W p l e (rmS 0 0) s m args below meth c H locs 0 0 (MQ below (Qq g (some (.long z.1)) z.2) args s 0 0 (inA g)) (F0 m 51 ls [.long t0]) := by
  unfold s_AdjoinedSetsModel_power_51 at hs
  have hx := C.1
  have hb := C.2.1
  refine lv_lstore_n hx hb d_AdjoinedSetsModel_power_51 rfl hl (by decide) (lv' := [(3, .long t0), (1, .long x1), (5, .int x5)]) rfl (fun ls hl => ?_)
  refine lv_iinc hx hb d_AdjoinedSetsModel_power_52 hl (k := 2) rfl (v := (x5 + 1)) (iinc_e _ (by decide)) (by decide) (lv' := [(5, .int (x5 + 1)), (3, .long t0), (1, .long x1)]) rfl (fun ls hl => ?_)
  refine lv_goto hx hb d_AdjoinedSetsModel_power_55 (tgt := 20) (by decide) ?_
  exact hc20 hw (lv_sub hl [2, 1, 0] rfl) hs

def s_AdjoinedSetsModel_power_20 : Nat → Int64 → Int64 → Int32 → HP → Option (Int64 × HP)
  | 0 => fun _ _ _ _ => none
  | k + 1 => fun x1 x3 x5 h =>
  if 62 ≤ x5 then (
    some (x3, h))
  else (
    if (lg_cmp (x5.toInt64 &&& (x1 ^^^ (-1))) 0) = 0 then (
      s_AdjoinedSetsModel_power_51 (s_AdjoinedSetsModel_power_20 k) x1 x5 (x3 ||| ((1 : Int64) <<< (x5.toInt64 &&& 63))) h)
    else (
      s_AdjoinedSetsModel_power_51 (s_AdjoinedSetsModel_power_20 k) x1 x5 x3 h))
set_option maxHeartbeats 4000000 in
set_option maxRecDepth 100000 in
theorem k_AdjoinedSetsModel_power_20 {z : Int64 × HP} (C : CX g R_AdjoinedSetsModel b_AdjoinedSetsModel_power 6 (some .long) p s m args meth c) : ∀ (k : Nat) {x1 : Int64} {x3 : Int64} {x5 : Int32} {h : HP} {H : Heap} {locs : List Loc} {ls : Array Slot}, WD g h s.heap H locs → lv_has ls 6 [(1, .long x1), (3, .long x3), (5, .int x5)] → s_AdjoinedSetsModel_power_20 k x1 x3 x5 h = some z → W p l e (rmS 0 0) s m args below meth c H locs 0 0 (MQ below (Qq g (some (.long z.1)) z.2) args s 0 0 (inA g)) (F0 m 20 ls []) := by
  have hx := C.1
  have hb := C.2.1
  intro k
  induction k with
  | zero =>
    intro x1 x3 x5 h H locs ls hw hl hs
    exact (no_s hs).elim
  | succ k ih =>
    intro x1 x3 x5 h H locs ls hw hl hs
    rw [s_AdjoinedSetsModel_power_20] at hs
    refine lv_iload hx hb d_AdjoinedSetsModel_power_20 (lv_at hl 2 rfl) ?_
    refine lv_bipush (v := 62) hx hb d_AdjoinedSetsModel_power_22 (by decide) ?_
    refine lv_icmp_ge hx hb d_AdjoinedSetsModel_power_24 (tgt := 58) (by decide) (fun hc => ?_) (fun hc => ?_)
    · have hs := oi_t hc hs
      refine lv_lload_n hx hb d_AdjoinedSetsModel_power_58 rfl (lv_at hl 1 rfl) ?_
      obtain rfl := Option.some.inj hs
      exact pg_lret C hw d_AdjoinedSetsModel_power_59
    · have hs := oi_f hc hs
      refine lv_iload hx hb d_AdjoinedSetsModel_power_27 (lv_at hl 2 rfl) ?_
      refine lv_i2l (v := x5.toInt64) hx hb d_AdjoinedSetsModel_power_29 rfl ?_
      refine lv_lload_n hx hb d_AdjoinedSetsModel_power_30 rfl (lv_at hl 0 rfl) ?_
      refine lv_ldc2 (v := (-1)) hx hb C.own (C.w kc_AdjoinedSetsModel_178) d_AdjoinedSetsModel_power_31 ?_
      refine lv_lxor hx hb d_AdjoinedSetsModel_power_34 ?_
      refine lv_land hx hb d_AdjoinedSetsModel_power_35 ?_
      refine lv_lconst (v := 0) hx hb d_AdjoinedSetsModel_power_36 (by decide) ?_
      refine W.lcmp hx hb d_AdjoinedSetsModel_power_37 ?_
      refine lv_if_ne hx hb d_AdjoinedSetsModel_power_38 (tgt := 50) (by decide) (fun hc => ?_) (fun hc => ?_)
      · have hs := oi_f hc hs
        refine lv_lload_n hx hb d_AdjoinedSetsModel_power_50 rfl (lv_at hl 1 rfl) ?_
        exact k_AdjoinedSetsModel_power_51 C (s_AdjoinedSetsModel_power_20 k) ih hw (lv_sub hl [0, 2] rfl) hs
      · have hs := oi_t hc hs
        refine lv_lload_n hx hb d_AdjoinedSetsModel_power_41 rfl (lv_at hl 1 rfl) ?_
        refine lv_lconst (v := 1) hx hb d_AdjoinedSetsModel_power_42 (by decide) ?_
        refine lv_iload hx hb d_AdjoinedSetsModel_power_43 (lv_at hl 2 rfl) ?_
        refine lv_lshl (v := ((1 : Int64) <<< (x5.toInt64 &&& 63))) hx hb d_AdjoinedSetsModel_power_45 rfl ?_
        refine lv_lor hx hb d_AdjoinedSetsModel_power_46 ?_
        refine lv_goto hx hb d_AdjoinedSetsModel_power_47 (tgt := 51) (by decide) ?_
        exact k_AdjoinedSetsModel_power_51 C (s_AdjoinedSetsModel_power_20 k) ih hw (lv_sub hl [0, 2] rfl) hs

def s_AdjoinedSetsModel_power (x0 : Nat) (x1 : Int64) (h : HP) : Option (Int64 × HP) :=
  if (lg_cmp x1 61) ≤ 0 then (
    s_AdjoinedSetsModel_power_20 20000 x1 0 0 h)
  else (
    (pI h x0 9 17 1).bind fun h1 =>
    some (0, h1))
set_option maxHeartbeats 4000000 in
set_option maxRecDepth 100000 in
theorem c_AdjoinedSetsModel_power (l : Launch) (g : GG) {x0 : Nat} {x1 : Int64} {h : HP} {z : Int64 × HP} (hs : s_AdjoinedSetsModel_power x0 x1 h = some z) : Ct l g y_AdjoinedSetsModel_power w_AdjoinedSetsModel_power (rmS 0 0) [.ref (aD g x0), .long x1] h (some (.long z.1)) z.2 := by
  refine Ct.of (own := R_AdjoinedSetsModel) (by decide) rfl rfl (Nat.le_of_ble_eq_true rfl) ?_
  intro p e s m args below meth c ls C hl hw
  have hx := C.1
  have hb := C.2.1
  have hl : lv_has ls 6 [(0, .ref (aD g x0)), (1, .long x1)] := hl
  unfold s_AdjoinedSetsModel_power at hs
  refine lv_lload_n hx hb d_AdjoinedSetsModel_power_0 rfl (lv_at hl 1 rfl) ?_
  refine lv_ldc2 (v := 61) hx hb C.own (C.w kc_AdjoinedSetsModel_176) d_AdjoinedSetsModel_power_1 ?_
  refine W.lcmp hx hb d_AdjoinedSetsModel_power_4 ?_
  refine lv_if_le hx hb d_AdjoinedSetsModel_power_5 (tgt := 15) (by decide) (fun hc => ?_) (fun hc => ?_)
  · have hs := oi_t hc hs
    refine lv_lconst (v := 0) hx hb d_AdjoinedSetsModel_power_15 (by decide) ?_
    refine lv_lstore_n hx hb d_AdjoinedSetsModel_power_16 rfl hl (by decide) (lv' := [(3, .long 0), (0, .ref (aD g x0)), (1, .long x1)]) rfl (fun ls hl => ?_)
    refine lv_iconst (v := 0) hx hb d_AdjoinedSetsModel_power_17 (by decide) ?_
    refine lv_istore hx hb d_AdjoinedSetsModel_power_18 hl (by decide) (lv' := [(5, .int 0), (3, .long 0), (0, .ref (aD g x0)), (1, .long x1)]) rfl (fun ls hl => ?_)
    exact k_AdjoinedSetsModel_power_20 C 20000 hw (lv_sub hl [3, 1, 0] rfl) hs
  · have hs := oi_f hc hs
    refine lv_aload_n hx hb d_AdjoinedSetsModel_power_8 rfl (lv_at hl 0 rfl) ?_
    refine lv_iconst (v := 1) hx hb d_AdjoinedSetsModel_power_9 (by decide) ?_
    obtain ⟨h1, e2, hs⟩ := ob hs
    refine pg_putZ C hw pl_AdjoinedSetsModel_166 (Or.inr rfl) e2 d_AdjoinedSetsModel_power_10 (fun H locs hw => ?_)
    refine lv_lconst (v := 0) hx hb d_AdjoinedSetsModel_power_13 (by decide) ?_
    obtain rfl := Option.some.inj hs
    exact pg_lret C hw d_AdjoinedSetsModel_power_14

end
section
variable {p : Program} {l : Launch} {e : Env} {s : State} {m : MethodId} {args : Array Value} {below : List Frame} {meth : Method} {c : Code} {g : GG}
theorem d_AdjoinedSetsModel_closure_0 : decode b_AdjoinedSetsModel_closure 0 = .ok (.lload_n 0, 1) := by decide +kernel
theorem d_AdjoinedSetsModel_closure_1 : decode b_AdjoinedSetsModel_closure 1 = .ok (.lstore_n 2, 1) := by decide +kernel
theorem d_AdjoinedSetsModel_closure_2 : decode b_AdjoinedSetsModel_closure 2 = .ok (.iconst 0, 1) := by decide +kernel
theorem d_AdjoinedSetsModel_closure_3 : decode b_AdjoinedSetsModel_closure 3 = .ok (.istore 4, 2) := by decide +kernel
theorem d_AdjoinedSetsModel_closure_5 : decode b_AdjoinedSetsModel_closure 5 = .ok (.iload 4, 2) := by decide +kernel
theorem d_AdjoinedSetsModel_closure_7 : decode b_AdjoinedSetsModel_closure 7 = .ok (.bipush 8, 2) := by decide +kernel
theorem d_AdjoinedSetsModel_closure_9 : decode b_AdjoinedSetsModel_closure 9 = .ok (.if_icmp .ge 16, 3) := by decide +kernel
theorem d_AdjoinedSetsModel_closure_12 : decode b_AdjoinedSetsModel_closure 12 = .ok (.lload_n 2, 1) := by decide +kernel
theorem d_AdjoinedSetsModel_closure_13 : decode b_AdjoinedSetsModel_closure 13 = .ok (.lload_n 2, 1) := by decide +kernel
theorem d_AdjoinedSetsModel_closure_14 : decode b_AdjoinedSetsModel_closure 14 = .ok (.invokestatic 172, 3) := by decide +kernel
theorem d_AdjoinedSetsModel_closure_17 : decode b_AdjoinedSetsModel_closure 17 = .ok (.lor, 1) := by decide +kernel
theorem d_AdjoinedSetsModel_closure_18 : decode b_AdjoinedSetsModel_closure 18 = .ok (.lstore_n 2, 1) := by decide +kernel
theorem d_AdjoinedSetsModel_closure_19 : decode b_AdjoinedSetsModel_closure 19 = .ok (.iinc 4 1, 3) := by decide +kernel
theorem d_AdjoinedSetsModel_closure_22 : decode b_AdjoinedSetsModel_closure 22 = .ok (.goto (-17), 3) := by decide +kernel
theorem d_AdjoinedSetsModel_closure_25 : decode b_AdjoinedSetsModel_closure 25 = .ok (.lload_n 2, 1) := by decide +kernel
theorem d_AdjoinedSetsModel_closure_26 : decode b_AdjoinedSetsModel_closure 26 = .ok (.lreturn, 1) := by decide +kernel
def s_AdjoinedSetsModel_closure_5 : Nat → Int64 → Int32 → Option (Int64)
  | 0 => fun _ _ => none
  | k + 1 => fun x2 x4 =>
  if 8 ≤ x4 then (
    some x2)
  else (
    (s_AdjoinedSetsModel_union x2).bind fun q1 =>
    (s_AdjoinedSetsModel_closure_5 k) (x2 ||| q1) (x4 + 1))
set_option maxHeartbeats 4000000 in
set_option maxRecDepth 100000 in
theorem k_AdjoinedSetsModel_closure_5 {h : HP} {z : Int64} (C : CX g R_AdjoinedSetsModel b_AdjoinedSetsModel_closure 5 (some .long) p s m args meth c) : ∀ (k : Nat) {x2 : Int64} {x4 : Int32} {H : Heap} {locs : List Loc} {ls : Array Slot}, WD g h s.heap H locs → lv_has ls 5 [(2, .long x2), (4, .int x4)] → s_AdjoinedSetsModel_closure_5 k x2 x4 = some z → W p l e (rmS 1 24) s m args below meth c H locs 0 0 (MQ below (Qq g (some (.long z)) h) args s 0 0 (inA g)) (F0 m 5 ls []) := by
  have hx := C.1
  have hb := C.2.1
  intro k
  induction k with
  | zero =>
    intro x2 x4 H locs ls hw hl hs
    exact (no_s hs).elim
  | succ k ih =>
    intro x2 x4 H locs ls hw hl hs
    rw [s_AdjoinedSetsModel_closure_5] at hs
    refine lv_iload hx hb d_AdjoinedSetsModel_closure_5 (lv_at hl 1 rfl) ?_
    refine lv_bipush (v := 8) hx hb d_AdjoinedSetsModel_closure_7 (by decide) ?_
    refine lv_icmp_ge hx hb d_AdjoinedSetsModel_closure_9 (tgt := 25) (by decide) (fun hc => ?_) (fun hc => ?_)
    · have hs := oi_t hc hs
      refine lv_lload_n hx hb d_AdjoinedSetsModel_closure_25 rfl (lv_at hl 0 rfl) ?_
      obtain rfl := Option.some.inj hs
      exact pg_lret C hw d_AdjoinedSetsModel_closure_26
    · have hs := oi_f hc hs
      refine lv_lload_n hx hb d_AdjoinedSetsModel_closure_12 rfl (lv_at hl 0 rfl) ?_
      refine lv_lload_n hx hb d_AdjoinedSetsModel_closure_13 rfl (lv_at hl 0 rfl) ?_
      obtain ⟨q1, e2, hs⟩ := ob hs
      refine pg_callS C hw hl.1 ml_AdjoinedSetsModel_172 (As := [.long x2]) (rest := [.long x2]) (c_AdjoinedSetsModel_union l g e2) rfl (rm_ok (Nat.le_of_ble_eq_true rfl) (Nat.le_of_ble_eq_true rfl)) (Nat.le_of_ble_eq_true rfl) rfl (st1 := [.long q1, .long x2]) rfl d_AdjoinedSetsModel_closure_14 (fun H locs hw => ?_)
      refine lv_lor hx hb d_AdjoinedSetsModel_closure_17 ?_
      refine lv_lstore_n hx hb d_AdjoinedSetsModel_closure_18 rfl hl (by decide) (lv' := [(2, .long (x2 ||| q1)), (4, .int x4)]) rfl (fun ls hl => ?_)
      refine lv_iinc hx hb d_AdjoinedSetsModel_closure_19 hl (k := 1) rfl (v := (x4 + 1)) (iinc_e _ (by decide)) (by decide) (lv' := [(4, .int (x4 + 1)), (2, .long (x2 ||| q1))]) rfl (fun ls hl => ?_)
      refine lv_goto hx hb d_AdjoinedSetsModel_closure_22 (tgt := 5) (by decide) ?_
      exact ih hw (lv_sub hl [1, 0] rfl) hs

def s_AdjoinedSetsModel_closure (x0 : Int64) : Option (Int64) :=
  s_AdjoinedSetsModel_closure_5 20000 x0 0
set_option maxHeartbeats 4000000 in
set_option maxRecDepth 100000 in
theorem c_AdjoinedSetsModel_closure (l : Launch) (g : GG) {h : HP} {x0 : Int64} {z : Int64} (hs : s_AdjoinedSetsModel_closure x0 = some z) : Ct l g y_AdjoinedSetsModel_closure w_AdjoinedSetsModel_closure (rmS 1 24) [.long x0] h (some (.long z)) h := by
  refine Ct.of (own := R_AdjoinedSetsModel) (by decide) rfl rfl (Nat.le_of_ble_eq_true rfl) ?_
  intro p e s m args below meth c ls C hl hw
  have hx := C.1
  have hb := C.2.1
  have hl : lv_has ls 5 [(0, .long x0)] := hl
  unfold s_AdjoinedSetsModel_closure at hs
  refine lv_lload_n hx hb d_AdjoinedSetsModel_closure_0 rfl (lv_at hl 0 rfl) ?_
  refine lv_lstore_n hx hb d_AdjoinedSetsModel_closure_1 rfl hl (by decide) (lv' := [(2, .long x0), (0, .long x0)]) rfl (fun ls hl => ?_)
  refine lv_iconst (v := 0) hx hb d_AdjoinedSetsModel_closure_2 (by decide) ?_
  refine lv_istore hx hb d_AdjoinedSetsModel_closure_3 hl (by decide) (lv' := [(4, .int 0), (2, .long x0), (0, .long x0)]) rfl (fun ls hl => ?_)
  exact k_AdjoinedSetsModel_closure_5 C 20000 hw (lv_sub hl [1, 0] rfl) hs

end
