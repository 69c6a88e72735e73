section
variable {p : Program} {l : Launch} {e : Env} {s : State} {m : MethodId} {args : Array Value} {below : List Frame} {meth : Method} {c : Code} {g : GG}
theorem d_AdjoinedSetsModel_push_0 : decode b_AdjoinedSetsModel_push 0 = .ok (.aload_n 0, 1) := by decide +kernel
theorem d_AdjoinedSetsModel_push_1 : decode b_AdjoinedSetsModel_push 1 = .ok (.dup, 1) := by decide +kernel
theorem d_AdjoinedSetsModel_push_2 : decode b_AdjoinedSetsModel_push 2 = .ok (.getfield 160, 3) := by decide +kernel
theorem d_AdjoinedSetsModel_push_5 : decode b_AdjoinedSetsModel_push 5 = .ok (.iconst 1, 1) := by decide +kernel
theorem d_AdjoinedSetsModel_push_6 : decode b_AdjoinedSetsModel_push 6 = .ok (.iadd, 1) := by decide +kernel
theorem d_AdjoinedSetsModel_push_7 : decode b_AdjoinedSetsModel_push 7 = .ok (.putfield 160, 3) := by decide +kernel
theorem d_AdjoinedSetsModel_push_10 : decode b_AdjoinedSetsModel_push 10 = .ok (.aload_n 0, 1) := by decide +kernel
theorem d_AdjoinedSetsModel_push_11 : decode b_AdjoinedSetsModel_push 11 = .ok (.getfield 160, 3) := by decide +kernel
theorem d_AdjoinedSetsModel_push_14 : decode b_AdjoinedSetsModel_push 14 = .ok (.sipush 3000, 3) := by decide +kernel
theorem d_AdjoinedSetsModel_push_17 : decode b_AdjoinedSetsModel_push 17 = .ok (.if_icmp .gt 12, 3) := by decide +kernel
theorem d_AdjoinedSetsModel_push_20 : decode b_AdjoinedSetsModel_push 20 = .ok (.aload_n 0, 1) := by decide +kernel
theorem d_AdjoinedSetsModel_push_21 : decode b_AdjoinedSetsModel_push 21 = .ok (.getfield 163, 3) := by decide +kernel
theorem d_AdjoinedSetsModel_push_24 : decode b_AdjoinedSetsModel_push 24 = .ok (.bipush 32, 2) := by decide +kernel
theorem d_AdjoinedSetsModel_push_26 : decode b_AdjoinedSetsModel_push 26 = .ok (.if_icmp .ne 9, 3) := by decide +kernel
theorem d_AdjoinedSetsModel_push_29 : decode b_AdjoinedSetsModel_push 29 = .ok (.aload_n 0, 1) := by decide +kernel
theorem d_AdjoinedSetsModel_push_30 : decode b_AdjoinedSetsModel_push 30 = .ok (.iconst 1, 1) := by decide +kernel
theorem d_AdjoinedSetsModel_push_31 : decode b_AdjoinedSetsModel_push 31 = .ok (.putfield 166, 3) := by decide +kernel
theorem d_AdjoinedSetsModel_push_34 : decode b_AdjoinedSetsModel_push 34 = .ok (.return_, 1) := by decide +kernel
theorem d_AdjoinedSetsModel_push_35 : decode b_AdjoinedSetsModel_push 35 = .ok (.aload_n 0, 1) := by decide +kernel
theorem d_AdjoinedSetsModel_push_36 : decode b_AdjoinedSetsModel_push 36 = .ok (.getfield 45, 3) := by decide +kernel
theorem d_AdjoinedSetsModel_push_39 : decode b_AdjoinedSetsModel_push 39 = .ok (.aload_n 0, 1) := by decide +kernel
theorem d_AdjoinedSetsModel_push_40 : decode b_AdjoinedSetsModel_push 40 = .ok (.getfield 163, 3) := by decide +kernel
theorem d_AdjoinedSetsModel_push_43 : decode b_AdjoinedSetsModel_push 43 = .ok (.iload_n 1, 1) := by decide +kernel
theorem d_AdjoinedSetsModel_push_44 : decode b_AdjoinedSetsModel_push 44 = .ok (.iastore, 1) := by decide +kernel
theorem d_AdjoinedSetsModel_push_45 : decode b_AdjoinedSetsModel_push 45 = .ok (.aload_n 0, 1) := by decide +kernel
theorem d_AdjoinedSetsModel_push_46 : decode b_AdjoinedSetsModel_push 46 = .ok (.getfield 48, 3) := by decide +kernel
theorem d_AdjoinedSetsModel_push_49 : decode b_AdjoinedSetsModel_push 49 = .ok (.aload_n 0, 1) := by decide +kernel
theorem d_AdjoinedSetsModel_push_50 : decode b_AdjoinedSetsModel_push 50 = .ok (.getfield 163, 3) := by decide +kernel
theorem d_AdjoinedSetsModel_push_53 : decode b_AdjoinedSetsModel_push 53 = .ok (.iload_n 2, 1) := by decide +kernel
theorem d_AdjoinedSetsModel_push_54 : decode b_AdjoinedSetsModel_push 54 = .ok (.iastore, 1) := by decide +kernel
theorem d_AdjoinedSetsModel_push_55 : decode b_AdjoinedSetsModel_push 55 = .ok (.aload_n 0, 1) := by decide +kernel
theorem d_AdjoinedSetsModel_push_56 : decode b_AdjoinedSetsModel_push 56 = .ok (.getfield 51, 3) := by decide +kernel
theorem d_AdjoinedSetsModel_push_59 : decode b_AdjoinedSetsModel_push 59 = .ok (.aload_n 0, 1) := by decide +kernel
theorem d_AdjoinedSetsModel_push_60 : decode b_AdjoinedSetsModel_push 60 = .ok (.getfield 163, 3) := by decide +kernel
theorem d_AdjoinedSetsModel_push_63 : decode b_AdjoinedSetsModel_push 63 = .ok (.iconst 0, 1) := by decide +kernel
theorem d_AdjoinedSetsModel_push_64 : decode b_AdjoinedSetsModel_push 64 = .ok (.iastore, 1) := by decide +kernel
theorem d_AdjoinedSetsModel_push_65 : decode b_AdjoinedSetsModel_push 65 = .ok (.aload_n 0, 1) := by decide +kernel
theorem d_AdjoinedSetsModel_push_66 : decode b_AdjoinedSetsModel_push 66 = .ok (.getfield 54, 3) := by decide +kernel
theorem d_AdjoinedSetsModel_push_69 : decode b_AdjoinedSetsModel_push 69 = .ok (.aload_n 0, 1) := by decide +kernel
theorem d_AdjoinedSetsModel_push_70 : decode b_AdjoinedSetsModel_push 70 = .ok (.getfield 163, 3) := by decide +kernel
theorem d_AdjoinedSetsModel_push_73 : decode b_AdjoinedSetsModel_push 73 = .ok (.iload_n 1, 1) := by decide +kernel
theorem d_AdjoinedSetsModel_push_74 : decode b_AdjoinedSetsModel_push 74 = .ok (.iconst 1, 1) := by decide +kernel
theorem d_AdjoinedSetsModel_push_75 : decode b_AdjoinedSetsModel_push 75 = .ok (.iadd, 1) := by decide +kernel
theorem d_AdjoinedSetsModel_push_76 : decode b_AdjoinedSetsModel_push 76 = .ok (.iastore, 1) := by decide +kernel
theorem d_AdjoinedSetsModel_push_77 : decode b_AdjoinedSetsModel_push 77 = .ok (.aload_n 0, 1) := by decide +kernel
theorem d_AdjoinedSetsModel_push_78 : decode b_AdjoinedSetsModel_push 78 = .ok (.getfield 57, 3) := by decide +kernel
theorem d_AdjoinedSetsModel_push_81 : decode b_AdjoinedSetsModel_push 81 = .ok (.aload_n 0, 1) := by decide +kernel
theorem d_AdjoinedSetsModel_push_82 : decode b_AdjoinedSetsModel_push 82 = .ok (.getfield 163, 3) := by decide +kernel
theorem d_AdjoinedSetsModel_push_85 : decode b_AdjoinedSetsModel_push 85 = .ok (.lconst 0, 1) := by decide +kernel
theorem d_AdjoinedSetsModel_push_86 : decode b_AdjoinedSetsModel_push 86 = .ok (.lastore, 1) := by decide +kernel
theorem d_AdjoinedSetsModel_push_87 : decode b_AdjoinedSetsModel_push 87 = .ok (.aload_n 0, 1) := by decide +kernel
theorem d_AdjoinedSetsModel_push_88 : decode b_AdjoinedSetsModel_push 88 = .ok (.getfield 60, 3) := by decide +kernel
theorem d_AdjoinedSetsModel_push_91 : decode b_AdjoinedSetsModel_push 91 = .ok (.aload_n 0, 1) := by decide +kernel
theorem d_AdjoinedSetsModel_push_92 : decode b_AdjoinedSetsModel_push 92 = .ok (.getfield 163, 3) := by decide +kernel
theorem d_AdjoinedSetsModel_push_95 : decode b_AdjoinedSetsModel_push 95 = .ok (.lconst 0, 1) := by decide +kernel
theorem d_AdjoinedSetsModel_push_96 : decode b_AdjoinedSetsModel_push 96 = .ok (.lastore, 1) := by decide +kernel
theorem d_AdjoinedSetsModel_push_97 : decode b_AdjoinedSetsModel_push 97 = .ok (.aload_n 0, 1) := by decide +kernel
theorem d_AdjoinedSetsModel_push_98 : decode b_AdjoinedSetsModel_push 98 = .ok (.getfield 63, 3) := by decide +kernel
theorem d_AdjoinedSetsModel_push_101 : decode b_AdjoinedSetsModel_push 101 = .ok (.aload_n 0, 1) := by decide +kernel
theorem d_AdjoinedSetsModel_push_102 : decode b_AdjoinedSetsModel_push 102 = .ok (.getfield 163, 3) := by decide +kernel
theorem d_AdjoinedSetsModel_push_105 : decode b_AdjoinedSetsModel_push 105 = .ok (.lconst 0, 1) := by decide +kernel
theorem d_AdjoinedSetsModel_push_106 : decode b_AdjoinedSetsModel_push 106 = .ok (.lastore, 1) := by decide +kernel
theorem d_AdjoinedSetsModel_push_107 : decode b_AdjoinedSetsModel_push 107 = .ok (.aload_n 0, 1) := by decide +kernel
theorem d_AdjoinedSetsModel_push_108 : decode b_AdjoinedSetsModel_push 108 = .ok (.dup, 1) := by decide +kernel
theorem d_AdjoinedSetsModel_push_109 : decode b_AdjoinedSetsModel_push 109 = .ok (.getfield 163, 3) := by decide +kernel
theorem d_AdjoinedSetsModel_push_112 : decode b_AdjoinedSetsModel_push 112 = .ok (.iconst 1, 1) := by decide +kernel
theorem d_AdjoinedSetsModel_push_113 : decode b_AdjoinedSetsModel_push 113 = .ok (.iadd, 1) := by decide +kernel
theorem d_AdjoinedSetsModel_push_114 : decode b_AdjoinedSetsModel_push 114 = .ok (.putfield 163, 3) := by decide +kernel
theorem d_AdjoinedSetsModel_push_117 : decode b_AdjoinedSetsModel_push 117 = .ok (.return_, 1) := by decide +kernel
def s_AdjoinedSetsModel_push (x0 : Nat) (x1 : Int32) (x2 : Int32) (h : HP) : Option (HP) :=
  (gI h x0 9 16).bind fun v1 =>
  (pI h x0 9 16 (v1 + 1)).bind fun h3 =>
  (gI h3 x0 9 16).bind fun v5 =>
  if 3000 < v5 then (
    (pI h3 x0 9 17 1).bind fun h7 =>
    some h7)
  else (
    (gI h3 x0 9 15).bind fun v9 =>
    if v9 = 32 then (
      (pI h3 x0 9 17 1).bind fun h57 =>
      some h57)
    else (
      (gR h3 x0 9 18).bind fun v11 =>
      (gI h3 x0 9 15).bind fun v13 =>
      (uI h3 v11 0 v13 x1).bind fun h15 =>
      (gR h15 x0 9 19).bind fun v17 =>
      (gI h15 x0 9 15).bind fun v19 =>
      (uI h15 v17 0 v19 x2).bind fun h21 =>
      (gR h21 x0 9 20).bind fun v23 =>
      (gI h21 x0 9 15).bind fun v25 =>
      (uI h21 v23 0 v25 0).bind fun h27 =>
      (gR h27 x0 9 21).bind fun v29 =>
      (gI h27 x0 9 15).bind fun v31 =>
      (uI h27 v29 0 v31 (x1 + 1)).bind fun h33 =>
      (gR h33 x0 9 22).bind fun v35 =>
      (gI h33 x0 9 15).bind fun v37 =>
      (uL h33 v35 2 v37 0).bind fun h39 =>
      (gR h39 x0 9 23).bind fun v41 =>
      (gI h39 x0 9 15).bind fun v43 =>
      (uL h39 v41 2 v43 0).bind fun h45 =>
      (gR h45 x0 9 24).bind fun v47 =>
      (gI h45 x0 9 15).bind fun v49 =>
      (uL h45 v47 2 v49 0).bind fun h51 =>
      (gI h51 x0 9 15).bind fun v53 =>
      (pI h51 x0 9 15 (v53 + 1)).bind fun h55 =>
      some h55))
set_option maxHeartbeats 4000000 in
set_option maxRecDepth 100000 in
theorem c_AdjoinedSetsModel_push (l : Launch) (g : GG) {x0 : Nat} {x1 : Int32} {x2 : Int32} {h : HP} {z : HP} (hs : s_AdjoinedSetsModel_push x0 x1 x2 h = some z) : Ct l g y_AdjoinedSetsModel_push w_AdjoinedSetsModel_push (rmS 0 0) [.ref (aD g x0), .int x1, .int x2] h none z := by
  refine Ct.of (own := R_AdjoinedSetsModel) (by decide) rfl rfl (Nat.le_of_ble_eq_true rfl) ?_
  intro p e s m args below meth c ls C hl hw
  have hx := C.1
  have hb := C.2.1
  have hl : lv_has ls 3 [(0, .ref (aD g x0)), (1, .int x1), (2, .int x2)] := hl
  unfold s_AdjoinedSetsModel_push at hs
  refine lv_aload_n hx hb d_AdjoinedSetsModel_push_0 rfl (lv_at hl 0 rfl) ?_
  refine lv_dup hx hb d_AdjoinedSetsModel_push_1 rfl ?_
  obtain ⟨v1, e2, hs⟩ := ob hs
  refine pg_getI C hw fl_AdjoinedSetsModel_160 e2 d_AdjoinedSetsModel_push_2 ?_
  refine lv_iconst (v := 1) hx hb d_AdjoinedSetsModel_push_5 (by decide) ?_
  refine lv_iadd hx hb d_AdjoinedSetsModel_push_6 ?_
  obtain ⟨h3, e4, hs⟩ := ob hs
  refine pg_putI C hw pl_AdjoinedSetsModel_160 e4 d_AdjoinedSetsModel_push_7 (fun H locs hw => ?_)
  refine lv_aload_n hx hb d_AdjoinedSetsModel_push_10 rfl (lv_at hl 0 rfl) ?_
  obtain ⟨v5, e6, hs⟩ := ob hs
  refine pg_getI C hw fl_AdjoinedSetsModel_160 e6 d_AdjoinedSetsModel_push_11 ?_
  refine lv_sipush (v := 3000) hx hb d_AdjoinedSetsModel_push_14 (by decide) ?_
  refine lv_icmp_gt hx hb d_AdjoinedSetsModel_push_17 (tgt := 29) (by decide) (fun hc => ?_) (fun hc => ?_)
  · have hs := oi_t hc hs
    refine lv_aload_n hx hb d_AdjoinedSetsModel_push_29 rfl (lv_at hl 0 rfl) ?_
    refine lv_iconst (v := 1) hx hb d_AdjoinedSetsModel_push_30 (by decide) ?_
    obtain ⟨h7, e8, hs⟩ := ob hs
    refine pg_putZ C hw pl_AdjoinedSetsModel_166 (Or.inr rfl) e8 d_AdjoinedSetsModel_push_31 (fun H locs hw => ?_)
    obtain rfl := Option.some.inj hs
    exact pg_vret C hw d_AdjoinedSetsModel_push_34
  · have hs := oi_f hc hs
    refine lv_aload_n hx hb d_AdjoinedSetsModel_push_20 rfl (lv_at hl 0 rfl) ?_
    obtain ⟨v9, e10, hs⟩ := ob hs
    refine pg_getI C hw fl_AdjoinedSetsModel_163 e10 d_AdjoinedSetsModel_push_21 ?_
    refine lv_bipush (v := 32) hx hb d_AdjoinedSetsModel_push_24 (by decide) ?_
    refine lv_icmp_ne hx hb d_AdjoinedSetsModel_push_26 (tgt := 35) (by decide) (fun hc => ?_) (fun hc => ?_)
    · have hs := oi_f hc hs
      refine lv_aload_n hx hb d_AdjoinedSetsModel_push_35 rfl (lv_at hl 0 rfl) ?_
      obtain ⟨v11, e12, hs⟩ := ob hs
      refine pg_getR C hw fl_AdjoinedSetsModel_45 e12 d_AdjoinedSetsModel_push_36 ?_
      refine lv_aload_n hx hb d_AdjoinedSetsModel_push_39 rfl (lv_at hl 0 rfl) ?_
      obtain ⟨v13, e14, hs⟩ := ob hs
      refine pg_getI C hw fl_AdjoinedSetsModel_163 e14 d_AdjoinedSetsModel_push_40 ?_
      refine lv_iload_n hx hb d_AdjoinedSetsModel_push_43 rfl (lv_at hl 1 rfl) ?_
      obtain ⟨h15, e16, hs⟩ := ob hs
      refine pg_iastore C hw (t0 := 0) rfl e16 d_AdjoinedSetsModel_push_44 (fun H locs hw => ?_)
      refine lv_aload_n hx hb d_AdjoinedSetsModel_push_45 rfl (lv_at hl 0 rfl) ?_
      obtain ⟨v17, e18, hs⟩ := ob hs
      refine pg_getR C hw fl_AdjoinedSetsModel_48 e18 d_AdjoinedSetsModel_push_46 ?_
      refine lv_aload_n hx hb d_AdjoinedSetsModel_push_49 rfl (lv_at hl 0 rfl) ?_
      obtain ⟨v19, e20, hs⟩ := ob hs
      refine pg_getI C hw fl_AdjoinedSetsModel_163 e20 d_AdjoinedSetsModel_push_50 ?_
      refine lv_iload_n hx hb d_AdjoinedSetsModel_push_53 rfl (lv_at hl 2 rfl) ?_
      obtain ⟨h21, e22, hs⟩ := ob hs
      refine pg_iastore C hw (t0 := 0) rfl e22 d_AdjoinedSetsModel_push_54 (fun H locs hw => ?_)
      refine lv_aload_n hx hb d_AdjoinedSetsModel_push_55 rfl (lv_at hl 0 rfl) ?_
      obtain ⟨v23, e24, hs⟩ := ob hs
      refine pg_getR C hw fl_AdjoinedSetsModel_51 e24 d_AdjoinedSetsModel_push_56 ?_
      refine lv_aload_n hx hb d_AdjoinedSetsModel_push_59 rfl (lv_at hl 0 rfl) ?_
      obtain ⟨v25, e26, hs⟩ := ob hs
      refine pg_getI C hw fl_AdjoinedSetsModel_163 e26 d_AdjoinedSetsModel_push_60 ?_
      refine lv_iconst (v := 0) hx hb d_AdjoinedSetsModel_push_63 (by decide) ?_
      obtain ⟨h27, e28, hs⟩ := ob hs
      refine pg_iastore C hw (t0 := 0) rfl e28 d_AdjoinedSetsModel_push_64 (fun H locs hw => ?_)
      refine lv_aload_n hx hb d_AdjoinedSetsModel_push_65 rfl (lv_at hl 0 rfl) ?_
      obtain ⟨v29, e30, hs⟩ := ob hs
      refine pg_getR C hw fl_AdjoinedSetsModel_54 e30 d_AdjoinedSetsModel_push_66 ?_
      refine lv_aload_n hx hb d_AdjoinedSetsModel_push_69 rfl (lv_at hl 0 rfl) ?_
      obtain ⟨v31, e32, hs⟩ := ob hs
      refine pg_getI C hw fl_AdjoinedSetsModel_163 e32 d_AdjoinedSetsModel_push_70 ?_
      refine lv_iload_n hx hb d_AdjoinedSetsModel_push_73 rfl (lv_at hl 1 rfl) ?_
      refine lv_iconst (v := 1) hx hb d_AdjoinedSetsModel_push_74 (by decide) ?_
      refine lv_iadd hx hb d_AdjoinedSetsModel_push_75 ?_
      obtain ⟨h33, e34, hs⟩ := ob hs
      refine pg_iastore C hw (t0 := 0) rfl e34 d_AdjoinedSetsModel_push_76 (fun H locs hw => ?_)
      refine lv_aload_n hx hb d_AdjoinedSetsModel_push_77 rfl (lv_at hl 0 rfl) ?_
      obtain ⟨v35, e36, hs⟩ := ob hs
      refine pg_getR C hw fl_AdjoinedSetsModel_57 e36 d_AdjoinedSetsModel_push_78 ?_
      refine lv_aload_n hx hb d_AdjoinedSetsModel_push_81 rfl (lv_at hl 0 rfl) ?_
      obtain ⟨v37, e38, hs⟩ := ob hs
      refine pg_getI C hw fl_AdjoinedSetsModel_163 e38 d_AdjoinedSetsModel_push_82 ?_
      refine lv_lconst (v := 0) hx hb d_AdjoinedSetsModel_push_85 (by decide) ?_
      obtain ⟨h39, e40, hs⟩ := ob hs
      refine pg_lastore C hw (t0 := 2) rfl e40 d_AdjoinedSetsModel_push_86 (fun H locs hw => ?_)
      refine lv_aload_n hx hb d_AdjoinedSetsModel_push_87 rfl (lv_at hl 0 rfl) ?_
      obtain ⟨v41, e42, hs⟩ := ob hs
      refine pg_getR C hw fl_AdjoinedSetsModel_60 e42 d_AdjoinedSetsModel_push_88 ?_
      refine lv_aload_n hx hb d_AdjoinedSetsModel_push_91 rfl (lv_at hl 0 rfl) ?_
      obtain ⟨v43, e44, hs⟩ := ob hs
      refine pg_getI C hw fl_AdjoinedSetsModel_163 e44 d_AdjoinedSetsModel_push_92 ?_
      refine lv_lconst (v := 0) hx hb d_AdjoinedSetsModel_push_95 (by decide) ?_
      obtain ⟨h45, e46, hs⟩ := ob hs
      refine pg_lastore C hw (t0 := 2) rfl e46 d_AdjoinedSetsModel_push_96 (fun H locs hw => ?_)
      refine lv_aload_n hx hb d_AdjoinedSetsModel_push_97 rfl (lv_at hl 0 rfl) ?_
      obtain ⟨v47, e48, hs⟩ := ob hs
      refine pg_getR C hw fl_AdjoinedSetsModel_63 e48 d_AdjoinedSetsModel_push_98 ?_
      refine lv_aload_n hx hb d_AdjoinedSetsModel_push_101 rfl (lv_at hl 0 rfl) ?_
      obtain ⟨v49, e50, hs⟩ := ob hs
      refine pg_getI C hw fl_AdjoinedSetsModel_163 e50 d_AdjoinedSetsModel_push_102 ?_
      refine lv_lconst (v := 0) hx hb d_AdjoinedSetsModel_push_105 (by decide) ?_
      obtain ⟨h51, e52, hs⟩ := ob hs
      refine pg_lastore C hw (t0 := 2) rfl e52 d_AdjoinedSetsModel_push_106 (fun H locs hw => ?_)
      refine lv_aload_n hx hb d_AdjoinedSetsModel_push_107 rfl (lv_at hl 0 rfl) ?_
      refine lv_dup hx hb d_AdjoinedSetsModel_push_108 rfl ?_
      obtain ⟨v53, e54, hs⟩ := ob hs
      refine pg_getI C hw fl_AdjoinedSetsModel_163 e54 d_AdjoinedSetsModel_push_109 ?_
      refine lv_iconst (v := 1) hx hb d_AdjoinedSetsModel_push_112 (by decide) ?_
      refine lv_iadd hx hb d_AdjoinedSetsModel_push_113 ?_
      obtain ⟨h55, e56, hs⟩ := ob hs
      refine pg_putI C hw pl_AdjoinedSetsModel_163 e56 d_AdjoinedSetsModel_push_114 (fun H locs hw => ?_)
      obtain rfl := Option.some.inj hs
      exact pg_vret C hw d_AdjoinedSetsModel_push_117
    · have hs := oi_t hc hs
      refine lv_aload_n hx hb d_AdjoinedSetsModel_push_29 rfl (lv_at hl 0 rfl) ?_
      refine lv_iconst (v := 1) hx hb d_AdjoinedSetsModel_push_30 (by decide) ?_
      obtain ⟨h57, e58, hs⟩ := ob hs
      refine pg_putZ C hw pl_AdjoinedSetsModel_166 (Or.inr rfl) e58 d_AdjoinedSetsModel_push_31 (fun H locs hw => ?_)
      obtain rfl := Option.some.inj hs
      exact pg_vret C hw d_AdjoinedSetsModel_push_34

end
section
variable {p : Program} {l : Launch} {e : Env} {s : State} {m : MethodId} {args : Array Value} {below : List Frame} {meth : Method} {c : Code} {g : GG}
theorem d_AdjoinedSetsModel_only_0 : decode b_AdjoinedSetsModel_only 0 = .ok (.lload_n 1, 1) := by decide +kernel
theorem d_AdjoinedSetsModel_only_1 : decode b_AdjoinedSetsModel_only 1 = .ok (.ldc2_w 176, 3) := by decide +kernel
theorem d_AdjoinedSetsModel_only_4 : decode b_AdjoinedSetsModel_only 4 = .ok (.lcmp, 1) := by decide +kernel
theorem d_AdjoinedSetsModel_only_5 : decode b_AdjoinedSetsModel_only 5 = .ok (.ifCond .le 10, 3) := by decide +kernel
theorem d_AdjoinedSetsModel_only_8 : decode b_AdjoinedSetsModel_only 8 = .ok (.aload_n 0, 1) := by decide +kernel
theorem d_AdjoinedSetsModel_only_9 : decode b_AdjoinedSetsModel_only 9 = .ok (.iconst 1, 1) := by decide +kernel
theorem d_AdjoinedSetsModel_only_10 : decode b_AdjoinedSetsModel_only 10 = .ok (.putfield 166, 3) := by decide +kernel
theorem d_AdjoinedSetsModel_only_13 : decode b_AdjoinedSetsModel_only 13 = .ok (.lconst 0, 1) := by decide +kernel
theorem d_AdjoinedSetsModel_only_14 : decode b_AdjoinedSetsModel_only 14 = .ok (.lreturn, 1) := by decide +kernel
theorem d_AdjoinedSetsModel_only_15 : decode b_AdjoinedSetsModel_only 15 = .ok (.lconst 1, 1) := by decide +kernel
theorem d_AdjoinedSetsModel_only_16 : decode b_AdjoinedSetsModel_only 16 = .ok (.lload_n 1, 1) := by decide +kernel
theorem d_AdjoinedSetsModel_only_17 : decode b_AdjoinedSetsModel_only 17 = .ok (.l2i, 1) := by decide +kernel
theorem d_AdjoinedSetsModel_only_18 : decode b_AdjoinedSetsModel_only 18 = .ok (.lshl, 1) := by decide +kernel
theorem d_AdjoinedSetsModel_only_19 : decode b_AdjoinedSetsModel_only 19 = .ok (.lreturn, 1) := by decide +kernel
def s_AdjoinedSetsModel_only (x0 : Nat) (x1 : Int64) (h : HP) : Option (Int64 × HP) :=
  if (lg_cmp x1 61) ≤ 0 then (
    some (((1 : Int64) <<< (x1.toInt32.toInt64 &&& 63)), h))
  else (
    (pI h x0 9 17 1).bind fun h1 =>
    some (0, h1))
set_option maxHeartbeats 4000000 in
set_option maxRecDepth 100000 in
theorem c_AdjoinedSetsModel_only (l : Launch) (g : GG) {x0 : Nat} {x1 : Int64} {h : HP} {z : Int64 × HP} (hs : s_AdjoinedSetsModel_only x0 x1 h = some z) : Ct l g y_AdjoinedSetsModel_only w_AdjoinedSetsModel_only (rmS 0 0) [.ref (aD g x0), .long x1] h (some (.long z.1)) z.2 := by
  refine Ct.of (own := R_AdjoinedSetsModel) (by decide) rfl rfl (Nat.le_of_ble_eq_true rfl) ?_
  intro p e s m args below meth c ls C hl hw
  have hx := C.1
  have hb := C.2.1
  have hl : lv_has ls 3 [(0, .ref (aD g x0)), (1, .long x1)] := hl
  unfold s_AdjoinedSetsModel_only at hs
  refine lv_lload_n hx hb d_AdjoinedSetsModel_only_0 rfl (lv_at hl 1 rfl) ?_
  refine lv_ldc2 (v := 61) hx hb C.own (C.w kc_AdjoinedSetsModel_176) d_AdjoinedSetsModel_only_1 ?_
  refine W.lcmp hx hb d_AdjoinedSetsModel_only_4 ?_
  refine lv_if_le hx hb d_AdjoinedSetsModel_only_5 (tgt := 15) (by decide) (fun hc => ?_) (fun hc => ?_)
  · have hs := oi_t hc hs
    refine lv_lconst (v := 1) hx hb d_AdjoinedSetsModel_only_15 (by decide) ?_
    refine lv_lload_n hx hb d_AdjoinedSetsModel_only_16 rfl (lv_at hl 1 rfl) ?_
    refine lv_l2i (v := x1.toInt32) hx hb d_AdjoinedSetsModel_only_17 rfl ?_
    refine lv_lshl (v := ((1 : Int64) <<< (x1.toInt32.toInt64 &&& 63))) hx hb d_AdjoinedSetsModel_only_18 rfl ?_
    obtain rfl := Option.some.inj hs
    exact pg_lret C hw d_AdjoinedSetsModel_only_19
  · have hs := oi_f hc hs
    refine lv_aload_n hx hb d_AdjoinedSetsModel_only_8 rfl (lv_at hl 0 rfl) ?_
    refine lv_iconst (v := 1) hx hb d_AdjoinedSetsModel_only_9 (by decide) ?_
    obtain ⟨h1, e2, hs⟩ := ob hs
    refine pg_putZ C hw pl_AdjoinedSetsModel_166 (Or.inr rfl) e2 d_AdjoinedSetsModel_only_10 (fun H locs hw => ?_)
    refine lv_lconst (v := 0) hx hb d_AdjoinedSetsModel_only_13 (by decide) ?_
    obtain rfl := Option.some.inj hs
    exact pg_lret C hw d_AdjoinedSetsModel_only_14

end
section
variable {p : Program} {l : Launch} {e : Env} {s : State} {m : MethodId} {args : Array Value} {below : List Frame} {meth : Method} {c : Code} {g : GG}
theorem d_AdjoinedSetsModel_endOf_0 : decode b_AdjoinedSetsModel_endOf 0 = .ok (.iconst 1, 1) := by decide +kernel
theorem d_AdjoinedSetsModel_endOf_1 : decode b_AdjoinedSetsModel_endOf 1 = .ok (.istore_n 2, 1) := by decide +kernel
theorem d_AdjoinedSetsModel_endOf_2 : decode b_AdjoinedSetsModel_endOf 2 = .ok (.iload_n 1, 1) := by decide +kernel
theorem d_AdjoinedSetsModel_endOf_3 : decode b_AdjoinedSetsModel_endOf 3 = .ok (.istore_n 3, 1) := by decide +kernel
theorem d_AdjoinedSetsModel_endOf_4 : decode b_AdjoinedSetsModel_endOf 4 = .ok (.iload_n 2, 1) := by decide +kernel
theorem d_AdjoinedSetsModel_endOf_5 : decode b_AdjoinedSetsModel_endOf 5 = .ok (.ifCond .le 31, 3) := by decide +kernel
theorem d_AdjoinedSetsModel_endOf_8 : decode b_AdjoinedSetsModel_endOf 8 = .ok (.iload_n 3, 1) := by decide +kernel
theorem d_AdjoinedSetsModel_endOf_9 : decode b_AdjoinedSetsModel_endOf 9 = .ok (.sipush 1490, 3) := by decide +kernel
theorem d_AdjoinedSetsModel_endOf_12 : decode b_AdjoinedSetsModel_endOf 12 = .ok (.if_icmp .ge 24, 3) := by decide +kernel
theorem d_AdjoinedSetsModel_endOf_15 : decode b_AdjoinedSetsModel_endOf 15 = .ok (.iload_n 2, 1) := by decide +kernel
theorem d_AdjoinedSetsModel_endOf_16 : decode b_AdjoinedSetsModel_endOf 16 = .ok (.aload_n 0, 1) := by decide +kernel
theorem d_AdjoinedSetsModel_endOf_17 : decode b_AdjoinedSetsModel_endOf 17 = .ok (.aload_n 0, 1) := by decide +kernel
theorem d_AdjoinedSetsModel_endOf_18 : decode b_AdjoinedSetsModel_endOf 18 = .ok (.getfield 7, 3) := by decide +kernel
theorem d_AdjoinedSetsModel_endOf_21 : decode b_AdjoinedSetsModel_endOf 21 = .ok (.iload_n 3, 1) := by decide +kernel
theorem d_AdjoinedSetsModel_endOf_22 : decode b_AdjoinedSetsModel_endOf 22 = .ok (.iaload, 1) := by decide +kernel
theorem d_AdjoinedSetsModel_endOf_23 : decode b_AdjoinedSetsModel_endOf 23 = .ok (.invokevirtual 118, 3) := by decide +kernel
theorem d_AdjoinedSetsModel_endOf_26 : decode b_AdjoinedSetsModel_endOf 26 = .ok (.iconst 1, 1) := by decide +kernel
theorem d_AdjoinedSetsModel_endOf_27 : decode b_AdjoinedSetsModel_endOf 27 = .ok (.isub, 1) := by decide +kernel
theorem d_AdjoinedSetsModel_endOf_28 : decode b_AdjoinedSetsModel_endOf 28 = .ok (.iadd, 1) := by decide +kernel
theorem d_AdjoinedSetsModel_endOf_29 : decode b_AdjoinedSetsModel_endOf 29 = .ok (.istore_n 2, 1) := by decide +kernel
theorem d_AdjoinedSetsModel_endOf_30 : decode b_AdjoinedSetsModel_endOf 30 = .ok (.iinc 3 1, 3) := by decide +kernel
theorem d_AdjoinedSetsModel_endOf_33 : decode b_AdjoinedSetsModel_endOf 33 = .ok (.goto (-29), 3) := by decide +kernel
theorem d_AdjoinedSetsModel_endOf_36 : decode b_AdjoinedSetsModel_endOf 36 = .ok (.iload_n 3, 1) := by decide +kernel
theorem d_AdjoinedSetsModel_endOf_37 : decode b_AdjoinedSetsModel_endOf 37 = .ok (.ireturn, 1) := by decide +kernel
def s_AdjoinedSetsModel_endOf_4 : Nat → Nat → Int32 → Int32 → HP → Option (Int32)
  | 0 => fun _ _ _ _ => none
  | k + 1 => fun x0 x2 x3 h =>
  if x2 ≤ 0 then (
    some x3)
  else (
    if 1490 ≤ x3 then (
      some x3)
    else (
      (gR h x0 9 0).bind fun v1 =>
      (aI h v1 0 x3).bind fun v3 =>
      (kd x0 9).bind fun _ =>
      (s_AdjoinedSetsModel_partsOf x0 v3 h).bind fun q6 =>
      (s_AdjoinedSetsModel_endOf_4 k) x0 (x2 + (q6 - 1)) (x3 + 1) h))
set_option maxHeartbeats 4000000 in
set_option maxRecDepth 100000 in
theorem k_AdjoinedSetsModel_endOf_4 {h : HP} {z : Int32} (C : CX g R_AdjoinedSetsModel b_AdjoinedSetsModel_endOf 4 (some .int) p s m args meth c) : ∀ (k : Nat) {x0 : Nat} {x2 : Int32} {x3 : Int32} {H : Heap} {locs : List Loc} {ls : Array Slot}, WD g h s.heap H locs → lv_has ls 4 [(0, .ref (aD g x0)), (2, .int x2), (3, .int x3)] → s_AdjoinedSetsModel_endOf_4 k x0 x2 x3 h = some z → W p l e (rmS 2 41) s m args below meth c H locs 0 0 (MQ below (Qq g (some (.int z)) h) args s 0 0 (inA g)) (F0 m 4 ls []) := by
  have hx := C.1
  have hb := C.2.1
  intro k
  induction k with
  | zero =>
    intro x0 x2 x3 H locs ls hw hl hs
    exact (no_s hs).elim
  | succ k ih =>
    intro x0 x2 x3 H locs ls hw hl hs
    rw [s_AdjoinedSetsModel_endOf_4] at hs
    refine lv_iload_n hx hb d_AdjoinedSetsModel_endOf_4 rfl (lv_at hl 1 rfl) ?_
    refine lv_if_le hx hb d_AdjoinedSetsModel_endOf_5 (tgt := 36) (by decide) (fun hc => ?_) (fun hc => ?_)
    · have hs := oi_t hc hs
      refine lv_iload_n hx hb d_AdjoinedSetsModel_endOf_36 rfl (lv_at hl 2 rfl) ?_
      obtain rfl := Option.some.inj hs
      exact pg_iret C hw d_AdjoinedSetsModel_endOf_37
    · have hs := oi_f hc hs
      refine lv_iload_n hx hb d_AdjoinedSetsModel_endOf_8 rfl (lv_at hl 2 rfl) ?_
      refine lv_sipush (v := 1490) hx hb d_AdjoinedSetsModel_endOf_9 (by decide) ?_
      refine lv_icmp_ge hx hb d_AdjoinedSetsModel_endOf_12 (tgt := 36) (by decide) (fun hc => ?_) (fun hc => ?_)
      · have hs := oi_t hc hs
        refine lv_iload_n hx hb d_AdjoinedSetsModel_endOf_36 rfl (lv_at hl 2 rfl) ?_
        obtain rfl := Option.some.inj hs
        exact pg_iret C hw d_AdjoinedSetsModel_endOf_37
      · have hs := oi_f hc hs
        refine lv_iload_n hx hb d_AdjoinedSetsModel_endOf_15 rfl (lv_at hl 1 rfl) ?_
        refine lv_aload_n hx hb d_AdjoinedSetsModel_endOf_16 rfl (lv_at hl 0 rfl) ?_
        refine lv_aload_n hx hb d_AdjoinedSetsModel_endOf_17 rfl (lv_at hl 0 rfl) ?_
        obtain ⟨v1, e2, hs⟩ := ob hs
        refine pg_getR C hw fl_AdjoinedSetsModel_7 e2 d_AdjoinedSetsModel_endOf_18 ?_
        refine lv_iload_n hx hb d_AdjoinedSetsModel_endOf_21 rfl (lv_at hl 2 rfl) ?_
        obtain ⟨v3, e4, hs⟩ := ob hs
        refine pg_iaload C hw (t0 := 0) rfl e4 d_AdjoinedSetsModel_endOf_22 ?_
        obtain ⟨_, e5, hs⟩ := ob hs
        obtain ⟨q6, e7, hs⟩ := ob hs
        refine pg_callV C hw hl.1 ml_AdjoinedSetsModel_118 e5 (As := [.int v3]) (rest := [.int x2]) (c_AdjoinedSetsModel_partsOf l g e7) rfl (rm_ok (Nat.le_of_ble_eq_true rfl) (Nat.le_of_ble_eq_true rfl)) (Nat.le_of_ble_eq_true rfl) rfl (st1 := [.int q6, .int x2]) rfl d_AdjoinedSetsModel_endOf_23 (fun H locs hw => ?_)
        refine lv_iconst (v := 1) hx hb d_AdjoinedSetsModel_endOf_26 (by decide) ?_
        refine lv_isub hx hb d_AdjoinedSetsModel_endOf_27 ?_
        refine lv_iadd hx hb d_AdjoinedSetsModel_endOf_28 ?_
        refine lv_istore_n hx hb d_AdjoinedSetsModel_endOf_29 rfl hl (by decide) (lv' := [(2, .int (x2 + (q6 - 1))), (0, .ref (aD g x0)), (3, .int x3)]) rfl (fun ls hl => ?_)
        refine lv_iinc hx hb d_AdjoinedSetsModel_endOf_30 hl (k := 2) rfl (v := (x3 + 1)) (iinc_e _ (by decide)) (by decide) (lv' := [(3, .int (x3 + 1)), (2, .int (x2 + (q6 - 1))), (0, .ref (aD g x0))]) rfl (fun ls hl => ?_)
        refine lv_goto hx hb d_AdjoinedSetsModel_endOf_33 (tgt := 4) (by decide) ?_
        exact ih hw (lv_sub hl [2, 1, 0] rfl) hs

def s_AdjoinedSetsModel_endOf (x0 : Nat) (x1 : Int32) (h : HP) : Option (Int32) :=
  s_AdjoinedSetsModel_endOf_4 20000 x0 1 x1 h
set_option maxHeartbeats 4000000 in
set_option maxRecDepth 100000 in
theorem c_AdjoinedSetsModel_endOf (l : Launch) (g : GG) {h : HP} {x0 : Nat} {x1 : Int32} {z : Int32} (hs : s_AdjoinedSetsModel_endOf x0 x1 h = some z) : Ct l g y_AdjoinedSetsModel_endOf w_AdjoinedSetsModel_endOf (rmS 2 41) [.ref (aD g x0), .int x1] h (some (.int z)) h := by
  refine Ct.of (own := R_AdjoinedSetsModel) (by decide) rfl rfl (Nat.le_of_ble_eq_true rfl) ?_
  intro p e s m args below meth c ls C hl hw
  have hx := C.1
  have hb := C.2.1
  have hl : lv_has ls 4 [(0, .ref (aD g x0)), (1, .int x1)] := hl
  unfold s_AdjoinedSetsModel_endOf at hs
  refine lv_iconst (v := 1) hx hb d_AdjoinedSetsModel_endOf_0 (by decide) ?_
  refine lv_istore_n hx hb d_AdjoinedSetsModel_endOf_1 rfl hl (by decide) (lv' := [(2, .int 1), (0, .ref (aD g x0)), (1, .int x1)]) rfl (fun ls hl => ?_)
  refine lv_iload_n hx hb d_AdjoinedSetsModel_endOf_2 rfl (lv_at hl 2 rfl) ?_
  refine lv_istore_n hx hb d_AdjoinedSetsModel_endOf_3 rfl hl (by decide) (lv' := [(3, .int x1), (2, .int 1), (0, .ref (aD g x0)), (1, .int x1)]) rfl (fun ls hl => ?_)
  exact k_AdjoinedSetsModel_endOf_4 C 20000 hw (lv_sub hl [2, 1, 0] rfl) hs

end
