section
variable {p : Program} {l : Launch} {e : Env} {s : State} {m : MethodId} {args : Array Value} {below : List Frame} {meth : Method} {c : Code} {g : GG}
theorem d_Rules_collectParts_0 : decode b_Rules_collectParts 0 = .ok (.iload_n 2, 1) := by decide +kernel
theorem d_Rules_collectParts_1 : decode b_Rules_collectParts 1 = .ok (.bipush 12, 2) := by decide +kernel
theorem d_Rules_collectParts_3 : decode b_Rules_collectParts 3 = .ok (.if_icmp .le 5, 3) := by decide +kernel
theorem d_Rules_collectParts_6 : decode b_Rules_collectParts 6 = .ok (.iconst 0, 1) := by decide +kernel
theorem d_Rules_collectParts_7 : decode b_Rules_collectParts 7 = .ok (.ireturn, 1) := by decide +kernel
theorem d_Rules_collectParts_8 : decode b_Rules_collectParts 8 = .ok (.aload_n 0, 1) := by decide +kernel
theorem d_Rules_collectParts_9 : decode b_Rules_collectParts 9 = .ok (.getfield 29, 3) := by decide +kernel
theorem d_Rules_collectParts_12 : decode b_Rules_collectParts 12 = .ok (.iload_n 1, 1) := by decide +kernel
theorem d_Rules_collectParts_13 : decode b_Rules_collectParts 13 = .ok (.invokevirtual 149, 3) := by decide +kernel
theorem d_Rules_collectParts_16 : decode b_Rules_collectParts 16 = .ok (.invokestatic 206, 3) := by decide +kernel
theorem d_Rules_collectParts_19 : decode b_Rules_collectParts 19 = .ok (.ifCond .ne 9, 3) := by decide +kernel
theorem d_Rules_collectParts_22 : decode b_Rules_collectParts 22 = .ok (.aload_n 0, 1) := by decide +kernel
theorem d_Rules_collectParts_23 : decode b_Rules_collectParts 23 = .ok (.iload_n 1, 1) := by decide +kernel
theorem d_Rules_collectParts_24 : decode b_Rules_collectParts 24 = .ok (.invokevirtual 210, 3) := by decide +kernel
theorem d_Rules_collectParts_27 : decode b_Rules_collectParts 27 = .ok (.ireturn, 1) := by decide +kernel
theorem d_Rules_collectParts_28 : decode b_Rules_collectParts 28 = .ok (.iload_n 1, 1) := by decide +kernel
theorem d_Rules_collectParts_29 : decode b_Rules_collectParts 29 = .ok (.iconst 1, 1) := by decide +kernel
theorem d_Rules_collectParts_30 : decode b_Rules_collectParts 30 = .ok (.iadd, 1) := by decide +kernel
theorem d_Rules_collectParts_31 : decode b_Rules_collectParts 31 = .ok (.istore_n 3, 1) := by decide +kernel
theorem d_Rules_collectParts_32 : decode b_Rules_collectParts 32 = .ok (.aload_n 0, 1) := by decide +kernel
theorem d_Rules_collectParts_33 : decode b_Rules_collectParts 33 = .ok (.getfield 29, 3) := by decide +kernel
theorem d_Rules_collectParts_36 : decode b_Rules_collectParts 36 = .ok (.iload_n 1, 1) := by decide +kernel
theorem d_Rules_collectParts_37 : decode b_Rules_collectParts 37 = .ok (.invokevirtual 192, 3) := by decide +kernel
theorem d_Rules_collectParts_40 : decode b_Rules_collectParts 40 = .ok (.istore 4, 2) := by decide +kernel
theorem d_Rules_collectParts_42 : decode b_Rules_collectParts 42 = .ok (.iconst 0, 1) := by decide +kernel
theorem d_Rules_collectParts_43 : decode b_Rules_collectParts 43 = .ok (.istore 5, 2) := by decide +kernel
theorem d_Rules_collectParts_45 : decode b_Rules_collectParts 45 = .ok (.iload 5, 2) := by decide +kernel
theorem d_Rules_collectParts_47 : decode b_Rules_collectParts 47 = .ok (.iconst 2, 1) := by decide +kernel
theorem d_Rules_collectParts_48 : decode b_Rules_collectParts 48 = .ok (.if_icmp .ge 37, 3) := by decide +kernel
theorem d_Rules_collectParts_51 : decode b_Rules_collectParts 51 = .ok (.iload_n 3, 1) := by decide +kernel
theorem d_Rules_collectParts_52 : decode b_Rules_collectParts 52 = .ok (.iload 4, 2) := by decide +kernel
theorem d_Rules_collectParts_54 : decode b_Rules_collectParts 54 = .ok (.if_icmp .ge 31, 3) := by decide +kernel
theorem d_Rules_collectParts_57 : decode b_Rules_collectParts 57 = .ok (.aload_n 0, 1) := by decide +kernel
theorem d_Rules_collectParts_58 : decode b_Rules_collectParts 58 = .ok (.iload_n 3, 1) := by decide +kernel
theorem d_Rules_collectParts_59 : decode b_Rules_collectParts 59 = .ok (.iload_n 2, 1) := by decide +kernel
theorem d_Rules_collectParts_60 : decode b_Rules_collectParts 60 = .ok (.iconst 1, 1) := by decide +kernel
theorem d_Rules_collectParts_61 : decode b_Rules_collectParts 61 = .ok (.iadd, 1) := by decide +kernel
theorem d_Rules_collectParts_62 : decode b_Rules_collectParts 62 = .ok (.invokevirtual 198, 3) := by decide +kernel
theorem d_Rules_collectParts_65 : decode b_Rules_collectParts 65 = .ok (.ifCond .ne 5, 3) := by decide +kernel
theorem d_Rules_collectParts_68 : decode b_Rules_collectParts 68 = .ok (.iconst 0, 1) := by decide +kernel
theorem d_Rules_collectParts_69 : decode b_Rules_collectParts 69 = .ok (.ireturn, 1) := by decide +kernel
theorem d_Rules_collectParts_70 : decode b_Rules_collectParts 70 = .ok (.aload_n 0, 1) := by decide +kernel
theorem d_Rules_collectParts_71 : decode b_Rules_collectParts 71 = .ok (.getfield 29, 3) := by decide +kernel
theorem d_Rules_collectParts_74 : decode b_Rules_collectParts 74 = .ok (.iload_n 3, 1) := by decide +kernel
theorem d_Rules_collectParts_75 : decode b_Rules_collectParts 75 = .ok (.invokevirtual 192, 3) := by decide +kernel
theorem d_Rules_collectParts_78 : decode b_Rules_collectParts 78 = .ok (.istore_n 3, 1) := by decide +kernel
theorem d_Rules_collectParts_79 : decode b_Rules_collectParts 79 = .ok (.iinc 5 1, 3) := by decide +kernel
theorem d_Rules_collectParts_82 : decode b_Rules_collectParts 82 = .ok (.goto (-37), 3) := by decide +kernel
theorem d_Rules_collectParts_85 : decode b_Rules_collectParts 85 = .ok (.iconst 1, 1) := by decide +kernel
theorem d_Rules_collectParts_86 : decode b_Rules_collectParts 86 = .ok (.ireturn, 1) := by decide +kernel
abbrev GT_Rules_collectParts : Type := (Nat → Int32 → Int32 → HP → Option (Int32 × HP))
abbrev HG_Rules_collectParts (l : Launch) (g : GG) (gf : GT_Rules_collectParts) (n : Nat) : Prop :=
  (∀ {h : HP} {x0 : Nat} {x1 : Int32} {x2 : Int32} {z : Int32 × HP}, gf x0 x1 x2 h = some z → Ct l g y_Rules_collectParts w_Rules_collectParts (rmS (n + 3) (n * 25 + 69)) [.ref (aD g x0), .int x1, .int x2] h (some (.int z.1)) z.2)
def s_Rules_collectParts_45 (gf : GT_Rules_collectParts) : Nat → Nat → Int32 → Int32 → Int32 → Int32 → HP → Option (Int32 × HP)
  | 0 => fun _ _ _ _ _ _ => none
  | k + 1 => fun x0 x2 x3 x4 x5 h =>
  if 2 ≤ x5 then (
    some (1, h))
  else (
    if x4 ≤ x3 then (
      some (1, h))
    else (
      (kd x0 7).bind fun _ =>
      (gf x0 x3 (x2 + 1) h).bind fun q4 =>
      if q4.1 = 0 then (
        some (0, q4.2))
      else (
        (gR q4.2 x0 7 0).bind fun v6 =>
        (kd v6 0).bind fun _ =>
        (s_Text_endOf v6 x3 q4.2).bind fun q9 =>
        (s_Rules_collectParts_45 gf k) x0 x2 q9 x4 (x5 + 1) q4.2)))
set_option maxHeartbeats 4000000 in
set_option maxRecDepth 100000 in
theorem k_Rules_collectParts_45 {z : Int32 × HP} (C : CX g R_Rules b_Rules_collectParts 6 (some .boolean) p s m args meth c) (gf : GT_Rules_collectParts) (n : Nat) (hG : HG_Rules_collectParts l g gf n) : ∀ (k : Nat) {x0 : Nat} {x2 : Int32} {x3 : Int32} {x4 : Int32} {x5 : Int32} {h : HP} {H : Heap} {locs : List Loc} {ls : Array Slot}, WD g h s.heap H locs → lv_has ls 6 [(0, .ref (aD g x0)), (2, .int x2), (3, .int x3), (4, .int x4), (5, .int x5)] → s_Rules_collectParts_45 gf k x0 x2 x3 x4 x5 h = some z → W p l e (rmS (n + 1 + 3) ((n + 1) * 25 + 69)) s m args below meth c H locs 0 0 (MQ below (Qq g (some (.int z.1)) z.2) args s 0 0 (inA g)) (F0 m 45 ls []) := by
  have hx := C.1
  have hb := C.2.1
  intro k
  induction k with
  | zero =>
    intro x0 x2 x3 x4 x5 h H locs ls hw hl hs
    exact (no_s hs).elim
  | succ k ih =>
    intro x0 x2 x3 x4 x5 h H locs ls hw hl hs
    rw [s_Rules_collectParts_45] at hs
    refine lv_iload hx hb d_Rules_collectParts_45 (lv_at hl 4 rfl) ?_
    refine lv_iconst (v := 2) hx hb d_Rules_collectParts_47 (by decide) ?_
    refine lv_icmp_ge hx hb d_Rules_collectParts_48 (tgt := 85) (by decide) (fun hc => ?_) (fun hc => ?_)
    · have hs := oi_t hc hs
      refine lv_iconst (v := 1) hx hb d_Rules_collectParts_85 (by decide) ?_
      obtain rfl := Option.some.inj hs
      exact pg_zret (v := 1) C hw rfl d_Rules_collectParts_86
    · have hs := oi_f hc hs
      refine lv_iload_n hx hb d_Rules_collectParts_51 rfl (lv_at hl 2 rfl) ?_
      refine lv_iload hx hb d_Rules_collectParts_52 (lv_at hl 3 rfl) ?_
      refine lv_icmp_ge hx hb d_Rules_collectParts_54 (tgt := 85) (by decide) (fun hc => ?_) (fun hc => ?_)
      · have hs := oi_t hc hs
        refine lv_iconst (v := 1) hx hb d_Rules_collectParts_85 (by decide) ?_
        obtain rfl := Option.some.inj hs
        exact pg_zret (v := 1) C hw rfl d_Rules_collectParts_86
      · have hs := oi_f hc hs
        refine lv_aload_n hx hb d_Rules_collectParts_57 rfl (lv_at hl 0 rfl) ?_
        refine lv_iload_n hx hb d_Rules_collectParts_58 rfl (lv_at hl 2 rfl) ?_
        refine lv_iload_n hx hb d_Rules_collectParts_59 rfl (lv_at hl 1 rfl) ?_
        refine lv_iconst (v := 1) hx hb d_Rules_collectParts_60 (by decide) ?_
        refine lv_iadd hx hb d_Rules_collectParts_61 ?_
        obtain ⟨_, e3, hs⟩ := ob hs
        obtain ⟨q4, e5, hs⟩ := ob hs
        refine pg_callV C hw hl.1 ml_Rules_198 e3 (As := [.int x3, .int (x2 + 1)]) (rest := []) (hG e5) rfl (rm_ok (by omega) (by omega)) (Nat.le_of_ble_eq_true rfl) rfl (st1 := [.int q4.1]) rfl d_Rules_collectParts_62 (fun H locs hw => ?_)
        refine lv_if_ne hx hb d_Rules_collectParts_65 (tgt := 70) (by decide) (fun hc => ?_) (fun hc => ?_)
        · have hs := oi_f hc hs
          refine lv_aload_n hx hb d_Rules_collectParts_70 rfl (lv_at hl 0 rfl) ?_
          obtain ⟨v6, e7, hs⟩ := ob hs
          refine pg_getR C hw fl_Rules_29 e7 d_Rules_collectParts_71 ?_
          refine lv_iload_n hx hb d_Rules_collectParts_74 rfl (lv_at hl 2 rfl) ?_
          obtain ⟨_, e8, hs⟩ := ob hs
          obtain ⟨q9, e10, hs⟩ := ob hs
          refine pg_callV C hw hl.1 ml_Rules_192 e8 (As := [.int x3]) (rest := []) (c_Text_endOf l g e10) rfl (rm_ok (by omega) (by omega)) (Nat.le_of_ble_eq_true rfl) rfl (st1 := [.int q9]) rfl d_Rules_collectParts_75 (fun H locs hw => ?_)
          refine lv_istore_n hx hb d_Rules_collectParts_78 rfl hl (by decide) (lv' := [(3, .int q9), (0, .ref (aD g x0)), (2, .int x2), (4, .int x4), (5, .int x5)]) rfl (fun ls hl => ?_)
          refine lv_iinc hx hb d_Rules_collectParts_79 hl (k := 4) rfl (v := (x5 + 1)) (iinc_e _ (by decide)) (by decide) (lv' := [(5, .int (x5 + 1)), (3, .int q9), (0, .ref (aD g x0)), (2, .int x2), (4, .int x4)]) rfl (fun ls hl => ?_)
          refine lv_goto hx hb d_Rules_collectParts_82 (tgt := 45) (by decide) ?_
          exact ih hw (lv_sub hl [2, 3, 1, 4, 0] rfl) hs
        · have hs := oi_t hc hs
          refine lv_iconst (v := 0) hx hb d_Rules_collectParts_68 (by decide) ?_
          obtain rfl := Option.some.inj hs
          exact pg_zret (v := 0) C hw rfl d_Rules_collectParts_69

def s_Rules_collectParts (gf : GT_Rules_collectParts) (x0 : Nat) (x1 : Int32) (x2 : Int32) (h : HP) : Option (Int32 × HP) :=
  if x2 ≤ 12 then (
    (gR h x0 7 0).bind fun v1 =>
    (kd v1 0).bind fun _ =>
    (s_Text_at v1 x1 h).bind fun q4 =>
    (s_AdjoinedSets_isConnective q4).bind fun q6 =>
    if q6 = 0 then (
      (kd x0 7).bind fun _ =>
      (s_Rules_countPart x0 x1 h).bind fun q14 =>
      (zr q14.1).bind fun _ => some (q14.1, q14.2))
    else (
      (gR h x0 7 0).bind fun v8 =>
      (kd v8 0).bind fun _ =>
      (s_Text_endOf v8 x1 h).bind fun q11 =>
      s_Rules_collectParts_45 gf 20000 x0 x2 (x1 + 1) q11 0 h))
  else (
    some (0, h))
set_option maxHeartbeats 4000000 in
set_option maxRecDepth 100000 in
theorem c_Rules_collectParts (l : Launch) (g : GG) (gf : GT_Rules_collectParts) (n : Nat) (hG : HG_Rules_collectParts l g gf n) {x0 : Nat} {x1 : Int32} {x2 : Int32} {h : HP} {z : Int32 × HP} (hs : s_Rules_collectParts gf x0 x1 x2 h = some z) : Ct l g y_Rules_collectParts w_Rules_collectParts (rmS (n + 1 + 3) ((n + 1) * 25 + 69)) [.ref (aD g x0), .int x1, .int x2] h (some (.int z.1)) z.2 := by
  refine Ct.of (own := R_Rules) (by decide) rfl rfl (Nat.le_of_ble_eq_true rfl) ?_
  intro p e s m args below meth c ls C hl hw
  have hx := C.1
  have hb := C.2.1
  have hl : lv_has ls 6 [(0, .ref (aD g x0)), (1, .int x1), (2, .int x2)] := hl
  unfold s_Rules_collectParts at hs
  refine lv_iload_n hx hb d_Rules_collectParts_0 rfl (lv_at hl 2 rfl) ?_
  refine lv_bipush (v := 12) hx hb d_Rules_collectParts_1 (by decide) ?_
  refine lv_icmp_le hx hb d_Rules_collectParts_3 (tgt := 8) (by decide) (fun hc => ?_) (fun hc => ?_)
  · have hs := oi_t hc hs
    refine lv_aload_n hx hb d_Rules_collectParts_8 rfl (lv_at hl 0 rfl) ?_
    obtain ⟨v1, e2, hs⟩ := ob hs
    refine pg_getR C hw fl_Rules_29 e2 d_Rules_collectParts_9 ?_
    refine lv_iload_n hx hb d_Rules_collectParts_12 rfl (lv_at hl 1 rfl) ?_
    obtain ⟨_, e3, hs⟩ := ob hs
    obtain ⟨q4, e5, hs⟩ := ob hs
    refine pg_callV C hw hl.1 ml_Rules_149 e3 (As := [.int x1]) (rest := []) (c_Text_at l g e5) rfl (rm_ok (by omega) (by omega)) (Nat.le_of_ble_eq_true rfl) rfl (st1 := [.int q4]) rfl d_Rules_collectParts_13 (fun H locs hw => ?_)
    obtain ⟨q6, e7, hs⟩ := ob hs
    refine pg_callSN C hw hl.1 ml_Rules_206 (As := [.int q4]) (rest := []) (c_AdjoinedSets_isConnective l g e7) rfl (rm_ok (by omega) (by omega)) (Nat.le_of_ble_eq_true rfl) rfl (st1 := [.int q6]) rfl d_Rules_collectParts_16 (fun H locs hw => ?_)
    refine lv_if_ne hx hb d_Rules_collectParts_19 (tgt := 28) (by decide) (fun hc => ?_) (fun hc => ?_)
    · have hs := oi_f hc hs
      refine lv_iload_n hx hb d_Rules_collectParts_28 rfl (lv_at hl 1 rfl) ?_
      refine lv_iconst (v := 1) hx hb d_Rules_collectParts_29 (by decide) ?_
      refine lv_iadd hx hb d_Rules_collectParts_30 ?_
      refine lv_istore_n hx hb d_Rules_collectParts_31 rfl hl (by decide) (lv' := [(3, .int (x1 + 1)), (0, .ref (aD g x0)), (1, .int x1), (2, .int x2)]) rfl (fun ls hl => ?_)
      refine lv_aload_n hx hb d_Rules_collectParts_32 rfl (lv_at hl 1 rfl) ?_
      obtain ⟨v8, e9, hs⟩ := ob hs
      refine pg_getR C hw fl_Rules_29 e9 d_Rules_collectParts_33 ?_
      refine lv_iload_n hx hb d_Rules_collectParts_36 rfl (lv_at hl 2 rfl) ?_
      obtain ⟨_, e10, hs⟩ := ob hs
      obtain ⟨q11, e12, hs⟩ := ob hs
      refine pg_callV C hw hl.1 ml_Rules_192 e10 (As := [.int x1]) (rest := []) (c_Text_endOf l g e12) rfl (rm_ok (by omega) (by omega)) (Nat.le_of_ble_eq_true rfl) rfl (st1 := [.int q11]) rfl d_Rules_collectParts_37 (fun H locs hw => ?_)
      refine lv_istore hx hb d_Rules_collectParts_40 hl (by decide) (lv' := [(4, .int q11), (3, .int (x1 + 1)), (0, .ref (aD g x0)), (1, .int x1), (2, .int x2)]) rfl (fun ls hl => ?_)
      refine lv_iconst (v := 0) hx hb d_Rules_collectParts_42 (by decide) ?_
      refine lv_istore hx hb d_Rules_collectParts_43 hl (by decide) (lv' := [(5, .int 0), (4, .int q11), (3, .int (x1 + 1)), (0, .ref (aD g x0)), (1, .int x1), (2, .int x2)]) rfl (fun ls hl => ?_)
      exact k_Rules_collectParts_45 C gf n hG 20000 hw (lv_sub hl [3, 5, 2, 1, 0] rfl) hs
    · have hs := oi_t hc hs
      refine lv_aload_n hx hb d_Rules_collectParts_22 rfl (lv_at hl 0 rfl) ?_
      refine lv_iload_n hx hb d_Rules_collectParts_23 rfl (lv_at hl 1 rfl) ?_
      obtain ⟨_, e13, hs⟩ := ob hs
      obtain ⟨q14, e15, hs⟩ := ob hs
      refine pg_callV C hw hl.1 ml_Rules_210 e13 (As := [.int x1]) (rest := []) (c_Rules_countPart l g e15) rfl (rm_ok (by omega) (by omega)) (Nat.le_of_ble_eq_true rfl) rfl (st1 := [.int q14.1]) rfl d_Rules_collectParts_24 (fun H locs hw => ?_)
      obtain ⟨_, e16, hs⟩ := ob hs
      obtain rfl := Option.some.inj hs
      exact pg_zret (v := q14.1) C hw (zr_n e16) d_Rules_collectParts_27
  · have hs := oi_f hc hs
    refine lv_iconst (v := 0) hx hb d_Rules_collectParts_6 (by decide) ?_
    obtain rfl := Option.some.inj hs
    exact pg_zret (v := 0) C hw rfl d_Rules_collectParts_7

def s_grp_Rules_collectParts : Nat → GT_Rules_collectParts
  | 0 => fun _ _ _ _ => none
  | n + 1 => s_Rules_collectParts (s_grp_Rules_collectParts n)
theorem cg_Rules_collectParts (l : Launch) (g : GG) : ∀ n : Nat, HG_Rules_collectParts l g (s_grp_Rules_collectParts n) n := by
  intro n
  induction n with
  | zero => exact fun hs => (no_s hs).elim
  | succ n ih => exact fun hs => c_Rules_collectParts l g (s_grp_Rules_collectParts n) n ih hs

end
section
variable {p : Program} {l : Launch} {e : Env} {s : State} {m : MethodId} {args : Array Value} {below : List Frame} {meth : Method} {c : Code} {g : GG}
theorem d_Rules_holdsWith_0 : decode b_Rules_holdsWith 0 = .ok (.iload_n 3, 1) := by decide +kernel
theorem d_Rules_holdsWith_1 : decode b_Rules_holdsWith 1 = .ok (.bipush 12, 2) := by decide +kernel
theorem d_Rules_holdsWith_3 : decode b_Rules_holdsWith 3 = .ok (.if_icmp .gt 13, 3) := by decide +kernel
theorem d_Rules_holdsWith_6 : decode b_Rules_holdsWith 6 = .ok (.iload_n 2, 1) := by decide +kernel
theorem d_Rules_holdsWith_7 : decode b_Rules_holdsWith 7 = .ok (.ifCond .lt 9, 3) := by decide +kernel
theorem d_Rules_holdsWith_10 : decode b_Rules_holdsWith 10 = .ok (.iload_n 2, 1) := by decide +kernel
theorem d_Rules_holdsWith_11 : decode b_Rules_holdsWith 11 = .ok (.bipush 60, 2) := by decide +kernel
theorem d_Rules_holdsWith_13 : decode b_Rules_holdsWith 13 = .ok (.if_icmp .lt 5, 3) := by decide +kernel
theorem d_Rules_holdsWith_16 : decode b_Rules_holdsWith 16 = .ok (.iconst 0, 1) := by decide +kernel
theorem d_Rules_holdsWith_17 : decode b_Rules_holdsWith 17 = .ok (.ireturn, 1) := by decide +kernel
theorem d_Rules_holdsWith_18 : decode b_Rules_holdsWith 18 = .ok (.aload_n 0, 1) := by decide +kernel
theorem d_Rules_holdsWith_19 : decode b_Rules_holdsWith 19 = .ok (.getfield 29, 3) := by decide +kernel
theorem d_Rules_holdsWith_22 : decode b_Rules_holdsWith 22 = .ok (.iload_n 2, 1) := by decide +kernel
theorem d_Rules_holdsWith_23 : decode b_Rules_holdsWith 23 = .ok (.invokevirtual 149, 3) := by decide +kernel
theorem d_Rules_holdsWith_26 : decode b_Rules_holdsWith 26 = .ok (.istore 4, 2) := by decide +kernel
theorem d_Rules_holdsWith_28 : decode b_Rules_holdsWith 28 = .ok (.iload 4, 2) := by decide +kernel
theorem d_Rules_holdsWith_30 : decode b_Rules_holdsWith 30 = .ok (.invokestatic 206, 3) := by decide +kernel
theorem d_Rules_holdsWith_33 : decode b_Rules_holdsWith 33 = .ok (.ifCond .ne 22, 3) := by decide +kernel
theorem d_Rules_holdsWith_36 : decode b_Rules_holdsWith 36 = .ok (.iload_n 1, 1) := by decide +kernel
theorem d_Rules_holdsWith_37 : decode b_Rules_holdsWith 37 = .ok (.aload_n 0, 1) := by decide +kernel
theorem d_Rules_holdsWith_38 : decode b_Rules_holdsWith 38 = .ok (.getfield 22, 3) := by decide +kernel
theorem d_Rules_holdsWith_41 : decode b_Rules_holdsWith 41 = .ok (.iload_n 2, 1) := by decide +kernel
theorem d_Rules_holdsWith_42 : decode b_Rules_holdsWith 42 = .ok (.iaload, 1) := by decide +kernel
theorem d_Rules_holdsWith_43 : decode b_Rules_holdsWith 43 = .ok (.ishr, 1) := by decide +kernel
theorem d_Rules_holdsWith_44 : decode b_Rules_holdsWith 44 = .ok (.iconst 1, 1) := by decide +kernel
theorem d_Rules_holdsWith_45 : decode b_Rules_holdsWith 45 = .ok (.iand, 1) := by decide +kernel
theorem d_Rules_holdsWith_46 : decode b_Rules_holdsWith 46 = .ok (.ifCond .eq 7, 3) := by decide +kernel
theorem d_Rules_holdsWith_49 : decode b_Rules_holdsWith 49 = .ok (.iconst 1, 1) := by decide +kernel
theorem d_Rules_holdsWith_50 : decode b_Rules_holdsWith 50 = .ok (.goto 4, 3) := by decide +kernel
theorem d_Rules_holdsWith_53 : decode b_Rules_holdsWith 53 = .ok (.iconst 0, 1) := by decide +kernel
theorem d_Rules_holdsWith_54 : decode b_Rules_holdsWith 54 = .ok (.ireturn, 1) := by decide +kernel
theorem d_Rules_holdsWith_55 : decode b_Rules_holdsWith 55 = .ok (.aload_n 0, 1) := by decide +kernel
theorem d_Rules_holdsWith_56 : decode b_Rules_holdsWith 56 = .ok (.iload_n 1, 1) := by decide +kernel
theorem d_Rules_holdsWith_57 : decode b_Rules_holdsWith 57 = .ok (.iload_n 2, 1) := by decide +kernel
theorem d_Rules_holdsWith_58 : decode b_Rules_holdsWith 58 = .ok (.iconst 1, 1) := by decide +kernel
theorem d_Rules_holdsWith_59 : decode b_Rules_holdsWith 59 = .ok (.iadd, 1) := by decide +kernel
theorem d_Rules_holdsWith_60 : decode b_Rules_holdsWith 60 = .ok (.iload_n 3, 1) := by decide +kernel
theorem d_Rules_holdsWith_61 : decode b_Rules_holdsWith 61 = .ok (.iconst 1, 1) := by decide +kernel
theorem d_Rules_holdsWith_62 : decode b_Rules_holdsWith 62 = .ok (.iadd, 1) := by decide +kernel
theorem d_Rules_holdsWith_63 : decode b_Rules_holdsWith 63 = .ok (.invokevirtual 202, 3) := by decide +kernel
theorem d_Rules_holdsWith_66 : decode b_Rules_holdsWith 66 = .ok (.istore 5, 2) := by decide +kernel
theorem d_Rules_holdsWith_68 : decode b_Rules_holdsWith 68 = .ok (.iload 4, 2) := by decide +kernel
theorem d_Rules_holdsWith_70 : decode b_Rules_holdsWith 70 = .ok (.bipush 33, 2) := by decide +kernel
theorem d_Rules_holdsWith_72 : decode b_Rules_holdsWith 72 = .ok (.if_icmp .ne 14, 3) := by decide +kernel
theorem d_Rules_holdsWith_75 : decode b_Rules_holdsWith 75 = .ok (.iload 5, 2) := by decide +kernel
theorem d_Rules_holdsWith_77 : decode b_Rules_holdsWith 77 = .ok (.ifCond .ne 7, 3) := by decide +kernel
theorem d_Rules_holdsWith_80 : decode b_Rules_holdsWith 80 = .ok (.iconst 1, 1) := by decide +kernel
theorem d_Rules_holdsWith_81 : decode b_Rules_holdsWith 81 = .ok (.goto 4, 3) := by decide +kernel
theorem d_Rules_holdsWith_84 : decode b_Rules_holdsWith 84 = .ok (.iconst 0, 1) := by decide +kernel
theorem d_Rules_holdsWith_85 : decode b_Rules_holdsWith 85 = .ok (.ireturn, 1) := by decide +kernel
theorem d_Rules_holdsWith_86 : decode b_Rules_holdsWith 86 = .ok (.aload_n 0, 1) := by decide +kernel
theorem d_Rules_holdsWith_87 : decode b_Rules_holdsWith 87 = .ok (.iload_n 1, 1) := by decide +kernel
theorem d_Rules_holdsWith_88 : decode b_Rules_holdsWith 88 = .ok (.aload_n 0, 1) := by decide +kernel
theorem d_Rules_holdsWith_89 : decode b_Rules_holdsWith 89 = .ok (.getfield 29, 3) := by decide +kernel
theorem d_Rules_holdsWith_92 : decode b_Rules_holdsWith 92 = .ok (.iload_n 2, 1) := by decide +kernel
theorem d_Rules_holdsWith_93 : decode b_Rules_holdsWith 93 = .ok (.iconst 1, 1) := by decide +kernel
theorem d_Rules_holdsWith_94 : decode b_Rules_holdsWith 94 = .ok (.iadd, 1) := by decide +kernel
theorem d_Rules_holdsWith_95 : decode b_Rules_holdsWith 95 = .ok (.invokevirtual 192, 3) := by decide +kernel
theorem d_Rules_holdsWith_98 : decode b_Rules_holdsWith 98 = .ok (.iload_n 3, 1) := by decide +kernel
theorem d_Rules_holdsWith_99 : decode b_Rules_holdsWith 99 = .ok (.iconst 1, 1) := by decide +kernel
theorem d_Rules_holdsWith_100 : decode b_Rules_holdsWith 100 = .ok (.iadd, 1) := by decide +kernel
theorem d_Rules_holdsWith_101 : decode b_Rules_holdsWith 101 = .ok (.invokevirtual 202, 3) := by decide +kernel
theorem d_Rules_holdsWith_104 : decode b_Rules_holdsWith 104 = .ok (.istore 6, 2) := by decide +kernel
theorem d_Rules_holdsWith_106 : decode b_Rules_holdsWith 106 = .ok (.iload 4, 2) := by decide +kernel
theorem d_Rules_holdsWith_108 : decode b_Rules_holdsWith 108 = .ok (.bipush 94, 2) := by decide +kernel
theorem d_Rules_holdsWith_110 : decode b_Rules_holdsWith 110 = .ok (.if_icmp .ne 21, 3) := by decide +kernel
theorem d_Rules_holdsWith_113 : decode b_Rules_holdsWith 113 = .ok (.iload 5, 2) := by decide +kernel
theorem d_Rules_holdsWith_115 : decode b_Rules_holdsWith 115 = .ok (.ifCond .eq 12, 3) := by decide +kernel
theorem d_Rules_holdsWith_118 : decode b_Rules_holdsWith 118 = .ok (.iload 6, 2) := by decide +kernel
theorem d_Rules_holdsWith_120 : decode b_Rules_holdsWith 120 = .ok (.ifCond .eq 7, 3) := by decide +kernel
theorem d_Rules_holdsWith_123 : decode b_Rules_holdsWith 123 = .ok (.iconst 1, 1) := by decide +kernel
theorem d_Rules_holdsWith_124 : decode b_Rules_holdsWith 124 = .ok (.goto 47, 3) := by decide +kernel
theorem d_Rules_holdsWith_127 : decode b_Rules_holdsWith 127 = .ok (.iconst 0, 1) := by decide +kernel
theorem d_Rules_holdsWith_128 : decode b_Rules_holdsWith 128 = .ok (.goto 43, 3) := by decide +kernel
theorem d_Rules_holdsWith_131 : decode b_Rules_holdsWith 131 = .ok (.iload 4, 2) := by decide +kernel
theorem d_Rules_holdsWith_133 : decode b_Rules_holdsWith 133 = .ok (.bipush 118, 2) := by decide +kernel
theorem d_Rules_holdsWith_135 : decode b_Rules_holdsWith 135 = .ok (.if_icmp .ne 21, 3) := by decide +kernel
theorem d_Rules_holdsWith_138 : decode b_Rules_holdsWith 138 = .ok (.iload 5, 2) := by decide +kernel
theorem d_Rules_holdsWith_140 : decode b_Rules_holdsWith 140 = .ok (.ifCond .ne 8, 3) := by decide +kernel
theorem d_Rules_holdsWith_143 : decode b_Rules_holdsWith 143 = .ok (.iload 6, 2) := by decide +kernel
theorem d_Rules_holdsWith_145 : decode b_Rules_holdsWith 145 = .ok (.ifCond .eq 7, 3) := by decide +kernel
theorem d_Rules_holdsWith_148 : decode b_Rules_holdsWith 148 = .ok (.iconst 1, 1) := by decide +kernel
theorem d_Rules_holdsWith_149 : decode b_Rules_holdsWith 149 = .ok (.goto 22, 3) := by decide +kernel
theorem d_Rules_holdsWith_152 : decode b_Rules_holdsWith 152 = .ok (.iconst 0, 1) := by decide +kernel
theorem d_Rules_holdsWith_153 : decode b_Rules_holdsWith 153 = .ok (.goto 18, 3) := by decide +kernel
theorem d_Rules_holdsWith_156 : decode b_Rules_holdsWith 156 = .ok (.iload 5, 2) := by decide +kernel
theorem d_Rules_holdsWith_158 : decode b_Rules_holdsWith 158 = .ok (.ifCond .eq 8, 3) := by decide +kernel
theorem d_Rules_holdsWith_161 : decode b_Rules_holdsWith 161 = .ok (.iload 6, 2) := by decide +kernel
theorem d_Rules_holdsWith_163 : decode b_Rules_holdsWith 163 = .ok (.ifCond .eq 7, 3) := by decide +kernel
theorem d_Rules_holdsWith_166 : decode b_Rules_holdsWith 166 = .ok (.iconst 1, 1) := by decide +kernel
theorem d_Rules_holdsWith_167 : decode b_Rules_holdsWith 167 = .ok (.goto 4, 3) := by decide +kernel
theorem d_Rules_holdsWith_170 : decode b_Rules_holdsWith 170 = .ok (.iconst 0, 1) := by decide +kernel
theorem d_Rules_holdsWith_171 : decode b_Rules_holdsWith 171 = .ok (.ireturn, 1) := by decide +kernel
abbrev GT_Rules_holdsWith : Type := (Nat → Int32 → Int32 → Int32 → HP → Option Int32)
abbrev HG_Rules_holdsWith (l : Launch) (g : GG) (gf : GT_Rules_holdsWith) (n : Nat) : Prop :=
  (∀ {h : HP} {x0 : Nat} {x1 : Int32} {x2 : Int32} {x3 : Int32} {z : Int32}, gf x0 x1 x2 x3 h = some z → Ct l g y_Rules_holdsWith w_Rules_holdsWith (rmS (n + 1) (n * 26 + 21)) [.ref (aD g x0), .int x1, .int x2, .int x3] h (some (.int z)) h)
def s_Rules_holdsWith (gf : GT_Rules_holdsWith) (x0 : Nat) (x1 : Int32) (x2 : Int32) (x3 : Int32) (h : HP) : Option (Int32) :=
  if 12 < x3 then (
    some 0)
  else (
    if x2 < 0 then (
      some 0)
    else (
      if x2 < 60 then (
        (gR h x0 7 0).bind fun v3 =>
        (kd v3 0).bind fun _ =>
        (s_Text_at v3 x2 h).bind fun q6 =>
        (s_AdjoinedSets_isConnective q6).bind fun q8 =>
        if q8 = 0 then (
          (gR h x0 7 7).bind fun v32 =>
          (aI h v32 0 x2).bind fun v34 =>
          if ((x1 >>> (v34 &&& 31)) &&& 1) = 0 then (
            some 0)
          else (
            some 1))
        else (
          (kd x0 7).bind fun _ =>
          (gf x0 x1 (x2 + 1) (x3 + 1) h).bind fun q11 =>
          if q6 = 33 then (
            if q11 = 0 then (
              some 1)
            else (
              some 0))
          else (
            (gR h x0 7 0).bind fun v13 =>
            (kd v13 0).bind fun _ =>
            (s_Text_endOf v13 (x2 + 1) h).bind fun q16 =>
            (kd x0 7).bind fun _ =>
            (gf x0 x1 q16 (x3 + 1) h).bind fun q19 =>
            if q6 = 94 then (
              if q11 = 0 then (
                some 0)
              else (
                if q19 = 0 then (
                  some 0)
                else (
                  some 1)))
            else (
              if q6 = 118 then (
                if q11 = 0 then (
                  if q19 = 0 then (
                    some 0)
                  else (
                    some 1))
                else (
                  some 1))
              else (
                if q11 = 0 then (
                  some 1)
                else (
                  if q19 = 0 then (
                    some 0)
                  else (
                    some 1)))))))
      else (
        some 0)))
set_option maxHeartbeats 4000000 in
set_option maxRecDepth 100000 in
theorem c_Rules_holdsWith (l : Launch) (g : GG) (gf : GT_Rules_holdsWith) (n : Nat) (hG : HG_Rules_holdsWith l g gf n) {h : HP} {x0 : Nat} {x1 : Int32} {x2 : Int32} {x3 : Int32} {z : Int32} (hs : s_Rules_holdsWith gf x0 x1 x2 x3 h = some z) : Ct l g y_Rules_holdsWith w_Rules_holdsWith (rmS (n + 1 + 1) ((n + 1) * 26 + 21)) [.ref (aD g x0), .int x1, .int x2, .int x3] h (some (.int z)) h := by
  refine Ct.of (own := R_Rules) (by decide) rfl rfl (Nat.le_of_ble_eq_true rfl) ?_
  intro p e s m args below meth c ls C hl hw
  have hx := C.1
  have hb := C.2.1
  have hl : lv_has ls 7 [(0, .ref (aD g x0)), (1, .int x1), (2, .int x2), (3, .int x3)] := hl
  unfold s_Rules_holdsWith at hs
  refine lv_iload_n hx hb d_Rules_holdsWith_0 rfl (lv_at hl 3 rfl) ?_
  refine lv_bipush (v := 12) hx hb d_Rules_holdsWith_1 (by decide) ?_
  refine lv_icmp_gt hx hb d_Rules_holdsWith_3 (tgt := 16) (by decide) (fun hc => ?_) (fun hc => ?_)
  · have hs := oi_t hc hs
    refine lv_iconst (v := 0) hx hb d_Rules_holdsWith_16 (by decide) ?_
    obtain rfl := Option.some.inj hs
    exact pg_zret (v := 0) C hw rfl d_Rules_holdsWith_17
  · have hs := oi_f hc hs
    refine lv_iload_n hx hb d_Rules_holdsWith_6 rfl (lv_at hl 2 rfl) ?_
    refine lv_if_lt hx hb d_Rules_holdsWith_7 (tgt := 16) (by decide) (fun hc => ?_) (fun hc => ?_)
    · have hs := oi_t hc hs
      refine lv_iconst (v := 0) hx hb d_Rules_holdsWith_16 (by decide) ?_
      obtain rfl := Option.some.inj hs
      exact pg_zret (v := 0) C hw rfl d_Rules_holdsWith_17
    · have hs := oi_f hc hs
      refine lv_iload_n hx hb d_Rules_holdsWith_10 rfl (lv_at hl 2 rfl) ?_
      refine lv_bipush (v := 60) hx hb d_Rules_holdsWith_11 (by decide) ?_
      refine lv_icmp_lt hx hb d_Rules_holdsWith_13 (tgt := 18) (by decide) (fun hc => ?_) (fun hc => ?_)
      · have hs := oi_t hc hs
        refine lv_aload_n hx hb d_Rules_holdsWith_18 rfl (lv_at hl 0 rfl) ?_
        obtain ⟨v3, e4, hs⟩ := ob hs
        refine pg_getR C hw fl_Rules_29 e4 d_Rules_holdsWith_19 ?_
        refine lv_iload_n hx hb d_Rules_holdsWith_22 rfl (lv_at hl 2 rfl) ?_
        obtain ⟨_, e5, hs⟩ := ob hs
        obtain ⟨q6, e7, hs⟩ := ob hs
        refine pg_callV C hw hl.1 ml_Rules_149 e5 (As := [.int x2]) (rest := []) (c_Text_at l g e7) rfl (rm_ok (by omega) (by omega)) (Nat.le_of_ble_eq_true rfl) rfl (st1 := [.int q6]) rfl d_Rules_holdsWith_23 (fun H locs hw => ?_)
        refine lv_istore hx hb d_Rules_holdsWith_26 hl (by decide) (lv' := [(4, .int q6), (0, .ref (aD g x0)), (1, .int x1), (2, .int x2), (3, .int x3)]) rfl (fun ls hl => ?_)
        refine lv_iload hx hb d_Rules_holdsWith_28 (lv_at hl 0 rfl) ?_
        obtain ⟨q8, e9, hs⟩ := ob hs
        refine pg_callSN C hw hl.1 ml_Rules_206 (As := [.int q6]) (rest := []) (c_AdjoinedSets_isConnective l g e9) rfl (rm_ok (by omega) (by omega)) (Nat.le_of_ble_eq_true rfl) rfl (st1 := [.int q8]) rfl d_Rules_holdsWith_30 (fun H locs hw => ?_)
        refine lv_if_ne hx hb d_Rules_holdsWith_33 (tgt := 55) (by decide) (fun hc => ?_) (fun hc => ?_)
        · have hs := oi_f hc hs
          refine lv_aload_n hx hb d_Rules_holdsWith_55 rfl (lv_at hl 1 rfl) ?_
          refine lv_iload_n hx hb d_Rules_holdsWith_56 rfl (lv_at hl 2 rfl) ?_
          refine lv_iload_n hx hb d_Rules_holdsWith_57 rfl (lv_at hl 3 rfl) ?_
          refine lv_iconst (v := 1) hx hb d_Rules_holdsWith_58 (by decide) ?_
          refine lv_iadd hx hb d_Rules_holdsWith_59 ?_
          refine lv_iload_n hx hb d_Rules_holdsWith_60 rfl (lv_at hl 4 rfl) ?_
          refine lv_iconst (v := 1) hx hb d_Rules_holdsWith_61 (by decide) ?_
          refine lv_iadd hx hb d_Rules_holdsWith_62 ?_
          obtain ⟨_, e10, hs⟩ := ob hs
          obtain ⟨q11, e12, hs⟩ := ob hs
          refine pg_callV C hw hl.1 ml_Rules_202 e10 (As := [.int x1, .int (x2 + 1), .int (x3 + 1)]) (rest := []) (hG e12) rfl (rm_ok (by omega) (by omega)) (Nat.le_of_ble_eq_true rfl) rfl (st1 := [.int q11]) rfl d_Rules_holdsWith_63 (fun H locs hw => ?_)
          refine lv_istore hx hb d_Rules_holdsWith_66 hl (by decide) (lv' := [(5, .int q11), (4, .int q6), (0, .ref (aD g x0)), (1, .int x1), (2, .int x2), (3, .int x3)]) rfl (fun ls hl => ?_)
          refine lv_iload hx hb d_Rules_holdsWith_68 (lv_at hl 1 rfl) ?_
          refine lv_bipush (v := 33) hx hb d_Rules_holdsWith_70 (by decide) ?_
          refine lv_icmp_ne hx hb d_Rules_holdsWith_72 (tgt := 86) (by decide) (fun hc => ?_) (fun hc => ?_)
          · have hs := oi_f hc hs
            refine lv_aload_n hx hb d_Rules_holdsWith_86 rfl (lv_at hl 2 rfl) ?_
            refine lv_iload_n hx hb d_Rules_holdsWith_87 rfl (lv_at hl 3 rfl) ?_
            refine lv_aload_n hx hb d_Rules_holdsWith_88 rfl (lv_at hl 2 rfl) ?_
            obtain ⟨v13, e14, hs⟩ := ob hs
            refine pg_getR C hw fl_Rules_29 e14 d_Rules_holdsWith_89 ?_
            refine lv_iload_n hx hb d_Rules_holdsWith_92 rfl (lv_at hl 4 rfl) ?_
            refine lv_iconst (v := 1) hx hb d_Rules_holdsWith_93 (by decide) ?_
            refine lv_iadd hx hb d_Rules_holdsWith_94 ?_
            obtain ⟨_, e15, hs⟩ := ob hs
            obtain ⟨q16, e17, hs⟩ := ob hs
            refine pg_callV C hw hl.1 ml_Rules_192 e15 (As := [.int (x2 + 1)]) (rest := [.int x1, .ref (aD g x0)]) (c_Text_endOf l g e17) rfl (rm_ok (by omega) (by omega)) (Nat.le_of_ble_eq_true rfl) rfl (st1 := [.int q16, .int x1, .ref (aD g x0)]) rfl d_Rules_holdsWith_95 (fun H locs hw => ?_)
            refine lv_iload_n hx hb d_Rules_holdsWith_98 rfl (lv_at hl 5 rfl) ?_
            refine lv_iconst (v := 1) hx hb d_Rules_holdsWith_99 (by decide) ?_
            refine lv_iadd hx hb d_Rules_holdsWith_100 ?_
            obtain ⟨_, e18, hs⟩ := ob hs
            obtain ⟨q19, e20, hs⟩ := ob hs
            refine pg_callV C hw hl.1 ml_Rules_202 e18 (As := [.int x1, .int q16, .int (x3 + 1)]) (rest := []) (hG e20) rfl (rm_ok (by omega) (by omega)) (Nat.le_of_ble_eq_true rfl) rfl (st1 := [.int q19]) rfl d_Rules_holdsWith_101 (fun H locs hw => ?_)
            refine lv_istore hx hb d_Rules_holdsWith_104 hl (by decide) (lv' := [(6, .int q19), (5, .int q11), (4, .int q6), (0, .ref (aD g x0)), (1, .int x1), (2, .int x2), (3, .int x3)]) rfl (fun ls hl => ?_)
            refine lv_iload hx hb d_Rules_holdsWith_106 (lv_at hl 2 rfl) ?_
            refine lv_bipush (v := 94) hx hb d_Rules_holdsWith_108 (by decide) ?_
            refine lv_icmp_ne hx hb d_Rules_holdsWith_110 (tgt := 131) (by decide) (fun hc => ?_) (fun hc => ?_)
            · have hs := oi_f hc hs
              refine lv_iload hx hb d_Rules_holdsWith_131 (lv_at hl 2 rfl) ?_
              refine lv_bipush (v := 118) hx hb d_Rules_holdsWith_133 (by decide) ?_
              refine lv_icmp_ne hx hb d_Rules_holdsWith_135 (tgt := 156) (by decide) (fun hc => ?_) (fun hc => ?_)
              · have hs := oi_f hc hs
                refine lv_iload hx hb d_Rules_holdsWith_156 (lv_at hl 1 rfl) ?_
                refine lv_if_eq hx hb d_Rules_holdsWith_158 (tgt := 166) (by decide) (fun hc => ?_) (fun hc => ?_)
                · have hs := oi_t hc hs
                  refine lv_iconst (v := 1) hx hb d_Rules_holdsWith_166 (by decide) ?_
                  refine lv_goto hx hb d_Rules_holdsWith_167 (tgt := 171) (by decide) ?_
                  obtain rfl := Option.some.inj hs
                  exact pg_zret (v := 1) C hw rfl d_Rules_holdsWith_171
                · have hs := oi_f hc hs
                  refine lv_iload hx hb d_Rules_holdsWith_161 (lv_at hl 0 rfl) ?_
                  refine lv_if_eq hx hb d_Rules_holdsWith_163 (tgt := 170) (by decide) (fun hc => ?_) (fun hc => ?_)
                  · have hs := oi_t hc hs
                    refine lv_iconst (v := 0) hx hb d_Rules_holdsWith_170 (by decide) ?_
                    obtain rfl := Option.some.inj hs
                    exact pg_zret (v := 0) C hw rfl d_Rules_holdsWith_171
                  · have hs := oi_f hc hs
                    refine lv_iconst (v := 1) hx hb d_Rules_holdsWith_166 (by decide) ?_
                    refine lv_goto hx hb d_Rules_holdsWith_167 (tgt := 171) (by decide) ?_
                    obtain rfl := Option.some.inj hs
                    exact pg_zret (v := 1) C hw rfl d_Rules_holdsWith_171
              · have hs := oi_t hc hs
                refine lv_iload hx hb d_Rules_holdsWith_138 (lv_at hl 1 rfl) ?_
                refine lv_if_ne hx hb d_Rules_holdsWith_140 (tgt := 148) (by decide) (fun hc => ?_) (fun hc => ?_)
                · have hs := oi_f hc hs
                  refine lv_iconst (v := 1) hx hb d_Rules_holdsWith_148 (by decide) ?_
                  refine lv_goto hx hb d_Rules_holdsWith_149 (tgt := 171) (by decide) ?_
                  obtain rfl := Option.some.inj hs
                  exact pg_zret (v := 1) C hw rfl d_Rules_holdsWith_171
                · have hs := oi_t hc hs
                  refine lv_iload hx hb d_Rules_holdsWith_143 (lv_at hl 0 rfl) ?_
                  refine lv_if_eq hx hb d_Rules_holdsWith_145 (tgt := 152) (by decide) (fun hc => ?_) (fun hc => ?_)
                  · have hs := oi_t hc hs
                    refine lv_iconst (v := 0) hx hb d_Rules_holdsWith_152 (by decide) ?_
                    refine lv_goto hx hb d_Rules_holdsWith_153 (tgt := 171) (by decide) ?_
                    obtain rfl := Option.some.inj hs
                    exact pg_zret (v := 0) C hw rfl d_Rules_holdsWith_171
                  · have hs := oi_f hc hs
                    refine lv_iconst (v := 1) hx hb d_Rules_holdsWith_148 (by decide) ?_
                    refine lv_goto hx hb d_Rules_holdsWith_149 (tgt := 171) (by decide) ?_
                    obtain rfl := Option.some.inj hs
                    exact pg_zret (v := 1) C hw rfl d_Rules_holdsWith_171
            · have hs := oi_t hc hs
              refine lv_iload hx hb d_Rules_holdsWith_113 (lv_at hl 1 rfl) ?_
              refine lv_if_eq hx hb d_Rules_holdsWith_115 (tgt := 127) (by decide) (fun hc => ?_) (fun hc => ?_)
              · have hs := oi_t hc hs
                refine lv_iconst (v := 0) hx hb d_Rules_holdsWith_127 (by decide) ?_
                refine lv_goto hx hb d_Rules_holdsWith_128 (tgt := 171) (by decide) ?_
                obtain rfl := Option.some.inj hs
                exact pg_zret (v := 0) C hw rfl d_Rules_holdsWith_171
              · have hs := oi_f hc hs
                refine lv_iload hx hb d_Rules_holdsWith_118 (lv_at hl 0 rfl) ?_
                refine lv_if_eq hx hb d_Rules_holdsWith_120 (tgt := 127) (by decide) (fun hc => ?_) (fun hc => ?_)
                · have hs := oi_t hc hs
                  refine lv_iconst (v := 0) hx hb d_Rules_holdsWith_127 (by decide) ?_
                  refine lv_goto hx hb d_Rules_holdsWith_128 (tgt := 171) (by decide) ?_
                  obtain rfl := Option.some.inj hs
                  exact pg_zret (v := 0) C hw rfl d_Rules_holdsWith_171
                · have hs := oi_f hc hs
                  refine lv_iconst (v := 1) hx hb d_Rules_holdsWith_123 (by decide) ?_
                  refine lv_goto hx hb d_Rules_holdsWith_124 (tgt := 171) (by decide) ?_
                  obtain rfl := Option.some.inj hs
                  exact pg_zret (v := 1) C hw rfl d_Rules_holdsWith_171
          · have hs := oi_t hc hs
            refine lv_iload hx hb d_Rules_holdsWith_75 (lv_at hl 0 rfl) ?_
            refine lv_if_ne hx hb d_Rules_holdsWith_77 (tgt := 84) (by decide) (fun hc => ?_) (fun hc => ?_)
            · have hs := oi_f hc hs
              refine lv_iconst (v := 0) hx hb d_Rules_holdsWith_84 (by decide) ?_
              obtain rfl := Option.some.inj hs
              exact pg_zret (v := 0) C hw rfl d_Rules_holdsWith_85
            · have hs := oi_t hc hs
              refine lv_iconst (v := 1) hx hb d_Rules_holdsWith_80 (by decide) ?_
              refine lv_goto hx hb d_Rules_holdsWith_81 (tgt := 85) (by decide) ?_
              obtain rfl := Option.some.inj hs
              exact pg_zret (v := 1) C hw rfl d_Rules_holdsWith_85
        · have hs := oi_t hc hs
          refine lv_iload_n hx hb d_Rules_holdsWith_36 rfl (lv_at hl 2 rfl) ?_
          refine lv_aload_n hx hb d_Rules_holdsWith_37 rfl (lv_at hl 1 rfl) ?_
          obtain ⟨v32, e33, hs⟩ := ob hs
          refine pg_getR C hw fl_Rules_22 e33 d_Rules_holdsWith_38 ?_
          refine lv_iload_n hx hb d_Rules_holdsWith_41 rfl (lv_at hl 3 rfl) ?_
          obtain ⟨v34, e35, hs⟩ := ob hs
          refine pg_iaload C hw (t0 := 0) rfl e35 d_Rules_holdsWith_42 ?_
          refine lv_ishr hx hb d_Rules_holdsWith_43 ?_
          refine lv_iconst (v := 1) hx hb d_Rules_holdsWith_44 (by decide) ?_
          refine lv_iand hx hb d_Rules_holdsWith_45 ?_
          refine lv_if_eq hx hb d_Rules_holdsWith_46 (tgt := 53) (by decide) (fun hc => ?_) (fun hc => ?_)
          · have hs := oi_t hc hs
            refine lv_iconst (v := 0) hx hb d_Rules_holdsWith_53 (by decide) ?_
            obtain rfl := Option.some.inj hs
            exact pg_zret (v := 0) C hw rfl d_Rules_holdsWith_54
          · have hs := oi_f hc hs
            refine lv_iconst (v := 1) hx hb d_Rules_holdsWith_49 (by decide) ?_
            refine lv_goto hx hb d_Rules_holdsWith_50 (tgt := 54) (by decide) ?_
            obtain rfl := Option.some.inj hs
            exact pg_zret (v := 1) C hw rfl d_Rules_holdsWith_54
      · have hs := oi_f hc hs
        refine lv_iconst (v := 0) hx hb d_Rules_holdsWith_16 (by decide) ?_
        obtain rfl := Option.some.inj hs
        exact pg_zret (v := 0) C hw rfl d_Rules_holdsWith_17

def s_grp_Rules_holdsWith : Nat → GT_Rules_holdsWith
  | 0 => fun _ _ _ _ _ => none
  | n + 1 => s_Rules_holdsWith (s_grp_Rules_holdsWith n)
theorem cg_Rules_holdsWith (l : Launch) (g : GG) : ∀ n : Nat, HG_Rules_holdsWith l g (s_grp_Rules_holdsWith n) n := by
  intro n
  induction n with
  | zero => exact fun hs => (no_s hs).elim
  | succ n ih => exact fun hs => c_Rules_holdsWith l g (s_grp_Rules_holdsWith n) n ih hs

end
section
variable {p : Program} {l : Launch} {e : Env} {s : State} {m : MethodId} {args : Array Value} {below : List Frame} {meth : Method} {c : Code} {g : GG}
theorem d_Rules_holdsForAllValues_0 : decode b_Rules_holdsForAllValues 0 = .ok (.aload_n 0, 1) := by decide +kernel
theorem d_Rules_holdsForAllValues_1 : decode b_Rules_holdsForAllValues 1 = .ok (.iconst 0, 1) := by decide +kernel
theorem d_Rules_holdsForAllValues_2 : decode b_Rules_holdsForAllValues 2 = .ok (.putfield 25, 3) := by decide +kernel
theorem d_Rules_holdsForAllValues_5 : decode b_Rules_holdsForAllValues 5 = .ok (.aload_n 0, 1) := by decide +kernel
theorem d_Rules_holdsForAllValues_6 : decode b_Rules_holdsForAllValues 6 = .ok (.iconst 0, 1) := by decide +kernel
theorem d_Rules_holdsForAllValues_7 : decode b_Rules_holdsForAllValues 7 = .ok (.iconst 1, 1) := by decide +kernel
theorem d_Rules_holdsForAllValues_8 : decode b_Rules_holdsForAllValues 8 = .ok (.invokevirtual 198, 3) := by decide +kernel
theorem d_Rules_holdsForAllValues_11 : decode b_Rules_holdsForAllValues 11 = .ok (.ifCond .ne 5, 3) := by decide +kernel
theorem d_Rules_holdsForAllValues_14 : decode b_Rules_holdsForAllValues 14 = .ok (.iconst 0, 1) := by decide +kernel
theorem d_Rules_holdsForAllValues_15 : decode b_Rules_holdsForAllValues 15 = .ok (.ireturn, 1) := by decide +kernel
theorem d_Rules_holdsForAllValues_16 : decode b_Rules_holdsForAllValues 16 = .ok (.iconst 0, 1) := by decide +kernel
theorem d_Rules_holdsForAllValues_17 : decode b_Rules_holdsForAllValues 17 = .ok (.istore_n 1, 1) := by decide +kernel
theorem d_Rules_holdsForAllValues_18 : decode b_Rules_holdsForAllValues 18 = .ok (.iload_n 1, 1) := by decide +kernel
theorem d_Rules_holdsForAllValues_19 : decode b_Rules_holdsForAllValues 19 = .ok (.iconst 1, 1) := by decide +kernel
theorem d_Rules_holdsForAllValues_20 : decode b_Rules_holdsForAllValues 20 = .ok (.aload_n 0, 1) := by decide +kernel
theorem d_Rules_holdsForAllValues_21 : decode b_Rules_holdsForAllValues 21 = .ok (.getfield 25, 3) := by decide +kernel
theorem d_Rules_holdsForAllValues_24 : decode b_Rules_holdsForAllValues 24 = .ok (.ishl, 1) := by decide +kernel
theorem d_Rules_holdsForAllValues_25 : decode b_Rules_holdsForAllValues 25 = .ok (.if_icmp .ge 21, 3) := by decide +kernel
theorem d_Rules_holdsForAllValues_28 : decode b_Rules_holdsForAllValues 28 = .ok (.aload_n 0, 1) := by decide +kernel
theorem d_Rules_holdsForAllValues_29 : decode b_Rules_holdsForAllValues 29 = .ok (.iload_n 1, 1) := by decide +kernel
theorem d_Rules_holdsForAllValues_30 : decode b_Rules_holdsForAllValues 30 = .ok (.iconst 0, 1) := by decide +kernel
theorem d_Rules_holdsForAllValues_31 : decode b_Rules_holdsForAllValues 31 = .ok (.iconst 1, 1) := by decide +kernel
theorem d_Rules_holdsForAllValues_32 : decode b_Rules_holdsForAllValues 32 = .ok (.invokevirtual 202, 3) := by decide +kernel
theorem d_Rules_holdsForAllValues_35 : decode b_Rules_holdsForAllValues 35 = .ok (.ifCond .ne 5, 3) := by decide +kernel
theorem d_Rules_holdsForAllValues_38 : decode b_Rules_holdsForAllValues 38 = .ok (.iconst 0, 1) := by decide +kernel
theorem d_Rules_holdsForAllValues_39 : decode b_Rules_holdsForAllValues 39 = .ok (.ireturn, 1) := by decide +kernel
theorem d_Rules_holdsForAllValues_40 : decode b_Rules_holdsForAllValues 40 = .ok (.iinc 1 1, 3) := by decide +kernel
theorem d_Rules_holdsForAllValues_43 : decode b_Rules_holdsForAllValues 43 = .ok (.goto (-25), 3) := by decide +kernel
theorem d_Rules_holdsForAllValues_46 : decode b_Rules_holdsForAllValues 46 = .ok (.iconst 1, 1) := by decide +kernel
theorem d_Rules_holdsForAllValues_47 : decode b_Rules_holdsForAllValues 47 = .ok (.ireturn, 1) := by decide +kernel
def s_Rules_holdsForAllValues_18 : Nat → Nat → Int32 → HP → Option (Int32 × HP)
  | 0 => fun _ _ _ => none
  | k + 1 => fun x0 x1 h =>
  (gI h x0 7 8).bind fun v1 =>
  if ((1 : Int32) <<< (v1 &&& 31)) ≤ x1 then (
    some (1, h))
  else (
    (kd x0 7).bind fun _ =>
    ((s_grp_Rules_holdsWith 14) x0 x1 0 1 h).bind fun q5 =>
    if q5 = 0 then (
      some (0, h))
    else (
      (s_Rules_holdsForAllValues_18 k) x0 (x1 + 1) h))
set_option maxHeartbeats 4000000 in
set_option maxRecDepth 100000 in
theorem k_Rules_holdsForAllValues_18 {z : Int32 × HP} (C : CX g R_Rules b_Rules_holdsForAllValues 2 (some .boolean) p s m args meth c) : ∀ (k : Nat) {x0 : Nat} {x1 : Int32} {h : HP} {H : Heap} {locs : List Loc} {ls : Array Slot}, WD g h s.heap H locs → lv_has ls 2 [(0, .ref (aD g x0)), (1, .int x1)] → s_Rules_holdsForAllValues_18 k x0 x1 h = some z → W p l e (rmS 18 444) s m args below meth c H locs 0 0 (MQ below (Qq g (some (.int z.1)) z.2) args s 0 0 (inA g)) (F0 m 18 ls []) := by
  have hx := C.1
  have hb := C.2.1
  intro k
  induction k with
  | zero =>
    intro x0 x1 h H locs ls hw hl hs
    exact (no_s hs).elim
  | succ k ih =>
    intro x0 x1 h H locs ls hw hl hs
    rw [s_Rules_holdsForAllValues_18] at hs
    refine lv_iload_n hx hb d_Rules_holdsForAllValues_18 rfl (lv_at hl 1 rfl) ?_
    refine lv_iconst (v := 1) hx hb d_Rules_holdsForAllValues_19 (by decide) ?_
    refine lv_aload_n hx hb d_Rules_holdsForAllValues_20 rfl (lv_at hl 0 rfl) ?_
    obtain ⟨v1, e2, hs⟩ := ob hs
    refine pg_getI C hw fl_Rules_25 e2 d_Rules_holdsForAllValues_21 ?_
    refine lv_ishl hx hb d_Rules_holdsForAllValues_24 ?_
    refine lv_icmp_ge hx hb d_Rules_holdsForAllValues_25 (tgt := 46) (by decide) (fun hc => ?_) (fun hc => ?_)
    · have hs := oi_t hc hs
      refine lv_iconst (v := 1) hx hb d_Rules_holdsForAllValues_46 (by decide) ?_
      obtain rfl := Option.some.inj hs
      exact pg_zret (v := 1) C hw rfl d_Rules_holdsForAllValues_47
    · have hs := oi_f hc hs
      refine lv_aload_n hx hb d_Rules_holdsForAllValues_28 rfl (lv_at hl 0 rfl) ?_
      refine lv_iload_n hx hb d_Rules_holdsForAllValues_29 rfl (lv_at hl 1 rfl) ?_
      refine lv_iconst (v := 0) hx hb d_Rules_holdsForAllValues_30 (by decide) ?_
      refine lv_iconst (v := 1) hx hb d_Rules_holdsForAllValues_31 (by decide) ?_
      obtain ⟨_, e4, hs⟩ := ob hs
      obtain ⟨q5, e6, hs⟩ := ob hs
      refine pg_callV C hw hl.1 ml_Rules_202 e4 (As := [.int x1, .int 0, .int 1]) (rest := []) ((cg_Rules_holdsWith l g 14) e6) rfl (rm_ok (Nat.le_of_ble_eq_true rfl) (Nat.le_of_ble_eq_true rfl)) (Nat.le_of_ble_eq_true rfl) rfl (st1 := [.int q5]) rfl d_Rules_holdsForAllValues_32 (fun H locs hw => ?_)
      refine lv_if_ne hx hb d_Rules_holdsForAllValues_35 (tgt := 40) (by decide) (fun hc => ?_) (fun hc => ?_)
      · have hs := oi_f hc hs
        refine lv_iinc hx hb d_Rules_holdsForAllValues_40 hl (k := 1) rfl (v := (x1 + 1)) (iinc_e _ (by decide)) (by decide) (lv' := [(1, .int (x1 + 1)), (0, .ref (aD g x0))]) rfl (fun ls hl => ?_)
        refine lv_goto hx hb d_Rules_holdsForAllValues_43 (tgt := 18) (by decide) ?_
        exact ih hw (lv_sub hl [1, 0] rfl) hs
      · have hs := oi_t hc hs
        refine lv_iconst (v := 0) hx hb d_Rules_holdsForAllValues_38 (by decide) ?_
        obtain rfl := Option.some.inj hs
        exact pg_zret (v := 0) C hw rfl d_Rules_holdsForAllValues_39

def s_Rules_holdsForAllValues (x0 : Nat) (h : HP) : Option (Int32 × HP) :=
  (pI h x0 7 8 0).bind fun h1 =>
  (kd x0 7).bind fun _ =>
  ((s_grp_Rules_collectParts 14) x0 0 1 h1).bind fun q4 =>
  if q4.1 = 0 then (
    some (0, q4.2))
  else (
    s_Rules_holdsForAllValues_18 20000 x0 0 q4.2)
set_option maxHeartbeats 4000000 in
set_option maxRecDepth 100000 in
theorem c_Rules_holdsForAllValues (l : Launch) (g : GG) {x0 : Nat} {h : HP} {z : Int32 × HP} (hs : s_Rules_holdsForAllValues x0 h = some z) : Ct l g y_Rules_holdsForAllValues w_Rules_holdsForAllValues (rmS 18 444) [.ref (aD g x0)] h (some (.int z.1)) z.2 := by
  refine Ct.of (own := R_Rules) (by decide) rfl rfl (Nat.le_of_ble_eq_true rfl) ?_
  intro p e s m args below meth c ls C hl hw
  have hx := C.1
  have hb := C.2.1
  have hl : lv_has ls 2 [(0, .ref (aD g x0))] := hl
  unfold s_Rules_holdsForAllValues at hs
  refine lv_aload_n hx hb d_Rules_holdsForAllValues_0 rfl (lv_at hl 0 rfl) ?_
  refine lv_iconst (v := 0) hx hb d_Rules_holdsForAllValues_1 (by decide) ?_
  obtain ⟨h1, e2, hs⟩ := ob hs
  refine pg_putI C hw pl_Rules_25 e2 d_Rules_holdsForAllValues_2 (fun H locs hw => ?_)
  refine lv_aload_n hx hb d_Rules_holdsForAllValues_5 rfl (lv_at hl 0 rfl) ?_
  refine lv_iconst (v := 0) hx hb d_Rules_holdsForAllValues_6 (by decide) ?_
  refine lv_iconst (v := 1) hx hb d_Rules_holdsForAllValues_7 (by decide) ?_
  obtain ⟨_, e3, hs⟩ := ob hs
  obtain ⟨q4, e5, hs⟩ := ob hs
  refine pg_callV C hw hl.1 ml_Rules_198 e3 (As := [.int 0, .int 1]) (rest := []) ((cg_Rules_collectParts l g 14) e5) rfl (rm_ok (Nat.le_of_ble_eq_true rfl) (Nat.le_of_ble_eq_true rfl)) (Nat.le_of_ble_eq_true rfl) rfl (st1 := [.int q4.1]) rfl d_Rules_holdsForAllValues_8 (fun H locs hw => ?_)
  refine lv_if_ne hx hb d_Rules_holdsForAllValues_11 (tgt := 16) (by decide) (fun hc => ?_) (fun hc => ?_)
  · have hs := oi_f hc hs
    refine lv_iconst (v := 0) hx hb d_Rules_holdsForAllValues_16 (by decide) ?_
    refine lv_istore_n hx hb d_Rules_holdsForAllValues_17 rfl hl (by decide) (lv' := [(1, .int 0), (0, .ref (aD g x0))]) rfl (fun ls hl => ?_)
    exact k_Rules_holdsForAllValues_18 C 20000 hw (lv_sub hl [1, 0] rfl) hs
  · have hs := oi_t hc hs
    refine lv_iconst (v := 0) hx hb d_Rules_holdsForAllValues_14 (by decide) ?_
    obtain rfl := Option.some.inj hs
    exact pg_zret (v := 0) C hw rfl d_Rules_holdsForAllValues_15

end
