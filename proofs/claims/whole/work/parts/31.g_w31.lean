section
variable {p : Program} {l : Launch} {e : Env} {s : State} {m : MethodId} {args : Array Value} {below : List Frame} {meth : Method} {c : Code} {g : GG}
theorem d_AdjoinedSets_giveValues_0 : decode b_AdjoinedSets_giveValues 0 = .ok (.iconst 0, 1) := by decide +kernel
theorem d_AdjoinedSets_giveValues_1 : decode b_AdjoinedSets_giveValues 1 = .ok (.istore_n 1, 1) := by decide +kernel
theorem d_AdjoinedSets_giveValues_2 : decode b_AdjoinedSets_giveValues 2 = .ok (.iload_n 1, 1) := by decide +kernel
theorem d_AdjoinedSets_giveValues_3 : decode b_AdjoinedSets_giveValues 3 = .ok (.bipush 8, 2) := by decide +kernel
theorem d_AdjoinedSets_giveValues_5 : decode b_AdjoinedSets_giveValues 5 = .ok (.if_icmp .ge 23, 3) := by decide +kernel
theorem d_AdjoinedSets_giveValues_8 : decode b_AdjoinedSets_giveValues 8 = .ok (.aload_n 0, 1) := by decide +kernel
theorem d_AdjoinedSets_giveValues_9 : decode b_AdjoinedSets_giveValues 9 = .ok (.getfield 48, 3) := by decide +kernel
theorem d_AdjoinedSets_giveValues_12 : decode b_AdjoinedSets_giveValues 12 = .ok (.iload_n 1, 1) := by decide +kernel
theorem d_AdjoinedSets_giveValues_13 : decode b_AdjoinedSets_giveValues 13 = .ok (.aload_n 0, 1) := by decide +kernel
theorem d_AdjoinedSets_giveValues_14 : decode b_AdjoinedSets_giveValues 14 = .ok (.getfield 9, 3) := by decide +kernel
theorem d_AdjoinedSets_giveValues_17 : decode b_AdjoinedSets_giveValues 17 = .ok (.iload_n 1, 1) := by decide +kernel
theorem d_AdjoinedSets_giveValues_18 : decode b_AdjoinedSets_giveValues 18 = .ok (.laload, 1) := by decide +kernel
theorem d_AdjoinedSets_giveValues_19 : decode b_AdjoinedSets_giveValues 19 = .ok (.invokevirtual 170, 3) := by decide +kernel
theorem d_AdjoinedSets_giveValues_22 : decode b_AdjoinedSets_giveValues 22 = .ok (.iinc 1 1, 3) := by decide +kernel
theorem d_AdjoinedSets_giveValues_25 : decode b_AdjoinedSets_giveValues 25 = .ok (.goto (-23), 3) := by decide +kernel
theorem d_AdjoinedSets_giveValues_28 : decode b_AdjoinedSets_giveValues 28 = .ok (.return_, 1) := by decide +kernel
def s_AdjoinedSets_giveValues_2 : Nat → Nat → Int32 → HP → Option (HP)
  | 0 => fun _ _ _ => none
  | k + 1 => fun x0 x1 h =>
  if 8 ≤ x1 then (
    some h)
  else (
    (gR h x0 8 5).bind fun v1 =>
    (gR h x0 8 0).bind fun v3 =>
    (aL h v3 2 x1).bind fun v5 =>
    (kd v1 4).bind fun _ =>
    (s_Worker_give v1 x1 v5 h).bind fun q8 =>
    (s_AdjoinedSets_giveValues_2 k) x0 (x1 + 1) q8)
set_option maxHeartbeats 4000000 in
set_option maxRecDepth 100000 in
theorem k_AdjoinedSets_giveValues_2 {z : HP} (C : CX g R_AdjoinedSets b_AdjoinedSets_giveValues 2 none p s m args meth c) : ∀ (k : Nat) {x0 : Nat} {x1 : Int32} {h : HP} {H : Heap} {locs : List Loc} {ls : Array Slot}, WD g h s.heap H locs → lv_has ls 2 [(0, .ref (aD g x0)), (1, .int x1)] → s_AdjoinedSets_giveValues_2 k x0 x1 h = some z → W p l e (rmS 1 23) s m args below meth c H locs 0 0 (MQ below (Qq g none z) args s 0 0 (inA g)) (F0 m 2 ls []) := by
  have hx := C.1
  have hb := C.2.1
  intro k
  induction k with
  | zero =>
    intro x0 x1 h H locs ls hw hl hs
    exact (no_s hs).elim
  | succ k ih =>
    intro x0 x1 h H locs ls hw hl hs
    rw [s_AdjoinedSets_giveValues_2] at hs
    refine lv_iload_n hx hb d_AdjoinedSets_giveValues_2 rfl (lv_at hl 1 rfl) ?_
    refine lv_bipush (v := 8) hx hb d_AdjoinedSets_giveValues_3 (by decide) ?_
    refine lv_icmp_ge hx hb d_AdjoinedSets_giveValues_5 (tgt := 28) (by decide) (fun hc => ?_) (fun hc => ?_)
    · have hs := oi_t hc hs
      obtain rfl := Option.some.inj hs
      exact pg_vret C hw d_AdjoinedSets_giveValues_28
    · have hs := oi_f hc hs
      refine lv_aload_n hx hb d_AdjoinedSets_giveValues_8 rfl (lv_at hl 0 rfl) ?_
      obtain ⟨v1, e2, hs⟩ := ob hs
      refine pg_getR C hw fl_AdjoinedSets_48 e2 d_AdjoinedSets_giveValues_9 ?_
      refine lv_iload_n hx hb d_AdjoinedSets_giveValues_12 rfl (lv_at hl 1 rfl) ?_
      refine lv_aload_n hx hb d_AdjoinedSets_giveValues_13 rfl (lv_at hl 0 rfl) ?_
      obtain ⟨v3, e4, hs⟩ := ob hs
      refine pg_getR C hw fl_AdjoinedSets_9 e4 d_AdjoinedSets_giveValues_14 ?_
      refine lv_iload_n hx hb d_AdjoinedSets_giveValues_17 rfl (lv_at hl 1 rfl) ?_
      obtain ⟨v5, e6, hs⟩ := ob hs
      refine pg_laload C hw (t0 := 2) rfl e6 d_AdjoinedSets_giveValues_18 ?_
      obtain ⟨_, e7, hs⟩ := ob hs
      obtain ⟨q8, e9, hs⟩ := ob hs
      refine pg_callV C hw hl.1 ml_AdjoinedSets_170 e7 (As := [.int x1, .long v5]) (rest := []) (c_Worker_give l g e9) rfl (rm_ok (Nat.le_of_ble_eq_true rfl) (Nat.le_of_ble_eq_true rfl)) (Nat.le_of_ble_eq_true rfl) rfl (st1 := []) rfl d_AdjoinedSets_giveValues_19 (fun H locs hw => ?_)
      refine lv_iinc hx hb d_AdjoinedSets_giveValues_22 hl (k := 1) rfl (v := (x1 + 1)) (iinc_e _ (by decide)) (by decide) (lv' := [(1, .int (x1 + 1)), (0, .ref (aD g x0))]) rfl (fun ls hl => ?_)
      refine lv_goto hx hb d_AdjoinedSets_giveValues_25 (tgt := 2) (by decide) ?_
      exact ih hw (lv_sub hl [1, 0] rfl) hs

def s_AdjoinedSets_giveValues (x0 : Nat) (h : HP) : Option (HP) :=
  s_AdjoinedSets_giveValues_2 20000 x0 0 h
set_option maxHeartbeats 4000000 in
set_option maxRecDepth 100000 in
theorem c_AdjoinedSets_giveValues (l : Launch) (g : GG) {x0 : Nat} {h : HP} {z : HP} (hs : s_AdjoinedSets_giveValues x0 h = some z) : Ct l g y_AdjoinedSets_giveValues w_AdjoinedSets_giveValues (rmS 1 23) [.ref (aD g x0)] h none z := by
  refine Ct.of (own := R_AdjoinedSets) (by decide) rfl rfl (Nat.le_of_ble_eq_true rfl) ?_
  intro p e s m args below meth c ls C hl hw
  have hx := C.1
  have hb := C.2.1
  have hl : lv_has ls 2 [(0, .ref (aD g x0))] := hl
  unfold s_AdjoinedSets_giveValues at hs
  refine lv_iconst (v := 0) hx hb d_AdjoinedSets_giveValues_0 (by decide) ?_
  refine lv_istore_n hx hb d_AdjoinedSets_giveValues_1 rfl hl (by decide) (lv' := [(1, .int 0), (0, .ref (aD g x0))]) rfl (fun ls hl => ?_)
  exact k_AdjoinedSets_giveValues_2 C 20000 hw (lv_sub hl [1, 0] rfl) hs

end
section
variable {p : Program} {l : Launch} {e : Env} {s : State} {m : MethodId} {args : Array Value} {below : List Frame} {meth : Method} {c : Code} {g : GG}
theorem d_AdjoinedSets_rankOf_0 : decode b_AdjoinedSets_rankOf 0 = .ok (.iconst 0, 1) := by decide +kernel
theorem d_AdjoinedSets_rankOf_1 : decode b_AdjoinedSets_rankOf 1 = .ok (.istore_n 3, 1) := by decide +kernel
theorem d_AdjoinedSets_rankOf_2 : decode b_AdjoinedSets_rankOf 2 = .ok (.iload_n 2, 1) := by decide +kernel
theorem d_AdjoinedSets_rankOf_3 : decode b_AdjoinedSets_rankOf 3 = .ok (.iconst 5, 1) := by decide +kernel
theorem d_AdjoinedSets_rankOf_4 : decode b_AdjoinedSets_rankOf 4 = .ok (.if_icmp .ge 53, 3) := by decide +kernel
theorem d_AdjoinedSets_rankOf_7 : decode b_AdjoinedSets_rankOf 7 = .ok (.iconst 0, 1) := by decide +kernel
theorem d_AdjoinedSets_rankOf_8 : decode b_AdjoinedSets_rankOf 8 = .ok (.istore 4, 2) := by decide +kernel
theorem d_AdjoinedSets_rankOf_10 : decode b_AdjoinedSets_rankOf 10 = .ok (.iload 4, 2) := by decide +kernel
theorem d_AdjoinedSets_rankOf_12 : decode b_AdjoinedSets_rankOf 12 = .ok (.bipush 62, 2) := by decide +kernel
theorem d_AdjoinedSets_rankOf_14 : decode b_AdjoinedSets_rankOf 14 = .ok (.if_icmp .ge 43, 3) := by decide +kernel
theorem d_AdjoinedSets_rankOf_17 : decode b_AdjoinedSets_rankOf 17 = .ok (.lload_n 0, 1) := by decide +kernel
theorem d_AdjoinedSets_rankOf_18 : decode b_AdjoinedSets_rankOf 18 = .ok (.iload 4, 2) := by decide +kernel
theorem d_AdjoinedSets_rankOf_20 : decode b_AdjoinedSets_rankOf 20 = .ok (.lshr, 1) := by decide +kernel
theorem d_AdjoinedSets_rankOf_21 : decode b_AdjoinedSets_rankOf 21 = .ok (.lconst 0, 1) := by decide +kernel
theorem d_AdjoinedSets_rankOf_22 : decode b_AdjoinedSets_rankOf 22 = .ok (.lcmp, 1) := by decide +kernel
theorem d_AdjoinedSets_rankOf_23 : decode b_AdjoinedSets_rankOf 23 = .ok (.ifCond .eq 34, 3) := by decide +kernel
theorem d_AdjoinedSets_rankOf_26 : decode b_AdjoinedSets_rankOf 26 = .ok (.lload_n 0, 1) := by decide +kernel
theorem d_AdjoinedSets_rankOf_27 : decode b_AdjoinedSets_rankOf 27 = .ok (.iload 4, 2) := by decide +kernel
theorem d_AdjoinedSets_rankOf_29 : decode b_AdjoinedSets_rankOf 29 = .ok (.invokestatic 161, 3) := by decide +kernel
theorem d_AdjoinedSets_rankOf_32 : decode b_AdjoinedSets_rankOf 32 = .ok (.ifCond .eq 19, 3) := by decide +kernel
theorem d_AdjoinedSets_rankOf_35 : decode b_AdjoinedSets_rankOf 35 = .ok (.iload_n 3, 1) := by decide +kernel
theorem d_AdjoinedSets_rankOf_36 : decode b_AdjoinedSets_rankOf 36 = .ok (.iload 4, 2) := by decide +kernel
theorem d_AdjoinedSets_rankOf_38 : decode b_AdjoinedSets_rankOf 38 = .ok (.i2l, 1) := by decide +kernel
theorem d_AdjoinedSets_rankOf_39 : decode b_AdjoinedSets_rankOf 39 = .ok (.iload_n 2, 1) := by decide +kernel
theorem d_AdjoinedSets_rankOf_40 : decode b_AdjoinedSets_rankOf 40 = .ok (.iconst 1, 1) := by decide +kernel
theorem d_AdjoinedSets_rankOf_41 : decode b_AdjoinedSets_rankOf 41 = .ok (.iadd, 1) := by decide +kernel
theorem d_AdjoinedSets_rankOf_42 : decode b_AdjoinedSets_rankOf 42 = .ok (.invokestatic 156, 3) := by decide +kernel
theorem d_AdjoinedSets_rankOf_45 : decode b_AdjoinedSets_rankOf 45 = .ok (.iconst 1, 1) := by decide +kernel
theorem d_AdjoinedSets_rankOf_46 : decode b_AdjoinedSets_rankOf 46 = .ok (.iadd, 1) := by decide +kernel
theorem d_AdjoinedSets_rankOf_47 : decode b_AdjoinedSets_rankOf 47 = .ok (.invokestatic 165, 3) := by decide +kernel
theorem d_AdjoinedSets_rankOf_50 : decode b_AdjoinedSets_rankOf 50 = .ok (.istore_n 3, 1) := by decide +kernel
theorem d_AdjoinedSets_rankOf_51 : decode b_AdjoinedSets_rankOf 51 = .ok (.iinc 4 1, 3) := by decide +kernel
theorem d_AdjoinedSets_rankOf_54 : decode b_AdjoinedSets_rankOf 54 = .ok (.goto (-44), 3) := by decide +kernel
theorem d_AdjoinedSets_rankOf_57 : decode b_AdjoinedSets_rankOf 57 = .ok (.iload_n 3, 1) := by decide +kernel
theorem d_AdjoinedSets_rankOf_58 : decode b_AdjoinedSets_rankOf 58 = .ok (.ireturn, 1) := by decide +kernel
abbrev GT_AdjoinedSets_rankOf : Type := (Int64 → Int32 → Option Int32)
abbrev HG_AdjoinedSets_rankOf (l : Launch) (g : GG) (gf : GT_AdjoinedSets_rankOf) (n : Nat) : Prop :=
  (∀ {h : HP} {x0 : Int64} {x2 : Int32} {z : Int32}, gf x0 x2 = some z → Ct l g y_AdjoinedSets_rankOf w_AdjoinedSets_rankOf (rmS (n + 1) (n * 24 + 60)) [.long x0, .int x2] h (some (.int z)) h)
def s_AdjoinedSets_rankOf_51 (gf : GT_AdjoinedSets_rankOf) (c10 : Int64 → Int32 → Int32 → Int32 → Option (Int32)) (x0 : Int64) (x2 : Int32) (x3 : Int32) (x4 : Int32) : Option (Int32) :=
  c10 x0 x2 x3 (x4 + 1)
set_option maxHeartbeats 4000000 in
set_option maxRecDepth 100000 in
theorem k_AdjoinedSets_rankOf_51 {h : HP} {x0 : Int64} {x2 : Int32} {x3 : Int32} {x4 : Int32} {z : Int32} (C : CX g R_AdjoinedSets b_AdjoinedSets_rankOf 5 (some .int) p s m args meth c) (gf : GT_AdjoinedSets_rankOf) (n : Nat) (hG : HG_AdjoinedSets_rankOf l g gf n) (c10 : Int64 → Int32 → Int32 → Int32 → Option (Int32))
    (hc10 : ∀ {x0 : Int64} {x2 : Int32} {x3 : Int32} {x4 : Int32} {H : Heap} {locs : List Loc} {ls : Array Slot}, WD g h s.heap H locs → lv_has ls 5 [(0, .long x0), (2, .int x2), (3, .int x3), (4, .int x4)] → c10 x0 x2 x3 x4 = some z → W p l e (rmS (n + 1 + 1) ((n + 1) * 24 + 60)) s m args below meth c H locs 0 0 (MQ below (Qq g (some (.int z)) h) args s 0 0 (inA g)) (F0 m 10 ls [])) {H : Heap} {locs : List Loc} {ls : Array Slot} (hw : WD g h s.heap H locs) (hl : lv_has ls 5 [(0, .long x0), (2, .int x2), (3, .int x3), (4, .int x4)]) (hs : s_AdjoinedSets_rankOf_51 gf c10 x0 x2 x3 x4 = some z) : W p l e (rmS (n + 1 + 1) ((n + 1) * 24 + 60)) s m args below meth c H locs 0 0 (MQ below (Qq g (some (.int z)) h) args s 0 0 (inA g)) (F0 m 51 ls []) := by
  unfold s_AdjoinedSets_rankOf_51 at hs
  have hx := C.1
  have hb := C.2.1
  refine lv_iinc hx hb d_AdjoinedSets_rankOf_51 hl (k := 3) rfl (v := (x4 + 1)) (iinc_e _ (by decide)) (by decide) (lv' := [(4, .int (x4 + 1)), (0, .long x0), (2, .int x2), (3, .int x3)]) rfl (fun ls hl => ?_)
  refine lv_goto hx hb d_AdjoinedSets_rankOf_54 (tgt := 10) (by decide) ?_
  exact hc10 hw (lv_sub hl [1, 2, 3, 0] rfl) hs

def s_AdjoinedSets_rankOf_10 (gf : GT_AdjoinedSets_rankOf) : Nat → Int64 → Int32 → Int32 → Int32 → Option (Int32)
  | 0 => fun _ _ _ _ => none
  | k + 1 => fun x0 x2 x3 x4 =>
  if 62 ≤ x4 then (
    some x3)
  else (
    if (lg_cmp (x0 >>> (x4.toInt64 &&& 63)) 0) = 0 then (
      some x3)
    else (
      (s_AdjoinedSets_isMember x0 x4).bind fun q1 =>
      if q1 = 0 then (
        s_AdjoinedSets_rankOf_51 gf (s_AdjoinedSets_rankOf_10 gf k) x0 x2 x3 x4)
      else (
        (gf x4.toInt64 (x2 + 1)).bind fun q3 =>
        s_AdjoinedSets_rankOf_51 gf (s_AdjoinedSets_rankOf_10 gf k) x0 x2 (if x3 < (q3 + 1) then (q3 + 1) else x3) x4)))
set_option maxHeartbeats 4000000 in
set_option maxRecDepth 100000 in
theorem k_AdjoinedSets_rankOf_10 {h : HP} {z : Int32} (C : CX g R_AdjoinedSets b_AdjoinedSets_rankOf 5 (some .int) p s m args meth c) (gf : GT_AdjoinedSets_rankOf) (n : Nat) (hG : HG_AdjoinedSets_rankOf l g gf n) : ∀ (k : Nat) {x0 : Int64} {x2 : Int32} {x3 : Int32} {x4 : Int32} {H : Heap} {locs : List Loc} {ls : Array Slot}, WD g h s.heap H locs → lv_has ls 5 [(0, .long x0), (2, .int x2), (3, .int x3), (4, .int x4)] → s_AdjoinedSets_rankOf_10 gf k x0 x2 x3 x4 = some z → W p l e (rmS (n + 1 + 1) ((n + 1) * 24 + 60)) s m args below meth c H locs 0 0 (MQ below (Qq g (some (.int z)) h) args s 0 0 (inA g)) (F0 m 10 ls []) := by
  have hx := C.1
  have hb := C.2.1
  intro k
  induction k with
  | zero =>
    intro x0 x2 x3 x4 H locs ls hw hl hs
    exact (no_s hs).elim
  | succ k ih =>
    intro x0 x2 x3 x4 H locs ls hw hl hs
    rw [s_AdjoinedSets_rankOf_10] at hs
    refine lv_iload hx hb d_AdjoinedSets_rankOf_10 (lv_at hl 3 rfl) ?_
    refine lv_bipush (v := 62) hx hb d_AdjoinedSets_rankOf_12 (by decide) ?_
    refine lv_icmp_ge hx hb d_AdjoinedSets_rankOf_14 (tgt := 57) (by decide) (fun hc => ?_) (fun hc => ?_)
    · have hs := oi_t hc hs
      refine lv_iload_n hx hb d_AdjoinedSets_rankOf_57 rfl (lv_at hl 2 rfl) ?_
      obtain rfl := Option.some.inj hs
      exact pg_iret C hw d_AdjoinedSets_rankOf_58
    · have hs := oi_f hc hs
      refine lv_lload_n hx hb d_AdjoinedSets_rankOf_17 rfl (lv_at hl 0 rfl) ?_
      refine lv_iload hx hb d_AdjoinedSets_rankOf_18 (lv_at hl 3 rfl) ?_
      refine lv_lshr (v := (x0 >>> (x4.toInt64 &&& 63))) hx hb d_AdjoinedSets_rankOf_20 rfl ?_
      refine lv_lconst (v := 0) hx hb d_AdjoinedSets_rankOf_21 (by decide) ?_
      refine W.lcmp hx hb d_AdjoinedSets_rankOf_22 ?_
      refine lv_if_eq hx hb d_AdjoinedSets_rankOf_23 (tgt := 57) (by decide) (fun hc => ?_) (fun hc => ?_)
      · have hs := oi_t hc hs
        refine lv_iload_n hx hb d_AdjoinedSets_rankOf_57 rfl (lv_at hl 2 rfl) ?_
        obtain rfl := Option.some.inj hs
        exact pg_iret C hw d_AdjoinedSets_rankOf_58
      · have hs := oi_f hc hs
        refine lv_lload_n hx hb d_AdjoinedSets_rankOf_26 rfl (lv_at hl 0 rfl) ?_
        refine lv_iload hx hb d_AdjoinedSets_rankOf_27 (lv_at hl 3 rfl) ?_
        obtain ⟨q1, e2, hs⟩ := ob hs
        refine pg_callS C hw hl.1 ml_AdjoinedSets_161 (As := [.long x0, .int x4]) (rest := []) (c_AdjoinedSets_isMember l g e2) rfl (rm_ok (by omega) (by omega)) (Nat.le_of_ble_eq_true rfl) rfl (st1 := [.int q1]) rfl d_AdjoinedSets_rankOf_29 (fun H locs hw => ?_)
        refine lv_if_eq hx hb d_AdjoinedSets_rankOf_32 (tgt := 51) (by decide) (fun hc => ?_) (fun hc => ?_)
        · have hs := oi_t hc hs
          exact k_AdjoinedSets_rankOf_51 C gf n hG (s_AdjoinedSets_rankOf_10 gf k) ih hw (lv_sub hl [0, 1, 2, 3] rfl) hs
        · have hs := oi_f hc hs
          refine lv_iload_n hx hb d_AdjoinedSets_rankOf_35 rfl (lv_at hl 2 rfl) ?_
          refine lv_iload hx hb d_AdjoinedSets_rankOf_36 (lv_at hl 3 rfl) ?_
          refine lv_i2l (v := x4.toInt64) hx hb d_AdjoinedSets_rankOf_38 rfl ?_
          refine lv_iload_n hx hb d_AdjoinedSets_rankOf_39 rfl (lv_at hl 1 rfl) ?_
          refine lv_iconst (v := 1) hx hb d_AdjoinedSets_rankOf_40 (by decide) ?_
          refine lv_iadd hx hb d_AdjoinedSets_rankOf_41 ?_
          obtain ⟨q3, e4, hs⟩ := ob hs
          refine pg_callS C hw hl.1 ml_AdjoinedSets_156 (As := [.long x4.toInt64, .int (x2 + 1)]) (rest := [.int x3]) (hG e4) rfl (rm_ok (by omega) (by omega)) (Nat.le_of_ble_eq_true rfl) rfl (st1 := [.int q3, .int x3]) rfl d_AdjoinedSets_rankOf_42 (fun H locs hw => ?_)
          refine lv_iconst (v := 1) hx hb d_AdjoinedSets_rankOf_45 (by decide) ?_
          refine lv_iadd hx hb d_AdjoinedSets_rankOf_46 ?_
          refine va_mmax hx hb (by rw [C.2.2.1, hl.1]) C.own (C.w ml_AdjoinedSets_165.1) (C.w ml_AdjoinedSets_165.2.1) (C.w ml_AdjoinedSets_165.2.2.1) (C.w ml_AdjoinedSets_165.2.2.2) (by simp only [rmS]; omega) (by simp only [rmS, List.map, Value.category, List.sum_cons, List.sum_nil]; omega) (Nat.zero_le _) (Nat.zero_le _) d_AdjoinedSets_rankOf_47 ?_
          refine lv_istore_n hx hb d_AdjoinedSets_rankOf_50 rfl hl (by decide) (lv' := [(3, .int (if x3 < (q3 + 1) then (q3 + 1) else x3)), (0, .long x0), (2, .int x2), (4, .int x4)]) rfl (fun ls hl => ?_)
          exact k_AdjoinedSets_rankOf_51 C gf n hG (s_AdjoinedSets_rankOf_10 gf k) ih hw (lv_sub hl [1, 2, 0, 3] rfl) hs

def s_AdjoinedSets_rankOf (gf : GT_AdjoinedSets_rankOf) (x0 : Int64) (x2 : Int32) : Option (Int32) :=
  if 5 ≤ x2 then (
    some 0)
  else (
    s_AdjoinedSets_rankOf_10 gf 20000 x0 x2 0 0)
set_option maxHeartbeats 4000000 in
set_option maxRecDepth 100000 in
theorem c_AdjoinedSets_rankOf (l : Launch) (g : GG) (gf : GT_AdjoinedSets_rankOf) (n : Nat) (hG : HG_AdjoinedSets_rankOf l g gf n) {h : HP} {x0 : Int64} {x2 : Int32} {z : Int32} (hs : s_AdjoinedSets_rankOf gf x0 x2 = some z) : Ct l g y_AdjoinedSets_rankOf w_AdjoinedSets_rankOf (rmS (n + 1 + 1) ((n + 1) * 24 + 60)) [.long x0, .int x2] h (some (.int z)) h := by
  refine Ct.of (own := R_AdjoinedSets) (by decide) rfl rfl (Nat.le_of_ble_eq_true rfl) ?_
  intro p e s m args below meth c ls C hl hw
  have hx := C.1
  have hb := C.2.1
  have hl : lv_has ls 5 [(0, .long x0), (2, .int x2)] := hl
  unfold s_AdjoinedSets_rankOf at hs
  refine lv_iconst (v := 0) hx hb d_AdjoinedSets_rankOf_0 (by decide) ?_
  refine lv_istore_n hx hb d_AdjoinedSets_rankOf_1 rfl hl (by decide) (lv' := [(3, .int 0), (0, .long x0), (2, .int x2)]) rfl (fun ls hl => ?_)
  refine lv_iload_n hx hb d_AdjoinedSets_rankOf_2 rfl (lv_at hl 2 rfl) ?_
  refine lv_iconst (v := 5) hx hb d_AdjoinedSets_rankOf_3 (by decide) ?_
  refine lv_icmp_ge hx hb d_AdjoinedSets_rankOf_4 (tgt := 57) (by decide) (fun hc => ?_) (fun hc => ?_)
  · have hs := oi_t hc hs
    refine lv_iload_n hx hb d_AdjoinedSets_rankOf_57 rfl (lv_at hl 0 rfl) ?_
    obtain rfl := Option.some.inj hs
    exact pg_iret C hw d_AdjoinedSets_rankOf_58
  · have hs := oi_f hc hs
    refine lv_iconst (v := 0) hx hb d_AdjoinedSets_rankOf_7 (by decide) ?_
    refine lv_istore hx hb d_AdjoinedSets_rankOf_8 hl (by decide) (lv' := [(4, .int 0), (3, .int 0), (0, .long x0), (2, .int x2)]) rfl (fun ls hl => ?_)
    exact k_AdjoinedSets_rankOf_10 C gf n hG 20000 hw (lv_sub hl [2, 3, 1, 0] rfl) hs

def s_grp_AdjoinedSets_rankOf : Nat → GT_AdjoinedSets_rankOf
  | 0 => fun _ _ => none
  | n + 1 => s_AdjoinedSets_rankOf (s_grp_AdjoinedSets_rankOf n)
theorem cg_AdjoinedSets_rankOf (l : Launch) (g : GG) : ∀ n : Nat, HG_AdjoinedSets_rankOf l g (s_grp_AdjoinedSets_rankOf n) n := by
  intro n
  induction n with
  | zero => exact fun hs => (no_s hs).elim
  | succ n ih => exact fun hs => c_AdjoinedSets_rankOf l g (s_grp_AdjoinedSets_rankOf n) n ih hs

end
section
variable {p : Program} {l : Launch} {e : Env} {s : State} {m : MethodId} {args : Array Value} {below : List Frame} {meth : Method} {c : Code} {g : GG}
theorem d_AdjoinedSets_isCode_0 : decode b_AdjoinedSets_isCode 0 = .ok (.lload_n 0, 1) := by decide +kernel
theorem d_AdjoinedSets_isCode_1 : decode b_AdjoinedSets_isCode 1 = .ok (.lconst 0, 1) := by decide +kernel
theorem d_AdjoinedSets_isCode_2 : decode b_AdjoinedSets_isCode 2 = .ok (.lcmp, 1) := by decide +kernel
theorem d_AdjoinedSets_isCode_3 : decode b_AdjoinedSets_isCode 3 = .ok (.ifCond .lt 15, 3) := by decide +kernel
theorem d_AdjoinedSets_isCode_6 : decode b_AdjoinedSets_isCode 6 = .ok (.lload_n 0, 1) := by decide +kernel
theorem d_AdjoinedSets_isCode_7 : decode b_AdjoinedSets_isCode 7 = .ok (.ldc2_w 159, 3) := by decide +kernel
theorem d_AdjoinedSets_isCode_10 : decode b_AdjoinedSets_isCode 10 = .ok (.lcmp, 1) := by decide +kernel
theorem d_AdjoinedSets_isCode_11 : decode b_AdjoinedSets_isCode 11 = .ok (.ifCond .gt 7, 3) := by decide +kernel
theorem d_AdjoinedSets_isCode_14 : decode b_AdjoinedSets_isCode 14 = .ok (.iconst 1, 1) := by decide +kernel
theorem d_AdjoinedSets_isCode_15 : decode b_AdjoinedSets_isCode 15 = .ok (.goto 4, 3) := by decide +kernel
theorem d_AdjoinedSets_isCode_18 : decode b_AdjoinedSets_isCode 18 = .ok (.iconst 0, 1) := by decide +kernel
theorem d_AdjoinedSets_isCode_19 : decode b_AdjoinedSets_isCode 19 = .ok (.ireturn, 1) := by decide +kernel
def s_AdjoinedSets_isCode (x0 : Int64) : Option (Int32) :=
  if (lg_cmp x0 0) < 0 then (
    some 0)
  else (
    if 0 < (lg_cmp x0 4611686018427387903) then (
      some 0)
    else (
      some 1))
set_option maxHeartbeats 4000000 in
set_option maxRecDepth 100000 in
theorem c_AdjoinedSets_isCode (l : Launch) (g : GG) {h : HP} {x0 : Int64} {z : Int32} (hs : s_AdjoinedSets_isCode x0 = some z) : Ct l g y_AdjoinedSets_isCode w_AdjoinedSets_isCode (rmS 0 0) [.long x0] h (some (.int z)) h := by
  refine Ct.of (own := R_AdjoinedSets) (by decide) rfl rfl (Nat.le_of_ble_eq_true rfl) ?_
  intro p e s m args below meth c ls C hl hw
  have hx := C.1
  have hb := C.2.1
  have hl : lv_has ls 2 [(0, .long x0)] := hl
  unfold s_AdjoinedSets_isCode at hs
  refine lv_lload_n hx hb d_AdjoinedSets_isCode_0 rfl (lv_at hl 0 rfl) ?_
  refine lv_lconst (v := 0) hx hb d_AdjoinedSets_isCode_1 (by decide) ?_
  refine W.lcmp hx hb d_AdjoinedSets_isCode_2 ?_
  refine lv_if_lt hx hb d_AdjoinedSets_isCode_3 (tgt := 18) (by decide) (fun hc => ?_) (fun hc => ?_)
  · have hs := oi_t hc hs
    refine lv_iconst (v := 0) hx hb d_AdjoinedSets_isCode_18 (by decide) ?_
    obtain rfl := Option.some.inj hs
    exact pg_zret (v := 0) C hw rfl d_AdjoinedSets_isCode_19
  · have hs := oi_f hc hs
    refine lv_lload_n hx hb d_AdjoinedSets_isCode_6 rfl (lv_at hl 0 rfl) ?_
    refine lv_ldc2 (v := 4611686018427387903) hx hb C.own (C.w kc_AdjoinedSets_159) d_AdjoinedSets_isCode_7 ?_
    refine W.lcmp hx hb d_AdjoinedSets_isCode_10 ?_
    refine lv_if_gt hx hb d_AdjoinedSets_isCode_11 (tgt := 18) (by decide) (fun hc => ?_) (fun hc => ?_)
    · have hs := oi_t hc hs
      refine lv_iconst (v := 0) hx hb d_AdjoinedSets_isCode_18 (by decide) ?_
      obtain rfl := Option.some.inj hs
      exact pg_zret (v := 0) C hw rfl d_AdjoinedSets_isCode_19
    · have hs := oi_f hc hs
      refine lv_iconst (v := 1) hx hb d_AdjoinedSets_isCode_14 (by decide) ?_
      refine lv_goto hx hb d_AdjoinedSets_isCode_15 (tgt := 19) (by decide) ?_
      obtain rfl := Option.some.inj hs
      exact pg_zret (v := 1) C hw rfl d_AdjoinedSets_isCode_19

end
section
variable {p : Program} {l : Launch} {e : Env} {s : State} {m : MethodId} {args : Array Value} {below : List Frame} {meth : Method} {c : Code} {g : GG}
theorem d_AdjoinedSets_byteAt_0 : decode b_AdjoinedSets_byteAt 0 = .ok (.lload_n 0, 1) := by decide +kernel
theorem d_AdjoinedSets_byteAt_1 : decode b_AdjoinedSets_byteAt 1 = .ok (.bipush 8, 2) := by decide +kernel
theorem d_AdjoinedSets_byteAt_3 : decode b_AdjoinedSets_byteAt 3 = .ok (.iload_n 2, 1) := by decide +kernel
theorem d_AdjoinedSets_byteAt_4 : decode b_AdjoinedSets_byteAt 4 = .ok (.imul, 1) := by decide +kernel
theorem d_AdjoinedSets_byteAt_5 : decode b_AdjoinedSets_byteAt 5 = .ok (.lshr, 1) := by decide +kernel
theorem d_AdjoinedSets_byteAt_6 : decode b_AdjoinedSets_byteAt 6 = .ok (.l2i, 1) := by decide +kernel
theorem d_AdjoinedSets_byteAt_7 : decode b_AdjoinedSets_byteAt 7 = .ok (.sipush 255, 3) := by decide +kernel
theorem d_AdjoinedSets_byteAt_10 : decode b_AdjoinedSets_byteAt 10 = .ok (.iand, 1) := by decide +kernel
theorem d_AdjoinedSets_byteAt_11 : decode b_AdjoinedSets_byteAt 11 = .ok (.ireturn, 1) := by decide +kernel
def s_AdjoinedSets_byteAt (x0 : Int64) (x2 : Int32) : Option (Int32) :=
  some ((x0 >>> ((8 * x2).toInt64 &&& 63)).toInt32 &&& 255)
set_option maxHeartbeats 4000000 in
set_option maxRecDepth 100000 in
theorem c_AdjoinedSets_byteAt (l : Launch) (g : GG) {h : HP} {x0 : Int64} {x2 : Int32} {z : Int32} (hs : s_AdjoinedSets_byteAt x0 x2 = some z) : Ct l g y_AdjoinedSets_byteAt w_AdjoinedSets_byteAt (rmS 0 0) [.long x0, .int x2] h (some (.int z)) h := by
  refine Ct.of (own := R_AdjoinedSets) (by decide) rfl rfl (Nat.le_of_ble_eq_true rfl) ?_
  intro p e s m args below meth c ls C hl hw
  have hx := C.1
  have hb := C.2.1
  have hl : lv_has ls 3 [(0, .long x0), (2, .int x2)] := hl
  unfold s_AdjoinedSets_byteAt at hs
  refine lv_lload_n hx hb d_AdjoinedSets_byteAt_0 rfl (lv_at hl 0 rfl) ?_
  refine lv_bipush (v := 8) hx hb d_AdjoinedSets_byteAt_1 (by decide) ?_
  refine lv_iload_n hx hb d_AdjoinedSets_byteAt_3 rfl (lv_at hl 1 rfl) ?_
  refine lv_imul hx hb d_AdjoinedSets_byteAt_4 ?_
  refine lv_lshr (v := (x0 >>> ((8 * x2).toInt64 &&& 63))) hx hb d_AdjoinedSets_byteAt_5 rfl ?_
  refine lv_l2i (v := (x0 >>> ((8 * x2).toInt64 &&& 63)).toInt32) hx hb d_AdjoinedSets_byteAt_6 rfl ?_
  refine lv_sipush (v := 255) hx hb d_AdjoinedSets_byteAt_7 (by decide) ?_
  refine lv_iand hx hb d_AdjoinedSets_byteAt_10 ?_
  obtain rfl := Option.some.inj hs
  exact pg_iret C hw d_AdjoinedSets_byteAt_11

end
section
variable {p : Program} {l : Launch} {e : Env} {s : State} {m : MethodId} {args : Array Value} {below : List Frame} {meth : Method} {c : Code} {g : GG}
theorem d_AdjoinedSets_rank_0 : decode b_AdjoinedSets_rank 0 = .ok (.lload_n 1, 1) := by decide +kernel
theorem d_AdjoinedSets_rank_1 : decode b_AdjoinedSets_rank 1 = .ok (.invokestatic 76, 3) := by decide +kernel
theorem d_AdjoinedSets_rank_4 : decode b_AdjoinedSets_rank 4 = .ok (.ifCond .eq 11, 3) := by decide +kernel
theorem d_AdjoinedSets_rank_7 : decode b_AdjoinedSets_rank 7 = .ok (.lload_n 1, 1) := by decide +kernel
theorem d_AdjoinedSets_rank_8 : decode b_AdjoinedSets_rank 8 = .ok (.iconst 0, 1) := by decide +kernel
theorem d_AdjoinedSets_rank_9 : decode b_AdjoinedSets_rank 9 = .ok (.invokestatic 156, 3) := by decide +kernel
theorem d_AdjoinedSets_rank_12 : decode b_AdjoinedSets_rank 12 = .ok (.goto 4, 3) := by decide +kernel
theorem d_AdjoinedSets_rank_15 : decode b_AdjoinedSets_rank 15 = .ok (.iconst (-1), 1) := by decide +kernel
theorem d_AdjoinedSets_rank_16 : decode b_AdjoinedSets_rank 16 = .ok (.ireturn, 1) := by decide +kernel
def s_AdjoinedSets_rank (x0 : Nat) (x1 : Int64) : Option (Int32) :=
  (s_AdjoinedSets_isCode x1).bind fun q1 =>
  if q1 = 0 then (
    some (-1))
  else (
    ((s_grp_AdjoinedSets_rankOf 7) x1 0).bind fun q3 =>
    some q3)
set_option maxHeartbeats 4000000 in
set_option maxRecDepth 100000 in
theorem c_AdjoinedSets_rank (l : Launch) (g : GG) {h : HP} {x0 : Nat} {x1 : Int64} {z : Int32} (hs : s_AdjoinedSets_rank x0 x1 = some z) : Ct l g y_AdjoinedSets_rank w_AdjoinedSets_rank (rmS 9 252) [.ref (aD g x0), .long x1] h (some (.int z)) h := by
  refine Ct.of (own := R_AdjoinedSets) (by decide) rfl rfl (Nat.le_of_ble_eq_true rfl) ?_
  intro p e s m args below meth c ls C hl hw
  have hx := C.1
  have hb := C.2.1
  have hl : lv_has ls 3 [(0, .ref (aD g x0)), (1, .long x1)] := hl
  unfold s_AdjoinedSets_rank at hs
  refine lv_lload_n hx hb d_AdjoinedSets_rank_0 rfl (lv_at hl 1 rfl) ?_
  obtain ⟨q1, e2, hs⟩ := ob hs
  refine pg_callS C hw hl.1 ml_AdjoinedSets_76 (As := [.long x1]) (rest := []) (c_AdjoinedSets_isCode l g e2) rfl (rm_ok (Nat.le_of_ble_eq_true rfl) (Nat.le_of_ble_eq_true rfl)) (Nat.le_of_ble_eq_true rfl) rfl (st1 := [.int q1]) rfl d_AdjoinedSets_rank_1 (fun H locs hw => ?_)
  refine lv_if_eq hx hb d_AdjoinedSets_rank_4 (tgt := 15) (by decide) (fun hc => ?_) (fun hc => ?_)
  · have hs := oi_t hc hs
    refine lv_iconst (v := (-1)) hx hb d_AdjoinedSets_rank_15 (by decide) ?_
    obtain rfl := Option.some.inj hs
    exact pg_iret C hw d_AdjoinedSets_rank_16
  · have hs := oi_f hc hs
    refine lv_lload_n hx hb d_AdjoinedSets_rank_7 rfl (lv_at hl 1 rfl) ?_
    refine lv_iconst (v := 0) hx hb d_AdjoinedSets_rank_8 (by decide) ?_
    obtain ⟨q3, e4, hs⟩ := ob hs
    refine pg_callS C hw hl.1 ml_AdjoinedSets_156 (As := [.long x1, .int 0]) (rest := []) ((cg_AdjoinedSets_rankOf l g 7) e4) rfl (rm_ok (Nat.le_of_ble_eq_true rfl) (Nat.le_of_ble_eq_true rfl)) (Nat.le_of_ble_eq_true rfl) rfl (st1 := [.int q3]) rfl d_AdjoinedSets_rank_9 (fun H locs hw => ?_)
    refine lv_goto hx hb d_AdjoinedSets_rank_12 (tgt := 16) (by decide) ?_
    obtain rfl := Option.some.inj hs
    exact pg_iret C hw d_AdjoinedSets_rank_16

end
