section
variable {p : Program} {l : Launch} {e : Env} {s : State} {m : MethodId} {args : Array Value} {below : List Frame} {meth : Method} {c : Code} {g : GG}
theorem d_AdjoinedSetsModel_isCode_0 : decode b_AdjoinedSetsModel_isCode 0 = .ok (.lload_n 0, 1) := by decide +kernel
theorem d_AdjoinedSetsModel_isCode_1 : decode b_AdjoinedSetsModel_isCode 1 = .ok (.lconst 0, 1) := by decide +kernel
theorem d_AdjoinedSetsModel_isCode_2 : decode b_AdjoinedSetsModel_isCode 2 = .ok (.lcmp, 1) := by decide +kernel
theorem d_AdjoinedSetsModel_isCode_3 : decode b_AdjoinedSetsModel_isCode 3 = .ok (.ifCond .lt 15, 3) := by decide +kernel
theorem d_AdjoinedSetsModel_isCode_6 : decode b_AdjoinedSetsModel_isCode 6 = .ok (.lload_n 0, 1) := by decide +kernel
theorem d_AdjoinedSetsModel_isCode_7 : decode b_AdjoinedSetsModel_isCode 7 = .ok (.ldc2_w 315, 3) := by decide +kernel
theorem d_AdjoinedSetsModel_isCode_10 : decode b_AdjoinedSetsModel_isCode 10 = .ok (.lcmp, 1) := by decide +kernel
theorem d_AdjoinedSetsModel_isCode_11 : decode b_AdjoinedSetsModel_isCode 11 = .ok (.ifCond .ge 7, 3) := by decide +kernel
theorem d_AdjoinedSetsModel_isCode_14 : decode b_AdjoinedSetsModel_isCode 14 = .ok (.iconst 1, 1) := by decide +kernel
theorem d_AdjoinedSetsModel_isCode_15 : decode b_AdjoinedSetsModel_isCode 15 = .ok (.goto 4, 3) := by decide +kernel
theorem d_AdjoinedSetsModel_isCode_18 : decode b_AdjoinedSetsModel_isCode 18 = .ok (.iconst 0, 1) := by decide +kernel
theorem d_AdjoinedSetsModel_isCode_19 : decode b_AdjoinedSetsModel_isCode 19 = .ok (.ireturn, 1) := by decide +kernel
def s_AdjoinedSetsModel_isCode (x0 : Int64) : Option (Int32) :=
  if (lg_cmp x0 0) < 0 then (
    some 0)
  else (
    if 0 ≤ (lg_cmp x0 4611686018427387904) then (
      some 0)
    else (
      some 1))
set_option maxHeartbeats 4000000 in
set_option maxRecDepth 100000 in
theorem c_AdjoinedSetsModel_isCode (l : Launch) (g : GG) {h : HP} {x0 : Int64} {z : Int32} (hs : s_AdjoinedSetsModel_isCode x0 = some z) : Ct l g y_AdjoinedSetsModel_isCode w_AdjoinedSetsModel_isCode (rmS 0 0) [.long x0] h (some (.int z)) h := by
  refine Ct.of (own := R_AdjoinedSetsModel) (by decide) rfl rfl (Nat.le_of_ble_eq_true rfl) ?_
  intro p e s m args below meth c ls C hl hw
  have hx := C.1
  have hb := C.2.1
  have hl : lv_has ls 2 [(0, .long x0)] := hl
  unfold s_AdjoinedSetsModel_isCode at hs
  refine lv_lload_n hx hb d_AdjoinedSetsModel_isCode_0 rfl (lv_at hl 0 rfl) ?_
  refine lv_lconst (v := 0) hx hb d_AdjoinedSetsModel_isCode_1 (by decide) ?_
  refine W.lcmp hx hb d_AdjoinedSetsModel_isCode_2 ?_
  refine lv_if_lt hx hb d_AdjoinedSetsModel_isCode_3 (tgt := 18) (by decide) (fun hc => ?_) (fun hc => ?_)
  · have hs := oi_t hc hs
    refine lv_iconst (v := 0) hx hb d_AdjoinedSetsModel_isCode_18 (by decide) ?_
    obtain rfl := Option.some.inj hs
    exact pg_zret (v := 0) C hw rfl d_AdjoinedSetsModel_isCode_19
  · have hs := oi_f hc hs
    refine lv_lload_n hx hb d_AdjoinedSetsModel_isCode_6 rfl (lv_at hl 0 rfl) ?_
    refine lv_ldc2 (v := 4611686018427387904) hx hb C.own (C.w kc_AdjoinedSetsModel_315) d_AdjoinedSetsModel_isCode_7 ?_
    refine W.lcmp hx hb d_AdjoinedSetsModel_isCode_10 ?_
    refine lv_if_ge hx hb d_AdjoinedSetsModel_isCode_11 (tgt := 18) (by decide) (fun hc => ?_) (fun hc => ?_)
    · have hs := oi_t hc hs
      refine lv_iconst (v := 0) hx hb d_AdjoinedSetsModel_isCode_18 (by decide) ?_
      obtain rfl := Option.some.inj hs
      exact pg_zret (v := 0) C hw rfl d_AdjoinedSetsModel_isCode_19
    · have hs := oi_f hc hs
      refine lv_iconst (v := 1) hx hb d_AdjoinedSetsModel_isCode_14 (by decide) ?_
      refine lv_goto hx hb d_AdjoinedSetsModel_isCode_15 (tgt := 19) (by decide) ?_
      obtain rfl := Option.some.inj hs
      exact pg_zret (v := 1) C hw rfl d_AdjoinedSetsModel_isCode_19

end
section
variable {p : Program} {l : Launch} {e : Env} {s : State} {m : MethodId} {args : Array Value} {below : List Frame} {meth : Method} {c : Code} {g : GG}
theorem d_AdjoinedSetsModel_union_0 : decode b_AdjoinedSetsModel_union 0 = .ok (.lconst 0, 1) := by decide +kernel
theorem d_AdjoinedSetsModel_union_1 : decode b_AdjoinedSetsModel_union 1 = .ok (.lstore_n 2, 1) := by decide +kernel
theorem d_AdjoinedSetsModel_union_2 : decode b_AdjoinedSetsModel_union 2 = .ok (.iconst 0, 1) := by decide +kernel
theorem d_AdjoinedSetsModel_union_3 : decode b_AdjoinedSetsModel_union 3 = .ok (.istore 4, 2) := by decide +kernel
theorem d_AdjoinedSetsModel_union_5 : decode b_AdjoinedSetsModel_union 5 = .ok (.iload 4, 2) := by decide +kernel
theorem d_AdjoinedSetsModel_union_7 : decode b_AdjoinedSetsModel_union 7 = .ok (.bipush 62, 2) := by decide +kernel
theorem d_AdjoinedSetsModel_union_9 : decode b_AdjoinedSetsModel_union 9 = .ok (.if_icmp .ge 30, 3) := by decide +kernel
theorem d_AdjoinedSetsModel_union_12 : decode b_AdjoinedSetsModel_union 12 = .ok (.lload_n 0, 1) := by decide +kernel
theorem d_AdjoinedSetsModel_union_13 : decode b_AdjoinedSetsModel_union 13 = .ok (.iload 4, 2) := by decide +kernel
theorem d_AdjoinedSetsModel_union_15 : decode b_AdjoinedSetsModel_union 15 = .ok (.lshr, 1) := by decide +kernel
theorem d_AdjoinedSetsModel_union_16 : decode b_AdjoinedSetsModel_union 16 = .ok (.lconst 1, 1) := by decide +kernel
theorem d_AdjoinedSetsModel_union_17 : decode b_AdjoinedSetsModel_union 17 = .ok (.land, 1) := by decide +kernel
theorem d_AdjoinedSetsModel_union_18 : decode b_AdjoinedSetsModel_union 18 = .ok (.lconst 1, 1) := by decide +kernel
theorem d_AdjoinedSetsModel_union_19 : decode b_AdjoinedSetsModel_union 19 = .ok (.lcmp, 1) := by decide +kernel
theorem d_AdjoinedSetsModel_union_20 : decode b_AdjoinedSetsModel_union 20 = .ok (.ifCond .ne 11, 3) := by decide +kernel
theorem d_AdjoinedSetsModel_union_23 : decode b_AdjoinedSetsModel_union 23 = .ok (.lload_n 2, 1) := by decide +kernel
theorem d_AdjoinedSetsModel_union_24 : decode b_AdjoinedSetsModel_union 24 = .ok (.iload 4, 2) := by decide +kernel
theorem d_AdjoinedSetsModel_union_26 : decode b_AdjoinedSetsModel_union 26 = .ok (.i2l, 1) := by decide +kernel
theorem d_AdjoinedSetsModel_union_27 : decode b_AdjoinedSetsModel_union 27 = .ok (.lor, 1) := by decide +kernel
theorem d_AdjoinedSetsModel_union_28 : decode b_AdjoinedSetsModel_union 28 = .ok (.goto 4, 3) := by decide +kernel
theorem d_AdjoinedSetsModel_union_31 : decode b_AdjoinedSetsModel_union 31 = .ok (.lload_n 2, 1) := by decide +kernel
theorem d_AdjoinedSetsModel_union_32 : decode b_AdjoinedSetsModel_union 32 = .ok (.lstore_n 2, 1) := by decide +kernel
theorem d_AdjoinedSetsModel_union_33 : decode b_AdjoinedSetsModel_union 33 = .ok (.iinc 4 1, 3) := by decide +kernel
theorem d_AdjoinedSetsModel_union_36 : decode b_AdjoinedSetsModel_union 36 = .ok (.goto (-31), 3) := by decide +kernel
theorem d_AdjoinedSetsModel_union_39 : decode b_AdjoinedSetsModel_union 39 = .ok (.lload_n 2, 1) := by decide +kernel
theorem d_AdjoinedSetsModel_union_40 : decode b_AdjoinedSetsModel_union 40 = .ok (.lreturn, 1) := by decide +kernel
def s_AdjoinedSetsModel_union_32 (c5 : Int64 → Int64 → Int32 → Option (Int64)) (x0 : Int64) (x4 : Int32) (t0 : Int64) : Option (Int64) :=
  c5 x0 t0 (x4 + 1)
set_option maxHeartbeats 4000000 in
set_option maxRecDepth 100000 in
theorem k_AdjoinedSetsModel_union_32 {h : HP} {x0 : Int64} {x4 : Int32} {t0 : Int64} {z : Int64} (C : CX g R_AdjoinedSetsModel b_AdjoinedSetsModel_union 5 (some .long) p s m args meth c) (c5 : Int64 → Int64 → Int32 → Option (Int64))
    (hc5 : ∀ {x0 : Int64} {x2 : Int64} {x4 : Int32} {H : Heap} {locs : List Loc} {ls : Array Slot}, WD g h s.heap H locs → lv_has ls 5 [(0, .long x0), (2, .long x2), (4, .int x4)] → c5 x0 x2 x4 = some z → W p l e (rmS 0 0) s m args below meth c H locs 0 0 (MQ below (Qq g (some (.long z)) h) args s 0 0 (inA g)) (F0 m 5 ls [])) {H : Heap} {locs : List Loc} {ls : Array Slot} (hw : WD g h s.heap H locs) (hl : lv_has ls 5 [(0, .long x0), (4, .int x4)]) (hs : s_AdjoinedSetsModel_union_32 c5 x0 x4 t0 = some z) : W p l e (rmS 0 0) s m args below meth c H locs 0 0 (MQ below (Qq g (some (.long z)) h) args s 0 0 (inA g)) (F0 m 32 ls [.long t0]) := by
  unfold s_AdjoinedSetsModel_union_32 at hs
  have hx := C.1
  have hb := C.2.1
  refine lv_lstore_n hx hb d_AdjoinedSetsModel_union_32 rfl hl (by decide) (lv' := [(2, .long t0), (0, .long x0), (4, .int x4)]) rfl (fun ls hl => ?_)
  refine lv_iinc hx hb d_AdjoinedSetsModel_union_33 hl (k := 2) rfl (v := (x4 + 1)) (iinc_e _ (by decide)) (by decide) (lv' := [(4, .int (x4 + 1)), (2, .long t0), (0, .long x0)]) rfl (fun ls hl => ?_)
  refine lv_goto hx hb d_AdjoinedSetsModel_union_36 (tgt := 5) (by decide) ?_
  exact hc5 hw (lv_sub hl [2, 1, 0] rfl) hs

def s_AdjoinedSetsModel_union_5 : Nat → Int64 → Int64 → Int32 → Option (Int64)
  | 0 => fun _ _ _ => none
  | k + 1 => fun x0 x2 x4 =>
  if 62 ≤ x4 then (
    some x2)
  else (
    if (lg_cmp ((x0 >>> (x4.toInt64 &&& 63)) &&& 1) 1) = 0 then (
      s_AdjoinedSetsModel_union_32 (s_AdjoinedSetsModel_union_5 k) x0 x4 (x2 ||| x4.toInt64))
    else (
      s_AdjoinedSetsModel_union_32 (s_AdjoinedSetsModel_union_5 k) x0 x4 x2))
set_option maxHeartbeats 4000000 in
set_option maxRecDepth 100000 in
theorem k_AdjoinedSetsModel_union_5 {h : HP} {z : Int64} (C : CX g R_AdjoinedSetsModel b_AdjoinedSetsModel_union 5 (some .long) p s m args meth c) : ∀ (k : Nat) {x0 : Int64} {x2 : Int64} {x4 : Int32} {H : Heap} {locs : List Loc} {ls : Array Slot}, WD g h s.heap H locs → lv_has ls 5 [(0, .long x0), (2, .long x2), (4, .int x4)] → s_AdjoinedSetsModel_union_5 k x0 x2 x4 = some z → W p l e (rmS 0 0) s m args below meth c H locs 0 0 (MQ below (Qq g (some (.long z)) h) args s 0 0 (inA g)) (F0 m 5 ls []) := by
  have hx := C.1
  have hb := C.2.1
  intro k
  induction k with
  | zero =>
    intro x0 x2 x4 H locs ls hw hl hs
    exact (no_s hs).elim
  | succ k ih =>
    intro x0 x2 x4 H locs ls hw hl hs
    rw [s_AdjoinedSetsModel_union_5] at hs
    refine lv_iload hx hb d_AdjoinedSetsModel_union_5 (lv_at hl 2 rfl) ?_
    refine lv_bipush (v := 62) hx hb d_AdjoinedSetsModel_union_7 (by decide) ?_
    refine lv_icmp_ge hx hb d_AdjoinedSetsModel_union_9 (tgt := 39) (by decide) (fun hc => ?_) (fun hc => ?_)
    · have hs := oi_t hc hs
      refine lv_lload_n hx hb d_AdjoinedSetsModel_union_39 rfl (lv_at hl 1 rfl) ?_
      obtain rfl := Option.some.inj hs
      exact pg_lret C hw d_AdjoinedSetsModel_union_40
    · have hs := oi_f hc hs
      refine lv_lload_n hx hb d_AdjoinedSetsModel_union_12 rfl (lv_at hl 0 rfl) ?_
      refine lv_iload hx hb d_AdjoinedSetsModel_union_13 (lv_at hl 2 rfl) ?_
      refine lv_lshr (v := (x0 >>> (x4.toInt64 &&& 63))) hx hb d_AdjoinedSetsModel_union_15 rfl ?_
      refine lv_lconst (v := 1) hx hb d_AdjoinedSetsModel_union_16 (by decide) ?_
      refine lv_land hx hb d_AdjoinedSetsModel_union_17 ?_
      refine lv_lconst (v := 1) hx hb d_AdjoinedSetsModel_union_18 (by decide) ?_
      refine W.lcmp hx hb d_AdjoinedSetsModel_union_19 ?_
      refine lv_if_ne hx hb d_AdjoinedSetsModel_union_20 (tgt := 31) (by decide) (fun hc => ?_) (fun hc => ?_)
      · have hs := oi_f hc hs
        refine lv_lload_n hx hb d_AdjoinedSetsModel_union_31 rfl (lv_at hl 1 rfl) ?_
        exact k_AdjoinedSetsModel_union_32 C (s_AdjoinedSetsModel_union_5 k) ih hw (lv_sub hl [0, 2] rfl) hs
      · have hs := oi_t hc hs
        refine lv_lload_n hx hb d_AdjoinedSetsModel_union_23 rfl (lv_at hl 1 rfl) ?_
        refine lv_iload hx hb d_AdjoinedSetsModel_union_24 (lv_at hl 2 rfl) ?_
        refine lv_i2l (v := x4.toInt64) hx hb d_AdjoinedSetsModel_union_26 rfl ?_
        refine lv_lor hx hb d_AdjoinedSetsModel_union_27 ?_
        refine lv_goto hx hb d_AdjoinedSetsModel_union_28 (tgt := 32) (by decide) ?_
        exact k_AdjoinedSetsModel_union_32 C (s_AdjoinedSetsModel_union_5 k) ih hw (lv_sub hl [0, 2] rfl) hs

def s_AdjoinedSetsModel_union (x0 : Int64) : Option (Int64) :=
  s_AdjoinedSetsModel_union_5 20000 x0 0 0
set_option maxHeartbeats 4000000 in
set_option maxRecDepth 100000 in
theorem c_AdjoinedSetsModel_union (l : Launch) (g : GG) {h : HP} {x0 : Int64} {z : Int64} (hs : s_AdjoinedSetsModel_union x0 = some z) : Ct l g y_AdjoinedSetsModel_union w_AdjoinedSetsModel_union (rmS 0 0) [.long x0] h (some (.long z)) h := by
  refine Ct.of (own := R_AdjoinedSetsModel) (by decide) rfl rfl (Nat.le_of_ble_eq_true rfl) ?_
  intro p e s m args below meth c ls C hl hw
  have hx := C.1
  have hb := C.2.1
  have hl : lv_has ls 5 [(0, .long x0)] := hl
  unfold s_AdjoinedSetsModel_union at hs
  refine lv_lconst (v := 0) hx hb d_AdjoinedSetsModel_union_0 (by decide) ?_
  refine lv_lstore_n hx hb d_AdjoinedSetsModel_union_1 rfl hl (by decide) (lv' := [(2, .long 0), (0, .long x0)]) rfl (fun ls hl => ?_)
  refine lv_iconst (v := 0) hx hb d_AdjoinedSetsModel_union_2 (by decide) ?_
  refine lv_istore hx hb d_AdjoinedSetsModel_union_3 hl (by decide) (lv' := [(4, .int 0), (2, .long 0), (0, .long x0)]) rfl (fun ls hl => ?_)
  exact k_AdjoinedSetsModel_union_5 C 20000 hw (lv_sub hl [2, 1, 0] rfl) hs

end
section
variable {p : Program} {l : Launch} {e : Env} {s : State} {m : MethodId} {args : Array Value} {below : List Frame} {meth : Method} {c : Code} {g : GG}
theorem d_AdjoinedSetsModel_rank_0 : decode b_AdjoinedSetsModel_rank 0 = .ok (.lload_n 1, 1) := by decide +kernel
theorem d_AdjoinedSetsModel_rank_1 : decode b_AdjoinedSetsModel_rank 1 = .ok (.invokestatic 128, 3) := by decide +kernel
theorem d_AdjoinedSetsModel_rank_4 : decode b_AdjoinedSetsModel_rank 4 = .ok (.ifCond .ne 5, 3) := by decide +kernel
theorem d_AdjoinedSetsModel_rank_7 : decode b_AdjoinedSetsModel_rank 7 = .ok (.iconst (-1), 1) := by decide +kernel
theorem d_AdjoinedSetsModel_rank_8 : decode b_AdjoinedSetsModel_rank 8 = .ok (.ireturn, 1) := by decide +kernel
theorem d_AdjoinedSetsModel_rank_9 : decode b_AdjoinedSetsModel_rank 9 = .ok (.iconst 0, 1) := by decide +kernel
theorem d_AdjoinedSetsModel_rank_10 : decode b_AdjoinedSetsModel_rank 10 = .ok (.istore_n 3, 1) := by decide +kernel
theorem d_AdjoinedSetsModel_rank_11 : decode b_AdjoinedSetsModel_rank 11 = .ok (.lload_n 1, 1) := by decide +kernel
theorem d_AdjoinedSetsModel_rank_12 : decode b_AdjoinedSetsModel_rank 12 = .ok (.lstore 4, 2) := by decide +kernel
theorem d_AdjoinedSetsModel_rank_14 : decode b_AdjoinedSetsModel_rank 14 = .ok (.lload 4, 2) := by decide +kernel
theorem d_AdjoinedSetsModel_rank_16 : decode b_AdjoinedSetsModel_rank 16 = .ok (.lconst 0, 1) := by decide +kernel
theorem d_AdjoinedSetsModel_rank_17 : decode b_AdjoinedSetsModel_rank 17 = .ok (.lcmp, 1) := by decide +kernel
theorem d_AdjoinedSetsModel_rank_18 : decode b_AdjoinedSetsModel_rank 18 = .ok (.ifCond .eq 16, 3) := by decide +kernel
theorem d_AdjoinedSetsModel_rank_21 : decode b_AdjoinedSetsModel_rank 21 = .ok (.lload 4, 2) := by decide +kernel
theorem d_AdjoinedSetsModel_rank_23 : decode b_AdjoinedSetsModel_rank 23 = .ok (.invokestatic 172, 3) := by decide +kernel
theorem d_AdjoinedSetsModel_rank_26 : decode b_AdjoinedSetsModel_rank 26 = .ok (.lstore 4, 2) := by decide +kernel
theorem d_AdjoinedSetsModel_rank_28 : decode b_AdjoinedSetsModel_rank 28 = .ok (.iinc 3 1, 3) := by decide +kernel
theorem d_AdjoinedSetsModel_rank_31 : decode b_AdjoinedSetsModel_rank 31 = .ok (.goto (-17), 3) := by decide +kernel
theorem d_AdjoinedSetsModel_rank_34 : decode b_AdjoinedSetsModel_rank 34 = .ok (.iload_n 3, 1) := by decide +kernel
theorem d_AdjoinedSetsModel_rank_35 : decode b_AdjoinedSetsModel_rank 35 = .ok (.ireturn, 1) := by decide +kernel
def s_AdjoinedSetsModel_rank_14 : Nat → Int32 → Int64 → Option (Int32)
  | 0 => fun _ _ => none
  | k + 1 => fun x3 x4 =>
  if (lg_cmp x4 0) = 0 then (
    some x3)
  else (
    (s_AdjoinedSetsModel_union x4).bind fun q1 =>
    (s_AdjoinedSetsModel_rank_14 k) (x3 + 1) q1)
set_option maxHeartbeats 4000000 in
set_option maxRecDepth 100000 in
theorem k_AdjoinedSetsModel_rank_14 {h : HP} {z : Int32} (C : CX g R_AdjoinedSetsModel b_AdjoinedSetsModel_rank 6 (some .int) p s m args meth c) : ∀ (k : Nat) {x3 : Int32} {x4 : Int64} {H : Heap} {locs : List Loc} {ls : Array Slot}, WD g h s.heap H locs → lv_has ls 6 [(3, .int x3), (4, .long x4)] → s_AdjoinedSetsModel_rank_14 k x3 x4 = some z → W p l e (rmS 1 24) s m args below meth c H locs 0 0 (MQ below (Qq g (some (.int z)) h) args s 0 0 (inA g)) (F0 m 14 ls []) := by
  have hx := C.1
  have hb := C.2.1
  intro k
  induction k with
  | zero =>
    intro x3 x4 H locs ls hw hl hs
    exact (no_s hs).elim
  | succ k ih =>
    intro x3 x4 H locs ls hw hl hs
    rw [s_AdjoinedSetsModel_rank_14] at hs
    refine lv_lload hx hb d_AdjoinedSetsModel_rank_14 (lv_at hl 1 rfl) ?_
    refine lv_lconst (v := 0) hx hb d_AdjoinedSetsModel_rank_16 (by decide) ?_
    refine W.lcmp hx hb d_AdjoinedSetsModel_rank_17 ?_
    refine lv_if_eq hx hb d_AdjoinedSetsModel_rank_18 (tgt := 34) (by decide) (fun hc => ?_) (fun hc => ?_)
    · have hs := oi_t hc hs
      refine lv_iload_n hx hb d_AdjoinedSetsModel_rank_34 rfl (lv_at hl 0 rfl) ?_
      obtain rfl := Option.some.inj hs
      exact pg_iret C hw d_AdjoinedSetsModel_rank_35
    · have hs := oi_f hc hs
      refine lv_lload hx hb d_AdjoinedSetsModel_rank_21 (lv_at hl 1 rfl) ?_
      obtain ⟨q1, e2, hs⟩ := ob hs
      refine pg_callS C hw hl.1 ml_AdjoinedSetsModel_172 (As := [.long x4]) (rest := []) (c_AdjoinedSetsModel_union l g e2) rfl (rm_ok (Nat.le_of_ble_eq_true rfl) (Nat.le_of_ble_eq_true rfl)) (Nat.le_of_ble_eq_true rfl) rfl (st1 := [.long q1]) rfl d_AdjoinedSetsModel_rank_23 (fun H locs hw => ?_)
      refine lv_lstore hx hb d_AdjoinedSetsModel_rank_26 hl (by decide) (lv' := [(4, .long q1), (3, .int x3)]) rfl (fun ls hl => ?_)
      refine lv_iinc hx hb d_AdjoinedSetsModel_rank_28 hl (k := 1) rfl (v := (x3 + 1)) (iinc_e _ (by decide)) (by decide) (lv' := [(3, .int (x3 + 1)), (4, .long q1)]) rfl (fun ls hl => ?_)
      refine lv_goto hx hb d_AdjoinedSetsModel_rank_31 (tgt := 14) (by decide) ?_
      exact ih hw (lv_sub hl [0, 1] rfl) hs

def s_AdjoinedSetsModel_rank (x0 : Nat) (x1 : Int64) : Option (Int32) :=
  (s_AdjoinedSetsModel_isCode x1).bind fun q1 =>
  if q1 = 0 then (
    some (-1))
  else (
    s_AdjoinedSetsModel_rank_14 20000 0 x1)
set_option maxHeartbeats 4000000 in
set_option maxRecDepth 100000 in
theorem c_AdjoinedSetsModel_rank (l : Launch) (g : GG) {h : HP} {x0 : Nat} {x1 : Int64} {z : Int32} (hs : s_AdjoinedSetsModel_rank x0 x1 = some z) : Ct l g y_AdjoinedSetsModel_rank w_AdjoinedSetsModel_rank (rmS 1 24) [.ref (aD g x0), .long x1] h (some (.int z)) h := by
  refine Ct.of (own := R_AdjoinedSetsModel) (by decide) rfl rfl (Nat.le_of_ble_eq_true rfl) ?_
  intro p e s m args below meth c ls C hl hw
  have hx := C.1
  have hb := C.2.1
  have hl : lv_has ls 6 [(0, .ref (aD g x0)), (1, .long x1)] := hl
  unfold s_AdjoinedSetsModel_rank at hs
  refine lv_lload_n hx hb d_AdjoinedSetsModel_rank_0 rfl (lv_at hl 1 rfl) ?_
  obtain ⟨q1, e2, hs⟩ := ob hs
  refine pg_callS C hw hl.1 ml_AdjoinedSetsModel_128 (As := [.long x1]) (rest := []) (c_AdjoinedSetsModel_isCode l g e2) rfl (rm_ok (Nat.le_of_ble_eq_true rfl) (Nat.le_of_ble_eq_true rfl)) (Nat.le_of_ble_eq_true rfl) rfl (st1 := [.int q1]) rfl d_AdjoinedSetsModel_rank_1 (fun H locs hw => ?_)
  refine lv_if_ne hx hb d_AdjoinedSetsModel_rank_4 (tgt := 9) (by decide) (fun hc => ?_) (fun hc => ?_)
  · have hs := oi_f hc hs
    refine lv_iconst (v := 0) hx hb d_AdjoinedSetsModel_rank_9 (by decide) ?_
    refine lv_istore_n hx hb d_AdjoinedSetsModel_rank_10 rfl hl (by decide) (lv' := [(3, .int 0), (0, .ref (aD g x0)), (1, .long x1)]) rfl (fun ls hl => ?_)
    refine lv_lload_n hx hb d_AdjoinedSetsModel_rank_11 rfl (lv_at hl 2 rfl) ?_
    refine lv_lstore hx hb d_AdjoinedSetsModel_rank_12 hl (by decide) (lv' := [(4, .long x1), (3, .int 0), (0, .ref (aD g x0)), (1, .long x1)]) rfl (fun ls hl => ?_)
    exact k_AdjoinedSetsModel_rank_14 C 20000 hw (lv_sub hl [1, 0] rfl) hs
  · have hs := oi_t hc hs
    refine lv_iconst (v := (-1)) hx hb d_AdjoinedSetsModel_rank_7 (by decide) ?_
    obtain rfl := Option.some.inj hs
    exact pg_iret C hw d_AdjoinedSetsModel_rank_8

end
section
variable {p : Program} {l : Launch} {e : Env} {s : State} {m : MethodId} {args : Array Value} {below : List Frame} {meth : Method} {c : Code} {g : GG}
theorem d_AdjoinedSetsModel_size_0 : decode b_AdjoinedSetsModel_size 0 = .ok (.iconst 0, 1) := by decide +kernel
theorem d_AdjoinedSetsModel_size_1 : decode b_AdjoinedSetsModel_size 1 = .ok (.istore_n 3, 1) := by decide +kernel
theorem d_AdjoinedSetsModel_size_2 : decode b_AdjoinedSetsModel_size 2 = .ok (.iconst 0, 1) := by decide +kernel
theorem d_AdjoinedSetsModel_size_3 : decode b_AdjoinedSetsModel_size 3 = .ok (.istore 4, 2) := by decide +kernel
theorem d_AdjoinedSetsModel_size_5 : decode b_AdjoinedSetsModel_size 5 = .ok (.iload 4, 2) := by decide +kernel
theorem d_AdjoinedSetsModel_size_7 : decode b_AdjoinedSetsModel_size 7 = .ok (.bipush 62, 2) := by decide +kernel
theorem d_AdjoinedSetsModel_size_9 : decode b_AdjoinedSetsModel_size 9 = .ok (.if_icmp .ge 19, 3) := by decide +kernel
theorem d_AdjoinedSetsModel_size_12 : decode b_AdjoinedSetsModel_size 12 = .ok (.iload_n 3, 1) := by decide +kernel
theorem d_AdjoinedSetsModel_size_13 : decode b_AdjoinedSetsModel_size 13 = .ok (.lload_n 1, 1) := by decide +kernel
theorem d_AdjoinedSetsModel_size_14 : decode b_AdjoinedSetsModel_size 14 = .ok (.iload 4, 2) := by decide +kernel
theorem d_AdjoinedSetsModel_size_16 : decode b_AdjoinedSetsModel_size 16 = .ok (.lshr, 1) := by decide +kernel
theorem d_AdjoinedSetsModel_size_17 : decode b_AdjoinedSetsModel_size 17 = .ok (.lconst 1, 1) := by decide +kernel
theorem d_AdjoinedSetsModel_size_18 : decode b_AdjoinedSetsModel_size 18 = .ok (.land, 1) := by decide +kernel
theorem d_AdjoinedSetsModel_size_19 : decode b_AdjoinedSetsModel_size 19 = .ok (.l2i, 1) := by decide +kernel
theorem d_AdjoinedSetsModel_size_20 : decode b_AdjoinedSetsModel_size 20 = .ok (.iadd, 1) := by decide +kernel
theorem d_AdjoinedSetsModel_size_21 : decode b_AdjoinedSetsModel_size 21 = .ok (.istore_n 3, 1) := by decide +kernel
theorem d_AdjoinedSetsModel_size_22 : decode b_AdjoinedSetsModel_size 22 = .ok (.iinc 4 1, 3) := by decide +kernel
theorem d_AdjoinedSetsModel_size_25 : decode b_AdjoinedSetsModel_size 25 = .ok (.goto (-20), 3) := by decide +kernel
theorem d_AdjoinedSetsModel_size_28 : decode b_AdjoinedSetsModel_size 28 = .ok (.lload_n 1, 1) := by decide +kernel
theorem d_AdjoinedSetsModel_size_29 : decode b_AdjoinedSetsModel_size 29 = .ok (.invokestatic 128, 3) := by decide +kernel
theorem d_AdjoinedSetsModel_size_32 : decode b_AdjoinedSetsModel_size 32 = .ok (.ifCond .eq 7, 3) := by decide +kernel
theorem d_AdjoinedSetsModel_size_35 : decode b_AdjoinedSetsModel_size 35 = .ok (.iload_n 3, 1) := by decide +kernel
theorem d_AdjoinedSetsModel_size_36 : decode b_AdjoinedSetsModel_size 36 = .ok (.goto 4, 3) := by decide +kernel
theorem d_AdjoinedSetsModel_size_39 : decode b_AdjoinedSetsModel_size 39 = .ok (.iconst (-1), 1) := by decide +kernel
theorem d_AdjoinedSetsModel_size_40 : decode b_AdjoinedSetsModel_size 40 = .ok (.ireturn, 1) := by decide +kernel
def s_AdjoinedSetsModel_size_5 : Nat → Int64 → Int32 → Int32 → Option (Int32)
  | 0 => fun _ _ _ => none
  | k + 1 => fun x1 x3 x4 =>
  if 62 ≤ x4 then (
    (s_AdjoinedSetsModel_isCode x1).bind fun q1 =>
    if q1 = 0 then (
      some (-1))
    else (
      some x3))
  else (
    (s_AdjoinedSetsModel_size_5 k) x1 (x3 + ((x1 >>> (x4.toInt64 &&& 63)) &&& 1).toInt32) (x4 + 1))
set_option maxHeartbeats 4000000 in
set_option maxRecDepth 100000 in
theorem k_AdjoinedSetsModel_size_5 {h : HP} {z : Int32} (C : CX g R_AdjoinedSetsModel b_AdjoinedSetsModel_size 5 (some .int) p s m args meth c) : ∀ (k : Nat) {x1 : Int64} {x3 : Int32} {x4 : Int32} {H : Heap} {locs : List Loc} {ls : Array Slot}, WD g h s.heap H locs → lv_has ls 5 [(1, .long x1), (3, .int x3), (4, .int x4)] → s_AdjoinedSetsModel_size_5 k x1 x3 x4 = some z → W p l e (rmS 1 21) s m args below meth c H locs 0 0 (MQ below (Qq g (some (.int z)) h) args s 0 0 (inA g)) (F0 m 5 ls []) := by
  have hx := C.1
  have hb := C.2.1
  intro k
  induction k with
  | zero =>
    intro x1 x3 x4 H locs ls hw hl hs
    exact (no_s hs).elim
  | succ k ih =>
    intro x1 x3 x4 H locs ls hw hl hs
    rw [s_AdjoinedSetsModel_size_5] at hs
    refine lv_iload hx hb d_AdjoinedSetsModel_size_5 (lv_at hl 2 rfl) ?_
    refine lv_bipush (v := 62) hx hb d_AdjoinedSetsModel_size_7 (by decide) ?_
    refine lv_icmp_ge hx hb d_AdjoinedSetsModel_size_9 (tgt := 28) (by decide) (fun hc => ?_) (fun hc => ?_)
    · have hs := oi_t hc hs
      refine lv_lload_n hx hb d_AdjoinedSetsModel_size_28 rfl (lv_at hl 0 rfl) ?_
      obtain ⟨q1, e2, hs⟩ := ob hs
      refine pg_callS C hw hl.1 ml_AdjoinedSetsModel_128 (As := [.long x1]) (rest := []) (c_AdjoinedSetsModel_isCode l g e2) rfl (rm_ok (Nat.le_of_ble_eq_true rfl) (Nat.le_of_ble_eq_true rfl)) (Nat.le_of_ble_eq_true rfl) rfl (st1 := [.int q1]) rfl d_AdjoinedSetsModel_size_29 (fun H locs hw => ?_)
      refine lv_if_eq hx hb d_AdjoinedSetsModel_size_32 (tgt := 39) (by decide) (fun hc => ?_) (fun hc => ?_)
      · have hs := oi_t hc hs
        refine lv_iconst (v := (-1)) hx hb d_AdjoinedSetsModel_size_39 (by decide) ?_
        obtain rfl := Option.some.inj hs
        exact pg_iret C hw d_AdjoinedSetsModel_size_40
      · have hs := oi_f hc hs
        refine lv_iload_n hx hb d_AdjoinedSetsModel_size_35 rfl (lv_at hl 1 rfl) ?_
        refine lv_goto hx hb d_AdjoinedSetsModel_size_36 (tgt := 40) (by decide) ?_
        obtain rfl := Option.some.inj hs
        exact pg_iret C hw d_AdjoinedSetsModel_size_40
    · have hs := oi_f hc hs
      refine lv_iload_n hx hb d_AdjoinedSetsModel_size_12 rfl (lv_at hl 1 rfl) ?_
      refine lv_lload_n hx hb d_AdjoinedSetsModel_size_13 rfl (lv_at hl 0 rfl) ?_
      refine lv_iload hx hb d_AdjoinedSetsModel_size_14 (lv_at hl 2 rfl) ?_
      refine lv_lshr (v := (x1 >>> (x4.toInt64 &&& 63))) hx hb d_AdjoinedSetsModel_size_16 rfl ?_
      refine lv_lconst (v := 1) hx hb d_AdjoinedSetsModel_size_17 (by decide) ?_
      refine lv_land hx hb d_AdjoinedSetsModel_size_18 ?_
      refine lv_l2i (v := ((x1 >>> (x4.toInt64 &&& 63)) &&& 1).toInt32) hx hb d_AdjoinedSetsModel_size_19 rfl ?_
      refine lv_iadd hx hb d_AdjoinedSetsModel_size_20 ?_
      refine lv_istore_n hx hb d_AdjoinedSetsModel_size_21 rfl hl (by decide) (lv' := [(3, .int (x3 + ((x1 >>> (x4.toInt64 &&& 63)) &&& 1).toInt32)), (1, .long x1), (4, .int x4)]) rfl (fun ls hl => ?_)
      refine lv_iinc hx hb d_AdjoinedSetsModel_size_22 hl (k := 2) rfl (v := (x4 + 1)) (iinc_e _ (by decide)) (by decide) (lv' := [(4, .int (x4 + 1)), (3, .int (x3 + ((x1 >>> (x4.toInt64 &&& 63)) &&& 1).toInt32)), (1, .long x1)]) rfl (fun ls hl => ?_)
      refine lv_goto hx hb d_AdjoinedSetsModel_size_25 (tgt := 5) (by decide) ?_
      exact ih hw (lv_sub hl [2, 1, 0] rfl) hs

def s_AdjoinedSetsModel_size (x0 : Nat) (x1 : Int64) : Option (Int32) :=
  s_AdjoinedSetsModel_size_5 20000 x1 0 0
set_option maxHeartbeats 4000000 in
set_option maxRecDepth 100000 in
theorem c_AdjoinedSetsModel_size (l : Launch) (g : GG) {h : HP} {x0 : Nat} {x1 : Int64} {z : Int32} (hs : s_AdjoinedSetsModel_size x0 x1 = some z) : Ct l g y_AdjoinedSetsModel_size w_AdjoinedSetsModel_size (rmS 1 21) [.ref (aD g x0), .long x1] h (some (.int z)) h := by
  refine Ct.of (own := R_AdjoinedSetsModel) (by decide) rfl rfl (Nat.le_of_ble_eq_true rfl) ?_
  intro p e s m args below meth c ls C hl hw
  have hx := C.1
  have hb := C.2.1
  have hl : lv_has ls 5 [(0, .ref (aD g x0)), (1, .long x1)] := hl
  unfold s_AdjoinedSetsModel_size at hs
  refine lv_iconst (v := 0) hx hb d_AdjoinedSetsModel_size_0 (by decide) ?_
  refine lv_istore_n hx hb d_AdjoinedSetsModel_size_1 rfl hl (by decide) (lv' := [(3, .int 0), (0, .ref (aD g x0)), (1, .long x1)]) rfl (fun ls hl => ?_)
  refine lv_iconst (v := 0) hx hb d_AdjoinedSetsModel_size_2 (by decide) ?_
  refine lv_istore hx hb d_AdjoinedSetsModel_size_3 hl (by decide) (lv' := [(4, .int 0), (3, .int 0), (0, .ref (aD g x0)), (1, .long x1)]) rfl (fun ls hl => ?_)
  exact k_AdjoinedSetsModel_size_5 C 20000 hw (lv_sub hl [3, 1, 0] rfl) hs

end
section
variable {p : Program} {l : Launch} {e : Env} {s : State} {m : MethodId} {args : Array Value} {below : List Frame} {meth : Method} {c : Code} {g : GG}
theorem d_AdjoinedSetsModel_want_0 : decode b_AdjoinedSetsModel_want 0 = .ok (.aload_n 0, 1) := by decide +kernel
theorem d_AdjoinedSetsModel_want_1 : decode b_AdjoinedSetsModel_want 1 = .ok (.getfield 26, 3) := by decide +kernel
theorem d_AdjoinedSetsModel_want_4 : decode b_AdjoinedSetsModel_want 4 = .ok (.aload_n 0, 1) := by decide +kernel
theorem d_AdjoinedSetsModel_want_5 : decode b_AdjoinedSetsModel_want 5 = .ok (.getfield 132, 3) := by decide +kernel
theorem d_AdjoinedSetsModel_want_8 : decode b_AdjoinedSetsModel_want 8 = .ok (.iload_n 1, 1) := by decide +kernel
theorem d_AdjoinedSetsModel_want_9 : decode b_AdjoinedSetsModel_want 9 = .ok (.iastore, 1) := by decide +kernel
theorem d_AdjoinedSetsModel_want_10 : decode b_AdjoinedSetsModel_want 10 = .ok (.aload_n 0, 1) := by decide +kernel
theorem d_AdjoinedSetsModel_want_11 : decode b_AdjoinedSetsModel_want 11 = .ok (.getfield 29, 3) := by decide +kernel
theorem d_AdjoinedSetsModel_want_14 : decode b_AdjoinedSetsModel_want 14 = .ok (.aload_n 0, 1) := by decide +kernel
theorem d_AdjoinedSetsModel_want_15 : decode b_AdjoinedSetsModel_want 15 = .ok (.getfield 132, 3) := by decide +kernel
theorem d_AdjoinedSetsModel_want_18 : decode b_AdjoinedSetsModel_want 18 = .ok (.iload_n 2, 1) := by decide +kernel
theorem d_AdjoinedSetsModel_want_19 : decode b_AdjoinedSetsModel_want 19 = .ok (.iastore, 1) := by decide +kernel
theorem d_AdjoinedSetsModel_want_20 : decode b_AdjoinedSetsModel_want 20 = .ok (.aload_n 0, 1) := by decide +kernel
theorem d_AdjoinedSetsModel_want_21 : decode b_AdjoinedSetsModel_want 21 = .ok (.getfield 32, 3) := by decide +kernel
theorem d_AdjoinedSetsModel_want_24 : decode b_AdjoinedSetsModel_want 24 = .ok (.aload_n 0, 1) := by decide +kernel
theorem d_AdjoinedSetsModel_want_25 : decode b_AdjoinedSetsModel_want 25 = .ok (.getfield 132, 3) := by decide +kernel
theorem d_AdjoinedSetsModel_want_28 : decode b_AdjoinedSetsModel_want 28 = .ok (.iload_n 3, 1) := by decide +kernel
theorem d_AdjoinedSetsModel_want_29 : decode b_AdjoinedSetsModel_want 29 = .ok (.iastore, 1) := by decide +kernel
theorem d_AdjoinedSetsModel_want_30 : decode b_AdjoinedSetsModel_want 30 = .ok (.aload_n 0, 1) := by decide +kernel
theorem d_AdjoinedSetsModel_want_31 : decode b_AdjoinedSetsModel_want 31 = .ok (.getfield 35, 3) := by decide +kernel
theorem d_AdjoinedSetsModel_want_34 : decode b_AdjoinedSetsModel_want 34 = .ok (.aload_n 0, 1) := by decide +kernel
theorem d_AdjoinedSetsModel_want_35 : decode b_AdjoinedSetsModel_want 35 = .ok (.getfield 132, 3) := by decide +kernel
theorem d_AdjoinedSetsModel_want_38 : decode b_AdjoinedSetsModel_want 38 = .ok (.aload_n 0, 1) := by decide +kernel
theorem d_AdjoinedSetsModel_want_39 : decode b_AdjoinedSetsModel_want 39 = .ok (.getfield 135, 3) := by decide +kernel
theorem d_AdjoinedSetsModel_want_42 : decode b_AdjoinedSetsModel_want 42 = .ok (.iastore, 1) := by decide +kernel
theorem d_AdjoinedSetsModel_want_43 : decode b_AdjoinedSetsModel_want 43 = .ok (.aload_n 0, 1) := by decide +kernel
theorem d_AdjoinedSetsModel_want_44 : decode b_AdjoinedSetsModel_want 44 = .ok (.dup, 1) := by decide +kernel
theorem d_AdjoinedSetsModel_want_45 : decode b_AdjoinedSetsModel_want 45 = .ok (.getfield 132, 3) := by decide +kernel
theorem d_AdjoinedSetsModel_want_48 : decode b_AdjoinedSetsModel_want 48 = .ok (.iconst 1, 1) := by decide +kernel
theorem d_AdjoinedSetsModel_want_49 : decode b_AdjoinedSetsModel_want 49 = .ok (.iadd, 1) := by decide +kernel
theorem d_AdjoinedSetsModel_want_50 : decode b_AdjoinedSetsModel_want 50 = .ok (.putfield 132, 3) := by decide +kernel
theorem d_AdjoinedSetsModel_want_53 : decode b_AdjoinedSetsModel_want 53 = .ok (.return_, 1) := by decide +kernel
def s_AdjoinedSetsModel_want (x0 : Nat) (x1 : Int32) (x2 : Int32) (x3 : Int32) (h : HP) : Option (HP) :=
  (gR h x0 9 8).bind fun v1 =>
  (gI h x0 9 7).bind fun v3 =>
  (uI h v1 0 v3 x1).bind fun h5 =>
  (gR h5 x0 9 9).bind fun v7 =>
  (gI h5 x0 9 7).bind fun v9 =>
  (uI h5 v7 0 v9 x2).bind fun h11 =>
  (gR h11 x0 9 10).bind fun v13 =>
  (gI h11 x0 9 7).bind fun v15 =>
  (uI h11 v13 0 v15 x3).bind fun h17 =>
  (gR h17 x0 9 11).bind fun v19 =>
  (gI h17 x0 9 7).bind fun v21 =>
  (gI h17 x0 9 12).bind fun v23 =>
  (uI h17 v19 0 v21 v23).bind fun h25 =>
  (gI h25 x0 9 7).bind fun v27 =>
  (pI h25 x0 9 7 (v27 + 1)).bind fun h29 =>
  some h29
set_option maxHeartbeats 4000000 in
set_option maxRecDepth 100000 in
theorem c_AdjoinedSetsModel_want (l : Launch) (g : GG) {x0 : Nat} {x1 : Int32} {x2 : Int32} {x3 : Int32} {h : HP} {z : HP} (hs : s_AdjoinedSetsModel_want x0 x1 x2 x3 h = some z) : Ct l g y_AdjoinedSetsModel_want w_AdjoinedSetsModel_want (rmS 0 0) [.ref (aD g x0), .int x1, .int x2, .int x3] h none z := by
  refine Ct.of (own := R_AdjoinedSetsModel) (by decide) rfl rfl (Nat.le_of_ble_eq_true rfl) ?_
  intro p e s m args below meth c ls C hl hw
  have hx := C.1
  have hb := C.2.1
  have hl : lv_has ls 4 [(0, .ref (aD g x0)), (1, .int x1), (2, .int x2), (3, .int x3)] := hl
  unfold s_AdjoinedSetsModel_want at hs
  refine lv_aload_n hx hb d_AdjoinedSetsModel_want_0 rfl (lv_at hl 0 rfl) ?_
  obtain ⟨v1, e2, hs⟩ := ob hs
  refine pg_getR C hw fl_AdjoinedSetsModel_26 e2 d_AdjoinedSetsModel_want_1 ?_
  refine lv_aload_n hx hb d_AdjoinedSetsModel_want_4 rfl (lv_at hl 0 rfl) ?_
  obtain ⟨v3, e4, hs⟩ := ob hs
  refine pg_getI C hw fl_AdjoinedSetsModel_132 e4 d_AdjoinedSetsModel_want_5 ?_
  refine lv_iload_n hx hb d_AdjoinedSetsModel_want_8 rfl (lv_at hl 1 rfl) ?_
  obtain ⟨h5, e6, hs⟩ := ob hs
  refine pg_iastore C hw (t0 := 0) rfl e6 d_AdjoinedSetsModel_want_9 (fun H locs hw => ?_)
  refine lv_aload_n hx hb d_AdjoinedSetsModel_want_10 rfl (lv_at hl 0 rfl) ?_
  obtain ⟨v7, e8, hs⟩ := ob hs
  refine pg_getR C hw fl_AdjoinedSetsModel_29 e8 d_AdjoinedSetsModel_want_11 ?_
  refine lv_aload_n hx hb d_AdjoinedSetsModel_want_14 rfl (lv_at hl 0 rfl) ?_
  obtain ⟨v9, e10, hs⟩ := ob hs
  refine pg_getI C hw fl_AdjoinedSetsModel_132 e10 d_AdjoinedSetsModel_want_15 ?_
  refine lv_iload_n hx hb d_AdjoinedSetsModel_want_18 rfl (lv_at hl 2 rfl) ?_
  obtain ⟨h11, e12, hs⟩ := ob hs
  refine pg_iastore C hw (t0 := 0) rfl e12 d_AdjoinedSetsModel_want_19 (fun H locs hw => ?_)
  refine lv_aload_n hx hb d_AdjoinedSetsModel_want_20 rfl (lv_at hl 0 rfl) ?_
  obtain ⟨v13, e14, hs⟩ := ob hs
  refine pg_getR C hw fl_AdjoinedSetsModel_32 e14 d_AdjoinedSetsModel_want_21 ?_
  refine lv_aload_n hx hb d_AdjoinedSetsModel_want_24 rfl (lv_at hl 0 rfl) ?_
  obtain ⟨v15, e16, hs⟩ := ob hs
  refine pg_getI C hw fl_AdjoinedSetsModel_132 e16 d_AdjoinedSetsModel_want_25 ?_
  refine lv_iload_n hx hb d_AdjoinedSetsModel_want_28 rfl (lv_at hl 3 rfl) ?_
  obtain ⟨h17, e18, hs⟩ := ob hs
  refine pg_iastore C hw (t0 := 0) rfl e18 d_AdjoinedSetsModel_want_29 (fun H locs hw => ?_)
  refine lv_aload_n hx hb d_AdjoinedSetsModel_want_30 rfl (lv_at hl 0 rfl) ?_
  obtain ⟨v19, e20, hs⟩ := ob hs
  refine pg_getR C hw fl_AdjoinedSetsModel_35 e20 d_AdjoinedSetsModel_want_31 ?_
  refine lv_aload_n hx hb d_AdjoinedSetsModel_want_34 rfl (lv_at hl 0 rfl) ?_
  obtain ⟨v21, e22, hs⟩ := ob hs
  refine pg_getI C hw fl_AdjoinedSetsModel_132 e22 d_AdjoinedSetsModel_want_35 ?_
  refine lv_aload_n hx hb d_AdjoinedSetsModel_want_38 rfl (lv_at hl 0 rfl) ?_
  obtain ⟨v23, e24, hs⟩ := ob hs
  refine pg_getI C hw fl_AdjoinedSetsModel_135 e24 d_AdjoinedSetsModel_want_39 ?_
  obtain ⟨h25, e26, hs⟩ := ob hs
  refine pg_iastore C hw (t0 := 0) rfl e26 d_AdjoinedSetsModel_want_42 (fun H locs hw => ?_)
  refine lv_aload_n hx hb d_AdjoinedSetsModel_want_43 rfl (lv_at hl 0 rfl) ?_
  refine lv_dup hx hb d_AdjoinedSetsModel_want_44 rfl ?_
  obtain ⟨v27, e28, hs⟩ := ob hs
  refine pg_getI C hw fl_AdjoinedSetsModel_132 e28 d_AdjoinedSetsModel_want_45 ?_
  refine lv_iconst (v := 1) hx hb d_AdjoinedSetsModel_want_48 (by decide) ?_
  refine lv_iadd hx hb d_AdjoinedSetsModel_want_49 ?_
  obtain ⟨h29, e30, hs⟩ := ob hs
  refine pg_putI C hw pl_AdjoinedSetsModel_132 e30 d_AdjoinedSetsModel_want_50 (fun H locs hw => ?_)
  obtain rfl := Option.some.inj hs
  exact pg_vret C hw d_AdjoinedSetsModel_want_53

end
section
variable {p : Program} {l : Launch} {e : Env} {s : State} {m : MethodId} {args : Array Value} {below : List Frame} {meth : Method} {c : Code} {g : GG}
theorem d_AdjoinedSetsModel_isLow_0 : decode b_AdjoinedSetsModel_isLow 0 = .ok (.iload_n 0, 1) := by decide +kernel
theorem d_AdjoinedSetsModel_isLow_1 : decode b_AdjoinedSetsModel_isLow 1 = .ok (.bipush 97, 2) := by decide +kernel
theorem d_AdjoinedSetsModel_isLow_3 : decode b_AdjoinedSetsModel_isLow 3 = .ok (.if_icmp .lt 13, 3) := by decide +kernel
theorem d_AdjoinedSetsModel_isLow_6 : decode b_AdjoinedSetsModel_isLow 6 = .ok (.iload_n 0, 1) := by decide +kernel
theorem d_AdjoinedSetsModel_isLow_7 : decode b_AdjoinedSetsModel_isLow 7 = .ok (.bipush 104, 2) := by decide +kernel
theorem d_AdjoinedSetsModel_isLow_9 : decode b_AdjoinedSetsModel_isLow 9 = .ok (.if_icmp .gt 7, 3) := by decide +kernel
theorem d_AdjoinedSetsModel_isLow_12 : decode b_AdjoinedSetsModel_isLow 12 = .ok (.iconst 1, 1) := by decide +kernel
theorem d_AdjoinedSetsModel_isLow_13 : decode b_AdjoinedSetsModel_isLow 13 = .ok (.goto 4, 3) := by decide +kernel
theorem d_AdjoinedSetsModel_isLow_16 : decode b_AdjoinedSetsModel_isLow 16 = .ok (.iconst 0, 1) := by decide +kernel
theorem d_AdjoinedSetsModel_isLow_17 : decode b_AdjoinedSetsModel_isLow 17 = .ok (.ireturn, 1) := by decide +kernel
def s_AdjoinedSetsModel_isLow (x0 : Int32) : Option (Int32) :=
  if x0 < 97 then (
    some 0)
  else (
    if 104 < x0 then (
      some 0)
    else (
      some 1))
set_option maxHeartbeats 4000000 in
set_option maxRecDepth 100000 in
theorem c_AdjoinedSetsModel_isLow (l : Launch) (g : GG) {h : HP} {x0 : Int32} {z : Int32} (hs : s_AdjoinedSetsModel_isLow x0 = some z) : Ct l g y_AdjoinedSetsModel_isLow w_AdjoinedSetsModel_isLow (rmS 0 0) [.int x0] h (some (.int z)) h := by
  refine Ct.of (own := R_AdjoinedSetsModel) (by decide) rfl rfl (Nat.le_of_ble_eq_true rfl) ?_
  intro p e s m args below meth c ls C hl hw
  have hx := C.1
  have hb := C.2.1
  have hl : lv_has ls 1 [(0, .int x0)] := hl
  unfold s_AdjoinedSetsModel_isLow at hs
  refine lv_iload_n hx hb d_AdjoinedSetsModel_isLow_0 rfl (lv_at hl 0 rfl) ?_
  refine lv_bipush (v := 97) hx hb d_AdjoinedSetsModel_isLow_1 (by decide) ?_
  refine lv_icmp_lt hx hb d_AdjoinedSetsModel_isLow_3 (tgt := 16) (by decide) (fun hc => ?_) (fun hc => ?_)
  · have hs := oi_t hc hs
    refine lv_iconst (v := 0) hx hb d_AdjoinedSetsModel_isLow_16 (by decide) ?_
    obtain rfl := Option.some.inj hs
    exact pg_zret (v := 0) C hw rfl d_AdjoinedSetsModel_isLow_17
  · have hs := oi_f hc hs
    refine lv_iload_n hx hb d_AdjoinedSetsModel_isLow_6 rfl (lv_at hl 0 rfl) ?_
    refine lv_bipush (v := 104) hx hb d_AdjoinedSetsModel_isLow_7 (by decide) ?_
    refine lv_icmp_gt hx hb d_AdjoinedSetsModel_isLow_9 (tgt := 16) (by decide) (fun hc => ?_) (fun hc => ?_)
    · have hs := oi_t hc hs
      refine lv_iconst (v := 0) hx hb d_AdjoinedSetsModel_isLow_16 (by decide) ?_
      obtain rfl := Option.some.inj hs
      exact pg_zret (v := 0) C hw rfl d_AdjoinedSetsModel_isLow_17
    · have hs := oi_f hc hs
      refine lv_iconst (v := 1) hx hb d_AdjoinedSetsModel_isLow_12 (by decide) ?_
      refine lv_goto hx hb d_AdjoinedSetsModel_isLow_13 (tgt := 17) (by decide) ?_
      obtain rfl := Option.some.inj hs
      exact pg_zret (v := 1) C hw rfl d_AdjoinedSetsModel_isLow_17

end
section
variable {p : Program} {l : Launch} {e : Env} {s : State} {m : MethodId} {args : Array Value} {below : List Frame} {meth : Method} {c : Code} {g : GG}
theorem d_AdjoinedSetsModel_bit_0 : decode b_AdjoinedSetsModel_bit 0 = .ok (.iconst 1, 1) := by decide +kernel
theorem d_AdjoinedSetsModel_bit_1 : decode b_AdjoinedSetsModel_bit 1 = .ok (.iload_n 0, 1) := by decide +kernel
theorem d_AdjoinedSetsModel_bit_2 : decode b_AdjoinedSetsModel_bit 2 = .ok (.bipush 97, 2) := by decide +kernel
theorem d_AdjoinedSetsModel_bit_4 : decode b_AdjoinedSetsModel_bit 4 = .ok (.isub, 1) := by decide +kernel
theorem d_AdjoinedSetsModel_bit_5 : decode b_AdjoinedSetsModel_bit 5 = .ok (.ishl, 1) := by decide +kernel
theorem d_AdjoinedSetsModel_bit_6 : decode b_AdjoinedSetsModel_bit 6 = .ok (.ireturn, 1) := by decide +kernel
def s_AdjoinedSetsModel_bit (x0 : Int32) : Option (Int32) :=
  some ((1 : Int32) <<< ((x0 - 97) &&& 31))
set_option maxHeartbeats 4000000 in
set_option maxRecDepth 100000 in
theorem c_AdjoinedSetsModel_bit (l : Launch) (g : GG) {h : HP} {x0 : Int32} {z : Int32} (hs : s_AdjoinedSetsModel_bit x0 = some z) : Ct l g y_AdjoinedSetsModel_bit w_AdjoinedSetsModel_bit (rmS 0 0) [.int x0] h (some (.int z)) h := by
  refine Ct.of (own := R_AdjoinedSetsModel) (by decide) rfl rfl (Nat.le_of_ble_eq_true rfl) ?_
  intro p e s m args below meth c ls C hl hw
  have hx := C.1
  have hb := C.2.1
  have hl : lv_has ls 1 [(0, .int x0)] := hl
  unfold s_AdjoinedSetsModel_bit at hs
  refine lv_iconst (v := 1) hx hb d_AdjoinedSetsModel_bit_0 (by decide) ?_
  refine lv_iload_n hx hb d_AdjoinedSetsModel_bit_1 rfl (lv_at hl 0 rfl) ?_
  refine lv_bipush (v := 97) hx hb d_AdjoinedSetsModel_bit_2 (by decide) ?_
  refine lv_isub hx hb d_AdjoinedSetsModel_bit_4 ?_
  refine lv_ishl hx hb d_AdjoinedSetsModel_bit_5 ?_
  obtain rfl := Option.some.inj hs
  exact pg_iret C hw d_AdjoinedSetsModel_bit_6

end
section
variable {p : Program} {l : Launch} {e : Env} {s : State} {m : MethodId} {args : Array Value} {below : List Frame} {meth : Method} {c : Code} {g : GG}
theorem d_AdjoinedSetsModel_beginsFormula_0 : decode b_AdjoinedSetsModel_beginsFormula 0 = .ok (.iload_n 0, 1) := by decide +kernel
theorem d_AdjoinedSetsModel_beginsFormula_1 : decode b_AdjoinedSetsModel_beginsFormula 1 = .ok (.bipush 60, 2) := by decide +kernel
theorem d_AdjoinedSetsModel_beginsFormula_3 : decode b_AdjoinedSetsModel_beginsFormula 3 = .ok (.if_icmp .eq 45, 3) := by decide +kernel
theorem d_AdjoinedSetsModel_beginsFormula_6 : decode b_AdjoinedSetsModel_beginsFormula 6 = .ok (.iload_n 0, 1) := by decide +kernel
theorem d_AdjoinedSetsModel_beginsFormula_7 : decode b_AdjoinedSetsModel_beginsFormula 7 = .ok (.bipush 61, 2) := by decide +kernel
theorem d_AdjoinedSetsModel_beginsFormula_9 : decode b_AdjoinedSetsModel_beginsFormula 9 = .ok (.if_icmp .eq 39, 3) := by decide +kernel
theorem d_AdjoinedSetsModel_beginsFormula_12 : decode b_AdjoinedSetsModel_beginsFormula 12 = .ok (.iload_n 0, 1) := by decide +kernel
theorem d_AdjoinedSetsModel_beginsFormula_13 : decode b_AdjoinedSetsModel_beginsFormula 13 = .ok (.bipush 33, 2) := by decide +kernel
theorem d_AdjoinedSetsModel_beginsFormula_15 : decode b_AdjoinedSetsModel_beginsFormula 15 = .ok (.if_icmp .eq 33, 3) := by decide +kernel
theorem d_AdjoinedSetsModel_beginsFormula_18 : decode b_AdjoinedSetsModel_beginsFormula 18 = .ok (.iload_n 0, 1) := by decide +kernel
theorem d_AdjoinedSetsModel_beginsFormula_19 : decode b_AdjoinedSetsModel_beginsFormula 19 = .ok (.bipush 94, 2) := by decide +kernel
theorem d_AdjoinedSetsModel_beginsFormula_21 : decode b_AdjoinedSetsModel_beginsFormula 21 = .ok (.if_icmp .eq 27, 3) := by decide +kernel
theorem d_AdjoinedSetsModel_beginsFormula_24 : decode b_AdjoinedSetsModel_beginsFormula 24 = .ok (.iload_n 0, 1) := by decide +kernel
theorem d_AdjoinedSetsModel_beginsFormula_25 : decode b_AdjoinedSetsModel_beginsFormula 25 = .ok (.bipush 118, 2) := by decide +kernel
theorem d_AdjoinedSetsModel_beginsFormula_27 : decode b_AdjoinedSetsModel_beginsFormula 27 = .ok (.if_icmp .eq 21, 3) := by decide +kernel
theorem d_AdjoinedSetsModel_beginsFormula_30 : decode b_AdjoinedSetsModel_beginsFormula 30 = .ok (.iload_n 0, 1) := by decide +kernel
theorem d_AdjoinedSetsModel_beginsFormula_31 : decode b_AdjoinedSetsModel_beginsFormula 31 = .ok (.bipush 62, 2) := by decide +kernel
theorem d_AdjoinedSetsModel_beginsFormula_33 : decode b_AdjoinedSetsModel_beginsFormula 33 = .ok (.if_icmp .eq 15, 3) := by decide +kernel
theorem d_AdjoinedSetsModel_beginsFormula_36 : decode b_AdjoinedSetsModel_beginsFormula 36 = .ok (.iload_n 0, 1) := by decide +kernel
theorem d_AdjoinedSetsModel_beginsFormula_37 : decode b_AdjoinedSetsModel_beginsFormula 37 = .ok (.bipush 69, 2) := by decide +kernel
theorem d_AdjoinedSetsModel_beginsFormula_39 : decode b_AdjoinedSetsModel_beginsFormula 39 = .ok (.if_icmp .eq 9, 3) := by decide +kernel
theorem d_AdjoinedSetsModel_beginsFormula_42 : decode b_AdjoinedSetsModel_beginsFormula 42 = .ok (.iload_n 0, 1) := by decide +kernel
theorem d_AdjoinedSetsModel_beginsFormula_43 : decode b_AdjoinedSetsModel_beginsFormula 43 = .ok (.bipush 76, 2) := by decide +kernel
theorem d_AdjoinedSetsModel_beginsFormula_45 : decode b_AdjoinedSetsModel_beginsFormula 45 = .ok (.if_icmp .ne 7, 3) := by decide +kernel
theorem d_AdjoinedSetsModel_beginsFormula_48 : decode b_AdjoinedSetsModel_beginsFormula 48 = .ok (.iconst 1, 1) := by decide +kernel
theorem d_AdjoinedSetsModel_beginsFormula_49 : decode b_AdjoinedSetsModel_beginsFormula 49 = .ok (.goto 4, 3) := by decide +kernel
theorem d_AdjoinedSetsModel_beginsFormula_52 : decode b_AdjoinedSetsModel_beginsFormula 52 = .ok (.iconst 0, 1) := by decide +kernel
theorem d_AdjoinedSetsModel_beginsFormula_53 : decode b_AdjoinedSetsModel_beginsFormula 53 = .ok (.ireturn, 1) := by decide +kernel
def s_AdjoinedSetsModel_beginsFormula (x0 : Int32) : Option (Int32) :=
  if x0 = 60 then (
    some 1)
  else (
    if x0 = 61 then (
      some 1)
    else (
      if x0 = 33 then (
        some 1)
      else (
        if x0 = 94 then (
          some 1)
        else (
          if x0 = 118 then (
            some 1)
          else (
            if x0 = 62 then (
              some 1)
            else (
              if x0 = 69 then (
                some 1)
              else (
                if x0 = 76 then (
                  some 1)
                else (
                  some 0))))))))
set_option maxHeartbeats 4000000 in
set_option maxRecDepth 100000 in
theorem c_AdjoinedSetsModel_beginsFormula (l : Launch) (g : GG) {h : HP} {x0 : Int32} {z : Int32} (hs : s_AdjoinedSetsModel_beginsFormula x0 = some z) : Ct l g y_AdjoinedSetsModel_beginsFormula w_AdjoinedSetsModel_beginsFormula (rmS 0 0) [.int x0] h (some (.int z)) h := by
  refine Ct.of (own := R_AdjoinedSetsModel) (by decide) rfl rfl (Nat.le_of_ble_eq_true rfl) ?_
  intro p e s m args below meth c ls C hl hw
  have hx := C.1
  have hb := C.2.1
  have hl : lv_has ls 1 [(0, .int x0)] := hl
  unfold s_AdjoinedSetsModel_beginsFormula at hs
  refine lv_iload_n hx hb d_AdjoinedSetsModel_beginsFormula_0 rfl (lv_at hl 0 rfl) ?_
  refine lv_bipush (v := 60) hx hb d_AdjoinedSetsModel_beginsFormula_1 (by decide) ?_
  refine lv_icmp_eq hx hb d_AdjoinedSetsModel_beginsFormula_3 (tgt := 48) (by decide) (fun hc => ?_) (fun hc => ?_)
  · have hs := oi_t hc hs
    refine lv_iconst (v := 1) hx hb d_AdjoinedSetsModel_beginsFormula_48 (by decide) ?_
    refine lv_goto hx hb d_AdjoinedSetsModel_beginsFormula_49 (tgt := 53) (by decide) ?_
    obtain rfl := Option.some.inj hs
    exact pg_zret (v := 1) C hw rfl d_AdjoinedSetsModel_beginsFormula_53
  · have hs := oi_f hc hs
    refine lv_iload_n hx hb d_AdjoinedSetsModel_beginsFormula_6 rfl (lv_at hl 0 rfl) ?_
    refine lv_bipush (v := 61) hx hb d_AdjoinedSetsModel_beginsFormula_7 (by decide) ?_
    refine lv_icmp_eq hx hb d_AdjoinedSetsModel_beginsFormula_9 (tgt := 48) (by decide) (fun hc => ?_) (fun hc => ?_)
    · have hs := oi_t hc hs
      refine lv_iconst (v := 1) hx hb d_AdjoinedSetsModel_beginsFormula_48 (by decide) ?_
      refine lv_goto hx hb d_AdjoinedSetsModel_beginsFormula_49 (tgt := 53) (by decide) ?_
      obtain rfl := Option.some.inj hs
      exact pg_zret (v := 1) C hw rfl d_AdjoinedSetsModel_beginsFormula_53
    · have hs := oi_f hc hs
      refine lv_iload_n hx hb d_AdjoinedSetsModel_beginsFormula_12 rfl (lv_at hl 0 rfl) ?_
      refine lv_bipush (v := 33) hx hb d_AdjoinedSetsModel_beginsFormula_13 (by decide) ?_
      refine lv_icmp_eq hx hb d_AdjoinedSetsModel_beginsFormula_15 (tgt := 48) (by decide) (fun hc => ?_) (fun hc => ?_)
      · have hs := oi_t hc hs
        refine lv_iconst (v := 1) hx hb d_AdjoinedSetsModel_beginsFormula_48 (by decide) ?_
        refine lv_goto hx hb d_AdjoinedSetsModel_beginsFormula_49 (tgt := 53) (by decide) ?_
        obtain rfl := Option.some.inj hs
        exact pg_zret (v := 1) C hw rfl d_AdjoinedSetsModel_beginsFormula_53
      · have hs := oi_f hc hs
        refine lv_iload_n hx hb d_AdjoinedSetsModel_beginsFormula_18 rfl (lv_at hl 0 rfl) ?_
        refine lv_bipush (v := 94) hx hb d_AdjoinedSetsModel_beginsFormula_19 (by decide) ?_
        refine lv_icmp_eq hx hb d_AdjoinedSetsModel_beginsFormula_21 (tgt := 48) (by decide) (fun hc => ?_) (fun hc => ?_)
        · have hs := oi_t hc hs
          refine lv_iconst (v := 1) hx hb d_AdjoinedSetsModel_beginsFormula_48 (by decide) ?_
          refine lv_goto hx hb d_AdjoinedSetsModel_beginsFormula_49 (tgt := 53) (by decide) ?_
          obtain rfl := Option.some.inj hs
          exact pg_zret (v := 1) C hw rfl d_AdjoinedSetsModel_beginsFormula_53
        · have hs := oi_f hc hs
          refine lv_iload_n hx hb d_AdjoinedSetsModel_beginsFormula_24 rfl (lv_at hl 0 rfl) ?_
          refine lv_bipush (v := 118) hx hb d_AdjoinedSetsModel_beginsFormula_25 (by decide) ?_
          refine lv_icmp_eq hx hb d_AdjoinedSetsModel_beginsFormula_27 (tgt := 48) (by decide) (fun hc => ?_) (fun hc => ?_)
          · have hs := oi_t hc hs
            refine lv_iconst (v := 1) hx hb d_AdjoinedSetsModel_beginsFormula_48 (by decide) ?_
            refine lv_goto hx hb d_AdjoinedSetsModel_beginsFormula_49 (tgt := 53) (by decide) ?_
            obtain rfl := Option.some.inj hs
            exact pg_zret (v := 1) C hw rfl d_AdjoinedSetsModel_beginsFormula_53
          · have hs := oi_f hc hs
            refine lv_iload_n hx hb d_AdjoinedSetsModel_beginsFormula_30 rfl (lv_at hl 0 rfl) ?_
            refine lv_bipush (v := 62) hx hb d_AdjoinedSetsModel_beginsFormula_31 (by decide) ?_
            refine lv_icmp_eq hx hb d_AdjoinedSetsModel_beginsFormula_33 (tgt := 48) (by decide) (fun hc => ?_) (fun hc => ?_)
            · have hs := oi_t hc hs
              refine lv_iconst (v := 1) hx hb d_AdjoinedSetsModel_beginsFormula_48 (by decide) ?_
              refine lv_goto hx hb d_AdjoinedSetsModel_beginsFormula_49 (tgt := 53) (by decide) ?_
              obtain rfl := Option.some.inj hs
              exact pg_zret (v := 1) C hw rfl d_AdjoinedSetsModel_beginsFormula_53
            · have hs := oi_f hc hs
              refine lv_iload_n hx hb d_AdjoinedSetsModel_beginsFormula_36 rfl (lv_at hl 0 rfl) ?_
              refine lv_bipush (v := 69) hx hb d_AdjoinedSetsModel_beginsFormula_37 (by decide) ?_
              refine lv_icmp_eq hx hb d_AdjoinedSetsModel_beginsFormula_39 (tgt := 48) (by decide) (fun hc => ?_) (fun hc => ?_)
              · have hs := oi_t hc hs
                refine lv_iconst (v := 1) hx hb d_AdjoinedSetsModel_beginsFormula_48 (by decide) ?_
                refine lv_goto hx hb d_AdjoinedSetsModel_beginsFormula_49 (tgt := 53) (by decide) ?_
                obtain rfl := Option.some.inj hs
                exact pg_zret (v := 1) C hw rfl d_AdjoinedSetsModel_beginsFormula_53
              · have hs := oi_f hc hs
                refine lv_iload_n hx hb d_AdjoinedSetsModel_beginsFormula_42 rfl (lv_at hl 0 rfl) ?_
                refine lv_bipush (v := 76) hx hb d_AdjoinedSetsModel_beginsFormula_43 (by decide) ?_
                refine lv_icmp_ne hx hb d_AdjoinedSetsModel_beginsFormula_45 (tgt := 52) (by decide) (fun hc => ?_) (fun hc => ?_)
                · have hs := oi_f hc hs
                  refine lv_iconst (v := 0) hx hb d_AdjoinedSetsModel_beginsFormula_52 (by decide) ?_
                  obtain rfl := Option.some.inj hs
                  exact pg_zret (v := 0) C hw rfl d_AdjoinedSetsModel_beginsFormula_53
                · have hs := oi_t hc hs
                  refine lv_iconst (v := 1) hx hb d_AdjoinedSetsModel_beginsFormula_48 (by decide) ?_
                  refine lv_goto hx hb d_AdjoinedSetsModel_beginsFormula_49 (tgt := 53) (by decide) ?_
                  obtain rfl := Option.some.inj hs
                  exact pg_zret (v := 1) C hw rfl d_AdjoinedSetsModel_beginsFormula_53

end
section
variable {p : Program} {l : Launch} {e : Env} {s : State} {m : MethodId} {args : Array Value} {below : List Frame} {meth : Method} {c : Code} {g : GG}
theorem d_AdjoinedSetsModel_isFunction_0 : decode b_AdjoinedSetsModel_isFunction 0 = .ok (.iload_n 0, 1) := by decide +kernel
theorem d_AdjoinedSetsModel_isFunction_1 : decode b_AdjoinedSetsModel_isFunction 1 = .ok (.bipush 65, 2) := by decide +kernel
theorem d_AdjoinedSetsModel_isFunction_3 : decode b_AdjoinedSetsModel_isFunction 3 = .ok (.if_icmp .lt 13, 3) := by decide +kernel
theorem d_AdjoinedSetsModel_isFunction_6 : decode b_AdjoinedSetsModel_isFunction 6 = .ok (.iload_n 0, 1) := by decide +kernel
theorem d_AdjoinedSetsModel_isFunction_7 : decode b_AdjoinedSetsModel_isFunction 7 = .ok (.bipush 68, 2) := by decide +kernel
theorem d_AdjoinedSetsModel_isFunction_9 : decode b_AdjoinedSetsModel_isFunction 9 = .ok (.if_icmp .gt 7, 3) := by decide +kernel
theorem d_AdjoinedSetsModel_isFunction_12 : decode b_AdjoinedSetsModel_isFunction 12 = .ok (.iconst 1, 1) := by decide +kernel
theorem d_AdjoinedSetsModel_isFunction_13 : decode b_AdjoinedSetsModel_isFunction 13 = .ok (.goto 4, 3) := by decide +kernel
theorem d_AdjoinedSetsModel_isFunction_16 : decode b_AdjoinedSetsModel_isFunction 16 = .ok (.iconst 0, 1) := by decide +kernel
theorem d_AdjoinedSetsModel_isFunction_17 : decode b_AdjoinedSetsModel_isFunction 17 = .ok (.ireturn, 1) := by decide +kernel
def s_AdjoinedSetsModel_isFunction (x0 : Int32) : Option (Int32) :=
  if x0 < 65 then (
    some 0)
  else (
    if 68 < x0 then (
      some 0)
    else (
      some 1))
set_option maxHeartbeats 4000000 in
set_option maxRecDepth 100000 in
theorem c_AdjoinedSetsModel_isFunction (l : Launch) (g : GG) {h : HP} {x0 : Int32} {z : Int32} (hs : s_AdjoinedSetsModel_isFunction x0 = some z) : Ct l g y_AdjoinedSetsModel_isFunction w_AdjoinedSetsModel_isFunction (rmS 0 0) [.int x0] h (some (.int z)) h := by
  refine Ct.of (own := R_AdjoinedSetsModel) (by decide) rfl rfl (Nat.le_of_ble_eq_true rfl) ?_
  intro p e s m args below meth c ls C hl hw
  have hx := C.1
  have hb := C.2.1
  have hl : lv_has ls 1 [(0, .int x0)] := hl
  unfold s_AdjoinedSetsModel_isFunction at hs
  refine lv_iload_n hx hb d_AdjoinedSetsModel_isFunction_0 rfl (lv_at hl 0 rfl) ?_
  refine lv_bipush (v := 65) hx hb d_AdjoinedSetsModel_isFunction_1 (by decide) ?_
  refine lv_icmp_lt hx hb d_AdjoinedSetsModel_isFunction_3 (tgt := 16) (by decide) (fun hc => ?_) (fun hc => ?_)
  · have hs := oi_t hc hs
    refine lv_iconst (v := 0) hx hb d_AdjoinedSetsModel_isFunction_16 (by decide) ?_
    obtain rfl := Option.some.inj hs
    exact pg_zret (v := 0) C hw rfl d_AdjoinedSetsModel_isFunction_17
  · have hs := oi_f hc hs
    refine lv_iload_n hx hb d_AdjoinedSetsModel_isFunction_6 rfl (lv_at hl 0 rfl) ?_
    refine lv_bipush (v := 68) hx hb d_AdjoinedSetsModel_isFunction_7 (by decide) ?_
    refine lv_icmp_gt hx hb d_AdjoinedSetsModel_isFunction_9 (tgt := 16) (by decide) (fun hc => ?_) (fun hc => ?_)
    · have hs := oi_t hc hs
      refine lv_iconst (v := 0) hx hb d_AdjoinedSetsModel_isFunction_16 (by decide) ?_
      obtain rfl := Option.some.inj hs
      exact pg_zret (v := 0) C hw rfl d_AdjoinedSetsModel_isFunction_17
    · have hs := oi_f hc hs
      refine lv_iconst (v := 1) hx hb d_AdjoinedSetsModel_isFunction_12 (by decide) ?_
      refine lv_goto hx hb d_AdjoinedSetsModel_isFunction_13 (tgt := 17) (by decide) ?_
      obtain rfl := Option.some.inj hs
      exact pg_zret (v := 1) C hw rfl d_AdjoinedSetsModel_isFunction_17

end
section
variable {p : Program} {l : Launch} {e : Env} {s : State} {m : MethodId} {args : Array Value} {below : List Frame} {meth : Method} {c : Code} {g : GG}
theorem d_AdjoinedSetsModel_isDigit_0 : decode b_AdjoinedSetsModel_isDigit 0 = .ok (.iload_n 0, 1) := by decide +kernel
theorem d_AdjoinedSetsModel_isDigit_1 : decode b_AdjoinedSetsModel_isDigit 1 = .ok (.bipush 48, 2) := by decide +kernel
theorem d_AdjoinedSetsModel_isDigit_3 : decode b_AdjoinedSetsModel_isDigit 3 = .ok (.if_icmp .lt 13, 3) := by decide +kernel
theorem d_AdjoinedSetsModel_isDigit_6 : decode b_AdjoinedSetsModel_isDigit 6 = .ok (.iload_n 0, 1) := by decide +kernel
theorem d_AdjoinedSetsModel_isDigit_7 : decode b_AdjoinedSetsModel_isDigit 7 = .ok (.bipush 57, 2) := by decide +kernel
theorem d_AdjoinedSetsModel_isDigit_9 : decode b_AdjoinedSetsModel_isDigit 9 = .ok (.if_icmp .gt 7, 3) := by decide +kernel
theorem d_AdjoinedSetsModel_isDigit_12 : decode b_AdjoinedSetsModel_isDigit 12 = .ok (.iconst 1, 1) := by decide +kernel
theorem d_AdjoinedSetsModel_isDigit_13 : decode b_AdjoinedSetsModel_isDigit 13 = .ok (.goto 4, 3) := by decide +kernel
theorem d_AdjoinedSetsModel_isDigit_16 : decode b_AdjoinedSetsModel_isDigit 16 = .ok (.iconst 0, 1) := by decide +kernel
theorem d_AdjoinedSetsModel_isDigit_17 : decode b_AdjoinedSetsModel_isDigit 17 = .ok (.ireturn, 1) := by decide +kernel
def s_AdjoinedSetsModel_isDigit (x0 : Int32) : Option (Int32) :=
  if x0 < 48 then (
    some 0)
  else (
    if 57 < x0 then (
      some 0)
    else (
      some 1))
set_option maxHeartbeats 4000000 in
set_option maxRecDepth 100000 in
theorem c_AdjoinedSetsModel_isDigit (l : Launch) (g : GG) {h : HP} {x0 : Int32} {z : Int32} (hs : s_AdjoinedSetsModel_isDigit x0 = some z) : Ct l g y_AdjoinedSetsModel_isDigit w_AdjoinedSetsModel_isDigit (rmS 0 0) [.int x0] h (some (.int z)) h := by
  refine Ct.of (own := R_AdjoinedSetsModel) (by decide) rfl rfl (Nat.le_of_ble_eq_true rfl) ?_
  intro p e s m args below meth c ls C hl hw
  have hx := C.1
  have hb := C.2.1
  have hl : lv_has ls 1 [(0, .int x0)] := hl
  unfold s_AdjoinedSetsModel_isDigit at hs
  refine lv_iload_n hx hb d_AdjoinedSetsModel_isDigit_0 rfl (lv_at hl 0 rfl) ?_
  refine lv_bipush (v := 48) hx hb d_AdjoinedSetsModel_isDigit_1 (by decide) ?_
  refine lv_icmp_lt hx hb d_AdjoinedSetsModel_isDigit_3 (tgt := 16) (by decide) (fun hc => ?_) (fun hc => ?_)
  · have hs := oi_t hc hs
    refine lv_iconst (v := 0) hx hb d_AdjoinedSetsModel_isDigit_16 (by decide) ?_
    obtain rfl := Option.some.inj hs
    exact pg_zret (v := 0) C hw rfl d_AdjoinedSetsModel_isDigit_17
  · have hs := oi_f hc hs
    refine lv_iload_n hx hb d_AdjoinedSetsModel_isDigit_6 rfl (lv_at hl 0 rfl) ?_
    refine lv_bipush (v := 57) hx hb d_AdjoinedSetsModel_isDigit_7 (by decide) ?_
    refine lv_icmp_gt hx hb d_AdjoinedSetsModel_isDigit_9 (tgt := 16) (by decide) (fun hc => ?_) (fun hc => ?_)
    · have hs := oi_t hc hs
      refine lv_iconst (v := 0) hx hb d_AdjoinedSetsModel_isDigit_16 (by decide) ?_
      obtain rfl := Option.some.inj hs
      exact pg_zret (v := 0) C hw rfl d_AdjoinedSetsModel_isDigit_17
    · have hs := oi_f hc hs
      refine lv_iconst (v := 1) hx hb d_AdjoinedSetsModel_isDigit_12 (by decide) ?_
      refine lv_goto hx hb d_AdjoinedSetsModel_isDigit_13 (tgt := 17) (by decide) ?_
      obtain rfl := Option.some.inj hs
      exact pg_zret (v := 1) C hw rfl d_AdjoinedSetsModel_isDigit_17

end
