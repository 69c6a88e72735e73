section
variable {p : Program} {l : Launch} {e : Env} {s : State} {m : MethodId} {args : Array Value} {below : List Frame} {meth : Method} {c : Code} {g : GG}
theorem d_AdjoinedSetsModel_isSame_0 : decode b_AdjoinedSetsModel_isSame 0 = .ok (.iconst 1, 1) := by decide +kernel
theorem d_AdjoinedSetsModel_isSame_1 : decode b_AdjoinedSetsModel_isSame 1 = .ok (.istore 4, 2) := by decide +kernel
theorem d_AdjoinedSetsModel_isSame_3 : decode b_AdjoinedSetsModel_isSame 3 = .ok (.iconst 0, 1) := by decide +kernel
theorem d_AdjoinedSetsModel_isSame_4 : decode b_AdjoinedSetsModel_isSame 4 = .ok (.istore 5, 2) := by decide +kernel
theorem d_AdjoinedSetsModel_isSame_6 : decode b_AdjoinedSetsModel_isSame 6 = .ok (.iload 5, 2) := by decide +kernel
theorem d_AdjoinedSetsModel_isSame_8 : decode b_AdjoinedSetsModel_isSame 8 = .ok (.iload_n 3, 1) := by decide +kernel
theorem d_AdjoinedSetsModel_isSame_9 : decode b_AdjoinedSetsModel_isSame 9 = .ok (.if_icmp .ge 42, 3) := by decide +kernel
theorem d_AdjoinedSetsModel_isSame_12 : decode b_AdjoinedSetsModel_isSame 12 = .ok (.iload 4, 2) := by decide +kernel
theorem d_AdjoinedSetsModel_isSame_14 : decode b_AdjoinedSetsModel_isSame 14 = .ok (.ifCond .eq 28, 3) := by decide +kernel
theorem d_AdjoinedSetsModel_isSame_17 : decode b_AdjoinedSetsModel_isSame 17 = .ok (.aload_n 0, 1) := by decide +kernel
theorem d_AdjoinedSetsModel_isSame_18 : decode b_AdjoinedSetsModel_isSame 18 = .ok (.getfield 7, 3) := by decide +kernel
theorem d_AdjoinedSetsModel_isSame_21 : decode b_AdjoinedSetsModel_isSame 21 = .ok (.iload_n 1, 1) := by decide +kernel
theorem d_AdjoinedSetsModel_isSame_22 : decode b_AdjoinedSetsModel_isSame 22 = .ok (.iload 5, 2) := by decide +kernel
theorem d_AdjoinedSetsModel_isSame_24 : decode b_AdjoinedSetsModel_isSame 24 = .ok (.iadd, 1) := by decide +kernel
theorem d_AdjoinedSetsModel_isSame_25 : decode b_AdjoinedSetsModel_isSame 25 = .ok (.iaload, 1) := by decide +kernel
theorem d_AdjoinedSetsModel_isSame_26 : decode b_AdjoinedSetsModel_isSame 26 = .ok (.aload_n 0, 1) := by decide +kernel
theorem d_AdjoinedSetsModel_isSame_27 : decode b_AdjoinedSetsModel_isSame 27 = .ok (.getfield 7, 3) := by decide +kernel
theorem d_AdjoinedSetsModel_isSame_30 : decode b_AdjoinedSetsModel_isSame 30 = .ok (.iload_n 2, 1) := by decide +kernel
theorem d_AdjoinedSetsModel_isSame_31 : decode b_AdjoinedSetsModel_isSame 31 = .ok (.iload 5, 2) := by decide +kernel
theorem d_AdjoinedSetsModel_isSame_33 : decode b_AdjoinedSetsModel_isSame 33 = .ok (.iadd, 1) := by decide +kernel
theorem d_AdjoinedSetsModel_isSame_34 : decode b_AdjoinedSetsModel_isSame 34 = .ok (.iaload, 1) := by decide +kernel
theorem d_AdjoinedSetsModel_isSame_35 : decode b_AdjoinedSetsModel_isSame 35 = .ok (.if_icmp .ne 7, 3) := by decide +kernel
theorem d_AdjoinedSetsModel_isSame_38 : decode b_AdjoinedSetsModel_isSame 38 = .ok (.iconst 1, 1) := by decide +kernel
theorem d_AdjoinedSetsModel_isSame_39 : decode b_AdjoinedSetsModel_isSame 39 = .ok (.goto 4, 3) := by decide +kernel
theorem d_AdjoinedSetsModel_isSame_42 : decode b_AdjoinedSetsModel_isSame 42 = .ok (.iconst 0, 1) := by decide +kernel
theorem d_AdjoinedSetsModel_isSame_43 : decode b_AdjoinedSetsModel_isSame 43 = .ok (.istore 4, 2) := by decide +kernel
theorem d_AdjoinedSetsModel_isSame_45 : decode b_AdjoinedSetsModel_isSame 45 = .ok (.iinc 5 1, 3) := by decide +kernel
theorem d_AdjoinedSetsModel_isSame_48 : decode b_AdjoinedSetsModel_isSame 48 = .ok (.goto (-42), 3) := by decide +kernel
theorem d_AdjoinedSetsModel_isSame_51 : decode b_AdjoinedSetsModel_isSame 51 = .ok (.iload 4, 2) := by decide +kernel
theorem d_AdjoinedSetsModel_isSame_53 : decode b_AdjoinedSetsModel_isSame 53 = .ok (.ireturn, 1) := by decide +kernel
def s_AdjoinedSetsModel_isSame_43 (c6 : Nat → Int32 → Int32 → Int32 → Int32 → Int32 → HP → Option (Int32)) (x0 : Nat) (x1 : Int32) (x2 : Int32) (x3 : Int32) (x5 : Int32) (t0 : Int32) (h : HP) : Option (Int32) :=
  c6 x0 x1 x2 x3 t0 (x5 + 1) h
set_option maxHeartbeats 4000000 in
set_option maxRecDepth 100000 in
theorem k_AdjoinedSetsModel_isSame_43 {h : HP} {x0 : Nat} {x1 : Int32} {x2 : Int32} {x3 : Int32} {x5 : Int32} {t0 : Int32} {z : Int32} (C : CX g R_AdjoinedSetsModel b_AdjoinedSetsModel_isSame 6 (some .boolean) p s m args meth c) (c6 : Nat → Int32 → Int32 → Int32 → Int32 → Int32 → HP → Option (Int32))
    (hc6 : ∀ {x0 : Nat} {x1 : Int32} {x2 : Int32} {x3 : Int32} {x4 : Int32} {x5 : Int32} {H : Heap} {locs : List Loc} {ls : Array Slot}, WD g h s.heap H locs → lv_has ls 6 [(0, .ref (aD g x0)), (1, .int x1), (2, .int x2), (3, .int x3), (4, .int x4), (5, .int x5)] → c6 x0 x1 x2 x3 x4 x5 h = some z → W p l e (rmS 0 0) s m args below meth c H locs 0 0 (MQ below (Qq g (some (.int z)) h) args s 0 0 (inA g)) (F0 m 6 ls [])) {H : Heap} {locs : List Loc} {ls : Array Slot} (hw : WD g h s.heap H locs) (hl : lv_has ls 6 [(0, .ref (aD g x0)), (1, .int x1), (2, .int x2), (3, .int x3), (5, .int x5)]) (hs : s_AdjoinedSetsModel_isSame_43 c6 x0 x1 x2 x3 x5 t0 h = some z) : W p l e (rmS 0 0) s m args below meth c H locs 0 0 (MQ below (Qq g (some (.int z)) h) args s 0 0 (inA g)) (F0 m 43 ls [.int t0]) := by
  unfold s_AdjoinedSetsModel_isSame_43 at hs
  have hx := C.1
  have hb := C.2.1
  refine lv_istore hx hb d_AdjoinedSetsModel_isSame_43 hl (by decide) (lv' := [(4, .int t0), (0, .ref (aD g x0)), (1, .int x1), (2, .int x2), (3, .int x3), (5, .int x5)]) rfl (fun ls hl => ?_)
  refine lv_iinc hx hb d_AdjoinedSetsModel_isSame_45 hl (k := 5) rfl (v := (x5 + 1)) (iinc_e _ (by decide)) (by decide) (lv' := [(5, .int (x5 + 1)), (4, .int t0), (0, .ref (aD g x0)), (1, .int x1), (2, .int x2), (3, .int x3)]) rfl (fun ls hl => ?_)
  refine lv_goto hx hb d_AdjoinedSetsModel_isSame_48 (tgt := 6) (by decide) ?_
  exact hc6 hw (lv_sub hl [2, 3, 4, 5, 1, 0] rfl) hs

def s_AdjoinedSetsModel_isSame_42 (c6 : Nat → Int32 → Int32 → Int32 → Int32 → Int32 → HP → Option (Int32)) (x0 : Nat) (x1 : Int32) (x2 : Int32) (x3 : Int32) (x5 : Int32) (h : HP) : Option (Int32) :=
  s_AdjoinedSetsModel_isSame_43 c6 x0 x1 x2 x3 x5 0 h
set_option maxHeartbeats 4000000 in
set_option maxRecDepth 100000 in
theorem k_AdjoinedSetsModel_isSame_42 {h : HP} {x0 : Nat} {x1 : Int32} {x2 : Int32} {x3 : Int32} {x5 : Int32} {z : Int32} (C : CX g R_AdjoinedSetsModel b_AdjoinedSetsModel_isSame 6 (some .boolean) p s m args meth c) (c6 : Nat → Int32 → Int32 → Int32 → Int32 → Int32 → HP → Option (Int32))
    (hc6 : ∀ {x0 : Nat} {x1 : Int32} {x2 : Int32} {x3 : Int32} {x4 : Int32} {x5 : Int32} {H : Heap} {locs : List Loc} {ls : Array Slot}, WD g h s.heap H locs → lv_has ls 6 [(0, .ref (aD g x0)), (1, .int x1), (2, .int x2), (3, .int x3), (4, .int x4), (5, .int x5)] → c6 x0 x1 x2 x3 x4 x5 h = some z → W p l e (rmS 0 0) s m args below meth c H locs 0 0 (MQ below (Qq g (some (.int z)) h) args s 0 0 (inA g)) (F0 m 6 ls [])) {H : Heap} {locs : List Loc} {ls : Array Slot} (hw : WD g h s.heap H locs) (hl : lv_has ls 6 [(0, .ref (aD g x0)), (1, .int x1), (2, .int x2), (3, .int x3), (5, .int x5)]) (hs : s_AdjoinedSetsModel_isSame_42 c6 x0 x1 x2 x3 x5 h = some z) : W p l e (rmS 0 0) s m args below meth c H locs 0 0 (MQ below (Qq g (some (.int z)) h) args s 0 0 (inA g)) (F0 m 42 ls []) := by
  unfold s_AdjoinedSetsModel_isSame_42 at hs
  have hx := C.1
  have hb := C.2.1
  refine lv_iconst (v := 0) hx hb d_AdjoinedSetsModel_isSame_42 (by decide) ?_
  exact k_AdjoinedSetsModel_isSame_43 C c6 hc6 hw (lv_sub hl [0, 1, 2, 3, 4] rfl) hs

def s_AdjoinedSetsModel_isSame_6 : Nat → Nat → Int32 → Int32 → Int32 → Int32 → Int32 → HP → Option (Int32)
  | 0 => fun _ _ _ _ _ _ _ => none
  | k + 1 => fun x0 x1 x2 x3 x4 x5 h =>
  if x3 ≤ x5 then (
    (zr x4).bind fun _ => some x4)
  else (
    if x4 = 0 then (
      s_AdjoinedSetsModel_isSame_42 (s_AdjoinedSetsModel_isSame_6 k) x0 x1 x2 x3 x5 h)
    else (
      (gR h x0 9 0).bind fun v2 =>
      (aI h v2 0 (x1 + x5)).bind fun v4 =>
      (gR h x0 9 0).bind fun v6 =>
      (aI h v6 0 (x2 + x5)).bind fun v8 =>
      if v4 = v8 then (
        s_AdjoinedSetsModel_isSame_43 (s_AdjoinedSetsModel_isSame_6 k) x0 x1 x2 x3 x5 1 h)
      else (
        s_AdjoinedSetsModel_isSame_42 (s_AdjoinedSetsModel_isSame_6 k) x0 x1 x2 x3 x5 h)))
set_option maxHeartbeats 4000000 in
set_option maxRecDepth 100000 in
theorem k_AdjoinedSetsModel_isSame_6 {h : HP} {z : Int32} (C : CX g R_AdjoinedSetsModel b_AdjoinedSetsModel_isSame 6 (some .boolean) p s m args meth c) : ∀ (k : Nat) {x0 : Nat} {x1 : Int32} {x2 : Int32} {x3 : Int32} {x4 : Int32} {x5 : Int32} {H : Heap} {locs : List Loc} {ls : Array Slot}, WD g h s.heap H locs → lv_has ls 6 [(0, .ref (aD g x0)), (1, .int x1), (2, .int x2), (3, .int x3), (4, .int x4), (5, .int x5)] → s_AdjoinedSetsModel_isSame_6 k x0 x1 x2 x3 x4 x5 h = some z → W p l e (rmS 0 0) s m args below meth c H locs 0 0 (MQ below (Qq g (some (.int z)) h) args s 0 0 (inA g)) (F0 m 6 ls []) := by
  have hx := C.1
  have hb := C.2.1
  intro k
  induction k with
  | zero =>
    intro x0 x1 x2 x3 x4 x5 H locs ls hw hl hs
    exact (no_s hs).elim
  | succ k ih =>
    intro x0 x1 x2 x3 x4 x5 H locs ls hw hl hs
    rw [s_AdjoinedSetsModel_isSame_6] at hs
    refine lv_iload hx hb d_AdjoinedSetsModel_isSame_6 (lv_at hl 5 rfl) ?_
    refine lv_iload_n hx hb d_AdjoinedSetsModel_isSame_8 rfl (lv_at hl 3 rfl) ?_
    refine lv_icmp_ge hx hb d_AdjoinedSetsModel_isSame_9 (tgt := 51) (by decide) (fun hc => ?_) (fun hc => ?_)
    · have hs := oi_t hc hs
      refine lv_iload hx hb d_AdjoinedSetsModel_isSame_51 (lv_at hl 4 rfl) ?_
      obtain ⟨_, e1, hs⟩ := ob hs
      obtain rfl := Option.some.inj hs
      exact pg_zret (v := x4) C hw (zr_n e1) d_AdjoinedSetsModel_isSame_53
    · have hs := oi_f hc hs
      refine lv_iload hx hb d_AdjoinedSetsModel_isSame_12 (lv_at hl 4 rfl) ?_
      refine lv_if_eq hx hb d_AdjoinedSetsModel_isSame_14 (tgt := 42) (by decide) (fun hc => ?_) (fun hc => ?_)
      · have hs := oi_t hc hs
        exact k_AdjoinedSetsModel_isSame_42 C (s_AdjoinedSetsModel_isSame_6 k) ih hw (lv_sub hl [0, 1, 2, 3, 5] rfl) hs
      · have hs := oi_f hc hs
        refine lv_aload_n hx hb d_AdjoinedSetsModel_isSame_17 rfl (lv_at hl 0 rfl) ?_
        obtain ⟨v2, e3, hs⟩ := ob hs
        refine pg_getR C hw fl_AdjoinedSetsModel_7 e3 d_AdjoinedSetsModel_isSame_18 ?_
        refine lv_iload_n hx hb d_AdjoinedSetsModel_isSame_21 rfl (lv_at hl 1 rfl) ?_
        refine lv_iload hx hb d_AdjoinedSetsModel_isSame_22 (lv_at hl 5 rfl) ?_
        refine lv_iadd hx hb d_AdjoinedSetsModel_isSame_24 ?_
        obtain ⟨v4, e5, hs⟩ := ob hs
        refine pg_iaload C hw (t0 := 0) rfl e5 d_AdjoinedSetsModel_isSame_25 ?_
        refine lv_aload_n hx hb d_AdjoinedSetsModel_isSame_26 rfl (lv_at hl 0 rfl) ?_
        obtain ⟨v6, e7, hs⟩ := ob hs
        refine pg_getR C hw fl_AdjoinedSetsModel_7 e7 d_AdjoinedSetsModel_isSame_27 ?_
        refine lv_iload_n hx hb d_AdjoinedSetsModel_isSame_30 rfl (lv_at hl 2 rfl) ?_
        refine lv_iload hx hb d_AdjoinedSetsModel_isSame_31 (lv_at hl 5 rfl) ?_
        refine lv_iadd hx hb d_AdjoinedSetsModel_isSame_33 ?_
        obtain ⟨v8, e9, hs⟩ := ob hs
        refine pg_iaload C hw (t0 := 0) rfl e9 d_AdjoinedSetsModel_isSame_34 ?_
        refine lv_icmp_ne hx hb d_AdjoinedSetsModel_isSame_35 (tgt := 42) (by decide) (fun hc => ?_) (fun hc => ?_)
        · have hs := oi_f hc hs
          exact k_AdjoinedSetsModel_isSame_42 C (s_AdjoinedSetsModel_isSame_6 k) ih hw (lv_sub hl [0, 1, 2, 3, 5] rfl) hs
        · have hs := oi_t hc hs
          refine lv_iconst (v := 1) hx hb d_AdjoinedSetsModel_isSame_38 (by decide) ?_
          refine lv_goto hx hb d_AdjoinedSetsModel_isSame_39 (tgt := 43) (by decide) ?_
          exact k_AdjoinedSetsModel_isSame_43 C (s_AdjoinedSetsModel_isSame_6 k) ih hw (lv_sub hl [0, 1, 2, 3, 5] rfl) hs

def s_AdjoinedSetsModel_isSame (x0 : Nat) (x1 : Int32) (x2 : Int32) (x3 : Int32) (h : HP) : Option (Int32) :=
  s_AdjoinedSetsModel_isSame_6 20000 x0 x1 x2 x3 1 0 h
set_option maxHeartbeats 4000000 in
set_option maxRecDepth 100000 in
theorem c_AdjoinedSetsModel_isSame (l : Launch) (g : GG) {h : HP} {x0 : Nat} {x1 : Int32} {x2 : Int32} {x3 : Int32} {z : Int32} (hs : s_AdjoinedSetsModel_isSame x0 x1 x2 x3 h = some z) : Ct l g y_AdjoinedSetsModel_isSame w_AdjoinedSetsModel_isSame (rmS 0 0) [.ref (aD g x0), .int x1, .int x2, .int x3] h (some (.int z)) h := by
  refine Ct.of (own := R_AdjoinedSetsModel) (by decide) rfl rfl (Nat.le_of_ble_eq_true rfl) ?_
  intro p e s m args below meth c ls C hl hw
  have hx := C.1
  have hb := C.2.1
  have hl : lv_has ls 6 [(0, .ref (aD g x0)), (1, .int x1), (2, .int x2), (3, .int x3)] := hl
  unfold s_AdjoinedSetsModel_isSame at hs
  refine lv_iconst (v := 1) hx hb d_AdjoinedSetsModel_isSame_0 (by decide) ?_
  refine lv_istore hx hb d_AdjoinedSetsModel_isSame_1 hl (by decide) (lv' := [(4, .int 1), (0, .ref (aD g x0)), (1, .int x1), (2, .int x2), (3, .int x3)]) rfl (fun ls hl => ?_)
  refine lv_iconst (v := 0) hx hb d_AdjoinedSetsModel_isSame_3 (by decide) ?_
  refine lv_istore hx hb d_AdjoinedSetsModel_isSame_4 hl (by decide) (lv' := [(5, .int 0), (4, .int 1), (0, .ref (aD g x0)), (1, .int x1), (2, .int x2), (3, .int x3)]) rfl (fun ls hl => ?_)
  exact k_AdjoinedSetsModel_isSame_6 C 20000 hw (lv_sub hl [2, 3, 4, 5, 1, 0] rfl) hs

end
section
variable {p : Program} {l : Launch} {e : Env} {s : State} {m : MethodId} {args : Array Value} {below : List Frame} {meth : Method} {c : Code} {g : GG}
theorem d_AdjoinedSetsModel_tokenize_0 : decode b_AdjoinedSetsModel_tokenize 0 = .ok (.iconst 0, 1) := by decide +kernel
theorem d_AdjoinedSetsModel_tokenize_1 : decode b_AdjoinedSetsModel_tokenize 1 = .ok (.istore_n 1, 1) := by decide +kernel
theorem d_AdjoinedSetsModel_tokenize_2 : decode b_AdjoinedSetsModel_tokenize 2 = .ok (.iconst 0, 1) := by decide +kernel
theorem d_AdjoinedSetsModel_tokenize_3 : decode b_AdjoinedSetsModel_tokenize 3 = .ok (.istore_n 2, 1) := by decide +kernel
theorem d_AdjoinedSetsModel_tokenize_4 : decode b_AdjoinedSetsModel_tokenize 4 = .ok (.iconst 0, 1) := by decide +kernel
theorem d_AdjoinedSetsModel_tokenize_5 : decode b_AdjoinedSetsModel_tokenize 5 = .ok (.istore_n 3, 1) := by decide +kernel
theorem d_AdjoinedSetsModel_tokenize_6 : decode b_AdjoinedSetsModel_tokenize 6 = .ok (.iload_n 3, 1) := by decide +kernel
theorem d_AdjoinedSetsModel_tokenize_7 : decode b_AdjoinedSetsModel_tokenize 7 = .ok (.aload_n 0, 1) := by decide +kernel
theorem d_AdjoinedSetsModel_tokenize_8 : decode b_AdjoinedSetsModel_tokenize 8 = .ok (.getfield 124, 3) := by decide +kernel
theorem d_AdjoinedSetsModel_tokenize_11 : decode b_AdjoinedSetsModel_tokenize 11 = .ok (.if_icmp .ge 175, 3) := by decide +kernel
theorem d_AdjoinedSetsModel_tokenize_14 : decode b_AdjoinedSetsModel_tokenize 14 = .ok (.aload_n 0, 1) := by decide +kernel
theorem d_AdjoinedSetsModel_tokenize_15 : decode b_AdjoinedSetsModel_tokenize 15 = .ok (.getfield 7, 3) := by decide +kernel
theorem d_AdjoinedSetsModel_tokenize_18 : decode b_AdjoinedSetsModel_tokenize 18 = .ok (.iload_n 3, 1) := by decide +kernel
theorem d_AdjoinedSetsModel_tokenize_19 : decode b_AdjoinedSetsModel_tokenize 19 = .ok (.iaload, 1) := by decide +kernel
theorem d_AdjoinedSetsModel_tokenize_20 : decode b_AdjoinedSetsModel_tokenize 20 = .ok (.istore 4, 2) := by decide +kernel
theorem d_AdjoinedSetsModel_tokenize_22 : decode b_AdjoinedSetsModel_tokenize 22 = .ok (.iload 4, 2) := by decide +kernel
theorem d_AdjoinedSetsModel_tokenize_24 : decode b_AdjoinedSetsModel_tokenize 24 = .ok (.bipush 33, 2) := by decide +kernel
theorem d_AdjoinedSetsModel_tokenize_26 : decode b_AdjoinedSetsModel_tokenize 26 = .ok (.if_icmp .eq 24, 3) := by decide +kernel
theorem d_AdjoinedSetsModel_tokenize_29 : decode b_AdjoinedSetsModel_tokenize 29 = .ok (.iload 4, 2) := by decide +kernel
theorem d_AdjoinedSetsModel_tokenize_31 : decode b_AdjoinedSetsModel_tokenize 31 = .ok (.bipush 94, 2) := by decide +kernel
theorem d_AdjoinedSetsModel_tokenize_33 : decode b_AdjoinedSetsModel_tokenize 33 = .ok (.if_icmp .eq 17, 3) := by decide +kernel
theorem d_AdjoinedSetsModel_tokenize_36 : decode b_AdjoinedSetsModel_tokenize 36 = .ok (.iload 4, 2) := by decide +kernel
theorem d_AdjoinedSetsModel_tokenize_38 : decode b_AdjoinedSetsModel_tokenize 38 = .ok (.bipush 118, 2) := by decide +kernel
theorem d_AdjoinedSetsModel_tokenize_40 : decode b_AdjoinedSetsModel_tokenize 40 = .ok (.if_icmp .eq 10, 3) := by decide +kernel
theorem d_AdjoinedSetsModel_tokenize_43 : decode b_AdjoinedSetsModel_tokenize 43 = .ok (.iload 4, 2) := by decide +kernel
theorem d_AdjoinedSetsModel_tokenize_45 : decode b_AdjoinedSetsModel_tokenize 45 = .ok (.bipush 62, 2) := by decide +kernel
theorem d_AdjoinedSetsModel_tokenize_47 : decode b_AdjoinedSetsModel_tokenize 47 = .ok (.if_icmp .ne 17, 3) := by decide +kernel
theorem d_AdjoinedSetsModel_tokenize_50 : decode b_AdjoinedSetsModel_tokenize 50 = .ok (.aload_n 0, 1) := by decide +kernel
theorem d_AdjoinedSetsModel_tokenize_51 : decode b_AdjoinedSetsModel_tokenize 51 = .ok (.getfield 84, 3) := by decide +kernel
theorem d_AdjoinedSetsModel_tokenize_54 : decode b_AdjoinedSetsModel_tokenize 54 = .ok (.iload_n 1, 1) := by decide +kernel
theorem d_AdjoinedSetsModel_tokenize_55 : decode b_AdjoinedSetsModel_tokenize 55 = .ok (.iload 4, 2) := by decide +kernel
theorem d_AdjoinedSetsModel_tokenize_57 : decode b_AdjoinedSetsModel_tokenize 57 = .ok (.iastore, 1) := by decide +kernel
theorem d_AdjoinedSetsModel_tokenize_58 : decode b_AdjoinedSetsModel_tokenize 58 = .ok (.iinc 3 1, 3) := by decide +kernel
theorem d_AdjoinedSetsModel_tokenize_61 : decode b_AdjoinedSetsModel_tokenize 61 = .ok (.goto 119, 3) := by decide +kernel
theorem d_AdjoinedSetsModel_tokenize_64 : decode b_AdjoinedSetsModel_tokenize 64 = .ok (.aload_n 0, 1) := by decide +kernel
theorem d_AdjoinedSetsModel_tokenize_65 : decode b_AdjoinedSetsModel_tokenize 65 = .ok (.iload_n 3, 1) := by decide +kernel
theorem d_AdjoinedSetsModel_tokenize_66 : decode b_AdjoinedSetsModel_tokenize 66 = .ok (.invokevirtual 197, 3) := by decide +kernel
theorem d_AdjoinedSetsModel_tokenize_69 : decode b_AdjoinedSetsModel_tokenize 69 = .ok (.iload_n 3, 1) := by decide +kernel
theorem d_AdjoinedSetsModel_tokenize_70 : decode b_AdjoinedSetsModel_tokenize 70 = .ok (.isub, 1) := by decide +kernel
theorem d_AdjoinedSetsModel_tokenize_71 : decode b_AdjoinedSetsModel_tokenize 71 = .ok (.istore 5, 2) := by decide +kernel
theorem d_AdjoinedSetsModel_tokenize_73 : decode b_AdjoinedSetsModel_tokenize 73 = .ok (.iconst (-1), 1) := by decide +kernel
theorem d_AdjoinedSetsModel_tokenize_74 : decode b_AdjoinedSetsModel_tokenize 74 = .ok (.istore 6, 2) := by decide +kernel
theorem d_AdjoinedSetsModel_tokenize_76 : decode b_AdjoinedSetsModel_tokenize 76 = .ok (.iconst 0, 1) := by decide +kernel
theorem d_AdjoinedSetsModel_tokenize_77 : decode b_AdjoinedSetsModel_tokenize 77 = .ok (.istore 7, 2) := by decide +kernel
theorem d_AdjoinedSetsModel_tokenize_79 : decode b_AdjoinedSetsModel_tokenize 79 = .ok (.iload 7, 2) := by decide +kernel
theorem d_AdjoinedSetsModel_tokenize_81 : decode b_AdjoinedSetsModel_tokenize 81 = .ok (.iload_n 2, 1) := by decide +kernel
theorem d_AdjoinedSetsModel_tokenize_82 : decode b_AdjoinedSetsModel_tokenize 82 = .ok (.if_icmp .ge 47, 3) := by decide +kernel
theorem d_AdjoinedSetsModel_tokenize_85 : decode b_AdjoinedSetsModel_tokenize 85 = .ok (.aload_n 0, 1) := by decide +kernel
theorem d_AdjoinedSetsModel_tokenize_86 : decode b_AdjoinedSetsModel_tokenize 86 = .ok (.getfield 90, 3) := by decide +kernel
theorem d_AdjoinedSetsModel_tokenize_89 : decode b_AdjoinedSetsModel_tokenize 89 = .ok (.iload 7, 2) := by decide +kernel
theorem d_AdjoinedSetsModel_tokenize_91 : decode b_AdjoinedSetsModel_tokenize 91 = .ok (.iaload, 1) := by decide +kernel
theorem d_AdjoinedSetsModel_tokenize_92 : decode b_AdjoinedSetsModel_tokenize 92 = .ok (.iload 5, 2) := by decide +kernel
theorem d_AdjoinedSetsModel_tokenize_94 : decode b_AdjoinedSetsModel_tokenize 94 = .ok (.if_icmp .ne 25, 3) := by decide +kernel
theorem d_AdjoinedSetsModel_tokenize_97 : decode b_AdjoinedSetsModel_tokenize 97 = .ok (.aload_n 0, 1) := by decide +kernel
theorem d_AdjoinedSetsModel_tokenize_98 : decode b_AdjoinedSetsModel_tokenize 98 = .ok (.aload_n 0, 1) := by decide +kernel
theorem d_AdjoinedSetsModel_tokenize_99 : decode b_AdjoinedSetsModel_tokenize 99 = .ok (.getfield 87, 3) := by decide +kernel
theorem d_AdjoinedSetsModel_tokenize_102 : decode b_AdjoinedSetsModel_tokenize 102 = .ok (.iload 7, 2) := by decide +kernel
theorem d_AdjoinedSetsModel_tokenize_104 : decode b_AdjoinedSetsModel_tokenize 104 = .ok (.iaload, 1) := by decide +kernel
theorem d_AdjoinedSetsModel_tokenize_105 : decode b_AdjoinedSetsModel_tokenize 105 = .ok (.iload_n 3, 1) := by decide +kernel
theorem d_AdjoinedSetsModel_tokenize_106 : decode b_AdjoinedSetsModel_tokenize 106 = .ok (.iload 5, 2) := by decide +kernel
theorem d_AdjoinedSetsModel_tokenize_108 : decode b_AdjoinedSetsModel_tokenize 108 = .ok (.invokevirtual 240, 3) := by decide +kernel
theorem d_AdjoinedSetsModel_tokenize_111 : decode b_AdjoinedSetsModel_tokenize 111 = .ok (.ifCond .eq 8, 3) := by decide +kernel
theorem d_AdjoinedSetsModel_tokenize_114 : decode b_AdjoinedSetsModel_tokenize 114 = .ok (.iload 7, 2) := by decide +kernel
theorem d_AdjoinedSetsModel_tokenize_116 : decode b_AdjoinedSetsModel_tokenize 116 = .ok (.goto 5, 3) := by decide +kernel
theorem d_AdjoinedSetsModel_tokenize_119 : decode b_AdjoinedSetsModel_tokenize 119 = .ok (.iload 6, 2) := by decide +kernel
theorem d_AdjoinedSetsModel_tokenize_121 : decode b_AdjoinedSetsModel_tokenize 121 = .ok (.istore 6, 2) := by decide +kernel
theorem d_AdjoinedSetsModel_tokenize_123 : decode b_AdjoinedSetsModel_tokenize 123 = .ok (.iinc 7 1, 3) := by decide +kernel
theorem d_AdjoinedSetsModel_tokenize_126 : decode b_AdjoinedSetsModel_tokenize 126 = .ok (.goto (-47), 3) := by decide +kernel
theorem d_AdjoinedSetsModel_tokenize_129 : decode b_AdjoinedSetsModel_tokenize 129 = .ok (.iload 6, 2) := by decide +kernel
theorem d_AdjoinedSetsModel_tokenize_131 : decode b_AdjoinedSetsModel_tokenize 131 = .ok (.ifCond .ge 32, 3) := by decide +kernel
theorem d_AdjoinedSetsModel_tokenize_134 : decode b_AdjoinedSetsModel_tokenize 134 = .ok (.iload_n 2, 1) := by decide +kernel
theorem d_AdjoinedSetsModel_tokenize_135 : decode b_AdjoinedSetsModel_tokenize 135 = .ok (.bipush 6, 2) := by decide +kernel
theorem d_AdjoinedSetsModel_tokenize_137 : decode b_AdjoinedSetsModel_tokenize 137 = .ok (.if_icmp .ne 5, 3) := by decide +kernel
theorem d_AdjoinedSetsModel_tokenize_140 : decode b_AdjoinedSetsModel_tokenize 140 = .ok (.iconst (-1), 1) := by decide +kernel
theorem d_AdjoinedSetsModel_tokenize_141 : decode b_AdjoinedSetsModel_tokenize 141 = .ok (.ireturn, 1) := by decide +kernel
theorem d_AdjoinedSetsModel_tokenize_142 : decode b_AdjoinedSetsModel_tokenize 142 = .ok (.aload_n 0, 1) := by decide +kernel
theorem d_AdjoinedSetsModel_tokenize_143 : decode b_AdjoinedSetsModel_tokenize 143 = .ok (.getfield 87, 3) := by decide +kernel
theorem d_AdjoinedSetsModel_tokenize_146 : decode b_AdjoinedSetsModel_tokenize 146 = .ok (.iload_n 2, 1) := by decide +kernel
theorem d_AdjoinedSetsModel_tokenize_147 : decode b_AdjoinedSetsModel_tokenize 147 = .ok (.iload_n 3, 1) := by decide +kernel
theorem d_AdjoinedSetsModel_tokenize_148 : decode b_AdjoinedSetsModel_tokenize 148 = .ok (.iastore, 1) := by decide +kernel
theorem d_AdjoinedSetsModel_tokenize_149 : decode b_AdjoinedSetsModel_tokenize 149 = .ok (.aload_n 0, 1) := by decide +kernel
theorem d_AdjoinedSetsModel_tokenize_150 : decode b_AdjoinedSetsModel_tokenize 150 = .ok (.getfield 90, 3) := by decide +kernel
theorem d_AdjoinedSetsModel_tokenize_153 : decode b_AdjoinedSetsModel_tokenize 153 = .ok (.iload_n 2, 1) := by decide +kernel
theorem d_AdjoinedSetsModel_tokenize_154 : decode b_AdjoinedSetsModel_tokenize 154 = .ok (.iload 5, 2) := by decide +kernel
theorem d_AdjoinedSetsModel_tokenize_156 : decode b_AdjoinedSetsModel_tokenize 156 = .ok (.iastore, 1) := by decide +kernel
theorem d_AdjoinedSetsModel_tokenize_157 : decode b_AdjoinedSetsModel_tokenize 157 = .ok (.iload_n 2, 1) := by decide +kernel
theorem d_AdjoinedSetsModel_tokenize_158 : decode b_AdjoinedSetsModel_tokenize 158 = .ok (.istore 6, 2) := by decide +kernel
theorem d_AdjoinedSetsModel_tokenize_160 : decode b_AdjoinedSetsModel_tokenize 160 = .ok (.iinc 2 1, 3) := by decide +kernel
theorem d_AdjoinedSetsModel_tokenize_163 : decode b_AdjoinedSetsModel_tokenize 163 = .ok (.aload_n 0, 1) := by decide +kernel
theorem d_AdjoinedSetsModel_tokenize_164 : decode b_AdjoinedSetsModel_tokenize 164 = .ok (.getfield 84, 3) := by decide +kernel
theorem d_AdjoinedSetsModel_tokenize_167 : decode b_AdjoinedSetsModel_tokenize 167 = .ok (.iload_n 1, 1) := by decide +kernel
theorem d_AdjoinedSetsModel_tokenize_168 : decode b_AdjoinedSetsModel_tokenize 168 = .ok (.sipush 1000, 3) := by decide +kernel
theorem d_AdjoinedSetsModel_tokenize_171 : decode b_AdjoinedSetsModel_tokenize 171 = .ok (.iload 6, 2) := by decide +kernel
theorem d_AdjoinedSetsModel_tokenize_173 : decode b_AdjoinedSetsModel_tokenize 173 = .ok (.iadd, 1) := by decide +kernel
theorem d_AdjoinedSetsModel_tokenize_174 : decode b_AdjoinedSetsModel_tokenize 174 = .ok (.iastore, 1) := by decide +kernel
theorem d_AdjoinedSetsModel_tokenize_175 : decode b_AdjoinedSetsModel_tokenize 175 = .ok (.iload_n 3, 1) := by decide +kernel
theorem d_AdjoinedSetsModel_tokenize_176 : decode b_AdjoinedSetsModel_tokenize 176 = .ok (.iload 5, 2) := by decide +kernel
theorem d_AdjoinedSetsModel_tokenize_178 : decode b_AdjoinedSetsModel_tokenize 178 = .ok (.iadd, 1) := by decide +kernel
theorem d_AdjoinedSetsModel_tokenize_179 : decode b_AdjoinedSetsModel_tokenize 179 = .ok (.istore_n 3, 1) := by decide +kernel
theorem d_AdjoinedSetsModel_tokenize_180 : decode b_AdjoinedSetsModel_tokenize 180 = .ok (.iinc 1 1, 3) := by decide +kernel
theorem d_AdjoinedSetsModel_tokenize_183 : decode b_AdjoinedSetsModel_tokenize 183 = .ok (.goto (-177), 3) := by decide +kernel
theorem d_AdjoinedSetsModel_tokenize_186 : decode b_AdjoinedSetsModel_tokenize 186 = .ok (.iload_n 1, 1) := by decide +kernel
theorem d_AdjoinedSetsModel_tokenize_187 : decode b_AdjoinedSetsModel_tokenize 187 = .ok (.ireturn, 1) := by decide +kernel
def s_AdjoinedSetsModel_tokenize_180 (c6 : Nat → Int32 → Int32 → Int32 → HP → Option (Int32 × HP)) (x0 : Nat) (x1 : Int32) (x2 : Int32) (x3 : Int32) (h : HP) : Option (Int32 × HP) :=
  c6 x0 (x1 + 1) x2 x3 h
set_option maxHeartbeats 4000000 in
set_option maxRecDepth 100000 in
theorem k_AdjoinedSetsModel_tokenize_180 {x0 : Nat} {x1 : Int32} {x2 : Int32} {x3 : Int32} {h : HP} {z : Int32 × HP} (C : CX g R_AdjoinedSetsModel b_AdjoinedSetsModel_tokenize 8 (some .int) p s m args meth c) (c6 : Nat → Int32 → Int32 → Int32 → HP → Option (Int32 × HP))
    (hc6 : ∀ {x0 : Nat} {x1 : Int32} {x2 : Int32} {x3 : Int32} {h : HP} {H : Heap} {locs : List Loc} {ls : Array Slot}, WD g h s.heap H locs → lv_has ls 8 [(0, .ref (aD g x0)), (1, .int x1), (2, .int x2), (3, .int x3)] → c6 x0 x1 x2 x3 h = some z → W p l e (rmS 3 64) s m args below meth c H locs 0 0 (MQ below (Qq g (some (.int z.1)) z.2) args s 0 0 (inA g)) (F0 m 6 ls [])) {H : Heap} {locs : List Loc} {ls : Array Slot} (hw : WD g h s.heap H locs) (hl : lv_has ls 8 [(0, .ref (aD g x0)), (1, .int x1), (2, .int x2), (3, .int x3)]) (hs : s_AdjoinedSetsModel_tokenize_180 c6 x0 x1 x2 x3 h = some z) : W p l e (rmS 3 64) s m args below meth c H locs 0 0 (MQ below (Qq g (some (.int z.1)) z.2) args s 0 0 (inA g)) (F0 m 180 ls []) := by
  unfold s_AdjoinedSetsModel_tokenize_180 at hs
  have hx := C.1
  have hb := C.2.1
  refine lv_iinc hx hb d_AdjoinedSetsModel_tokenize_180 hl (k := 1) rfl (v := (x1 + 1)) (iinc_e _ (by decide)) (by decide) (lv' := [(1, .int (x1 + 1)), (0, .ref (aD g x0)), (2, .int x2), (3, .int x3)]) rfl (fun ls hl => ?_)
  refine lv_goto hx hb d_AdjoinedSetsModel_tokenize_183 (tgt := 6) (by decide) ?_
  exact hc6 hw (lv_sub hl [1, 0, 2, 3] rfl) hs

def s_AdjoinedSetsModel_tokenize_50 (c6 : Nat → Int32 → Int32 → Int32 → HP → Option (Int32 × HP)) (x0 : Nat) (x1 : Int32) (x2 : Int32) (x3 : Int32) (x4 : Int32) (h : HP) : Option (Int32 × HP) :=
  (gR h x0 9 32).bind fun v1 =>
  (uI h v1 0 x1 x4).bind fun h3 =>
  s_AdjoinedSetsModel_tokenize_180 c6 x0 x1 x2 (x3 + 1) h3
set_option maxHeartbeats 4000000 in
set_option maxRecDepth 100000 in
theorem k_AdjoinedSetsModel_tokenize_50 {x0 : Nat} {x1 : Int32} {x2 : Int32} {x3 : Int32} {x4 : Int32} {h : HP} {z : Int32 × HP} (C : CX g R_AdjoinedSetsModel b_AdjoinedSetsModel_tokenize 8 (some .int) p s m args meth c) (c6 : Nat → Int32 → Int32 → Int32 → HP → Option (Int32 × HP))
    (hc6 : ∀ {x0 : Nat} {x1 : Int32} {x2 : Int32} {x3 : Int32} {h : HP} {H : Heap} {locs : List Loc} {ls : Array Slot}, WD g h s.heap H locs → lv_has ls 8 [(0, .ref (aD g x0)), (1, .int x1), (2, .int x2), (3, .int x3)] → c6 x0 x1 x2 x3 h = some z → W p l e (rmS 3 64) s m args below meth c H locs 0 0 (MQ below (Qq g (some (.int z.1)) z.2) args s 0 0 (inA g)) (F0 m 6 ls [])) {H : Heap} {locs : List Loc} {ls : Array Slot} (hw : WD g h s.heap H locs) (hl : lv_has ls 8 [(0, .ref (aD g x0)), (1, .int x1), (2, .int x2), (3, .int x3), (4, .int x4)]) (hs : s_AdjoinedSetsModel_tokenize_50 c6 x0 x1 x2 x3 x4 h = some z) : W p l e (rmS 3 64) s m args below meth c H locs 0 0 (MQ below (Qq g (some (.int z.1)) z.2) args s 0 0 (inA g)) (F0 m 50 ls []) := by
  unfold s_AdjoinedSetsModel_tokenize_50 at hs
  have hx := C.1
  have hb := C.2.1
  refine lv_aload_n hx hb d_AdjoinedSetsModel_tokenize_50 rfl (lv_at hl 0 rfl) ?_
  obtain ⟨v1, e2, hs⟩ := ob hs
  refine pg_getR C hw fl_AdjoinedSetsModel_84 e2 d_AdjoinedSetsModel_tokenize_51 ?_
  refine lv_iload_n hx hb d_AdjoinedSetsModel_tokenize_54 rfl (lv_at hl 1 rfl) ?_
  refine lv_iload hx hb d_AdjoinedSetsModel_tokenize_55 (lv_at hl 4 rfl) ?_
  obtain ⟨h3, e4, hs⟩ := ob hs
  refine pg_iastore C hw (t0 := 0) rfl e4 d_AdjoinedSetsModel_tokenize_57 (fun H locs hw => ?_)
  refine lv_iinc hx hb d_AdjoinedSetsModel_tokenize_58 hl (k := 3) rfl (v := (x3 + 1)) (iinc_e _ (by decide)) (by decide) (lv' := [(3, .int (x3 + 1)), (0, .ref (aD g x0)), (1, .int x1), (2, .int x2), (4, .int x4)]) rfl (fun ls hl => ?_)
  refine lv_goto hx hb d_AdjoinedSetsModel_tokenize_61 (tgt := 180) (by decide) ?_
  exact k_AdjoinedSetsModel_tokenize_180 C c6 hc6 hw (lv_sub hl [1, 2, 3, 0] rfl) hs

def s_AdjoinedSetsModel_tokenize_121 (c6 : Nat → Int32 → Int32 → Int32 → HP → Option (Int32 × HP)) (c79 : Nat → Int32 → Int32 → Int32 → Int32 → Int32 → Int32 → HP → Option (Int32 × HP)) (x0 : Nat) (x1 : Int32) (x2 : Int32) (x3 : Int32) (x5 : Int32) (x7 : Int32) (t0 : Int32) (h : HP) : Option (Int32 × HP) :=
  c79 x0 x1 x2 x3 x5 t0 (x7 + 1) h
set_option maxHeartbeats 4000000 in
set_option maxRecDepth 100000 in
theorem k_AdjoinedSetsModel_tokenize_121 {x0 : Nat} {x1 : Int32} {x2 : Int32} {x3 : Int32} {x5 : Int32} {x7 : Int32} {t0 : Int32} {h : HP} {z : Int32 × HP} (C : CX g R_AdjoinedSetsModel b_AdjoinedSetsModel_tokenize 8 (some .int) p s m args meth c) (c6 : Nat → Int32 → Int32 → Int32 → HP → Option (Int32 × HP)) (c79 : Nat → Int32 → Int32 → Int32 → Int32 → Int32 → Int32 → HP → Option (Int32 × HP))
    (hc6 : ∀ {x0 : Nat} {x1 : Int32} {x2 : Int32} {x3 : Int32} {h : HP} {H : Heap} {locs : List Loc} {ls : Array Slot}, WD g h s.heap H locs → lv_has ls 8 [(0, .ref (aD g x0)), (1, .int x1), (2, .int x2), (3, .int x3)] → c6 x0 x1 x2 x3 h = some z → W p l e (rmS 3 64) s m args below meth c H locs 0 0 (MQ below (Qq g (some (.int z.1)) z.2) args s 0 0 (inA g)) (F0 m 6 ls []))
    (hc79 : ∀ {x0 : Nat} {x1 : Int32} {x2 : Int32} {x3 : Int32} {x5 : Int32} {x6 : Int32} {x7 : Int32} {h : HP} {H : Heap} {locs : List Loc} {ls : Array Slot}, WD g h s.heap H locs → lv_has ls 8 [(0, .ref (aD g x0)), (1, .int x1), (2, .int x2), (3, .int x3), (5, .int x5), (6, .int x6), (7, .int x7)] → c79 x0 x1 x2 x3 x5 x6 x7 h = some z → W p l e (rmS 3 64) s m args below meth c H locs 0 0 (MQ below (Qq g (some (.int z.1)) z.2) args s 0 0 (inA g)) (F0 m 79 ls [])) {H : Heap} {locs : List Loc} {ls : Array Slot} (hw : WD g h s.heap H locs) (hl : lv_has ls 8 [(0, .ref (aD g x0)), (1, .int x1), (2, .int x2), (3, .int x3), (5, .int x5), (7, .int x7)]) (hs : s_AdjoinedSetsModel_tokenize_121 c6 c79 x0 x1 x2 x3 x5 x7 t0 h = some z) : W p l e (rmS 3 64) s m args below meth c H locs 0 0 (MQ below (Qq g (some (.int z.1)) z.2) args s 0 0 (inA g)) (F0 m 121 ls [.int t0]) := by
  unfold s_AdjoinedSetsModel_tokenize_121 at hs
  have hx := C.1
  have hb := C.2.1
  refine lv_istore hx hb d_AdjoinedSetsModel_tokenize_121 hl (by decide) (lv' := [(6, .int t0), (0, .ref (aD g x0)), (1, .int x1), (2, .int x2), (3, .int x3), (5, .int x5), (7, .int x7)]) rfl (fun ls hl => ?_)
  refine lv_iinc hx hb d_AdjoinedSetsModel_tokenize_123 hl (k := 6) rfl (v := (x7 + 1)) (iinc_e _ (by decide)) (by decide) (lv' := [(7, .int (x7 + 1)), (6, .int t0), (0, .ref (aD g x0)), (1, .int x1), (2, .int x2), (3, .int x3), (5, .int x5)]) rfl (fun ls hl => ?_)
  refine lv_goto hx hb d_AdjoinedSetsModel_tokenize_126 (tgt := 79) (by decide) ?_
  exact hc79 hw (lv_sub hl [2, 3, 4, 5, 6, 1, 0] rfl) hs

def s_AdjoinedSetsModel_tokenize_119 (c6 : Nat → Int32 → Int32 → Int32 → HP → Option (Int32 × HP)) (c79 : Nat → Int32 → Int32 → Int32 → Int32 → Int32 → Int32 → HP → Option (Int32 × HP)) (x0 : Nat) (x1 : Int32) (x2 : Int32) (x3 : Int32) (x5 : Int32) (x6 : Int32) (x7 : Int32) (h : HP) : Option (Int32 × HP) :=
  s_AdjoinedSetsModel_tokenize_121 c6 c79 x0 x1 x2 x3 x5 x7 x6 h
set_option maxHeartbeats 4000000 in
set_option maxRecDepth 100000 in
theorem k_AdjoinedSetsModel_tokenize_119 {x0 : Nat} {x1 : Int32} {x2 : Int32} {x3 : Int32} {x5 : Int32} {x6 : Int32} {x7 : Int32} {h : HP} {z : Int32 × HP} (C : CX g R_AdjoinedSetsModel b_AdjoinedSetsModel_tokenize 8 (some .int) p s m args meth c) (c6 : Nat → Int32 → Int32 → Int32 → HP → Option (Int32 × HP)) (c79 : Nat → Int32 → Int32 → Int32 → Int32 → Int32 → Int32 → HP → Option (Int32 × HP))
    (hc6 : ∀ {x0 : Nat} {x1 : Int32} {x2 : Int32} {x3 : Int32} {h : HP} {H : Heap} {locs : List Loc} {ls : Array Slot}, WD g h s.heap H locs → lv_has ls 8 [(0, .ref (aD g x0)), (1, .int x1), (2, .int x2), (3, .int x3)] → c6 x0 x1 x2 x3 h = some z → W p l e (rmS 3 64) s m args below meth c H locs 0 0 (MQ below (Qq g (some (.int z.1)) z.2) args s 0 0 (inA g)) (F0 m 6 ls []))
    (hc79 : ∀ {x0 : Nat} {x1 : Int32} {x2 : Int32} {x3 : Int32} {x5 : Int32} {x6 : Int32} {x7 : Int32} {h : HP} {H : Heap} {locs : List Loc} {ls : Array Slot}, WD g h s.heap H locs → lv_has ls 8 [(0, .ref (aD g x0)), (1, .int x1), (2, .int x2), (3, .int x3), (5, .int x5), (6, .int x6), (7, .int x7)] → c79 x0 x1 x2 x3 x5 x6 x7 h = some z → W p l e (rmS 3 64) s m args below meth c H locs 0 0 (MQ below (Qq g (some (.int z.1)) z.2) args s 0 0 (inA g)) (F0 m 79 ls [])) {H : Heap} {locs : List Loc} {ls : Array Slot} (hw : WD g h s.heap H locs) (hl : lv_has ls 8 [(0, .ref (aD g x0)), (1, .int x1), (2, .int x2), (3, .int x3), (5, .int x5), (6, .int x6), (7, .int x7)]) (hs : s_AdjoinedSetsModel_tokenize_119 c6 c79 x0 x1 x2 x3 x5 x6 x7 h = some z) : W p l e (rmS 3 64) s m args below meth c H locs 0 0 (MQ below (Qq g (some (.int z.1)) z.2) args s 0 0 (inA g)) (F0 m 119 ls []) := by
  unfold s_AdjoinedSetsModel_tokenize_119 at hs
  have hx := C.1
  have hb := C.2.1
  refine lv_iload hx hb d_AdjoinedSetsModel_tokenize_119 (lv_at hl 5 rfl) ?_
  exact k_AdjoinedSetsModel_tokenize_121 C c6 c79 hc6 hc79 hw (lv_sub hl [0, 1, 2, 3, 4, 6] rfl) hs

def s_AdjoinedSetsModel_tokenize_163 (c6 : Nat → Int32 → Int32 → Int32 → HP → Option (Int32 × HP)) (x0 : Nat) (x1 : Int32) (x2 : Int32) (x3 : Int32) (x5 : Int32) (x6 : Int32) (h : HP) : Option (Int32 × HP) :=
  (gR h x0 9 32).bind fun v1 =>
  (uI h v1 0 x1 (1000 + x6)).bind fun h3 =>
  s_AdjoinedSetsModel_tokenize_180 c6 x0 x1 x2 (x3 + x5) h3
set_option maxHeartbeats 4000000 in
set_option maxRecDepth 100000 in
theorem k_AdjoinedSetsModel_tokenize_163 {x0 : Nat} {x1 : Int32} {x2 : Int32} {x3 : Int32} {x5 : Int32} {x6 : Int32} {h : HP} {z : Int32 × HP} (C : CX g R_AdjoinedSetsModel b_AdjoinedSetsModel_tokenize 8 (some .int) p s m args meth c) (c6 : Nat → Int32 → Int32 → Int32 → HP → Option (Int32 × HP))
    (hc6 : ∀ {x0 : Nat} {x1 : Int32} {x2 : Int32} {x3 : Int32} {h : HP} {H : Heap} {locs : List Loc} {ls : Array Slot}, WD g h s.heap H locs → lv_has ls 8 [(0, .ref (aD g x0)), (1, .int x1), (2, .int x2), (3, .int x3)] → c6 x0 x1 x2 x3 h = some z → W p l e (rmS 3 64) s m args below meth c H locs 0 0 (MQ below (Qq g (some (.int z.1)) z.2) args s 0 0 (inA g)) (F0 m 6 ls [])) {H : Heap} {locs : List Loc} {ls : Array Slot} (hw : WD g h s.heap H locs) (hl : lv_has ls 8 [(0, .ref (aD g x0)), (1, .int x1), (2, .int x2), (3, .int x3), (5, .int x5), (6, .int x6)]) (hs : s_AdjoinedSetsModel_tokenize_163 c6 x0 x1 x2 x3 x5 x6 h = some z) : W p l e (rmS 3 64) s m args below meth c H locs 0 0 (MQ below (Qq g (some (.int z.1)) z.2) args s 0 0 (inA g)) (F0 m 163 ls []) := by
  unfold s_AdjoinedSetsModel_tokenize_163 at hs
  have hx := C.1
  have hb := C.2.1
  refine lv_aload_n hx hb d_AdjoinedSetsModel_tokenize_163 rfl (lv_at hl 0 rfl) ?_
  obtain ⟨v1, e2, hs⟩ := ob hs
  refine pg_getR C hw fl_AdjoinedSetsModel_84 e2 d_AdjoinedSetsModel_tokenize_164 ?_
  refine lv_iload_n hx hb d_AdjoinedSetsModel_tokenize_167 rfl (lv_at hl 1 rfl) ?_
  refine lv_sipush (v := 1000) hx hb d_AdjoinedSetsModel_tokenize_168 (by decide) ?_
  refine lv_iload hx hb d_AdjoinedSetsModel_tokenize_171 (lv_at hl 5 rfl) ?_
  refine lv_iadd hx hb d_AdjoinedSetsModel_tokenize_173 ?_
  obtain ⟨h3, e4, hs⟩ := ob hs
  refine pg_iastore C hw (t0 := 0) rfl e4 d_AdjoinedSetsModel_tokenize_174 (fun H locs hw => ?_)
  refine lv_iload_n hx hb d_AdjoinedSetsModel_tokenize_175 rfl (lv_at hl 3 rfl) ?_
  refine lv_iload hx hb d_AdjoinedSetsModel_tokenize_176 (lv_at hl 4 rfl) ?_
  refine lv_iadd hx hb d_AdjoinedSetsModel_tokenize_178 ?_
  refine lv_istore_n hx hb d_AdjoinedSetsModel_tokenize_179 rfl hl (by decide) (lv' := [(3, .int (x3 + x5)), (0, .ref (aD g x0)), (1, .int x1), (2, .int x2), (5, .int x5), (6, .int x6)]) rfl (fun ls hl => ?_)
  exact k_AdjoinedSetsModel_tokenize_180 C c6 hc6 hw (lv_sub hl [1, 2, 3, 0] rfl) hs

def s_AdjoinedSetsModel_tokenize_79 (c6 : Nat → Int32 → Int32 → Int32 → HP → Option (Int32 × HP)) : Nat → Nat → Int32 → Int32 → Int32 → Int32 → Int32 → Int32 → HP → Option (Int32 × HP)
  | 0 => fun _ _ _ _ _ _ _ _ => none
  | k + 1 => fun x0 x1 x2 x3 x5 x6 x7 h =>
  if x2 ≤ x7 then (
    if 0 ≤ x6 then (
      s_AdjoinedSetsModel_tokenize_163 c6 x0 x1 x2 x3 x5 x6 h)
    else (
      if x2 = 6 then (
        some ((-1), h))
      else (
        (gR h x0 9 33).bind fun v1 =>
        (uI h v1 0 x2 x3).bind fun h3 =>
        (gR h3 x0 9 34).bind fun v5 =>
        (uI h3 v5 0 x2 x5).bind fun h7 =>
        s_AdjoinedSetsModel_tokenize_163 c6 x0 x1 (x2 + 1) x3 x5 x2 h7)))
  else (
    (gR h x0 9 34).bind fun v9 =>
    (aI h v9 0 x7).bind fun v11 =>
    if v11 = x5 then (
      (gR h x0 9 33).bind fun v13 =>
      (aI h v13 0 x7).bind fun v15 =>
      (kd x0 9).bind fun _ =>
      (s_AdjoinedSetsModel_isSame x0 v15 x3 x5 h).bind fun q18 =>
      if q18 = 0 then (
        s_AdjoinedSetsModel_tokenize_119 c6 (s_AdjoinedSetsModel_tokenize_79 c6 k) x0 x1 x2 x3 x5 x6 x7 h)
      else (
        s_AdjoinedSetsModel_tokenize_121 c6 (s_AdjoinedSetsModel_tokenize_79 c6 k) x0 x1 x2 x3 x5 x7 x7 h))
    else (
      s_AdjoinedSetsModel_tokenize_119 c6 (s_AdjoinedSetsModel_tokenize_79 c6 k) x0 x1 x2 x3 x5 x6 x7 h))
set_option maxHeartbeats 4000000 in
set_option maxRecDepth 100000 in
theorem k_AdjoinedSetsModel_tokenize_79 {z : Int32 × HP} (C : CX g R_AdjoinedSetsModel b_AdjoinedSetsModel_tokenize 8 (some .int) p s m args meth c) (c6 : Nat → Int32 → Int32 → Int32 → HP → Option (Int32 × HP))
    (hc6 : ∀ {x0 : Nat} {x1 : Int32} {x2 : Int32} {x3 : Int32} {h : HP} {H : Heap} {locs : List Loc} {ls : Array Slot}, WD g h s.heap H locs → lv_has ls 8 [(0, .ref (aD g x0)), (1, .int x1), (2, .int x2), (3, .int x3)] → c6 x0 x1 x2 x3 h = some z → W p l e (rmS 3 64) s m args below meth c H locs 0 0 (MQ below (Qq g (some (.int z.1)) z.2) args s 0 0 (inA g)) (F0 m 6 ls [])) : ∀ (k : Nat) {x0 : Nat} {x1 : Int32} {x2 : Int32} {x3 : Int32} {x5 : Int32} {x6 : Int32} {x7 : Int32} {h : HP} {H : Heap} {locs : List Loc} {ls : Array Slot}, WD g h s.heap H locs → lv_has ls 8 [(0, .ref (aD g x0)), (1, .int x1), (2, .int x2), (3, .int x3), (5, .int x5), (6, .int x6), (7, .int x7)] → s_AdjoinedSetsModel_tokenize_79 c6 k x0 x1 x2 x3 x5 x6 x7 h = some z → W p l e (rmS 3 64) s m args below meth c H locs 0 0 (MQ below (Qq g (some (.int z.1)) z.2) args s 0 0 (inA g)) (F0 m 79 ls []) := by
  have hx := C.1
  have hb := C.2.1
  intro k
  induction k with
  | zero =>
    intro x0 x1 x2 x3 x5 x6 x7 h H locs ls hw hl hs
    exact (no_s hs).elim
  | succ k ih =>
    intro x0 x1 x2 x3 x5 x6 x7 h H locs ls hw hl hs
    rw [s_AdjoinedSetsModel_tokenize_79] at hs
    refine lv_iload hx hb d_AdjoinedSetsModel_tokenize_79 (lv_at hl 6 rfl) ?_
    refine lv_iload_n hx hb d_AdjoinedSetsModel_tokenize_81 rfl (lv_at hl 2 rfl) ?_
    refine lv_icmp_ge hx hb d_AdjoinedSetsModel_tokenize_82 (tgt := 129) (by decide) (fun hc => ?_) (fun hc => ?_)
    · have hs := oi_t hc hs
      refine lv_iload hx hb d_AdjoinedSetsModel_tokenize_129 (lv_at hl 5 rfl) ?_
      refine lv_if_ge hx hb d_AdjoinedSetsModel_tokenize_131 (tgt := 163) (by decide) (fun hc => ?_) (fun hc => ?_)
      · have hs := oi_t hc hs
        exact k_AdjoinedSetsModel_tokenize_163 C c6 hc6 hw (lv_sub hl [0, 1, 2, 3, 4, 5] rfl) hs
      · have hs := oi_f hc hs
        refine lv_iload_n hx hb d_AdjoinedSetsModel_tokenize_134 rfl (lv_at hl 2 rfl) ?_
        refine lv_bipush (v := 6) hx hb d_AdjoinedSetsModel_tokenize_135 (by decide) ?_
        refine lv_icmp_ne hx hb d_AdjoinedSetsModel_tokenize_137 (tgt := 142) (by decide) (fun hc => ?_) (fun hc => ?_)
        · have hs := oi_f hc hs
          refine lv_aload_n hx hb d_AdjoinedSetsModel_tokenize_142 rfl (lv_at hl 0 rfl) ?_
          obtain ⟨v1, e2, hs⟩ := ob hs
          refine pg_getR C hw fl_AdjoinedSetsModel_87 e2 d_AdjoinedSetsModel_tokenize_143 ?_
          refine lv_iload_n hx hb d_AdjoinedSetsModel_tokenize_146 rfl (lv_at hl 2 rfl) ?_
          refine lv_iload_n hx hb d_AdjoinedSetsModel_tokenize_147 rfl (lv_at hl 3 rfl) ?_
          obtain ⟨h3, e4, hs⟩ := ob hs
          refine pg_iastore C hw (t0 := 0) rfl e4 d_AdjoinedSetsModel_tokenize_148 (fun H locs hw => ?_)
          refine lv_aload_n hx hb d_AdjoinedSetsModel_tokenize_149 rfl (lv_at hl 0 rfl) ?_
          obtain ⟨v5, e6, hs⟩ := ob hs
          refine pg_getR C hw fl_AdjoinedSetsModel_90 e6 d_AdjoinedSetsModel_tokenize_150 ?_
          refine lv_iload_n hx hb d_AdjoinedSetsModel_tokenize_153 rfl (lv_at hl 2 rfl) ?_
          refine lv_iload hx hb d_AdjoinedSetsModel_tokenize_154 (lv_at hl 4 rfl) ?_
          obtain ⟨h7, e8, hs⟩ := ob hs
          refine pg_iastore C hw (t0 := 0) rfl e8 d_AdjoinedSetsModel_tokenize_156 (fun H locs hw => ?_)
          refine lv_iload_n hx hb d_AdjoinedSetsModel_tokenize_157 rfl (lv_at hl 2 rfl) ?_
          refine lv_istore hx hb d_AdjoinedSetsModel_tokenize_158 hl (by decide) (lv' := [(6, .int x2), (0, .ref (aD g x0)), (1, .int x1), (2, .int x2), (3, .int x3), (5, .int x5), (7, .int x7)]) rfl (fun ls hl => ?_)
          refine lv_iinc hx hb d_AdjoinedSetsModel_tokenize_160 hl (k := 3) rfl (v := (x2 + 1)) (iinc_e _ (by decide)) (by decide) (lv' := [(2, .int (x2 + 1)), (6, .int x2), (0, .ref (aD g x0)), (1, .int x1), (3, .int x3), (5, .int x5), (7, .int x7)]) rfl (fun ls hl => ?_)
          exact k_AdjoinedSetsModel_tokenize_163 C c6 hc6 hw (lv_sub hl [2, 3, 0, 4, 5, 1] rfl) hs
        · have hs := oi_t hc hs
          refine lv_iconst (v := (-1)) hx hb d_AdjoinedSetsModel_tokenize_140 (by decide) ?_
          obtain rfl := Option.some.inj hs
          exact pg_iret C hw d_AdjoinedSetsModel_tokenize_141
    · have hs := oi_f hc hs
      refine lv_aload_n hx hb d_AdjoinedSetsModel_tokenize_85 rfl (lv_at hl 0 rfl) ?_
      obtain ⟨v9, e10, hs⟩ := ob hs
      refine pg_getR C hw fl_AdjoinedSetsModel_90 e10 d_AdjoinedSetsModel_tokenize_86 ?_
      refine lv_iload hx hb d_AdjoinedSetsModel_tokenize_89 (lv_at hl 6 rfl) ?_
      obtain ⟨v11, e12, hs⟩ := ob hs
      refine pg_iaload C hw (t0 := 0) rfl e12 d_AdjoinedSetsModel_tokenize_91 ?_
      refine lv_iload hx hb d_AdjoinedSetsModel_tokenize_92 (lv_at hl 4 rfl) ?_
      refine lv_icmp_ne hx hb d_AdjoinedSetsModel_tokenize_94 (tgt := 119) (by decide) (fun hc => ?_) (fun hc => ?_)
      · have hs := oi_f hc hs
        exact k_AdjoinedSetsModel_tokenize_119 C c6 (s_AdjoinedSetsModel_tokenize_79 c6 k) hc6 ih hw (lv_sub hl [0, 1, 2, 3, 4, 5, 6] rfl) hs
      · have hs := oi_t hc hs
        refine lv_aload_n hx hb d_AdjoinedSetsModel_tokenize_97 rfl (lv_at hl 0 rfl) ?_
        refine lv_aload_n hx hb d_AdjoinedSetsModel_tokenize_98 rfl (lv_at hl 0 rfl) ?_
        obtain ⟨v13, e14, hs⟩ := ob hs
        refine pg_getR C hw fl_AdjoinedSetsModel_87 e14 d_AdjoinedSetsModel_tokenize_99 ?_
        refine lv_iload hx hb d_AdjoinedSetsModel_tokenize_102 (lv_at hl 6 rfl) ?_
        obtain ⟨v15, e16, hs⟩ := ob hs
        refine pg_iaload C hw (t0 := 0) rfl e16 d_AdjoinedSetsModel_tokenize_104 ?_
        refine lv_iload_n hx hb d_AdjoinedSetsModel_tokenize_105 rfl (lv_at hl 3 rfl) ?_
        refine lv_iload hx hb d_AdjoinedSetsModel_tokenize_106 (lv_at hl 4 rfl) ?_
        obtain ⟨_, e17, hs⟩ := ob hs
        obtain ⟨q18, e19, hs⟩ := ob hs
        refine pg_callV C hw hl.1 ml_AdjoinedSetsModel_240 e17 (As := [.int v15, .int x3, .int x5]) (rest := []) (c_AdjoinedSetsModel_isSame l g e19) rfl (rm_ok (Nat.le_of_ble_eq_true rfl) (Nat.le_of_ble_eq_true rfl)) (Nat.le_of_ble_eq_true rfl) rfl (st1 := [.int q18]) rfl d_AdjoinedSetsModel_tokenize_108 (fun H locs hw => ?_)
        refine lv_if_eq hx hb d_AdjoinedSetsModel_tokenize_111 (tgt := 119) (by decide) (fun hc => ?_) (fun hc => ?_)
        · have hs := oi_t hc hs
          exact k_AdjoinedSetsModel_tokenize_119 C c6 (s_AdjoinedSetsModel_tokenize_79 c6 k) hc6 ih hw (lv_sub hl [0, 1, 2, 3, 4, 5, 6] rfl) hs
        · have hs := oi_f hc hs
          refine lv_iload hx hb d_AdjoinedSetsModel_tokenize_114 (lv_at hl 6 rfl) ?_
          refine lv_goto hx hb d_AdjoinedSetsModel_tokenize_116 (tgt := 121) (by decide) ?_
          exact k_AdjoinedSetsModel_tokenize_121 C c6 (s_AdjoinedSetsModel_tokenize_79 c6 k) hc6 ih hw (lv_sub hl [0, 1, 2, 3, 4, 6] rfl) hs

def s_AdjoinedSetsModel_tokenize_6 : Nat → Nat → Int32 → Int32 → Int32 → HP → Option (Int32 × HP)
  | 0 => fun _ _ _ _ _ => none
  | k + 1 => fun x0 x1 x2 x3 h =>
  (gI h x0 9 1).bind fun v1 =>
  if v1 ≤ x3 then (
    some (x1, h))
  else (
    (gR h x0 9 0).bind fun v3 =>
    (aI h v3 0 x3).bind fun v5 =>
    if v5 = 33 then (
      s_AdjoinedSetsModel_tokenize_50 (s_AdjoinedSetsModel_tokenize_6 k) x0 x1 x2 x3 v5 h)
    else (
      if v5 = 94 then (
        s_AdjoinedSetsModel_tokenize_50 (s_AdjoinedSetsModel_tokenize_6 k) x0 x1 x2 x3 v5 h)
      else (
        if v5 = 118 then (
          s_AdjoinedSetsModel_tokenize_50 (s_AdjoinedSetsModel_tokenize_6 k) x0 x1 x2 x3 v5 h)
        else (
          if v5 = 62 then (
            s_AdjoinedSetsModel_tokenize_50 (s_AdjoinedSetsModel_tokenize_6 k) x0 x1 x2 x3 v5 h)
          else (
            (kd x0 9).bind fun _ =>
            (s_AdjoinedSetsModel_endOf x0 x3 h).bind fun q8 =>
            s_AdjoinedSetsModel_tokenize_79 (s_AdjoinedSetsModel_tokenize_6 k) 20000 x0 x1 x2 x3 (q8 - x3) (-1) 0 h)))))
set_option maxHeartbeats 4000000 in
set_option maxRecDepth 100000 in
theorem k_AdjoinedSetsModel_tokenize_6 {z : Int32 × HP} (C : CX g R_AdjoinedSetsModel b_AdjoinedSetsModel_tokenize 8 (some .int) p s m args meth c) : ∀ (k : Nat) {x0 : Nat} {x1 : Int32} {x2 : Int32} {x3 : Int32} {h : HP} {H : Heap} {locs : List Loc} {ls : Array Slot}, WD g h s.heap H locs → lv_has ls 8 [(0, .ref (aD g x0)), (1, .int x1), (2, .int x2), (3, .int x3)] → s_AdjoinedSetsModel_tokenize_6 k x0 x1 x2 x3 h = some z → W p l e (rmS 3 64) s m args below meth c H locs 0 0 (MQ below (Qq g (some (.int z.1)) z.2) args s 0 0 (inA g)) (F0 m 6 ls []) := by
  have hx := C.1
  have hb := C.2.1
  intro k
  induction k with
  | zero =>
    intro x0 x1 x2 x3 h H locs ls hw hl hs
    exact (no_s hs).elim
  | succ k ih =>
    intro x0 x1 x2 x3 h H locs ls hw hl hs
    rw [s_AdjoinedSetsModel_tokenize_6] at hs
    refine lv_iload_n hx hb d_AdjoinedSetsModel_tokenize_6 rfl (lv_at hl 3 rfl) ?_
    refine lv_aload_n hx hb d_AdjoinedSetsModel_tokenize_7 rfl (lv_at hl 0 rfl) ?_
    obtain ⟨v1, e2, hs⟩ := ob hs
    refine pg_getI C hw fl_AdjoinedSetsModel_124 e2 d_AdjoinedSetsModel_tokenize_8 ?_
    refine lv_icmp_ge hx hb d_AdjoinedSetsModel_tokenize_11 (tgt := 186) (by decide) (fun hc => ?_) (fun hc => ?_)
    · have hs := oi_t hc hs
      refine lv_iload_n hx hb d_AdjoinedSetsModel_tokenize_186 rfl (lv_at hl 1 rfl) ?_
      obtain rfl := Option.some.inj hs
      exact pg_iret C hw d_AdjoinedSetsModel_tokenize_187
    · have hs := oi_f hc hs
      refine lv_aload_n hx hb d_AdjoinedSetsModel_tokenize_14 rfl (lv_at hl 0 rfl) ?_
      obtain ⟨v3, e4, hs⟩ := ob hs
      refine pg_getR C hw fl_AdjoinedSetsModel_7 e4 d_AdjoinedSetsModel_tokenize_15 ?_
      refine lv_iload_n hx hb d_AdjoinedSetsModel_tokenize_18 rfl (lv_at hl 3 rfl) ?_
      obtain ⟨v5, e6, hs⟩ := ob hs
      refine pg_iaload C hw (t0 := 0) rfl e6 d_AdjoinedSetsModel_tokenize_19 ?_
      refine lv_istore hx hb d_AdjoinedSetsModel_tokenize_20 hl (by decide) (lv' := [(4, .int v5), (0, .ref (aD g x0)), (1, .int x1), (2, .int x2), (3, .int x3)]) rfl (fun ls hl => ?_)
      refine lv_iload hx hb d_AdjoinedSetsModel_tokenize_22 (lv_at hl 0 rfl) ?_
      refine lv_bipush (v := 33) hx hb d_AdjoinedSetsModel_tokenize_24 (by decide) ?_
      refine lv_icmp_eq hx hb d_AdjoinedSetsModel_tokenize_26 (tgt := 50) (by decide) (fun hc => ?_) (fun hc => ?_)
      · have hs := oi_t hc hs
        exact k_AdjoinedSetsModel_tokenize_50 C (s_AdjoinedSetsModel_tokenize_6 k) ih hw (lv_sub hl [1, 2, 3, 4, 0] rfl) hs
      · have hs := oi_f hc hs
        refine lv_iload hx hb d_AdjoinedSetsModel_tokenize_29 (lv_at hl 0 rfl) ?_
        refine lv_bipush (v := 94) hx hb d_AdjoinedSetsModel_tokenize_31 (by decide) ?_
        refine lv_icmp_eq hx hb d_AdjoinedSetsModel_tokenize_33 (tgt := 50) (by decide) (fun hc => ?_) (fun hc => ?_)
        · have hs := oi_t hc hs
          exact k_AdjoinedSetsModel_tokenize_50 C (s_AdjoinedSetsModel_tokenize_6 k) ih hw (lv_sub hl [1, 2, 3, 4, 0] rfl) hs
        · have hs := oi_f hc hs
          refine lv_iload hx hb d_AdjoinedSetsModel_tokenize_36 (lv_at hl 0 rfl) ?_
          refine lv_bipush (v := 118) hx hb d_AdjoinedSetsModel_tokenize_38 (by decide) ?_
          refine lv_icmp_eq hx hb d_AdjoinedSetsModel_tokenize_40 (tgt := 50) (by decide) (fun hc => ?_) (fun hc => ?_)
          · have hs := oi_t hc hs
            exact k_AdjoinedSetsModel_tokenize_50 C (s_AdjoinedSetsModel_tokenize_6 k) ih hw (lv_sub hl [1, 2, 3, 4, 0] rfl) hs
          · have hs := oi_f hc hs
            refine lv_iload hx hb d_AdjoinedSetsModel_tokenize_43 (lv_at hl 0 rfl) ?_
            refine lv_bipush (v := 62) hx hb d_AdjoinedSetsModel_tokenize_45 (by decide) ?_
            refine lv_icmp_ne hx hb d_AdjoinedSetsModel_tokenize_47 (tgt := 64) (by decide) (fun hc => ?_) (fun hc => ?_)
            · have hs := oi_f hc hs
              refine lv_aload_n hx hb d_AdjoinedSetsModel_tokenize_64 rfl (lv_at hl 1 rfl) ?_
              refine lv_iload_n hx hb d_AdjoinedSetsModel_tokenize_65 rfl (lv_at hl 4 rfl) ?_
              obtain ⟨_, e7, hs⟩ := ob hs
              obtain ⟨q8, e9, hs⟩ := ob hs
              refine pg_callV C hw hl.1 ml_AdjoinedSetsModel_197 e7 (As := [.int x3]) (rest := []) (c_AdjoinedSetsModel_endOf l g e9) rfl (rm_ok (Nat.le_of_ble_eq_true rfl) (Nat.le_of_ble_eq_true rfl)) (Nat.le_of_ble_eq_true rfl) rfl (st1 := [.int q8]) rfl d_AdjoinedSetsModel_tokenize_66 (fun H locs hw => ?_)
              refine lv_iload_n hx hb d_AdjoinedSetsModel_tokenize_69 rfl (lv_at hl 4 rfl) ?_
              refine lv_isub hx hb d_AdjoinedSetsModel_tokenize_70 ?_
              refine lv_istore hx hb d_AdjoinedSetsModel_tokenize_71 hl (by decide) (lv' := [(5, .int (q8 - x3)), (4, .int v5), (0, .ref (aD g x0)), (1, .int x1), (2, .int x2), (3, .int x3)]) rfl (fun ls hl => ?_)
              refine lv_iconst (v := (-1)) hx hb d_AdjoinedSetsModel_tokenize_73 (by decide) ?_
              refine lv_istore hx hb d_AdjoinedSetsModel_tokenize_74 hl (by decide) (lv' := [(6, .int (-1)), (5, .int (q8 - x3)), (4, .int v5), (0, .ref (aD g x0)), (1, .int x1), (2, .int x2), (3, .int x3)]) rfl (fun ls hl => ?_)
              refine lv_iconst (v := 0) hx hb d_AdjoinedSetsModel_tokenize_76 (by decide) ?_
              refine lv_istore hx hb d_AdjoinedSetsModel_tokenize_77 hl (by decide) (lv' := [(7, .int 0), (6, .int (-1)), (5, .int (q8 - x3)), (4, .int v5), (0, .ref (aD g x0)), (1, .int x1), (2, .int x2), (3, .int x3)]) rfl (fun ls hl => ?_)
              exact k_AdjoinedSetsModel_tokenize_79 C (s_AdjoinedSetsModel_tokenize_6 k) ih 20000 hw (lv_sub hl [4, 5, 6, 7, 2, 1, 0] rfl) hs
            · have hs := oi_t hc hs
              exact k_AdjoinedSetsModel_tokenize_50 C (s_AdjoinedSetsModel_tokenize_6 k) ih hw (lv_sub hl [1, 2, 3, 4, 0] rfl) hs

def s_AdjoinedSetsModel_tokenize (x0 : Nat) (h : HP) : Option (Int32 × HP) :=
  s_AdjoinedSetsModel_tokenize_6 20000 x0 0 0 0 h
set_option maxHeartbeats 4000000 in
set_option maxRecDepth 100000 in
theorem c_AdjoinedSetsModel_tokenize (l : Launch) (g : GG) {x0 : Nat} {h : HP} {z : Int32 × HP} (hs : s_AdjoinedSetsModel_tokenize x0 h = some z) : Ct l g y_AdjoinedSetsModel_tokenize w_AdjoinedSetsModel_tokenize (rmS 3 64) [.ref (aD g x0)] h (some (.int z.1)) z.2 := by
  refine Ct.of (own := R_AdjoinedSetsModel) (by decide) rfl rfl (Nat.le_of_ble_eq_true rfl) ?_
  intro p e s m args below meth c ls C hl hw
  have hx := C.1
  have hb := C.2.1
  have hl : lv_has ls 8 [(0, .ref (aD g x0))] := hl
  unfold s_AdjoinedSetsModel_tokenize at hs
  refine lv_iconst (v := 0) hx hb d_AdjoinedSetsModel_tokenize_0 (by decide) ?_
  refine lv_istore_n hx hb d_AdjoinedSetsModel_tokenize_1 rfl hl (by decide) (lv' := [(1, .int 0), (0, .ref (aD g x0))]) rfl (fun ls hl => ?_)
  refine lv_iconst (v := 0) hx hb d_AdjoinedSetsModel_tokenize_2 (by decide) ?_
  refine lv_istore_n hx hb d_AdjoinedSetsModel_tokenize_3 rfl hl (by decide) (lv' := [(2, .int 0), (1, .int 0), (0, .ref (aD g x0))]) rfl (fun ls hl => ?_)
  refine lv_iconst (v := 0) hx hb d_AdjoinedSetsModel_tokenize_4 (by decide) ?_
  refine lv_istore_n hx hb d_AdjoinedSetsModel_tokenize_5 rfl hl (by decide) (lv' := [(3, .int 0), (2, .int 0), (1, .int 0), (0, .ref (aD g x0))]) rfl (fun ls hl => ?_)
  exact k_AdjoinedSetsModel_tokenize_6 C 20000 hw (lv_sub hl [3, 2, 1, 0] rfl) hs

end
