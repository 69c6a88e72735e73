section
variable {p : Program} {l : Launch} {e : Env} {s : State} {m : MethodId} {args : Array Value} {below : List Frame} {meth : Method} {c : Code} {g : GG}
theorem d_AdjoinedSetsModel_isIn_0 : decode b_AdjoinedSetsModel_isIn 0 = .ok (.lload_n 0, 1) := by decide +kernel
theorem d_AdjoinedSetsModel_isIn_1 : decode b_AdjoinedSetsModel_isIn 1 = .ok (.ldc2_w 170, 3) := by decide +kernel
theorem d_AdjoinedSetsModel_isIn_4 : decode b_AdjoinedSetsModel_isIn 4 = .ok (.lcmp, 1) := by decide +kernel
theorem d_AdjoinedSetsModel_isIn_5 : decode b_AdjoinedSetsModel_isIn 5 = .ok (.ifCond .ge 18, 3) := by decide +kernel
theorem d_AdjoinedSetsModel_isIn_8 : decode b_AdjoinedSetsModel_isIn 8 = .ok (.lload_n 2, 1) := by decide +kernel
theorem d_AdjoinedSetsModel_isIn_9 : decode b_AdjoinedSetsModel_isIn 9 = .ok (.lload_n 0, 1) := by decide +kernel
theorem d_AdjoinedSetsModel_isIn_10 : decode b_AdjoinedSetsModel_isIn 10 = .ok (.l2i, 1) := by decide +kernel
theorem d_AdjoinedSetsModel_isIn_11 : decode b_AdjoinedSetsModel_isIn 11 = .ok (.lshr, 1) := by decide +kernel
theorem d_AdjoinedSetsModel_isIn_12 : decode b_AdjoinedSetsModel_isIn 12 = .ok (.lconst 1, 1) := by decide +kernel
theorem d_AdjoinedSetsModel_isIn_13 : decode b_AdjoinedSetsModel_isIn 13 = .ok (.land, 1) := by decide +kernel
theorem d_AdjoinedSetsModel_isIn_14 : decode b_AdjoinedSetsModel_isIn 14 = .ok (.lconst 1, 1) := by decide +kernel
theorem d_AdjoinedSetsModel_isIn_15 : decode b_AdjoinedSetsModel_isIn 15 = .ok (.lcmp, 1) := by decide +kernel
theorem d_AdjoinedSetsModel_isIn_16 : decode b_AdjoinedSetsModel_isIn 16 = .ok (.ifCond .ne 7, 3) := by decide +kernel
theorem d_AdjoinedSetsModel_isIn_19 : decode b_AdjoinedSetsModel_isIn 19 = .ok (.iconst 1, 1) := by decide +kernel
theorem d_AdjoinedSetsModel_isIn_20 : decode b_AdjoinedSetsModel_isIn 20 = .ok (.goto 4, 3) := by decide +kernel
theorem d_AdjoinedSetsModel_isIn_23 : decode b_AdjoinedSetsModel_isIn 23 = .ok (.iconst 0, 1) := by decide +kernel
theorem d_AdjoinedSetsModel_isIn_24 : decode b_AdjoinedSetsModel_isIn 24 = .ok (.ireturn, 1) := by decide +kernel
def s_AdjoinedSetsModel_isIn (x0 : Int64) (x2 : Int64) : Option (Int32) :=
  if 0 ≤ (lg_cmp x0 62) then (
    some 0)
  else (
    if (lg_cmp ((x2 >>> (x0.toInt32.toInt64 &&& 63)) &&& 1) 1) = 0 then (
      some 1)
    else (
      some 0))
set_option maxHeartbeats 4000000 in
set_option maxRecDepth 100000 in
theorem c_AdjoinedSetsModel_isIn (l : Launch) (g : GG) {h : HP} {x0 : Int64} {x2 : Int64} {z : Int32} (hs : s_AdjoinedSetsModel_isIn x0 x2 = some z) : Ct l g y_AdjoinedSetsModel_isIn w_AdjoinedSetsModel_isIn (rmS 0 0) [.long x0, .long x2] h (some (.int z)) h := by
  refine Ct.of (own := R_AdjoinedSetsModel) (by decide) rfl rfl (Nat.le_of_ble_eq_true rfl) ?_
  intro p e s m args below meth c ls C hl hw
  have hx := C.1
  have hb := C.2.1
  have hl : lv_has ls 4 [(0, .long x0), (2, .long x2)] := hl
  unfold s_AdjoinedSetsModel_isIn at hs
  refine lv_lload_n hx hb d_AdjoinedSetsModel_isIn_0 rfl (lv_at hl 0 rfl) ?_
  refine lv_ldc2 (v := 62) hx hb C.own (C.w kc_AdjoinedSetsModel_170) d_AdjoinedSetsModel_isIn_1 ?_
  refine W.lcmp hx hb d_AdjoinedSetsModel_isIn_4 ?_
  refine lv_if_ge hx hb d_AdjoinedSetsModel_isIn_5 (tgt := 23) (by decide) (fun hc => ?_) (fun hc => ?_)
  · have hs := oi_t hc hs
    refine lv_iconst (v := 0) hx hb d_AdjoinedSetsModel_isIn_23 (by decide) ?_
    obtain rfl := Option.some.inj hs
    exact pg_zret (v := 0) C hw rfl d_AdjoinedSetsModel_isIn_24
  · have hs := oi_f hc hs
    refine lv_lload_n hx hb d_AdjoinedSetsModel_isIn_8 rfl (lv_at hl 1 rfl) ?_
    refine lv_lload_n hx hb d_AdjoinedSetsModel_isIn_9 rfl (lv_at hl 0 rfl) ?_
    refine lv_l2i (v := x0.toInt32) hx hb d_AdjoinedSetsModel_isIn_10 rfl ?_
    refine lv_lshr (v := (x2 >>> (x0.toInt32.toInt64 &&& 63))) hx hb d_AdjoinedSetsModel_isIn_11 rfl ?_
    refine lv_lconst (v := 1) hx hb d_AdjoinedSetsModel_isIn_12 (by decide) ?_
    refine lv_land hx hb d_AdjoinedSetsModel_isIn_13 ?_
    refine lv_lconst (v := 1) hx hb d_AdjoinedSetsModel_isIn_14 (by decide) ?_
    refine W.lcmp hx hb d_AdjoinedSetsModel_isIn_15 ?_
    refine lv_if_ne hx hb d_AdjoinedSetsModel_isIn_16 (tgt := 23) (by decide) (fun hc => ?_) (fun hc => ?_)
    · have hs := oi_f hc hs
      refine lv_iconst (v := 0) hx hb d_AdjoinedSetsModel_isIn_23 (by decide) ?_
      obtain rfl := Option.some.inj hs
      exact pg_zret (v := 0) C hw rfl d_AdjoinedSetsModel_isIn_24
    · have hs := oi_t hc hs
      refine lv_iconst (v := 1) hx hb d_AdjoinedSetsModel_isIn_19 (by decide) ?_
      refine lv_goto hx hb d_AdjoinedSetsModel_isIn_20 (tgt := 24) (by decide) ?_
      obtain rfl := Option.some.inj hs
      exact pg_zret (v := 1) C hw rfl d_AdjoinedSetsModel_isIn_24

end
section
variable {p : Program} {l : Launch} {e : Env} {s : State} {m : MethodId} {args : Array Value} {below : List Frame} {meth : Method} {c : Code} {g : GG}
theorem d_AdjoinedSetsModel_combine_0 : decode b_AdjoinedSetsModel_combine 0 = .ok (.iload_n 1, 1) := by decide +kernel
theorem d_AdjoinedSetsModel_combine_1 : decode b_AdjoinedSetsModel_combine 1 = .ok (.lookupswitch 193 #[(33, 179), (38, 121), (43, 107), (45, 126), (60, 151), (61, 166), (80, 140), (84, 146), (85, 135), (94, 183), (118, 188), (124, 116)], 107) := by decide +kernel
theorem d_AdjoinedSetsModel_combine_108 : decode b_AdjoinedSetsModel_combine 108 = .ok (.lload_n 2, 1) := by decide +kernel
theorem d_AdjoinedSetsModel_combine_109 : decode b_AdjoinedSetsModel_combine 109 = .ok (.aload_n 0, 1) := by decide +kernel
theorem d_AdjoinedSetsModel_combine_110 : decode b_AdjoinedSetsModel_combine 110 = .ok (.lload 4, 2) := by decide +kernel
theorem d_AdjoinedSetsModel_combine_112 : decode b_AdjoinedSetsModel_combine 112 = .ok (.invokevirtual 180, 3) := by decide +kernel
theorem d_AdjoinedSetsModel_combine_115 : decode b_AdjoinedSetsModel_combine 115 = .ok (.lor, 1) := by decide +kernel
theorem d_AdjoinedSetsModel_combine_116 : decode b_AdjoinedSetsModel_combine 116 = .ok (.lreturn, 1) := by decide +kernel
theorem d_AdjoinedSetsModel_combine_117 : decode b_AdjoinedSetsModel_combine 117 = .ok (.lload_n 2, 1) := by decide +kernel
theorem d_AdjoinedSetsModel_combine_118 : decode b_AdjoinedSetsModel_combine 118 = .ok (.lload 4, 2) := by decide +kernel
theorem d_AdjoinedSetsModel_combine_120 : decode b_AdjoinedSetsModel_combine 120 = .ok (.lor, 1) := by decide +kernel
theorem d_AdjoinedSetsModel_combine_121 : decode b_AdjoinedSetsModel_combine 121 = .ok (.lreturn, 1) := by decide +kernel
theorem d_AdjoinedSetsModel_combine_122 : decode b_AdjoinedSetsModel_combine 122 = .ok (.lload_n 2, 1) := by decide +kernel
theorem d_AdjoinedSetsModel_combine_123 : decode b_AdjoinedSetsModel_combine 123 = .ok (.lload 4, 2) := by decide +kernel
theorem d_AdjoinedSetsModel_combine_125 : decode b_AdjoinedSetsModel_combine 125 = .ok (.land, 1) := by decide +kernel
theorem d_AdjoinedSetsModel_combine_126 : decode b_AdjoinedSetsModel_combine 126 = .ok (.lreturn, 1) := by decide +kernel
theorem d_AdjoinedSetsModel_combine_127 : decode b_AdjoinedSetsModel_combine 127 = .ok (.lload_n 2, 1) := by decide +kernel
theorem d_AdjoinedSetsModel_combine_128 : decode b_AdjoinedSetsModel_combine 128 = .ok (.lload 4, 2) := by decide +kernel
theorem d_AdjoinedSetsModel_combine_130 : decode b_AdjoinedSetsModel_combine 130 = .ok (.ldc2_w 178, 3) := by decide +kernel
theorem d_AdjoinedSetsModel_combine_133 : decode b_AdjoinedSetsModel_combine 133 = .ok (.lxor, 1) := by decide +kernel
theorem d_AdjoinedSetsModel_combine_134 : decode b_AdjoinedSetsModel_combine 134 = .ok (.land, 1) := by decide +kernel
theorem d_AdjoinedSetsModel_combine_135 : decode b_AdjoinedSetsModel_combine 135 = .ok (.lreturn, 1) := by decide +kernel
theorem d_AdjoinedSetsModel_combine_136 : decode b_AdjoinedSetsModel_combine 136 = .ok (.lload_n 2, 1) := by decide +kernel
theorem d_AdjoinedSetsModel_combine_137 : decode b_AdjoinedSetsModel_combine 137 = .ok (.invokestatic 172, 3) := by decide +kernel
theorem d_AdjoinedSetsModel_combine_140 : decode b_AdjoinedSetsModel_combine 140 = .ok (.lreturn, 1) := by decide +kernel
theorem d_AdjoinedSetsModel_combine_141 : decode b_AdjoinedSetsModel_combine 141 = .ok (.aload_n 0, 1) := by decide +kernel
theorem d_AdjoinedSetsModel_combine_142 : decode b_AdjoinedSetsModel_combine 142 = .ok (.lload_n 2, 1) := by decide +kernel
theorem d_AdjoinedSetsModel_combine_143 : decode b_AdjoinedSetsModel_combine 143 = .ok (.invokevirtual 183, 3) := by decide +kernel
theorem d_AdjoinedSetsModel_combine_146 : decode b_AdjoinedSetsModel_combine 146 = .ok (.lreturn, 1) := by decide +kernel
theorem d_AdjoinedSetsModel_combine_147 : decode b_AdjoinedSetsModel_combine 147 = .ok (.lload_n 2, 1) := by decide +kernel
theorem d_AdjoinedSetsModel_combine_148 : decode b_AdjoinedSetsModel_combine 148 = .ok (.invokestatic 186, 3) := by decide +kernel
theorem d_AdjoinedSetsModel_combine_151 : decode b_AdjoinedSetsModel_combine 151 = .ok (.lreturn, 1) := by decide +kernel
theorem d_AdjoinedSetsModel_combine_152 : decode b_AdjoinedSetsModel_combine 152 = .ok (.lload_n 2, 1) := by decide +kernel
theorem d_AdjoinedSetsModel_combine_153 : decode b_AdjoinedSetsModel_combine 153 = .ok (.lload 4, 2) := by decide +kernel
theorem d_AdjoinedSetsModel_combine_155 : decode b_AdjoinedSetsModel_combine 155 = .ok (.invokestatic 189, 3) := by decide +kernel
theorem d_AdjoinedSetsModel_combine_158 : decode b_AdjoinedSetsModel_combine 158 = .ok (.ifCond .eq 7, 3) := by decide +kernel
theorem d_AdjoinedSetsModel_combine_161 : decode b_AdjoinedSetsModel_combine 161 = .ok (.lconst 1, 1) := by decide +kernel
theorem d_AdjoinedSetsModel_combine_162 : decode b_AdjoinedSetsModel_combine 162 = .ok (.goto 4, 3) := by decide +kernel
theorem d_AdjoinedSetsModel_combine_165 : decode b_AdjoinedSetsModel_combine 165 = .ok (.lconst 0, 1) := by decide +kernel
theorem d_AdjoinedSetsModel_combine_166 : decode b_AdjoinedSetsModel_combine 166 = .ok (.lreturn, 1) := by decide +kernel
theorem d_AdjoinedSetsModel_combine_167 : decode b_AdjoinedSetsModel_combine 167 = .ok (.lload_n 2, 1) := by decide +kernel
theorem d_AdjoinedSetsModel_combine_168 : decode b_AdjoinedSetsModel_combine 168 = .ok (.lload 4, 2) := by decide +kernel
theorem d_AdjoinedSetsModel_combine_170 : decode b_AdjoinedSetsModel_combine 170 = .ok (.lcmp, 1) := by decide +kernel
theorem d_AdjoinedSetsModel_combine_171 : decode b_AdjoinedSetsModel_combine 171 = .ok (.ifCond .ne 7, 3) := by decide +kernel
theorem d_AdjoinedSetsModel_combine_174 : decode b_AdjoinedSetsModel_combine 174 = .ok (.lconst 1, 1) := by decide +kernel
theorem d_AdjoinedSetsModel_combine_175 : decode b_AdjoinedSetsModel_combine 175 = .ok (.goto 4, 3) := by decide +kernel
theorem d_AdjoinedSetsModel_combine_178 : decode b_AdjoinedSetsModel_combine 178 = .ok (.lconst 0, 1) := by decide +kernel
theorem d_AdjoinedSetsModel_combine_179 : decode b_AdjoinedSetsModel_combine 179 = .ok (.lreturn, 1) := by decide +kernel
theorem d_AdjoinedSetsModel_combine_180 : decode b_AdjoinedSetsModel_combine 180 = .ok (.lconst 1, 1) := by decide +kernel
theorem d_AdjoinedSetsModel_combine_181 : decode b_AdjoinedSetsModel_combine 181 = .ok (.lload_n 2, 1) := by decide +kernel
theorem d_AdjoinedSetsModel_combine_182 : decode b_AdjoinedSetsModel_combine 182 = .ok (.lsub, 1) := by decide +kernel
theorem d_AdjoinedSetsModel_combine_183 : decode b_AdjoinedSetsModel_combine 183 = .ok (.lreturn, 1) := by decide +kernel
theorem d_AdjoinedSetsModel_combine_184 : decode b_AdjoinedSetsModel_combine 184 = .ok (.lload_n 2, 1) := by decide +kernel
theorem d_AdjoinedSetsModel_combine_185 : decode b_AdjoinedSetsModel_combine 185 = .ok (.lload 4, 2) := by decide +kernel
theorem d_AdjoinedSetsModel_combine_187 : decode b_AdjoinedSetsModel_combine 187 = .ok (.land, 1) := by decide +kernel
theorem d_AdjoinedSetsModel_combine_188 : decode b_AdjoinedSetsModel_combine 188 = .ok (.lreturn, 1) := by decide +kernel
theorem d_AdjoinedSetsModel_combine_189 : decode b_AdjoinedSetsModel_combine 189 = .ok (.lload_n 2, 1) := by decide +kernel
theorem d_AdjoinedSetsModel_combine_190 : decode b_AdjoinedSetsModel_combine 190 = .ok (.lload 4, 2) := by decide +kernel
theorem d_AdjoinedSetsModel_combine_192 : decode b_AdjoinedSetsModel_combine 192 = .ok (.lor, 1) := by decide +kernel
theorem d_AdjoinedSetsModel_combine_193 : decode b_AdjoinedSetsModel_combine 193 = .ok (.lreturn, 1) := by decide +kernel
theorem d_AdjoinedSetsModel_combine_194 : decode b_AdjoinedSetsModel_combine 194 = .ok (.lconst 1, 1) := by decide +kernel
theorem d_AdjoinedSetsModel_combine_195 : decode b_AdjoinedSetsModel_combine 195 = .ok (.lload_n 2, 1) := by decide +kernel
theorem d_AdjoinedSetsModel_combine_196 : decode b_AdjoinedSetsModel_combine 196 = .ok (.lsub, 1) := by decide +kernel
theorem d_AdjoinedSetsModel_combine_197 : decode b_AdjoinedSetsModel_combine 197 = .ok (.lload 4, 2) := by decide +kernel
theorem d_AdjoinedSetsModel_combine_199 : decode b_AdjoinedSetsModel_combine 199 = .ok (.lor, 1) := by decide +kernel
theorem d_AdjoinedSetsModel_combine_200 : decode b_AdjoinedSetsModel_combine 200 = .ok (.lreturn, 1) := by decide +kernel
def s_AdjoinedSetsModel_combine (x0 : Nat) (x1 : Int32) (x2 : Int64) (x4 : Int64) (h : HP) : Option (Int64 × HP) :=
  if x1 = 33 then (
    some ((1 - x2), h))
  else (
  if x1 = 38 then (
    some ((x2 &&& x4), h))
  else (
  if x1 = 43 then (
    (kd x0 9).bind fun _ =>
    (s_AdjoinedSetsModel_only x0 x4 h).bind fun q2 =>
    some ((x2 ||| q2.1), q2.2))
  else (
  if x1 = 45 then (
    some ((x2 &&& (x4 ^^^ (-1))), h))
  else (
  if x1 = 60 then (
    (s_AdjoinedSetsModel_isIn x2 x4).bind fun q4 =>
    if q4 = 0 then (
      some (0, h))
    else (
      some (1, h)))
  else (
  if x1 = 61 then (
    if (lg_cmp x2 x4) = 0 then (
      some (1, h))
    else (
      some (0, h)))
  else (
  if x1 = 80 then (
    (kd x0 9).bind fun _ =>
    (s_AdjoinedSetsModel_power x0 x2 h).bind fun q7 =>
    some (q7.1, q7.2))
  else (
  if x1 = 84 then (
    (s_AdjoinedSetsModel_closure x2).bind fun q9 =>
    some (q9, h))
  else (
  if x1 = 85 then (
    (s_AdjoinedSetsModel_union x2).bind fun q11 =>
    some (q11, h))
  else (
  if x1 = 94 then (
    some ((x2 &&& x4), h))
  else (
  if x1 = 118 then (
    some ((x2 ||| x4), h))
  else (
  if x1 = 124 then (
    some ((x2 ||| x4), h))
  else (
    some (((1 - x2) ||| x4), h)))))))))))))
set_option maxHeartbeats 4000000 in
set_option maxRecDepth 100000 in
theorem c_AdjoinedSetsModel_combine (l : Launch) (g : GG) {x0 : Nat} {x1 : Int32} {x2 : Int64} {x4 : Int64} {h : HP} {z : Int64 × HP} (hs : s_AdjoinedSetsModel_combine x0 x1 x2 x4 h = some z) : Ct l g y_AdjoinedSetsModel_combine w_AdjoinedSetsModel_combine (rmS 2 48) [.ref (aD g x0), .int x1, .long x2, .long x4] h (some (.long z.1)) z.2 := by
  refine Ct.of (own := R_AdjoinedSetsModel) (by decide) rfl rfl (Nat.le_of_ble_eq_true rfl) ?_
  intro p e s m args below meth c ls C hl hw
  have hx := C.1
  have hb := C.2.1
  have hl : lv_has ls 6 [(0, .ref (aD g x0)), (1, .int x1), (2, .long x2), (4, .long x4)] := hl
  unfold s_AdjoinedSetsModel_combine at hs
  refine lv_iload_n hx hb d_AdjoinedSetsModel_combine_0 rfl (lv_at hl 1 rfl) ?_
  refine by_c (fun (hk0 : x1 = 33) => ?_) (fun (hk0 : ¬ x1 = 33) => ?_)
  · have hs := oi_t hk0 hs
    refine lv_lookup hx hb d_AdjoinedSetsModel_combine_1 (by decide) (off := 179) (by rw [hk0]; decide) (tgt := 180) (by decide) ?_
    refine lv_lconst (v := 1) hx hb d_AdjoinedSetsModel_combine_180 (by decide) ?_
    refine lv_lload_n hx hb d_AdjoinedSetsModel_combine_181 rfl (lv_at hl 2 rfl) ?_
    refine lv_lsub hx hb d_AdjoinedSetsModel_combine_182 ?_
    obtain rfl := Option.some.inj hs
    exact pg_lret C hw d_AdjoinedSetsModel_combine_183
  have hs := oi_f hk0 hs
  refine by_c (fun (hk1 : x1 = 38) => ?_) (fun (hk1 : ¬ x1 = 38) => ?_)
  · have hs := oi_t hk1 hs
    refine lv_lookup hx hb d_AdjoinedSetsModel_combine_1 (by decide) (off := 121) (by rw [hk1]; decide) (tgt := 122) (by decide) ?_
    refine lv_lload_n hx hb d_AdjoinedSetsModel_combine_122 rfl (lv_at hl 2 rfl) ?_
    refine lv_lload hx hb d_AdjoinedSetsModel_combine_123 (lv_at hl 3 rfl) ?_
    refine lv_land hx hb d_AdjoinedSetsModel_combine_125 ?_
    obtain rfl := Option.some.inj hs
    exact pg_lret C hw d_AdjoinedSetsModel_combine_126
  have hs := oi_f hk1 hs
  refine by_c (fun (hk2 : x1 = 43) => ?_) (fun (hk2 : ¬ x1 = 43) => ?_)
  · have hs := oi_t hk2 hs
    refine lv_lookup hx hb d_AdjoinedSetsModel_combine_1 (by decide) (off := 107) (by rw [hk2]; decide) (tgt := 108) (by decide) ?_
    refine lv_lload_n hx hb d_AdjoinedSetsModel_combine_108 rfl (lv_at hl 2 rfl) ?_
    refine lv_aload_n hx hb d_AdjoinedSetsModel_combine_109 rfl (lv_at hl 0 rfl) ?_
    refine lv_lload hx hb d_AdjoinedSetsModel_combine_110 (lv_at hl 3 rfl) ?_
    obtain ⟨_, e1, hs⟩ := ob hs
    obtain ⟨q2, e3, hs⟩ := ob hs
    refine pg_callV C hw hl.1 ml_AdjoinedSetsModel_180 e1 (As := [.long x4]) (rest := [.long x2]) (c_AdjoinedSetsModel_only l g e3) rfl (rm_ok (Nat.le_of_ble_eq_true rfl) (Nat.le_of_ble_eq_true rfl)) (Nat.le_of_ble_eq_true rfl) rfl (st1 := [.long q2.1, .long x2]) rfl d_AdjoinedSetsModel_combine_112 (fun H locs hw => ?_)
    refine lv_lor hx hb d_AdjoinedSetsModel_combine_115 ?_
    obtain rfl := Option.some.inj hs
    exact pg_lret C hw d_AdjoinedSetsModel_combine_116
  have hs := oi_f hk2 hs
  refine by_c (fun (hk3 : x1 = 45) => ?_) (fun (hk3 : ¬ x1 = 45) => ?_)
  · have hs := oi_t hk3 hs
    refine lv_lookup hx hb d_AdjoinedSetsModel_combine_1 (by decide) (off := 126) (by rw [hk3]; decide) (tgt := 127) (by decide) ?_
    refine lv_lload_n hx hb d_AdjoinedSetsModel_combine_127 rfl (lv_at hl 2 rfl) ?_
    refine lv_lload hx hb d_AdjoinedSetsModel_combine_128 (lv_at hl 3 rfl) ?_
    refine lv_ldc2 (v := (-1)) hx hb C.own (C.w kc_AdjoinedSetsModel_178) d_AdjoinedSetsModel_combine_130 ?_
    refine lv_lxor hx hb d_AdjoinedSetsModel_combine_133 ?_
    refine lv_land hx hb d_AdjoinedSetsModel_combine_134 ?_
    obtain rfl := Option.some.inj hs
    exact pg_lret C hw d_AdjoinedSetsModel_combine_135
  have hs := oi_f hk3 hs
  refine by_c (fun (hk4 : x1 = 60) => ?_) (fun (hk4 : ¬ x1 = 60) => ?_)
  · have hs := oi_t hk4 hs
    refine lv_lookup hx hb d_AdjoinedSetsModel_combine_1 (by decide) (off := 151) (by rw [hk4]; decide) (tgt := 152) (by decide) ?_
    refine lv_lload_n hx hb d_AdjoinedSetsModel_combine_152 rfl (lv_at hl 2 rfl) ?_
    refine lv_lload hx hb d_AdjoinedSetsModel_combine_153 (lv_at hl 3 rfl) ?_
    obtain ⟨q4, e5, hs⟩ := ob hs
    refine pg_callS C hw hl.1 ml_AdjoinedSetsModel_189 (As := [.long x2, .long x4]) (rest := []) (c_AdjoinedSetsModel_isIn l g e5) rfl (rm_ok (Nat.le_of_ble_eq_true rfl) (Nat.le_of_ble_eq_true rfl)) (Nat.le_of_ble_eq_true rfl) rfl (st1 := [.int q4]) rfl d_AdjoinedSetsModel_combine_155 (fun H locs hw => ?_)
    refine lv_if_eq hx hb d_AdjoinedSetsModel_combine_158 (tgt := 165) (by decide) (fun hc => ?_) (fun hc => ?_)
    · have hs := oi_t hc hs
      refine lv_lconst (v := 0) hx hb d_AdjoinedSetsModel_combine_165 (by decide) ?_
      obtain rfl := Option.some.inj hs
      exact pg_lret C hw d_AdjoinedSetsModel_combine_166
    · have hs := oi_f hc hs
      refine lv_lconst (v := 1) hx hb d_AdjoinedSetsModel_combine_161 (by decide) ?_
      refine lv_goto hx hb d_AdjoinedSetsModel_combine_162 (tgt := 166) (by decide) ?_
      obtain rfl := Option.some.inj hs
      exact pg_lret C hw d_AdjoinedSetsModel_combine_166
  have hs := oi_f hk4 hs
  refine by_c (fun (hk5 : x1 = 61) => ?_) (fun (hk5 : ¬ x1 = 61) => ?_)
  · have hs := oi_t hk5 hs
    refine lv_lookup hx hb d_AdjoinedSetsModel_combine_1 (by decide) (off := 166) (by rw [hk5]; decide) (tgt := 167) (by decide) ?_
    refine lv_lload_n hx hb d_AdjoinedSetsModel_combine_167 rfl (lv_at hl 2 rfl) ?_
    refine lv_lload hx hb d_AdjoinedSetsModel_combine_168 (lv_at hl 3 rfl) ?_
    refine W.lcmp hx hb d_AdjoinedSetsModel_combine_170 ?_
    refine lv_if_ne hx hb d_AdjoinedSetsModel_combine_171 (tgt := 178) (by decide) (fun hc => ?_) (fun hc => ?_)
    · have hs := oi_f hc hs
      refine lv_lconst (v := 0) hx hb d_AdjoinedSetsModel_combine_178 (by decide) ?_
      obtain rfl := Option.some.inj hs
      exact pg_lret C hw d_AdjoinedSetsModel_combine_179
    · have hs := oi_t hc hs
      refine lv_lconst (v := 1) hx hb d_AdjoinedSetsModel_combine_174 (by decide) ?_
      refine lv_goto hx hb d_AdjoinedSetsModel_combine_175 (tgt := 179) (by decide) ?_
      obtain rfl := Option.some.inj hs
      exact pg_lret C hw d_AdjoinedSetsModel_combine_179
  have hs := oi_f hk5 hs
  refine by_c (fun (hk6 : x1 = 80) => ?_) (fun (hk6 : ¬ x1 = 80) => ?_)
  · have hs := oi_t hk6 hs
    refine lv_lookup hx hb d_AdjoinedSetsModel_combine_1 (by decide) (off := 140) (by rw [hk6]; decide) (tgt := 141) (by decide) ?_
    refine lv_aload_n hx hb d_AdjoinedSetsModel_combine_141 rfl (lv_at hl 0 rfl) ?_
    refine lv_lload_n hx hb d_AdjoinedSetsModel_combine_142 rfl (lv_at hl 2 rfl) ?_
    obtain ⟨_, e6, hs⟩ := ob hs
    obtain ⟨q7, e8, hs⟩ := ob hs
    refine pg_callV C hw hl.1 ml_AdjoinedSetsModel_183 e6 (As := [.long x2]) (rest := []) (c_AdjoinedSetsModel_power l g e8) rfl (rm_ok (Nat.le_of_ble_eq_true rfl) (Nat.le_of_ble_eq_true rfl)) (Nat.le_of_ble_eq_true rfl) rfl (st1 := [.long q7.1]) rfl d_AdjoinedSetsModel_combine_143 (fun H locs hw => ?_)
    obtain rfl := Option.some.inj hs
    exact pg_lret C hw d_AdjoinedSetsModel_combine_146
  have hs := oi_f hk6 hs
  refine by_c (fun (hk7 : x1 = 84) => ?_) (fun (hk7 : ¬ x1 = 84) => ?_)
  · have hs := oi_t hk7 hs
    refine lv_lookup hx hb d_AdjoinedSetsModel_combine_1 (by decide) (off := 146) (by rw [hk7]; decide) (tgt := 147) (by decide) ?_
    refine lv_lload_n hx hb d_AdjoinedSetsModel_combine_147 rfl (lv_at hl 2 rfl) ?_
    obtain ⟨q9, e10, hs⟩ := ob hs
    refine pg_callS C hw hl.1 ml_AdjoinedSetsModel_186 (As := [.long x2]) (rest := []) (c_AdjoinedSetsModel_closure l g e10) rfl (rm_ok (Nat.le_of_ble_eq_true rfl) (Nat.le_of_ble_eq_true rfl)) (Nat.le_of_ble_eq_true rfl) rfl (st1 := [.long q9]) rfl d_AdjoinedSetsModel_combine_148 (fun H locs hw => ?_)
    obtain rfl := Option.some.inj hs
    exact pg_lret C hw d_AdjoinedSetsModel_combine_151
  have hs := oi_f hk7 hs
  refine by_c (fun (hk8 : x1 = 85) => ?_) (fun (hk8 : ¬ x1 = 85) => ?_)
  · have hs := oi_t hk8 hs
    refine lv_lookup hx hb d_AdjoinedSetsModel_combine_1 (by decide) (off := 135) (by rw [hk8]; decide) (tgt := 136) (by decide) ?_
    refine lv_lload_n hx hb d_AdjoinedSetsModel_combine_136 rfl (lv_at hl 2 rfl) ?_
    obtain ⟨q11, e12, hs⟩ := ob hs
    refine pg_callS C hw hl.1 ml_AdjoinedSetsModel_172 (As := [.long x2]) (rest := []) (c_AdjoinedSetsModel_union l g e12) rfl (rm_ok (Nat.le_of_ble_eq_true rfl) (Nat.le_of_ble_eq_true rfl)) (Nat.le_of_ble_eq_true rfl) rfl (st1 := [.long q11]) rfl d_AdjoinedSetsModel_combine_137 (fun H locs hw => ?_)
    obtain rfl := Option.some.inj hs
    exact pg_lret C hw d_AdjoinedSetsModel_combine_140
  have hs := oi_f hk8 hs
  refine by_c (fun (hk9 : x1 = 94) => ?_) (fun (hk9 : ¬ x1 = 94) => ?_)
  · have hs := oi_t hk9 hs
    refine lv_lookup hx hb d_AdjoinedSetsModel_combine_1 (by decide) (off := 183) (by rw [hk9]; decide) (tgt := 184) (by decide) ?_
    refine lv_lload_n hx hb d_AdjoinedSetsModel_combine_184 rfl (lv_at hl 2 rfl) ?_
    refine lv_lload hx hb d_AdjoinedSetsModel_combine_185 (lv_at hl 3 rfl) ?_
    refine lv_land hx hb d_AdjoinedSetsModel_combine_187 ?_
    obtain rfl := Option.some.inj hs
    exact pg_lret C hw d_AdjoinedSetsModel_combine_188
  have hs := oi_f hk9 hs
  refine by_c (fun (hk10 : x1 = 118) => ?_) (fun (hk10 : ¬ x1 = 118) => ?_)
  · have hs := oi_t hk10 hs
    refine lv_lookup hx hb d_AdjoinedSetsModel_combine_1 (by decide) (off := 188) (by rw [hk10]; decide) (tgt := 189) (by decide) ?_
    refine lv_lload_n hx hb d_AdjoinedSetsModel_combine_189 rfl (lv_at hl 2 rfl) ?_
    refine lv_lload hx hb d_AdjoinedSetsModel_combine_190 (lv_at hl 3 rfl) ?_
    refine lv_lor hx hb d_AdjoinedSetsModel_combine_192 ?_
    obtain rfl := Option.some.inj hs
    exact pg_lret C hw d_AdjoinedSetsModel_combine_193
  have hs := oi_f hk10 hs
  refine by_c (fun (hk11 : x1 = 124) => ?_) (fun (hk11 : ¬ x1 = 124) => ?_)
  · have hs := oi_t hk11 hs
    refine lv_lookup hx hb d_AdjoinedSetsModel_combine_1 (by decide) (off := 116) (by rw [hk11]; decide) (tgt := 117) (by decide) ?_
    refine lv_lload_n hx hb d_AdjoinedSetsModel_combine_117 rfl (lv_at hl 2 rfl) ?_
    refine lv_lload hx hb d_AdjoinedSetsModel_combine_118 (lv_at hl 3 rfl) ?_
    refine lv_lor hx hb d_AdjoinedSetsModel_combine_120 ?_
    obtain rfl := Option.some.inj hs
    exact pg_lret C hw d_AdjoinedSetsModel_combine_121
  have hs := oi_f hk11 hs
  refine lv_lookup hx hb d_AdjoinedSetsModel_combine_1 (by decide) (off := 193) (by show Op.lookupswitch.offset [(33, 179), (38, 121), (43, 107), (45, 126), (60, 151), (61, 166), (80, 140), (84, 146), (85, 135), (94, 183), (118, 188), (124, 116)] _ _ = _; rw [lv_osw hk0 (by decide), lv_osw hk1 (by decide), lv_osw hk2 (by decide), lv_osw hk3 (by decide), lv_osw hk4 (by decide), lv_osw hk5 (by decide), lv_osw hk6 (by decide), lv_osw hk7 (by decide), lv_osw hk8 (by decide), lv_osw hk9 (by decide), lv_osw hk10 (by decide), lv_osw hk11 (by decide)]; rfl) (tgt := 194) (by decide) ?_
  refine lv_lconst (v := 1) hx hb d_AdjoinedSetsModel_combine_194 (by decide) ?_
  refine lv_lload_n hx hb d_AdjoinedSetsModel_combine_195 rfl (lv_at hl 2 rfl) ?_
  refine lv_lsub hx hb d_AdjoinedSetsModel_combine_196 ?_
  refine lv_lload hx hb d_AdjoinedSetsModel_combine_197 (lv_at hl 3 rfl) ?_
  refine lv_lor hx hb d_AdjoinedSetsModel_combine_199 ?_
  obtain rfl := Option.some.inj hs
  exact pg_lret C hw d_AdjoinedSetsModel_combine_200

end
section
variable {p : Program} {l : Launch} {e : Env} {s : State} {m : MethodId} {args : Array Value} {below : List Frame} {meth : Method} {c : Code} {g : GG}
theorem d_AdjoinedSetsModel_goOn_0 : decode b_AdjoinedSetsModel_goOn 0 = .ok (.aload_n 0, 1) := by decide +kernel
theorem d_AdjoinedSetsModel_goOn_1 : decode b_AdjoinedSetsModel_goOn 1 = .ok (.iload_n 2, 1) := by decide +kernel
theorem d_AdjoinedSetsModel_goOn_2 : decode b_AdjoinedSetsModel_goOn 2 = .ok (.invokevirtual 118, 3) := by decide +kernel
theorem d_AdjoinedSetsModel_goOn_5 : decode b_AdjoinedSetsModel_goOn 5 = .ok (.istore_n 3, 1) := by decide +kernel
theorem d_AdjoinedSetsModel_goOn_6 : decode b_AdjoinedSetsModel_goOn 6 = .ok (.iload_n 2, 1) := by decide +kernel
theorem d_AdjoinedSetsModel_goOn_7 : decode b_AdjoinedSetsModel_goOn 7 = .ok (.invokestatic 96, 3) := by decide +kernel
theorem d_AdjoinedSetsModel_goOn_10 : decode b_AdjoinedSetsModel_goOn 10 = .ok (.ifCond .eq 15, 3) := by decide +kernel
theorem d_AdjoinedSetsModel_goOn_13 : decode b_AdjoinedSetsModel_goOn 13 = .ok (.aload_n 0, 1) := by decide +kernel
theorem d_AdjoinedSetsModel_goOn_14 : decode b_AdjoinedSetsModel_goOn 14 = .ok (.iload_n 2, 1) := by decide +kernel
theorem d_AdjoinedSetsModel_goOn_15 : decode b_AdjoinedSetsModel_goOn 15 = .ok (.bipush 48, 2) := by decide +kernel
theorem d_AdjoinedSetsModel_goOn_17 : decode b_AdjoinedSetsModel_goOn 17 = .ok (.isub, 1) := by decide +kernel
theorem d_AdjoinedSetsModel_goOn_18 : decode b_AdjoinedSetsModel_goOn 18 = .ok (.i2l, 1) := by decide +kernel
theorem d_AdjoinedSetsModel_goOn_19 : decode b_AdjoinedSetsModel_goOn 19 = .ok (.invokevirtual 200, 3) := by decide +kernel
theorem d_AdjoinedSetsModel_goOn_22 : decode b_AdjoinedSetsModel_goOn 22 = .ok (.goto 122, 3) := by decide +kernel
theorem d_AdjoinedSetsModel_goOn_25 : decode b_AdjoinedSetsModel_goOn 25 = .ok (.iload_n 2, 1) := by decide +kernel
theorem d_AdjoinedSetsModel_goOn_26 : decode b_AdjoinedSetsModel_goOn 26 = .ok (.invokestatic 100, 3) := by decide +kernel
theorem d_AdjoinedSetsModel_goOn_29 : decode b_AdjoinedSetsModel_goOn 29 = .ok (.ifCond .eq 24, 3) := by decide +kernel
theorem d_AdjoinedSetsModel_goOn_32 : decode b_AdjoinedSetsModel_goOn 32 = .ok (.aload_n 0, 1) := by decide +kernel
theorem d_AdjoinedSetsModel_goOn_33 : decode b_AdjoinedSetsModel_goOn 33 = .ok (.aload_n 0, 1) := by decide +kernel
theorem d_AdjoinedSetsModel_goOn_34 : decode b_AdjoinedSetsModel_goOn 34 = .ok (.iload_n 2, 1) := by decide +kernel
theorem d_AdjoinedSetsModel_goOn_35 : decode b_AdjoinedSetsModel_goOn 35 = .ok (.bipush 97, 2) := by decide +kernel
theorem d_AdjoinedSetsModel_goOn_37 : decode b_AdjoinedSetsModel_goOn 37 = .ok (.isub, 1) := by decide +kernel
theorem d_AdjoinedSetsModel_goOn_38 : decode b_AdjoinedSetsModel_goOn 38 = .ok (.aload_n 0, 1) := by decide +kernel
theorem d_AdjoinedSetsModel_goOn_39 : decode b_AdjoinedSetsModel_goOn 39 = .ok (.getfield 48, 3) := by decide +kernel
theorem d_AdjoinedSetsModel_goOn_42 : decode b_AdjoinedSetsModel_goOn 42 = .ok (.iload_n 1, 1) := by decide +kernel
theorem d_AdjoinedSetsModel_goOn_43 : decode b_AdjoinedSetsModel_goOn 43 = .ok (.iaload, 1) := by decide +kernel
theorem d_AdjoinedSetsModel_goOn_44 : decode b_AdjoinedSetsModel_goOn 44 = .ok (.invokevirtual 204, 3) := by decide +kernel
theorem d_AdjoinedSetsModel_goOn_47 : decode b_AdjoinedSetsModel_goOn 47 = .ok (.invokevirtual 200, 3) := by decide +kernel
theorem d_AdjoinedSetsModel_goOn_50 : decode b_AdjoinedSetsModel_goOn 50 = .ok (.goto 94, 3) := by decide +kernel
theorem d_AdjoinedSetsModel_goOn_53 : decode b_AdjoinedSetsModel_goOn 53 = .ok (.iload_n 2, 1) := by decide +kernel
theorem d_AdjoinedSetsModel_goOn_54 : decode b_AdjoinedSetsModel_goOn 54 = .ok (.invokestatic 115, 3) := by decide +kernel
theorem d_AdjoinedSetsModel_goOn_57 : decode b_AdjoinedSetsModel_goOn 57 = .ok (.ifCond .eq 11, 3) := by decide +kernel
theorem d_AdjoinedSetsModel_goOn_60 : decode b_AdjoinedSetsModel_goOn 60 = .ok (.aload_n 0, 1) := by decide +kernel
theorem d_AdjoinedSetsModel_goOn_61 : decode b_AdjoinedSetsModel_goOn 61 = .ok (.iload_n 1, 1) := by decide +kernel
theorem d_AdjoinedSetsModel_goOn_62 : decode b_AdjoinedSetsModel_goOn 62 = .ok (.invokevirtual 208, 3) := by decide +kernel
theorem d_AdjoinedSetsModel_goOn_65 : decode b_AdjoinedSetsModel_goOn 65 = .ok (.goto 79, 3) := by decide +kernel
theorem d_AdjoinedSetsModel_goOn_68 : decode b_AdjoinedSetsModel_goOn 68 = .ok (.aload_n 0, 1) := by decide +kernel
theorem d_AdjoinedSetsModel_goOn_69 : decode b_AdjoinedSetsModel_goOn 69 = .ok (.getfield 51, 3) := by decide +kernel
theorem d_AdjoinedSetsModel_goOn_72 : decode b_AdjoinedSetsModel_goOn 72 = .ok (.iload_n 1, 1) := by decide +kernel
theorem d_AdjoinedSetsModel_goOn_73 : decode b_AdjoinedSetsModel_goOn 73 = .ok (.iaload, 1) := by decide +kernel
theorem d_AdjoinedSetsModel_goOn_74 : decode b_AdjoinedSetsModel_goOn 74 = .ok (.iload_n 3, 1) := by decide +kernel
theorem d_AdjoinedSetsModel_goOn_75 : decode b_AdjoinedSetsModel_goOn 75 = .ok (.if_icmp .ge 22, 3) := by decide +kernel
theorem d_AdjoinedSetsModel_goOn_78 : decode b_AdjoinedSetsModel_goOn 78 = .ok (.aload_n 0, 1) := by decide +kernel
theorem d_AdjoinedSetsModel_goOn_79 : decode b_AdjoinedSetsModel_goOn 79 = .ok (.aload_n 0, 1) := by decide +kernel
theorem d_AdjoinedSetsModel_goOn_80 : decode b_AdjoinedSetsModel_goOn 80 = .ok (.getfield 54, 3) := by decide +kernel
theorem d_AdjoinedSetsModel_goOn_83 : decode b_AdjoinedSetsModel_goOn 83 = .ok (.iload_n 1, 1) := by decide +kernel
theorem d_AdjoinedSetsModel_goOn_84 : decode b_AdjoinedSetsModel_goOn 84 = .ok (.iaload, 1) := by decide +kernel
theorem d_AdjoinedSetsModel_goOn_85 : decode b_AdjoinedSetsModel_goOn 85 = .ok (.aload_n 0, 1) := by decide +kernel
theorem d_AdjoinedSetsModel_goOn_86 : decode b_AdjoinedSetsModel_goOn 86 = .ok (.getfield 48, 3) := by decide +kernel
theorem d_AdjoinedSetsModel_goOn_89 : decode b_AdjoinedSetsModel_goOn 89 = .ok (.iload_n 1, 1) := by decide +kernel
theorem d_AdjoinedSetsModel_goOn_90 : decode b_AdjoinedSetsModel_goOn 90 = .ok (.iaload, 1) := by decide +kernel
theorem d_AdjoinedSetsModel_goOn_91 : decode b_AdjoinedSetsModel_goOn 91 = .ok (.invokevirtual 212, 3) := by decide +kernel
theorem d_AdjoinedSetsModel_goOn_94 : decode b_AdjoinedSetsModel_goOn 94 = .ok (.goto 50, 3) := by decide +kernel
theorem d_AdjoinedSetsModel_goOn_97 : decode b_AdjoinedSetsModel_goOn 97 = .ok (.iload_n 2, 1) := by decide +kernel
theorem d_AdjoinedSetsModel_goOn_98 : decode b_AdjoinedSetsModel_goOn 98 = .ok (.invokestatic 103, 3) := by decide +kernel
theorem d_AdjoinedSetsModel_goOn_101 : decode b_AdjoinedSetsModel_goOn 101 = .ok (.ifCond .eq 22, 3) := by decide +kernel
theorem d_AdjoinedSetsModel_goOn_104 : decode b_AdjoinedSetsModel_goOn 104 = .ok (.aload_n 0, 1) := by decide +kernel
theorem d_AdjoinedSetsModel_goOn_105 : decode b_AdjoinedSetsModel_goOn 105 = .ok (.sipush 1100, 3) := by decide +kernel
theorem d_AdjoinedSetsModel_goOn_108 : decode b_AdjoinedSetsModel_goOn 108 = .ok (.bipush 60, 2) := by decide +kernel
theorem d_AdjoinedSetsModel_goOn_110 : decode b_AdjoinedSetsModel_goOn 110 = .ok (.iload_n 2, 1) := by decide +kernel
theorem d_AdjoinedSetsModel_goOn_111 : decode b_AdjoinedSetsModel_goOn 111 = .ok (.bipush 65, 2) := by decide +kernel
theorem d_AdjoinedSetsModel_goOn_113 : decode b_AdjoinedSetsModel_goOn 113 = .ok (.isub, 1) := by decide +kernel
theorem d_AdjoinedSetsModel_goOn_114 : decode b_AdjoinedSetsModel_goOn 114 = .ok (.imul, 1) := by decide +kernel
theorem d_AdjoinedSetsModel_goOn_115 : decode b_AdjoinedSetsModel_goOn 115 = .ok (.iadd, 1) := by decide +kernel
theorem d_AdjoinedSetsModel_goOn_116 : decode b_AdjoinedSetsModel_goOn 116 = .ok (.iload_n 1, 1) := by decide +kernel
theorem d_AdjoinedSetsModel_goOn_117 : decode b_AdjoinedSetsModel_goOn 117 = .ok (.invokevirtual 212, 3) := by decide +kernel
theorem d_AdjoinedSetsModel_goOn_120 : decode b_AdjoinedSetsModel_goOn 120 = .ok (.goto 24, 3) := by decide +kernel
theorem d_AdjoinedSetsModel_goOn_123 : decode b_AdjoinedSetsModel_goOn 123 = .ok (.aload_n 0, 1) := by decide +kernel
theorem d_AdjoinedSetsModel_goOn_124 : decode b_AdjoinedSetsModel_goOn 124 = .ok (.aload_n 0, 1) := by decide +kernel
theorem d_AdjoinedSetsModel_goOn_125 : decode b_AdjoinedSetsModel_goOn 125 = .ok (.iload_n 2, 1) := by decide +kernel
theorem d_AdjoinedSetsModel_goOn_126 : decode b_AdjoinedSetsModel_goOn 126 = .ok (.aload_n 0, 1) := by decide +kernel
theorem d_AdjoinedSetsModel_goOn_127 : decode b_AdjoinedSetsModel_goOn 127 = .ok (.getfield 57, 3) := by decide +kernel
theorem d_AdjoinedSetsModel_goOn_130 : decode b_AdjoinedSetsModel_goOn 130 = .ok (.iload_n 1, 1) := by decide +kernel
theorem d_AdjoinedSetsModel_goOn_131 : decode b_AdjoinedSetsModel_goOn 131 = .ok (.laload, 1) := by decide +kernel
theorem d_AdjoinedSetsModel_goOn_132 : decode b_AdjoinedSetsModel_goOn 132 = .ok (.aload_n 0, 1) := by decide +kernel
theorem d_AdjoinedSetsModel_goOn_133 : decode b_AdjoinedSetsModel_goOn 133 = .ok (.getfield 60, 3) := by decide +kernel
theorem d_AdjoinedSetsModel_goOn_136 : decode b_AdjoinedSetsModel_goOn 136 = .ok (.iload_n 1, 1) := by decide +kernel
theorem d_AdjoinedSetsModel_goOn_137 : decode b_AdjoinedSetsModel_goOn 137 = .ok (.laload, 1) := by decide +kernel
theorem d_AdjoinedSetsModel_goOn_138 : decode b_AdjoinedSetsModel_goOn 138 = .ok (.invokevirtual 216, 3) := by decide +kernel
theorem d_AdjoinedSetsModel_goOn_141 : decode b_AdjoinedSetsModel_goOn 141 = .ok (.invokevirtual 200, 3) := by decide +kernel
theorem d_AdjoinedSetsModel_goOn_144 : decode b_AdjoinedSetsModel_goOn 144 = .ok (.return_, 1) := by decide +kernel
def s_AdjoinedSetsModel_goOn (x0 : Nat) (x1 : Int32) (x2 : Int32) (h : HP) : Option (HP) :=
  (kd x0 9).bind fun _ =>
  (s_AdjoinedSetsModel_partsOf x0 x2 h).bind fun q2 =>
  (s_AdjoinedSetsModel_isDigit x2).bind fun q4 =>
  if q4 = 0 then (
    (s_AdjoinedSetsModel_isLow x2).bind fun q6 =>
    if q6 = 0 then (
      (s_AdjoinedSetsModel_isBinder x2).bind fun q8 =>
      if q8 = 0 then (
        (gR h x0 9 20).bind fun v10 =>
        (aI h v10 0 x1).bind fun v12 =>
        if q2 ≤ v12 then (
          (s_AdjoinedSetsModel_isFunction x2).bind fun q14 =>
          if q14 = 0 then (
            (gR h x0 9 22).bind fun v16 =>
            (aL h v16 2 x1).bind fun v18 =>
            (gR h x0 9 23).bind fun v20 =>
            (aL h v20 2 x1).bind fun v22 =>
            (kd x0 9).bind fun _ =>
            (s_AdjoinedSetsModel_combine x0 x2 v18 v22 h).bind fun q25 =>
            (kd x0 9).bind fun _ =>
            (s_AdjoinedSetsModel_finish x0 q25.1 q25.2).bind fun q28 =>
            some q28)
          else (
            (kd x0 9).bind fun _ =>
            (s_AdjoinedSetsModel_push x0 (1100 + (60 * (x2 - 65))) x1 h).bind fun q31 =>
            some q31))
        else (
          (gR h x0 9 21).bind fun v33 =>
          (aI h v33 0 x1).bind fun v35 =>
          (gR h x0 9 19).bind fun v37 =>
          (aI h v37 0 x1).bind fun v39 =>
          (kd x0 9).bind fun _ =>
          (s_AdjoinedSetsModel_push x0 v35 v39 h).bind fun q42 =>
          some q42))
      else (
        (kd x0 9).bind fun _ =>
        (s_AdjoinedSetsModel_bind x0 x1 h).bind fun q45 =>
        some q45))
    else (
      (gR h x0 9 19).bind fun v47 =>
      (aI h v47 0 x1).bind fun v49 =>
      (kd x0 9).bind fun _ =>
      (s_AdjoinedSetsModel_valueOf x0 (x2 - 97) v49 h).bind fun q52 =>
      (kd x0 9).bind fun _ =>
      (s_AdjoinedSetsModel_finish x0 q52 h).bind fun q55 =>
      some q55))
  else (
    (kd x0 9).bind fun _ =>
    (s_AdjoinedSetsModel_finish x0 ((x2 - 48).toInt64) h).bind fun q58 =>
    some q58)
set_option maxHeartbeats 4000000 in
set_option maxRecDepth 100000 in
theorem c_AdjoinedSetsModel_goOn (l : Launch) (g : GG) {x0 : Nat} {x1 : Int32} {x2 : Int32} {h : HP} {z : HP} (hs : s_AdjoinedSetsModel_goOn x0 x1 x2 h = some z) : Ct l g y_AdjoinedSetsModel_goOn w_AdjoinedSetsModel_goOn (rmS 4 86) [.ref (aD g x0), .int x1, .int x2] h none z := by
  refine Ct.of (own := R_AdjoinedSetsModel) (by decide) rfl rfl (Nat.le_of_ble_eq_true rfl) ?_
  intro p e s m args below meth c ls C hl hw
  have hx := C.1
  have hb := C.2.1
  have hl : lv_has ls 4 [(0, .ref (aD g x0)), (1, .int x1), (2, .int x2)] := hl
  unfold s_AdjoinedSetsModel_goOn at hs
  refine lv_aload_n hx hb d_AdjoinedSetsModel_goOn_0 rfl (lv_at hl 0 rfl) ?_
  refine lv_iload_n hx hb d_AdjoinedSetsModel_goOn_1 rfl (lv_at hl 2 rfl) ?_
  obtain ⟨_, e1, hs⟩ := ob hs
  obtain ⟨q2, e3, hs⟩ := ob hs
  refine pg_callV C hw hl.1 ml_AdjoinedSetsModel_118 e1 (As := [.int x2]) (rest := []) (c_AdjoinedSetsModel_partsOf l g e3) rfl (rm_ok (Nat.le_of_ble_eq_true rfl) (Nat.le_of_ble_eq_true rfl)) (Nat.le_of_ble_eq_true rfl) rfl (st1 := [.int q2]) rfl d_AdjoinedSetsModel_goOn_2 (fun H locs hw => ?_)
  refine lv_istore_n hx hb d_AdjoinedSetsModel_goOn_5 rfl hl (by decide) (lv' := [(3, .int q2), (0, .ref (aD g x0)), (1, .int x1), (2, .int x2)]) rfl (fun ls hl => ?_)
  refine lv_iload_n hx hb d_AdjoinedSetsModel_goOn_6 rfl (lv_at hl 3 rfl) ?_
  obtain ⟨q4, e5, hs⟩ := ob hs
  refine pg_callS C hw hl.1 ml_AdjoinedSetsModel_96 (As := [.int x2]) (rest := []) (c_AdjoinedSetsModel_isDigit l g e5) rfl (rm_ok (Nat.le_of_ble_eq_true rfl) (Nat.le_of_ble_eq_true rfl)) (Nat.le_of_ble_eq_true rfl) rfl (st1 := [.int q4]) rfl d_AdjoinedSetsModel_goOn_7 (fun H locs hw => ?_)
  refine lv_if_eq hx hb d_AdjoinedSetsModel_goOn_10 (tgt := 25) (by decide) (fun hc => ?_) (fun hc => ?_)
  · have hs := oi_t hc hs
    refine lv_iload_n hx hb d_AdjoinedSetsModel_goOn_25 rfl (lv_at hl 3 rfl) ?_
    obtain ⟨q6, e7, hs⟩ := ob hs
    refine pg_callS C hw hl.1 ml_AdjoinedSetsModel_100 (As := [.int x2]) (rest := []) (c_AdjoinedSetsModel_isLow l g e7) rfl (rm_ok (Nat.le_of_ble_eq_true rfl) (Nat.le_of_ble_eq_true rfl)) (Nat.le_of_ble_eq_true rfl) rfl (st1 := [.int q6]) rfl d_AdjoinedSetsModel_goOn_26 (fun H locs hw => ?_)
    refine lv_if_eq hx hb d_AdjoinedSetsModel_goOn_29 (tgt := 53) (by decide) (fun hc => ?_) (fun hc => ?_)
    · have hs := oi_t hc hs
      refine lv_iload_n hx hb d_AdjoinedSetsModel_goOn_53 rfl (lv_at hl 3 rfl) ?_
      obtain ⟨q8, e9, hs⟩ := ob hs
      refine pg_callS C hw hl.1 ml_AdjoinedSetsModel_115 (As := [.int x2]) (rest := []) (c_AdjoinedSetsModel_isBinder l g e9) rfl (rm_ok (Nat.le_of_ble_eq_true rfl) (Nat.le_of_ble_eq_true rfl)) (Nat.le_of_ble_eq_true rfl) rfl (st1 := [.int q8]) rfl d_AdjoinedSetsModel_goOn_54 (fun H locs hw => ?_)
      refine lv_if_eq hx hb d_AdjoinedSetsModel_goOn_57 (tgt := 68) (by decide) (fun hc => ?_) (fun hc => ?_)
      · have hs := oi_t hc hs
        refine lv_aload_n hx hb d_AdjoinedSetsModel_goOn_68 rfl (lv_at hl 1 rfl) ?_
        obtain ⟨v10, e11, hs⟩ := ob hs
        refine pg_getR C hw fl_AdjoinedSetsModel_51 e11 d_AdjoinedSetsModel_goOn_69 ?_
        refine lv_iload_n hx hb d_AdjoinedSetsModel_goOn_72 rfl (lv_at hl 2 rfl) ?_
        obtain ⟨v12, e13, hs⟩ := ob hs
        refine pg_iaload C hw (t0 := 0) rfl e13 d_AdjoinedSetsModel_goOn_73 ?_
        refine lv_iload_n hx hb d_AdjoinedSetsModel_goOn_74 rfl (lv_at hl 0 rfl) ?_
        refine lv_icmp_ge hx hb d_AdjoinedSetsModel_goOn_75 (tgt := 97) (by decide) (fun hc => ?_) (fun hc => ?_)
        · have hs := oi_t hc hs
          refine lv_iload_n hx hb d_AdjoinedSetsModel_goOn_97 rfl (lv_at hl 3 rfl) ?_
          obtain ⟨q14, e15, hs⟩ := ob hs
          refine pg_callS C hw hl.1 ml_AdjoinedSetsModel_103 (As := [.int x2]) (rest := []) (c_AdjoinedSetsModel_isFunction l g e15) rfl (rm_ok (Nat.le_of_ble_eq_true rfl) (Nat.le_of_ble_eq_true rfl)) (Nat.le_of_ble_eq_true rfl) rfl (st1 := [.int q14]) rfl d_AdjoinedSetsModel_goOn_98 (fun H locs hw => ?_)
          refine lv_if_eq hx hb d_AdjoinedSetsModel_goOn_101 (tgt := 123) (by decide) (fun hc => ?_) (fun hc => ?_)
          · have hs := oi_t hc hs
            refine lv_aload_n hx hb d_AdjoinedSetsModel_goOn_123 rfl (lv_at hl 1 rfl) ?_
            refine lv_aload_n hx hb d_AdjoinedSetsModel_goOn_124 rfl (lv_at hl 1 rfl) ?_
            refine lv_iload_n hx hb d_AdjoinedSetsModel_goOn_125 rfl (lv_at hl 3 rfl) ?_
            refine lv_aload_n hx hb d_AdjoinedSetsModel_goOn_126 rfl (lv_at hl 1 rfl) ?_
            obtain ⟨v16, e17, hs⟩ := ob hs
            refine pg_getR C hw fl_AdjoinedSetsModel_57 e17 d_AdjoinedSetsModel_goOn_127 ?_
            refine lv_iload_n hx hb d_AdjoinedSetsModel_goOn_130 rfl (lv_at hl 2 rfl) ?_
            obtain ⟨v18, e19, hs⟩ := ob hs
            refine pg_laload C hw (t0 := 2) rfl e19 d_AdjoinedSetsModel_goOn_131 ?_
            refine lv_aload_n hx hb d_AdjoinedSetsModel_goOn_132 rfl (lv_at hl 1 rfl) ?_
            obtain ⟨v20, e21, hs⟩ := ob hs
            refine pg_getR C hw fl_AdjoinedSetsModel_60 e21 d_AdjoinedSetsModel_goOn_133 ?_
            refine lv_iload_n hx hb d_AdjoinedSetsModel_goOn_136 rfl (lv_at hl 2 rfl) ?_
            obtain ⟨v22, e23, hs⟩ := ob hs
            refine pg_laload C hw (t0 := 2) rfl e23 d_AdjoinedSetsModel_goOn_137 ?_
            obtain ⟨_, e24, hs⟩ := ob hs
            obtain ⟨q25, e26, hs⟩ := ob hs
            refine pg_callV C hw hl.1 ml_AdjoinedSetsModel_216 e24 (As := [.int x2, .long v18, .long v22]) (rest := [.ref (aD g x0)]) (c_AdjoinedSetsModel_combine l g e26) rfl (rm_ok (Nat.le_of_ble_eq_true rfl) (Nat.le_of_ble_eq_true rfl)) (Nat.le_of_ble_eq_true rfl) rfl (st1 := [.long q25.1, .ref (aD g x0)]) rfl d_AdjoinedSetsModel_goOn_138 (fun H locs hw => ?_)
            obtain ⟨_, e27, hs⟩ := ob hs
            obtain ⟨q28, e29, hs⟩ := ob hs
            refine pg_callV C hw hl.1 ml_AdjoinedSetsModel_200 e27 (As := [.long q25.1]) (rest := []) (c_AdjoinedSetsModel_finish l g e29) rfl (rm_ok (Nat.le_of_ble_eq_true rfl) (Nat.le_of_ble_eq_true rfl)) (Nat.le_of_ble_eq_true rfl) rfl (st1 := []) rfl d_AdjoinedSetsModel_goOn_141 (fun H locs hw => ?_)
            obtain rfl := Option.some.inj hs
            exact pg_vret C hw d_AdjoinedSetsModel_goOn_144
          · have hs := oi_f hc hs
            refine lv_aload_n hx hb d_AdjoinedSetsModel_goOn_104 rfl (lv_at hl 1 rfl) ?_
            refine lv_sipush (v := 1100) hx hb d_AdjoinedSetsModel_goOn_105 (by decide) ?_
            refine lv_bipush (v := 60) hx hb d_AdjoinedSetsModel_goOn_108 (by decide) ?_
            refine lv_iload_n hx hb d_AdjoinedSetsModel_goOn_110 rfl (lv_at hl 3 rfl) ?_
            refine lv_bipush (v := 65) hx hb d_AdjoinedSetsModel_goOn_111 (by decide) ?_
            refine lv_isub hx hb d_AdjoinedSetsModel_goOn_113 ?_
            refine lv_imul hx hb d_AdjoinedSetsModel_goOn_114 ?_
            refine lv_iadd hx hb d_AdjoinedSetsModel_goOn_115 ?_
            refine lv_iload_n hx hb d_AdjoinedSetsModel_goOn_116 rfl (lv_at hl 2 rfl) ?_
            obtain ⟨_, e30, hs⟩ := ob hs
            obtain ⟨q31, e32, hs⟩ := ob hs
            refine pg_callV C hw hl.1 ml_AdjoinedSetsModel_212 e30 (As := [.int (1100 + (60 * (x2 - 65))), .int x1]) (rest := []) (c_AdjoinedSetsModel_push l g e32) rfl (rm_ok (Nat.le_of_ble_eq_true rfl) (Nat.le_of_ble_eq_true rfl)) (Nat.le_of_ble_eq_true rfl) rfl (st1 := []) rfl d_AdjoinedSetsModel_goOn_117 (fun H locs hw => ?_)
            refine lv_goto hx hb d_AdjoinedSetsModel_goOn_120 (tgt := 144) (by decide) ?_
            obtain rfl := Option.some.inj hs
            exact pg_vret C hw d_AdjoinedSetsModel_goOn_144
        · have hs := oi_f hc hs
          refine lv_aload_n hx hb d_AdjoinedSetsModel_goOn_78 rfl (lv_at hl 1 rfl) ?_
          refine lv_aload_n hx hb d_AdjoinedSetsModel_goOn_79 rfl (lv_at hl 1 rfl) ?_
          obtain ⟨v33, e34, hs⟩ := ob hs
          refine pg_getR C hw fl_AdjoinedSetsModel_54 e34 d_AdjoinedSetsModel_goOn_80 ?_
          refine lv_iload_n hx hb d_AdjoinedSetsModel_goOn_83 rfl (lv_at hl 2 rfl) ?_
          obtain ⟨v35, e36, hs⟩ := ob hs
          refine pg_iaload C hw (t0 := 0) rfl e36 d_AdjoinedSetsModel_goOn_84 ?_
          refine lv_aload_n hx hb d_AdjoinedSetsModel_goOn_85 rfl (lv_at hl 1 rfl) ?_
          obtain ⟨v37, e38, hs⟩ := ob hs
          refine pg_getR C hw fl_AdjoinedSetsModel_48 e38 d_AdjoinedSetsModel_goOn_86 ?_
          refine lv_iload_n hx hb d_AdjoinedSetsModel_goOn_89 rfl (lv_at hl 2 rfl) ?_
          obtain ⟨v39, e40, hs⟩ := ob hs
          refine pg_iaload C hw (t0 := 0) rfl e40 d_AdjoinedSetsModel_goOn_90 ?_
          obtain ⟨_, e41, hs⟩ := ob hs
          obtain ⟨q42, e43, hs⟩ := ob hs
          refine pg_callV C hw hl.1 ml_AdjoinedSetsModel_212 e41 (As := [.int v35, .int v39]) (rest := []) (c_AdjoinedSetsModel_push l g e43) rfl (rm_ok (Nat.le_of_ble_eq_true rfl) (Nat.le_of_ble_eq_true rfl)) (Nat.le_of_ble_eq_true rfl) rfl (st1 := []) rfl d_AdjoinedSetsModel_goOn_91 (fun H locs hw => ?_)
          refine lv_goto hx hb d_AdjoinedSetsModel_goOn_94 (tgt := 144) (by decide) ?_
          obtain rfl := Option.some.inj hs
          exact pg_vret C hw d_AdjoinedSetsModel_goOn_144
      · have hs := oi_f hc hs
        refine lv_aload_n hx hb d_AdjoinedSetsModel_goOn_60 rfl (lv_at hl 1 rfl) ?_
        refine lv_iload_n hx hb d_AdjoinedSetsModel_goOn_61 rfl (lv_at hl 2 rfl) ?_
        obtain ⟨_, e44, hs⟩ := ob hs
        obtain ⟨q45, e46, hs⟩ := ob hs
        refine pg_callV C hw hl.1 ml_AdjoinedSetsModel_208 e44 (As := [.int x1]) (rest := []) (c_AdjoinedSetsModel_bind l g e46) rfl (rm_ok (Nat.le_of_ble_eq_true rfl) (Nat.le_of_ble_eq_true rfl)) (Nat.le_of_ble_eq_true rfl) rfl (st1 := []) rfl d_AdjoinedSetsModel_goOn_62 (fun H locs hw => ?_)
        refine lv_goto hx hb d_AdjoinedSetsModel_goOn_65 (tgt := 144) (by decide) ?_
        obtain rfl := Option.some.inj hs
        exact pg_vret C hw d_AdjoinedSetsModel_goOn_144
    · have hs := oi_f hc hs
      refine lv_aload_n hx hb d_AdjoinedSetsModel_goOn_32 rfl (lv_at hl 1 rfl) ?_
      refine lv_aload_n hx hb d_AdjoinedSetsModel_goOn_33 rfl (lv_at hl 1 rfl) ?_
      refine lv_iload_n hx hb d_AdjoinedSetsModel_goOn_34 rfl (lv_at hl 3 rfl) ?_
      refine lv_bipush (v := 97) hx hb d_AdjoinedSetsModel_goOn_35 (by decide) ?_
      refine lv_isub hx hb d_AdjoinedSetsModel_goOn_37 ?_
      refine lv_aload_n hx hb d_AdjoinedSetsModel_goOn_38 rfl (lv_at hl 1 rfl) ?_
      obtain ⟨v47, e48, hs⟩ := ob hs
      refine pg_getR C hw fl_AdjoinedSetsModel_48 e48 d_AdjoinedSetsModel_goOn_39 ?_
      refine lv_iload_n hx hb d_AdjoinedSetsModel_goOn_42 rfl (lv_at hl 2 rfl) ?_
      obtain ⟨v49, e50, hs⟩ := ob hs
      refine pg_iaload C hw (t0 := 0) rfl e50 d_AdjoinedSetsModel_goOn_43 ?_
      obtain ⟨_, e51, hs⟩ := ob hs
      obtain ⟨q52, e53, hs⟩ := ob hs
      refine pg_callV C hw hl.1 ml_AdjoinedSetsModel_204 e51 (As := [.int (x2 - 97), .int v49]) (rest := [.ref (aD g x0)]) (c_AdjoinedSetsModel_valueOf l g e53) rfl (rm_ok (Nat.le_of_ble_eq_true rfl) (Nat.le_of_ble_eq_true rfl)) (Nat.le_of_ble_eq_true rfl) rfl (st1 := [.long q52, .ref (aD g x0)]) rfl d_AdjoinedSetsModel_goOn_44 (fun H locs hw => ?_)
      obtain ⟨_, e54, hs⟩ := ob hs
      obtain ⟨q55, e56, hs⟩ := ob hs
      refine pg_callV C hw hl.1 ml_AdjoinedSetsModel_200 e54 (As := [.long q52]) (rest := []) (c_AdjoinedSetsModel_finish l g e56) rfl (rm_ok (Nat.le_of_ble_eq_true rfl) (Nat.le_of_ble_eq_true rfl)) (Nat.le_of_ble_eq_true rfl) rfl (st1 := []) rfl d_AdjoinedSetsModel_goOn_47 (fun H locs hw => ?_)
      refine lv_goto hx hb d_AdjoinedSetsModel_goOn_50 (tgt := 144) (by decide) ?_
      obtain rfl := Option.some.inj hs
      exact pg_vret C hw d_AdjoinedSetsModel_goOn_144
  · have hs := oi_f hc hs
    refine lv_aload_n hx hb d_AdjoinedSetsModel_goOn_13 rfl (lv_at hl 1 rfl) ?_
    refine lv_iload_n hx hb d_AdjoinedSetsModel_goOn_14 rfl (lv_at hl 3 rfl) ?_
    refine lv_bipush (v := 48) hx hb d_AdjoinedSetsModel_goOn_15 (by decide) ?_
    refine lv_isub hx hb d_AdjoinedSetsModel_goOn_17 ?_
    refine lv_i2l (v := (x2 - 48).toInt64) hx hb d_AdjoinedSetsModel_goOn_18 rfl ?_
    obtain ⟨_, e57, hs⟩ := ob hs
    obtain ⟨q58, e59, hs⟩ := ob hs
    refine pg_callV C hw hl.1 ml_AdjoinedSetsModel_200 e57 (As := [.long ((x2 - 48).toInt64)]) (rest := []) (c_AdjoinedSetsModel_finish l g e59) rfl (rm_ok (Nat.le_of_ble_eq_true rfl) (Nat.le_of_ble_eq_true rfl)) (Nat.le_of_ble_eq_true rfl) rfl (st1 := []) rfl d_AdjoinedSetsModel_goOn_19 (fun H locs hw => ?_)
    refine lv_goto hx hb d_AdjoinedSetsModel_goOn_22 (tgt := 144) (by decide) ?_
    obtain rfl := Option.some.inj hs
    exact pg_vret C hw d_AdjoinedSetsModel_goOn_144

end
