section
variable {p : Program} {l : Launch} {e : Env} {s : State} {m : MethodId} {args : Array Value} {below : List Frame} {meth : Method} {c : Code} {g : GG}
theorem d_Rules_formOf_0 : decode b_Rules_formOf 0 = .ok (.iload_n 0, 1) := by decide +kernel
theorem d_Rules_formOf_1 : decode b_Rules_formOf 1 = .ok (.tableswitch 122 1 17 #[83, 86, 89, 92, 95, 98, 101, 104, 122, 122, 107, 122, 122, 110, 113, 116, 119], 83) := by decide +kernel
theorem d_Rules_formOf_84 : decode b_Rules_formOf 84 = .ok (.ldc 99, 2) := by decide +kernel
theorem d_Rules_formOf_86 : decode b_Rules_formOf 86 = .ok (.areturn, 1) := by decide +kernel
theorem d_Rules_formOf_87 : decode b_Rules_formOf 87 = .ok (.ldc 101, 2) := by decide +kernel
theorem d_Rules_formOf_89 : decode b_Rules_formOf 89 = .ok (.areturn, 1) := by decide +kernel
theorem d_Rules_formOf_90 : decode b_Rules_formOf 90 = .ok (.ldc 103, 2) := by decide +kernel
theorem d_Rules_formOf_92 : decode b_Rules_formOf 92 = .ok (.areturn, 1) := by decide +kernel
theorem d_Rules_formOf_93 : decode b_Rules_formOf 93 = .ok (.ldc 105, 2) := by decide +kernel
theorem d_Rules_formOf_95 : decode b_Rules_formOf 95 = .ok (.areturn, 1) := by decide +kernel
theorem d_Rules_formOf_96 : decode b_Rules_formOf 96 = .ok (.ldc 107, 2) := by decide +kernel
theorem d_Rules_formOf_98 : decode b_Rules_formOf 98 = .ok (.areturn, 1) := by decide +kernel
theorem d_Rules_formOf_99 : decode b_Rules_formOf 99 = .ok (.ldc 109, 2) := by decide +kernel
theorem d_Rules_formOf_101 : decode b_Rules_formOf 101 = .ok (.areturn, 1) := by decide +kernel
theorem d_Rules_formOf_102 : decode b_Rules_formOf 102 = .ok (.ldc 111, 2) := by decide +kernel
theorem d_Rules_formOf_104 : decode b_Rules_formOf 104 = .ok (.areturn, 1) := by decide +kernel
theorem d_Rules_formOf_105 : decode b_Rules_formOf 105 = .ok (.ldc 113, 2) := by decide +kernel
theorem d_Rules_formOf_107 : decode b_Rules_formOf 107 = .ok (.areturn, 1) := by decide +kernel
theorem d_Rules_formOf_108 : decode b_Rules_formOf 108 = .ok (.ldc 115, 2) := by decide +kernel
theorem d_Rules_formOf_110 : decode b_Rules_formOf 110 = .ok (.areturn, 1) := by decide +kernel
theorem d_Rules_formOf_111 : decode b_Rules_formOf 111 = .ok (.ldc 117, 2) := by decide +kernel
theorem d_Rules_formOf_113 : decode b_Rules_formOf 113 = .ok (.areturn, 1) := by decide +kernel
theorem d_Rules_formOf_114 : decode b_Rules_formOf 114 = .ok (.ldc 119, 2) := by decide +kernel
theorem d_Rules_formOf_116 : decode b_Rules_formOf 116 = .ok (.areturn, 1) := by decide +kernel
theorem d_Rules_formOf_117 : decode b_Rules_formOf 117 = .ok (.ldc 121, 2) := by decide +kernel
theorem d_Rules_formOf_119 : decode b_Rules_formOf 119 = .ok (.areturn, 1) := by decide +kernel
theorem d_Rules_formOf_120 : decode b_Rules_formOf 120 = .ok (.ldc 123, 2) := by decide +kernel
theorem d_Rules_formOf_122 : decode b_Rules_formOf 122 = .ok (.areturn, 1) := by decide +kernel
theorem d_Rules_formOf_123 : decode b_Rules_formOf 123 = .ok (.ldc 125, 2) := by decide +kernel
theorem d_Rules_formOf_125 : decode b_Rules_formOf 125 = .ok (.areturn, 1) := by decide +kernel
def s_Rules_formOf (x0 : Int32) : Option (Nat) :=
  if x0 = 1 then (
    some 1)
  else (
  if x0 = 2 then (
    some 2)
  else (
  if x0 = 3 then (
    some 3)
  else (
  if x0 = 4 then (
    some 4)
  else (
  if x0 = 5 then (
    some 5)
  else (
  if x0 = 6 then (
    some 6)
  else (
  if x0 = 7 then (
    some 7)
  else (
  if x0 = 8 then (
    some 8)
  else (
  if x0 = 9 then (
    some 14)
  else (
  if x0 = 10 then (
    some 14)
  else (
  if x0 = 11 then (
    some 9)
  else (
  if x0 = 12 then (
    some 14)
  else (
  if x0 = 13 then (
    some 14)
  else (
  if x0 = 14 then (
    some 10)
  else (
  if x0 = 15 then (
    some 11)
  else (
  if x0 = 16 then (
    some 12)
  else (
  if x0 = 17 then (
    some 13)
  else (
    some 14)))))))))))))))))
set_option maxHeartbeats 4000000 in
set_option maxRecDepth 100000 in
theorem c_Rules_formOf (l : Launch) (g : GG) {h : HP} {x0 : Int32} {z : Nat} (hs : s_Rules_formOf x0 = some z) : Ct l g y_Rules_formOf w_Rules_formOf (rmS 0 0) [.int x0] h (some (.ref (sK g z))) h := by
  refine Ct.of (own := R_Rules) (by decide) rfl rfl (Nat.le_of_ble_eq_true rfl) ?_
  intro p e s m args below meth c ls C hl hw
  have hx := C.1
  have hb := C.2.1
  have hl : lv_has ls 1 [(0, .int x0)] := hl
  unfold s_Rules_formOf at hs
  refine lv_iload_n hx hb d_Rules_formOf_0 rfl (lv_at hl 0 rfl) ?_
  refine by_c (fun (hk0 : x0 = 1) => ?_) (fun (hk0 : ¬ x0 = 1) => ?_)
  · have hs := oi_t hk0 hs
    refine lv_tableIn hx hb d_Rules_formOf_1 (by rw [hk0]; decide) (by rw [hk0]; decide) (off := 83) (by rw [hk0]; decide) (tgt := 84) (by decide) ?_
    refine pg_ldcS (i := 1) C (Nat.le_of_ble_eq_true rfl) rfl rfl d_Rules_formOf_84 ?_
    obtain rfl := Option.some.inj hs
    exact pg_aret C hw (by first | exact Or.inl ⟨_, rfl⟩ | exact Or.inr ⟨_, rfl⟩) d_Rules_formOf_86
  have hs := oi_f hk0 hs
  refine by_c (fun (hk1 : x0 = 2) => ?_) (fun (hk1 : ¬ x0 = 2) => ?_)
  · have hs := oi_t hk1 hs
    refine lv_tableIn hx hb d_Rules_formOf_1 (by rw [hk1]; decide) (by rw [hk1]; decide) (off := 86) (by rw [hk1]; decide) (tgt := 87) (by decide) ?_
    refine pg_ldcS (i := 2) C (Nat.le_of_ble_eq_true rfl) rfl rfl d_Rules_formOf_87 ?_
    obtain rfl := Option.some.inj hs
    exact pg_aret C hw (by first | exact Or.inl ⟨_, rfl⟩ | exact Or.inr ⟨_, rfl⟩) d_Rules_formOf_89
  have hs := oi_f hk1 hs
  refine by_c (fun (hk2 : x0 = 3) => ?_) (fun (hk2 : ¬ x0 = 3) => ?_)
  · have hs := oi_t hk2 hs
    refine lv_tableIn hx hb d_Rules_formOf_1 (by rw [hk2]; decide) (by rw [hk2]; decide) (off := 89) (by rw [hk2]; decide) (tgt := 90) (by decide) ?_
    refine pg_ldcS (i := 3) C (Nat.le_of_ble_eq_true rfl) rfl rfl d_Rules_formOf_90 ?_
    obtain rfl := Option.some.inj hs
    exact pg_aret C hw (by first | exact Or.inl ⟨_, rfl⟩ | exact Or.inr ⟨_, rfl⟩) d_Rules_formOf_92
  have hs := oi_f hk2 hs
  refine by_c (fun (hk3 : x0 = 4) => ?_) (fun (hk3 : ¬ x0 = 4) => ?_)
  · have hs := oi_t hk3 hs
    refine lv_tableIn hx hb d_Rules_formOf_1 (by rw [hk3]; decide) (by rw [hk3]; decide) (off := 92) (by rw [hk3]; decide) (tgt := 93) (by decide) ?_
    refine pg_ldcS (i := 4) C (Nat.le_of_ble_eq_true rfl) rfl rfl d_Rules_formOf_93 ?_
    obtain rfl := Option.some.inj hs
    exact pg_aret C hw (by first | exact Or.inl ⟨_, rfl⟩ | exact Or.inr ⟨_, rfl⟩) d_Rules_formOf_95
  have hs := oi_f hk3 hs
  refine by_c (fun (hk4 : x0 = 5) => ?_) (fun (hk4 : ¬ x0 = 5) => ?_)
  · have hs := oi_t hk4 hs
    refine lv_tableIn hx hb d_Rules_formOf_1 (by rw [hk4]; decide) (by rw [hk4]; decide) (off := 95) (by rw [hk4]; decide) (tgt := 96) (by decide) ?_
    refine pg_ldcS (i := 5) C (Nat.le_of_ble_eq_true rfl) rfl rfl d_Rules_formOf_96 ?_
    obtain rfl := Option.some.inj hs
    exact pg_aret C hw (by first | exact Or.inl ⟨_, rfl⟩ | exact Or.inr ⟨_, rfl⟩) d_Rules_formOf_98
  have hs := oi_f hk4 hs
  refine by_c (fun (hk5 : x0 = 6) => ?_) (fun (hk5 : ¬ x0 = 6) => ?_)
  · have hs := oi_t hk5 hs
    refine lv_tableIn hx hb d_Rules_formOf_1 (by rw [hk5]; decide) (by rw [hk5]; decide) (off := 98) (by rw [hk5]; decide) (tgt := 99) (by decide) ?_
    refine pg_ldcS (i := 6) C (Nat.le_of_ble_eq_true rfl) rfl rfl d_Rules_formOf_99 ?_
    obtain rfl := Option.some.inj hs
    exact pg_aret C hw (by first | exact Or.inl ⟨_, rfl⟩ | exact Or.inr ⟨_, rfl⟩) d_Rules_formOf_101
  have hs := oi_f hk5 hs
  refine by_c (fun (hk6 : x0 = 7) => ?_) (fun (hk6 : ¬ x0 = 7) => ?_)
  · have hs := oi_t hk6 hs
    refine lv_tableIn hx hb d_Rules_formOf_1 (by rw [hk6]; decide) (by rw [hk6]; decide) (off := 101) (by rw [hk6]; decide) (tgt := 102) (by decide) ?_
    refine pg_ldcS (i := 7) C (Nat.le_of_ble_eq_true rfl) rfl rfl d_Rules_formOf_102 ?_
    obtain rfl := Option.some.inj hs
    exact pg_aret C hw (by first | exact Or.inl ⟨_, rfl⟩ | exact Or.inr ⟨_, rfl⟩) d_Rules_formOf_104
  have hs := oi_f hk6 hs
  refine by_c (fun (hk7 : x0 = 8) => ?_) (fun (hk7 : ¬ x0 = 8) => ?_)
  · have hs := oi_t hk7 hs
    refine lv_tableIn hx hb d_Rules_formOf_1 (by rw [hk7]; decide) (by rw [hk7]; decide) (off := 104) (by rw [hk7]; decide) (tgt := 105) (by decide) ?_
    refine pg_ldcS (i := 8) C (Nat.le_of_ble_eq_true rfl) rfl rfl d_Rules_formOf_105 ?_
    obtain rfl := Option.some.inj hs
    exact pg_aret C hw (by first | exact Or.inl ⟨_, rfl⟩ | exact Or.inr ⟨_, rfl⟩) d_Rules_formOf_107
  have hs := oi_f hk7 hs
  refine by_c (fun (hk8 : x0 = 9) => ?_) (fun (hk8 : ¬ x0 = 9) => ?_)
  · have hs := oi_t hk8 hs
    refine lv_tableIn hx hb d_Rules_formOf_1 (by rw [hk8]; decide) (by rw [hk8]; decide) (off := 122) (by rw [hk8]; decide) (tgt := 123) (by decide) ?_
    refine pg_ldcS (i := 14) C (Nat.le_of_ble_eq_true rfl) rfl rfl d_Rules_formOf_123 ?_
    obtain rfl := Option.some.inj hs
    exact pg_aret C hw (by first | exact Or.inl ⟨_, rfl⟩ | exact Or.inr ⟨_, rfl⟩) d_Rules_formOf_125
  have hs := oi_f hk8 hs
  refine by_c (fun (hk9 : x0 = 10) => ?_) (fun (hk9 : ¬ x0 = 10) => ?_)
  · have hs := oi_t hk9 hs
    refine lv_tableIn hx hb d_Rules_formOf_1 (by rw [hk9]; decide) (by rw [hk9]; decide) (off := 122) (by rw [hk9]; decide) (tgt := 123) (by decide) ?_
    refine pg_ldcS (i := 14) C (Nat.le_of_ble_eq_true rfl) rfl rfl d_Rules_formOf_123 ?_
    obtain rfl := Option.some.inj hs
    exact pg_aret C hw (by first | exact Or.inl ⟨_, rfl⟩ | exact Or.inr ⟨_, rfl⟩) d_Rules_formOf_125
  have hs := oi_f hk9 hs
  refine by_c (fun (hk10 : x0 = 11) => ?_) (fun (hk10 : ¬ x0 = 11) => ?_)
  · have hs := oi_t hk10 hs
    refine lv_tableIn hx hb d_Rules_formOf_1 (by rw [hk10]; decide) (by rw [hk10]; decide) (off := 107) (by rw [hk10]; decide) (tgt := 108) (by decide) ?_
    refine pg_ldcS (i := 9) C (Nat.le_of_ble_eq_true rfl) rfl rfl d_Rules_formOf_108 ?_
    obtain rfl := Option.some.inj hs
    exact pg_aret C hw (by first | exact Or.inl ⟨_, rfl⟩ | exact Or.inr ⟨_, rfl⟩) d_Rules_formOf_110
  have hs := oi_f hk10 hs
  refine by_c (fun (hk11 : x0 = 12) => ?_) (fun (hk11 : ¬ x0 = 12) => ?_)
  · have hs := oi_t hk11 hs
    refine lv_tableIn hx hb d_Rules_formOf_1 (by rw [hk11]; decide) (by rw [hk11]; decide) (off := 122) (by rw [hk11]; decide) (tgt := 123) (by decide) ?_
    refine pg_ldcS (i := 14) C (Nat.le_of_ble_eq_true rfl) rfl rfl d_Rules_formOf_123 ?_
    obtain rfl := Option.some.inj hs
    exact pg_aret C hw (by first | exact Or.inl ⟨_, rfl⟩ | exact Or.inr ⟨_, rfl⟩) d_Rules_formOf_125
  have hs := oi_f hk11 hs
  refine by_c (fun (hk12 : x0 = 13) => ?_) (fun (hk12 : ¬ x0 = 13) => ?_)
  · have hs := oi_t hk12 hs
    refine lv_tableIn hx hb d_Rules_formOf_1 (by rw [hk12]; decide) (by rw [hk12]; decide) (off := 122) (by rw [hk12]; decide) (tgt := 123) (by decide) ?_
    refine pg_ldcS (i := 14) C (Nat.le_of_ble_eq_true rfl) rfl rfl d_Rules_formOf_123 ?_
    obtain rfl := Option.some.inj hs
    exact pg_aret C hw (by first | exact Or.inl ⟨_, rfl⟩ | exact Or.inr ⟨_, rfl⟩) d_Rules_formOf_125
  have hs := oi_f hk12 hs
  refine by_c (fun (hk13 : x0 = 14) => ?_) (fun (hk13 : ¬ x0 = 14) => ?_)
  · have hs := oi_t hk13 hs
    refine lv_tableIn hx hb d_Rules_formOf_1 (by rw [hk13]; decide) (by rw [hk13]; decide) (off := 110) (by rw [hk13]; decide) (tgt := 111) (by decide) ?_
    refine pg_ldcS (i := 10) C (Nat.le_of_ble_eq_true rfl) rfl rfl d_Rules_formOf_111 ?_
    obtain rfl := Option.some.inj hs
    exact pg_aret C hw (by first | exact Or.inl ⟨_, rfl⟩ | exact Or.inr ⟨_, rfl⟩) d_Rules_formOf_113
  have hs := oi_f hk13 hs
  refine by_c (fun (hk14 : x0 = 15) => ?_) (fun (hk14 : ¬ x0 = 15) => ?_)
  · have hs := oi_t hk14 hs
    refine lv_tableIn hx hb d_Rules_formOf_1 (by rw [hk14]; decide) (by rw [hk14]; decide) (off := 113) (by rw [hk14]; decide) (tgt := 114) (by decide) ?_
    refine pg_ldcS (i := 11) C (Nat.le_of_ble_eq_true rfl) rfl rfl d_Rules_formOf_114 ?_
    obtain rfl := Option.some.inj hs
    exact pg_aret C hw (by first | exact Or.inl ⟨_, rfl⟩ | exact Or.inr ⟨_, rfl⟩) d_Rules_formOf_116
  have hs := oi_f hk14 hs
  refine by_c (fun (hk15 : x0 = 16) => ?_) (fun (hk15 : ¬ x0 = 16) => ?_)
  · have hs := oi_t hk15 hs
    refine lv_tableIn hx hb d_Rules_formOf_1 (by rw [hk15]; decide) (by rw [hk15]; decide) (off := 116) (by rw [hk15]; decide) (tgt := 117) (by decide) ?_
    refine pg_ldcS (i := 12) C (Nat.le_of_ble_eq_true rfl) rfl rfl d_Rules_formOf_117 ?_
    obtain rfl := Option.some.inj hs
    exact pg_aret C hw (by first | exact Or.inl ⟨_, rfl⟩ | exact Or.inr ⟨_, rfl⟩) d_Rules_formOf_119
  have hs := oi_f hk15 hs
  refine by_c (fun (hk16 : x0 = 17) => ?_) (fun (hk16 : ¬ x0 = 17) => ?_)
  · have hs := oi_t hk16 hs
    refine lv_tableIn hx hb d_Rules_formOf_1 (by rw [hk16]; decide) (by rw [hk16]; decide) (off := 119) (by rw [hk16]; decide) (tgt := 120) (by decide) ?_
    refine pg_ldcS (i := 13) C (Nat.le_of_ble_eq_true rfl) rfl rfl d_Rules_formOf_120 ?_
    obtain rfl := Option.some.inj hs
    exact pg_aret C hw (by first | exact Or.inl ⟨_, rfl⟩ | exact Or.inr ⟨_, rfl⟩) d_Rules_formOf_122
  have hs := oi_f hk16 hs
  refine lv_tableOut hx hb d_Rules_formOf_1 (tb_out (by have q0 := lv_neT (a := 1) hk0 (by decide); have q1 := lv_neT (a := 2) hk1 (by decide); have q2 := lv_neT (a := 3) hk2 (by decide); have q3 := lv_neT (a := 4) hk3 (by decide); have q4 := lv_neT (a := 5) hk4 (by decide); have q5 := lv_neT (a := 6) hk5 (by decide); have q6 := lv_neT (a := 7) hk6 (by decide); have q7 := lv_neT (a := 8) hk7 (by decide); have q8 := lv_neT (a := 9) hk8 (by decide); have q9 := lv_neT (a := 10) hk9 (by decide); have q10 := lv_neT (a := 11) hk10 (by decide); have q11 := lv_neT (a := 12) hk11 (by decide); have q12 := lv_neT (a := 13) hk12 (by decide); have q13 := lv_neT (a := 14) hk13 (by decide); have q14 := lv_neT (a := 15) hk14 (by decide); have q15 := lv_neT (a := 16) hk15 (by decide); have q16 := lv_neT (a := 17) hk16 (by decide); omega)) (tgt := 123) (by decide) ?_
  refine pg_ldcS (i := 14) C (Nat.le_of_ble_eq_true rfl) rfl rfl d_Rules_formOf_123 ?_
  obtain rfl := Option.some.inj hs
  exact pg_aret C hw (by first | exact Or.inl ⟨_, rfl⟩ | exact Or.inr ⟨_, rfl⟩) d_Rules_formOf_125

end
section
variable {p : Program} {l : Launch} {e : Env} {s : State} {m : MethodId} {args : Array Value} {below : List Frame} {meth : Method} {c : Code} {g : GG}
theorem d_String_coder_0 : decode b_String_coder 0 = .ok (.getstatic 38, 3) := by decide +kernel
theorem d_String_coder_3 : decode b_String_coder 3 = .ok (.ifCond .eq 10, 3) := by decide +kernel
theorem d_String_coder_6 : decode b_String_coder 6 = .ok (.aload_n 0, 1) := by decide +kernel
theorem d_String_coder_7 : decode b_String_coder 7 = .ok (.getfield 15, 3) := by decide +kernel
theorem d_String_coder_10 : decode b_String_coder 10 = .ok (.goto 4, 3) := by decide +kernel
theorem d_String_coder_14 : decode b_String_coder 14 = .ok (.ireturn, 1) := by decide +kernel
def s_String_coder (x0 : Nat) : Option (Int32) :=
  (sG x0).bind fun _ =>
  (byr 0).bind fun _ => some 0
set_option maxHeartbeats 4000000 in
set_option maxRecDepth 100000 in
theorem c_String_coder (l : Launch) (g : GG) {h : HP} {x0 : Nat} {z : Int32} (hs : s_String_coder x0 = some z) : Ct l g y_String_coder w_String_coder (rmS 0 0) [.ref (sK g x0)] h (some (.int z)) h := by
  refine Ct.of (own := R_String) (by decide) rfl rfl (Nat.le_of_ble_eq_true rfl) ?_
  intro p e s m args below meth c ls C hl hw
  have hx := C.1
  have hb := C.2.1
  have hl : lv_has ls 1 [(0, .ref (sK g x0))] := hl
  unfold s_String_coder at hs
  refine pg_cs C hw.2.2 sl_String_38 d_String_coder_0 ?_
  refine lv_if_eq hx hb d_String_coder_3 (tgt := 13) (by decide) (fun hc => absurd hc (by decide)) (fun _ => ?_)
  refine lv_aload_n hx hb d_String_coder_6 rfl (lv_at hl 0 rfl) ?_
  obtain ⟨_, e1, hs⟩ := ob hs
  refine pg_strC C hw.2.2 (sG_inv e1) sl_String_15 d_String_coder_7 ?_
  refine lv_goto hx hb d_String_coder_10 (tgt := 14) (by decide) ?_
  obtain ⟨_, e2, hs⟩ := ob hs
  obtain rfl := Option.some.inj hs
  exact pg_zret (v := 0) C hw (byr_n e2) d_String_coder_14

end
section
variable {p : Program} {l : Launch} {e : Env} {s : State} {m : MethodId} {args : Array Value} {below : List Frame} {meth : Method} {c : Code} {g : GG}
theorem d_String_length_0 : decode b_String_length 0 = .ok (.aload_n 0, 1) := by decide +kernel
theorem d_String_length_1 : decode b_String_length 1 = .ok (.getfield 9, 3) := by decide +kernel
theorem d_String_length_4 : decode b_String_length 4 = .ok (.arraylength, 1) := by decide +kernel
theorem d_String_length_5 : decode b_String_length 5 = .ok (.aload_n 0, 1) := by decide +kernel
theorem d_String_length_6 : decode b_String_length 6 = .ok (.invokevirtual 335, 3) := by decide +kernel
theorem d_String_length_9 : decode b_String_length 9 = .ok (.ishr, 1) := by decide +kernel
theorem d_String_length_10 : decode b_String_length 10 = .ok (.ireturn, 1) := by decide +kernel
def s_String_length (x0 : Nat) : Option (Int32) :=
  (sG x0).bind fun _ =>
  (sN x0).bind fun v2 =>
  (sG x0).bind fun _ =>
  (s_String_coder x0).bind fun q5 =>
  some (v2 >>> (q5 &&& 31))
set_option maxHeartbeats 4000000 in
set_option maxRecDepth 100000 in
theorem c_String_length (l : Launch) (g : GG) {h : HP} {x0 : Nat} {z : Int32} (hs : s_String_length x0 = some z) : Ct l g y_String_length w_String_length (rmS 1 20) [.ref (sK g x0)] h (some (.int z)) h := by
  refine Ct.of (own := R_String) (by decide) rfl rfl (Nat.le_of_ble_eq_true rfl) ?_
  intro p e s m args below meth c ls C hl hw
  have hx := C.1
  have hb := C.2.1
  have hl : lv_has ls 1 [(0, .ref (sK g x0))] := hl
  unfold s_String_length at hs
  refine lv_aload_n hx hb d_String_length_0 rfl (lv_at hl 0 rfl) ?_
  obtain ⟨_, e1, hs⟩ := ob hs
  refine pg_strV C hw.2.2 (sG_inv e1) sl_String_9 d_String_length_1 ?_
  obtain ⟨v2, e3, hs⟩ := ob hs
  refine pg_strN C hw.2.2 e3 d_String_length_4 ?_
  refine lv_aload_n hx hb d_String_length_5 rfl (lv_at hl 0 rfl) ?_
  obtain ⟨_, e4, hs⟩ := ob hs
  obtain ⟨q5, e6, hs⟩ := ob hs
  refine pg_callT C hw hl.1 ml_String_335 e4 (As := []) (rest := [.int v2]) (c_String_coder l g e6) rfl (rm_ok (Nat.le_of_ble_eq_true rfl) (Nat.le_of_ble_eq_true rfl)) (Nat.le_of_ble_eq_true rfl) rfl (st1 := [.int q5, .int v2]) rfl d_String_length_6 (fun H locs hw => ?_)
  refine lv_ishr hx hb d_String_length_9 ?_
  obtain rfl := Option.some.inj hs
  exact pg_iret C hw d_String_length_10

end
section
variable {p : Program} {l : Launch} {e : Env} {s : State} {m : MethodId} {args : Array Value} {below : List Frame} {meth : Method} {c : Code} {g : GG}
theorem d_String_isLatin1_0 : decode b_String_isLatin1 0 = .ok (.getstatic 38, 3) := by decide +kernel
theorem d_String_isLatin1_3 : decode b_String_isLatin1 3 = .ok (.ifCond .eq 14, 3) := by decide +kernel
theorem d_String_isLatin1_6 : decode b_String_isLatin1 6 = .ok (.aload_n 0, 1) := by decide +kernel
theorem d_String_isLatin1_7 : decode b_String_isLatin1 7 = .ok (.getfield 15, 3) := by decide +kernel
theorem d_String_isLatin1_10 : decode b_String_isLatin1 10 = .ok (.ifCond .ne 7, 3) := by decide +kernel
theorem d_String_isLatin1_13 : decode b_String_isLatin1 13 = .ok (.iconst 1, 1) := by decide +kernel
theorem d_String_isLatin1_14 : decode b_String_isLatin1 14 = .ok (.goto 4, 3) := by decide +kernel
theorem d_String_isLatin1_18 : decode b_String_isLatin1 18 = .ok (.ireturn, 1) := by decide +kernel
def s_String_isLatin1 (x0 : Nat) : Option (Int32) :=
  (sG x0).bind fun _ =>
  some 1
set_option maxHeartbeats 4000000 in
set_option maxRecDepth 100000 in
theorem c_String_isLatin1 (l : Launch) (g : GG) {h : HP} {x0 : Nat} {z : Int32} (hs : s_String_isLatin1 x0 = some z) : Ct l g y_String_isLatin1 w_String_isLatin1 (rmS 0 0) [.ref (sK g x0)] h (some (.int z)) h := by
  refine Ct.of (own := R_String) (by decide) rfl rfl (Nat.le_of_ble_eq_true rfl) ?_
  intro p e s m args below meth c ls C hl hw
  have hx := C.1
  have hb := C.2.1
  have hl : lv_has ls 1 [(0, .ref (sK g x0))] := hl
  unfold s_String_isLatin1 at hs
  refine pg_cs C hw.2.2 sl_String_38 d_String_isLatin1_0 ?_
  refine lv_if_eq hx hb d_String_isLatin1_3 (tgt := 17) (by decide) (fun hc => absurd hc (by decide)) (fun _ => ?_)
  refine lv_aload_n hx hb d_String_isLatin1_6 rfl (lv_at hl 0 rfl) ?_
  obtain ⟨_, e1, hs⟩ := ob hs
  refine pg_strC C hw.2.2 (sG_inv e1) sl_String_15 d_String_isLatin1_7 ?_
  refine lv_if_ne hx hb d_String_isLatin1_10 (tgt := 17) (by decide) (fun hc => absurd hc (by decide)) (fun _ => ?_)
  refine lv_iconst (v := 1) hx hb d_String_isLatin1_13 (by decide) ?_
  refine lv_goto hx hb d_String_isLatin1_14 (tgt := 18) (by decide) ?_
  obtain rfl := Option.some.inj hs
  exact pg_zret (v := 1) C hw rfl d_String_isLatin1_18

end
section
variable {p : Program} {l : Launch} {e : Env} {s : State} {m : MethodId} {args : Array Value} {below : List Frame} {meth : Method} {c : Code} {g : GG}
theorem d_Preconditions_checkIndex_0 : decode b_Preconditions_checkIndex 0 = .ok (.iload_n 0, 1) := by decide +kernel
theorem d_Preconditions_checkIndex_1 : decode b_Preconditions_checkIndex 1 = .ok (.ifCond .lt 8, 3) := by decide +kernel
theorem d_Preconditions_checkIndex_4 : decode b_Preconditions_checkIndex 4 = .ok (.iload_n 0, 1) := by decide +kernel
theorem d_Preconditions_checkIndex_5 : decode b_Preconditions_checkIndex 5 = .ok (.iload_n 1, 1) := by decide +kernel
theorem d_Preconditions_checkIndex_6 : decode b_Preconditions_checkIndex 6 = .ok (.if_icmp .lt 10, 3) := by decide +kernel
theorem d_Preconditions_checkIndex_9 : decode b_Preconditions_checkIndex 9 = .ok (.aload_n 2, 1) := by decide +kernel
theorem d_Preconditions_checkIndex_16 : decode b_Preconditions_checkIndex 16 = .ok (.iload_n 0, 1) := by decide +kernel
theorem d_Preconditions_checkIndex_17 : decode b_Preconditions_checkIndex 17 = .ok (.ireturn, 1) := by decide +kernel
def s_Preconditions_checkIndex (x0 : Int32) (x1 : Int32) (x2 : Nat) : Option (Int32) :=
  if x0 < 0 then (
    none)
  else (
    if x0 < x1 then (
      some x0)
    else (
      none))
set_option maxHeartbeats 4000000 in
set_option maxRecDepth 100000 in
theorem c_Preconditions_checkIndex (l : Launch) (g : GG) {h : HP} {x0 : Int32} {x1 : Int32} {x2 : Nat} {z : Int32} (hs : s_Preconditions_checkIndex x0 x1 x2 = some z) : Ct l g y_Preconditions_checkIndex w_Preconditions_checkIndex (rmS 0 0) [.int x0, .int x1, va_rf g.2.2.2.2.1] h (some (.int z)) h := by
  refine Ct.of (own := R_Preconditions) (by decide) rfl rfl (by rcases g with ⟨_, _, _, _, _ | _, _⟩ <;> exact Nat.le_of_ble_eq_true rfl) ?_
  intro p e s m args below meth c ls C hl hw
  have hx := C.1
  have hb := C.2.1
  have hl : lv_has ls 3 [(0, .int x0), (1, .int x1), (2, va_rf g.2.2.2.2.1)] := hl
  unfold s_Preconditions_checkIndex at hs
  refine lv_iload_n hx hb d_Preconditions_checkIndex_0 rfl (lv_at hl 0 rfl) ?_
  refine lv_if_lt hx hb d_Preconditions_checkIndex_1 (tgt := 9) (by decide) (fun hc => ?_) (fun hc => ?_)
  · have hs := oi_t hc hs
    exact (no_s hs).elim
  · have hs := oi_f hc hs
    refine lv_iload_n hx hb d_Preconditions_checkIndex_4 rfl (lv_at hl 0 rfl) ?_
    refine lv_iload_n hx hb d_Preconditions_checkIndex_5 rfl (lv_at hl 1 rfl) ?_
    refine lv_icmp_lt hx hb d_Preconditions_checkIndex_6 (tgt := 16) (by decide) (fun hc => ?_) (fun hc => ?_)
    · have hs := oi_t hc hs
      refine lv_iload_n hx hb d_Preconditions_checkIndex_16 rfl (lv_at hl 0 rfl) ?_
      obtain rfl := Option.some.inj hs
      exact pg_iret C hw d_Preconditions_checkIndex_17
    · have hs := oi_f hc hs
      exact (no_s hs).elim

end
section
variable {p : Program} {l : Launch} {e : Env} {s : State} {m : MethodId} {args : Array Value} {below : List Frame} {meth : Method} {c : Code} {g : GG}
theorem d_String_checkIndex_0 : decode b_String_checkIndex 0 = .ok (.iload_n 0, 1) := by decide +kernel
theorem d_String_checkIndex_1 : decode b_String_checkIndex 1 = .ok (.iload_n 1, 1) := by decide +kernel
theorem d_String_checkIndex_2 : decode b_String_checkIndex 2 = .ok (.getstatic 1053, 3) := by decide +kernel
theorem d_String_checkIndex_5 : decode b_String_checkIndex 5 = .ok (.invokestatic 1059, 3) := by decide +kernel
theorem d_String_checkIndex_8 : decode b_String_checkIndex 8 = .ok (.pop, 1) := by decide +kernel
theorem d_String_checkIndex_9 : decode b_String_checkIndex 9 = .ok (.return_, 1) := by decide +kernel
def s_String_checkIndex (x0 : Int32) (x1 : Int32) : Option (Unit) :=
  (s_Preconditions_checkIndex x0 x1 0).bind fun q1 =>
  some ()
set_option maxHeartbeats 4000000 in
set_option maxRecDepth 100000 in
theorem c_String_checkIndex (l : Launch) (g : GG) {h : HP} {x0 : Int32} {x1 : Int32} {z : Unit} (hs : s_String_checkIndex x0 x1 = some z) : Ct l g y_String_checkIndex w_String_checkIndex (rmS 1 22) [.int x0, .int x1] h none h := by
  refine Ct.of (own := R_String) (by decide) rfl rfl (Nat.le_of_ble_eq_true rfl) ?_
  intro p e s m args below meth c ls C hl hw
  have hx := C.1
  have hb := C.2.1
  have hl : lv_has ls 2 [(0, .int x0), (1, .int x1)] := hl
  unfold s_String_checkIndex at hs
  refine lv_iload_n hx hb d_String_checkIndex_0 rfl (lv_at hl 0 rfl) ?_
  refine lv_iload_n hx hb d_String_checkIndex_1 rfl (lv_at hl 1 rfl) ?_
  refine pg_fm C hw.2.2 sl_String_1053 d_String_checkIndex_2 ?_
  obtain ⟨q1, e2, hs⟩ := ob hs
  refine pg_callS C hw hl.1 ml_String_1059 (As := [.int x0, .int x1, va_rf g.2.2.2.2.1]) (rest := []) (c_Preconditions_checkIndex l g e2) rfl (rm_ok (Nat.le_of_ble_eq_true rfl) (Nat.le_of_ble_eq_true rfl)) (Nat.le_of_ble_eq_true rfl) rfl (st1 := [.int q1]) rfl d_String_checkIndex_5 (fun H locs hw => ?_)
  refine lv_pop hx hb d_String_checkIndex_8 rfl ?_
  obtain rfl := Option.some.inj hs
  exact pg_vret C hw d_String_checkIndex_9

end
section
variable {p : Program} {l : Launch} {e : Env} {s : State} {m : MethodId} {args : Array Value} {below : List Frame} {meth : Method} {c : Code} {g : GG}
theorem d_StringLatin1_charAt_0 : decode b_StringLatin1_charAt 0 = .ok (.iload_n 1, 1) := by decide +kernel
theorem d_StringLatin1_charAt_1 : decode b_StringLatin1_charAt 1 = .ok (.aload_n 0, 1) := by decide +kernel
theorem d_StringLatin1_charAt_2 : decode b_StringLatin1_charAt 2 = .ok (.arraylength, 1) := by decide +kernel
theorem d_StringLatin1_charAt_3 : decode b_StringLatin1_charAt 3 = .ok (.invokestatic 9, 3) := by decide +kernel
theorem d_StringLatin1_charAt_6 : decode b_StringLatin1_charAt 6 = .ok (.aload_n 0, 1) := by decide +kernel
theorem d_StringLatin1_charAt_7 : decode b_StringLatin1_charAt 7 = .ok (.iload_n 1, 1) := by decide +kernel
theorem d_StringLatin1_charAt_8 : decode b_StringLatin1_charAt 8 = .ok (.baload, 1) := by decide +kernel
theorem d_StringLatin1_charAt_9 : decode b_StringLatin1_charAt 9 = .ok (.sipush 255, 3) := by decide +kernel
theorem d_StringLatin1_charAt_12 : decode b_StringLatin1_charAt 12 = .ok (.iand, 1) := by decide +kernel
theorem d_StringLatin1_charAt_13 : decode b_StringLatin1_charAt 13 = .ok (.i2c, 1) := by decide +kernel
theorem d_StringLatin1_charAt_14 : decode b_StringLatin1_charAt 14 = .ok (.ireturn, 1) := by decide +kernel
def s_StringLatin1_charAt (x0 : Nat) (x1 : Int32) : Option (Int32) :=
  (sN x0).bind fun v1 =>
  (s_String_checkIndex x1 v1).bind fun q3 =>
  (sB x0 x1).bind fun v5 =>
  (cr (((v5 &&& 255).toUInt32 % 65536).toInt32)).bind fun _ => some (((v5 &&& 255).toUInt32 % 65536).toInt32)
set_option maxHeartbeats 4000000 in
set_option maxRecDepth 100000 in
theorem c_StringLatin1_charAt (l : Launch) (g : GG) {h : HP} {x0 : Nat} {x1 : Int32} {z : Int32} (hs : s_StringLatin1_charAt x0 x1 = some z) : Ct l g y_StringLatin1_charAt w_StringLatin1_charAt (rmS 2 43) [.ref (sV g x0), .int x1] h (some (.int z)) h := by
  refine Ct.of (own := R_StringLatin1) (by decide) rfl rfl (Nat.le_of_ble_eq_true rfl) ?_
  intro p e s m args below meth c ls C hl hw
  have hx := C.1
  have hb := C.2.1
  have hl : lv_has ls 2 [(0, .ref (sV g x0)), (1, .int x1)] := hl
  unfold s_StringLatin1_charAt at hs
  refine lv_iload_n hx hb d_StringLatin1_charAt_0 rfl (lv_at hl 1 rfl) ?_
  refine lv_aload_n hx hb d_StringLatin1_charAt_1 rfl (lv_at hl 0 rfl) ?_
  obtain ⟨v1, e2, hs⟩ := ob hs
  refine pg_strN C hw.2.2 e2 d_StringLatin1_charAt_2 ?_
  obtain ⟨q3, e4, hs⟩ := ob hs
  refine pg_callS C hw hl.1 ml_StringLatin1_9 (As := [.int x1, .int v1]) (rest := []) (c_String_checkIndex l g e4) rfl (rm_ok (Nat.le_of_ble_eq_true rfl) (Nat.le_of_ble_eq_true rfl)) (Nat.le_of_ble_eq_true rfl) rfl (st1 := []) rfl d_StringLatin1_charAt_3 (fun H locs hw => ?_)
  refine lv_aload_n hx hb d_StringLatin1_charAt_6 rfl (lv_at hl 0 rfl) ?_
  refine lv_iload_n hx hb d_StringLatin1_charAt_7 rfl (lv_at hl 1 rfl) ?_
  obtain ⟨v5, e6, hs⟩ := ob hs
  refine pg_strB C hw.2.2 e6 d_StringLatin1_charAt_8 ?_
  refine lv_sipush (v := 255) hx hb d_StringLatin1_charAt_9 (by decide) ?_
  refine lv_iand hx hb d_StringLatin1_charAt_12 ?_
  refine lv_i2c (v := ((v5 &&& 255).toUInt32 % 65536).toInt32) hx hb d_StringLatin1_charAt_13 rfl ?_
  obtain ⟨_, e7, hs⟩ := ob hs
  obtain rfl := Option.some.inj hs
  exact pg_zret (v := ((v5 &&& 255).toUInt32 % 65536).toInt32) C hw (cr_n e7) d_StringLatin1_charAt_14

end
section
variable {p : Program} {l : Launch} {e : Env} {s : State} {m : MethodId} {args : Array Value} {below : List Frame} {meth : Method} {c : Code} {g : GG}
theorem d_String_charAt_0 : decode b_String_charAt 0 = .ok (.aload_n 0, 1) := by decide +kernel
theorem d_String_charAt_1 : decode b_String_charAt 1 = .ok (.invokevirtual 492, 3) := by decide +kernel
theorem d_String_charAt_4 : decode b_String_charAt 4 = .ok (.ifCond .eq 12, 3) := by decide +kernel
theorem d_String_charAt_7 : decode b_String_charAt 7 = .ok (.aload_n 0, 1) := by decide +kernel
theorem d_String_charAt_8 : decode b_String_charAt 8 = .ok (.getfield 9, 3) := by decide +kernel
theorem d_String_charAt_11 : decode b_String_charAt 11 = .ok (.iload_n 1, 1) := by decide +kernel
theorem d_String_charAt_12 : decode b_String_charAt 12 = .ok (.invokestatic 495, 3) := by decide +kernel
theorem d_String_charAt_15 : decode b_String_charAt 15 = .ok (.ireturn, 1) := by decide +kernel
theorem d_String_charAt_16 : decode b_String_charAt 16 = .ok (.aload_n 0, 1) := by decide +kernel
theorem d_String_charAt_17 : decode b_String_charAt 17 = .ok (.getfield 9, 3) := by decide +kernel
theorem d_String_charAt_20 : decode b_String_charAt 20 = .ok (.iload_n 1, 1) := by decide +kernel
theorem d_String_charAt_21 : decode b_String_charAt 21 = .ok (.invokestatic 498, 3) := by decide +kernel
def s_String_charAt (x0 : Nat) (x1 : Int32) : Option (Int32) :=
  (sG x0).bind fun _ =>
  (s_String_isLatin1 x0).bind fun q2 =>
  if q2 = 0 then (
    (sG x0).bind fun _ =>
    none)
  else (
    (sG x0).bind fun _ =>
    (s_StringLatin1_charAt x0 x1).bind fun q6 =>
    (cr q6).bind fun _ => some q6)
set_option maxHeartbeats 4000000 in
set_option maxRecDepth 100000 in
theorem c_String_charAt (l : Launch) (g : GG) {h : HP} {x0 : Nat} {x1 : Int32} {z : Int32} (hs : s_String_charAt x0 x1 = some z) : Ct l g y_String_charAt w_String_charAt (rmS 3 64) [.ref (sK g x0), .int x1] h (some (.int z)) h := by
  refine Ct.of (own := R_String) (by decide) rfl rfl (Nat.le_of_ble_eq_true rfl) ?_
  intro p e s m args below meth c ls C hl hw
  have hx := C.1
  have hb := C.2.1
  have hl : lv_has ls 2 [(0, .ref (sK g x0)), (1, .int x1)] := hl
  unfold s_String_charAt at hs
  refine lv_aload_n hx hb d_String_charAt_0 rfl (lv_at hl 0 rfl) ?_
  obtain ⟨_, e1, hs⟩ := ob hs
  obtain ⟨q2, e3, hs⟩ := ob hs
  refine pg_callT C hw hl.1 ml_String_492 e1 (As := []) (rest := []) (c_String_isLatin1 l g e3) rfl (rm_ok (Nat.le_of_ble_eq_true rfl) (Nat.le_of_ble_eq_true rfl)) (Nat.le_of_ble_eq_true rfl) rfl (st1 := [.int q2]) rfl d_String_charAt_1 (fun H locs hw => ?_)
  refine lv_if_eq hx hb d_String_charAt_4 (tgt := 16) (by decide) (fun hc => ?_) (fun hc => ?_)
  · have hs := oi_t hc hs
    refine lv_aload_n hx hb d_String_charAt_16 rfl (lv_at hl 0 rfl) ?_
    obtain ⟨_, e4, hs⟩ := ob hs
    refine pg_strV C hw.2.2 (sG_inv e4) sl_String_9 d_String_charAt_17 ?_
    refine lv_iload_n hx hb d_String_charAt_20 rfl (lv_at hl 1 rfl) ?_
    exact (no_s hs).elim
  · have hs := oi_f hc hs
    refine lv_aload_n hx hb d_String_charAt_7 rfl (lv_at hl 0 rfl) ?_
    obtain ⟨_, e5, hs⟩ := ob hs
    refine pg_strV C hw.2.2 (sG_inv e5) sl_String_9 d_String_charAt_8 ?_
    refine lv_iload_n hx hb d_String_charAt_11 rfl (lv_at hl 1 rfl) ?_
    obtain ⟨q6, e7, hs⟩ := ob hs
    refine pg_callS C hw hl.1 ml_String_495 (As := [.ref (sV g x0), .int x1]) (rest := []) (c_StringLatin1_charAt l g e7) rfl (rm_ok (Nat.le_of_ble_eq_true rfl) (Nat.le_of_ble_eq_true rfl)) (Nat.le_of_ble_eq_true rfl) rfl (st1 := [.int q6]) rfl d_String_charAt_12 (fun H locs hw => ?_)
    obtain ⟨_, e8, hs⟩ := ob hs
    obtain rfl := Option.some.inj hs
    exact pg_zret (v := q6) C hw (cr_n e8) d_String_charAt_15

end
section
variable {p : Program} {l : Launch} {e : Env} {s : State} {m : MethodId} {args : Array Value} {below : List Frame} {meth : Method} {c : Code} {g : GG}
theorem d_StringLatin1_canEncode_0 : decode b_StringLatin1_canEncode 0 = .ok (.iload_n 0, 1) := by decide +kernel
theorem d_StringLatin1_canEncode_1 : decode b_StringLatin1_canEncode 1 = .ok (.ifCond .lt 14, 3) := by decide +kernel
theorem d_StringLatin1_canEncode_4 : decode b_StringLatin1_canEncode 4 = .ok (.iload_n 0, 1) := by decide +kernel
theorem d_StringLatin1_canEncode_5 : decode b_StringLatin1_canEncode 5 = .ok (.sipush 255, 3) := by decide +kernel
theorem d_StringLatin1_canEncode_8 : decode b_StringLatin1_canEncode 8 = .ok (.if_icmp .gt 7, 3) := by decide +kernel
theorem d_StringLatin1_canEncode_11 : decode b_StringLatin1_canEncode 11 = .ok (.iconst 1, 1) := by decide +kernel
theorem d_StringLatin1_canEncode_12 : decode b_StringLatin1_canEncode 12 = .ok (.goto 4, 3) := by decide +kernel
theorem d_StringLatin1_canEncode_15 : decode b_StringLatin1_canEncode 15 = .ok (.iconst 0, 1) := by decide +kernel
theorem d_StringLatin1_canEncode_16 : decode b_StringLatin1_canEncode 16 = .ok (.ireturn, 1) := by decide +kernel
def s_StringLatin1_canEncode (x0 : Int32) : Option (Int32) :=
  if x0 < 0 then (
    some 0)
  else (
    if 255 < x0 then (
      some 0)
    else (
      some 1))
set_option maxHeartbeats 4000000 in
set_option maxRecDepth 100000 in
theorem c_StringLatin1_canEncode (l : Launch) (g : GG) {h : HP} {x0 : Int32} {z : Int32} (hs : s_StringLatin1_canEncode x0 = some z) : Ct l g y_StringLatin1_canEncode w_StringLatin1_canEncode (rmS 0 0) [.int x0] h (some (.int z)) h := by
  refine Ct.of (own := R_StringLatin1) (by decide) rfl rfl (Nat.le_of_ble_eq_true rfl) ?_
  intro p e s m args below meth c ls C hl hw
  have hx := C.1
  have hb := C.2.1
  have hl : lv_has ls 1 [(0, .int x0)] := hl
  unfold s_StringLatin1_canEncode at hs
  refine lv_iload_n hx hb d_StringLatin1_canEncode_0 rfl (lv_at hl 0 rfl) ?_
  refine lv_if_lt hx hb d_StringLatin1_canEncode_1 (tgt := 15) (by decide) (fun hc => ?_) (fun hc => ?_)
  · have hs := oi_t hc hs
    refine lv_iconst (v := 0) hx hb d_StringLatin1_canEncode_15 (by decide) ?_
    obtain rfl := Option.some.inj hs
    exact pg_zret (v := 0) C hw rfl d_StringLatin1_canEncode_16
  · have hs := oi_f hc hs
    refine lv_iload_n hx hb d_StringLatin1_canEncode_4 rfl (lv_at hl 0 rfl) ?_
    refine lv_sipush (v := 255) hx hb d_StringLatin1_canEncode_5 (by decide) ?_
    refine lv_icmp_gt hx hb d_StringLatin1_canEncode_8 (tgt := 15) (by decide) (fun hc => ?_) (fun hc => ?_)
    · have hs := oi_t hc hs
      refine lv_iconst (v := 0) hx hb d_StringLatin1_canEncode_15 (by decide) ?_
      obtain rfl := Option.some.inj hs
      exact pg_zret (v := 0) C hw rfl d_StringLatin1_canEncode_16
    · have hs := oi_f hc hs
      refine lv_iconst (v := 1) hx hb d_StringLatin1_canEncode_11 (by decide) ?_
      refine lv_goto hx hb d_StringLatin1_canEncode_12 (tgt := 16) (by decide) ?_
      obtain rfl := Option.some.inj hs
      exact pg_zret (v := 1) C hw rfl d_StringLatin1_canEncode_16

end
section
variable {p : Program} {l : Launch} {e : Env} {s : State} {m : MethodId} {args : Array Value} {below : List Frame} {meth : Method} {c : Code} {g : GG}
theorem d_StringLatin1_indexOfChar_0 : decode b_StringLatin1_indexOfChar 0 = .ok (.iload_n 1, 1) := by decide +kernel
theorem d_StringLatin1_indexOfChar_1 : decode b_StringLatin1_indexOfChar 1 = .ok (.i2b, 1) := by decide +kernel
theorem d_StringLatin1_indexOfChar_2 : decode b_StringLatin1_indexOfChar 2 = .ok (.istore 4, 2) := by decide +kernel
theorem d_StringLatin1_indexOfChar_4 : decode b_StringLatin1_indexOfChar 4 = .ok (.iload_n 2, 1) := by decide +kernel
theorem d_StringLatin1_indexOfChar_5 : decode b_StringLatin1_indexOfChar 5 = .ok (.istore 5, 2) := by decide +kernel
theorem d_StringLatin1_indexOfChar_7 : decode b_StringLatin1_indexOfChar 7 = .ok (.iload 5, 2) := by decide +kernel
theorem d_StringLatin1_indexOfChar_9 : decode b_StringLatin1_indexOfChar 9 = .ok (.iload_n 3, 1) := by decide +kernel
theorem d_StringLatin1_indexOfChar_10 : decode b_StringLatin1_indexOfChar 10 = .ok (.if_icmp .ge 21, 3) := by decide +kernel
theorem d_StringLatin1_indexOfChar_13 : decode b_StringLatin1_indexOfChar 13 = .ok (.aload_n 0, 1) := by decide +kernel
theorem d_StringLatin1_indexOfChar_14 : decode b_StringLatin1_indexOfChar 14 = .ok (.iload 5, 2) := by decide +kernel
theorem d_StringLatin1_indexOfChar_16 : decode b_StringLatin1_indexOfChar 16 = .ok (.baload, 1) := by decide +kernel
theorem d_StringLatin1_indexOfChar_17 : decode b_StringLatin1_indexOfChar 17 = .ok (.iload 4, 2) := by decide +kernel
theorem d_StringLatin1_indexOfChar_19 : decode b_StringLatin1_indexOfChar 19 = .ok (.if_icmp .ne 6, 3) := by decide +kernel
theorem d_StringLatin1_indexOfChar_22 : decode b_StringLatin1_indexOfChar 22 = .ok (.iload 5, 2) := by decide +kernel
theorem d_StringLatin1_indexOfChar_24 : decode b_StringLatin1_indexOfChar 24 = .ok (.ireturn, 1) := by decide +kernel
theorem d_StringLatin1_indexOfChar_25 : decode b_StringLatin1_indexOfChar 25 = .ok (.iinc 5 1, 3) := by decide +kernel
theorem d_StringLatin1_indexOfChar_28 : decode b_StringLatin1_indexOfChar 28 = .ok (.goto (-21), 3) := by decide +kernel
theorem d_StringLatin1_indexOfChar_31 : decode b_StringLatin1_indexOfChar 31 = .ok (.iconst (-1), 1) := by decide +kernel
theorem d_StringLatin1_indexOfChar_32 : decode b_StringLatin1_indexOfChar 32 = .ok (.ireturn, 1) := by decide +kernel
def s_StringLatin1_indexOfChar_7 : Nat → Nat → Int32 → Int32 → Int32 → Option (Int32)
  | 0 => fun _ _ _ _ => none
  | k + 1 => fun x0 x3 x4 x5 =>
  if x3 ≤ x5 then (
    some (-1))
  else (
    (sB x0 x5).bind fun v1 =>
    if v1 = x4 then (
      some x5)
    else (
      (s_StringLatin1_indexOfChar_7 k) x0 x3 x4 (x5 + 1)))
set_option maxHeartbeats 4000000 in
set_option maxRecDepth 100000 in
theorem k_StringLatin1_indexOfChar_7 {h : HP} {z : Int32} (C : CX g R_StringLatin1 b_StringLatin1_indexOfChar 6 (some .int) p s m args meth c) : ∀ (k : Nat) {x0 : Nat} {x3 : Int32} {x4 : Int32} {x5 : Int32} {H : Heap} {locs : List Loc} {ls : Array Slot}, WD g h s.heap H locs → lv_has ls 6 [(0, .ref (sV g x0)), (3, .int x3), (4, .int x4), (5, .int x5)] → s_StringLatin1_indexOfChar_7 k x0 x3 x4 x5 = some z → W p l e (rmS 0 0) s m args below meth c H locs 0 0 (MQ below (Qq g (some (.int z)) h) args s 0 0 (inA g)) (F0 m 7 ls []) := by
  have hx := C.1
  have hb := C.2.1
  intro k
  induction k with
  | zero =>
    intro x0 x3 x4 x5 H locs ls hw hl hs
    exact (no_s hs).elim
  | succ k ih =>
    intro x0 x3 x4 x5 H locs ls hw hl hs
    rw [s_StringLatin1_indexOfChar_7] at hs
    refine lv_iload hx hb d_StringLatin1_indexOfChar_7 (lv_at hl 3 rfl) ?_
    refine lv_iload_n hx hb d_StringLatin1_indexOfChar_9 rfl (lv_at hl 1 rfl) ?_
    refine lv_icmp_ge hx hb d_StringLatin1_indexOfChar_10 (tgt := 31) (by decide) (fun hc => ?_) (fun hc => ?_)
    · have hs := oi_t hc hs
      refine lv_iconst (v := (-1)) hx hb d_StringLatin1_indexOfChar_31 (by decide) ?_
      obtain rfl := Option.some.inj hs
      exact pg_iret C hw d_StringLatin1_indexOfChar_32
    · have hs := oi_f hc hs
      refine lv_aload_n hx hb d_StringLatin1_indexOfChar_13 rfl (lv_at hl 0 rfl) ?_
      refine lv_iload hx hb d_StringLatin1_indexOfChar_14 (lv_at hl 3 rfl) ?_
      obtain ⟨v1, e2, hs⟩ := ob hs
      refine pg_strB C hw.2.2 e2 d_StringLatin1_indexOfChar_16 ?_
      refine lv_iload hx hb d_StringLatin1_indexOfChar_17 (lv_at hl 2 rfl) ?_
      refine lv_icmp_ne hx hb d_StringLatin1_indexOfChar_19 (tgt := 25) (by decide) (fun hc => ?_) (fun hc => ?_)
      · have hs := oi_f hc hs
        refine lv_iinc hx hb d_StringLatin1_indexOfChar_25 hl (k := 3) rfl (v := (x5 + 1)) (iinc_e _ (by decide)) (by decide) (lv' := [(5, .int (x5 + 1)), (0, .ref (sV g x0)), (3, .int x3), (4, .int x4)]) rfl (fun ls hl => ?_)
        refine lv_goto hx hb d_StringLatin1_indexOfChar_28 (tgt := 7) (by decide) ?_
        exact ih hw (lv_sub hl [1, 2, 3, 0] rfl) hs
      · have hs := oi_t hc hs
        refine lv_iload hx hb d_StringLatin1_indexOfChar_22 (lv_at hl 3 rfl) ?_
        obtain rfl := Option.some.inj hs
        exact pg_iret C hw d_StringLatin1_indexOfChar_24

def s_StringLatin1_indexOfChar (x0 : Nat) (x1 : Int32) (x2 : Int32) (x3 : Int32) : Option (Int32) :=
  s_StringLatin1_indexOfChar_7 20000 x0 x3 x1.toInt8.toInt32 x2
set_option maxHeartbeats 4000000 in
set_option maxRecDepth 100000 in
theorem c_StringLatin1_indexOfChar (l : Launch) (g : GG) {h : HP} {x0 : Nat} {x1 : Int32} {x2 : Int32} {x3 : Int32} {z : Int32} (hs : s_StringLatin1_indexOfChar x0 x1 x2 x3 = some z) : Ct l g y_StringLatin1_indexOfChar w_StringLatin1_indexOfChar (rmS 0 0) [.ref (sV g x0), .int x1, .int x2, .int x3] h (some (.int z)) h := by
  refine Ct.of (own := R_StringLatin1) (by decide) rfl rfl (Nat.le_of_ble_eq_true rfl) ?_
  intro p e s m args below meth c ls C hl hw
  have hx := C.1
  have hb := C.2.1
  have hl : lv_has ls 6 [(0, .ref (sV g x0)), (1, .int x1), (2, .int x2), (3, .int x3)] := hl
  unfold s_StringLatin1_indexOfChar at hs
  refine lv_iload_n hx hb d_StringLatin1_indexOfChar_0 rfl (lv_at hl 1 rfl) ?_
  refine lv_i2b (v := x1.toInt8.toInt32) hx hb d_StringLatin1_indexOfChar_1 rfl ?_
  refine lv_istore hx hb d_StringLatin1_indexOfChar_2 hl (by decide) (lv' := [(4, .int x1.toInt8.toInt32), (0, .ref (sV g x0)), (1, .int x1), (2, .int x2), (3, .int x3)]) rfl (fun ls hl => ?_)
  refine lv_iload_n hx hb d_StringLatin1_indexOfChar_4 rfl (lv_at hl 3 rfl) ?_
  refine lv_istore hx hb d_StringLatin1_indexOfChar_5 hl (by decide) (lv' := [(5, .int x2), (4, .int x1.toInt8.toInt32), (0, .ref (sV g x0)), (1, .int x1), (2, .int x2), (3, .int x3)]) rfl (fun ls hl => ?_)
  exact k_StringLatin1_indexOfChar_7 C 20000 hw (lv_sub hl [2, 5, 1, 0] rfl) hs

end
section
variable {p : Program} {l : Launch} {e : Env} {s : State} {m : MethodId} {args : Array Value} {below : List Frame} {meth : Method} {c : Code} {g : GG}
theorem d_StringLatin1_indexOf_0 : decode b_StringLatin1_indexOf 0 = .ok (.iload_n 1, 1) := by decide +kernel
theorem d_StringLatin1_indexOf_1 : decode b_StringLatin1_indexOf 1 = .ok (.invokestatic 88, 3) := by decide +kernel
theorem d_StringLatin1_indexOf_4 : decode b_StringLatin1_indexOf 4 = .ok (.ifCond .ne 5, 3) := by decide +kernel
theorem d_StringLatin1_indexOf_7 : decode b_StringLatin1_indexOf 7 = .ok (.iconst (-1), 1) := by decide +kernel
theorem d_StringLatin1_indexOf_8 : decode b_StringLatin1_indexOf 8 = .ok (.ireturn, 1) := by decide +kernel
theorem d_StringLatin1_indexOf_9 : decode b_StringLatin1_indexOf 9 = .ok (.iload_n 2, 1) := by decide +kernel
theorem d_StringLatin1_indexOf_10 : decode b_StringLatin1_indexOf 10 = .ok (.iconst 0, 1) := by decide +kernel
theorem d_StringLatin1_indexOf_11 : decode b_StringLatin1_indexOf 11 = .ok (.invokestatic 92, 3) := by decide +kernel
theorem d_StringLatin1_indexOf_14 : decode b_StringLatin1_indexOf 14 = .ok (.istore_n 2, 1) := by decide +kernel
theorem d_StringLatin1_indexOf_15 : decode b_StringLatin1_indexOf 15 = .ok (.iload_n 3, 1) := by decide +kernel
theorem d_StringLatin1_indexOf_16 : decode b_StringLatin1_indexOf 16 = .ok (.aload_n 0, 1) := by decide +kernel
theorem d_StringLatin1_indexOf_17 : decode b_StringLatin1_indexOf 17 = .ok (.arraylength, 1) := by decide +kernel
theorem d_StringLatin1_indexOf_18 : decode b_StringLatin1_indexOf 18 = .ok (.invokestatic 38, 3) := by decide +kernel
theorem d_StringLatin1_indexOf_21 : decode b_StringLatin1_indexOf 21 = .ok (.istore_n 3, 1) := by decide +kernel
theorem d_StringLatin1_indexOf_22 : decode b_StringLatin1_indexOf 22 = .ok (.iload_n 2, 1) := by decide +kernel
theorem d_StringLatin1_indexOf_23 : decode b_StringLatin1_indexOf 23 = .ok (.iload_n 3, 1) := by decide +kernel
theorem d_StringLatin1_indexOf_24 : decode b_StringLatin1_indexOf 24 = .ok (.if_icmp .lt 5, 3) := by decide +kernel
theorem d_StringLatin1_indexOf_27 : decode b_StringLatin1_indexOf 27 = .ok (.iconst (-1), 1) := by decide +kernel
theorem d_StringLatin1_indexOf_28 : decode b_StringLatin1_indexOf 28 = .ok (.ireturn, 1) := by decide +kernel
theorem d_StringLatin1_indexOf_29 : decode b_StringLatin1_indexOf 29 = .ok (.aload_n 0, 1) := by decide +kernel
theorem d_StringLatin1_indexOf_30 : decode b_StringLatin1_indexOf 30 = .ok (.iload_n 1, 1) := by decide +kernel
theorem d_StringLatin1_indexOf_31 : decode b_StringLatin1_indexOf 31 = .ok (.iload_n 2, 1) := by decide +kernel
theorem d_StringLatin1_indexOf_32 : decode b_StringLatin1_indexOf 32 = .ok (.iload_n 3, 1) := by decide +kernel
theorem d_StringLatin1_indexOf_33 : decode b_StringLatin1_indexOf 33 = .ok (.invokestatic 95, 3) := by decide +kernel
theorem d_StringLatin1_indexOf_36 : decode b_StringLatin1_indexOf 36 = .ok (.ireturn, 1) := by decide +kernel
def s_StringLatin1_indexOf (x0 : Nat) (x1 : Int32) (x2 : Int32) (x3 : Int32) : Option (Int32) :=
  (s_StringLatin1_canEncode x1).bind fun q1 =>
  if q1 = 0 then (
    some (-1))
  else (
    (sN x0).bind fun v3 =>
    if (if x2 < 0 then 0 else x2) < (if v3 < x3 then v3 else x3) then (
      (s_StringLatin1_indexOfChar x0 x1 (if x2 < 0 then 0 else x2) (if v3 < x3 then v3 else x3)).bind fun q5 =>
      some q5)
    else (
      some (-1)))
set_option maxHeartbeats 4000000 in
set_option maxRecDepth 100000 in
theorem c_StringLatin1_indexOf (l : Launch) (g : GG) {h : HP} {x0 : Nat} {x1 : Int32} {x2 : Int32} {x3 : Int32} {z : Int32} (hs : s_StringLatin1_indexOf x0 x1 x2 x3 = some z) : Ct l g y_StringLatin1_indexOf w_StringLatin1_indexOf (rmS 1 60) [.ref (sV g x0), .int x1, .int x2, .int x3] h (some (.int z)) h := by
  refine Ct.of (own := R_StringLatin1) (by decide) rfl rfl (Nat.le_of_ble_eq_true rfl) ?_
  intro p e s m args below meth c ls C hl hw
  have hx := C.1
  have hb := C.2.1
  have hl : lv_has ls 4 [(0, .ref (sV g x0)), (1, .int x1), (2, .int x2), (3, .int x3)] := hl
  unfold s_StringLatin1_indexOf at hs
  refine lv_iload_n hx hb d_StringLatin1_indexOf_0 rfl (lv_at hl 1 rfl) ?_
  obtain ⟨q1, e2, hs⟩ := ob hs
  refine pg_callS C hw hl.1 ml_StringLatin1_88 (As := [.int x1]) (rest := []) (c_StringLatin1_canEncode l g e2) rfl (rm_ok (Nat.le_of_ble_eq_true rfl) (Nat.le_of_ble_eq_true rfl)) (Nat.le_of_ble_eq_true rfl) rfl (st1 := [.int q1]) rfl d_StringLatin1_indexOf_1 (fun H locs hw => ?_)
  refine lv_if_ne hx hb d_StringLatin1_indexOf_4 (tgt := 9) (by decide) (fun hc => ?_) (fun hc => ?_)
  · have hs := oi_f hc hs
    refine lv_iload_n hx hb d_StringLatin1_indexOf_9 rfl (lv_at hl 2 rfl) ?_
    refine lv_iconst (v := 0) hx hb d_StringLatin1_indexOf_10 (by decide) ?_
    refine va_mmax hx hb (by rw [C.2.2.1, hl.1]) C.own (C.w ml_StringLatin1_92.1) (C.w ml_StringLatin1_92.2.1) (C.w ml_StringLatin1_92.2.2.1) (C.w ml_StringLatin1_92.2.2.2) (Nat.le_of_ble_eq_true rfl) (Nat.le_of_ble_eq_true rfl) (Nat.zero_le _) (Nat.zero_le _) d_StringLatin1_indexOf_11 ?_
    refine lv_istore_n hx hb d_StringLatin1_indexOf_14 rfl hl (by decide) (lv' := [(2, .int (if x2 < 0 then 0 else x2)), (0, .ref (sV g x0)), (1, .int x1), (3, .int x3)]) rfl (fun ls hl => ?_)
    refine lv_iload_n hx hb d_StringLatin1_indexOf_15 rfl (lv_at hl 3 rfl) ?_
    refine lv_aload_n hx hb d_StringLatin1_indexOf_16 rfl (lv_at hl 1 rfl) ?_
    obtain ⟨v3, e4, hs⟩ := ob hs
    refine pg_strN C hw.2.2 e4 d_StringLatin1_indexOf_17 ?_
    refine va_mmin hx hb (by rw [C.2.2.1, hl.1]) C.own (C.w ml_StringLatin1_38.1) (C.w ml_StringLatin1_38.2.1) (C.w ml_StringLatin1_38.2.2.1) (C.w ml_StringLatin1_38.2.2.2) (Nat.le_of_ble_eq_true rfl) (Nat.le_of_ble_eq_true rfl) (Nat.zero_le _) (Nat.zero_le _) d_StringLatin1_indexOf_18 ?_
    refine lv_istore_n hx hb d_StringLatin1_indexOf_21 rfl hl (by decide) (lv' := [(3, .int (if v3 < x3 then v3 else x3)), (2, .int (if x2 < 0 then 0 else x2)), (0, .ref (sV g x0)), (1, .int x1)]) rfl (fun ls hl => ?_)
    refine lv_iload_n hx hb d_StringLatin1_indexOf_22 rfl (lv_at hl 1 rfl) ?_
    refine lv_iload_n hx hb d_StringLatin1_indexOf_23 rfl (lv_at hl 0 rfl) ?_
    refine lv_icmp_lt hx hb d_StringLatin1_indexOf_24 (tgt := 29) (by decide) (fun hc => ?_) (fun hc => ?_)
    · have hs := oi_t hc hs
      refine lv_aload_n hx hb d_StringLatin1_indexOf_29 rfl (lv_at hl 2 rfl) ?_
      refine lv_iload_n hx hb d_StringLatin1_indexOf_30 rfl (lv_at hl 3 rfl) ?_
      refine lv_iload_n hx hb d_StringLatin1_indexOf_31 rfl (lv_at hl 1 rfl) ?_
      refine lv_iload_n hx hb d_StringLatin1_indexOf_32 rfl (lv_at hl 0 rfl) ?_
      obtain ⟨q5, e6, hs⟩ := ob hs
      refine pg_callS C hw hl.1 ml_StringLatin1_95 (As := [.ref (sV g x0), .int x1, .int (if x2 < 0 then 0 else x2), .int (if v3 < x3 then v3 else x3)]) (rest := []) (c_StringLatin1_indexOfChar l g e6) rfl (rm_ok (Nat.le_of_ble_eq_true rfl) (Nat.le_of_ble_eq_true rfl)) (Nat.le_of_ble_eq_true rfl) rfl (st1 := [.int q5]) rfl d_StringLatin1_indexOf_33 (fun H locs hw => ?_)
      obtain rfl := Option.some.inj hs
      exact pg_iret C hw d_StringLatin1_indexOf_36
    · have hs := oi_f hc hs
      refine lv_iconst (v := (-1)) hx hb d_StringLatin1_indexOf_27 (by decide) ?_
      obtain rfl := Option.some.inj hs
      exact pg_iret C hw d_StringLatin1_indexOf_28
  · have hs := oi_t hc hs
    refine lv_iconst (v := (-1)) hx hb d_StringLatin1_indexOf_7 (by decide) ?_
    obtain rfl := Option.some.inj hs
    exact pg_iret C hw d_StringLatin1_indexOf_8

end
section
variable {p : Program} {l : Launch} {e : Env} {s : State} {m : MethodId} {args : Array Value} {below : List Frame} {meth : Method} {c : Code} {g : GG}
theorem d_String_indexOf_1_0 : decode b_String_indexOf_1 0 = .ok (.aload_n 0, 1) := by decide +kernel
theorem d_String_indexOf_1_1 : decode b_String_indexOf_1 1 = .ok (.invokevirtual 492, 3) := by decide +kernel
theorem d_String_indexOf_1_4 : decode b_String_indexOf_1 4 = .ok (.ifCond .eq 19, 3) := by decide +kernel
theorem d_String_indexOf_1_7 : decode b_String_indexOf_1 7 = .ok (.aload_n 0, 1) := by decide +kernel
theorem d_String_indexOf_1_8 : decode b_String_indexOf_1 8 = .ok (.getfield 9, 3) := by decide +kernel
theorem d_String_indexOf_1_11 : decode b_String_indexOf_1 11 = .ok (.iload_n 1, 1) := by decide +kernel
theorem d_String_indexOf_1_12 : decode b_String_indexOf_1 12 = .ok (.iload_n 2, 1) := by decide +kernel
theorem d_String_indexOf_1_13 : decode b_String_indexOf_1 13 = .ok (.aload_n 0, 1) := by decide +kernel
theorem d_String_indexOf_1_14 : decode b_String_indexOf_1 14 = .ok (.invokevirtual 505, 3) := by decide +kernel
theorem d_String_indexOf_1_17 : decode b_String_indexOf_1 17 = .ok (.invokestatic 637, 3) := by decide +kernel
theorem d_String_indexOf_1_20 : decode b_String_indexOf_1 20 = .ok (.goto 16, 3) := by decide +kernel
theorem d_String_indexOf_1_23 : decode b_String_indexOf_1 23 = .ok (.aload_n 0, 1) := by decide +kernel
theorem d_String_indexOf_1_24 : decode b_String_indexOf_1 24 = .ok (.getfield 9, 3) := by decide +kernel
theorem d_String_indexOf_1_27 : decode b_String_indexOf_1 27 = .ok (.iload_n 1, 1) := by decide +kernel
theorem d_String_indexOf_1_28 : decode b_String_indexOf_1 28 = .ok (.iload_n 2, 1) := by decide +kernel
theorem d_String_indexOf_1_29 : decode b_String_indexOf_1 29 = .ok (.aload_n 0, 1) := by decide +kernel
theorem d_String_indexOf_1_30 : decode b_String_indexOf_1 30 = .ok (.invokevirtual 505, 3) := by decide +kernel
theorem d_String_indexOf_1_33 : decode b_String_indexOf_1 33 = .ok (.invokestatic 640, 3) := by decide +kernel
theorem d_String_indexOf_1_36 : decode b_String_indexOf_1 36 = .ok (.ireturn, 1) := by decide +kernel
def s_String_indexOf_1 (x0 : Nat) (x1 : Int32) (x2 : Int32) : Option (Int32) :=
  (sG x0).bind fun _ =>
  (s_String_isLatin1 x0).bind fun q2 =>
  if q2 = 0 then (
    (sG x0).bind fun _ =>
    (sG x0).bind fun _ =>
    (s_String_length x0).bind fun q6 =>
    none)
  else (
    (sG x0).bind fun _ =>
    (sG x0).bind fun _ =>
    (s_String_length x0).bind fun q10 =>
    (s_StringLatin1_indexOf x0 x1 x2 q10).bind fun q12 =>
    some q12)
set_option maxHeartbeats 4000000 in
set_option maxRecDepth 100000 in
theorem c_String_indexOf_1 (l : Launch) (g : GG) {h : HP} {x0 : Nat} {x1 : Int32} {x2 : Int32} {z : Int32} (hs : s_String_indexOf_1 x0 x1 x2 = some z) : Ct l g y_String_indexOf_1 w_String_indexOf_1 (rmS 2 83) [.ref (sK g x0), .int x1, .int x2] h (some (.int z)) h := by
  refine Ct.of (own := R_String) (by decide) rfl rfl (Nat.le_of_ble_eq_true rfl) ?_
  intro p e s m args below meth c ls C hl hw
  have hx := C.1
  have hb := C.2.1
  have hl : lv_has ls 3 [(0, .ref (sK g x0)), (1, .int x1), (2, .int x2)] := hl
  unfold s_String_indexOf_1 at hs
  refine lv_aload_n hx hb d_String_indexOf_1_0 rfl (lv_at hl 0 rfl) ?_
  obtain ⟨_, e1, hs⟩ := ob hs
  obtain ⟨q2, e3, hs⟩ := ob hs
  refine pg_callT C hw hl.1 ml_String_492 e1 (As := []) (rest := []) (c_String_isLatin1 l g e3) rfl (rm_ok (Nat.le_of_ble_eq_true rfl) (Nat.le_of_ble_eq_true rfl)) (Nat.le_of_ble_eq_true rfl) rfl (st1 := [.int q2]) rfl d_String_indexOf_1_1 (fun H locs hw => ?_)
  refine lv_if_eq hx hb d_String_indexOf_1_4 (tgt := 23) (by decide) (fun hc => ?_) (fun hc => ?_)
  · have hs := oi_t hc hs
    refine lv_aload_n hx hb d_String_indexOf_1_23 rfl (lv_at hl 0 rfl) ?_
    obtain ⟨_, e4, hs⟩ := ob hs
    refine pg_strV C hw.2.2 (sG_inv e4) sl_String_9 d_String_indexOf_1_24 ?_
    refine lv_iload_n hx hb d_String_indexOf_1_27 rfl (lv_at hl 1 rfl) ?_
    refine lv_iload_n hx hb d_String_indexOf_1_28 rfl (lv_at hl 2 rfl) ?_
    refine lv_aload_n hx hb d_String_indexOf_1_29 rfl (lv_at hl 0 rfl) ?_
    obtain ⟨_, e5, hs⟩ := ob hs
    obtain ⟨q6, e7, hs⟩ := ob hs
    refine pg_callT C hw hl.1 ml_String_505 e5 (As := []) (rest := [.int x2, .int x1, .ref (sV g x0)]) (c_String_length l g e7) rfl (rm_ok (Nat.le_of_ble_eq_true rfl) (Nat.le_of_ble_eq_true rfl)) (Nat.le_of_ble_eq_true rfl) rfl (st1 := [.int q6, .int x2, .int x1, .ref (sV g x0)]) rfl d_String_indexOf_1_30 (fun H locs hw => ?_)
    exact (no_s hs).elim
  · have hs := oi_f hc hs
    refine lv_aload_n hx hb d_String_indexOf_1_7 rfl (lv_at hl 0 rfl) ?_
    obtain ⟨_, e8, hs⟩ := ob hs
    refine pg_strV C hw.2.2 (sG_inv e8) sl_String_9 d_String_indexOf_1_8 ?_
    refine lv_iload_n hx hb d_String_indexOf_1_11 rfl (lv_at hl 1 rfl) ?_
    refine lv_iload_n hx hb d_String_indexOf_1_12 rfl (lv_at hl 2 rfl) ?_
    refine lv_aload_n hx hb d_String_indexOf_1_13 rfl (lv_at hl 0 rfl) ?_
    obtain ⟨_, e9, hs⟩ := ob hs
    obtain ⟨q10, e11, hs⟩ := ob hs
    refine pg_callT C hw hl.1 ml_String_505 e9 (As := []) (rest := [.int x2, .int x1, .ref (sV g x0)]) (c_String_length l g e11) rfl (rm_ok (Nat.le_of_ble_eq_true rfl) (Nat.le_of_ble_eq_true rfl)) (Nat.le_of_ble_eq_true rfl) rfl (st1 := [.int q10, .int x2, .int x1, .ref (sV g x0)]) rfl d_String_indexOf_1_14 (fun H locs hw => ?_)
    obtain ⟨q12, e13, hs⟩ := ob hs
    refine pg_callS C hw hl.1 ml_String_637 (As := [.ref (sV g x0), .int x1, .int x2, .int q10]) (rest := []) (c_StringLatin1_indexOf l g e13) rfl (rm_ok (Nat.le_of_ble_eq_true rfl) (Nat.le_of_ble_eq_true rfl)) (Nat.le_of_ble_eq_true rfl) rfl (st1 := [.int q12]) rfl d_String_indexOf_1_17 (fun H locs hw => ?_)
    refine lv_goto hx hb d_String_indexOf_1_20 (tgt := 36) (by decide) ?_
    obtain rfl := Option.some.inj hs
    exact pg_iret C hw d_String_indexOf_1_36

end
section
variable {p : Program} {l : Launch} {e : Env} {s : State} {m : MethodId} {args : Array Value} {below : List Frame} {meth : Method} {c : Code} {g : GG}
theorem d_String_indexOf_0_0 : decode b_String_indexOf_0 0 = .ok (.aload_n 0, 1) := by decide +kernel
theorem d_String_indexOf_0_1 : decode b_String_indexOf_0 1 = .ok (.iload_n 1, 1) := by decide +kernel
theorem d_String_indexOf_0_2 : decode b_String_indexOf_0 2 = .ok (.iconst 0, 1) := by decide +kernel
theorem d_String_indexOf_0_3 : decode b_String_indexOf_0 3 = .ok (.invokevirtual 633, 3) := by decide +kernel
theorem d_String_indexOf_0_6 : decode b_String_indexOf_0 6 = .ok (.ireturn, 1) := by decide +kernel
def s_String_indexOf_0 (x0 : Nat) (x1 : Int32) : Option (Int32) :=
  (sG x0).bind fun _ =>
  (s_String_indexOf_1 x0 x1 0).bind fun q2 =>
  some q2
set_option maxHeartbeats 4000000 in
set_option maxRecDepth 100000 in
theorem c_String_indexOf_0 (l : Launch) (g : GG) {h : HP} {x0 : Nat} {x1 : Int32} {z : Int32} (hs : s_String_indexOf_0 x0 x1 = some z) : Ct l g y_String_indexOf_0 w_String_indexOf_0 (rmS 3 105) [.ref (sK g x0), .int x1] h (some (.int z)) h := by
  refine Ct.of (own := R_String) (by decide) rfl rfl (Nat.le_of_ble_eq_true rfl) ?_
  intro p e s m args below meth c ls C hl hw
  have hx := C.1
  have hb := C.2.1
  have hl : lv_has ls 2 [(0, .ref (sK g x0)), (1, .int x1)] := hl
  unfold s_String_indexOf_0 at hs
  refine lv_aload_n hx hb d_String_indexOf_0_0 rfl (lv_at hl 0 rfl) ?_
  refine lv_iload_n hx hb d_String_indexOf_0_1 rfl (lv_at hl 1 rfl) ?_
  refine lv_iconst (v := 0) hx hb d_String_indexOf_0_2 (by decide) ?_
  obtain ⟨_, e1, hs⟩ := ob hs
  obtain ⟨q2, e3, hs⟩ := ob hs
  refine pg_callT C hw hl.1 ml_String_633 e1 (As := [.int x1, .int 0]) (rest := []) (c_String_indexOf_1 l g e3) rfl (rm_ok (Nat.le_of_ble_eq_true rfl) (Nat.le_of_ble_eq_true rfl)) (Nat.le_of_ble_eq_true rfl) rfl (st1 := [.int q2]) rfl d_String_indexOf_0_3 (fun H locs hw => ?_)
  obtain rfl := Option.some.inj hs
  exact pg_iret C hw d_String_indexOf_0_6

end
