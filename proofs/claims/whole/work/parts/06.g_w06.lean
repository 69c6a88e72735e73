section
variable {p : Program} {l : Launch} {e : Env} {s : State} {m : MethodId} {args : Array Value} {below : List Frame} {meth : Method} {c : Code} {g : GG}
theorem d_AdjoinedSetsModel_isPair_0 : decode b_AdjoinedSetsModel_isPair 0 = .ok (.iload_n 0, 1) := by decide +kernel
theorem d_AdjoinedSetsModel_isPair_1 : decode b_AdjoinedSetsModel_isPair 1 = .ok (.bipush 43, 2) := by decide +kernel
theorem d_AdjoinedSetsModel_isPair_3 : decode b_AdjoinedSetsModel_isPair 3 = .ok (.if_icmp .eq 51, 3) := by decide +kernel
theorem d_AdjoinedSetsModel_isPair_6 : decode b_AdjoinedSetsModel_isPair 6 = .ok (.iload_n 0, 1) := by decide +kernel
theorem d_AdjoinedSetsModel_isPair_7 : decode b_AdjoinedSetsModel_isPair 7 = .ok (.bipush 124, 2) := by decide +kernel
theorem d_AdjoinedSetsModel_isPair_9 : decode b_AdjoinedSetsModel_isPair 9 = .ok (.if_icmp .eq 45, 3) := by decide +kernel
theorem d_AdjoinedSetsModel_isPair_12 : decode b_AdjoinedSetsModel_isPair 12 = .ok (.iload_n 0, 1) := by decide +kernel
theorem d_AdjoinedSetsModel_isPair_13 : decode b_AdjoinedSetsModel_isPair 13 = .ok (.bipush 38, 2) := by decide +kernel
theorem d_AdjoinedSetsModel_isPair_15 : decode b_AdjoinedSetsModel_isPair 15 = .ok (.if_icmp .eq 39, 3) := by decide +kernel
theorem d_AdjoinedSetsModel_isPair_18 : decode b_AdjoinedSetsModel_isPair 18 = .ok (.iload_n 0, 1) := by decide +kernel
theorem d_AdjoinedSetsModel_isPair_19 : decode b_AdjoinedSetsModel_isPair 19 = .ok (.bipush 45, 2) := by decide +kernel
theorem d_AdjoinedSetsModel_isPair_21 : decode b_AdjoinedSetsModel_isPair 21 = .ok (.if_icmp .eq 33, 3) := by decide +kernel
theorem d_AdjoinedSetsModel_isPair_24 : decode b_AdjoinedSetsModel_isPair 24 = .ok (.iload_n 0, 1) := by decide +kernel
theorem d_AdjoinedSetsModel_isPair_25 : decode b_AdjoinedSetsModel_isPair 25 = .ok (.bipush 60, 2) := by decide +kernel
theorem d_AdjoinedSetsModel_isPair_27 : decode b_AdjoinedSetsModel_isPair 27 = .ok (.if_icmp .eq 27, 3) := by decide +kernel
theorem d_AdjoinedSetsModel_isPair_30 : decode b_AdjoinedSetsModel_isPair 30 = .ok (.iload_n 0, 1) := by decide +kernel
theorem d_AdjoinedSetsModel_isPair_31 : decode b_AdjoinedSetsModel_isPair 31 = .ok (.bipush 61, 2) := by decide +kernel
theorem d_AdjoinedSetsModel_isPair_33 : decode b_AdjoinedSetsModel_isPair 33 = .ok (.if_icmp .eq 21, 3) := by decide +kernel
theorem d_AdjoinedSetsModel_isPair_36 : decode b_AdjoinedSetsModel_isPair 36 = .ok (.iload_n 0, 1) := by decide +kernel
theorem d_AdjoinedSetsModel_isPair_37 : decode b_AdjoinedSetsModel_isPair 37 = .ok (.bipush 94, 2) := by decide +kernel
theorem d_AdjoinedSetsModel_isPair_39 : decode b_AdjoinedSetsModel_isPair 39 = .ok (.if_icmp .eq 15, 3) := by decide +kernel
theorem d_AdjoinedSetsModel_isPair_42 : decode b_AdjoinedSetsModel_isPair 42 = .ok (.iload_n 0, 1) := by decide +kernel
theorem d_AdjoinedSetsModel_isPair_43 : decode b_AdjoinedSetsModel_isPair 43 = .ok (.bipush 118, 2) := by decide +kernel
theorem d_AdjoinedSetsModel_isPair_45 : decode b_AdjoinedSetsModel_isPair 45 = .ok (.if_icmp .eq 9, 3) := by decide +kernel
theorem d_AdjoinedSetsModel_isPair_48 : decode b_AdjoinedSetsModel_isPair 48 = .ok (.iload_n 0, 1) := by decide +kernel
theorem d_AdjoinedSetsModel_isPair_49 : decode b_AdjoinedSetsModel_isPair 49 = .ok (.bipush 62, 2) := by decide +kernel
theorem d_AdjoinedSetsModel_isPair_51 : decode b_AdjoinedSetsModel_isPair 51 = .ok (.if_icmp .ne 7, 3) := by decide +kernel
theorem d_AdjoinedSetsModel_isPair_54 : decode b_AdjoinedSetsModel_isPair 54 = .ok (.iconst 1, 1) := by decide +kernel
theorem d_AdjoinedSetsModel_isPair_55 : decode b_AdjoinedSetsModel_isPair 55 = .ok (.goto 4, 3) := by decide +kernel
theorem d_AdjoinedSetsModel_isPair_58 : decode b_AdjoinedSetsModel_isPair 58 = .ok (.iconst 0, 1) := by decide +kernel
theorem d_AdjoinedSetsModel_isPair_59 : decode b_AdjoinedSetsModel_isPair 59 = .ok (.ireturn, 1) := by decide +kernel
def s_AdjoinedSetsModel_isPair (x0 : Int32) : Option (Int32) :=
  if x0 = 43 then (
    some 1)
  else (
    if x0 = 124 then (
      some 1)
    else (
      if x0 = 38 then (
        some 1)
      else (
        if x0 = 45 then (
          some 1)
        else (
          if x0 = 60 then (
            some 1)
          else (
            if x0 = 61 then (
              some 1)
            else (
              if x0 = 94 then (
                some 1)
              else (
                if x0 = 118 then (
                  some 1)
                else (
                  if x0 = 62 then (
                    some 1)
                  else (
                    some 0)))))))))
set_option maxHeartbeats 4000000 in
set_option maxRecDepth 100000 in
theorem c_AdjoinedSetsModel_isPair (l : Launch) (g : GG) {h : HP} {x0 : Int32} {z : Int32} (hs : s_AdjoinedSetsModel_isPair x0 = some z) : Ct l g y_AdjoinedSetsModel_isPair w_AdjoinedSetsModel_isPair (rmS 0 0) [.int x0] h (some (.int z)) h := by
  refine Ct.of (own := R_AdjoinedSetsModel) (by decide) rfl rfl (Nat.le_of_ble_eq_true rfl) ?_
  intro p e s m args below meth c ls C hl hw
  have hx := C.1
  have hb := C.2.1
  have hl : lv_has ls 1 [(0, .int x0)] := hl
  unfold s_AdjoinedSetsModel_isPair at hs
  refine lv_iload_n hx hb d_AdjoinedSetsModel_isPair_0 rfl (lv_at hl 0 rfl) ?_
  refine lv_bipush (v := 43) hx hb d_AdjoinedSetsModel_isPair_1 (by decide) ?_
  refine lv_icmp_eq hx hb d_AdjoinedSetsModel_isPair_3 (tgt := 54) (by decide) (fun hc => ?_) (fun hc => ?_)
  · have hs := oi_t hc hs
    refine lv_iconst (v := 1) hx hb d_AdjoinedSetsModel_isPair_54 (by decide) ?_
    refine lv_goto hx hb d_AdjoinedSetsModel_isPair_55 (tgt := 59) (by decide) ?_
    obtain rfl := Option.some.inj hs
    exact pg_zret (v := 1) C hw rfl d_AdjoinedSetsModel_isPair_59
  · have hs := oi_f hc hs
    refine lv_iload_n hx hb d_AdjoinedSetsModel_isPair_6 rfl (lv_at hl 0 rfl) ?_
    refine lv_bipush (v := 124) hx hb d_AdjoinedSetsModel_isPair_7 (by decide) ?_
    refine lv_icmp_eq hx hb d_AdjoinedSetsModel_isPair_9 (tgt := 54) (by decide) (fun hc => ?_) (fun hc => ?_)
    · have hs := oi_t hc hs
      refine lv_iconst (v := 1) hx hb d_AdjoinedSetsModel_isPair_54 (by decide) ?_
      refine lv_goto hx hb d_AdjoinedSetsModel_isPair_55 (tgt := 59) (by decide) ?_
      obtain rfl := Option.some.inj hs
      exact pg_zret (v := 1) C hw rfl d_AdjoinedSetsModel_isPair_59
    · have hs := oi_f hc hs
      refine lv_iload_n hx hb d_AdjoinedSetsModel_isPair_12 rfl (lv_at hl 0 rfl) ?_
      refine lv_bipush (v := 38) hx hb d_AdjoinedSetsModel_isPair_13 (by decide) ?_
      refine lv_icmp_eq hx hb d_AdjoinedSetsModel_isPair_15 (tgt := 54) (by decide) (fun hc => ?_) (fun hc => ?_)
      · have hs := oi_t hc hs
        refine lv_iconst (v := 1) hx hb d_AdjoinedSetsModel_isPair_54 (by decide) ?_
        refine lv_goto hx hb d_AdjoinedSetsModel_isPair_55 (tgt := 59) (by decide) ?_
        obtain rfl := Option.some.inj hs
        exact pg_zret (v := 1) C hw rfl d_AdjoinedSetsModel_isPair_59
      · have hs := oi_f hc hs
        refine lv_iload_n hx hb d_AdjoinedSetsModel_isPair_18 rfl (lv_at hl 0 rfl) ?_
        refine lv_bipush (v := 45) hx hb d_AdjoinedSetsModel_isPair_19 (by decide) ?_
        refine lv_icmp_eq hx hb d_AdjoinedSetsModel_isPair_21 (tgt := 54) (by decide) (fun hc => ?_) (fun hc => ?_)
        · have hs := oi_t hc hs
          refine lv_iconst (v := 1) hx hb d_AdjoinedSetsModel_isPair_54 (by decide) ?_
          refine lv_goto hx hb d_AdjoinedSetsModel_isPair_55 (tgt := 59) (by decide) ?_
          obtain rfl := Option.some.inj hs
          exact pg_zret (v := 1) C hw rfl d_AdjoinedSetsModel_isPair_59
        · have hs := oi_f hc hs
          refine lv_iload_n hx hb d_AdjoinedSetsModel_isPair_24 rfl (lv_at hl 0 rfl) ?_
          refine lv_bipush (v := 60) hx hb d_AdjoinedSetsModel_isPair_25 (by decide) ?_
          refine lv_icmp_eq hx hb d_AdjoinedSetsModel_isPair_27 (tgt := 54) (by decide) (fun hc => ?_) (fun hc => ?_)
          · have hs := oi_t hc hs
            refine lv_iconst (v := 1) hx hb d_AdjoinedSetsModel_isPair_54 (by decide) ?_
            refine lv_goto hx hb d_AdjoinedSetsModel_isPair_55 (tgt := 59) (by decide) ?_
            obtain rfl := Option.some.inj hs
            exact pg_zret (v := 1) C hw rfl d_AdjoinedSetsModel_isPair_59
          · have hs := oi_f hc hs
            refine lv_iload_n hx hb d_AdjoinedSetsModel_isPair_30 rfl (lv_at hl 0 rfl) ?_
            refine lv_bipush (v := 61) hx hb d_AdjoinedSetsModel_isPair_31 (by decide) ?_
            refine lv_icmp_eq hx hb d_AdjoinedSetsModel_isPair_33 (tgt := 54) (by decide) (fun hc => ?_) (fun hc => ?_)
            · have hs := oi_t hc hs
              refine lv_iconst (v := 1) hx hb d_AdjoinedSetsModel_isPair_54 (by decide) ?_
              refine lv_goto hx hb d_AdjoinedSetsModel_isPair_55 (tgt := 59) (by decide) ?_
              obtain rfl := Option.some.inj hs
              exact pg_zret (v := 1) C hw rfl d_AdjoinedSetsModel_isPair_59
            · have hs := oi_f hc hs
              refine lv_iload_n hx hb d_AdjoinedSetsModel_isPair_36 rfl (lv_at hl 0 rfl) ?_
              refine lv_bipush (v := 94) hx hb d_AdjoinedSetsModel_isPair_37 (by decide) ?_
              refine lv_icmp_eq hx hb d_AdjoinedSetsModel_isPair_39 (tgt := 54) (by decide) (fun hc => ?_) (fun hc => ?_)
              · have hs := oi_t hc hs
                refine lv_iconst (v := 1) hx hb d_AdjoinedSetsModel_isPair_54 (by decide) ?_
                refine lv_goto hx hb d_AdjoinedSetsModel_isPair_55 (tgt := 59) (by decide) ?_
                obtain rfl := Option.some.inj hs
                exact pg_zret (v := 1) C hw rfl d_AdjoinedSetsModel_isPair_59
              · have hs := oi_f hc hs
                refine lv_iload_n hx hb d_AdjoinedSetsModel_isPair_42 rfl (lv_at hl 0 rfl) ?_
                refine lv_bipush (v := 118) hx hb d_AdjoinedSetsModel_isPair_43 (by decide) ?_
                refine lv_icmp_eq hx hb d_AdjoinedSetsModel_isPair_45 (tgt := 54) (by decide) (fun hc => ?_) (fun hc => ?_)
                · have hs := oi_t hc hs
                  refine lv_iconst (v := 1) hx hb d_AdjoinedSetsModel_isPair_54 (by decide) ?_
                  refine lv_goto hx hb d_AdjoinedSetsModel_isPair_55 (tgt := 59) (by decide) ?_
                  obtain rfl := Option.some.inj hs
                  exact pg_zret (v := 1) C hw rfl d_AdjoinedSetsModel_isPair_59
                · have hs := oi_f hc hs
                  refine lv_iload_n hx hb d_AdjoinedSetsModel_isPair_48 rfl (lv_at hl 0 rfl) ?_
                  refine lv_bipush (v := 62) hx hb d_AdjoinedSetsModel_isPair_49 (by decide) ?_
                  refine lv_icmp_ne hx hb d_AdjoinedSetsModel_isPair_51 (tgt := 58) (by decide) (fun hc => ?_) (fun hc => ?_)
                  · have hs := oi_f hc hs
                    refine lv_iconst (v := 0) hx hb d_AdjoinedSetsModel_isPair_58 (by decide) ?_
                    obtain rfl := Option.some.inj hs
                    exact pg_zret (v := 0) C hw rfl d_AdjoinedSetsModel_isPair_59
                  · have hs := oi_t hc hs
                    refine lv_iconst (v := 1) hx hb d_AdjoinedSetsModel_isPair_54 (by decide) ?_
                    refine lv_goto hx hb d_AdjoinedSetsModel_isPair_55 (tgt := 59) (by decide) ?_
                    obtain rfl := Option.some.inj hs
                    exact pg_zret (v := 1) C hw rfl d_AdjoinedSetsModel_isPair_59

end
section
variable {p : Program} {l : Launch} {e : Env} {s : State} {m : MethodId} {args : Array Value} {below : List Frame} {meth : Method} {c : Code} {g : GG}
theorem d_AdjoinedSetsModel_isSingle_0 : decode b_AdjoinedSetsModel_isSingle 0 = .ok (.iload_n 0, 1) := by decide +kernel
theorem d_AdjoinedSetsModel_isSingle_1 : decode b_AdjoinedSetsModel_isSingle 1 = .ok (.bipush 85, 2) := by decide +kernel
theorem d_AdjoinedSetsModel_isSingle_3 : decode b_AdjoinedSetsModel_isSingle 3 = .ok (.if_icmp .eq 21, 3) := by decide +kernel
theorem d_AdjoinedSetsModel_isSingle_6 : decode b_AdjoinedSetsModel_isSingle 6 = .ok (.iload_n 0, 1) := by decide +kernel
theorem d_AdjoinedSetsModel_isSingle_7 : decode b_AdjoinedSetsModel_isSingle 7 = .ok (.bipush 80, 2) := by decide +kernel
theorem d_AdjoinedSetsModel_isSingle_9 : decode b_AdjoinedSetsModel_isSingle 9 = .ok (.if_icmp .eq 15, 3) := by decide +kernel
theorem d_AdjoinedSetsModel_isSingle_12 : decode b_AdjoinedSetsModel_isSingle 12 = .ok (.iload_n 0, 1) := by decide +kernel
theorem d_AdjoinedSetsModel_isSingle_13 : decode b_AdjoinedSetsModel_isSingle 13 = .ok (.bipush 84, 2) := by decide +kernel
theorem d_AdjoinedSetsModel_isSingle_15 : decode b_AdjoinedSetsModel_isSingle 15 = .ok (.if_icmp .eq 9, 3) := by decide +kernel
theorem d_AdjoinedSetsModel_isSingle_18 : decode b_AdjoinedSetsModel_isSingle 18 = .ok (.iload_n 0, 1) := by decide +kernel
theorem d_AdjoinedSetsModel_isSingle_19 : decode b_AdjoinedSetsModel_isSingle 19 = .ok (.bipush 33, 2) := by decide +kernel
theorem d_AdjoinedSetsModel_isSingle_21 : decode b_AdjoinedSetsModel_isSingle 21 = .ok (.if_icmp .ne 7, 3) := by decide +kernel
theorem d_AdjoinedSetsModel_isSingle_24 : decode b_AdjoinedSetsModel_isSingle 24 = .ok (.iconst 1, 1) := by decide +kernel
theorem d_AdjoinedSetsModel_isSingle_25 : decode b_AdjoinedSetsModel_isSingle 25 = .ok (.goto 4, 3) := by decide +kernel
theorem d_AdjoinedSetsModel_isSingle_28 : decode b_AdjoinedSetsModel_isSingle 28 = .ok (.iconst 0, 1) := by decide +kernel
theorem d_AdjoinedSetsModel_isSingle_29 : decode b_AdjoinedSetsModel_isSingle 29 = .ok (.ireturn, 1) := by decide +kernel
def s_AdjoinedSetsModel_isSingle (x0 : Int32) : Option (Int32) :=
  if x0 = 85 then (
    some 1)
  else (
    if x0 = 80 then (
      some 1)
    else (
      if x0 = 84 then (
        some 1)
      else (
        if x0 = 33 then (
          some 1)
        else (
          some 0))))
set_option maxHeartbeats 4000000 in
set_option maxRecDepth 100000 in
theorem c_AdjoinedSetsModel_isSingle (l : Launch) (g : GG) {h : HP} {x0 : Int32} {z : Int32} (hs : s_AdjoinedSetsModel_isSingle x0 = some z) : Ct l g y_AdjoinedSetsModel_isSingle w_AdjoinedSetsModel_isSingle (rmS 0 0) [.int x0] h (some (.int z)) h := by
  refine Ct.of (own := R_AdjoinedSetsModel) (by decide) rfl rfl (Nat.le_of_ble_eq_true rfl) ?_
  intro p e s m args below meth c ls C hl hw
  have hx := C.1
  have hb := C.2.1
  have hl : lv_has ls 1 [(0, .int x0)] := hl
  unfold s_AdjoinedSetsModel_isSingle at hs
  refine lv_iload_n hx hb d_AdjoinedSetsModel_isSingle_0 rfl (lv_at hl 0 rfl) ?_
  refine lv_bipush (v := 85) hx hb d_AdjoinedSetsModel_isSingle_1 (by decide) ?_
  refine lv_icmp_eq hx hb d_AdjoinedSetsModel_isSingle_3 (tgt := 24) (by decide) (fun hc => ?_) (fun hc => ?_)
  · have hs := oi_t hc hs
    refine lv_iconst (v := 1) hx hb d_AdjoinedSetsModel_isSingle_24 (by decide) ?_
    refine lv_goto hx hb d_AdjoinedSetsModel_isSingle_25 (tgt := 29) (by decide) ?_
    obtain rfl := Option.some.inj hs
    exact pg_zret (v := 1) C hw rfl d_AdjoinedSetsModel_isSingle_29
  · have hs := oi_f hc hs
    refine lv_iload_n hx hb d_AdjoinedSetsModel_isSingle_6 rfl (lv_at hl 0 rfl) ?_
    refine lv_bipush (v := 80) hx hb d_AdjoinedSetsModel_isSingle_7 (by decide) ?_
    refine lv_icmp_eq hx hb d_AdjoinedSetsModel_isSingle_9 (tgt := 24) (by decide) (fun hc => ?_) (fun hc => ?_)
    · have hs := oi_t hc hs
      refine lv_iconst (v := 1) hx hb d_AdjoinedSetsModel_isSingle_24 (by decide) ?_
      refine lv_goto hx hb d_AdjoinedSetsModel_isSingle_25 (tgt := 29) (by decide) ?_
      obtain rfl := Option.some.inj hs
      exact pg_zret (v := 1) C hw rfl d_AdjoinedSetsModel_isSingle_29
    · have hs := oi_f hc hs
      refine lv_iload_n hx hb d_AdjoinedSetsModel_isSingle_12 rfl (lv_at hl 0 rfl) ?_
      refine lv_bipush (v := 84) hx hb d_AdjoinedSetsModel_isSingle_13 (by decide) ?_
      refine lv_icmp_eq hx hb d_AdjoinedSetsModel_isSingle_15 (tgt := 24) (by decide) (fun hc => ?_) (fun hc => ?_)
      · have hs := oi_t hc hs
        refine lv_iconst (v := 1) hx hb d_AdjoinedSetsModel_isSingle_24 (by decide) ?_
        refine lv_goto hx hb d_AdjoinedSetsModel_isSingle_25 (tgt := 29) (by decide) ?_
        obtain rfl := Option.some.inj hs
        exact pg_zret (v := 1) C hw rfl d_AdjoinedSetsModel_isSingle_29
      · have hs := oi_f hc hs
        refine lv_iload_n hx hb d_AdjoinedSetsModel_isSingle_18 rfl (lv_at hl 0 rfl) ?_
        refine lv_bipush (v := 33) hx hb d_AdjoinedSetsModel_isSingle_19 (by decide) ?_
        refine lv_icmp_ne hx hb d_AdjoinedSetsModel_isSingle_21 (tgt := 28) (by decide) (fun hc => ?_) (fun hc => ?_)
        · have hs := oi_f hc hs
          refine lv_iconst (v := 0) hx hb d_AdjoinedSetsModel_isSingle_28 (by decide) ?_
          obtain rfl := Option.some.inj hs
          exact pg_zret (v := 0) C hw rfl d_AdjoinedSetsModel_isSingle_29
        · have hs := oi_t hc hs
          refine lv_iconst (v := 1) hx hb d_AdjoinedSetsModel_isSingle_24 (by decide) ?_
          refine lv_goto hx hb d_AdjoinedSetsModel_isSingle_25 (tgt := 29) (by decide) ?_
          obtain rfl := Option.some.inj hs
          exact pg_zret (v := 1) C hw rfl d_AdjoinedSetsModel_isSingle_29

end
section
variable {p : Program} {l : Launch} {e : Env} {s : State} {m : MethodId} {args : Array Value} {below : List Frame} {meth : Method} {c : Code} {g : GG}
theorem d_AdjoinedSetsModel_beginsTerm_0 : decode b_AdjoinedSetsModel_beginsTerm 0 = .ok (.iload_n 0, 1) := by decide +kernel
theorem d_AdjoinedSetsModel_beginsTerm_1 : decode b_AdjoinedSetsModel_beginsTerm 1 = .ok (.invokestatic 96, 3) := by decide +kernel
theorem d_AdjoinedSetsModel_beginsTerm_4 : decode b_AdjoinedSetsModel_beginsTerm 4 = .ok (.ifCond .ne 50, 3) := by decide +kernel
theorem d_AdjoinedSetsModel_beginsTerm_7 : decode b_AdjoinedSetsModel_beginsTerm 7 = .ok (.iload_n 0, 1) := by decide +kernel
theorem d_AdjoinedSetsModel_beginsTerm_8 : decode b_AdjoinedSetsModel_beginsTerm 8 = .ok (.invokestatic 100, 3) := by decide +kernel
theorem d_AdjoinedSetsModel_beginsTerm_11 : decode b_AdjoinedSetsModel_beginsTerm 11 = .ok (.ifCond .ne 43, 3) := by decide +kernel
theorem d_AdjoinedSetsModel_beginsTerm_14 : decode b_AdjoinedSetsModel_beginsTerm 14 = .ok (.iload_n 0, 1) := by decide +kernel
theorem d_AdjoinedSetsModel_beginsTerm_15 : decode b_AdjoinedSetsModel_beginsTerm 15 = .ok (.invokestatic 103, 3) := by decide +kernel
theorem d_AdjoinedSetsModel_beginsTerm_18 : decode b_AdjoinedSetsModel_beginsTerm 18 = .ok (.ifCond .ne 36, 3) := by decide +kernel
theorem d_AdjoinedSetsModel_beginsTerm_21 : decode b_AdjoinedSetsModel_beginsTerm 21 = .ok (.iload_n 0, 1) := by decide +kernel
theorem d_AdjoinedSetsModel_beginsTerm_22 : decode b_AdjoinedSetsModel_beginsTerm 22 = .ok (.bipush 123, 2) := by decide +kernel
theorem d_AdjoinedSetsModel_beginsTerm_24 : decode b_AdjoinedSetsModel_beginsTerm 24 = .ok (.if_icmp .eq 30, 3) := by decide +kernel
theorem d_AdjoinedSetsModel_beginsTerm_27 : decode b_AdjoinedSetsModel_beginsTerm 27 = .ok (.iload_n 0, 1) := by decide +kernel
theorem d_AdjoinedSetsModel_beginsTerm_28 : decode b_AdjoinedSetsModel_beginsTerm 28 = .ok (.bipush 73, 2) := by decide +kernel
theorem d_AdjoinedSetsModel_beginsTerm_30 : decode b_AdjoinedSetsModel_beginsTerm 30 = .ok (.if_icmp .eq 24, 3) := by decide +kernel
theorem d_AdjoinedSetsModel_beginsTerm_33 : decode b_AdjoinedSetsModel_beginsTerm 33 = .ok (.iload_n 0, 1) := by decide +kernel
theorem d_AdjoinedSetsModel_beginsTerm_34 : decode b_AdjoinedSetsModel_beginsTerm 34 = .ok (.invokestatic 106, 3) := by decide +kernel
theorem d_AdjoinedSetsModel_beginsTerm_37 : decode b_AdjoinedSetsModel_beginsTerm 37 = .ok (.ifCond .ne 21, 3) := by decide +kernel
theorem d_AdjoinedSetsModel_beginsTerm_40 : decode b_AdjoinedSetsModel_beginsTerm 40 = .ok (.iload_n 0, 1) := by decide +kernel
theorem d_AdjoinedSetsModel_beginsTerm_41 : decode b_AdjoinedSetsModel_beginsTerm 41 = .ok (.invokestatic 109, 3) := by decide +kernel
theorem d_AdjoinedSetsModel_beginsTerm_44 : decode b_AdjoinedSetsModel_beginsTerm 44 = .ok (.ifCond .ne 10, 3) := by decide +kernel
theorem d_AdjoinedSetsModel_beginsTerm_47 : decode b_AdjoinedSetsModel_beginsTerm 47 = .ok (.iload_n 0, 1) := by decide +kernel
theorem d_AdjoinedSetsModel_beginsTerm_48 : decode b_AdjoinedSetsModel_beginsTerm 48 = .ok (.invokestatic 112, 3) := by decide +kernel
theorem d_AdjoinedSetsModel_beginsTerm_51 : decode b_AdjoinedSetsModel_beginsTerm 51 = .ok (.ifCond .eq 7, 3) := by decide +kernel
theorem d_AdjoinedSetsModel_beginsTerm_54 : decode b_AdjoinedSetsModel_beginsTerm 54 = .ok (.iconst 1, 1) := by decide +kernel
theorem d_AdjoinedSetsModel_beginsTerm_55 : decode b_AdjoinedSetsModel_beginsTerm 55 = .ok (.goto 4, 3) := by decide +kernel
theorem d_AdjoinedSetsModel_beginsTerm_58 : decode b_AdjoinedSetsModel_beginsTerm 58 = .ok (.iconst 0, 1) := by decide +kernel
theorem d_AdjoinedSetsModel_beginsTerm_59 : decode b_AdjoinedSetsModel_beginsTerm 59 = .ok (.ireturn, 1) := by decide +kernel
def s_AdjoinedSetsModel_beginsTerm (x0 : Int32) : Option (Int32) :=
  (s_AdjoinedSetsModel_isDigit x0).bind fun q1 =>
  if q1 = 0 then (
    (s_AdjoinedSetsModel_isLow x0).bind fun q4 =>
    if q4 = 0 then (
      (s_AdjoinedSetsModel_isFunction x0).bind fun q7 =>
      if q7 = 0 then (
        if x0 = 123 then (
          some 1)
        else (
          if x0 = 73 then (
            some 1)
          else (
            (s_AdjoinedSetsModel_beginsFormula x0).bind fun q12 =>
            if q12 = 0 then (
              (s_AdjoinedSetsModel_isPair x0).bind fun q15 =>
              if q15 = 0 then (
                (s_AdjoinedSetsModel_isSingle x0).bind fun q18 =>
                if q18 = 0 then (
                  some 0)
                else (
                  some 1))
              else (
                some 1))
            else (
              some 0))))
      else (
        some 1))
    else (
      some 1))
  else (
    some 1)
set_option maxHeartbeats 4000000 in
set_option maxRecDepth 100000 in
theorem c_AdjoinedSetsModel_beginsTerm (l : Launch) (g : GG) {h : HP} {x0 : Int32} {z : Int32} (hs : s_AdjoinedSetsModel_beginsTerm x0 = some z) : Ct l g y_AdjoinedSetsModel_beginsTerm w_AdjoinedSetsModel_beginsTerm (rmS 1 20) [.int x0] h (some (.int z)) h := by
  refine Ct.of (own := R_AdjoinedSetsModel) (by decide) rfl rfl (Nat.le_of_ble_eq_true rfl) ?_
  intro p e s m args below meth c ls C hl hw
  have hx := C.1
  have hb := C.2.1
  have hl : lv_has ls 1 [(0, .int x0)] := hl
  unfold s_AdjoinedSetsModel_beginsTerm at hs
  refine lv_iload_n hx hb d_AdjoinedSetsModel_beginsTerm_0 rfl (lv_at hl 0 rfl) ?_
  obtain ⟨q1, e2, hs⟩ := ob hs
  refine pg_callS C hw hl.1 ml_AdjoinedSetsModel_96 (As := [.int x0]) (rest := []) (c_AdjoinedSetsModel_isDigit l g e2) rfl (rm_ok (Nat.le_of_ble_eq_true rfl) (Nat.le_of_ble_eq_true rfl)) (Nat.le_of_ble_eq_true rfl) rfl (st1 := [.int q1]) rfl d_AdjoinedSetsModel_beginsTerm_1 (fun H locs hw => ?_)
  refine lv_if_ne hx hb d_AdjoinedSetsModel_beginsTerm_4 (tgt := 54) (by decide) (fun hc => ?_) (fun hc => ?_)
  · have hs := oi_f hc hs
    refine lv_iconst (v := 1) hx hb d_AdjoinedSetsModel_beginsTerm_54 (by decide) ?_
    refine lv_goto hx hb d_AdjoinedSetsModel_beginsTerm_55 (tgt := 59) (by decide) ?_
    obtain rfl := Option.some.inj hs
    exact pg_zret (v := 1) C hw rfl d_AdjoinedSetsModel_beginsTerm_59
  · have hs := oi_t hc hs
    refine lv_iload_n hx hb d_AdjoinedSetsModel_beginsTerm_7 rfl (lv_at hl 0 rfl) ?_
    obtain ⟨q4, e5, hs⟩ := ob hs
    refine pg_callS C hw hl.1 ml_AdjoinedSetsModel_100 (As := [.int x0]) (rest := []) (c_AdjoinedSetsModel_isLow l g e5) rfl (rm_ok (Nat.le_of_ble_eq_true rfl) (Nat.le_of_ble_eq_true rfl)) (Nat.le_of_ble_eq_true rfl) rfl (st1 := [.int q4]) rfl d_AdjoinedSetsModel_beginsTerm_8 (fun H locs hw => ?_)
    refine lv_if_ne hx hb d_AdjoinedSetsModel_beginsTerm_11 (tgt := 54) (by decide) (fun hc => ?_) (fun hc => ?_)
    · have hs := oi_f hc hs
      refine lv_iconst (v := 1) hx hb d_AdjoinedSetsModel_beginsTerm_54 (by decide) ?_
      refine lv_goto hx hb d_AdjoinedSetsModel_beginsTerm_55 (tgt := 59) (by decide) ?_
      obtain rfl := Option.some.inj hs
      exact pg_zret (v := 1) C hw rfl d_AdjoinedSetsModel_beginsTerm_59
    · have hs := oi_t hc hs
      refine lv_iload_n hx hb d_AdjoinedSetsModel_beginsTerm_14 rfl (lv_at hl 0 rfl) ?_
      obtain ⟨q7, e8, hs⟩ := ob hs
      refine pg_callS C hw hl.1 ml_AdjoinedSetsModel_103 (As := [.int x0]) (rest := []) (c_AdjoinedSetsModel_isFunction l g e8) rfl (rm_ok (Nat.le_of_ble_eq_true rfl) (Nat.le_of_ble_eq_true rfl)) (Nat.le_of_ble_eq_true rfl) rfl (st1 := [.int q7]) rfl d_AdjoinedSetsModel_beginsTerm_15 (fun H locs hw => ?_)
      refine lv_if_ne hx hb d_AdjoinedSetsModel_beginsTerm_18 (tgt := 54) (by decide) (fun hc => ?_) (fun hc => ?_)
      · have hs := oi_f hc hs
        refine lv_iconst (v := 1) hx hb d_AdjoinedSetsModel_beginsTerm_54 (by decide) ?_
        refine lv_goto hx hb d_AdjoinedSetsModel_beginsTerm_55 (tgt := 59) (by decide) ?_
        obtain rfl := Option.some.inj hs
        exact pg_zret (v := 1) C hw rfl d_AdjoinedSetsModel_beginsTerm_59
      · have hs := oi_t hc hs
        refine lv_iload_n hx hb d_AdjoinedSetsModel_beginsTerm_21 rfl (lv_at hl 0 rfl) ?_
        refine lv_bipush (v := 123) hx hb d_AdjoinedSetsModel_beginsTerm_22 (by decide) ?_
        refine lv_icmp_eq hx hb d_AdjoinedSetsModel_beginsTerm_24 (tgt := 54) (by decide) (fun hc => ?_) (fun hc => ?_)
        · have hs := oi_t hc hs
          refine lv_iconst (v := 1) hx hb d_AdjoinedSetsModel_beginsTerm_54 (by decide) ?_
          refine lv_goto hx hb d_AdjoinedSetsModel_beginsTerm_55 (tgt := 59) (by decide) ?_
          obtain rfl := Option.some.inj hs
          exact pg_zret (v := 1) C hw rfl d_AdjoinedSetsModel_beginsTerm_59
        · have hs := oi_f hc hs
          refine lv_iload_n hx hb d_AdjoinedSetsModel_beginsTerm_27 rfl (lv_at hl 0 rfl) ?_
          refine lv_bipush (v := 73) hx hb d_AdjoinedSetsModel_beginsTerm_28 (by decide) ?_
          refine lv_icmp_eq hx hb d_AdjoinedSetsModel_beginsTerm_30 (tgt := 54) (by decide) (fun hc => ?_) (fun hc => ?_)
          · have hs := oi_t hc hs
            refine lv_iconst (v := 1) hx hb d_AdjoinedSetsModel_beginsTerm_54 (by decide) ?_
            refine lv_goto hx hb d_AdjoinedSetsModel_beginsTerm_55 (tgt := 59) (by decide) ?_
            obtain rfl := Option.some.inj hs
            exact pg_zret (v := 1) C hw rfl d_AdjoinedSetsModel_beginsTerm_59
          · have hs := oi_f hc hs
            refine lv_iload_n hx hb d_AdjoinedSetsModel_beginsTerm_33 rfl (lv_at hl 0 rfl) ?_
            obtain ⟨q12, e13, hs⟩ := ob hs
            refine pg_callS C hw hl.1 ml_AdjoinedSetsModel_106 (As := [.int x0]) (rest := []) (c_AdjoinedSetsModel_beginsFormula l g e13) rfl (rm_ok (Nat.le_of_ble_eq_true rfl) (Nat.le_of_ble_eq_true rfl)) (Nat.le_of_ble_eq_true rfl) rfl (st1 := [.int q12]) rfl d_AdjoinedSetsModel_beginsTerm_34 (fun H locs hw => ?_)
            refine lv_if_ne hx hb d_AdjoinedSetsModel_beginsTerm_37 (tgt := 58) (by decide) (fun hc => ?_) (fun hc => ?_)
            · have hs := oi_f hc hs
              refine lv_iconst (v := 0) hx hb d_AdjoinedSetsModel_beginsTerm_58 (by decide) ?_
              obtain rfl := Option.some.inj hs
              exact pg_zret (v := 0) C hw rfl d_AdjoinedSetsModel_beginsTerm_59
            · have hs := oi_t hc hs
              refine lv_iload_n hx hb d_AdjoinedSetsModel_beginsTerm_40 rfl (lv_at hl 0 rfl) ?_
              obtain ⟨q15, e16, hs⟩ := ob hs
              refine pg_callS C hw hl.1 ml_AdjoinedSetsModel_109 (As := [.int x0]) (rest := []) (c_AdjoinedSetsModel_isPair l g e16) rfl (rm_ok (Nat.le_of_ble_eq_true rfl) (Nat.le_of_ble_eq_true rfl)) (Nat.le_of_ble_eq_true rfl) rfl (st1 := [.int q15]) rfl d_AdjoinedSetsModel_beginsTerm_41 (fun H locs hw => ?_)
              refine lv_if_ne hx hb d_AdjoinedSetsModel_beginsTerm_44 (tgt := 54) (by decide) (fun hc => ?_) (fun hc => ?_)
              · have hs := oi_f hc hs
                refine lv_iconst (v := 1) hx hb d_AdjoinedSetsModel_beginsTerm_54 (by decide) ?_
                refine lv_goto hx hb d_AdjoinedSetsModel_beginsTerm_55 (tgt := 59) (by decide) ?_
                obtain rfl := Option.some.inj hs
                exact pg_zret (v := 1) C hw rfl d_AdjoinedSetsModel_beginsTerm_59
              · have hs := oi_t hc hs
                refine lv_iload_n hx hb d_AdjoinedSetsModel_beginsTerm_47 rfl (lv_at hl 0 rfl) ?_
                obtain ⟨q18, e19, hs⟩ := ob hs
                refine pg_callS C hw hl.1 ml_AdjoinedSetsModel_112 (As := [.int x0]) (rest := []) (c_AdjoinedSetsModel_isSingle l g e19) rfl (rm_ok (Nat.le_of_ble_eq_true rfl) (Nat.le_of_ble_eq_true rfl)) (Nat.le_of_ble_eq_true rfl) rfl (st1 := [.int q18]) rfl d_AdjoinedSetsModel_beginsTerm_48 (fun H locs hw => ?_)
                refine lv_if_eq hx hb d_AdjoinedSetsModel_beginsTerm_51 (tgt := 58) (by decide) (fun hc => ?_) (fun hc => ?_)
                · have hs := oi_t hc hs
                  refine lv_iconst (v := 0) hx hb d_AdjoinedSetsModel_beginsTerm_58 (by decide) ?_
                  obtain rfl := Option.some.inj hs
                  exact pg_zret (v := 0) C hw rfl d_AdjoinedSetsModel_beginsTerm_59
                · have hs := oi_f hc hs
                  refine lv_iconst (v := 1) hx hb d_AdjoinedSetsModel_beginsTerm_54 (by decide) ?_
                  refine lv_goto hx hb d_AdjoinedSetsModel_beginsTerm_55 (tgt := 59) (by decide) ?_
                  obtain rfl := Option.some.inj hs
                  exact pg_zret (v := 1) C hw rfl d_AdjoinedSetsModel_beginsTerm_59

end
section
variable {p : Program} {l : Launch} {e : Env} {s : State} {m : MethodId} {args : Array Value} {below : List Frame} {meth : Method} {c : Code} {g : GG}
theorem d_AdjoinedSetsModel_goesOn_0 : decode b_AdjoinedSetsModel_goesOn 0 = .ok (.iload_n 2, 1) := by decide +kernel
theorem d_AdjoinedSetsModel_goesOn_1 : decode b_AdjoinedSetsModel_goesOn 1 = .ok (.iconst 2, 1) := by decide +kernel
theorem d_AdjoinedSetsModel_goesOn_2 : decode b_AdjoinedSetsModel_goesOn 2 = .ok (.if_icmp .ne 8, 3) := by decide +kernel
theorem d_AdjoinedSetsModel_goesOn_5 : decode b_AdjoinedSetsModel_goesOn 5 = .ok (.iload_n 1, 1) := by decide +kernel
theorem d_AdjoinedSetsModel_goesOn_6 : decode b_AdjoinedSetsModel_goesOn 6 = .ok (.invokestatic 100, 3) := by decide +kernel
theorem d_AdjoinedSetsModel_goesOn_9 : decode b_AdjoinedSetsModel_goesOn 9 = .ok (.ireturn, 1) := by decide +kernel
theorem d_AdjoinedSetsModel_goesOn_10 : decode b_AdjoinedSetsModel_goesOn 10 = .ok (.iload_n 2, 1) := by decide +kernel
theorem d_AdjoinedSetsModel_goesOn_11 : decode b_AdjoinedSetsModel_goesOn 11 = .ok (.iconst 3, 1) := by decide +kernel
theorem d_AdjoinedSetsModel_goesOn_12 : decode b_AdjoinedSetsModel_goesOn 12 = .ok (.if_icmp .ne 36, 3) := by decide +kernel
theorem d_AdjoinedSetsModel_goesOn_15 : decode b_AdjoinedSetsModel_goesOn 15 = .ok (.iload_n 1, 1) := by decide +kernel
theorem d_AdjoinedSetsModel_goesOn_16 : decode b_AdjoinedSetsModel_goesOn 16 = .ok (.invokestatic 100, 3) := by decide +kernel
theorem d_AdjoinedSetsModel_goesOn_19 : decode b_AdjoinedSetsModel_goesOn 19 = .ok (.ifCond .eq 27, 3) := by decide +kernel
theorem d_AdjoinedSetsModel_goesOn_22 : decode b_AdjoinedSetsModel_goesOn 22 = .ok (.iload 5, 2) := by decide +kernel
theorem d_AdjoinedSetsModel_goesOn_24 : decode b_AdjoinedSetsModel_goesOn 24 = .ok (.iload_n 1, 1) := by decide +kernel
theorem d_AdjoinedSetsModel_goesOn_25 : decode b_AdjoinedSetsModel_goesOn 25 = .ok (.invokestatic 138, 3) := by decide +kernel
theorem d_AdjoinedSetsModel_goesOn_28 : decode b_AdjoinedSetsModel_goesOn 28 = .ok (.iand, 1) := by decide +kernel
theorem d_AdjoinedSetsModel_goesOn_29 : decode b_AdjoinedSetsModel_goesOn 29 = .ok (.ifCond .eq 17, 3) := by decide +kernel
theorem d_AdjoinedSetsModel_goesOn_32 : decode b_AdjoinedSetsModel_goesOn 32 = .ok (.iload 6, 2) := by decide +kernel
theorem d_AdjoinedSetsModel_goesOn_34 : decode b_AdjoinedSetsModel_goesOn 34 = .ok (.iload_n 1, 1) := by decide +kernel
theorem d_AdjoinedSetsModel_goesOn_35 : decode b_AdjoinedSetsModel_goesOn 35 = .ok (.invokestatic 138, 3) := by decide +kernel
theorem d_AdjoinedSetsModel_goesOn_38 : decode b_AdjoinedSetsModel_goesOn 38 = .ok (.iand, 1) := by decide +kernel
theorem d_AdjoinedSetsModel_goesOn_39 : decode b_AdjoinedSetsModel_goesOn 39 = .ok (.ifCond .eq 7, 3) := by decide +kernel
theorem d_AdjoinedSetsModel_goesOn_42 : decode b_AdjoinedSetsModel_goesOn 42 = .ok (.iconst 1, 1) := by decide +kernel
theorem d_AdjoinedSetsModel_goesOn_43 : decode b_AdjoinedSetsModel_goesOn 43 = .ok (.goto 4, 3) := by decide +kernel
theorem d_AdjoinedSetsModel_goesOn_46 : decode b_AdjoinedSetsModel_goesOn 46 = .ok (.iconst 0, 1) := by decide +kernel
theorem d_AdjoinedSetsModel_goesOn_47 : decode b_AdjoinedSetsModel_goesOn 47 = .ok (.ireturn, 1) := by decide +kernel
theorem d_AdjoinedSetsModel_goesOn_48 : decode b_AdjoinedSetsModel_goesOn 48 = .ok (.iload_n 2, 1) := by decide +kernel
theorem d_AdjoinedSetsModel_goesOn_49 : decode b_AdjoinedSetsModel_goesOn 49 = .ok (.iconst 1, 1) := by decide +kernel
theorem d_AdjoinedSetsModel_goesOn_50 : decode b_AdjoinedSetsModel_goesOn 50 = .ok (.if_icmp .ne 8, 3) := by decide +kernel
theorem d_AdjoinedSetsModel_goesOn_53 : decode b_AdjoinedSetsModel_goesOn 53 = .ok (.iload_n 1, 1) := by decide +kernel
theorem d_AdjoinedSetsModel_goesOn_54 : decode b_AdjoinedSetsModel_goesOn 54 = .ok (.invokestatic 106, 3) := by decide +kernel
theorem d_AdjoinedSetsModel_goesOn_57 : decode b_AdjoinedSetsModel_goesOn 57 = .ok (.ireturn, 1) := by decide +kernel
theorem d_AdjoinedSetsModel_goesOn_58 : decode b_AdjoinedSetsModel_goesOn 58 = .ok (.iload_n 1, 1) := by decide +kernel
theorem d_AdjoinedSetsModel_goesOn_59 : decode b_AdjoinedSetsModel_goesOn 59 = .ok (.invokestatic 103, 3) := by decide +kernel
theorem d_AdjoinedSetsModel_goesOn_62 : decode b_AdjoinedSetsModel_goesOn 62 = .ok (.ifCond .eq 21, 3) := by decide +kernel
theorem d_AdjoinedSetsModel_goesOn_65 : decode b_AdjoinedSetsModel_goesOn 65 = .ok (.aload_n 0, 1) := by decide +kernel
theorem d_AdjoinedSetsModel_goesOn_66 : decode b_AdjoinedSetsModel_goesOn 66 = .ok (.getfield 17, 3) := by decide +kernel
theorem d_AdjoinedSetsModel_goesOn_69 : decode b_AdjoinedSetsModel_goesOn 69 = .ok (.iload_n 1, 1) := by decide +kernel
theorem d_AdjoinedSetsModel_goesOn_70 : decode b_AdjoinedSetsModel_goesOn 70 = .ok (.bipush 65, 2) := by decide +kernel
theorem d_AdjoinedSetsModel_goesOn_72 : decode b_AdjoinedSetsModel_goesOn 72 = .ok (.isub, 1) := by decide +kernel
theorem d_AdjoinedSetsModel_goesOn_73 : decode b_AdjoinedSetsModel_goesOn 73 = .ok (.iaload, 1) := by decide +kernel
theorem d_AdjoinedSetsModel_goesOn_74 : decode b_AdjoinedSetsModel_goesOn 74 = .ok (.ifCond .le 7, 3) := by decide +kernel
theorem d_AdjoinedSetsModel_goesOn_77 : decode b_AdjoinedSetsModel_goesOn 77 = .ok (.iconst 1, 1) := by decide +kernel
theorem d_AdjoinedSetsModel_goesOn_78 : decode b_AdjoinedSetsModel_goesOn 78 = .ok (.goto 4, 3) := by decide +kernel
theorem d_AdjoinedSetsModel_goesOn_81 : decode b_AdjoinedSetsModel_goesOn 81 = .ok (.iconst 0, 1) := by decide +kernel
theorem d_AdjoinedSetsModel_goesOn_82 : decode b_AdjoinedSetsModel_goesOn 82 = .ok (.ireturn, 1) := by decide +kernel
theorem d_AdjoinedSetsModel_goesOn_83 : decode b_AdjoinedSetsModel_goesOn 83 = .ok (.iload_n 1, 1) := by decide +kernel
theorem d_AdjoinedSetsModel_goesOn_84 : decode b_AdjoinedSetsModel_goesOn 84 = .ok (.invokestatic 100, 3) := by decide +kernel
theorem d_AdjoinedSetsModel_goesOn_87 : decode b_AdjoinedSetsModel_goesOn 87 = .ok (.ifCond .eq 32, 3) := by decide +kernel
theorem d_AdjoinedSetsModel_goesOn_90 : decode b_AdjoinedSetsModel_goesOn 90 = .ok (.iload_n 3, 1) := by decide +kernel
theorem d_AdjoinedSetsModel_goesOn_91 : decode b_AdjoinedSetsModel_goesOn 91 = .ok (.ifCond .lt 28, 3) := by decide +kernel
theorem d_AdjoinedSetsModel_goesOn_94 : decode b_AdjoinedSetsModel_goesOn 94 = .ok (.iload 5, 2) := by decide +kernel
theorem d_AdjoinedSetsModel_goesOn_96 : decode b_AdjoinedSetsModel_goesOn 96 = .ok (.iload_n 1, 1) := by decide +kernel
theorem d_AdjoinedSetsModel_goesOn_97 : decode b_AdjoinedSetsModel_goesOn 97 = .ok (.invokestatic 138, 3) := by decide +kernel
theorem d_AdjoinedSetsModel_goesOn_100 : decode b_AdjoinedSetsModel_goesOn 100 = .ok (.iand, 1) := by decide +kernel
theorem d_AdjoinedSetsModel_goesOn_101 : decode b_AdjoinedSetsModel_goesOn 101 = .ok (.ifCond .ne 12, 3) := by decide +kernel
theorem d_AdjoinedSetsModel_goesOn_104 : decode b_AdjoinedSetsModel_goesOn 104 = .ok (.iload_n 1, 1) := by decide +kernel
theorem d_AdjoinedSetsModel_goesOn_105 : decode b_AdjoinedSetsModel_goesOn 105 = .ok (.bipush 97, 2) := by decide +kernel
theorem d_AdjoinedSetsModel_goesOn_107 : decode b_AdjoinedSetsModel_goesOn 107 = .ok (.isub, 1) := by decide +kernel
theorem d_AdjoinedSetsModel_goesOn_108 : decode b_AdjoinedSetsModel_goesOn 108 = .ok (.iload 4, 2) := by decide +kernel
theorem d_AdjoinedSetsModel_goesOn_110 : decode b_AdjoinedSetsModel_goesOn 110 = .ok (.if_icmp .ge 7, 3) := by decide +kernel
theorem d_AdjoinedSetsModel_goesOn_113 : decode b_AdjoinedSetsModel_goesOn 113 = .ok (.iconst 1, 1) := by decide +kernel
theorem d_AdjoinedSetsModel_goesOn_114 : decode b_AdjoinedSetsModel_goesOn 114 = .ok (.goto 4, 3) := by decide +kernel
theorem d_AdjoinedSetsModel_goesOn_117 : decode b_AdjoinedSetsModel_goesOn 117 = .ok (.iconst 0, 1) := by decide +kernel
theorem d_AdjoinedSetsModel_goesOn_118 : decode b_AdjoinedSetsModel_goesOn 118 = .ok (.ireturn, 1) := by decide +kernel
theorem d_AdjoinedSetsModel_goesOn_119 : decode b_AdjoinedSetsModel_goesOn 119 = .ok (.iload_n 1, 1) := by decide +kernel
theorem d_AdjoinedSetsModel_goesOn_120 : decode b_AdjoinedSetsModel_goesOn 120 = .ok (.invokestatic 145, 3) := by decide +kernel
theorem d_AdjoinedSetsModel_goesOn_123 : decode b_AdjoinedSetsModel_goesOn 123 = .ok (.ireturn, 1) := by decide +kernel
def s_AdjoinedSetsModel_goesOn_119 (x1 : Int32) (h : HP) : Option (Int32) :=
  (s_AdjoinedSetsModel_beginsTerm x1).bind fun q1 =>
  (zr q1).bind fun _ => some q1
set_option maxHeartbeats 4000000 in
set_option maxRecDepth 100000 in
theorem k_AdjoinedSetsModel_goesOn_119 {h : HP} {x1 : Int32} {z : Int32} (C : CX g R_AdjoinedSetsModel b_AdjoinedSetsModel_goesOn 7 (some .boolean) p s m args meth c) {H : Heap} {locs : List Loc} {ls : Array Slot} (hw : WD g h s.heap H locs) (hl : lv_has ls 7 [(1, .int x1)]) (hs : s_AdjoinedSetsModel_goesOn_119 x1 h = some z) : W p l e (rmS 2 40) s m args below meth c H locs 0 0 (MQ below (Qq g (some (.int z)) h) args s 0 0 (inA g)) (F0 m 119 ls []) := by
  unfold s_AdjoinedSetsModel_goesOn_119 at hs
  have hx := C.1
  have hb := C.2.1
  refine lv_iload_n hx hb d_AdjoinedSetsModel_goesOn_119 rfl (lv_at hl 0 rfl) ?_
  obtain ⟨q1, e2, hs⟩ := ob hs
  refine pg_callS C hw hl.1 ml_AdjoinedSetsModel_145 (As := [.int x1]) (rest := []) (c_AdjoinedSetsModel_beginsTerm l g e2) rfl (rm_ok (Nat.le_of_ble_eq_true rfl) (Nat.le_of_ble_eq_true rfl)) (Nat.le_of_ble_eq_true rfl) rfl (st1 := [.int q1]) rfl d_AdjoinedSetsModel_goesOn_120 (fun H locs hw => ?_)
  obtain ⟨_, e3, hs⟩ := ob hs
  obtain rfl := Option.some.inj hs
  exact pg_zret (v := q1) C hw (zr_n e3) d_AdjoinedSetsModel_goesOn_123

def s_AdjoinedSetsModel_goesOn (x0 : Nat) (x1 : Int32) (x2 : Int32) (x3 : Int32) (x4 : Int32) (x5 : Int32) (x6 : Int32) (h : HP) : Option (Int32) :=
  if x2 = 2 then (
    (s_AdjoinedSetsModel_isLow x1).bind fun q29 =>
    (zr q29).bind fun _ => some q29)
  else (
    if x2 = 3 then (
      (s_AdjoinedSetsModel_isLow x1).bind fun q19 =>
      if q19 = 0 then (
        some 0)
      else (
        (s_AdjoinedSetsModel_bit x1).bind fun q22 =>
        if (x5 &&& q22) = 0 then (
          some 0)
        else (
          (s_AdjoinedSetsModel_bit x1).bind fun q25 =>
          if (x6 &&& q25) = 0 then (
            some 0)
          else (
            some 1))))
    else (
      if x2 = 1 then (
        (s_AdjoinedSetsModel_beginsFormula x1).bind fun q16 =>
        (zr q16).bind fun _ => some q16)
      else (
        (s_AdjoinedSetsModel_isFunction x1).bind fun q1 =>
        if q1 = 0 then (
          (s_AdjoinedSetsModel_isLow x1).bind fun q3 =>
          if q3 = 0 then (
            s_AdjoinedSetsModel_goesOn_119 x1 h)
          else (
            if x3 < 0 then (
              s_AdjoinedSetsModel_goesOn_119 x1 h)
            else (
              (s_AdjoinedSetsModel_bit x1).bind fun q5 =>
              if (x5 &&& q5) = 0 then (
                if x4 ≤ (x1 - 97) then (
                  some 0)
                else (
                  some 1))
              else (
                some 1))))
        else (
          (gR h x0 9 3).bind fun v10 =>
          (aI h v10 0 (x1 - 65)).bind fun v12 =>
          if v12 ≤ 0 then (
            some 0)
          else (
            some 1)))))
set_option maxHeartbeats 4000000 in
set_option maxRecDepth 100000 in
theorem c_AdjoinedSetsModel_goesOn (l : Launch) (g : GG) {h : HP} {x0 : Nat} {x1 : Int32} {x2 : Int32} {x3 : Int32} {x4 : Int32} {x5 : Int32} {x6 : Int32} {z : Int32} (hs : s_AdjoinedSetsModel_goesOn x0 x1 x2 x3 x4 x5 x6 h = some z) : Ct l g y_AdjoinedSetsModel_goesOn w_AdjoinedSetsModel_goesOn (rmS 2 40) [.ref (aD g x0), .int x1, .int x2, .int x3, .int x4, .int x5, .int x6] h (some (.int z)) h := by
  refine Ct.of (own := R_AdjoinedSetsModel) (by decide) rfl rfl (Nat.le_of_ble_eq_true rfl) ?_
  intro p e s m args below meth c ls C hl hw
  have hx := C.1
  have hb := C.2.1
  have hl : lv_has ls 7 [(0, .ref (aD g x0)), (1, .int x1), (2, .int x2), (3, .int x3), (4, .int x4), (5, .int x5), (6, .int x6)] := hl
  unfold s_AdjoinedSetsModel_goesOn at hs
  refine lv_iload_n hx hb d_AdjoinedSetsModel_goesOn_0 rfl (lv_at hl 2 rfl) ?_
  refine lv_iconst (v := 2) hx hb d_AdjoinedSetsModel_goesOn_1 (by decide) ?_
  refine lv_icmp_ne hx hb d_AdjoinedSetsModel_goesOn_2 (tgt := 10) (by decide) (fun hc => ?_) (fun hc => ?_)
  · have hs := oi_f hc hs
    refine lv_iload_n hx hb d_AdjoinedSetsModel_goesOn_10 rfl (lv_at hl 2 rfl) ?_
    refine lv_iconst (v := 3) hx hb d_AdjoinedSetsModel_goesOn_11 (by decide) ?_
    refine lv_icmp_ne hx hb d_AdjoinedSetsModel_goesOn_12 (tgt := 48) (by decide) (fun hc => ?_) (fun hc => ?_)
    · have hs := oi_f hc hs
      refine lv_iload_n hx hb d_AdjoinedSetsModel_goesOn_48 rfl (lv_at hl 2 rfl) ?_
      refine lv_iconst (v := 1) hx hb d_AdjoinedSetsModel_goesOn_49 (by decide) ?_
      refine lv_icmp_ne hx hb d_AdjoinedSetsModel_goesOn_50 (tgt := 58) (by decide) (fun hc => ?_) (fun hc => ?_)
      · have hs := oi_f hc hs
        refine lv_iload_n hx hb d_AdjoinedSetsModel_goesOn_58 rfl (lv_at hl 1 rfl) ?_
        obtain ⟨q1, e2, hs⟩ := ob hs
        refine pg_callS C hw hl.1 ml_AdjoinedSetsModel_103 (As := [.int x1]) (rest := []) (c_AdjoinedSetsModel_isFunction l g e2) rfl (rm_ok (Nat.le_of_ble_eq_true rfl) (Nat.le_of_ble_eq_true rfl)) (Nat.le_of_ble_eq_true rfl) rfl (st1 := [.int q1]) rfl d_AdjoinedSetsModel_goesOn_59 (fun H locs hw => ?_)
        refine lv_if_eq hx hb d_AdjoinedSetsModel_goesOn_62 (tgt := 83) (by decide) (fun hc => ?_) (fun hc => ?_)
        · have hs := oi_t hc hs
          refine lv_iload_n hx hb d_AdjoinedSetsModel_goesOn_83 rfl (lv_at hl 1 rfl) ?_
          obtain ⟨q3, e4, hs⟩ := ob hs
          refine pg_callS C hw hl.1 ml_AdjoinedSetsModel_100 (As := [.int x1]) (rest := []) (c_AdjoinedSetsModel_isLow l g e4) rfl (rm_ok (Nat.le_of_ble_eq_true rfl) (Nat.le_of_ble_eq_true rfl)) (Nat.le_of_ble_eq_true rfl) rfl (st1 := [.int q3]) rfl d_AdjoinedSetsModel_goesOn_84 (fun H locs hw => ?_)
          refine lv_if_eq hx hb d_AdjoinedSetsModel_goesOn_87 (tgt := 119) (by decide) (fun hc => ?_) (fun hc => ?_)
          · have hs := oi_t hc hs
            exact k_AdjoinedSetsModel_goesOn_119 C hw (lv_sub hl [1] rfl) hs
          · have hs := oi_f hc hs
            refine lv_iload_n hx hb d_AdjoinedSetsModel_goesOn_90 rfl (lv_at hl 3 rfl) ?_
            refine lv_if_lt hx hb d_AdjoinedSetsModel_goesOn_91 (tgt := 119) (by decide) (fun hc => ?_) (fun hc => ?_)
            · have hs := oi_t hc hs
              exact k_AdjoinedSetsModel_goesOn_119 C hw (lv_sub hl [1] rfl) hs
            · have hs := oi_f hc hs
              refine lv_iload hx hb d_AdjoinedSetsModel_goesOn_94 (lv_at hl 5 rfl) ?_
              refine lv_iload_n hx hb d_AdjoinedSetsModel_goesOn_96 rfl (lv_at hl 1 rfl) ?_
              obtain ⟨q5, e6, hs⟩ := ob hs
              refine pg_callS C hw hl.1 ml_AdjoinedSetsModel_138 (As := [.int x1]) (rest := [.int x5]) (c_AdjoinedSetsModel_bit l g e6) rfl (rm_ok (Nat.le_of_ble_eq_true rfl) (Nat.le_of_ble_eq_true rfl)) (Nat.le_of_ble_eq_true rfl) rfl (st1 := [.int q5, .int x5]) rfl d_AdjoinedSetsModel_goesOn_97 (fun H locs hw => ?_)
              refine lv_iand hx hb d_AdjoinedSetsModel_goesOn_100 ?_
              refine lv_if_ne hx hb d_AdjoinedSetsModel_goesOn_101 (tgt := 113) (by decide) (fun hc => ?_) (fun hc => ?_)
              · have hs := oi_f hc hs
                refine lv_iconst (v := 1) hx hb d_AdjoinedSetsModel_goesOn_113 (by decide) ?_
                refine lv_goto hx hb d_AdjoinedSetsModel_goesOn_114 (tgt := 118) (by decide) ?_
                obtain rfl := Option.some.inj hs
                exact pg_zret (v := 1) C hw rfl d_AdjoinedSetsModel_goesOn_118
              · have hs := oi_t hc hs
                refine lv_iload_n hx hb d_AdjoinedSetsModel_goesOn_104 rfl (lv_at hl 1 rfl) ?_
                refine lv_bipush (v := 97) hx hb d_AdjoinedSetsModel_goesOn_105 (by decide) ?_
                refine lv_isub hx hb d_AdjoinedSetsModel_goesOn_107 ?_
                refine lv_iload hx hb d_AdjoinedSetsModel_goesOn_108 (lv_at hl 4 rfl) ?_
                refine lv_icmp_ge hx hb d_AdjoinedSetsModel_goesOn_110 (tgt := 117) (by decide) (fun hc => ?_) (fun hc => ?_)
                · have hs := oi_t hc hs
                  refine lv_iconst (v := 0) hx hb d_AdjoinedSetsModel_goesOn_117 (by decide) ?_
                  obtain rfl := Option.some.inj hs
                  exact pg_zret (v := 0) C hw rfl d_AdjoinedSetsModel_goesOn_118
                · have hs := oi_f hc hs
                  refine lv_iconst (v := 1) hx hb d_AdjoinedSetsModel_goesOn_113 (by decide) ?_
                  refine lv_goto hx hb d_AdjoinedSetsModel_goesOn_114 (tgt := 118) (by decide) ?_
                  obtain rfl := Option.some.inj hs
                  exact pg_zret (v := 1) C hw rfl d_AdjoinedSetsModel_goesOn_118
        · have hs := oi_f hc hs
          refine lv_aload_n hx hb d_AdjoinedSetsModel_goesOn_65 rfl (lv_at hl 0 rfl) ?_
          obtain ⟨v10, e11, hs⟩ := ob hs
          refine pg_getR C hw fl_AdjoinedSetsModel_17 e11 d_AdjoinedSetsModel_goesOn_66 ?_
          refine lv_iload_n hx hb d_AdjoinedSetsModel_goesOn_69 rfl (lv_at hl 1 rfl) ?_
          refine lv_bipush (v := 65) hx hb d_AdjoinedSetsModel_goesOn_70 (by decide) ?_
          refine lv_isub hx hb d_AdjoinedSetsModel_goesOn_72 ?_
          obtain ⟨v12, e13, hs⟩ := ob hs
          refine pg_iaload C hw (t0 := 0) rfl e13 d_AdjoinedSetsModel_goesOn_73 ?_
          refine lv_if_le hx hb d_AdjoinedSetsModel_goesOn_74 (tgt := 81) (by decide) (fun hc => ?_) (fun hc => ?_)
          · have hs := oi_t hc hs
            refine lv_iconst (v := 0) hx hb d_AdjoinedSetsModel_goesOn_81 (by decide) ?_
            obtain rfl := Option.some.inj hs
            exact pg_zret (v := 0) C hw rfl d_AdjoinedSetsModel_goesOn_82
          · have hs := oi_f hc hs
            refine lv_iconst (v := 1) hx hb d_AdjoinedSetsModel_goesOn_77 (by decide) ?_
            refine lv_goto hx hb d_AdjoinedSetsModel_goesOn_78 (tgt := 82) (by decide) ?_
            obtain rfl := Option.some.inj hs
            exact pg_zret (v := 1) C hw rfl d_AdjoinedSetsModel_goesOn_82
      · have hs := oi_t hc hs
        refine lv_iload_n hx hb d_AdjoinedSetsModel_goesOn_53 rfl (lv_at hl 1 rfl) ?_
        obtain ⟨q16, e17, hs⟩ := ob hs
        refine pg_callS C hw hl.1 ml_AdjoinedSetsModel_106 (As := [.int x1]) (rest := []) (c_AdjoinedSetsModel_beginsFormula l g e17) rfl (rm_ok (Nat.le_of_ble_eq_true rfl) (Nat.le_of_ble_eq_true rfl)) (Nat.le_of_ble_eq_true rfl) rfl (st1 := [.int q16]) rfl d_AdjoinedSetsModel_goesOn_54 (fun H locs hw => ?_)
        obtain ⟨_, e18, hs⟩ := ob hs
        obtain rfl := Option.some.inj hs
        exact pg_zret (v := q16) C hw (zr_n e18) d_AdjoinedSetsModel_goesOn_57
    · have hs := oi_t hc hs
      refine lv_iload_n hx hb d_AdjoinedSetsModel_goesOn_15 rfl (lv_at hl 1 rfl) ?_
      obtain ⟨q19, e20, hs⟩ := ob hs
      refine pg_callS C hw hl.1 ml_AdjoinedSetsModel_100 (As := [.int x1]) (rest := []) (c_AdjoinedSetsModel_isLow l g e20) rfl (rm_ok (Nat.le_of_ble_eq_true rfl) (Nat.le_of_ble_eq_true rfl)) (Nat.le_of_ble_eq_true rfl) rfl (st1 := [.int q19]) rfl d_AdjoinedSetsModel_goesOn_16 (fun H locs hw => ?_)
      refine lv_if_eq hx hb d_AdjoinedSetsModel_goesOn_19 (tgt := 46) (by decide) (fun hc => ?_) (fun hc => ?_)
      · have hs := oi_t hc hs
        refine lv_iconst (v := 0) hx hb d_AdjoinedSetsModel_goesOn_46 (by decide) ?_
        obtain rfl := Option.some.inj hs
        exact pg_zret (v := 0) C hw rfl d_AdjoinedSetsModel_goesOn_47
      · have hs := oi_f hc hs
        refine lv_iload hx hb d_AdjoinedSetsModel_goesOn_22 (lv_at hl 5 rfl) ?_
        refine lv_iload_n hx hb d_AdjoinedSetsModel_goesOn_24 rfl (lv_at hl 1 rfl) ?_
        obtain ⟨q22, e23, hs⟩ := ob hs
        refine pg_callS C hw hl.1 ml_AdjoinedSetsModel_138 (As := [.int x1]) (rest := [.int x5]) (c_AdjoinedSetsModel_bit l g e23) rfl (rm_ok (Nat.le_of_ble_eq_true rfl) (Nat.le_of_ble_eq_true rfl)) (Nat.le_of_ble_eq_true rfl) rfl (st1 := [.int q22, .int x5]) rfl d_AdjoinedSetsModel_goesOn_25 (fun H locs hw => ?_)
        refine lv_iand hx hb d_AdjoinedSetsModel_goesOn_28 ?_
        refine lv_if_eq hx hb d_AdjoinedSetsModel_goesOn_29 (tgt := 46) (by decide) (fun hc => ?_) (fun hc => ?_)
        · have hs := oi_t hc hs
          refine lv_iconst (v := 0) hx hb d_AdjoinedSetsModel_goesOn_46 (by decide) ?_
          obtain rfl := Option.some.inj hs
          exact pg_zret (v := 0) C hw rfl d_AdjoinedSetsModel_goesOn_47
        · have hs := oi_f hc hs
          refine lv_iload hx hb d_AdjoinedSetsModel_goesOn_32 (lv_at hl 6 rfl) ?_
          refine lv_iload_n hx hb d_AdjoinedSetsModel_goesOn_34 rfl (lv_at hl 1 rfl) ?_
          obtain ⟨q25, e26, hs⟩ := ob hs
          refine pg_callS C hw hl.1 ml_AdjoinedSetsModel_138 (As := [.int x1]) (rest := [.int x6]) (c_AdjoinedSetsModel_bit l g e26) rfl (rm_ok (Nat.le_of_ble_eq_true rfl) (Nat.le_of_ble_eq_true rfl)) (Nat.le_of_ble_eq_true rfl) rfl (st1 := [.int q25, .int x6]) rfl d_AdjoinedSetsModel_goesOn_35 (fun H locs hw => ?_)
          refine lv_iand hx hb d_AdjoinedSetsModel_goesOn_38 ?_
          refine lv_if_eq hx hb d_AdjoinedSetsModel_goesOn_39 (tgt := 46) (by decide) (fun hc => ?_) (fun hc => ?_)
          · have hs := oi_t hc hs
            refine lv_iconst (v := 0) hx hb d_AdjoinedSetsModel_goesOn_46 (by decide) ?_
            obtain rfl := Option.some.inj hs
            exact pg_zret (v := 0) C hw rfl d_AdjoinedSetsModel_goesOn_47
          · have hs := oi_f hc hs
            refine lv_iconst (v := 1) hx hb d_AdjoinedSetsModel_goesOn_42 (by decide) ?_
            refine lv_goto hx hb d_AdjoinedSetsModel_goesOn_43 (tgt := 47) (by decide) ?_
            obtain rfl := Option.some.inj hs
            exact pg_zret (v := 1) C hw rfl d_AdjoinedSetsModel_goesOn_47
  · have hs := oi_t hc hs
    refine lv_iload_n hx hb d_AdjoinedSetsModel_goesOn_5 rfl (lv_at hl 1 rfl) ?_
    obtain ⟨q29, e30, hs⟩ := ob hs
    refine pg_callS C hw hl.1 ml_AdjoinedSetsModel_100 (As := [.int x1]) (rest := []) (c_AdjoinedSetsModel_isLow l g e30) rfl (rm_ok (Nat.le_of_ble_eq_true rfl) (Nat.le_of_ble_eq_true rfl)) (Nat.le_of_ble_eq_true rfl) rfl (st1 := [.int q29]) rfl d_AdjoinedSetsModel_goesOn_6 (fun H locs hw => ?_)
    obtain ⟨_, e31, hs⟩ := ob hs
    obtain rfl := Option.some.inj hs
    exact pg_zret (v := q29) C hw (zr_n e31) d_AdjoinedSetsModel_goesOn_9

end
section
variable {p : Program} {l : Launch} {e : Env} {s : State} {m : MethodId} {args : Array Value} {below : List Frame} {meth : Method} {c : Code} {g : GG}
theorem d_AdjoinedSetsModel_isBinder_0 : decode b_AdjoinedSetsModel_isBinder 0 = .ok (.iload_n 0, 1) := by decide +kernel
theorem d_AdjoinedSetsModel_isBinder_1 : decode b_AdjoinedSetsModel_isBinder 1 = .ok (.bipush 123, 2) := by decide +kernel
theorem d_AdjoinedSetsModel_isBinder_3 : decode b_AdjoinedSetsModel_isBinder 3 = .ok (.if_icmp .eq 21, 3) := by decide +kernel
theorem d_AdjoinedSetsModel_isBinder_6 : decode b_AdjoinedSetsModel_isBinder 6 = .ok (.iload_n 0, 1) := by decide +kernel
theorem d_AdjoinedSetsModel_isBinder_7 : decode b_AdjoinedSetsModel_isBinder 7 = .ok (.bipush 73, 2) := by decide +kernel
theorem d_AdjoinedSetsModel_isBinder_9 : decode b_AdjoinedSetsModel_isBinder 9 = .ok (.if_icmp .eq 15, 3) := by decide +kernel
theorem d_AdjoinedSetsModel_isBinder_12 : decode b_AdjoinedSetsModel_isBinder 12 = .ok (.iload_n 0, 1) := by decide +kernel
theorem d_AdjoinedSetsModel_isBinder_13 : decode b_AdjoinedSetsModel_isBinder 13 = .ok (.bipush 69, 2) := by decide +kernel
theorem d_AdjoinedSetsModel_isBinder_15 : decode b_AdjoinedSetsModel_isBinder 15 = .ok (.if_icmp .eq 9, 3) := by decide +kernel
theorem d_AdjoinedSetsModel_isBinder_18 : decode b_AdjoinedSetsModel_isBinder 18 = .ok (.iload_n 0, 1) := by decide +kernel
theorem d_AdjoinedSetsModel_isBinder_19 : decode b_AdjoinedSetsModel_isBinder 19 = .ok (.bipush 76, 2) := by decide +kernel
theorem d_AdjoinedSetsModel_isBinder_21 : decode b_AdjoinedSetsModel_isBinder 21 = .ok (.if_icmp .ne 7, 3) := by decide +kernel
theorem d_AdjoinedSetsModel_isBinder_24 : decode b_AdjoinedSetsModel_isBinder 24 = .ok (.iconst 1, 1) := by decide +kernel
theorem d_AdjoinedSetsModel_isBinder_25 : decode b_AdjoinedSetsModel_isBinder 25 = .ok (.goto 4, 3) := by decide +kernel
theorem d_AdjoinedSetsModel_isBinder_28 : decode b_AdjoinedSetsModel_isBinder 28 = .ok (.iconst 0, 1) := by decide +kernel
theorem d_AdjoinedSetsModel_isBinder_29 : decode b_AdjoinedSetsModel_isBinder 29 = .ok (.ireturn, 1) := by decide +kernel
def s_AdjoinedSetsModel_isBinder (x0 : Int32) : Option (Int32) :=
  if x0 = 123 then (
    some 1)
  else (
    if x0 = 73 then (
      some 1)
    else (
      if x0 = 69 then (
        some 1)
      else (
        if x0 = 76 then (
          some 1)
        else (
          some 0))))
set_option maxHeartbeats 4000000 in
set_option maxRecDepth 100000 in
theorem c_AdjoinedSetsModel_isBinder (l : Launch) (g : GG) {h : HP} {x0 : Int32} {z : Int32} (hs : s_AdjoinedSetsModel_isBinder x0 = some z) : Ct l g y_AdjoinedSetsModel_isBinder w_AdjoinedSetsModel_isBinder (rmS 0 0) [.int x0] h (some (.int z)) h := by
  refine Ct.of (own := R_AdjoinedSetsModel) (by decide) rfl rfl (Nat.le_of_ble_eq_true rfl) ?_
  intro p e s m args below meth c ls C hl hw
  have hx := C.1
  have hb := C.2.1
  have hl : lv_has ls 1 [(0, .int x0)] := hl
  unfold s_AdjoinedSetsModel_isBinder at hs
  refine lv_iload_n hx hb d_AdjoinedSetsModel_isBinder_0 rfl (lv_at hl 0 rfl) ?_
  refine lv_bipush (v := 123) hx hb d_AdjoinedSetsModel_isBinder_1 (by decide) ?_
  refine lv_icmp_eq hx hb d_AdjoinedSetsModel_isBinder_3 (tgt := 24) (by decide) (fun hc => ?_) (fun hc => ?_)
  · have hs := oi_t hc hs
    refine lv_iconst (v := 1) hx hb d_AdjoinedSetsModel_isBinder_24 (by decide) ?_
    refine lv_goto hx hb d_AdjoinedSetsModel_isBinder_25 (tgt := 29) (by decide) ?_
    obtain rfl := Option.some.inj hs
    exact pg_zret (v := 1) C hw rfl d_AdjoinedSetsModel_isBinder_29
  · have hs := oi_f hc hs
    refine lv_iload_n hx hb d_AdjoinedSetsModel_isBinder_6 rfl (lv_at hl 0 rfl) ?_
    refine lv_bipush (v := 73) hx hb d_AdjoinedSetsModel_isBinder_7 (by decide) ?_
    refine lv_icmp_eq hx hb d_AdjoinedSetsModel_isBinder_9 (tgt := 24) (by decide) (fun hc => ?_) (fun hc => ?_)
    · have hs := oi_t hc hs
      refine lv_iconst (v := 1) hx hb d_AdjoinedSetsModel_isBinder_24 (by decide) ?_
      refine lv_goto hx hb d_AdjoinedSetsModel_isBinder_25 (tgt := 29) (by decide) ?_
      obtain rfl := Option.some.inj hs
      exact pg_zret (v := 1) C hw rfl d_AdjoinedSetsModel_isBinder_29
    · have hs := oi_f hc hs
      refine lv_iload_n hx hb d_AdjoinedSetsModel_isBinder_12 rfl (lv_at hl 0 rfl) ?_
      refine lv_bipush (v := 69) hx hb d_AdjoinedSetsModel_isBinder_13 (by decide) ?_
      refine lv_icmp_eq hx hb d_AdjoinedSetsModel_isBinder_15 (tgt := 24) (by decide) (fun hc => ?_) (fun hc => ?_)
      · have hs := oi_t hc hs
        refine lv_iconst (v := 1) hx hb d_AdjoinedSetsModel_isBinder_24 (by decide) ?_
        refine lv_goto hx hb d_AdjoinedSetsModel_isBinder_25 (tgt := 29) (by decide) ?_
        obtain rfl := Option.some.inj hs
        exact pg_zret (v := 1) C hw rfl d_AdjoinedSetsModel_isBinder_29
      · have hs := oi_f hc hs
        refine lv_iload_n hx hb d_AdjoinedSetsModel_isBinder_18 rfl (lv_at hl 0 rfl) ?_
        refine lv_bipush (v := 76) hx hb d_AdjoinedSetsModel_isBinder_19 (by decide) ?_
        refine lv_icmp_ne hx hb d_AdjoinedSetsModel_isBinder_21 (tgt := 28) (by decide) (fun hc => ?_) (fun hc => ?_)
        · have hs := oi_f hc hs
          refine lv_iconst (v := 0) hx hb d_AdjoinedSetsModel_isBinder_28 (by decide) ?_
          obtain rfl := Option.some.inj hs
          exact pg_zret (v := 0) C hw rfl d_AdjoinedSetsModel_isBinder_29
        · have hs := oi_t hc hs
          refine lv_iconst (v := 1) hx hb d_AdjoinedSetsModel_isBinder_24 (by decide) ?_
          refine lv_goto hx hb d_AdjoinedSetsModel_isBinder_25 (tgt := 29) (by decide) ?_
          obtain rfl := Option.some.inj hs
          exact pg_zret (v := 1) C hw rfl d_AdjoinedSetsModel_isBinder_29

end
