/-! The law's own rows: the script, calls with the room used up to the claim's, the end. -/
def scA (xs : Nat → Int32) (sn : Nat) (i : Int32) : Option Int32 := if ¬ (i < 0 ∨ sn ≤ i.toNatClampNeg) then some (xs i.toNatClampNeg) else none
section LAW
variable {p : Program} {l : Launch} {e : Env} {R : Room} {s : State} {m : MethodId} {args : Array Value} {below : List Frame} {meth : Method} {c : Code} {H : Heap} {locs : List Loc} {cells slots : Nat} {Q : State → Prop}
variable {A : Nat → Prop} {cc : ByteArray} {pc : Nat} {ls : Array Slot} {rest : List Value} {g : GG} {h h' : HP} {own : String} {nL : Nat} {ret0 : Option FieldType} {index k i a t0 : Nat}
theorem lw_sld {b sn : Nat} {xs : Nat → Int32} (C : CXA g (fun q => s.heap.size ≤ q) own cc nL ret0 p s m args meth c) (hw : WDA g (fun q => s.heap.size ≤ q) h s.heap H locs) (hX : va_X b sn xs s s.heap) (hbl : b < s.heap.size) {i v : Int32} (e1 : scA xs sn i = some v) (hdg : decode cc pc = .ok (.iaload, 1))
    (kk : W p l e R s m args below meth c H locs cells slots Q (F0 m (pc + 1) ls (.int v :: rest))) : W p l e R s m args below meth c H locs cells slots Q (F0 m pc ls (.int i :: .ref b :: rest)) := by
  unfold scA at e1
  obtain ⟨hin, rfl⟩ := ot e1
  exact va_sld C.1 C.2.1 hX hbl (by omega) hw.2.2 hin hdg kk
theorem pg_runL {st0 : List Value} {av : Array Value} {r : Option Value} (hw : WDA g A h s.heap H locs) (hr : va_Run p l e R s m args below meth c H locs cells slots 0 0 (F0 m pc ls st0) rest (Qq g r h' av) (inA g)) {st1 : List Value} (hst : r.toList ++ rest = st1)
    (kk : ∀ (H : Heap) (locs : List Loc), WDA g A h' s.heap H locs → W p l e R s m args below meth c H locs cells slots Q (F0 m (pc + 3) ls st1)) : W p l e R s m args below meth c H locs cells slots Q (F0 m pc ls st0) := by
  intro T hT X
  obtain ⟨v, st₀, t, T', L', h0, X', hL, e1, e2, ⟨hv, ⟨hP, hK, hD, hN⟩, hz, hk⟩, st⟩ := hr T hT X
  cases hv
  subst hst
  rw [h0] at hz hk
  obtain ⟨h1, h2, h3⟩ := hw
  obtain ⟨t2, a1, b1⟩ := kk T'.heap (locs ++ L') ⟨by rw [e1]; exact hP, (wl_D hD).weaken (fun _ _ _ hq => wl_A h2 hq), ⟨Nat.le_trans h3.1 (by rw [e1]; exact hz), fun q g1 g2 => by rw [e1, hk q (Nat.lt_of_lt_of_le g1 h3.1) (fun z => g2 (wl_A h2 z))]; exact h3.2.1 q g1 g2, fun q hq => by
      rcases List.mem_append.mp hq with h | h
      · exact h3.2.2 q h
      · exact wl_A h2 (hL q h)⟩⟩ T' rfl X'
  exact ⟨t2, st t2 a1, b1⟩
theorem pg_callVL {y : MethodName} {bytes : ByteArray} {maxL n : Nat} {rt : Option FieldType} {f lo b : Nat} {r : Option Value} {u : Unit} (C : CXA g A own cc nL ret0 p s m args meth c) (hw : WDA g A h s.heap H locs) (hls : ls.size = nL) (hcs : cells ≤ R.cells ∧ slots ≤ R.slots) (M : Cond.methodLink own index y ∈ ALL ∧ MD y bytes maxL rt n ∧ MV y k) (hk : kd b k = some u) {As : List Value} {st0 st1 : List Value}
    (hM : Ct l g y (.code y bytes maxL rt) (rmS f lo) (.ref (aD g b) :: As) h r h') (hn : As.length = n) (hR : (rmS f lo).frames + 1 ≤ R.frames ∧ 8 + (maxL + 11) + (rmS f lo).locals ≤ R.locals) (hrest : (rest.map fun v => v.category).sum ≤ 8) (hst0 : st0 = As.reverse ++ .ref (aD g b) :: rest) (hst : r.toList ++ rest = st1) (hdg : decode cc pc = .ok (.invokevirtual index, 3))
    (kk : ∀ (H : Heap) (locs : List Loc), WDA g A h' s.heap H locs → W p l e R s m args below meth c H locs cells slots Q (F0 m (pc + 3) ls st1)) : W p l e R s m args below meth c H locs cells slots Q (F0 m pc ls st0) := by
  subst hst0
  unfold kd at hk
  obtain ⟨⟨hko, hlt⟩, -⟩ := ot hk
  obtain ⟨q0, he, -⟩ := wl_at (g := g) (h := h) (kO_in (a := b) (by omega))
  rw [cG_o hko hlt] at he
  obtain ⟨T, N, hcl⟩ := M.2.2.2.2
  exact pg_runL hw (va_runV (C := y.cls) (b := aD g b) (As := As) (rest := rest) ⟨C.1, C.2.1, C.2.2.1, C.own, C.2.2.2.2.1⟩ hM ⟨pg_cb C M.2.1 M.1 ⟨rfl, rfl⟩ hR, C.w M.2.2.1, C.w M.2.2.2.1⟩ ⟨HW.blind, va_recv (q := (y.cls, T, N)) C.K hw.1 hcl he, hw.pre C (.ref (aD g b) :: As)⟩ rfl hn hls rfl (lv_room hrest) hdg ⟨hcs.1, hcs.2⟩) hst kk
theorem lw_end {b : Nat} (C : CXA g (fun q => s.heap.size ≤ q) own code nL (some .boolean) p s m #[Value.ref b] meth c) (hw : WDA g (fun q => s.heap.size ≤ q) h s.heap H locs) (hdg : decode code pc = .ok (.ireturn, 1)) : W p l e room_1 s m #[Value.ref b] below meth c H locs 600000 7302249 (lw_Z below #[Value.ref b] s) (F0 m pc ls [.int 1]) :=
  va_forget (fun q hq => hw.2.2.2.2 q hq) (lw_ret C.1 C.2.1 C.2.2.2.2.2.1 C.2.2.2.2.2.2.1 hdg)
end LAW
theorem kc_AdjoinedSetsLaw_13 : Cond.constantLong R_law 13 4294967295 ∈ ALL := in_all (in_t5 (List.mem_of_getElem? (i := 213) rfl)) rfl
theorem ml_AdjoinedSetsLaw_15 : Cond.methodLink R_law 15 y_AdjoinedSets_type ∈ ALL ∧ MD y_AdjoinedSets_type b_AdjoinedSets_type 6 (some .int) 2 ∧ MV y_AdjoinedSets_type 8 := ⟨in_all (in_t1 (List.mem_of_getElem? (i := 227) rfl)) rfl, md_AdjoinedSets_type, mv_AdjoinedSets_type⟩
theorem ml_AdjoinedSetsLaw_19 : Cond.methodLink R_law 19 y_AdjoinedSetsModel_type ∈ ALL ∧ MD y_AdjoinedSetsModel_type b_AdjoinedSetsModel_type 7 (some .int) 2 ∧ MV y_AdjoinedSetsModel_type 9 := ⟨in_all (in_t4 (List.mem_of_getElem? (i := 196) rfl)) rfl, md_AdjoinedSetsModel_type, mv_AdjoinedSetsModel_type⟩
theorem ml_AdjoinedSetsLaw_20 : Cond.methodLink R_law 20 y_AdjoinedSets_clear ∈ ALL ∧ MD y_AdjoinedSets_clear b_AdjoinedSets_clear 2 (some .int) 0 ∧ MV y_AdjoinedSets_clear 8 := ⟨in_all (in_t2 (List.mem_of_getElem? (i := 2) rfl)) rfl, md_AdjoinedSets_clear, mv_AdjoinedSets_clear⟩
theorem ml_AdjoinedSetsLaw_24 : Cond.methodLink R_law 24 y_AdjoinedSetsModel_clear ∈ ALL ∧ MD y_AdjoinedSetsModel_clear b_AdjoinedSetsModel_clear 2 (some .int) 0 ∧ MV y_AdjoinedSetsModel_clear 9 := ⟨in_all (in_t4 (List.mem_of_getElem? (i := 201) rfl)) rfl, md_AdjoinedSetsModel_clear, mv_AdjoinedSetsModel_clear⟩
theorem ml_AdjoinedSetsLaw_25 : Cond.methodLink R_law 25 y_AdjoinedSets_let ∈ ALL ∧ MD y_AdjoinedSets_let b_AdjoinedSets_let 4 (some .boolean) 2 ∧ MV y_AdjoinedSets_let 8 := ⟨in_all (in_t2 (List.mem_of_getElem? (i := 10) rfl)) rfl, md_AdjoinedSets_let, mv_AdjoinedSets_let⟩
theorem ml_AdjoinedSetsLaw_29 : Cond.methodLink R_law 29 y_AdjoinedSetsModel_let ∈ ALL ∧ MD y_AdjoinedSetsModel_let b_AdjoinedSetsModel_let 4 (some .boolean) 2 ∧ MV y_AdjoinedSetsModel_let 9 := ⟨in_all (in_t4 (List.mem_of_getElem? (i := 205) rfl)) rfl, md_AdjoinedSetsModel_let, mv_AdjoinedSetsModel_let⟩
theorem ml_AdjoinedSetsLaw_30 : Cond.methodLink R_law 30 y_AdjoinedSets_eval ∈ ALL ∧ MD y_AdjoinedSets_eval b_AdjoinedSets_eval 3 (some .long) 0 ∧ MV y_AdjoinedSets_eval 8 := ⟨in_all (in_t2 (List.mem_of_getElem? (i := 18) rfl)) rfl, md_AdjoinedSets_eval, mv_AdjoinedSets_eval⟩
theorem ml_AdjoinedSetsLaw_34 : Cond.methodLink R_law 34 y_AdjoinedSetsModel_eval ∈ ALL ∧ MD y_AdjoinedSetsModel_eval b_AdjoinedSetsModel_eval 4 (some .long) 0 ∧ MV y_AdjoinedSetsModel_eval 9 := ⟨in_all (in_t5 (List.mem_of_getElem? (i := 24) rfl)) rfl, md_AdjoinedSetsModel_eval, mv_AdjoinedSetsModel_eval⟩
theorem ml_AdjoinedSetsLaw_35 : Cond.methodLink R_law 35 y_AdjoinedSets_truth ∈ ALL ∧ MD y_AdjoinedSets_truth b_AdjoinedSets_truth 2 (some .int) 0 ∧ MV y_AdjoinedSets_truth 8 := ⟨in_all (in_t2 (List.mem_of_getElem? (i := 182) rfl)) rfl, md_AdjoinedSets_truth, mv_AdjoinedSets_truth⟩
theorem ml_AdjoinedSetsLaw_38 : Cond.methodLink R_law 38 y_AdjoinedSetsModel_truth ∈ ALL ∧ MD y_AdjoinedSetsModel_truth b_AdjoinedSetsModel_truth 3 (some .int) 0 ∧ MV y_AdjoinedSetsModel_truth 9 := ⟨in_all (in_t5 (List.mem_of_getElem? (i := 86) rfl)) rfl, md_AdjoinedSetsModel_truth, mv_AdjoinedSetsModel_truth⟩
theorem ml_AdjoinedSetsLaw_39 : Cond.methodLink R_law 39 y_AdjoinedSets_define ∈ ALL ∧ MD y_AdjoinedSets_define b_AdjoinedSets_define 4 (some .int) 2 ∧ MV y_AdjoinedSets_define 8 := ⟨in_all (in_t2 (List.mem_of_getElem? (i := 194) rfl)) rfl, md_AdjoinedSets_define, mv_AdjoinedSets_define⟩
theorem ml_AdjoinedSetsLaw_43 : Cond.methodLink R_law 43 y_AdjoinedSetsModel_define ∈ ALL ∧ MD y_AdjoinedSetsModel_define b_AdjoinedSetsModel_define 5 (some .int) 2 ∧ MV y_AdjoinedSetsModel_define 9 := ⟨in_all (in_t4 (List.mem_of_getElem? (i := 213) rfl)) rfl, md_AdjoinedSetsModel_define, mv_AdjoinedSetsModel_define⟩
theorem ml_AdjoinedSetsLaw_44 : Cond.methodLink R_law 44 y_AdjoinedSets_prove ∈ ALL ∧ MD y_AdjoinedSets_prove b_AdjoinedSets_prove 5 (some .int) 3 ∧ MV y_AdjoinedSets_prove 8 := ⟨in_all (in_t2 (List.mem_of_getElem? (i := 214) rfl)) rfl, md_AdjoinedSets_prove, mv_AdjoinedSets_prove⟩
theorem ml_AdjoinedSetsLaw_48 : Cond.methodLink R_law 48 y_AdjoinedSetsModel_prove ∈ ALL ∧ MD y_AdjoinedSetsModel_prove b_AdjoinedSetsModel_prove 9 (some .int) 3 ∧ MV y_AdjoinedSetsModel_prove 9 := ⟨in_all (in_t5 (List.mem_of_getElem? (i := 90) rfl)) rfl, md_AdjoinedSetsModel_prove, mv_AdjoinedSetsModel_prove⟩
theorem ml_AdjoinedSetsLaw_49 : Cond.methodLink R_law 49 y_AdjoinedSets_theorems ∈ ALL ∧ MD y_AdjoinedSets_theorems b_AdjoinedSets_theorems 1 (some .int) 0 ∧ MV y_AdjoinedSets_theorems 8 := ⟨in_all (in_t4 (List.mem_of_getElem? (i := 29) rfl)) rfl, md_AdjoinedSets_theorems, mv_AdjoinedSets_theorems⟩
theorem ml_AdjoinedSetsLaw_52 : Cond.methodLink R_law 52 y_AdjoinedSetsModel_theorems ∈ ALL ∧ MD y_AdjoinedSetsModel_theorems b_AdjoinedSetsModel_theorems 1 (some .int) 0 ∧ MV y_AdjoinedSetsModel_theorems 9 := ⟨in_all (in_t5 (List.mem_of_getElem? (i := 182) rfl)) rfl, md_AdjoinedSetsModel_theorems, mv_AdjoinedSetsModel_theorems⟩
theorem ml_AdjoinedSetsLaw_53 : Cond.methodLink R_law 53 y_AdjoinedSets_theorem ∈ ALL ∧ MD y_AdjoinedSets_theorem b_AdjoinedSets_theorem 3 (some .int) 2 ∧ MV y_AdjoinedSets_theorem 8 := ⟨in_all (in_t4 (List.mem_of_getElem? (i := 33) rfl)) rfl, md_AdjoinedSets_theorem, mv_AdjoinedSets_theorem⟩
theorem ml_AdjoinedSetsLaw_56 : Cond.methodLink R_law 56 y_AdjoinedSetsModel_theorem ∈ ALL ∧ MD y_AdjoinedSetsModel_theorem b_AdjoinedSetsModel_theorem 3 (some .int) 2 ∧ MV y_AdjoinedSetsModel_theorem 9 := ⟨in_all (in_t5 (List.mem_of_getElem? (i := 186) rfl)) rfl, md_AdjoinedSetsModel_theorem, mv_AdjoinedSetsModel_theorem⟩
theorem ml_AdjoinedSetsLaw_57 : Cond.methodLink R_law 57 y_AdjoinedSets_rests ∈ ALL ∧ MD y_AdjoinedSets_rests b_AdjoinedSets_rests 2 (some .int) 1 ∧ MV y_AdjoinedSets_rests 8 := ⟨in_all (in_t4 (List.mem_of_getElem? (i := 39) rfl)) rfl, md_AdjoinedSets_rests, mv_AdjoinedSets_rests⟩
theorem ml_AdjoinedSetsLaw_61 : Cond.methodLink R_law 61 y_AdjoinedSetsModel_rests ∈ ALL ∧ MD y_AdjoinedSetsModel_rests b_AdjoinedSetsModel_rests 2 (some .int) 1 ∧ MV y_AdjoinedSetsModel_rests 9 := ⟨in_all (in_t5 (List.mem_of_getElem? (i := 190) rfl)) rfl, md_AdjoinedSetsModel_rests, mv_AdjoinedSetsModel_rests⟩
theorem ml_AdjoinedSetsLaw_62 : Cond.methodLink R_law 62 y_AdjoinedSets_refute ∈ ALL ∧ MD y_AdjoinedSets_refute b_AdjoinedSets_refute 4 (some .int) 1 ∧ MV y_AdjoinedSets_refute 8 := ⟨in_all (in_t4 (List.mem_of_getElem? (i := 43) rfl)) rfl, md_AdjoinedSets_refute, mv_AdjoinedSets_refute⟩
theorem ml_AdjoinedSetsLaw_65 : Cond.methodLink R_law 65 y_AdjoinedSetsModel_refute ∈ ALL ∧ MD y_AdjoinedSetsModel_refute b_AdjoinedSetsModel_refute 11 (some .int) 1 ∧ MV y_AdjoinedSetsModel_refute 9 := ⟨in_all (in_t5 (List.mem_of_getElem? (i := 194) rfl)) rfl, md_AdjoinedSetsModel_refute, mv_AdjoinedSetsModel_refute⟩
theorem ml_AdjoinedSetsLaw_66 : Cond.methodLink R_law 66 y_AdjoinedSets_size ∈ ALL ∧ MD y_AdjoinedSets_size b_AdjoinedSets_size 3 (some .int) 1 ∧ MV y_AdjoinedSets_size 8 := ⟨in_all (in_t4 (List.mem_of_getElem? (i := 61) rfl)) rfl, md_AdjoinedSets_size, mv_AdjoinedSets_size⟩
theorem ml_AdjoinedSetsLaw_70 : Cond.methodLink R_law 70 y_AdjoinedSetsModel_size ∈ ALL ∧ MD y_AdjoinedSetsModel_size b_AdjoinedSetsModel_size 5 (some .int) 1 ∧ MV y_AdjoinedSetsModel_size 9 := ⟨in_all (in_t5 (List.mem_of_getElem? (i := 205) rfl)) rfl, md_AdjoinedSetsModel_size, mv_AdjoinedSetsModel_size⟩
theorem ml_AdjoinedSetsLaw_71 : Cond.methodLink R_law 71 y_AdjoinedSets_rank ∈ ALL ∧ MD y_AdjoinedSets_rank b_AdjoinedSets_rank 3 (some .int) 1 ∧ MV y_AdjoinedSets_rank 8 := ⟨in_all (in_t4 (List.mem_of_getElem? (i := 71) rfl)) rfl, md_AdjoinedSets_rank, mv_AdjoinedSets_rank⟩
theorem ml_AdjoinedSetsLaw_74 : Cond.methodLink R_law 74 y_AdjoinedSetsModel_rank ∈ ALL ∧ MD y_AdjoinedSetsModel_rank b_AdjoinedSetsModel_rank 6 (some .int) 1 ∧ MV y_AdjoinedSetsModel_rank 9 := ⟨in_all (in_t5 (List.mem_of_getElem? (i := 209) rfl)) rfl, md_AdjoinedSetsModel_rank, mv_AdjoinedSetsModel_rank⟩
section
variable {p : Program} {l : Launch} {e : Env} {s : State} {m : MethodId} {b : Nat} {below : List Frame} {meth : Method} {c : Code} {g : GG}
theorem d_law_18 : decode code 18 = .ok (.iload_n 3, 1) := by decide +kernel
theorem d_law_19 : decode code 19 = .ok (.aload_n 0, 1) := by decide +kernel
theorem d_law_20 : decode code 20 = .ok (.arraylength, 1) := by decide +kernel
theorem d_law_21 : decode code 21 = .ok (.iconst 4, 1) := by decide +kernel
theorem d_law_22 : decode code 22 = .ok (.isub, 1) := by decide +kernel
theorem d_law_23 : decode code 23 = .ok (.if_icmp .gt 523, 3) := by decide +kernel
theorem d_law_26 : decode code 26 = .ok (.aload_n 0, 1) := by decide +kernel
theorem d_law_27 : decode code 27 = .ok (.iload_n 3, 1) := by decide +kernel
theorem d_law_28 : decode code 28 = .ok (.iaload, 1) := by decide +kernel
theorem d_law_29 : decode code 29 = .ok (.bipush 15, 2) := by decide +kernel
theorem d_law_31 : decode code 31 = .ok (.iand, 1) := by decide +kernel
theorem d_law_32 : decode code 32 = .ok (.tableswitch 508 0 12 #[68, 131, 144, 207, 221, 234, 267, 310, 323, 356, 379, 402, 455], 68) := by decide +kernel
theorem d_law_100 : decode code 100 = .ok (.aload_n 1, 1) := by decide +kernel
theorem d_law_101 : decode code 101 = .ok (.aload_n 0, 1) := by decide +kernel
theorem d_law_102 : decode code 102 = .ok (.iload_n 3, 1) := by decide +kernel
theorem d_law_103 : decode code 103 = .ok (.iconst 1, 1) := by decide +kernel
theorem d_law_104 : decode code 104 = .ok (.iadd, 1) := by decide +kernel
theorem d_law_105 : decode code 105 = .ok (.iaload, 1) := by decide +kernel
theorem d_law_106 : decode code 106 = .ok (.i2l, 1) := by decide +kernel
theorem d_law_107 : decode code 107 = .ok (.bipush 32, 2) := by decide +kernel
theorem d_law_109 : decode code 109 = .ok (.lshl, 1) := by decide +kernel
theorem d_law_110 : decode code 110 = .ok (.aload_n 0, 1) := by decide +kernel
theorem d_law_111 : decode code 111 = .ok (.iload_n 3, 1) := by decide +kernel
theorem d_law_112 : decode code 112 = .ok (.iconst 2, 1) := by decide +kernel
theorem d_law_113 : decode code 113 = .ok (.iadd, 1) := by decide +kernel
theorem d_law_114 : decode code 114 = .ok (.iaload, 1) := by decide +kernel
theorem d_law_115 : decode code 115 = .ok (.i2l, 1) := by decide +kernel
theorem d_law_116 : decode code 116 = .ok (.ldc2_w 13, 3) := by decide +kernel
theorem d_law_119 : decode code 119 = .ok (.land, 1) := by decide +kernel
theorem d_law_120 : decode code 120 = .ok (.lor, 1) := by decide +kernel
theorem d_law_121 : decode code 121 = .ok (.aload_n 0, 1) := by decide +kernel
theorem d_law_122 : decode code 122 = .ok (.iload_n 3, 1) := by decide +kernel
theorem d_law_123 : decode code 123 = .ok (.iconst 3, 1) := by decide +kernel
theorem d_law_124 : decode code 124 = .ok (.iadd, 1) := by decide +kernel
theorem d_law_125 : decode code 125 = .ok (.iaload, 1) := by decide +kernel
theorem d_law_126 : decode code 126 = .ok (.invokevirtual 15, 3) := by decide +kernel
theorem d_law_129 : decode code 129 = .ok (.aload_n 2, 1) := by decide +kernel
theorem d_law_130 : decode code 130 = .ok (.aload_n 0, 1) := by decide +kernel
theorem d_law_131 : decode code 131 = .ok (.iload_n 3, 1) := by decide +kernel
theorem d_law_132 : decode code 132 = .ok (.iconst 1, 1) := by decide +kernel
theorem d_law_133 : decode code 133 = .ok (.iadd, 1) := by decide +kernel
theorem d_law_134 : decode code 134 = .ok (.iaload, 1) := by decide +kernel
theorem d_law_135 : decode code 135 = .ok (.i2l, 1) := by decide +kernel
theorem d_law_136 : decode code 136 = .ok (.bipush 32, 2) := by decide +kernel
theorem d_law_138 : decode code 138 = .ok (.lshl, 1) := by decide +kernel
theorem d_law_139 : decode code 139 = .ok (.aload_n 0, 1) := by decide +kernel
theorem d_law_140 : decode code 140 = .ok (.iload_n 3, 1) := by decide +kernel
theorem d_law_141 : decode code 141 = .ok (.iconst 2, 1) := by decide +kernel
theorem d_law_142 : decode code 142 = .ok (.iadd, 1) := by decide +kernel
theorem d_law_143 : decode code 143 = .ok (.iaload, 1) := by decide +kernel
theorem d_law_144 : decode code 144 = .ok (.i2l, 1) := by decide +kernel
theorem d_law_145 : decode code 145 = .ok (.ldc2_w 13, 3) := by decide +kernel
theorem d_law_148 : decode code 148 = .ok (.land, 1) := by decide +kernel
theorem d_law_149 : decode code 149 = .ok (.lor, 1) := by decide +kernel
theorem d_law_150 : decode code 150 = .ok (.aload_n 0, 1) := by decide +kernel
theorem d_law_151 : decode code 151 = .ok (.iload_n 3, 1) := by decide +kernel
theorem d_law_152 : decode code 152 = .ok (.iconst 3, 1) := by decide +kernel
theorem d_law_153 : decode code 153 = .ok (.iadd, 1) := by decide +kernel
theorem d_law_154 : decode code 154 = .ok (.iaload, 1) := by decide +kernel
theorem d_law_155 : decode code 155 = .ok (.invokevirtual 19, 3) := by decide +kernel
theorem d_law_158 : decode code 158 = .ok (.if_icmp .eq 382, 3) := by decide +kernel
theorem d_law_161 : decode code 161 = .ok (.iconst 0, 1) := by decide +kernel
theorem d_law_162 : decode code 162 = .ok (.ireturn, 1) := by decide +kernel
theorem d_law_163 : decode code 163 = .ok (.aload_n 1, 1) := by decide +kernel
theorem d_law_164 : decode code 164 = .ok (.invokevirtual 20, 3) := by decide +kernel
theorem d_law_167 : decode code 167 = .ok (.aload_n 2, 1) := by decide +kernel
theorem d_law_168 : decode code 168 = .ok (.invokevirtual 24, 3) := by decide +kernel
theorem d_law_171 : decode code 171 = .ok (.if_icmp .eq 369, 3) := by decide +kernel
theorem d_law_174 : decode code 174 = .ok (.iconst 0, 1) := by decide +kernel
theorem d_law_175 : decode code 175 = .ok (.ireturn, 1) := by decide +kernel
theorem d_law_176 : decode code 176 = .ok (.aload_n 1, 1) := by decide +kernel
theorem d_law_177 : decode code 177 = .ok (.aload_n 0, 1) := by decide +kernel
theorem d_law_178 : decode code 178 = .ok (.iload_n 3, 1) := by decide +kernel
theorem d_law_179 : decode code 179 = .ok (.iconst 1, 1) := by decide +kernel
theorem d_law_180 : decode code 180 = .ok (.iadd, 1) := by decide +kernel
theorem d_law_181 : decode code 181 = .ok (.iaload, 1) := by decide +kernel
theorem d_law_182 : decode code 182 = .ok (.aload_n 0, 1) := by decide +kernel
theorem d_law_183 : decode code 183 = .ok (.iload_n 3, 1) := by decide +kernel
theorem d_law_184 : decode code 184 = .ok (.iconst 2, 1) := by decide +kernel
theorem d_law_185 : decode code 185 = .ok (.iadd, 1) := by decide +kernel
theorem d_law_186 : decode code 186 = .ok (.iaload, 1) := by decide +kernel
theorem d_law_187 : decode code 187 = .ok (.i2l, 1) := by decide +kernel
theorem d_law_188 : decode code 188 = .ok (.bipush 32, 2) := by decide +kernel
theorem d_law_190 : decode code 190 = .ok (.lshl, 1) := by decide +kernel
theorem d_law_191 : decode code 191 = .ok (.aload_n 0, 1) := by decide +kernel
theorem d_law_192 : decode code 192 = .ok (.iload_n 3, 1) := by decide +kernel
theorem d_law_193 : decode code 193 = .ok (.iconst 3, 1) := by decide +kernel
theorem d_law_194 : decode code 194 = .ok (.iadd, 1) := by decide +kernel
theorem d_law_195 : decode code 195 = .ok (.iaload, 1) := by decide +kernel
theorem d_law_196 : decode code 196 = .ok (.i2l, 1) := by decide +kernel
theorem d_law_197 : decode code 197 = .ok (.ldc2_w 13, 3) := by decide +kernel
theorem d_law_200 : decode code 200 = .ok (.land, 1) := by decide +kernel
theorem d_law_201 : decode code 201 = .ok (.lor, 1) := by decide +kernel
theorem d_law_202 : decode code 202 = .ok (.invokevirtual 25, 3) := by decide +kernel
theorem d_law_205 : decode code 205 = .ok (.aload_n 2, 1) := by decide +kernel
theorem d_law_206 : decode code 206 = .ok (.aload_n 0, 1) := by decide +kernel
theorem d_law_207 : decode code 207 = .ok (.iload_n 3, 1) := by decide +kernel
theorem d_law_208 : decode code 208 = .ok (.iconst 1, 1) := by decide +kernel
theorem d_law_209 : decode code 209 = .ok (.iadd, 1) := by decide +kernel
theorem d_law_210 : decode code 210 = .ok (.iaload, 1) := by decide +kernel
theorem d_law_211 : decode code 211 = .ok (.aload_n 0, 1) := by decide +kernel
theorem d_law_212 : decode code 212 = .ok (.iload_n 3, 1) := by decide +kernel
theorem d_law_213 : decode code 213 = .ok (.iconst 2, 1) := by decide +kernel
theorem d_law_214 : decode code 214 = .ok (.iadd, 1) := by decide +kernel
theorem d_law_215 : decode code 215 = .ok (.iaload, 1) := by decide +kernel
theorem d_law_216 : decode code 216 = .ok (.i2l, 1) := by decide +kernel
theorem d_law_217 : decode code 217 = .ok (.bipush 32, 2) := by decide +kernel
theorem d_law_219 : decode code 219 = .ok (.lshl, 1) := by decide +kernel
theorem d_law_220 : decode code 220 = .ok (.aload_n 0, 1) := by decide +kernel
theorem d_law_221 : decode code 221 = .ok (.iload_n 3, 1) := by decide +kernel
theorem d_law_222 : decode code 222 = .ok (.iconst 3, 1) := by decide +kernel
theorem d_law_223 : decode code 223 = .ok (.iadd, 1) := by decide +kernel
theorem d_law_224 : decode code 224 = .ok (.iaload, 1) := by decide +kernel
theorem d_law_225 : decode code 225 = .ok (.i2l, 1) := by decide +kernel
theorem d_law_226 : decode code 226 = .ok (.ldc2_w 13, 3) := by decide +kernel
theorem d_law_229 : decode code 229 = .ok (.land, 1) := by decide +kernel
theorem d_law_230 : decode code 230 = .ok (.lor, 1) := by decide +kernel
theorem d_law_231 : decode code 231 = .ok (.invokevirtual 29, 3) := by decide +kernel
theorem d_law_234 : decode code 234 = .ok (.if_icmp .eq 306, 3) := by decide +kernel
theorem d_law_237 : decode code 237 = .ok (.iconst 0, 1) := by decide +kernel
theorem d_law_238 : decode code 238 = .ok (.ireturn, 1) := by decide +kernel
theorem d_law_239 : decode code 239 = .ok (.aload_n 1, 1) := by decide +kernel
theorem d_law_240 : decode code 240 = .ok (.invokevirtual 30, 3) := by decide +kernel
theorem d_law_243 : decode code 243 = .ok (.aload_n 2, 1) := by decide +kernel
theorem d_law_244 : decode code 244 = .ok (.invokevirtual 34, 3) := by decide +kernel
theorem d_law_247 : decode code 247 = .ok (.lcmp, 1) := by decide +kernel
theorem d_law_248 : decode code 248 = .ok (.ifCond .eq 292, 3) := by decide +kernel
theorem d_law_251 : decode code 251 = .ok (.iconst 0, 1) := by decide +kernel
theorem d_law_252 : decode code 252 = .ok (.ireturn, 1) := by decide +kernel
theorem d_law_253 : decode code 253 = .ok (.aload_n 1, 1) := by decide +kernel
theorem d_law_254 : decode code 254 = .ok (.invokevirtual 35, 3) := by decide +kernel
theorem d_law_257 : decode code 257 = .ok (.aload_n 2, 1) := by decide +kernel
theorem d_law_258 : decode code 258 = .ok (.invokevirtual 38, 3) := by decide +kernel
theorem d_law_261 : decode code 261 = .ok (.if_icmp .eq 279, 3) := by decide +kernel
theorem d_law_264 : decode code 264 = .ok (.iconst 0, 1) := by decide +kernel
theorem d_law_265 : decode code 265 = .ok (.ireturn, 1) := by decide +kernel
theorem d_law_266 : decode code 266 = .ok (.aload_n 1, 1) := by decide +kernel
theorem d_law_267 : decode code 267 = .ok (.aload_n 0, 1) := by decide +kernel
theorem d_law_268 : decode code 268 = .ok (.iload_n 3, 1) := by decide +kernel
theorem d_law_269 : decode code 269 = .ok (.iconst 1, 1) := by decide +kernel
theorem d_law_270 : decode code 270 = .ok (.iadd, 1) := by decide +kernel
theorem d_law_271 : decode code 271 = .ok (.iaload, 1) := by decide +kernel
theorem d_law_272 : decode code 272 = .ok (.aload_n 0, 1) := by decide +kernel
theorem d_law_273 : decode code 273 = .ok (.iload_n 3, 1) := by decide +kernel
theorem d_law_274 : decode code 274 = .ok (.iconst 2, 1) := by decide +kernel
theorem d_law_275 : decode code 275 = .ok (.iadd, 1) := by decide +kernel
theorem d_law_276 : decode code 276 = .ok (.iaload, 1) := by decide +kernel
theorem d_law_277 : decode code 277 = .ok (.invokevirtual 39, 3) := by decide +kernel
theorem d_law_280 : decode code 280 = .ok (.aload_n 2, 1) := by decide +kernel
theorem d_law_281 : decode code 281 = .ok (.aload_n 0, 1) := by decide +kernel
theorem d_law_282 : decode code 282 = .ok (.iload_n 3, 1) := by decide +kernel
theorem d_law_283 : decode code 283 = .ok (.iconst 1, 1) := by decide +kernel
theorem d_law_284 : decode code 284 = .ok (.iadd, 1) := by decide +kernel
theorem d_law_285 : decode code 285 = .ok (.iaload, 1) := by decide +kernel
theorem d_law_286 : decode code 286 = .ok (.aload_n 0, 1) := by decide +kernel
theorem d_law_287 : decode code 287 = .ok (.iload_n 3, 1) := by decide +kernel
theorem d_law_288 : decode code 288 = .ok (.iconst 2, 1) := by decide +kernel
theorem d_law_289 : decode code 289 = .ok (.iadd, 1) := by decide +kernel
theorem d_law_290 : decode code 290 = .ok (.iaload, 1) := by decide +kernel
theorem d_law_291 : decode code 291 = .ok (.invokevirtual 43, 3) := by decide +kernel
theorem d_law_294 : decode code 294 = .ok (.if_icmp .eq 246, 3) := by decide +kernel
theorem d_law_297 : decode code 297 = .ok (.iconst 0, 1) := by decide +kernel
theorem d_law_298 : decode code 298 = .ok (.ireturn, 1) := by decide +kernel
theorem d_law_299 : decode code 299 = .ok (.aload_n 1, 1) := by decide +kernel
theorem d_law_300 : decode code 300 = .ok (.aload_n 0, 1) := by decide +kernel
theorem d_law_301 : decode code 301 = .ok (.iload_n 3, 1) := by decide +kernel
theorem d_law_302 : decode code 302 = .ok (.iconst 1, 1) := by decide +kernel
theorem d_law_303 : decode code 303 = .ok (.iadd, 1) := by decide +kernel
theorem d_law_304 : decode code 304 = .ok (.iaload, 1) := by decide +kernel
theorem d_law_305 : decode code 305 = .ok (.aload_n 0, 1) := by decide +kernel
theorem d_law_306 : decode code 306 = .ok (.iload_n 3, 1) := by decide +kernel
theorem d_law_307 : decode code 307 = .ok (.iconst 2, 1) := by decide +kernel
theorem d_law_308 : decode code 308 = .ok (.iadd, 1) := by decide +kernel
theorem d_law_309 : decode code 309 = .ok (.iaload, 1) := by decide +kernel
theorem d_law_310 : decode code 310 = .ok (.aload_n 0, 1) := by decide +kernel
theorem d_law_311 : decode code 311 = .ok (.iload_n 3, 1) := by decide +kernel
theorem d_law_312 : decode code 312 = .ok (.iconst 3, 1) := by decide +kernel
theorem d_law_313 : decode code 313 = .ok (.iadd, 1) := by decide +kernel
theorem d_law_314 : decode code 314 = .ok (.iaload, 1) := by decide +kernel
theorem d_law_315 : decode code 315 = .ok (.invokevirtual 44, 3) := by decide +kernel
theorem d_law_318 : decode code 318 = .ok (.aload_n 2, 1) := by decide +kernel
theorem d_law_319 : decode code 319 = .ok (.aload_n 0, 1) := by decide +kernel
theorem d_law_320 : decode code 320 = .ok (.iload_n 3, 1) := by decide +kernel
theorem d_law_321 : decode code 321 = .ok (.iconst 1, 1) := by decide +kernel
theorem d_law_322 : decode code 322 = .ok (.iadd, 1) := by decide +kernel
theorem d_law_323 : decode code 323 = .ok (.iaload, 1) := by decide +kernel
theorem d_law_324 : decode code 324 = .ok (.aload_n 0, 1) := by decide +kernel
theorem d_law_325 : decode code 325 = .ok (.iload_n 3, 1) := by decide +kernel
theorem d_law_326 : decode code 326 = .ok (.iconst 2, 1) := by decide +kernel
theorem d_law_327 : decode code 327 = .ok (.iadd, 1) := by decide +kernel
theorem d_law_328 : decode code 328 = .ok (.iaload, 1) := by decide +kernel
theorem d_law_329 : decode code 329 = .ok (.aload_n 0, 1) := by decide +kernel
theorem d_law_330 : decode code 330 = .ok (.iload_n 3, 1) := by decide +kernel
theorem d_law_331 : decode code 331 = .ok (.iconst 3, 1) := by decide +kernel
theorem d_law_332 : decode code 332 = .ok (.iadd, 1) := by decide +kernel
theorem d_law_333 : decode code 333 = .ok (.iaload, 1) := by decide +kernel
theorem d_law_334 : decode code 334 = .ok (.invokevirtual 48, 3) := by decide +kernel
theorem d_law_337 : decode code 337 = .ok (.if_icmp .eq 203, 3) := by decide +kernel
theorem d_law_340 : decode code 340 = .ok (.iconst 0, 1) := by decide +kernel
theorem d_law_341 : decode code 341 = .ok (.ireturn, 1) := by decide +kernel
theorem d_law_342 : decode code 342 = .ok (.aload_n 1, 1) := by decide +kernel
theorem d_law_343 : decode code 343 = .ok (.invokevirtual 49, 3) := by decide +kernel
theorem d_law_346 : decode code 346 = .ok (.aload_n 2, 1) := by decide +kernel
theorem d_law_347 : decode code 347 = .ok (.invokevirtual 52, 3) := by decide +kernel
theorem d_law_350 : decode code 350 = .ok (.if_icmp .eq 190, 3) := by decide +kernel
theorem d_law_353 : decode code 353 = .ok (.iconst 0, 1) := by decide +kernel
theorem d_law_354 : decode code 354 = .ok (.ireturn, 1) := by decide +kernel
theorem d_law_355 : decode code 355 = .ok (.aload_n 1, 1) := by decide +kernel
theorem d_law_356 : decode code 356 = .ok (.aload_n 0, 1) := by decide +kernel
theorem d_law_357 : decode code 357 = .ok (.iload_n 3, 1) := by decide +kernel
theorem d_law_358 : decode code 358 = .ok (.iconst 1, 1) := by decide +kernel
theorem d_law_359 : decode code 359 = .ok (.iadd, 1) := by decide +kernel
theorem d_law_360 : decode code 360 = .ok (.iaload, 1) := by decide +kernel
theorem d_law_361 : decode code 361 = .ok (.aload_n 0, 1) := by decide +kernel
theorem d_law_362 : decode code 362 = .ok (.iload_n 3, 1) := by decide +kernel
theorem d_law_363 : decode code 363 = .ok (.iconst 2, 1) := by decide +kernel
theorem d_law_364 : decode code 364 = .ok (.iadd, 1) := by decide +kernel
theorem d_law_365 : decode code 365 = .ok (.iaload, 1) := by decide +kernel
theorem d_law_366 : decode code 366 = .ok (.invokevirtual 53, 3) := by decide +kernel
theorem d_law_369 : decode code 369 = .ok (.aload_n 2, 1) := by decide +kernel
theorem d_law_370 : decode code 370 = .ok (.aload_n 0, 1) := by decide +kernel
theorem d_law_371 : decode code 371 = .ok (.iload_n 3, 1) := by decide +kernel
theorem d_law_372 : decode code 372 = .ok (.iconst 1, 1) := by decide +kernel
theorem d_law_373 : decode code 373 = .ok (.iadd, 1) := by decide +kernel
theorem d_law_374 : decode code 374 = .ok (.iaload, 1) := by decide +kernel
theorem d_law_375 : decode code 375 = .ok (.aload_n 0, 1) := by decide +kernel
theorem d_law_376 : decode code 376 = .ok (.iload_n 3, 1) := by decide +kernel
theorem d_law_377 : decode code 377 = .ok (.iconst 2, 1) := by decide +kernel
theorem d_law_378 : decode code 378 = .ok (.iadd, 1) := by decide +kernel
theorem d_law_379 : decode code 379 = .ok (.iaload, 1) := by decide +kernel
theorem d_law_380 : decode code 380 = .ok (.invokevirtual 56, 3) := by decide +kernel
theorem d_law_383 : decode code 383 = .ok (.if_icmp .eq 157, 3) := by decide +kernel
theorem d_law_386 : decode code 386 = .ok (.iconst 0, 1) := by decide +kernel
theorem d_law_387 : decode code 387 = .ok (.ireturn, 1) := by decide +kernel
theorem d_law_388 : decode code 388 = .ok (.aload_n 1, 1) := by decide +kernel
theorem d_law_389 : decode code 389 = .ok (.aload_n 0, 1) := by decide +kernel
theorem d_law_390 : decode code 390 = .ok (.iload_n 3, 1) := by decide +kernel
theorem d_law_391 : decode code 391 = .ok (.iconst 1, 1) := by decide +kernel
theorem d_law_392 : decode code 392 = .ok (.iadd, 1) := by decide +kernel
theorem d_law_393 : decode code 393 = .ok (.iaload, 1) := by decide +kernel
theorem d_law_394 : decode code 394 = .ok (.invokevirtual 57, 3) := by decide +kernel
theorem d_law_397 : decode code 397 = .ok (.aload_n 2, 1) := by decide +kernel
theorem d_law_398 : decode code 398 = .ok (.aload_n 0, 1) := by decide +kernel
theorem d_law_399 : decode code 399 = .ok (.iload_n 3, 1) := by decide +kernel
theorem d_law_400 : decode code 400 = .ok (.iconst 1, 1) := by decide +kernel
theorem d_law_401 : decode code 401 = .ok (.iadd, 1) := by decide +kernel
theorem d_law_402 : decode code 402 = .ok (.iaload, 1) := by decide +kernel
theorem d_law_403 : decode code 403 = .ok (.invokevirtual 61, 3) := by decide +kernel
theorem d_law_406 : decode code 406 = .ok (.if_icmp .eq 134, 3) := by decide +kernel
theorem d_law_409 : decode code 409 = .ok (.iconst 0, 1) := by decide +kernel
theorem d_law_410 : decode code 410 = .ok (.ireturn, 1) := by decide +kernel
theorem d_law_411 : decode code 411 = .ok (.aload_n 1, 1) := by decide +kernel
theorem d_law_412 : decode code 412 = .ok (.aload_n 0, 1) := by decide +kernel
theorem d_law_413 : decode code 413 = .ok (.iload_n 3, 1) := by decide +kernel
theorem d_law_414 : decode code 414 = .ok (.iconst 1, 1) := by decide +kernel
theorem d_law_415 : decode code 415 = .ok (.iadd, 1) := by decide +kernel
theorem d_law_416 : decode code 416 = .ok (.iaload, 1) := by decide +kernel
theorem d_law_417 : decode code 417 = .ok (.invokevirtual 62, 3) := by decide +kernel
theorem d_law_420 : decode code 420 = .ok (.aload_n 2, 1) := by decide +kernel
theorem d_law_421 : decode code 421 = .ok (.aload_n 0, 1) := by decide +kernel
theorem d_law_422 : decode code 422 = .ok (.iload_n 3, 1) := by decide +kernel
theorem d_law_423 : decode code 423 = .ok (.iconst 1, 1) := by decide +kernel
theorem d_law_424 : decode code 424 = .ok (.iadd, 1) := by decide +kernel
theorem d_law_425 : decode code 425 = .ok (.iaload, 1) := by decide +kernel
theorem d_law_426 : decode code 426 = .ok (.invokevirtual 65, 3) := by decide +kernel
theorem d_law_429 : decode code 429 = .ok (.if_icmp .eq 111, 3) := by decide +kernel
theorem d_law_432 : decode code 432 = .ok (.iconst 0, 1) := by decide +kernel
theorem d_law_433 : decode code 433 = .ok (.ireturn, 1) := by decide +kernel
theorem d_law_434 : decode code 434 = .ok (.aload_n 1, 1) := by decide +kernel
theorem d_law_435 : decode code 435 = .ok (.aload_n 0, 1) := by decide +kernel
theorem d_law_436 : decode code 436 = .ok (.iload_n 3, 1) := by decide +kernel
theorem d_law_437 : decode code 437 = .ok (.iconst 1, 1) := by decide +kernel
theorem d_law_438 : decode code 438 = .ok (.iadd, 1) := by decide +kernel
theorem d_law_439 : decode code 439 = .ok (.iaload, 1) := by decide +kernel
theorem d_law_440 : decode code 440 = .ok (.i2l, 1) := by decide +kernel
theorem d_law_441 : decode code 441 = .ok (.bipush 32, 2) := by decide +kernel
theorem d_law_443 : decode code 443 = .ok (.lshl, 1) := by decide +kernel
theorem d_law_444 : decode code 444 = .ok (.aload_n 0, 1) := by decide +kernel
theorem d_law_445 : decode code 445 = .ok (.iload_n 3, 1) := by decide +kernel
theorem d_law_446 : decode code 446 = .ok (.iconst 2, 1) := by decide +kernel
theorem d_law_447 : decode code 447 = .ok (.iadd, 1) := by decide +kernel
theorem d_law_448 : decode code 448 = .ok (.iaload, 1) := by decide +kernel
theorem d_law_449 : decode code 449 = .ok (.i2l, 1) := by decide +kernel
theorem d_law_450 : decode code 450 = .ok (.ldc2_w 13, 3) := by decide +kernel
theorem d_law_453 : decode code 453 = .ok (.land, 1) := by decide +kernel
theorem d_law_454 : decode code 454 = .ok (.lor, 1) := by decide +kernel
theorem d_law_455 : decode code 455 = .ok (.invokevirtual 66, 3) := by decide +kernel
theorem d_law_458 : decode code 458 = .ok (.aload_n 2, 1) := by decide +kernel
theorem d_law_459 : decode code 459 = .ok (.aload_n 0, 1) := by decide +kernel
theorem d_law_460 : decode code 460 = .ok (.iload_n 3, 1) := by decide +kernel
theorem d_law_461 : decode code 461 = .ok (.iconst 1, 1) := by decide +kernel
theorem d_law_462 : decode code 462 = .ok (.iadd, 1) := by decide +kernel
theorem d_law_463 : decode code 463 = .ok (.iaload, 1) := by decide +kernel
theorem d_law_464 : decode code 464 = .ok (.i2l, 1) := by decide +kernel
theorem d_law_465 : decode code 465 = .ok (.bipush 32, 2) := by decide +kernel
theorem d_law_467 : decode code 467 = .ok (.lshl, 1) := by decide +kernel
theorem d_law_468 : decode code 468 = .ok (.aload_n 0, 1) := by decide +kernel
theorem d_law_469 : decode code 469 = .ok (.iload_n 3, 1) := by decide +kernel
theorem d_law_470 : decode code 470 = .ok (.iconst 2, 1) := by decide +kernel
theorem d_law_471 : decode code 471 = .ok (.iadd, 1) := by decide +kernel
theorem d_law_472 : decode code 472 = .ok (.iaload, 1) := by decide +kernel
theorem d_law_473 : decode code 473 = .ok (.i2l, 1) := by decide +kernel
theorem d_law_474 : decode code 474 = .ok (.ldc2_w 13, 3) := by decide +kernel
theorem d_law_477 : decode code 477 = .ok (.land, 1) := by decide +kernel
theorem d_law_478 : decode code 478 = .ok (.lor, 1) := by decide +kernel
theorem d_law_479 : decode code 479 = .ok (.invokevirtual 70, 3) := by decide +kernel
theorem d_law_482 : decode code 482 = .ok (.if_icmp .eq 58, 3) := by decide +kernel
theorem d_law_485 : decode code 485 = .ok (.iconst 0, 1) := by decide +kernel
theorem d_law_486 : decode code 486 = .ok (.ireturn, 1) := by decide +kernel
theorem d_law_487 : decode code 487 = .ok (.aload_n 1, 1) := by decide +kernel
theorem d_law_488 : decode code 488 = .ok (.aload_n 0, 1) := by decide +kernel
theorem d_law_489 : decode code 489 = .ok (.iload_n 3, 1) := by decide +kernel
theorem d_law_490 : decode code 490 = .ok (.iconst 1, 1) := by decide +kernel
theorem d_law_491 : decode code 491 = .ok (.iadd, 1) := by decide +kernel
theorem d_law_492 : decode code 492 = .ok (.iaload, 1) := by decide +kernel
theorem d_law_493 : decode code 493 = .ok (.i2l, 1) := by decide +kernel
theorem d_law_494 : decode code 494 = .ok (.bipush 32, 2) := by decide +kernel
theorem d_law_496 : decode code 496 = .ok (.lshl, 1) := by decide +kernel
theorem d_law_497 : decode code 497 = .ok (.aload_n 0, 1) := by decide +kernel
theorem d_law_498 : decode code 498 = .ok (.iload_n 3, 1) := by decide +kernel
theorem d_law_499 : decode code 499 = .ok (.iconst 2, 1) := by decide +kernel
theorem d_law_500 : decode code 500 = .ok (.iadd, 1) := by decide +kernel
theorem d_law_501 : decode code 501 = .ok (.iaload, 1) := by decide +kernel
theorem d_law_502 : decode code 502 = .ok (.i2l, 1) := by decide +kernel
theorem d_law_503 : decode code 503 = .ok (.ldc2_w 13, 3) := by decide +kernel
theorem d_law_506 : decode code 506 = .ok (.land, 1) := by decide +kernel
theorem d_law_507 : decode code 507 = .ok (.lor, 1) := by decide +kernel
theorem d_law_508 : decode code 508 = .ok (.invokevirtual 71, 3) := by decide +kernel
theorem d_law_511 : decode code 511 = .ok (.aload_n 2, 1) := by decide +kernel
theorem d_law_512 : decode code 512 = .ok (.aload_n 0, 1) := by decide +kernel
theorem d_law_513 : decode code 513 = .ok (.iload_n 3, 1) := by decide +kernel
theorem d_law_514 : decode code 514 = .ok (.iconst 1, 1) := by decide +kernel
theorem d_law_515 : decode code 515 = .ok (.iadd, 1) := by decide +kernel
theorem d_law_516 : decode code 516 = .ok (.iaload, 1) := by decide +kernel
theorem d_law_517 : decode code 517 = .ok (.i2l, 1) := by decide +kernel
theorem d_law_518 : decode code 518 = .ok (.bipush 32, 2) := by decide +kernel
theorem d_law_520 : decode code 520 = .ok (.lshl, 1) := by decide +kernel
theorem d_law_521 : decode code 521 = .ok (.aload_n 0, 1) := by decide +kernel
theorem d_law_522 : decode code 522 = .ok (.iload_n 3, 1) := by decide +kernel
theorem d_law_523 : decode code 523 = .ok (.iconst 2, 1) := by decide +kernel
theorem d_law_524 : decode code 524 = .ok (.iadd, 1) := by decide +kernel
theorem d_law_525 : decode code 525 = .ok (.iaload, 1) := by decide +kernel
theorem d_law_526 : decode code 526 = .ok (.i2l, 1) := by decide +kernel
theorem d_law_527 : decode code 527 = .ok (.ldc2_w 13, 3) := by decide +kernel
theorem d_law_530 : decode code 530 = .ok (.land, 1) := by decide +kernel
theorem d_law_531 : decode code 531 = .ok (.lor, 1) := by decide +kernel
theorem d_law_532 : decode code 532 = .ok (.invokevirtual 74, 3) := by decide +kernel
theorem d_law_535 : decode code 535 = .ok (.if_icmp .eq 5, 3) := by decide +kernel
theorem d_law_538 : decode code 538 = .ok (.iconst 0, 1) := by decide +kernel
theorem d_law_539 : decode code 539 = .ok (.ireturn, 1) := by decide +kernel
theorem d_law_540 : decode code 540 = .ok (.iinc 3 4, 3) := by decide +kernel
theorem d_law_543 : decode code 543 = .ok (.goto (-525), 3) := by decide +kernel
theorem d_law_546 : decode code 546 = .ok (.iconst 1, 1) := by decide +kernel
theorem d_law_547 : decode code 547 = .ok (.ireturn, 1) := by decide +kernel
def s_law_540 (xs : Nat → Int32) (sn : Nat) (c18 : Nat → Nat → Nat → Int32 → HP → Option (Int32 × HP)) (x0 : Nat) (x1 : Nat) (x2 : Nat) (x3 : Int32) (h : HP) : Option (Int32 × HP) :=
  c18 x0 x1 x2 (x3 + 4) h
set_option maxHeartbeats 4000000 in
set_option maxRecDepth 100000 in
theorem k_law_540 {x0 : Nat} {x1 : Nat} {x2 : Nat} {x3 : Int32} {h : HP} {z : Int32 × HP} (C : CXA g (fun q => s.heap.size ≤ q) R_law code 4 (some .boolean) p s m #[Value.ref b] meth c) (xs : Nat → Int32) (sn : Nat) (hX : va_X b sn xs s s.heap) (hbl : b < s.heap.size) (hz : z.1 = 1) (c18 : Nat → Nat → Nat → Int32 → HP → Option (Int32 × HP))
    (hc18 : ∀ {x0 : Nat} {x1 : Nat} {x2 : Nat} {x3 : Int32} {h : HP} {H : Heap} {locs : List Loc} {ls : Array Slot}, WDA g (fun q => s.heap.size ≤ q) h s.heap H locs → lv_has ls 4 [(0, .ref b), (1, .ref (aD g x1)), (2, .ref (aD g x2)), (3, .int x3)] → c18 x0 x1 x2 x3 h = some z → W p l e room_1 s m #[Value.ref b] below meth c H locs 600000 7302249 (lw_Z below #[Value.ref b] s) (F0 m 18 ls [])) {H : Heap} {locs : List Loc} {ls : Array Slot} (hw : WDA g (fun q => s.heap.size ≤ q) h s.heap H locs) (hl : lv_has ls 4 [(0, .ref b), (1, .ref (aD g x1)), (2, .ref (aD g x2)), (3, .int x3)]) (hs : s_law_540 xs sn c18 x0 x1 x2 x3 h = some z) : W p l e room_1 s m #[Value.ref b] below meth c H locs 600000 7302249 (lw_Z below #[Value.ref b] s) (F0 m 540 ls []) := by
  unfold s_law_540 at hs
  have hx := C.1
  have hb := C.2.1
  refine lv_iinc hx hb d_law_540 hl (k := 3) rfl (v := (x3 + 4)) (iinc_e _ (by decide)) (by decide) (lv' := [(3, .int (x3 + 4)), (0, .ref b), (1, .ref (aD g x1)), (2, .ref (aD g x2))]) rfl (fun ls hl => ?_)
  refine lv_goto hx hb d_law_543 (tgt := 18) (by decide) ?_
  exact hc18 hw (lv_sub hl [1, 2, 3, 0] rfl) hs

def s_law_18 (xs : Nat → Int32) (sn : Nat) : Nat → Nat → Nat → Nat → Int32 → HP → Option (Int32 × HP)
  | 0 => fun _ _ _ _ _ => none
  | k + 1 => fun x0 x1 x2 x3 h =>
  if ((Int32.ofNat sn) - 4) < x3 then (
    some (1, h))
  else (
    (scA xs sn x3).bind fun v2 =>
    if (v2 &&& 15) = 0 then (
      (scA xs sn (x3 + 1)).bind fun v4 =>
      (scA xs sn (x3 + 2)).bind fun v6 =>
      (scA xs sn (x3 + 3)).bind fun v8 =>
      (kd x1 8).bind fun _ =>
      (s_AdjoinedSets_type x1 ((v4.toInt64 <<< ((32 : Int32).toInt64 &&& 63)) ||| (v6.toInt64 &&& 4294967295)) v8 h).bind fun q11 =>
      (scA xs sn (x3 + 1)).bind fun v13 =>
      (scA xs sn (x3 + 2)).bind fun v15 =>
      (scA xs sn (x3 + 3)).bind fun v17 =>
      (kd x2 9).bind fun _ =>
      (s_AdjoinedSetsModel_type x2 ((v13.toInt64 <<< ((32 : Int32).toInt64 &&& 63)) ||| (v15.toInt64 &&& 4294967295)) v17 q11.2).bind fun q20 =>
      if q11.1 = q20.1 then (
        s_law_540 xs sn (s_law_18 xs sn k) x0 x1 x2 x3 q20.2)
      else (
        some (0, q20.2)))
    else (
    if (v2 &&& 15) = 1 then (
      (kd x1 8).bind fun _ =>
      (s_AdjoinedSets_clear x1 h).bind fun q24 =>
      (kd x2 9).bind fun _ =>
      (s_AdjoinedSetsModel_clear x2 q24.2).bind fun q27 =>
      if q24.1 = q27.1 then (
        s_law_540 xs sn (s_law_18 xs sn k) x0 x1 x2 x3 q27.2)
      else (
        some (0, q27.2)))
    else (
    if (v2 &&& 15) = 2 then (
      (scA xs sn (x3 + 1)).bind fun v30 =>
      (scA xs sn (x3 + 2)).bind fun v32 =>
      (scA xs sn (x3 + 3)).bind fun v34 =>
      (kd x1 8).bind fun _ =>
      (s_AdjoinedSets_let x1 v30 ((v32.toInt64 <<< ((32 : Int32).toInt64 &&& 63)) ||| (v34.toInt64 &&& 4294967295)) h).bind fun q37 =>
      (scA xs sn (x3 + 1)).bind fun v39 =>
      (scA xs sn (x3 + 2)).bind fun v41 =>
      (scA xs sn (x3 + 3)).bind fun v43 =>
      (kd x2 9).bind fun _ =>
      (s_AdjoinedSetsModel_let x2 v39 ((v41.toInt64 <<< ((32 : Int32).toInt64 &&& 63)) ||| (v43.toInt64 &&& 4294967295)) q37.2).bind fun q46 =>
      if q37.1 = q46.1 then (
        s_law_540 xs sn (s_law_18 xs sn k) x0 x1 x2 x3 q46.2)
      else (
        some (0, q46.2)))
    else (
    if (v2 &&& 15) = 3 then (
      (kd x1 8).bind fun _ =>
      (s_AdjoinedSets_eval x1 h).bind fun q50 =>
      (kd x2 9).bind fun _ =>
      (s_AdjoinedSetsModel_eval x2 q50.2).bind fun q53 =>
      if (lg_cmp q50.1 q53.1) = 0 then (
        s_law_540 xs sn (s_law_18 xs sn k) x0 x1 x2 x3 q53.2)
      else (
        some (0, q53.2)))
    else (
    if (v2 &&& 15) = 4 then (
      (kd x1 8).bind fun _ =>
      (s_AdjoinedSets_truth x1 h).bind fun q57 =>
      (kd x2 9).bind fun _ =>
      (s_AdjoinedSetsModel_truth x2 q57.2).bind fun q60 =>
      if q57.1 = q60.1 then (
        s_law_540 xs sn (s_law_18 xs sn k) x0 x1 x2 x3 q60.2)
      else (
        some (0, q60.2)))
    else (
    if (v2 &&& 15) = 5 then (
      (scA xs sn (x3 + 1)).bind fun v63 =>
      (scA xs sn (x3 + 2)).bind fun v65 =>
      (kd x1 8).bind fun _ =>
      (s_AdjoinedSets_define x1 v63 v65 h).bind fun q68 =>
      (scA xs sn (x3 + 1)).bind fun v70 =>
      (scA xs sn (x3 + 2)).bind fun v72 =>
      (kd x2 9).bind fun _ =>
      (s_AdjoinedSetsModel_define x2 v70 v72 q68.2).bind fun q75 =>
      if q68.1 = q75.1 then (
        s_law_540 xs sn (s_law_18 xs sn k) x0 x1 x2 x3 q75.2)
      else (
        some (0, q75.2)))
    else (
    if (v2 &&& 15) = 6 then (
      (scA xs sn (x3 + 1)).bind fun v78 =>
      (scA xs sn (x3 + 2)).bind fun v80 =>
      (scA xs sn (x3 + 3)).bind fun v82 =>
      (kd x1 8).bind fun _ =>
      (s_AdjoinedSets_prove x1 v78 v80 v82 h).bind fun q85 =>
      (scA xs sn (x3 + 1)).bind fun v87 =>
      (scA xs sn (x3 + 2)).bind fun v89 =>
      (scA xs sn (x3 + 3)).bind fun v91 =>
      (kd x2 9).bind fun _ =>
      (s_AdjoinedSetsModel_prove x2 v87 v89 v91 q85.2).bind fun q94 =>
      if q85.1 = q94.1 then (
        s_law_540 xs sn (s_law_18 xs sn k) x0 x1 x2 x3 q94.2)
      else (
        some (0, q94.2)))
    else (
    if (v2 &&& 15) = 7 then (
      (kd x1 8).bind fun _ =>
      (s_AdjoinedSets_theorems x1 h).bind fun q98 =>
      (kd x2 9).bind fun _ =>
      (s_AdjoinedSetsModel_theorems x2 h).bind fun q101 =>
      if q98 = q101 then (
        s_law_540 xs sn (s_law_18 xs sn k) x0 x1 x2 x3 h)
      else (
        some (0, h)))
    else (
    if (v2 &&& 15) = 8 then (
      (scA xs sn (x3 + 1)).bind fun v104 =>
      (scA xs sn (x3 + 2)).bind fun v106 =>
      (kd x1 8).bind fun _ =>
      (s_AdjoinedSets_theorem x1 v104 v106 h).bind fun q109 =>
      (scA xs sn (x3 + 1)).bind fun v111 =>
      (scA xs sn (x3 + 2)).bind fun v113 =>
      (kd x2 9).bind fun _ =>
      (s_AdjoinedSetsModel_theorem x2 v111 v113 h).bind fun q116 =>
      if q109 = q116 then (
        s_law_540 xs sn (s_law_18 xs sn k) x0 x1 x2 x3 h)
      else (
        some (0, h)))
    else (
    if (v2 &&& 15) = 9 then (
      (scA xs sn (x3 + 1)).bind fun v119 =>
      (kd x1 8).bind fun _ =>
      (s_AdjoinedSets_rests x1 v119 h).bind fun q122 =>
      (scA xs sn (x3 + 1)).bind fun v124 =>
      (kd x2 9).bind fun _ =>
      (s_AdjoinedSetsModel_rests x2 v124 h).bind fun q127 =>
      if q122 = q127 then (
        s_law_540 xs sn (s_law_18 xs sn k) x0 x1 x2 x3 h)
      else (
        some (0, h)))
    else (
    if (v2 &&& 15) = 10 then (
      (scA xs sn (x3 + 1)).bind fun v130 =>
      (kd x1 8).bind fun _ =>
      (s_AdjoinedSets_refute x1 v130 h).bind fun q133 =>
      (scA xs sn (x3 + 1)).bind fun v135 =>
      (kd x2 9).bind fun _ =>
      (s_AdjoinedSetsModel_refute x2 v135 q133.2).bind fun q138 =>
      if q133.1 = q138.1 then (
        s_law_540 xs sn (s_law_18 xs sn k) x0 x1 x2 x3 q138.2)
      else (
        some (0, q138.2)))
    else (
    if (v2 &&& 15) = 11 then (
      (scA xs sn (x3 + 1)).bind fun v141 =>
      (scA xs sn (x3 + 2)).bind fun v143 =>
      (kd x1 8).bind fun _ =>
      (s_AdjoinedSets_size x1 ((v141.toInt64 <<< ((32 : Int32).toInt64 &&& 63)) ||| (v143.toInt64 &&& 4294967295))).bind fun q146 =>
      (scA xs sn (x3 + 1)).bind fun v148 =>
      (scA xs sn (x3 + 2)).bind fun v150 =>
      (kd x2 9).bind fun _ =>
      (s_AdjoinedSetsModel_size x2 ((v148.toInt64 <<< ((32 : Int32).toInt64 &&& 63)) ||| (v150.toInt64 &&& 4294967295))).bind fun q153 =>
      if q146 = q153 then (
        s_law_540 xs sn (s_law_18 xs sn k) x0 x1 x2 x3 h)
      else (
        some (0, h)))
    else (
    if (v2 &&& 15) = 12 then (
      (scA xs sn (x3 + 1)).bind fun v156 =>
      (scA xs sn (x3 + 2)).bind fun v158 =>
      (kd x1 8).bind fun _ =>
      (s_AdjoinedSets_rank x1 ((v156.toInt64 <<< ((32 : Int32).toInt64 &&& 63)) ||| (v158.toInt64 &&& 4294967295))).bind fun q161 =>
      (scA xs sn (x3 + 1)).bind fun v163 =>
      (scA xs sn (x3 + 2)).bind fun v165 =>
      (kd x2 9).bind fun _ =>
      (s_AdjoinedSetsModel_rank x2 ((v163.toInt64 <<< ((32 : Int32).toInt64 &&& 63)) ||| (v165.toInt64 &&& 4294967295))).bind fun q168 =>
      if q161 = q168 then (
        s_law_540 xs sn (s_law_18 xs sn k) x0 x1 x2 x3 h)
      else (
        some (0, h)))
    else (
      s_law_540 xs sn (s_law_18 xs sn k) x0 x1 x2 x3 h))))))))))))))
set_option maxHeartbeats 4000000 in
set_option maxRecDepth 100000 in
theorem k_law_18 {z : Int32 × HP} (C : CXA g (fun q => s.heap.size ≤ q) R_law code 4 (some .boolean) p s m #[Value.ref b] meth c) (xs : Nat → Int32) (sn : Nat) (hX : va_X b sn xs s s.heap) (hbl : b < s.heap.size) (hz : z.1 = 1) : ∀ (k : Nat) {x0 : Nat} {x1 : Nat} {x2 : Nat} {x3 : Int32} {h : HP} {H : Heap} {locs : List Loc} {ls : Array Slot}, WDA g (fun q => s.heap.size ≤ q) h s.heap H locs → lv_has ls 4 [(0, .ref b), (1, .ref (aD g x1)), (2, .ref (aD g x2)), (3, .int x3)] → s_law_18 xs sn k x0 x1 x2 x3 h = some z → W p l e room_1 s m #[Value.ref b] below meth c H locs 600000 7302249 (lw_Z below #[Value.ref b] s) (F0 m 18 ls []) := by
  have hx := C.1
  have hb := C.2.1
  intro k
  induction k with
  | zero =>
    intro x0 x1 x2 x3 h H locs ls hw hl hs
    exact (no_s hs).elim
  | succ k ih =>
    intro x0 x1 x2 x3 h H locs ls hw hl hs
    rw [s_law_18] at hs
    refine lv_iload_n hx hb d_law_18 rfl (lv_at hl 3 rfl) ?_
    refine lv_aload_n hx hb d_law_19 rfl (lv_at hl 0 rfl) ?_
    refine va_slen hx hb hX hbl (by omega) hw.2.2 d_law_20 ?_
    refine lv_iconst (v := 4) hx hb d_law_21 (by decide) ?_
    refine lv_isub hx hb d_law_22 ?_
    refine lv_icmp_gt hx hb d_law_23 (tgt := 546) (by decide) (fun hc => ?_) (fun hc => ?_)
    · have hs := oi_t hc hs
      refine lv_iconst (v := 1) hx hb d_law_546 (by decide) ?_
      obtain rfl := Option.some.inj hs
      exact lw_end C hw d_law_547
    · have hs := oi_f hc hs
      refine lv_aload_n hx hb d_law_26 rfl (lv_at hl 0 rfl) ?_
      refine lv_iload_n hx hb d_law_27 rfl (lv_at hl 3 rfl) ?_
      obtain ⟨v2, e3, hs⟩ := ob hs
      refine lw_sld C hw hX hbl e3 d_law_28 ?_
      refine lv_bipush (v := 15) hx hb d_law_29 (by decide) ?_
      refine lv_iand hx hb d_law_31 ?_
      refine by_c (fun (hk0 : (v2 &&& 15) = 0) => ?_) (fun (hk0 : ¬ (v2 &&& 15) = 0) => ?_)
      · have hs := oi_t hk0 hs
        refine lv_tableIn hx hb d_law_32 (by rw [hk0]; decide) (by rw [hk0]; decide) (off := 68) (by rw [hk0]; decide) (tgt := 100) (by decide) ?_
        refine lv_aload_n hx hb d_law_100 rfl (lv_at hl 1 rfl) ?_
        refine lv_aload_n hx hb d_law_101 rfl (lv_at hl 0 rfl) ?_
        refine lv_iload_n hx hb d_law_102 rfl (lv_at hl 3 rfl) ?_
        refine lv_iconst (v := 1) hx hb d_law_103 (by decide) ?_
        refine lv_iadd hx hb d_law_104 ?_
        obtain ⟨v4, e5, hs⟩ := ob hs
        refine lw_sld C hw hX hbl e5 d_law_105 ?_
        refine lv_i2l (v := v4.toInt64) hx hb d_law_106 rfl ?_
        refine lv_bipush (v := 32) hx hb d_law_107 (by decide) ?_
        refine lv_lshl (v := (v4.toInt64 <<< ((32 : Int32).toInt64 &&& 63))) hx hb d_law_109 rfl ?_
        refine lv_aload_n hx hb d_law_110 rfl (lv_at hl 0 rfl) ?_
        refine lv_iload_n hx hb d_law_111 rfl (lv_at hl 3 rfl) ?_
        refine lv_iconst (v := 2) hx hb d_law_112 (by decide) ?_
        refine lv_iadd hx hb d_law_113 ?_
        obtain ⟨v6, e7, hs⟩ := ob hs
        refine lw_sld C hw hX hbl e7 d_law_114 ?_
        refine lv_i2l (v := v6.toInt64) hx hb d_law_115 rfl ?_
        refine lv_ldc2 (v := 4294967295) hx hb C.own (C.w kc_AdjoinedSetsLaw_13) d_law_116 ?_
        refine lv_land hx hb d_law_119 ?_
        refine lv_lor hx hb d_law_120 ?_
        refine lv_aload_n hx hb d_law_121 rfl (lv_at hl 0 rfl) ?_
        refine lv_iload_n hx hb d_law_122 rfl (lv_at hl 3 rfl) ?_
        refine lv_iconst (v := 3) hx hb d_law_123 (by decide) ?_
        refine lv_iadd hx hb d_law_124 ?_
        obtain ⟨v8, e9, hs⟩ := ob hs
        refine lw_sld C hw hX hbl e9 d_law_125 ?_
        obtain ⟨_, e10, hs⟩ := ob hs
        obtain ⟨q11, e12, hs⟩ := ob hs
        refine pg_callVL C hw hl.1 ⟨Nat.le_refl _, Nat.le_refl _⟩ ml_AdjoinedSetsLaw_15 e10 (As := [.long ((v4.toInt64 <<< ((32 : Int32).toInt64 &&& 63)) ||| (v6.toInt64 &&& 4294967295)), .int v8]) (rest := []) (c_AdjoinedSets_type l g e12) rfl ⟨Nat.le_of_ble_eq_true rfl, Nat.le_of_ble_eq_true rfl⟩ (Nat.le_of_ble_eq_true rfl) rfl (st1 := [.int q11.1]) rfl d_law_126 (fun H locs hw => ?_)
        refine lv_aload_n hx hb d_law_129 rfl (lv_at hl 2 rfl) ?_
        refine lv_aload_n hx hb d_law_130 rfl (lv_at hl 0 rfl) ?_
        refine lv_iload_n hx hb d_law_131 rfl (lv_at hl 3 rfl) ?_
        refine lv_iconst (v := 1) hx hb d_law_132 (by decide) ?_
        refine lv_iadd hx hb d_law_133 ?_
        obtain ⟨v13, e14, hs⟩ := ob hs
        refine lw_sld C hw hX hbl e14 d_law_134 ?_
        refine lv_i2l (v := v13.toInt64) hx hb d_law_135 rfl ?_
        refine lv_bipush (v := 32) hx hb d_law_136 (by decide) ?_
        refine lv_lshl (v := (v13.toInt64 <<< ((32 : Int32).toInt64 &&& 63))) hx hb d_law_138 rfl ?_
        refine lv_aload_n hx hb d_law_139 rfl (lv_at hl 0 rfl) ?_
        refine lv_iload_n hx hb d_law_140 rfl (lv_at hl 3 rfl) ?_
        refine lv_iconst (v := 2) hx hb d_law_141 (by decide) ?_
        refine lv_iadd hx hb d_law_142 ?_
        obtain ⟨v15, e16, hs⟩ := ob hs
        refine lw_sld C hw hX hbl e16 d_law_143 ?_
        refine lv_i2l (v := v15.toInt64) hx hb d_law_144 rfl ?_
        refine lv_ldc2 (v := 4294967295) hx hb C.own (C.w kc_AdjoinedSetsLaw_13) d_law_145 ?_
        refine lv_land hx hb d_law_148 ?_
        refine lv_lor hx hb d_law_149 ?_
        refine lv_aload_n hx hb d_law_150 rfl (lv_at hl 0 rfl) ?_
        refine lv_iload_n hx hb d_law_151 rfl (lv_at hl 3 rfl) ?_
        refine lv_iconst (v := 3) hx hb d_law_152 (by decide) ?_
        refine lv_iadd hx hb d_law_153 ?_
        obtain ⟨v17, e18, hs⟩ := ob hs
        refine lw_sld C hw hX hbl e18 d_law_154 ?_
        obtain ⟨_, e19, hs⟩ := ob hs
        obtain ⟨q20, e21, hs⟩ := ob hs
        refine pg_callVL C hw hl.1 ⟨Nat.le_refl _, Nat.le_refl _⟩ ml_AdjoinedSetsLaw_19 e19 (As := [.long ((v13.toInt64 <<< ((32 : Int32).toInt64 &&& 63)) ||| (v15.toInt64 &&& 4294967295)), .int v17]) (rest := [.int q11.1]) (c_AdjoinedSetsModel_type l g e21) rfl ⟨Nat.le_of_ble_eq_true rfl, Nat.le_of_ble_eq_true rfl⟩ (Nat.le_of_ble_eq_true rfl) rfl (st1 := [.int q20.1, .int q11.1]) rfl d_law_155 (fun H locs hw => ?_)
        refine lv_icmp_eq hx hb d_law_158 (tgt := 540) (by decide) (fun hc => ?_) (fun hc => ?_)
        · have hs := oi_t hc hs
          exact k_law_540 C xs sn hX hbl hz (s_law_18 xs sn k) ih hw (lv_sub hl [0, 1, 2, 3] rfl) hs
        · have hs := oi_f hc hs
          refine lv_iconst (v := 0) hx hb d_law_161 (by decide) ?_
          obtain rfl := Option.some.inj hs
          exact absurd hz (by show ¬ ((0 : Int32) = 1); decide)
      have hs := oi_f hk0 hs
      refine by_c (fun (hk1 : (v2 &&& 15) = 1) => ?_) (fun (hk1 : ¬ (v2 &&& 15) = 1) => ?_)
      · have hs := oi_t hk1 hs
        refine lv_tableIn hx hb d_law_32 (by rw [hk1]; decide) (by rw [hk1]; decide) (off := 131) (by rw [hk1]; decide) (tgt := 163) (by decide) ?_
        refine lv_aload_n hx hb d_law_163 rfl (lv_at hl 1 rfl) ?_
        obtain ⟨_, e23, hs⟩ := ob hs
        obtain ⟨q24, e25, hs⟩ := ob hs
        refine pg_callVL C hw hl.1 ⟨Nat.le_refl _, Nat.le_refl _⟩ ml_AdjoinedSetsLaw_20 e23 (As := []) (rest := []) (c_AdjoinedSets_clear l g e25) rfl ⟨Nat.le_of_ble_eq_true rfl, Nat.le_of_ble_eq_true rfl⟩ (Nat.le_of_ble_eq_true rfl) rfl (st1 := [.int q24.1]) rfl d_law_164 (fun H locs hw => ?_)
        refine lv_aload_n hx hb d_law_167 rfl (lv_at hl 2 rfl) ?_
        obtain ⟨_, e26, hs⟩ := ob hs
        obtain ⟨q27, e28, hs⟩ := ob hs
        refine pg_callVL C hw hl.1 ⟨Nat.le_refl _, Nat.le_refl _⟩ ml_AdjoinedSetsLaw_24 e26 (As := []) (rest := [.int q24.1]) (c_AdjoinedSetsModel_clear l g e28) rfl ⟨Nat.le_of_ble_eq_true rfl, Nat.le_of_ble_eq_true rfl⟩ (Nat.le_of_ble_eq_true rfl) rfl (st1 := [.int q27.1, .int q24.1]) rfl d_law_168 (fun H locs hw => ?_)
        refine lv_icmp_eq hx hb d_law_171 (tgt := 540) (by decide) (fun hc => ?_) (fun hc => ?_)
        · have hs := oi_t hc hs
          exact k_law_540 C xs sn hX hbl hz (s_law_18 xs sn k) ih hw (lv_sub hl [0, 1, 2, 3] rfl) hs
        · have hs := oi_f hc hs
          refine lv_iconst (v := 0) hx hb d_law_174 (by decide) ?_
          obtain rfl := Option.some.inj hs
          exact absurd hz (by show ¬ ((0 : Int32) = 1); decide)
      have hs := oi_f hk1 hs
      refine by_c (fun (hk2 : (v2 &&& 15) = 2) => ?_) (fun (hk2 : ¬ (v2 &&& 15) = 2) => ?_)
      · have hs := oi_t hk2 hs
        refine lv_tableIn hx hb d_law_32 (by rw [hk2]; decide) (by rw [hk2]; decide) (off := 144) (by rw [hk2]; decide) (tgt := 176) (by decide) ?_
        refine lv_aload_n hx hb d_law_176 rfl (lv_at hl 1 rfl) ?_
        refine lv_aload_n hx hb d_law_177 rfl (lv_at hl 0 rfl) ?_
        refine lv_iload_n hx hb d_law_178 rfl (lv_at hl 3 rfl) ?_
        refine lv_iconst (v := 1) hx hb d_law_179 (by decide) ?_
        refine lv_iadd hx hb d_law_180 ?_
        obtain ⟨v30, e31, hs⟩ := ob hs
        refine lw_sld C hw hX hbl e31 d_law_181 ?_
        refine lv_aload_n hx hb d_law_182 rfl (lv_at hl 0 rfl) ?_
        refine lv_iload_n hx hb d_law_183 rfl (lv_at hl 3 rfl) ?_
        refine lv_iconst (v := 2) hx hb d_law_184 (by decide) ?_
        refine lv_iadd hx hb d_law_185 ?_
        obtain ⟨v32, e33, hs⟩ := ob hs
        refine lw_sld C hw hX hbl e33 d_law_186 ?_
        refine lv_i2l (v := v32.toInt64) hx hb d_law_187 rfl ?_
        refine lv_bipush (v := 32) hx hb d_law_188 (by decide) ?_
        refine lv_lshl (v := (v32.toInt64 <<< ((32 : Int32).toInt64 &&& 63))) hx hb d_law_190 rfl ?_
        refine lv_aload_n hx hb d_law_191 rfl (lv_at hl 0 rfl) ?_
        refine lv_iload_n hx hb d_law_192 rfl (lv_at hl 3 rfl) ?_
        refine lv_iconst (v := 3) hx hb d_law_193 (by decide) ?_
        refine lv_iadd hx hb d_law_194 ?_
        obtain ⟨v34, e35, hs⟩ := ob hs
        refine lw_sld C hw hX hbl e35 d_law_195 ?_
        refine lv_i2l (v := v34.toInt64) hx hb d_law_196 rfl ?_
        refine lv_ldc2 (v := 4294967295) hx hb C.own (C.w kc_AdjoinedSetsLaw_13) d_law_197 ?_
        refine lv_land hx hb d_law_200 ?_
        refine lv_lor hx hb d_law_201 ?_
        obtain ⟨_, e36, hs⟩ := ob hs
        obtain ⟨q37, e38, hs⟩ := ob hs
        refine pg_callVL C hw hl.1 ⟨Nat.le_refl _, Nat.le_refl _⟩ ml_AdjoinedSetsLaw_25 e36 (As := [.int v30, .long ((v32.toInt64 <<< ((32 : Int32).toInt64 &&& 63)) ||| (v34.toInt64 &&& 4294967295))]) (rest := []) (c_AdjoinedSets_let l g e38) rfl ⟨Nat.le_of_ble_eq_true rfl, Nat.le_of_ble_eq_true rfl⟩ (Nat.le_of_ble_eq_true rfl) rfl (st1 := [.int q37.1]) rfl d_law_202 (fun H locs hw => ?_)
        refine lv_aload_n hx hb d_law_205 rfl (lv_at hl 2 rfl) ?_
        refine lv_aload_n hx hb d_law_206 rfl (lv_at hl 0 rfl) ?_
        refine lv_iload_n hx hb d_law_207 rfl (lv_at hl 3 rfl) ?_
        refine lv_iconst (v := 1) hx hb d_law_208 (by decide) ?_
        refine lv_iadd hx hb d_law_209 ?_
        obtain ⟨v39, e40, hs⟩ := ob hs
        refine lw_sld C hw hX hbl e40 d_law_210 ?_
        refine lv_aload_n hx hb d_law_211 rfl (lv_at hl 0 rfl) ?_
        refine lv_iload_n hx hb d_law_212 rfl (lv_at hl 3 rfl) ?_
        refine lv_iconst (v := 2) hx hb d_law_213 (by decide) ?_
        refine lv_iadd hx hb d_law_214 ?_
        obtain ⟨v41, e42, hs⟩ := ob hs
        refine lw_sld C hw hX hbl e42 d_law_215 ?_
        refine lv_i2l (v := v41.toInt64) hx hb d_law_216 rfl ?_
        refine lv_bipush (v := 32) hx hb d_law_217 (by decide) ?_
        refine lv_lshl (v := (v41.toInt64 <<< ((32 : Int32).toInt64 &&& 63))) hx hb d_law_219 rfl ?_
        refine lv_aload_n hx hb d_law_220 rfl (lv_at hl 0 rfl) ?_
        refine lv_iload_n hx hb d_law_221 rfl (lv_at hl 3 rfl) ?_
        refine lv_iconst (v := 3) hx hb d_law_222 (by decide) ?_
        refine lv_iadd hx hb d_law_223 ?_
        obtain ⟨v43, e44, hs⟩ := ob hs
        refine lw_sld C hw hX hbl e44 d_law_224 ?_
        refine lv_i2l (v := v43.toInt64) hx hb d_law_225 rfl ?_
        refine lv_ldc2 (v := 4294967295) hx hb C.own (C.w kc_AdjoinedSetsLaw_13) d_law_226 ?_
        refine lv_land hx hb d_law_229 ?_
        refine lv_lor hx hb d_law_230 ?_
        obtain ⟨_, e45, hs⟩ := ob hs
        obtain ⟨q46, e47, hs⟩ := ob hs
        refine pg_callVL C hw hl.1 ⟨Nat.le_refl _, Nat.le_refl _⟩ ml_AdjoinedSetsLaw_29 e45 (As := [.int v39, .long ((v41.toInt64 <<< ((32 : Int32).toInt64 &&& 63)) ||| (v43.toInt64 &&& 4294967295))]) (rest := [.int q37.1]) (c_AdjoinedSetsModel_let l g e47) rfl ⟨Nat.le_of_ble_eq_true rfl, Nat.le_of_ble_eq_true rfl⟩ (Nat.le_of_ble_eq_true rfl) rfl (st1 := [.int q46.1, .int q37.1]) rfl d_law_231 (fun H locs hw => ?_)
        refine lv_icmp_eq hx hb d_law_234 (tgt := 540) (by decide) (fun hc => ?_) (fun hc => ?_)
        · have hs := oi_t hc hs
          exact k_law_540 C xs sn hX hbl hz (s_law_18 xs sn k) ih hw (lv_sub hl [0, 1, 2, 3] rfl) hs
        · have hs := oi_f hc hs
          refine lv_iconst (v := 0) hx hb d_law_237 (by decide) ?_
          obtain rfl := Option.some.inj hs
          exact absurd hz (by show ¬ ((0 : Int32) = 1); decide)
      have hs := oi_f hk2 hs
      refine by_c (fun (hk3 : (v2 &&& 15) = 3) => ?_) (fun (hk3 : ¬ (v2 &&& 15) = 3) => ?_)
      · have hs := oi_t hk3 hs
        refine lv_tableIn hx hb d_law_32 (by rw [hk3]; decide) (by rw [hk3]; decide) (off := 207) (by rw [hk3]; decide) (tgt := 239) (by decide) ?_
        refine lv_aload_n hx hb d_law_239 rfl (lv_at hl 1 rfl) ?_
        obtain ⟨_, e49, hs⟩ := ob hs
        obtain ⟨q50, e51, hs⟩ := ob hs
        refine pg_callVL C hw hl.1 ⟨Nat.le_refl _, Nat.le_refl _⟩ ml_AdjoinedSetsLaw_30 e49 (As := []) (rest := []) (c_AdjoinedSets_eval l g e51) rfl ⟨Nat.le_of_ble_eq_true rfl, Nat.le_of_ble_eq_true rfl⟩ (Nat.le_of_ble_eq_true rfl) rfl (st1 := [.long q50.1]) rfl d_law_240 (fun H locs hw => ?_)
        refine lv_aload_n hx hb d_law_243 rfl (lv_at hl 2 rfl) ?_
        obtain ⟨_, e52, hs⟩ := ob hs
        obtain ⟨q53, e54, hs⟩ := ob hs
        refine pg_callVL C hw hl.1 ⟨Nat.le_refl _, Nat.le_refl _⟩ ml_AdjoinedSetsLaw_34 e52 (As := []) (rest := [.long q50.1]) (c_AdjoinedSetsModel_eval l g e54) rfl ⟨Nat.le_of_ble_eq_true rfl, Nat.le_of_ble_eq_true rfl⟩ (Nat.le_of_ble_eq_true rfl) rfl (st1 := [.long q53.1, .long q50.1]) rfl d_law_244 (fun H locs hw => ?_)
        refine W.lcmp hx hb d_law_247 ?_
        refine lv_if_eq hx hb d_law_248 (tgt := 540) (by decide) (fun hc => ?_) (fun hc => ?_)
        · have hs := oi_t hc hs
          exact k_law_540 C xs sn hX hbl hz (s_law_18 xs sn k) ih hw (lv_sub hl [0, 1, 2, 3] rfl) hs
        · have hs := oi_f hc hs
          refine lv_iconst (v := 0) hx hb d_law_251 (by decide) ?_
          obtain rfl := Option.some.inj hs
          exact absurd hz (by show ¬ ((0 : Int32) = 1); decide)
      have hs := oi_f hk3 hs
      refine by_c (fun (hk4 : (v2 &&& 15) = 4) => ?_) (fun (hk4 : ¬ (v2 &&& 15) = 4) => ?_)
      · have hs := oi_t hk4 hs
        refine lv_tableIn hx hb d_law_32 (by rw [hk4]; decide) (by rw [hk4]; decide) (off := 221) (by rw [hk4]; decide) (tgt := 253) (by decide) ?_
        refine lv_aload_n hx hb d_law_253 rfl (lv_at hl 1 rfl) ?_
        obtain ⟨_, e56, hs⟩ := ob hs
        obtain ⟨q57, e58, hs⟩ := ob hs
        refine pg_callVL C hw hl.1 ⟨Nat.le_refl _, Nat.le_refl _⟩ ml_AdjoinedSetsLaw_35 e56 (As := []) (rest := []) (c_AdjoinedSets_truth l g e58) rfl ⟨Nat.le_of_ble_eq_true rfl, Nat.le_of_ble_eq_true rfl⟩ (Nat.le_of_ble_eq_true rfl) rfl (st1 := [.int q57.1]) rfl d_law_254 (fun H locs hw => ?_)
        refine lv_aload_n hx hb d_law_257 rfl (lv_at hl 2 rfl) ?_
        obtain ⟨_, e59, hs⟩ := ob hs
        obtain ⟨q60, e61, hs⟩ := ob hs
        refine pg_callVL C hw hl.1 ⟨Nat.le_refl _, Nat.le_refl _⟩ ml_AdjoinedSetsLaw_38 e59 (As := []) (rest := [.int q57.1]) (c_AdjoinedSetsModel_truth l g e61) rfl ⟨Nat.le_of_ble_eq_true rfl, Nat.le_of_ble_eq_true rfl⟩ (Nat.le_of_ble_eq_true rfl) rfl (st1 := [.int q60.1, .int q57.1]) rfl d_law_258 (fun H locs hw => ?_)
        refine lv_icmp_eq hx hb d_law_261 (tgt := 540) (by decide) (fun hc => ?_) (fun hc => ?_)
        · have hs := oi_t hc hs
          exact k_law_540 C xs sn hX hbl hz (s_law_18 xs sn k) ih hw (lv_sub hl [0, 1, 2, 3] rfl) hs
        · have hs := oi_f hc hs
          refine lv_iconst (v := 0) hx hb d_law_264 (by decide) ?_
          obtain rfl := Option.some.inj hs
          exact absurd hz (by show ¬ ((0 : Int32) = 1); decide)
      have hs := oi_f hk4 hs
      refine by_c (fun (hk5 : (v2 &&& 15) = 5) => ?_) (fun (hk5 : ¬ (v2 &&& 15) = 5) => ?_)
      · have hs := oi_t hk5 hs
        refine lv_tableIn hx hb d_law_32 (by rw [hk5]; decide) (by rw [hk5]; decide) (off := 234) (by rw [hk5]; decide) (tgt := 266) (by decide) ?_
        refine lv_aload_n hx hb d_law_266 rfl (lv_at hl 1 rfl) ?_
        refine lv_aload_n hx hb d_law_267 rfl (lv_at hl 0 rfl) ?_
        refine lv_iload_n hx hb d_law_268 rfl (lv_at hl 3 rfl) ?_
        refine lv_iconst (v := 1) hx hb d_law_269 (by decide) ?_
        refine lv_iadd hx hb d_law_270 ?_
        obtain ⟨v63, e64, hs⟩ := ob hs
        refine lw_sld C hw hX hbl e64 d_law_271 ?_
        refine lv_aload_n hx hb d_law_272 rfl (lv_at hl 0 rfl) ?_
        refine lv_iload_n hx hb d_law_273 rfl (lv_at hl 3 rfl) ?_
        refine lv_iconst (v := 2) hx hb d_law_274 (by decide) ?_
        refine lv_iadd hx hb d_law_275 ?_
        obtain ⟨v65, e66, hs⟩ := ob hs
        refine lw_sld C hw hX hbl e66 d_law_276 ?_
        obtain ⟨_, e67, hs⟩ := ob hs
        obtain ⟨q68, e69, hs⟩ := ob hs
        refine pg_callVL C hw hl.1 ⟨Nat.le_refl _, Nat.le_refl _⟩ ml_AdjoinedSetsLaw_39 e67 (As := [.int v63, .int v65]) (rest := []) (c_AdjoinedSets_define l g e69) rfl ⟨Nat.le_of_ble_eq_true rfl, Nat.le_of_ble_eq_true rfl⟩ (Nat.le_of_ble_eq_true rfl) rfl (st1 := [.int q68.1]) rfl d_law_277 (fun H locs hw => ?_)
        refine lv_aload_n hx hb d_law_280 rfl (lv_at hl 2 rfl) ?_
        refine lv_aload_n hx hb d_law_281 rfl (lv_at hl 0 rfl) ?_
        refine lv_iload_n hx hb d_law_282 rfl (lv_at hl 3 rfl) ?_
        refine lv_iconst (v := 1) hx hb d_law_283 (by decide) ?_
        refine lv_iadd hx hb d_law_284 ?_
        obtain ⟨v70, e71, hs⟩ := ob hs
        refine lw_sld C hw hX hbl e71 d_law_285 ?_
        refine lv_aload_n hx hb d_law_286 rfl (lv_at hl 0 rfl) ?_
        refine lv_iload_n hx hb d_law_287 rfl (lv_at hl 3 rfl) ?_
        refine lv_iconst (v := 2) hx hb d_law_288 (by decide) ?_
        refine lv_iadd hx hb d_law_289 ?_
        obtain ⟨v72, e73, hs⟩ := ob hs
        refine lw_sld C hw hX hbl e73 d_law_290 ?_
        obtain ⟨_, e74, hs⟩ := ob hs
        obtain ⟨q75, e76, hs⟩ := ob hs
        refine pg_callVL C hw hl.1 ⟨Nat.le_refl _, Nat.le_refl _⟩ ml_AdjoinedSetsLaw_43 e74 (As := [.int v70, .int v72]) (rest := [.int q68.1]) (c_AdjoinedSetsModel_define l g e76) rfl ⟨Nat.le_of_ble_eq_true rfl, Nat.le_of_ble_eq_true rfl⟩ (Nat.le_of_ble_eq_true rfl) rfl (st1 := [.int q75.1, .int q68.1]) rfl d_law_291 (fun H locs hw => ?_)
        refine lv_icmp_eq hx hb d_law_294 (tgt := 540) (by decide) (fun hc => ?_) (fun hc => ?_)
        · have hs := oi_t hc hs
          exact k_law_540 C xs sn hX hbl hz (s_law_18 xs sn k) ih hw (lv_sub hl [0, 1, 2, 3] rfl) hs
        · have hs := oi_f hc hs
          refine lv_iconst (v := 0) hx hb d_law_297 (by decide) ?_
          obtain rfl := Option.some.inj hs
          exact absurd hz (by show ¬ ((0 : Int32) = 1); decide)
      have hs := oi_f hk5 hs
      refine by_c (fun (hk6 : (v2 &&& 15) = 6) => ?_) (fun (hk6 : ¬ (v2 &&& 15) = 6) => ?_)
      · have hs := oi_t hk6 hs
        refine lv_tableIn hx hb d_law_32 (by rw [hk6]; decide) (by rw [hk6]; decide) (off := 267) (by rw [hk6]; decide) (tgt := 299) (by decide) ?_
        refine lv_aload_n hx hb d_law_299 rfl (lv_at hl 1 rfl) ?_
        refine lv_aload_n hx hb d_law_300 rfl (lv_at hl 0 rfl) ?_
        refine lv_iload_n hx hb d_law_301 rfl (lv_at hl 3 rfl) ?_
        refine lv_iconst (v := 1) hx hb d_law_302 (by decide) ?_
        refine lv_iadd hx hb d_law_303 ?_
        obtain ⟨v78, e79, hs⟩ := ob hs
        refine lw_sld C hw hX hbl e79 d_law_304 ?_
        refine lv_aload_n hx hb d_law_305 rfl (lv_at hl 0 rfl) ?_
        refine lv_iload_n hx hb d_law_306 rfl (lv_at hl 3 rfl) ?_
        refine lv_iconst (v := 2) hx hb d_law_307 (by decide) ?_
        refine lv_iadd hx hb d_law_308 ?_
        obtain ⟨v80, e81, hs⟩ := ob hs
        refine lw_sld C hw hX hbl e81 d_law_309 ?_
        refine lv_aload_n hx hb d_law_310 rfl (lv_at hl 0 rfl) ?_
        refine lv_iload_n hx hb d_law_311 rfl (lv_at hl 3 rfl) ?_
        refine lv_iconst (v := 3) hx hb d_law_312 (by decide) ?_
        refine lv_iadd hx hb d_law_313 ?_
        obtain ⟨v82, e83, hs⟩ := ob hs
        refine lw_sld C hw hX hbl e83 d_law_314 ?_
        obtain ⟨_, e84, hs⟩ := ob hs
        obtain ⟨q85, e86, hs⟩ := ob hs
        refine pg_callVL C hw hl.1 ⟨Nat.le_refl _, Nat.le_refl _⟩ ml_AdjoinedSetsLaw_44 e84 (As := [.int v78, .int v80, .int v82]) (rest := []) (c_AdjoinedSets_prove l g e86) rfl ⟨Nat.le_of_ble_eq_true rfl, Nat.le_of_ble_eq_true rfl⟩ (Nat.le_of_ble_eq_true rfl) rfl (st1 := [.int q85.1]) rfl d_law_315 (fun H locs hw => ?_)
        refine lv_aload_n hx hb d_law_318 rfl (lv_at hl 2 rfl) ?_
        refine lv_aload_n hx hb d_law_319 rfl (lv_at hl 0 rfl) ?_
        refine lv_iload_n hx hb d_law_320 rfl (lv_at hl 3 rfl) ?_
        refine lv_iconst (v := 1) hx hb d_law_321 (by decide) ?_
        refine lv_iadd hx hb d_law_322 ?_
        obtain ⟨v87, e88, hs⟩ := ob hs
        refine lw_sld C hw hX hbl e88 d_law_323 ?_
        refine lv_aload_n hx hb d_law_324 rfl (lv_at hl 0 rfl) ?_
        refine lv_iload_n hx hb d_law_325 rfl (lv_at hl 3 rfl) ?_
        refine lv_iconst (v := 2) hx hb d_law_326 (by decide) ?_
        refine lv_iadd hx hb d_law_327 ?_
        obtain ⟨v89, e90, hs⟩ := ob hs
        refine lw_sld C hw hX hbl e90 d_law_328 ?_
        refine lv_aload_n hx hb d_law_329 rfl (lv_at hl 0 rfl) ?_
        refine lv_iload_n hx hb d_law_330 rfl (lv_at hl 3 rfl) ?_
        refine lv_iconst (v := 3) hx hb d_law_331 (by decide) ?_
        refine lv_iadd hx hb d_law_332 ?_
        obtain ⟨v91, e92, hs⟩ := ob hs
        refine lw_sld C hw hX hbl e92 d_law_333 ?_
        obtain ⟨_, e93, hs⟩ := ob hs
        obtain ⟨q94, e95, hs⟩ := ob hs
        refine pg_callVL C hw hl.1 ⟨Nat.le_refl _, Nat.le_refl _⟩ ml_AdjoinedSetsLaw_48 e93 (As := [.int v87, .int v89, .int v91]) (rest := [.int q85.1]) (c_AdjoinedSetsModel_prove l g e95) rfl ⟨Nat.le_of_ble_eq_true rfl, Nat.le_of_ble_eq_true rfl⟩ (Nat.le_of_ble_eq_true rfl) rfl (st1 := [.int q94.1, .int q85.1]) rfl d_law_334 (fun H locs hw => ?_)
        refine lv_icmp_eq hx hb d_law_337 (tgt := 540) (by decide) (fun hc => ?_) (fun hc => ?_)
        · have hs := oi_t hc hs
          exact k_law_540 C xs sn hX hbl hz (s_law_18 xs sn k) ih hw (lv_sub hl [0, 1, 2, 3] rfl) hs
        · have hs := oi_f hc hs
          refine lv_iconst (v := 0) hx hb d_law_340 (by decide) ?_
          obtain rfl := Option.some.inj hs
          exact absurd hz (by show ¬ ((0 : Int32) = 1); decide)
      have hs := oi_f hk6 hs
      refine by_c (fun (hk7 : (v2 &&& 15) = 7) => ?_) (fun (hk7 : ¬ (v2 &&& 15) = 7) => ?_)
      · have hs := oi_t hk7 hs
        refine lv_tableIn hx hb d_law_32 (by rw [hk7]; decide) (by rw [hk7]; decide) (off := 310) (by rw [hk7]; decide) (tgt := 342) (by decide) ?_
        refine lv_aload_n hx hb d_law_342 rfl (lv_at hl 1 rfl) ?_
        obtain ⟨_, e97, hs⟩ := ob hs
        obtain ⟨q98, e99, hs⟩ := ob hs
        refine pg_callVL C hw hl.1 ⟨Nat.le_refl _, Nat.le_refl _⟩ ml_AdjoinedSetsLaw_49 e97 (As := []) (rest := []) (c_AdjoinedSets_theorems l g e99) rfl ⟨Nat.le_of_ble_eq_true rfl, Nat.le_of_ble_eq_true rfl⟩ (Nat.le_of_ble_eq_true rfl) rfl (st1 := [.int q98]) rfl d_law_343 (fun H locs hw => ?_)
        refine lv_aload_n hx hb d_law_346 rfl (lv_at hl 2 rfl) ?_
        obtain ⟨_, e100, hs⟩ := ob hs
        obtain ⟨q101, e102, hs⟩ := ob hs
        refine pg_callVL C hw hl.1 ⟨Nat.le_refl _, Nat.le_refl _⟩ ml_AdjoinedSetsLaw_52 e100 (As := []) (rest := [.int q98]) (c_AdjoinedSetsModel_theorems l g e102) rfl ⟨Nat.le_of_ble_eq_true rfl, Nat.le_of_ble_eq_true rfl⟩ (Nat.le_of_ble_eq_true rfl) rfl (st1 := [.int q101, .int q98]) rfl d_law_347 (fun H locs hw => ?_)
        refine lv_icmp_eq hx hb d_law_350 (tgt := 540) (by decide) (fun hc => ?_) (fun hc => ?_)
        · have hs := oi_t hc hs
          exact k_law_540 C xs sn hX hbl hz (s_law_18 xs sn k) ih hw (lv_sub hl [0, 1, 2, 3] rfl) hs
        · have hs := oi_f hc hs
          refine lv_iconst (v := 0) hx hb d_law_353 (by decide) ?_
          obtain rfl := Option.some.inj hs
          exact absurd hz (by show ¬ ((0 : Int32) = 1); decide)
      have hs := oi_f hk7 hs
      refine by_c (fun (hk8 : (v2 &&& 15) = 8) => ?_) (fun (hk8 : ¬ (v2 &&& 15) = 8) => ?_)
      · have hs := oi_t hk8 hs
        refine lv_tableIn hx hb d_law_32 (by rw [hk8]; decide) (by rw [hk8]; decide) (off := 323) (by rw [hk8]; decide) (tgt := 355) (by decide) ?_
        refine lv_aload_n hx hb d_law_355 rfl (lv_at hl 1 rfl) ?_
        refine lv_aload_n hx hb d_law_356 rfl (lv_at hl 0 rfl) ?_
        refine lv_iload_n hx hb d_law_357 rfl (lv_at hl 3 rfl) ?_
        refine lv_iconst (v := 1) hx hb d_law_358 (by decide) ?_
        refine lv_iadd hx hb d_law_359 ?_
        obtain ⟨v104, e105, hs⟩ := ob hs
        refine lw_sld C hw hX hbl e105 d_law_360 ?_
        refine lv_aload_n hx hb d_law_361 rfl (lv_at hl 0 rfl) ?_
        refine lv_iload_n hx hb d_law_362 rfl (lv_at hl 3 rfl) ?_
        refine lv_iconst (v := 2) hx hb d_law_363 (by decide) ?_
        refine lv_iadd hx hb d_law_364 ?_
        obtain ⟨v106, e107, hs⟩ := ob hs
        refine lw_sld C hw hX hbl e107 d_law_365 ?_
        obtain ⟨_, e108, hs⟩ := ob hs
        obtain ⟨q109, e110, hs⟩ := ob hs
        refine pg_callVL C hw hl.1 ⟨Nat.le_refl _, Nat.le_refl _⟩ ml_AdjoinedSetsLaw_53 e108 (As := [.int v104, .int v106]) (rest := []) (c_AdjoinedSets_theorem l g e110) rfl ⟨Nat.le_of_ble_eq_true rfl, Nat.le_of_ble_eq_true rfl⟩ (Nat.le_of_ble_eq_true rfl) rfl (st1 := [.int q109]) rfl d_law_366 (fun H locs hw => ?_)
        refine lv_aload_n hx hb d_law_369 rfl (lv_at hl 2 rfl) ?_
        refine lv_aload_n hx hb d_law_370 rfl (lv_at hl 0 rfl) ?_
        refine lv_iload_n hx hb d_law_371 rfl (lv_at hl 3 rfl) ?_
        refine lv_iconst (v := 1) hx hb d_law_372 (by decide) ?_
        refine lv_iadd hx hb d_law_373 ?_
        obtain ⟨v111, e112, hs⟩ := ob hs
        refine lw_sld C hw hX hbl e112 d_law_374 ?_
        refine lv_aload_n hx hb d_law_375 rfl (lv_at hl 0 rfl) ?_
        refine lv_iload_n hx hb d_law_376 rfl (lv_at hl 3 rfl) ?_
        refine lv_iconst (v := 2) hx hb d_law_377 (by decide) ?_
        refine lv_iadd hx hb d_law_378 ?_
        obtain ⟨v113, e114, hs⟩ := ob hs
        refine lw_sld C hw hX hbl e114 d_law_379 ?_
        obtain ⟨_, e115, hs⟩ := ob hs
        obtain ⟨q116, e117, hs⟩ := ob hs
        refine pg_callVL C hw hl.1 ⟨Nat.le_refl _, Nat.le_refl _⟩ ml_AdjoinedSetsLaw_56 e115 (As := [.int v111, .int v113]) (rest := [.int q109]) (c_AdjoinedSetsModel_theorem l g e117) rfl ⟨Nat.le_of_ble_eq_true rfl, Nat.le_of_ble_eq_true rfl⟩ (Nat.le_of_ble_eq_true rfl) rfl (st1 := [.int q116, .int q109]) rfl d_law_380 (fun H locs hw => ?_)
        refine lv_icmp_eq hx hb d_law_383 (tgt := 540) (by decide) (fun hc => ?_) (fun hc => ?_)
        · have hs := oi_t hc hs
          exact k_law_540 C xs sn hX hbl hz (s_law_18 xs sn k) ih hw (lv_sub hl [0, 1, 2, 3] rfl) hs
        · have hs := oi_f hc hs
          refine lv_iconst (v := 0) hx hb d_law_386 (by decide) ?_
          obtain rfl := Option.some.inj hs
          exact absurd hz (by show ¬ ((0 : Int32) = 1); decide)
      have hs := oi_f hk8 hs
      refine by_c (fun (hk9 : (v2 &&& 15) = 9) => ?_) (fun (hk9 : ¬ (v2 &&& 15) = 9) => ?_)
      · have hs := oi_t hk9 hs
        refine lv_tableIn hx hb d_law_32 (by rw [hk9]; decide) (by rw [hk9]; decide) (off := 356) (by rw [hk9]; decide) (tgt := 388) (by decide) ?_
        refine lv_aload_n hx hb d_law_388 rfl (lv_at hl 1 rfl) ?_
        refine lv_aload_n hx hb d_law_389 rfl (lv_at hl 0 rfl) ?_
        refine lv_iload_n hx hb d_law_390 rfl (lv_at hl 3 rfl) ?_
        refine lv_iconst (v := 1) hx hb d_law_391 (by decide) ?_
        refine lv_iadd hx hb d_law_392 ?_
        obtain ⟨v119, e120, hs⟩ := ob hs
        refine lw_sld C hw hX hbl e120 d_law_393 ?_
        obtain ⟨_, e121, hs⟩ := ob hs
        obtain ⟨q122, e123, hs⟩ := ob hs
        refine pg_callVL C hw hl.1 ⟨Nat.le_refl _, Nat.le_refl _⟩ ml_AdjoinedSetsLaw_57 e121 (As := [.int v119]) (rest := []) (c_AdjoinedSets_rests l g e123) rfl ⟨Nat.le_of_ble_eq_true rfl, Nat.le_of_ble_eq_true rfl⟩ (Nat.le_of_ble_eq_true rfl) rfl (st1 := [.int q122]) rfl d_law_394 (fun H locs hw => ?_)
        refine lv_aload_n hx hb d_law_397 rfl (lv_at hl 2 rfl) ?_
        refine lv_aload_n hx hb d_law_398 rfl (lv_at hl 0 rfl) ?_
        refine lv_iload_n hx hb d_law_399 rfl (lv_at hl 3 rfl) ?_
        refine lv_iconst (v := 1) hx hb d_law_400 (by decide) ?_
        refine lv_iadd hx hb d_law_401 ?_
        obtain ⟨v124, e125, hs⟩ := ob hs
        refine lw_sld C hw hX hbl e125 d_law_402 ?_
        obtain ⟨_, e126, hs⟩ := ob hs
        obtain ⟨q127, e128, hs⟩ := ob hs
        refine pg_callVL C hw hl.1 ⟨Nat.le_refl _, Nat.le_refl _⟩ ml_AdjoinedSetsLaw_61 e126 (As := [.int v124]) (rest := [.int q122]) (c_AdjoinedSetsModel_rests l g e128) rfl ⟨Nat.le_of_ble_eq_true rfl, Nat.le_of_ble_eq_true rfl⟩ (Nat.le_of_ble_eq_true rfl) rfl (st1 := [.int q127, .int q122]) rfl d_law_403 (fun H locs hw => ?_)
        refine lv_icmp_eq hx hb d_law_406 (tgt := 540) (by decide) (fun hc => ?_) (fun hc => ?_)
        · have hs := oi_t hc hs
          exact k_law_540 C xs sn hX hbl hz (s_law_18 xs sn k) ih hw (lv_sub hl [0, 1, 2, 3] rfl) hs
        · have hs := oi_f hc hs
          refine lv_iconst (v := 0) hx hb d_law_409 (by decide) ?_
          obtain rfl := Option.some.inj hs
          exact absurd hz (by show ¬ ((0 : Int32) = 1); decide)
      have hs := oi_f hk9 hs
      refine by_c (fun (hk10 : (v2 &&& 15) = 10) => ?_) (fun (hk10 : ¬ (v2 &&& 15) = 10) => ?_)
      · have hs := oi_t hk10 hs
        refine lv_tableIn hx hb d_law_32 (by rw [hk10]; decide) (by rw [hk10]; decide) (off := 379) (by rw [hk10]; decide) (tgt := 411) (by decide) ?_
        refine lv_aload_n hx hb d_law_411 rfl (lv_at hl 1 rfl) ?_
        refine lv_aload_n hx hb d_law_412 rfl (lv_at hl 0 rfl) ?_
        refine lv_iload_n hx hb d_law_413 rfl (lv_at hl 3 rfl) ?_
        refine lv_iconst (v := 1) hx hb d_law_414 (by decide) ?_
        refine lv_iadd hx hb d_law_415 ?_
        obtain ⟨v130, e131, hs⟩ := ob hs
        refine lw_sld C hw hX hbl e131 d_law_416 ?_
        obtain ⟨_, e132, hs⟩ := ob hs
        obtain ⟨q133, e134, hs⟩ := ob hs
        refine pg_callVL C hw hl.1 ⟨Nat.le_refl _, Nat.le_refl _⟩ ml_AdjoinedSetsLaw_62 e132 (As := [.int v130]) (rest := []) (c_AdjoinedSets_refute l g e134) rfl ⟨Nat.le_of_ble_eq_true rfl, Nat.le_of_ble_eq_true rfl⟩ (Nat.le_of_ble_eq_true rfl) rfl (st1 := [.int q133.1]) rfl d_law_417 (fun H locs hw => ?_)
        refine lv_aload_n hx hb d_law_420 rfl (lv_at hl 2 rfl) ?_
        refine lv_aload_n hx hb d_law_421 rfl (lv_at hl 0 rfl) ?_
        refine lv_iload_n hx hb d_law_422 rfl (lv_at hl 3 rfl) ?_
        refine lv_iconst (v := 1) hx hb d_law_423 (by decide) ?_
        refine lv_iadd hx hb d_law_424 ?_
        obtain ⟨v135, e136, hs⟩ := ob hs
        refine lw_sld C hw hX hbl e136 d_law_425 ?_
        obtain ⟨_, e137, hs⟩ := ob hs
        obtain ⟨q138, e139, hs⟩ := ob hs
        refine pg_callVL C hw hl.1 ⟨Nat.le_refl _, Nat.le_refl _⟩ ml_AdjoinedSetsLaw_65 e137 (As := [.int v135]) (rest := [.int q133.1]) (c_AdjoinedSetsModel_refute l g e139) rfl ⟨Nat.le_of_ble_eq_true rfl, Nat.le_of_ble_eq_true rfl⟩ (Nat.le_of_ble_eq_true rfl) rfl (st1 := [.int q138.1, .int q133.1]) rfl d_law_426 (fun H locs hw => ?_)
        refine lv_icmp_eq hx hb d_law_429 (tgt := 540) (by decide) (fun hc => ?_) (fun hc => ?_)
        · have hs := oi_t hc hs
          exact k_law_540 C xs sn hX hbl hz (s_law_18 xs sn k) ih hw (lv_sub hl [0, 1, 2, 3] rfl) hs
        · have hs := oi_f hc hs
          refine lv_iconst (v := 0) hx hb d_law_432 (by decide) ?_
          obtain rfl := Option.some.inj hs
          exact absurd hz (by show ¬ ((0 : Int32) = 1); decide)
      have hs := oi_f hk10 hs
      refine by_c (fun (hk11 : (v2 &&& 15) = 11) => ?_) (fun (hk11 : ¬ (v2 &&& 15) = 11) => ?_)
      · have hs := oi_t hk11 hs
        refine lv_tableIn hx hb d_law_32 (by rw [hk11]; decide) (by rw [hk11]; decide) (off := 402) (by rw [hk11]; decide) (tgt := 434) (by decide) ?_
        refine lv_aload_n hx hb d_law_434 rfl (lv_at hl 1 rfl) ?_
        refine lv_aload_n hx hb d_law_435 rfl (lv_at hl 0 rfl) ?_
        refine lv_iload_n hx hb d_law_436 rfl (lv_at hl 3 rfl) ?_
        refine lv_iconst (v := 1) hx hb d_law_437 (by decide) ?_
        refine lv_iadd hx hb d_law_438 ?_
        obtain ⟨v141, e142, hs⟩ := ob hs
        refine lw_sld C hw hX hbl e142 d_law_439 ?_
        refine lv_i2l (v := v141.toInt64) hx hb d_law_440 rfl ?_
        refine lv_bipush (v := 32) hx hb d_law_441 (by decide) ?_
        refine lv_lshl (v := (v141.toInt64 <<< ((32 : Int32).toInt64 &&& 63))) hx hb d_law_443 rfl ?_
        refine lv_aload_n hx hb d_law_444 rfl (lv_at hl 0 rfl) ?_
        refine lv_iload_n hx hb d_law_445 rfl (lv_at hl 3 rfl) ?_
        refine lv_iconst (v := 2) hx hb d_law_446 (by decide) ?_
        refine lv_iadd hx hb d_law_447 ?_
        obtain ⟨v143, e144, hs⟩ := ob hs
        refine lw_sld C hw hX hbl e144 d_law_448 ?_
        refine lv_i2l (v := v143.toInt64) hx hb d_law_449 rfl ?_
        refine lv_ldc2 (v := 4294967295) hx hb C.own (C.w kc_AdjoinedSetsLaw_13) d_law_450 ?_
        refine lv_land hx hb d_law_453 ?_
        refine lv_lor hx hb d_law_454 ?_
        obtain ⟨_, e145, hs⟩ := ob hs
        obtain ⟨q146, e147, hs⟩ := ob hs
        refine pg_callVL C hw hl.1 ⟨Nat.le_refl _, Nat.le_refl _⟩ ml_AdjoinedSetsLaw_66 e145 (As := [.long ((v141.toInt64 <<< ((32 : Int32).toInt64 &&& 63)) ||| (v143.toInt64 &&& 4294967295))]) (rest := []) (c_AdjoinedSets_size l g e147) rfl ⟨Nat.le_of_ble_eq_true rfl, Nat.le_of_ble_eq_true rfl⟩ (Nat.le_of_ble_eq_true rfl) rfl (st1 := [.int q146]) rfl d_law_455 (fun H locs hw => ?_)
        refine lv_aload_n hx hb d_law_458 rfl (lv_at hl 2 rfl) ?_
        refine lv_aload_n hx hb d_law_459 rfl (lv_at hl 0 rfl) ?_
        refine lv_iload_n hx hb d_law_460 rfl (lv_at hl 3 rfl) ?_
        refine lv_iconst (v := 1) hx hb d_law_461 (by decide) ?_
        refine lv_iadd hx hb d_law_462 ?_
        obtain ⟨v148, e149, hs⟩ := ob hs
        refine lw_sld C hw hX hbl e149 d_law_463 ?_
        refine lv_i2l (v := v148.toInt64) hx hb d_law_464 rfl ?_
        refine lv_bipush (v := 32) hx hb d_law_465 (by decide) ?_
        refine lv_lshl (v := (v148.toInt64 <<< ((32 : Int32).toInt64 &&& 63))) hx hb d_law_467 rfl ?_
        refine lv_aload_n hx hb d_law_468 rfl (lv_at hl 0 rfl) ?_
        refine lv_iload_n hx hb d_law_469 rfl (lv_at hl 3 rfl) ?_
        refine lv_iconst (v := 2) hx hb d_law_470 (by decide) ?_
        refine lv_iadd hx hb d_law_471 ?_
        obtain ⟨v150, e151, hs⟩ := ob hs
        refine lw_sld C hw hX hbl e151 d_law_472 ?_
        refine lv_i2l (v := v150.toInt64) hx hb d_law_473 rfl ?_
        refine lv_ldc2 (v := 4294967295) hx hb C.own (C.w kc_AdjoinedSetsLaw_13) d_law_474 ?_
        refine lv_land hx hb d_law_477 ?_
        refine lv_lor hx hb d_law_478 ?_
        obtain ⟨_, e152, hs⟩ := ob hs
        obtain ⟨q153, e154, hs⟩ := ob hs
        refine pg_callVL C hw hl.1 ⟨Nat.le_refl _, Nat.le_refl _⟩ ml_AdjoinedSetsLaw_70 e152 (As := [.long ((v148.toInt64 <<< ((32 : Int32).toInt64 &&& 63)) ||| (v150.toInt64 &&& 4294967295))]) (rest := [.int q146]) (c_AdjoinedSetsModel_size l g e154) rfl ⟨Nat.le_of_ble_eq_true rfl, Nat.le_of_ble_eq_true rfl⟩ (Nat.le_of_ble_eq_true rfl) rfl (st1 := [.int q153, .int q146]) rfl d_law_479 (fun H locs hw => ?_)
        refine lv_icmp_eq hx hb d_law_482 (tgt := 540) (by decide) (fun hc => ?_) (fun hc => ?_)
        · have hs := oi_t hc hs
          exact k_law_540 C xs sn hX hbl hz (s_law_18 xs sn k) ih hw (lv_sub hl [0, 1, 2, 3] rfl) hs
        · have hs := oi_f hc hs
          refine lv_iconst (v := 0) hx hb d_law_485 (by decide) ?_
          obtain rfl := Option.some.inj hs
          exact absurd hz (by show ¬ ((0 : Int32) = 1); decide)
      have hs := oi_f hk11 hs
      refine by_c (fun (hk12 : (v2 &&& 15) = 12) => ?_) (fun (hk12 : ¬ (v2 &&& 15) = 12) => ?_)
      · have hs := oi_t hk12 hs
        refine lv_tableIn hx hb d_law_32 (by rw [hk12]; decide) (by rw [hk12]; decide) (off := 455) (by rw [hk12]; decide) (tgt := 487) (by decide) ?_
        refine lv_aload_n hx hb d_law_487 rfl (lv_at hl 1 rfl) ?_
        refine lv_aload_n hx hb d_law_488 rfl (lv_at hl 0 rfl) ?_
        refine lv_iload_n hx hb d_law_489 rfl (lv_at hl 3 rfl) ?_
        refine lv_iconst (v := 1) hx hb d_law_490 (by decide) ?_
        refine lv_iadd hx hb d_law_491 ?_
        obtain ⟨v156, e157, hs⟩ := ob hs
        refine lw_sld C hw hX hbl e157 d_law_492 ?_
        refine lv_i2l (v := v156.toInt64) hx hb d_law_493 rfl ?_
        refine lv_bipush (v := 32) hx hb d_law_494 (by decide) ?_
        refine lv_lshl (v := (v156.toInt64 <<< ((32 : Int32).toInt64 &&& 63))) hx hb d_law_496 rfl ?_
        refine lv_aload_n hx hb d_law_497 rfl (lv_at hl 0 rfl) ?_
        refine lv_iload_n hx hb d_law_498 rfl (lv_at hl 3 rfl) ?_
        refine lv_iconst (v := 2) hx hb d_law_499 (by decide) ?_
        refine lv_iadd hx hb d_law_500 ?_
        obtain ⟨v158, e159, hs⟩ := ob hs
        refine lw_sld C hw hX hbl e159 d_law_501 ?_
        refine lv_i2l (v := v158.toInt64) hx hb d_law_502 rfl ?_
        refine lv_ldc2 (v := 4294967295) hx hb C.own (C.w kc_AdjoinedSetsLaw_13) d_law_503 ?_
        refine lv_land hx hb d_law_506 ?_
        refine lv_lor hx hb d_law_507 ?_
        obtain ⟨_, e160, hs⟩ := ob hs
        obtain ⟨q161, e162, hs⟩ := ob hs
        refine pg_callVL C hw hl.1 ⟨Nat.le_refl _, Nat.le_refl _⟩ ml_AdjoinedSetsLaw_71 e160 (As := [.long ((v156.toInt64 <<< ((32 : Int32).toInt64 &&& 63)) ||| (v158.toInt64 &&& 4294967295))]) (rest := []) (c_AdjoinedSets_rank l g e162) rfl ⟨Nat.le_of_ble_eq_true rfl, Nat.le_of_ble_eq_true rfl⟩ (Nat.le_of_ble_eq_true rfl) rfl (st1 := [.int q161]) rfl d_law_508 (fun H locs hw => ?_)
        refine lv_aload_n hx hb d_law_511 rfl (lv_at hl 2 rfl) ?_
        refine lv_aload_n hx hb d_law_512 rfl (lv_at hl 0 rfl) ?_
        refine lv_iload_n hx hb d_law_513 rfl (lv_at hl 3 rfl) ?_
        refine lv_iconst (v := 1) hx hb d_law_514 (by decide) ?_
        refine lv_iadd hx hb d_law_515 ?_
        obtain ⟨v163, e164, hs⟩ := ob hs
        refine lw_sld C hw hX hbl e164 d_law_516 ?_
        refine lv_i2l (v := v163.toInt64) hx hb d_law_517 rfl ?_
        refine lv_bipush (v := 32) hx hb d_law_518 (by decide) ?_
        refine lv_lshl (v := (v163.toInt64 <<< ((32 : Int32).toInt64 &&& 63))) hx hb d_law_520 rfl ?_
        refine lv_aload_n hx hb d_law_521 rfl (lv_at hl 0 rfl) ?_
        refine lv_iload_n hx hb d_law_522 rfl (lv_at hl 3 rfl) ?_
        refine lv_iconst (v := 2) hx hb d_law_523 (by decide) ?_
        refine lv_iadd hx hb d_law_524 ?_
        obtain ⟨v165, e166, hs⟩ := ob hs
        refine lw_sld C hw hX hbl e166 d_law_525 ?_
        refine lv_i2l (v := v165.toInt64) hx hb d_law_526 rfl ?_
        refine lv_ldc2 (v := 4294967295) hx hb C.own (C.w kc_AdjoinedSetsLaw_13) d_law_527 ?_
        refine lv_land hx hb d_law_530 ?_
        refine lv_lor hx hb d_law_531 ?_
        obtain ⟨_, e167, hs⟩ := ob hs
        obtain ⟨q168, e169, hs⟩ := ob hs
        refine pg_callVL C hw hl.1 ⟨Nat.le_refl _, Nat.le_refl _⟩ ml_AdjoinedSetsLaw_74 e167 (As := [.long ((v163.toInt64 <<< ((32 : Int32).toInt64 &&& 63)) ||| (v165.toInt64 &&& 4294967295))]) (rest := [.int q161]) (c_AdjoinedSetsModel_rank l g e169) rfl ⟨Nat.le_of_ble_eq_true rfl, Nat.le_of_ble_eq_true rfl⟩ (Nat.le_of_ble_eq_true rfl) rfl (st1 := [.int q168, .int q161]) rfl d_law_532 (fun H locs hw => ?_)
        refine lv_icmp_eq hx hb d_law_535 (tgt := 540) (by decide) (fun hc => ?_) (fun hc => ?_)
        · have hs := oi_t hc hs
          exact k_law_540 C xs sn hX hbl hz (s_law_18 xs sn k) ih hw (lv_sub hl [0, 1, 2, 3] rfl) hs
        · have hs := oi_f hc hs
          refine lv_iconst (v := 0) hx hb d_law_538 (by decide) ?_
          obtain rfl := Option.some.inj hs
          exact absurd hz (by show ¬ ((0 : Int32) = 1); decide)
      have hs := oi_f hk12 hs
      refine lv_tableOut hx hb d_law_32 (tb_out (by have q0 := lv_neT (a := 0) hk0 (by decide); have q1 := lv_neT (a := 1) hk1 (by decide); have q2 := lv_neT (a := 2) hk2 (by decide); have q3 := lv_neT (a := 3) hk3 (by decide); have q4 := lv_neT (a := 4) hk4 (by decide); have q5 := lv_neT (a := 5) hk5 (by decide); have q6 := lv_neT (a := 6) hk6 (by decide); have q7 := lv_neT (a := 7) hk7 (by decide); have q8 := lv_neT (a := 8) hk8 (by decide); have q9 := lv_neT (a := 9) hk9 (by decide); have q10 := lv_neT (a := 10) hk10 (by decide); have q11 := lv_neT (a := 11) hk11 (by decide); have q12 := lv_neT (a := 12) hk12 (by decide); omega)) (tgt := 540) (by decide) ?_
      exact k_law_540 C xs sn hX hbl hz (s_law_18 xs sn k) ih hw (lv_sub hl [0, 1, 2, 3] rfl) hs


end
