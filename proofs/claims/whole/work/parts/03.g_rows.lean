/-! The rows: an instruction that touches the heap, a call, a return. -/
theorem CXA.own {g : GG} {A : Nat → Prop} {own : String} {cc : ByteArray} {nL : Nat} {ret : Option FieldType} {p : Program} {s : State} {m : MethodId} {args : Array Value} {meth : Method} {c : Code} (C : CXA g A own cc nL ret p s m args meth c) : s.vm.findClass own = some m.cls := C.2.2.2.1
theorem CXA.w {g : GG} {A : Nat → Prop} {own : String} {cc : ByteArray} {nL : Nat} {ret : Option FieldType} {p : Program} {s : State} {m : MethodId} {args : Array Value} {meth : Method} {c : Code} (C : CXA g A own cc nL ret p s m args meth c) {w : Cond} (h : w ∈ ALL) : w.before args s = true := C.2.2.2.2.1 w h
theorem CXA.K {g : GG} {A : Nat → Prop} {own : String} {cc : ByteArray} {nL : Nat} {ret : Option FieldType} {p : Program} {s : State} {m : MethodId} {args : Array Value} {meth : Method} {c : Code} (C : CXA g A own cc nL ret p s m args meth c) : va_K g.1 classes (tysOf g.2.1) s := C.2.2.2.2.2.2.2.1
theorem CXA.ex {g : GG} {A : Nat → Prop} {own : String} {cc : ByteArray} {nL : Nat} {ret : Option FieldType} {p : Program} {s : State} {m : MethodId} {args : Array Value} {meth : Method} {c : Code} (C : CXA g A own cc nL ret p s m args meth c) : EX g A s := C.2.2.2.2.2.2.2.2
-- what the tables say of a class, a field, a call
def KF (k : Nat) (C : String) (T : u_T) (N : Nat) (ty : Nat → FieldType) : Prop := classes[k]? = some (C, T, N) ∧ (∀ w ∈ u_ws C T N, w ∈ ALL) ∧ (∀ j, j < N → parseFieldDescriptor (T j).2.2.1 = some (ty j)) ∧ (∀ a, a < N → ∀ b, b < N → a ≠ b → (T a).2.1 ≠ (T b).2.1)
def FLK (own : String) (index k i : Nat) : Prop := ∃ (C : String) (T : u_T) (N : Nat) (ty : Nat → FieldType), KF k C T N ty ∧ i < N ∧ Cond.fieldLink own index (T i).1 (T i).2.1 (T i).2.2.1 ∈ ALL
def FPK (own : String) (index k i : Nat) (t : FieldType) : Prop := ∃ (C : String) (T : u_T) (N : Nat) (ty : Nat → FieldType), KF k C T N ty ∧ i < N ∧ Cond.fieldLink own index (T i).1 (T i).2.1 (T i).2.2.1 ∈ ALL ∧ (T i).2.2.2 = false ∧ parseFieldDescriptor (T i).2.2.1 = some t
def MD (y : MethodName) (bytes : ByteArray) (maxL : Nat) (ret : Option FieldType) (n : Nat) : Prop := Cond.initialized y.cls ∈ ALL ∧ Cond.code y bytes maxL ret ∈ ALL ∧ y.cls ≠ "java/lang/invoke/MethodHandle" ∧ y.cls ≠ "java/lang/invoke/VarHandle" ∧ (parseMethodDescriptor y.desc).map (fun d => d.parameters.length) = some n
def MV (y : MethodName) (k : Nat) : Prop := Cond.instanceMethod y ∈ ALL ∧ Cond.selects y.cls y y ∈ ALL ∧ ∃ (T : u_T) (N : Nat), classes[k]? = some (y.cls, T, N)
theorem good_in {cw : Cond} (h : cw ∈ ALL) : GoodIn ALL (cw :: ALL) := by
  intro w hw
  rcases List.mem_cons.mp hw with rfl | hw
  · exact ⟨h, ALL_good _ h⟩
  · exact ⟨hw, ALL_good _ hw⟩
theorem HW.blind {g : GG} {L : List Nat} {h : HP} {av : List Value} : FrameBlind (va_Pc av (HW g L h)) := by
  intro a U g' mk q
  obtain ⟨q0, q1, q2, q3, q4, q5⟩ := q
  exact ⟨q0, q1, va_K.moved (u := U) (U := U.calling g' mk a) (Vm.Alike.refl U.vm) q2, q3, q4, q5.calling⟩
section PG
variable {p : Program} {l : Launch} {e : Env} {R : Room} {s : State} {m : MethodId} {args : Array Value} {below : List Frame} {meth : Method} {c : Code} {H : Heap} {locs : List Loc} {cells slots : Nat} {Q : State → Prop}
variable {A : Nat → Prop} {cc : ByteArray} {pc : Nat} {ls : Array Slot} {rest : List Value} {g : GG} {L : List Nat} {h h' : HP} {own : String} {nL : Nat} {ret : Option FieldType} {index k i a t0 : Nat}
theorem pg_get (C : CXA g A own cc nL ret p s m args meth c) (hw : WDA g A L h s.heap H locs) (F : FLK own index k i) {v : Value} (e1 : gV h a k i = some v) (hdg : decode cc pc = .ok (.getfield index, 3))
    (kk : W p l e R s m args below meth c H locs cells slots Q (F0 m (pc + 3) ls (v :: rest))) : W p l e R s m args below meth c H locs cells slots Q (F0 m pc ls (.ref a :: rest)) := by
  obtain ⟨fs, hx, hv⟩ := gV_inv e1
  obtain ⟨q0, he⟩ := hw.cell hx (jk_o hv)
  obtain ⟨C', T, N, ty, ⟨hc, hin, -, -⟩, hi, hl⟩ := F
  exact va_get (D := g.1) (ci := k) C.1 C.2.1 (fun w hw => C.w hw) hin C.own C.K hw.1 q0 he hc i hi (C.w hl) (fun _ h9 => h9) hv hdg kk
theorem pg_getI (C : CXA g A own cc nL ret p s m args meth c) (hw : WDA g A L h s.heap H locs) (F : FLK own index k i) {x : Int32} (e1 : gI h a k i = some x) (hdg : decode cc pc = .ok (.getfield index, 3))
    (kk : W p l e R s m args below meth c H locs cells slots Q (F0 m (pc + 3) ls (.int x :: rest))) : W p l e R s m args below meth c H locs cells slots Q (F0 m pc ls (.ref a :: rest)) := pg_get C hw F (gI_inv e1) hdg kk
theorem pg_getL (C : CXA g A own cc nL ret p s m args meth c) (hw : WDA g A L h s.heap H locs) (F : FLK own index k i) {x : Int64} (e1 : gL h a k i = some x) (hdg : decode cc pc = .ok (.getfield index, 3))
    (kk : W p l e R s m args below meth c H locs cells slots Q (F0 m (pc + 3) ls (.long x :: rest))) : W p l e R s m args below meth c H locs cells slots Q (F0 m pc ls (.ref a :: rest)) := pg_get C hw F (gL_inv e1) hdg kk
theorem pg_getR (C : CXA g A own cc nL ret p s m args meth c) (hw : WDA g A L h s.heap H locs) (F : FLK own index k i) {x : Nat} (e1 : gR h a k i = some x) (hdg : decode cc pc = .ok (.getfield index, 3))
    (kk : W p l e R s m args below meth c H locs cells slots Q (F0 m (pc + 3) ls (.ref x :: rest))) : W p l e R s m args below meth c H locs cells slots Q (F0 m pc ls (.ref a :: rest)) := pg_get C hw F (gR_inv e1) hdg kk
theorem pg_put (C : CXA g A own cc nL ret p s m args meth c) (hw : WDA g A L h s.heap H locs) {t : FieldType} (F : FPK own index k i t) {v : Value} (hn : narrow t v = v) (hf : fits t v = true) (e1 : pV h a k i v = some h') (hdg : decode cc pc = .ok (.putfield index, 3))
    (kk : ∀ (H : Heap) (locs : List Loc), WDA g A L h' s.heap H locs → W p l e R s m args below meth c H locs cells slots Q (F0 m (pc + 3) ls rest)) : W p l e R s m args below meth c H locs cells slots Q (F0 m pc ls (v :: .ref a :: rest)) := by
  obtain ⟨fs, hx, hl, rfl⟩ := pV_inv e1
  have hj : ((k, .inl fs) : CE) ≠ jk := jk_o (List.getElem?_eq_getElem hl)
  obtain ⟨q0, he⟩ := hw.cell hx hj
  obtain ⟨C', T, N, ty, ⟨hc, hin, hty, hnm⟩, hi, hlk, hfin, hd⟩ := F
  exact va_put (D := g.1) (ci := k) C.1 C.2.1 (fun w hw => C.w hw) hin ty hty hnm C.own C.K hw.1 hw.2.1 hw.2.2.1 q0 he hc i hi (C.w hlk) (fun _ h9 => h9) hfin hd hn hf hl hdg (fun H1 locs1 hP hD hS => kk H1 locs1 (hw.upd hx hj he rfl hP hD hS))
theorem pg_putI (C : CXA g A own cc nL ret p s m args meth c) (hw : WDA g A L h s.heap H locs) (F : FPK own index k i .int) {x : Int32} (e1 : pI h a k i x = some h') (hdg : decode cc pc = .ok (.putfield index, 3))
    (kk : ∀ (H : Heap) (locs : List Loc), WDA g A L h' s.heap H locs → W p l e R s m args below meth c H locs cells slots Q (F0 m (pc + 3) ls rest)) : W p l e R s m args below meth c H locs cells slots Q (F0 m pc ls (.int x :: .ref a :: rest)) := pg_put C hw F rfl rfl e1 hdg kk
theorem pg_putR {N : String} (C : CXA g A own cc nL ret p s m args meth c) (hw : WDA g A L h s.heap H locs) (F : FPK own index k i (.object N)) {x : Nat} (e1 : pR h a k i x = some h') (hdg : decode cc pc = .ok (.putfield index, 3))
    (kk : ∀ (H : Heap) (locs : List Loc), WDA g A L h' s.heap H locs → W p l e R s m args below meth c H locs cells slots Q (F0 m (pc + 3) ls rest)) : W p l e R s m args below meth c H locs cells slots Q (F0 m pc ls (.ref x :: .ref a :: rest)) := pg_put C hw F rfl rfl e1 hdg kk
theorem pg_putL (C : CXA g A own cc nL ret p s m args meth c) (hw : WDA g A L h s.heap H locs) (F : FPK own index k i .long) {x : Int64} (e1 : pL h a k i x = some h') (hdg : decode cc pc = .ok (.putfield index, 3))
    (kk : ∀ (H : Heap) (locs : List Loc), WDA g A L h' s.heap H locs → W p l e R s m args below meth c H locs cells slots Q (F0 m (pc + 3) ls rest)) : W p l e R s m args below meth c H locs cells slots Q (F0 m pc ls (.long x :: .ref a :: rest)) := pg_put C hw F rfl rfl e1 hdg kk
theorem pg_putZ (C : CXA g A own cc nL ret p s m args meth c) (hw : WDA g A L h s.heap H locs) (F : FPK own index k i .boolean) {x : Int32} (hz : x = 0 ∨ x = 1) (e1 : pI h a k i x = some h') (hdg : decode cc pc = .ok (.putfield index, 3))
    (kk : ∀ (H : Heap) (locs : List Loc), WDA g A L h' s.heap H locs → W p l e R s m args below meth c H locs cells slots Q (F0 m (pc + 3) ls rest)) : W p l e R s m args below meth c H locs cells slots Q (F0 m pc ls (.int x :: .ref a :: rest)) := pg_put C hw F (by rcases hz with rfl | rfl <;> rfl) (by rcases hz with rfl | rfl <;> rfl) e1 hdg kk
theorem pg_baload (C : CXA g A own cc nL ret p s m args meth c) (hw : WDA g A L h s.heap H locs) (ht : (tysOf g.2.1)[t0]? = some (g.2.1 k, .boolean)) {i v : Int32} (e1 : aI h a k i = some v) (hdg : decode cc pc = .ok (.baload, 1))
    (kk : W p l e R s m args below meth c H locs cells slots Q (F0 m (pc + 1) ls (.int v :: rest))) : W p l e R s m args below meth c H locs cells slots Q (F0 m pc ls (.int i :: .ref a :: rest)) := by
  obtain ⟨n, f, hx, hin, rfl⟩ := aI_inv e1
  obtain ⟨q0, he⟩ := hw.cell hx jk_a
  exact va_zald C.1 C.2.1 C.K hw.1 q0 t0 he ht hin hdg kk
theorem pg_bastore (C : CXA g A own cc nL ret p s m args meth c) (hw : WDA g A L h s.heap H locs) (ht : (tysOf g.2.1)[t0]? = some (g.2.1 k, .boolean)) {i x : Int32} (e1 : uI h a k i (vp_nar .boolean x) = some h') (hdg : decode cc pc = .ok (.bastore, 1))
    (kk : ∀ (H : Heap) (locs : List Loc), WDA g A L h' s.heap H locs → W p l e R s m args below meth c H locs cells slots Q (F0 m (pc + 1) ls rest)) : W p l e R s m args below meth c H locs cells slots Q (F0 m pc ls (.int x :: .int i :: .ref a :: rest)) := by
  obtain ⟨n, f, hx, hin, rfl⟩ := uI_inv e1
  obtain ⟨q0, he⟩ := hw.cell hx jk_a
  exact va_zast C.1 C.2.1 C.K hw.1 hw.2.1 hw.2.2.1 q0 t0 he ht hin hdg (fun H1 locs1 hP hD hS => kk H1 locs1 (hw.upd hx jk_a he rfl hP hD hS))
theorem pg_iaload (C : CXA g A own cc nL ret p s m args meth c) (hw : WDA g A L h s.heap H locs) (ht : (tysOf g.2.1)[t0]? = some (g.2.1 k, .int)) {i v : Int32} (e1 : aI h a k i = some v) (hdg : decode cc pc = .ok (.iaload, 1))
    (kk : W p l e R s m args below meth c H locs cells slots Q (F0 m (pc + 1) ls (.int v :: rest))) : W p l e R s m args below meth c H locs cells slots Q (F0 m pc ls (.int i :: .ref a :: rest)) := by
  obtain ⟨n, f, hx, hin, rfl⟩ := aI_inv e1
  obtain ⟨q0, he⟩ := hw.cell hx jk_a
  exact va_iald C.1 C.2.1 C.K hw.1 q0 t0 he ht hin hdg kk
theorem pg_caload (C : CXA g A own cc nL ret p s m args meth c) (hw : WDA g A L h s.heap H locs) (ht : (tysOf g.2.1)[t0]? = some (g.2.1 k, .char)) {i v : Int32} (e1 : aI h a k i = some v) (hdg : decode cc pc = .ok (.caload, 1))
    (kk : W p l e R s m args below meth c H locs cells slots Q (F0 m (pc + 1) ls (.int v :: rest))) : W p l e R s m args below meth c H locs cells slots Q (F0 m pc ls (.int i :: .ref a :: rest)) := by
  obtain ⟨n, f, hx, hin, rfl⟩ := aI_inv e1
  obtain ⟨q0, he⟩ := hw.cell hx jk_a
  exact va_cald C.1 C.2.1 C.K hw.1 q0 t0 he ht hin hdg kk
theorem pg_laload (C : CXA g A own cc nL ret p s m args meth c) (hw : WDA g A L h s.heap H locs) (ht : (tysOf g.2.1)[t0]? = some (g.2.1 k, .long)) {i : Int32} {v : Int64} (e1 : aL h a k i = some v) (hdg : decode cc pc = .ok (.laload, 1))
    (kk : W p l e R s m args below meth c H locs cells slots Q (F0 m (pc + 1) ls (.long v :: rest))) : W p l e R s m args below meth c H locs cells slots Q (F0 m pc ls (.int i :: .ref a :: rest)) := by
  obtain ⟨n, f, hx, hin, rfl⟩ := aL_inv e1
  obtain ⟨q0, he⟩ := hw.cell hx jk_a
  exact va_lald C.1 C.2.1 C.K hw.1 q0 t0 he ht hin hdg kk
theorem pg_aaload {N : String} (C : CXA g A own cc nL ret p s m args meth c) (hw : WDA g A L h s.heap H locs) (ht : (tysOf g.2.1)[t0]? = some (g.2.1 k, .object N)) {i : Int32} {v : Nat} (e1 : aR h a k i = some v) (hdg : decode cc pc = .ok (.aaload, 1))
    (kk : W p l e R s m args below meth c H locs cells slots Q (F0 m (pc + 1) ls (.ref v :: rest))) : W p l e R s m args below meth c H locs cells slots Q (F0 m pc ls (.int i :: .ref a :: rest)) := by
  obtain ⟨n, f, hx, hin, hv⟩ := aR_inv e1
  obtain ⟨q0, he⟩ := hw.cell hx jk_a
  refine va_aldq (C := N) C.1 C.2.1 C.K hw.1 q0 t0 he ht hin hdg ?_
  rw [hv]
  exact kk
theorem pg_iastore (C : CXA g A own cc nL ret p s m args meth c) (hw : WDA g A L h s.heap H locs) (ht : (tysOf g.2.1)[t0]? = some (g.2.1 k, .int)) {i x : Int32} (e1 : uI h a k i x = some h') (hdg : decode cc pc = .ok (.iastore, 1))
    (kk : ∀ (H : Heap) (locs : List Loc), WDA g A L h' s.heap H locs → W p l e R s m args below meth c H locs cells slots Q (F0 m (pc + 1) ls rest)) : W p l e R s m args below meth c H locs cells slots Q (F0 m pc ls (.int x :: .int i :: .ref a :: rest)) := by
  obtain ⟨n, f, hx, hin, rfl⟩ := uI_inv e1
  obtain ⟨q0, he⟩ := hw.cell hx jk_a
  exact va_iast C.1 C.2.1 C.K hw.1 hw.2.1 hw.2.2.1 q0 t0 he ht hin hdg (fun H1 locs1 hP hD hS => kk H1 locs1 (hw.upd hx jk_a he rfl hP hD hS))
theorem pg_castore (C : CXA g A own cc nL ret p s m args meth c) (hw : WDA g A L h s.heap H locs) (ht : (tysOf g.2.1)[t0]? = some (g.2.1 k, .char)) {i x : Int32} (e1 : uI h a k i (vp_nar .char x) = some h') (hdg : decode cc pc = .ok (.castore, 1))
    (kk : ∀ (H : Heap) (locs : List Loc), WDA g A L h' s.heap H locs → W p l e R s m args below meth c H locs cells slots Q (F0 m (pc + 1) ls rest)) : W p l e R s m args below meth c H locs cells slots Q (F0 m pc ls (.int x :: .int i :: .ref a :: rest)) := by
  obtain ⟨n, f, hx, hin, rfl⟩ := uI_inv e1
  obtain ⟨q0, he⟩ := hw.cell hx jk_a
  exact va_cast C.1 C.2.1 C.K hw.1 hw.2.1 hw.2.2.1 q0 t0 he ht hin hdg (fun H1 locs1 hP hD hS => kk H1 locs1 (hw.upd hx jk_a he rfl hP hD hS))
theorem pg_lastore (C : CXA g A own cc nL ret p s m args meth c) (hw : WDA g A L h s.heap H locs) (ht : (tysOf g.2.1)[t0]? = some (g.2.1 k, .long)) {i : Int32} {x : Int64} (e1 : uL h a k i x = some h') (hdg : decode cc pc = .ok (.lastore, 1))
    (kk : ∀ (H : Heap) (locs : List Loc), WDA g A L h' s.heap H locs → W p l e R s m args below meth c H locs cells slots Q (F0 m (pc + 1) ls rest)) : W p l e R s m args below meth c H locs cells slots Q (F0 m pc ls (.long x :: .int i :: .ref a :: rest)) := by
  obtain ⟨n, f, hx, hin, rfl⟩ := uL_inv e1
  obtain ⟨q0, he⟩ := hw.cell hx jk_a
  exact va_last C.1 C.2.1 C.K hw.1 hw.2.1 hw.2.2.1 q0 t0 he ht hin hdg (fun H1 locs1 hP hD hS => kk H1 locs1 (hw.upd hx jk_a he rfl hP hD hS))
theorem pg_alen {ty : FieldType} (C : CXA g A own cc nL ret p s m args meth c) (hw : WDA g A L h s.heap H locs) (ht : (tysOf g.2.1)[t0]? = some (g.2.1 k, ty)) {v : Int32} (e1 : aN h a k = some v) (hdg : decode cc pc = .ok (.arraylength, 1))
    (kk : W p l e R s m args below meth c H locs cells slots Q (F0 m (pc + 1) ls (.int v :: rest))) : W p l e R s m args below meth c H locs cells slots Q (F0 m pc ls (.ref a :: rest)) := by
  obtain ⟨x, hx, hv⟩ := aN_inv e1
  obtain ⟨q0, he⟩ := hw.cell hx jk_a
  exact va_alen C.1 C.2.1 C.K hw.1 q0 t0 he ht hv hdg kk
-- String constants, statics of the JDK
theorem pg_cs (C : CXA g A own cc nL ret p s m args meth c) (hw : WDA g A L h s.heap H locs) (hl : Cond.fieldLink own index "java/lang/String" "COMPACT_STRINGS" "Z" ∈ ALL) (hdg : decode cc pc = .ok (.getstatic index, 3))
    (kk : W p l e R s m args below meth c H locs cells slots Q (F0 m (pc + 3) ls (.int 1 :: rest))) : W p l e R s m args below meth c H locs cells slots Q (F0 m pc ls rest) :=
  va_gets C.1 C.2.1 C.ex.2.2.2.1 hw.2.2.1 C.own (C.w hl) (fun _ h9 => h9) hdg kk
theorem pg_fm (C : CXA g A own cc nL ret p s m args meth c) (hw : WDA g A L h s.heap H locs) (hl : Cond.fieldLink own index "jdk/internal/util/Preconditions" "SIOOBE_FORMATTER" "Ljava/util/function/BiFunction;" ∈ ALL) (hdg : decode cc pc = .ok (.getstatic index, 3))
    (kk : W p l e R s m args below meth c H locs cells slots Q (F0 m (pc + 3) ls (va_rf g.2.2.2.2 :: rest))) : W p l e R s m args below meth c H locs cells slots Q (F0 m pc ls rest) :=
  va_gets C.1 C.2.1 C.ex.2.2.2.2 hw.2.2.1 C.own (C.w hl) (fun _ h9 => h9) hdg kk
theorem pg_strV (C : CXA g A own cc nL ret p s m args meth c) (hw : WDA g A L h s.heap H locs) (hi : i < nS) (hl : Cond.fieldLink own index "java/lang/String" "value" "[B" ∈ ALL) (hdg : decode cc pc = .ok (.getfield index, 3))
    (kk : W p l e R s m args below meth c H locs cells slots Q (F0 m (pc + 3) ls (.ref (g.2.2.2.1 i) :: rest))) : W p l e R s m args below meth c H locs cells slots Q (F0 m pc ls (.ref (g.2.2.1 i) :: rest)) :=
  vk_getf C.1 C.2.1 (C.ex.2.1.1 i hi).2.2.1 hw.2.2.1 C.own (C.w hl) (fun _ h9 => h9) hdg kk
theorem pg_strC (C : CXA g A own cc nL ret p s m args meth c) (hw : WDA g A L h s.heap H locs) (hi : i < nS) (hl : Cond.fieldLink own index "java/lang/String" "coder" "B" ∈ ALL) (hdg : decode cc pc = .ok (.getfield index, 3))
    (kk : W p l e R s m args below meth c H locs cells slots Q (F0 m (pc + 3) ls (.int 0 :: rest))) : W p l e R s m args below meth c H locs cells slots Q (F0 m pc ls (.ref (g.2.2.1 i) :: rest)) :=
  vk_getf C.1 C.2.1 (C.ex.2.1.1 i hi).2.1 hw.2.2.1 C.own (C.w hl) (fun _ h9 => h9) hdg kk
theorem pg_strN (C : CXA g A own cc nL ret p s m args meth c) (hw : WDA g A L h s.heap H locs) {v : Int32} (e1 : sN i = some v) (hdg : decode cc pc = .ok (.arraylength, 1))
    (kk : W p l e R s m args below meth c H locs cells slots Q (F0 m (pc + 1) ls (.int v :: rest))) : W p l e R s m args below meth c H locs cells slots Q (F0 m pc ls (.ref (g.2.2.2.1 i) :: rest)) :=
  va_tlen C.1 C.2.1 (C.ex.2.1.1 i (sN_inv e1).1).2.2.2 hw.2.2.1 (sN_inv e1).2 hdg kk
theorem pg_strB (C : CXA g A own cc nL ret p s m args meth c) (hw : WDA g A L h s.heap H locs) {x v : Int32} (e1 : sB i x = some v) (hdg : decode cc pc = .ok (.baload, 1))
    (kk : W p l e R s m args below meth c H locs cells slots Q (F0 m (pc + 1) ls (.int v :: rest))) : W p l e R s m args below meth c H locs cells slots Q (F0 m pc ls (.int x :: .ref (g.2.2.2.1 i) :: rest)) :=
  va_tb C.1 C.2.1 (C.ex.2.1.1 i (sB_inv e1).1).2.2.2 hw.2.2.1 (sB_inv e1).2.1 (by show Value.int _ = _; rw [(sB_inv e1).2.2]) hdg kk
theorem pg_ldcS (C : CXA g A own cc nL ret p s m args meth c) (hi : i < nS) (ho : ownS i = own) (hx : ixS i = index) (hdg : decode cc pc = .ok (.ldc index, 2))
    (kk : W p l e R s m args below meth c H locs cells slots Q (F0 m (pc + 2) ls (.ref (g.2.2.1 i) :: rest))) : W p l e R s m args below meth c H locs cells slots Q (F0 m pc ls rest) := by
  subst ho
  subst hx
  exact va_ldcS C.1 C.2.1 C.own (C.ex.2.2.1 i hi) hdg kk
-- ends
theorem WD_ends (C : CXA g (fun q => q ∈ L) own cc nL ret p s m args meth c) (hw : WD g L h s.heap H locs) {r : Option Value} : ∀ t : State, t.heap = H → s.WarmedH t.vm → Qq g L r h args s (.returned r) t := by
  intro t ht hW
  obtain ⟨h1, h2, h3, h4⟩ := hw
  exact ⟨rfl, ⟨by rw [ht]; exact h1, va_K.moved hW.alike C.K, h2.weaken (fun _ _ _ _ => trivial), h4, C.ex.go h3 ht hW⟩, h3.F ht⟩
theorem pg_iret (C : CXA g (fun q => q ∈ L) own cc nL (some .int) p s m args meth c) (hw : WD g L h s.heap H locs) {v : Int32} (hdg : decode cc pc = .ok (.ireturn, 1)) :
    W p l e R s m args below meth c H locs 0 0 (MQ below (Qq g L (some (.int v)) h) args s 0 0 (fun q => q ∈ L)) (F0 m pc ls [.int v]) :=
  W.iret C.1 C.2.1 C.2.2.2.2.2.1 (WD_ends C hw) hw.2.2.1.2.2 hdg C.2.2.2.2.2.2.1
theorem pg_zret {ty : FieldType} (C : CXA g (fun q => q ∈ L) own cc nL (some ty) p s m args meth c) (hw : WD g L h s.heap H locs) {v : Int32} (hn : narrow ty (.int v) = .int v) (hdg : decode cc pc = .ok (.ireturn, 1)) :
    W p l e R s m args below meth c H locs 0 0 (MQ below (Qq g L (some (.int v)) h) args s 0 0 (fun q => q ∈ L)) (F0 m pc ls [.int v]) :=
  W.zret C.1 C.2.1 C.2.2.2.2.2.1 hn (WD_ends C hw) hw.2.2.1.2.2 hdg C.2.2.2.2.2.2.1
theorem pg_lret (C : CXA g (fun q => q ∈ L) own cc nL (some .long) p s m args meth c) (hw : WD g L h s.heap H locs) {v : Int64} (hdg : decode cc pc = .ok (.lreturn, 1)) :
    W p l e R s m args below meth c H locs 0 0 (MQ below (Qq g L (some (.long v)) h) args s 0 0 (fun q => q ∈ L)) (F0 m pc ls [.long v]) :=
  W.lret C.1 C.2.1 C.2.2.2.2.2.1 (WD_ends C hw) hw.2.2.1.2.2 hdg C.2.2.2.2.2.2.1
theorem pg_aret {rt : FieldType} (C : CXA g (fun q => q ∈ L) own cc nL (some rt) p s m args meth c) (hw : WD g L h s.heap H locs) {v : Nat} (hrt : (∃ n, rt = .object n) ∨ ∃ t, rt = .array t) (hdg : decode cc pc = .ok (.areturn, 1)) :
    W p l e R s m args below meth c H locs 0 0 (MQ below (Qq g L (some (.ref v)) h) args s 0 0 (fun q => q ∈ L)) (F0 m pc ls [.ref v]) :=
  W.aret C.1 C.2.1 C.2.2.2.2.2.1 hrt (Or.inr ⟨v, rfl⟩) (WD_ends C hw) hw.2.2.1.2.2 hdg C.2.2.2.2.2.2.1
theorem pg_vret (C : CXA g (fun q => q ∈ L) own cc nL none p s m args meth c) (hw : WD g L h s.heap H locs) (hdg : decode cc pc = .ok (.return_, 1)) :
    W p l e R s m args below meth c H locs 0 0 (MQ below (Qq g L none h) args s 0 0 (fun q => q ∈ L)) (F0 m pc ls []) :=
  W.vret C.1 C.2.1 C.2.2.2.2.2.1 (WD_ends C hw) hw.2.2.1.2.2 hdg C.2.2.2.2.2.2.1
-- calls
theorem WDA.pre (C : CXA g A own cc nL ret p s m args meth c) (hw : WDA g A L h s.heap H locs) (As : List Value) : ∀ U : State, U.heap = H → s.WarmedH U.vm → va_Pc As (HW g L h) As.toArray U := by
  intro U hU hW
  obtain ⟨h1, h2, h3, h4⟩ := hw
  exact ⟨rfl, by rw [hU]; exact h1, va_K.moved hW.alike C.K, h2.weaken (fun _ _ _ _ => trivial), h4, (C.ex.go h3 hU hW).narrow (fun q hq => wl_A h2 hq)⟩
theorem pg_run {st0 : List Value} {av : Array Value} {r : Option Value} (hw : WDA g A L h s.heap H locs) (hr : va_Run p l e R s m args below meth c H locs 0 0 0 0 (F0 m pc ls st0) rest (Qq g L r h' av) (fun q => q ∈ L)) {st1 : List Value} (hst : r.toList ++ rest = st1)
    (kk : ∀ (H : Heap) (locs : List Loc), WDA g A L h' s.heap H locs → W p l e R s m args below meth c H locs 0 0 Q (F0 m (pc + 3) ls st1)) : W p l e R s m args below meth c H locs 0 0 Q (F0 m pc ls st0) := by
  intro T hT X
  obtain ⟨v, st₀, t, T', L', h0, X', hL, e1, e2, ⟨hv, ⟨hP, hK, hD, hin, hN⟩, hz, hk⟩, st⟩ := hr T hT X
  cases hv
  subst hst
  rw [h0] at hz hk
  obtain ⟨h1, h2, h3, h4⟩ := hw
  obtain ⟨t2, a1, b1⟩ := kk T'.heap (locs ++ L') ⟨by rw [e1]; exact hP, (wl_D hD).weaken (fun _ _ _ hq => wl_A h2 hq), ⟨Nat.le_trans h3.1 (by rw [e1]; exact hz), fun q g1 g2 => by rw [e1, hk q (Nat.lt_of_lt_of_le g1 h3.1) (fun z => g2 (wl_A h2 z))]; exact h3.2.1 q g1 g2, fun q hq => by
      rcases List.mem_append.mp hq with h | h
      · exact h3.2.2 q h
      · exact wl_A h2 (hL q h)⟩, hin⟩ T' rfl X'
  exact ⟨t2, st t2 a1, b1⟩
theorem pg_cb {y : MethodName} {bytes : ByteArray} {maxL n : Nat} {rt : Option FieldType} {rm : Room} (C : CXA g A own cc nL ret p s m args meth c) (M : MD y bytes maxL rt n) (hl : Cond.methodLink own index y ∈ ALL) (hc : rm.cells = 0 ∧ rm.slots = 0) (hR : rm.frames + 1 ≤ R.frames ∧ 8 + (maxL + 11) + rm.locals ≤ R.locals) :
    CallB R s args own index y bytes maxL rt (.code y bytes maxL rt :: ALL) rm 0 0 n :=
  callB_of n (fun w hw => C.w hw) (good_in M.2.1) rfl hc.1 hc.2 (C.w M.1) (C.w hl) M.2.2 hR
theorem pg_cn {y : MethodName} {host : String} {bytes : ByteArray} {maxL n : Nat} {rt : Option FieldType} {rm : Room} (C : CXA g A own cc nL ret p s m args meth c) (M : MD y bytes maxL rt n) (hl : (own, index, y, host) ∈ nests) (hc : rm.cells = 0 ∧ rm.slots = 0) (hR : rm.frames + 1 ≤ R.frames ∧ 8 + (maxL + 11) + rm.locals ≤ R.locals) :
    va_CN R s args own index y host bytes maxL rt (.code y bytes maxL rt :: ALL) rm 0 0 n :=
  va_cnB n (fun w hw => C.w hw) (good_in M.2.1) rfl hc.1 hc.2 (C.ex.1 _ hl) (C.w M.1) M.2.2 hR
theorem pg_callV {y : MethodName} {bytes : ByteArray} {maxL n : Nat} {rt : Option FieldType} {f lo b : Nat} {r : Option Value} {u : Unit} (C : CXA g A own cc nL ret p s m args meth c) (hw : WDA g A L h s.heap H locs) (hls : ls.size = nL) (M : Cond.methodLink own index y ∈ ALL ∧ MD y bytes maxL rt n ∧ MV y k) (hk : kd h b k = some u) {As : List Value} {st0 st1 : List Value}
    (hM : Ct l g L y (.code y bytes maxL rt) (rmS f lo) (.ref b :: As) h r h') (hn : As.length = n) (hR : (rmS f lo).frames + 1 ≤ R.frames ∧ 8 + (maxL + 11) + (rmS f lo).locals ≤ R.locals) (hrest : (rest.map fun v => v.category).sum ≤ 8) (hst0 : st0 = As.reverse ++ .ref b :: rest) (hst : r.toList ++ rest = st1) (hdg : decode cc pc = .ok (.invokevirtual index, 3))
    (kk : ∀ (H : Heap) (locs : List Loc), WDA g A L h' s.heap H locs → W p l e R s m args below meth c H locs 0 0 Q (F0 m (pc + 3) ls st1)) : W p l e R s m args below meth c H locs 0 0 Q (F0 m pc ls st0) := by
  subst hst0
  obtain ⟨hlt, fs, hx⟩ := kd_inv hk
  obtain ⟨q0, he⟩ := hw.cell hx (jk_k hlt)
  obtain ⟨T, N, hcl⟩ := M.2.2.2.2
  exact pg_run hw (va_runV (C := y.cls) (b := b) (As := As) (rest := rest) ⟨C.1, C.2.1, C.2.2.1, C.own, C.2.2.2.2.1⟩ hM ⟨pg_cb C M.2.1 M.1 ⟨rfl, rfl⟩ hR, C.w M.2.2.1, C.w M.2.2.2.1⟩ ⟨HW.blind, va_recv (q := (y.cls, T, N)) C.K hw.1 hcl he, hw.pre C (.ref b :: As)⟩ rfl hn hls rfl (lv_room hrest) hdg ⟨Nat.zero_le _, Nat.zero_le _⟩) hst kk
theorem pg_callT {y : MethodName} {bytes : ByteArray} {maxL n : Nat} {rt : Option FieldType} {f lo b : Nat} {r : Option Value} {u : Unit} (C : CXA g A own cc nL ret p s m args meth c) (hw : WDA g A L h s.heap H locs) (hls : ls.size = nL) (M : Cond.methodLink own index y ∈ ALL ∧ MD y bytes maxL rt n ∧ Cond.instanceMethod y ∈ ALL ∧ Cond.selects y.cls y y ∈ ALL) (hk : sG b = some u) {As : List Value} {st0 st1 : List Value}
    (hM : Ct l g L y (.code y bytes maxL rt) (rmS f lo) (.ref (g.2.2.1 b) :: As) h r h') (hn : As.length = n) (hR : (rmS f lo).frames + 1 ≤ R.frames ∧ 8 + (maxL + 11) + (rmS f lo).locals ≤ R.locals) (hrest : (rest.map fun v => v.category).sum ≤ 8) (hst0 : st0 = As.reverse ++ .ref (g.2.2.1 b) :: rest) (hst : r.toList ++ rest = st1) (hdg : decode cc pc = .ok (.invokevirtual index, 3))
    (kk : ∀ (H : Heap) (locs : List Loc), WDA g A L h' s.heap H locs → W p l e R s m args below meth c H locs 0 0 Q (F0 m (pc + 3) ls st1)) (hy : y.cls = "java/lang/String" := by rfl) : W p l e R s m args below meth c H locs 0 0 Q (F0 m pc ls st0) := by
  subst hst0
  exact pg_run hw (va_runV (C := y.cls) (b := g.2.2.1 b) (As := As) (rest := rest) ⟨C.1, C.2.1, C.2.2.1, C.own, C.2.2.2.2.1⟩ hM ⟨pg_cb C M.2.1 M.1 ⟨rfl, rfl⟩ hR, C.w M.2.2.1, C.w M.2.2.2⟩ ⟨HW.blind, by rw [hy]; exact vk_recv C.ex.2.1 (sG_inv hk) hw.2.2.1, hw.pre C (.ref (g.2.2.1 b) :: As)⟩ rfl hn hls rfl (lv_room hrest) hdg ⟨Nat.zero_le _, Nat.zero_le _⟩) hst kk
theorem pg_callVN {y : MethodName} {host : String} {bytes : ByteArray} {maxL n : Nat} {rt : Option FieldType} {f lo b : Nat} {r : Option Value} {u : Unit} (C : CXA g A own cc nL ret p s m args meth c) (hw : WDA g A L h s.heap H locs) (hls : ls.size = nL) (M : (own, index, y, host) ∈ nests ∧ MD y bytes maxL rt n ∧ MV y k) (hk : kd h b k = some u) {As : List Value} {st0 st1 : List Value}
    (hM : Ct l g L y (.code y bytes maxL rt) (rmS f lo) (.ref b :: As) h r h') (hn : As.length = n) (hR : (rmS f lo).frames + 1 ≤ R.frames ∧ 8 + (maxL + 11) + (rmS f lo).locals ≤ R.locals) (hrest : (rest.map fun v => v.category).sum ≤ 8) (hst0 : st0 = As.reverse ++ .ref b :: rest) (hst : r.toList ++ rest = st1) (hdg : decode cc pc = .ok (.invokevirtual index, 3))
    (kk : ∀ (H : Heap) (locs : List Loc), WDA g A L h' s.heap H locs → W p l e R s m args below meth c H locs 0 0 Q (F0 m (pc + 3) ls st1)) : W p l e R s m args below meth c H locs 0 0 Q (F0 m pc ls st0) := by
  subst hst0
  obtain ⟨hlt, fs, hx⟩ := kd_inv hk
  obtain ⟨q0, he⟩ := hw.cell hx (jk_k hlt)
  obtain ⟨T, N, hcl⟩ := M.2.2.2.2
  exact pg_run hw (va_runVN (C := y.cls) (b := b) (As := As) (rest := rest) ⟨C.1, C.2.1, C.2.2.1, C.own, C.2.2.2.2.1⟩ hM ⟨pg_cn C M.2.1 M.1 ⟨rfl, rfl⟩ hR, C.w M.2.2.1, C.w M.2.2.2.1⟩ ⟨HW.blind, va_recv (q := (y.cls, T, N)) C.K hw.1 hcl he, hw.pre C (.ref b :: As)⟩ rfl hn hls rfl (lv_room hrest) hdg ⟨Nat.zero_le _, Nat.zero_le _⟩) hst kk
theorem pg_callS {y : MethodName} {bytes : ByteArray} {maxL n : Nat} {rt : Option FieldType} {f lo : Nat} {r : Option Value} (C : CXA g A own cc nL ret p s m args meth c) (hw : WDA g A L h s.heap H locs) (hls : ls.size = nL) (M : Cond.methodLink own index y ∈ ALL ∧ MD y bytes maxL rt n ∧ Cond.static y ∈ ALL) {As : List Value} {st0 st1 : List Value}
    (hM : Ct l g L y (.code y bytes maxL rt) (rmS f lo) As h r h') (hn : As.length = n) (hR : (rmS f lo).frames + 1 ≤ R.frames ∧ 8 + (maxL + 11) + (rmS f lo).locals ≤ R.locals) (hrest : (rest.map fun v => v.category).sum ≤ 8) (hst0 : st0 = As.reverse ++ rest) (hst : r.toList ++ rest = st1) (hdg : decode cc pc = .ok (.invokestatic index, 3))
    (kk : ∀ (H : Heap) (locs : List Loc), WDA g A L h' s.heap H locs → W p l e R s m args below meth c H locs 0 0 Q (F0 m (pc + 3) ls st1)) : W p l e R s m args below meth c H locs 0 0 Q (F0 m pc ls st0) := by
  subst hst0
  exact pg_run hw (va_runS (As := As) (rest := rest) ⟨C.1, C.2.1, C.2.2.1, C.own, C.2.2.2.2.1⟩ hM ⟨pg_cb C M.2.1 M.1 ⟨rfl, rfl⟩ hR, C.w M.2.2⟩ ⟨HW.blind, hw.pre C As⟩ rfl hn hls rfl (lv_room hrest) hdg ⟨Nat.zero_le _, Nat.zero_le _⟩) hst kk
theorem pg_callSN {y : MethodName} {host : String} {bytes : ByteArray} {maxL n : Nat} {rt : Option FieldType} {f lo : Nat} {r : Option Value} (C : CXA g A own cc nL ret p s m args meth c) (hw : WDA g A L h s.heap H locs) (hls : ls.size = nL) (M : (own, index, y, host) ∈ nests ∧ MD y bytes maxL rt n ∧ Cond.static y ∈ ALL) {As : List Value} {st0 st1 : List Value}
    (hM : Ct l g L y (.code y bytes maxL rt) (rmS f lo) As h r h') (hn : As.length = n) (hR : (rmS f lo).frames + 1 ≤ R.frames ∧ 8 + (maxL + 11) + (rmS f lo).locals ≤ R.locals) (hrest : (rest.map fun v => v.category).sum ≤ 8) (hst0 : st0 = As.reverse ++ rest) (hst : r.toList ++ rest = st1) (hdg : decode cc pc = .ok (.invokestatic index, 3))
    (kk : ∀ (H : Heap) (locs : List Loc), WDA g A L h' s.heap H locs → W p l e R s m args below meth c H locs 0 0 Q (F0 m (pc + 3) ls st1)) : W p l e R s m args below meth c H locs 0 0 Q (F0 m pc ls st0) := by
  subst hst0
  exact pg_run hw (va_runSN (As := As) (rest := rest) ⟨C.1, C.2.1, C.2.2.1, C.own, C.2.2.2.2.1⟩ hM ⟨pg_cn C M.2.1 M.1 ⟨rfl, rfl⟩ hR, C.w M.2.2, trivial⟩ ⟨HW.blind, hw.pre C As⟩ rfl hn hls rfl (lv_room hrest) hdg ⟨Nat.zero_le _, Nat.zero_le _⟩) hst kk
end PG
theorem Ct.of {l : Launch} {g : GG} {L : List Nat} {y : MethodName} {cw : Cond} {rm : Room} {av : List Value} {h h' : HP} {r : Option Value} {cc : ByteArray} {maxL : Nat} {ret : Option FieldType} {own : String} (hy : plainName y.cls = true) (hcw : cw = .code y cc maxL ret) (ho : y.cls = own) (hn : (lg_sl av).length ≤ maxL)
    (body : ∀ (p : Program) (e : Env) (s : State) (m : MethodId) (args : Array Value) (below : List Frame) (meth : Method) (c : Code) (ls : Array Slot), CX g L own cc maxL ret p s m args meth c → lv_has ls maxL (lv_args 0 av) → WD g L h s.heap s.heap [] →
      W p l e rm s m args below meth c s.heap [] 0 0 (MQ below (Qq g L r h') args s 0 0 (fun q => q ∈ L)) (F0 m 0 ls [])) : Ct l g L y cw rm av h r h' := by
  subst hcw
  subst ho
  refine Met.ofW (cc := cc) (maxL := maxL) (ret := ret) hy rfl ?_
  intro p e s m args below meth c s₁ B hml hv
  obtain ⟨rfl, hP, hK, hD, hin, hN⟩ := hv
  have hts := atoms_spec (ws := Cond.code y cc maxL ret :: ALL) B.pre
  rw [lg_entry_eq]
  exact body p e s m _ below meth c _ ⟨B.exec, B.bytes, hml, findClass_of_methodNamed B.named, fun w hw => hts w (List.mem_cons_of_mem _ hw), B.returns, B.notSynchronized, hK, hN⟩ (lv_entry av hn) ⟨hP, wl_D hD, va_S.rf, hin⟩
