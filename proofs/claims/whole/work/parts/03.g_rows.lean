/-! The rows: an instruction that touches the heap, a call, a return. -/
theorem CXA.own {g : GG} {A : Nat → Prop} {own : String} {cc : ByteArray} {nL : Nat} {ret : Option FieldType} {p : Program} {s : State} {m : MethodId} {args : Array Value} {meth : Method} {c : Code} (C : CXA g A own cc nL ret p s m args meth c) : s.vm.findClass own = some m.cls := C.2.2.2.1
theorem CXA.w {g : GG} {A : Nat → Prop} {own : String} {cc : ByteArray} {nL : Nat} {ret : Option FieldType} {p : Program} {s : State} {m : MethodId} {args : Array Value} {meth : Method} {c : Code} (C : CXA g A own cc nL ret p s m args meth c) {w : Cond} (h : w ∈ ALL) : w.before args s = true := C.2.2.2.2.1 w h
theorem CXA.K {g : GG} {A : Nat → Prop} {own : String} {cc : ByteArray} {nL : Nat} {ret : Option FieldType} {p : Program} {s : State} {m : MethodId} {args : Array Value} {meth : Method} {c : Code} (C : CXA g A own cc nL ret p s m args meth c) : va_K g.1 classes (tysOf g.2.1) s := C.2.2.2.2.2.2.2.1
theorem CXA.ex {g : GG} {A : Nat → Prop} {own : String} {cc : ByteArray} {nL : Nat} {ret : Option FieldType} {p : Program} {s : State} {m : MethodId} {args : Array Value} {meth : Method} {c : Code} (C : CXA g A own cc nL ret p s m args meth c) : EX g A s := C.2.2.2.2.2.2.2.2
-- what the tables say of a class, a field, a call
def KF (k : Nat) (C : String) (T : u_T) (N : Nat) (ty : Nat → FieldType) : Prop := classes[k]? = some (C, T, N) ∧ (∀ w ∈ u_ws C T N, w ∈ ALL) ∧ (∀ j, j < N → parseFieldDescriptor (T j).2.2.1 = some (ty j)) ∧ (∀ a, a < N → ∀ b, b < N → a ≠ b → (T a).2.1 ≠ (T b).2.1)
def FLK (own : String) (index k i : Nat) : Prop := ∃ (C : String) (T : u_T) (N : Nat) (ty : Nat → FieldType), KF k C T N ty ∧ i < N ∧ Cond.fieldLink own index (T i).1 (T i).2.1 (T i).2.2.1 ∈ ALL
def FPK (own : String) (index k i : Nat) (t : FieldType) : Prop := ∃ (C : String) (T : u_T) (N : Nat) (ty : Nat → FieldType), KF k C T N ty ∧ i < N ∧ Cond.fieldLink own index (T i).1 (T i).2.1 (T i).2.2.1 ∈ ALL ∧ (T i).2.2.2 = false ∧ parseFieldDescriptor (T i).2.2.1 = some t
def MD (y : MethodName) (bytes : ByteArray) (maxL : Nat) (ret : Option FieldType) (n : Nat) : Prop := Cond.initialized y.cls ∈ ALL ∧ Cond.code y bytes maxL ret ∈ ALL ∧ y.cls ≠ "java/lang/invoke/MethodHandle" ∧ y.cls ≠ "java/lang/invoke/VarHandle" ∧ (parseMethodDescriptor y.desc).map (fun d => d.parameters.length) = some n
def MV (y : MethodName) (k : Nat) : Prop := Cond.instanceMethod y ∈ ALL ∧ Cond.selects y.cls y y ∈ ALL ∧ ∃ (T : u_T) (N : Nat), classes[k]? = some (y.cls, T, N)
theorem good_in {cw : Cond} (h : cw ∈ ALL) : GoodIn ALL (cw :: ALL) := by
  intro w hw
  rcases List.mem_cons.mp hw with rfl | hw
  · exact ⟨h, ALL_good _ h⟩
  · exact ⟨hw, ALL_good _ hw⟩
theorem HW.blind {g : GG} {h : HP} {av : List Value} : FrameBlind (va_Pc av (HW g h)) := by
  intro a U g' mk q
  obtain ⟨q0, q1, q2, q3, q5⟩ := q
  exact ⟨q0, q1, va_K.moved (u := U) (U := U.calling g' mk a) (Vm.Alike.refl U.vm) q2, q3, q5.calling⟩
section PG
variable {p : Program} {l : Launch} {e : Env} {R : Room} {s : State} {m : MethodId} {args : Array Value} {below : List Frame} {meth : Method} {c : Code} {H : Heap} {locs : List Loc} {cells slots : Nat} {Q : State → Prop}
variable {A : Nat → Prop} {cc : ByteArray} {pc : Nat} {ls : Array Slot} {rest : List Value} {g : GG} {h h' : HP} {own : String} {nL : Nat} {ret : Option FieldType} {index k i a t0 : Nat}
theorem pg_get (C : CXA g A own cc nL ret p s m args meth c) (hw : WDA g A h s.heap H locs) (F : FLK own index k i) {cd : Nat} {v : Value} (hk : kO a = k) (hc : (fO a)[i]? = some cd) (hv : fV (aD g) h a i cd = v) (hdg : decode cc pc = .ok (.getfield index, 3))
    (kk : W p l e R s m args below meth c H locs cells slots Q (F0 m (pc + 3) ls (v :: rest))) : W p l e R s m args below meth c H locs cells slots Q (F0 m pc ls (.ref (aD g a) :: rest)) := by
  obtain ⟨C', T, N, ty, ⟨hcl, hin, -, -⟩, hi, hl⟩ := F
  have h9 : k < 999 := Nat.lt_trans (List.getElem?_eq_some_iff.mp hcl).1 (by decide)
  obtain ⟨q0, he, -⟩ := wl_at (g := g) (h := h) (kO_in (a := a) (by omega))
  rw [cG_o hk h9] at he
  exact va_get (D := g.1) (ci := k) C.1 C.2.1 (fun w hw => C.w hw) hin C.own C.K hw.1 q0 he hcl i hi (C.w hl) (fun _ h9 => h9) (by rw [fVs_at hc, hv]) hdg kk
theorem pg_getI (C : CXA g A own cc nL ret p s m args meth c) (hw : WDA g A h s.heap H locs) (F : FLK own index k i) {x : Int32} (e1 : gI h a k i = some x) (hdg : decode cc pc = .ok (.getfield index, 3))
    (kk : W p l e R s m args below meth c H locs cells slots Q (F0 m (pc + 3) ls (.int x :: rest))) : W p l e R s m args below meth c H locs cells slots Q (F0 m pc ls (.ref (aD g a) :: rest)) := by
  unfold gI at e1
  obtain ⟨⟨hk, hc⟩, rfl⟩ := ot e1
  exact pg_get C hw F hk hc rfl hdg kk
theorem pg_getL (C : CXA g A own cc nL ret p s m args meth c) (hw : WDA g A h s.heap H locs) (F : FLK own index k i) {x : Int64} (e1 : gL h a k i = some x) (hdg : decode cc pc = .ok (.getfield index, 3))
    (kk : W p l e R s m args below meth c H locs cells slots Q (F0 m (pc + 3) ls (.long x :: rest))) : W p l e R s m args below meth c H locs cells slots Q (F0 m pc ls (.ref (aD g a) :: rest)) := by
  unfold gL at e1
  obtain ⟨⟨hk, hc⟩, rfl⟩ := ot e1
  exact pg_get C hw F hk hc rfl hdg kk
theorem pg_getR (C : CXA g A own cc nL ret p s m args meth c) (hw : WDA g A h s.heap H locs) (F : FLK own index k i) {x : Nat} (e1 : gR h a k i = some x) (hdg : decode cc pc = .ok (.getfield index, 3))
    (kk : W p l e R s m args below meth c H locs cells slots Q (F0 m (pc + 3) ls (.ref (aD g x) :: rest))) : W p l e R s m args below meth c H locs cells slots Q (F0 m pc ls (.ref (aD g a) :: rest)) := by
  obtain ⟨hk, cd, hc, h0, h1, hx⟩ := gR_inv e1
  refine pg_get C hw F hk hc ?_ hdg kk
  unfold fV
  rw [if_neg h0, if_neg h1]
  rcases hx with ⟨h2, rfl⟩ | ⟨h2, rfl⟩
  · rw [if_pos h2]
  · rw [if_neg h2]
theorem pg_put (C : CXA g A own cc nL ret p s m args meth c) (hw : WDA g A h s.heap H locs) {t : FieldType} (F : FPK own index k i t) {cd : Nat} {v : Value} (hn : narrow t v = v) (hf : fits t v = true) (hk : kO a = k) (hc : (fO a)[i]? = some cd) (hv : fV (aD g) h' a i cd = v) (ho : ∀ n ∈ names, n ≠ a → cG g h' n = cG g h n) (ho2 : ∀ j d, j ≠ i → (fO a)[j]? = some d → fV (aD g) h' a j d = fV (aD g) h a j d) (hdg : decode cc pc = .ok (.putfield index, 3))
    (kk : ∀ (H : Heap) (locs : List Loc), WDA g A h' s.heap H locs → W p l e R s m args below meth c H locs cells slots Q (F0 m (pc + 3) ls rest)) : W p l e R s m args below meth c H locs cells slots Q (F0 m pc ls (v :: .ref (aD g a) :: rest)) := by
  obtain ⟨C', T, N, ty, ⟨hcl, hin, hty, hnm⟩, hi, hlk, hfin, hd⟩ := F
  have h9 : k < 999 := Nat.lt_trans (List.getElem?_eq_some_iff.mp hcl).1 (by decide)
  obtain ⟨q0, he, hq⟩ := wl_at (g := g) (h := h) (kO_in (a := a) (by omega))
  rw [cG_o hk h9] at he
  exact va_put (D := g.1) (ci := k) C.1 C.2.1 (fun w hw => C.w hw) hin ty hty hnm C.own C.K hw.1 hw.2.1 hw.2.2 q0 he hcl i hi (C.w hlk) (fun _ h9 => h9) hfin hd hn hf (fVs_len hc) hdg (fun H1 locs1 hP hD hS => kk H1 locs1 (WDA.upd hq (by rw [cG_o hk h9, fVs_set hc hv ho2]) ho hP hD hS))
theorem pg_putI (C : CXA g A own cc nL ret p s m args meth c) (hw : WDA g A h s.heap H locs) (F : FPK own index k i .int) {x : Int32} (e1 : pI h a k i x = some h') (hdg : decode cc pc = .ok (.putfield index, 3))
    (kk : ∀ (H : Heap) (locs : List Loc), WDA g A h' s.heap H locs → W p l e R s m args below meth c H locs cells slots Q (F0 m (pc + 3) ls rest)) : W p l e R s m args below meth c H locs cells slots Q (F0 m pc ls (.int x :: .ref (aD g a) :: rest)) := by
  unfold pI at e1
  obtain ⟨⟨hk, hc⟩, rfl⟩ := ot e1
  refine pg_put C hw F rfl rfl hk hc (by simp [fV, up2]) (fun n _ hn => cG_I (up2_n hn)) (fun j d hj hd => ?_) hdg kk
  have e9 : up2 h.1 a i x a j = h.1 a j := by simp [up2, hj]
  simp only [fV, e9]
theorem pg_putZ (C : CXA g A own cc nL ret p s m args meth c) (hw : WDA g A h s.heap H locs) (F : FPK own index k i .boolean) {x : Int32} (hz : x = 0 ∨ x = 1) (e1 : pI h a k i x = some h') (hdg : decode cc pc = .ok (.putfield index, 3))
    (kk : ∀ (H : Heap) (locs : List Loc), WDA g A h' s.heap H locs → W p l e R s m args below meth c H locs cells slots Q (F0 m (pc + 3) ls rest)) : W p l e R s m args below meth c H locs cells slots Q (F0 m pc ls (.int x :: .ref (aD g a) :: rest)) := by
  unfold pI at e1
  obtain ⟨⟨hk, hc⟩, rfl⟩ := ot e1
  refine pg_put C hw F (by rcases hz with rfl | rfl <;> rfl) (by rcases hz with rfl | rfl <;> rfl) hk hc (by simp [fV, up2]) (fun n _ hn => cG_I (up2_n hn)) (fun j d hj hd => ?_) hdg kk
  have e9 : up2 h.1 a i x a j = h.1 a j := by simp [up2, hj]
  simp only [fV, e9]
theorem pg_putL (C : CXA g A own cc nL ret p s m args meth c) (hw : WDA g A h s.heap H locs) (F : FPK own index k i .long) {x : Int64} (e1 : pL h a k i x = some h') (hdg : decode cc pc = .ok (.putfield index, 3))
    (kk : ∀ (H : Heap) (locs : List Loc), WDA g A h' s.heap H locs → W p l e R s m args below meth c H locs cells slots Q (F0 m (pc + 3) ls rest)) : W p l e R s m args below meth c H locs cells slots Q (F0 m pc ls (.long x :: .ref (aD g a) :: rest)) := by
  unfold pL at e1
  obtain ⟨⟨hk, hc⟩, rfl⟩ := ot e1
  refine pg_put C hw F rfl rfl hk hc (by simp [fV, up2]) (fun n _ hn => cG_J (up2_n hn)) (fun j d hj hd => ?_) hdg kk
  have e9 : up2 h.2.1 a i x a j = h.2.1 a j := by simp [up2, hj]
  simp only [fV, e9]
theorem fO_2 : ∀ n ∈ names, n ≠ 11 → ¬ 2 ∈ fO n := by decide +kernel
theorem fO_11 : ∀ j d, j ≠ 1 → (fO 11)[j]? = some d → d ≠ 2 := by
  intro j d hj hd
  have e : fO 11 = [16, 2, 0] := rfl
  rw [e] at hd
  rcases j with _ | _ | _ | j
  · simp at hd; omega
  · exact absurd rfl hj
  · simp at hd; omega
  · simp at hd
theorem cG_T {g : GG} {h : HP} {n x : Nat} (hn : ¬ 2 ∈ fO n) : cG g (h.1, h.2.1, x) n = cG g h n := by
  have e : fVs (aD g) (h.1, h.2.1, x) n = fVs (aD g) h n := by
    unfold fVs
    apply List.ext_getElem?
    intro j
    rw [List.getElem?_mapIdx, List.getElem?_mapIdx]
    cases hd : (fO n)[j]? with
    | none => rfl
    | some d =>
      have h2 : d ≠ 2 := fun q => hn (by rw [← q]; exact List.mem_of_getElem? hd)
      simp [fV, h2]
  unfold cG
  rw [e]
  rfl
theorem pg_putR (C : CXA g A own cc nL ret p s m args meth c) (hw : WDA g A h s.heap H locs) (F : FPK own index k i (.object "AdjoinedSets$Text")) {x : Nat} (e1 : pR h a k i x = some h') (hdg : decode cc pc = .ok (.putfield index, 3))
    (kk : ∀ (H : Heap) (locs : List Loc), WDA g A h' s.heap H locs → W p l e R s m args below meth c H locs cells slots Q (F0 m (pc + 3) ls rest)) : W p l e R s m args below meth c H locs cells slots Q (F0 m pc ls (.ref (aD g x) :: .ref (aD g a) :: rest)) := by
  unfold pR at e1
  obtain ⟨⟨rfl, rfl, rfl⟩, rfl⟩ := ot e1
  exact pg_put (cd := 2) C hw F rfl rfl rfl rfl rfl (fun n hn h11 => cG_T (fO_2 n hn h11)) (fun j d hj hd => by simp [fV, fO_11 j d hj hd]) hdg kk
theorem pg_iaload (C : CXA g A own cc nL ret p s m args meth c) (hw : WDA g A h s.heap H locs) (ht : (tysOf g.2.1)[t0]? = some (g.2.1 k, .int)) {i : Int32} {v : Int32} (e1 : aI h a k i = some v) (hdg : decode cc pc = .ok (.iaload, 1))
    (kk : W p l e R s m args below meth c H locs cells slots Q (F0 m (pc + 1) ls (.int v :: rest))) : W p l e R s m args below meth c H locs cells slots Q (F0 m pc ls (.int i :: .ref (aD g a) :: rest)) := by
  unfold aI at e1
  obtain ⟨⟨hk, hk2, hin⟩, rfl⟩ := ot e1
  obtain ⟨q0, he, -⟩ := wl_at (g := g) (h := h) (kA_in (a := a) (by omega))
  rw [cG_a hk (by omega)] at he
  have e2 : aV (aD g) h a = (lA a, .inl (h.1 a)) := by unfold aV; rw [if_neg (by omega), if_neg (by omega)]
  rw [e2] at he
  exact va_iald C.1 C.2.1 C.K hw.1 q0 t0 he ht hin hdg kk
theorem pg_caload (C : CXA g A own cc nL ret p s m args meth c) (hw : WDA g A h s.heap H locs) (ht : (tysOf g.2.1)[t0]? = some (g.2.1 k, .char)) {i : Int32} {v : Int32} (e1 : aI h a k i = some v) (hdg : decode cc pc = .ok (.caload, 1))
    (kk : W p l e R s m args below meth c H locs cells slots Q (F0 m (pc + 1) ls (.int v :: rest))) : W p l e R s m args below meth c H locs cells slots Q (F0 m pc ls (.int i :: .ref (aD g a) :: rest)) := by
  unfold aI at e1
  obtain ⟨⟨hk, hk2, hin⟩, rfl⟩ := ot e1
  obtain ⟨q0, he, -⟩ := wl_at (g := g) (h := h) (kA_in (a := a) (by omega))
  rw [cG_a hk (by omega)] at he
  have e2 : aV (aD g) h a = (lA a, .inl (h.1 a)) := by unfold aV; rw [if_neg (by omega), if_neg (by omega)]
  rw [e2] at he
  exact va_cald C.1 C.2.1 C.K hw.1 q0 t0 he ht hin hdg kk
theorem pg_baload (C : CXA g A own cc nL ret p s m args meth c) (hw : WDA g A h s.heap H locs) (ht : (tysOf g.2.1)[t0]? = some (g.2.1 k, .boolean)) {i : Int32} {v : Int32} (e1 : aI h a k i = some v) (hdg : decode cc pc = .ok (.baload, 1))
    (kk : W p l e R s m args below meth c H locs cells slots Q (F0 m (pc + 1) ls (.int v :: rest))) : W p l e R s m args below meth c H locs cells slots Q (F0 m pc ls (.int i :: .ref (aD g a) :: rest)) := by
  unfold aI at e1
  obtain ⟨⟨hk, hk2, hin⟩, rfl⟩ := ot e1
  obtain ⟨q0, he, -⟩ := wl_at (g := g) (h := h) (kA_in (a := a) (by omega))
  rw [cG_a hk (by omega)] at he
  have e2 : aV (aD g) h a = (lA a, .inl (h.1 a)) := by unfold aV; rw [if_neg (by omega), if_neg (by omega)]
  rw [e2] at he
  exact va_zald C.1 C.2.1 C.K hw.1 q0 t0 he ht hin hdg kk
theorem pg_laload (C : CXA g A own cc nL ret p s m args meth c) (hw : WDA g A h s.heap H locs) (ht : (tysOf g.2.1)[t0]? = some (g.2.1 k, .long)) {i : Int32} {v : Int64} (e1 : aL h a k i = some v) (hdg : decode cc pc = .ok (.laload, 1))
    (kk : W p l e R s m args below meth c H locs cells slots Q (F0 m (pc + 1) ls (.long v :: rest))) : W p l e R s m args below meth c H locs cells slots Q (F0 m pc ls (.int i :: .ref (aD g a) :: rest)) := by
  unfold aL at e1
  obtain ⟨⟨hk, hk2, hin⟩, rfl⟩ := ot e1
  obtain ⟨q0, he, -⟩ := wl_at (g := g) (h := h) (kA_in (a := a) (by omega))
  rw [cG_a hk (by omega)] at he
  have e2 : aV (aD g) h a = (lA a, .inr (.inl (h.2.1 a))) := by unfold aV; rw [if_pos (by omega)]
  rw [e2] at he
  exact va_lald C.1 C.2.1 C.K hw.1 q0 t0 he ht hin hdg kk
theorem pg_aaload {N : String} (C : CXA g A own cc nL ret p s m args meth c) (hw : WDA g A h s.heap H locs) (ht : (tysOf g.2.1)[t0]? = some (g.2.1 k, (.object N))) {i : Int32} {v : Nat} (e1 : aR a k i = some v) (hdg : decode cc pc = .ok (.aaload, 1))
    (kk : W p l e R s m args below meth c H locs cells slots Q (F0 m (pc + 1) ls (.ref (aD g v) :: rest))) : W p l e R s m args below meth c H locs cells slots Q (F0 m pc ls (.int i :: .ref (aD g a) :: rest)) := by
  unfold aR at e1
  obtain ⟨⟨hk, hk2, hin⟩, rfl⟩ := ot e1
  obtain ⟨q0, he, -⟩ := wl_at (g := g) (h := h) (kA_in (a := a) (by omega))
  rw [cG_a hk (by omega)] at he
  have e2 : aV (aD g) h a = (lA a, .inr (.inr (.inr (.inr (fun i => some (aD g (eA a i))))))) := by unfold aV; rw [if_neg (by omega), if_pos (by omega)]
  rw [e2] at he
  exact va_aldq (C := N) C.1 C.2.1 C.K hw.1 q0 t0 he ht hin hdg kk
theorem pg_iastore (C : CXA g A own cc nL ret p s m args meth c) (hw : WDA g A h s.heap H locs) (ht : (tysOf g.2.1)[t0]? = some (g.2.1 k, .int)) {i : Int32} {x : Int32} (e1 : uI h a k i x = some h') (hdg : decode cc pc = .ok (.iastore, 1))
    (kk : ∀ (H : Heap) (locs : List Loc), WDA g A h' s.heap H locs → W p l e R s m args below meth c H locs cells slots Q (F0 m (pc + 1) ls rest)) : W p l e R s m args below meth c H locs cells slots Q (F0 m pc ls (.int x :: .int i :: .ref (aD g a) :: rest)) := by
  unfold uI at e1
  obtain ⟨⟨hk, hk2, hin⟩, rfl⟩ := ot e1
  obtain ⟨q0, he, hq⟩ := wl_at (g := g) (h := h) (kA_in (a := a) (by omega))
  rw [cG_a hk (by omega)] at he
  have e2 : ∀ h : HP, aV (aD g) h a = (lA a, .inl (h.1 a)) := fun h => by unfold aV; rw [if_neg (by omega), if_neg (by omega)]
  rw [e2] at he
  exact va_iast C.1 C.2.1 C.K hw.1 hw.2.1 hw.2.2 q0 t0 he ht hin hdg (fun H1 locs1 hP hD hS => kk H1 locs1 (WDA.upd hq (by rw [cG_a hk (by omega), e2]; dsimp only; rw [up2_upd]) (fun n _ hn => cG_I (up2_n hn)) hP hD hS))
theorem pg_castore (C : CXA g A own cc nL ret p s m args meth c) (hw : WDA g A h s.heap H locs) (ht : (tysOf g.2.1)[t0]? = some (g.2.1 k, .char)) {i : Int32} {x : Int32} (e1 : uI h a k i (vp_nar .char x) = some h') (hdg : decode cc pc = .ok (.castore, 1))
    (kk : ∀ (H : Heap) (locs : List Loc), WDA g A h' s.heap H locs → W p l e R s m args below meth c H locs cells slots Q (F0 m (pc + 1) ls rest)) : W p l e R s m args below meth c H locs cells slots Q (F0 m pc ls (.int x :: .int i :: .ref (aD g a) :: rest)) := by
  unfold uI at e1
  obtain ⟨⟨hk, hk2, hin⟩, rfl⟩ := ot e1
  obtain ⟨q0, he, hq⟩ := wl_at (g := g) (h := h) (kA_in (a := a) (by omega))
  rw [cG_a hk (by omega)] at he
  have e2 : ∀ h : HP, aV (aD g) h a = (lA a, .inl (h.1 a)) := fun h => by unfold aV; rw [if_neg (by omega), if_neg (by omega)]
  rw [e2] at he
  exact va_cast C.1 C.2.1 C.K hw.1 hw.2.1 hw.2.2 q0 t0 he ht hin hdg (fun H1 locs1 hP hD hS => kk H1 locs1 (WDA.upd hq (by rw [cG_a hk (by omega), e2]; dsimp only; rw [up2_upd]) (fun n _ hn => cG_I (up2_n hn)) hP hD hS))
theorem pg_bastore (C : CXA g A own cc nL ret p s m args meth c) (hw : WDA g A h s.heap H locs) (ht : (tysOf g.2.1)[t0]? = some (g.2.1 k, .boolean)) {i : Int32} {x : Int32} (e1 : uI h a k i (vp_nar .boolean x) = some h') (hdg : decode cc pc = .ok (.bastore, 1))
    (kk : ∀ (H : Heap) (locs : List Loc), WDA g A h' s.heap H locs → W p l e R s m args below meth c H locs cells slots Q (F0 m (pc + 1) ls rest)) : W p l e R s m args below meth c H locs cells slots Q (F0 m pc ls (.int x :: .int i :: .ref (aD g a) :: rest)) := by
  unfold uI at e1
  obtain ⟨⟨hk, hk2, hin⟩, rfl⟩ := ot e1
  obtain ⟨q0, he, hq⟩ := wl_at (g := g) (h := h) (kA_in (a := a) (by omega))
  rw [cG_a hk (by omega)] at he
  have e2 : ∀ h : HP, aV (aD g) h a = (lA a, .inl (h.1 a)) := fun h => by unfold aV; rw [if_neg (by omega), if_neg (by omega)]
  rw [e2] at he
  exact va_zast C.1 C.2.1 C.K hw.1 hw.2.1 hw.2.2 q0 t0 he ht hin hdg (fun H1 locs1 hP hD hS => kk H1 locs1 (WDA.upd hq (by rw [cG_a hk (by omega), e2]; dsimp only; rw [up2_upd]) (fun n _ hn => cG_I (up2_n hn)) hP hD hS))
theorem pg_lastore (C : CXA g A own cc nL ret p s m args meth c) (hw : WDA g A h s.heap H locs) (ht : (tysOf g.2.1)[t0]? = some (g.2.1 k, .long)) {i : Int32} {x : Int64} (e1 : uL h a k i x = some h') (hdg : decode cc pc = .ok (.lastore, 1))
    (kk : ∀ (H : Heap) (locs : List Loc), WDA g A h' s.heap H locs → W p l e R s m args below meth c H locs cells slots Q (F0 m (pc + 1) ls rest)) : W p l e R s m args below meth c H locs cells slots Q (F0 m pc ls (.long x :: .int i :: .ref (aD g a) :: rest)) := by
  unfold uL at e1
  obtain ⟨⟨hk, hk2, hin⟩, rfl⟩ := ot e1
  obtain ⟨q0, he, hq⟩ := wl_at (g := g) (h := h) (kA_in (a := a) (by omega))
  rw [cG_a hk (by omega)] at he
  have e2 : ∀ h : HP, aV (aD g) h a = (lA a, .inr (.inl (h.2.1 a))) := fun h => by unfold aV; rw [if_pos (by omega)]
  rw [e2] at he
  exact va_last C.1 C.2.1 C.K hw.1 hw.2.1 hw.2.2 q0 t0 he ht hin hdg (fun H1 locs1 hP hD hS => kk H1 locs1 (WDA.upd hq (by rw [cG_a hk (by omega), e2]; dsimp only; rw [up2_updL]) (fun n _ hn => cG_J (up2_n hn)) hP hD hS))
theorem pg_alen {ty : FieldType} (C : CXA g A own cc nL ret p s m args meth c) (hw : WDA g A h s.heap H locs) (ht : (tysOf g.2.1)[t0]? = some (g.2.1 k, ty)) {v : Int32} (e1 : aN a k = some v) (hdg : decode cc pc = .ok (.arraylength, 1))
    (kk : W p l e R s m args below meth c H locs cells slots Q (F0 m (pc + 1) ls (.int v :: rest))) : W p l e R s m args below meth c H locs cells slots Q (F0 m pc ls (.ref (aD g a) :: rest)) := by
  unfold aN at e1
  obtain ⟨⟨hk, hk2⟩, hv⟩ := ot e1
  obtain ⟨q0, he, -⟩ := wl_at (g := g) (h := h) (kA_in (a := a) (by omega))
  rw [cG_a hk (by omega)] at he
  exact va_alen C.1 C.2.1 C.K hw.1 q0 t0 he ht hv hdg kk
theorem pg_copyI (C : CXA g A own cc nL ret p s m args meth c) (hw : WDA g A h s.heap H locs) (hls : ls.size = nL) {b : Nat} (ht : (tysOf g.2.1)[t0]? = some (g.2.1 k, .int)) {sp dp n : Int32} (e1 : cpI h k a sp b dp n = some h') (M : Cond.methodLink own index arraycopyName ∈ ALL ∧ Cond.native arraycopyName ∈ ALL ∧ Cond.static arraycopyName ∈ ALL ∧ Cond.initialized "java/lang/System" ∈ ALL)
    (hfr : 1 ≤ R.frames) (hlo : (rest.map fun v => v.category).sum + (nativeFrameWords "java/lang/System" "arraycopy" 5 + 11) ≤ R.locals) (hdg : decode cc pc = .ok (.invokestatic index, 3))
    (kk : ∀ (H : Heap) (locs : List Loc), WDA g A h' s.heap H locs → W p l e R s m args below meth c H locs cells slots Q (F0 m (pc + 3) ls rest)) : W p l e R s m args below meth c H locs cells slots Q (F0 m pc ls (.int n :: .int dp :: .ref (aD g b) :: .int sp :: .ref (aD g a) :: rest)) := by
  unfold cpI at e1
  obtain ⟨⟨hk, hk1, hk2, hab, h1, h2, h3, h4, h5⟩, rfl⟩ := ot e1
  subst hk2
  obtain ⟨q0, he, -⟩ := wl_at (g := g) (h := h) (kA_in (a := a) (by omega))
  obtain ⟨q1, he1, hq⟩ := wl_at (g := g) (h := h) (kA_in (a := b) (by omega))
  rw [cG_a hk (by omega)] at he
  rw [cG_a hk1 (by omega)] at he1
  have e2 : ∀ (x : Nat) (h : HP), kA x = 0 → aV (aD g) h x = (lA x, .inl (h.1 x)) := fun x h hx => by unfold aV; rw [if_neg (by omega), if_neg (by omega)]
  rw [e2 a h hk] at he
  rw [e2 b h hk1] at he1
  exact va_copyi C.1 C.2.1 (by rw [C.2.2.1, hls]) C.own (C.w M.1) (C.w M.2.1) (C.w M.2.2.1) (C.w M.2.2.2) C.K hw.1 hw.2.1 hw.2.2 q0 q1 t0 t0 he he1 ht ht rfl h1 h2 h3 h4 h5 (fun _ _ => rfl) hfr hlo hdg (fun H1 locs1 hP hD hS => kk H1 locs1 (WDA.upd hq (by rw [cG_a hk1 (by omega), e2 b _ hk1]; dsimp only; rw [cpy2_b]) (fun n _ hn => cG_I (cpy2_n hn)) hP hD hS))
theorem pg_copyC (C : CXA g A own cc nL ret p s m args meth c) (hw : WDA g A h s.heap H locs) (hls : ls.size = nL) {b : Nat} (ht : (tysOf g.2.1)[t0]? = some (g.2.1 k, .char)) {sp dp n : Int32} (e1 : cpC h k a sp b dp n = some h') (M : Cond.methodLink own index arraycopyName ∈ ALL ∧ Cond.native arraycopyName ∈ ALL ∧ Cond.static arraycopyName ∈ ALL ∧ Cond.initialized "java/lang/System" ∈ ALL)
    (hfr : 1 ≤ R.frames) (hlo : (rest.map fun v => v.category).sum + (nativeFrameWords "java/lang/System" "arraycopy" 5 + 11) ≤ R.locals) (hdg : decode cc pc = .ok (.invokestatic index, 3))
    (kk : ∀ (H : Heap) (locs : List Loc), WDA g A h' s.heap H locs → W p l e R s m args below meth c H locs cells slots Q (F0 m (pc + 3) ls rest)) : W p l e R s m args below meth c H locs cells slots Q (F0 m pc ls (.int n :: .int dp :: .ref (aD g b) :: .int sp :: .ref (aD g a) :: rest)) := by
  unfold cpC at e1
  obtain ⟨⟨hk, hk1, hk2, hab, h1, h2, h3, h4, h5, h6⟩, rfl⟩ := ot e1
  subst hk2
  obtain ⟨q0, he, -⟩ := wl_at (g := g) (h := h) (kA_in (a := a) (by omega))
  obtain ⟨q1, he1, hq⟩ := wl_at (g := g) (h := h) (kA_in (a := b) (by omega))
  rw [cG_a hk (by omega)] at he
  rw [cG_a hk1 (by omega)] at he1
  have e2 : ∀ (x : Nat) (h : HP), kA x = 1 → aV (aD g) h x = (lA x, .inl (h.1 x)) := fun x h hx => by unfold aV; rw [if_neg (by omega), if_neg (by omega)]
  rw [e2 a h hk] at he
  rw [e2 b h hk1] at he1
  exact va_copyi C.1 C.2.1 (by rw [C.2.2.1, hls]) C.own (C.w M.1) (C.w M.2.1) (C.w M.2.2.1) (C.w M.2.2.2) C.K hw.1 hw.2.1 hw.2.2 q0 q1 t0 t0 he he1 ht ht rfl h1 h2 h3 h4 h5 h6 hfr hlo hdg (fun H1 locs1 hP hD hS => kk H1 locs1 (WDA.upd hq (by rw [cG_a hk1 (by omega), e2 b _ hk1]; dsimp only; rw [cpy2_b]) (fun n _ hn => cG_I (cpy2_n hn)) hP hD hS))
-- String constants, statics of the JDK
theorem pg_cs (C : CXA g A own cc nL ret p s m args meth c) (hS : va_S A s.heap H locs) (hl : Cond.fieldLink own index "java/lang/String" "COMPACT_STRINGS" "Z" ∈ ALL) (hdg : decode cc pc = .ok (.getstatic index, 3))
    (kk : W p l e R s m args below meth c H locs cells slots Q (F0 m (pc + 3) ls (.int 1 :: rest))) : W p l e R s m args below meth c H locs cells slots Q (F0 m pc ls rest) :=
  va_gets C.1 C.2.1 C.ex.2.2.2.1 hS C.own (C.w hl) (fun _ h9 => h9) hdg kk
theorem pg_fm (C : CXA g A own cc nL ret p s m args meth c) (hS : va_S A s.heap H locs) (hl : Cond.fieldLink own index "jdk/internal/util/Preconditions" "SIOOBE_FORMATTER" "Ljava/util/function/BiFunction;" ∈ ALL) (hdg : decode cc pc = .ok (.getstatic index, 3))
    (kk : W p l e R s m args below meth c H locs cells slots Q (F0 m (pc + 3) ls (va_rf g.2.2.2.2.1 :: rest))) : W p l e R s m args below meth c H locs cells slots Q (F0 m pc ls rest) :=
  va_gets C.1 C.2.1 C.ex.2.2.2.2 hS C.own (C.w hl) (fun _ h9 => h9) hdg kk
theorem pg_strV (C : CXA g A own cc nL ret p s m args meth c) (hS : va_S A s.heap H locs) (hi : i < nS) (hl : Cond.fieldLink own index "java/lang/String" "value" "[B" ∈ ALL) (hdg : decode cc pc = .ok (.getfield index, 3))
    (kk : W p l e R s m args below meth c H locs cells slots Q (F0 m (pc + 3) ls (.ref (sV g i) :: rest))) : W p l e R s m args below meth c H locs cells slots Q (F0 m pc ls (.ref (sK g i) :: rest)) :=
  vk_getf C.1 C.2.1 (C.ex.2.1.1 i hi).2.2.1 hS C.own (C.w hl) (fun _ h9 => h9) hdg kk
theorem pg_strC (C : CXA g A own cc nL ret p s m args meth c) (hS : va_S A s.heap H locs) (hi : i < nS) (hl : Cond.fieldLink own index "java/lang/String" "coder" "B" ∈ ALL) (hdg : decode cc pc = .ok (.getfield index, 3))
    (kk : W p l e R s m args below meth c H locs cells slots Q (F0 m (pc + 3) ls (.int 0 :: rest))) : W p l e R s m args below meth c H locs cells slots Q (F0 m pc ls (.ref (sK g i) :: rest)) :=
  vk_getf C.1 C.2.1 (C.ex.2.1.1 i hi).2.1 hS C.own (C.w hl) (fun _ h9 => h9) hdg kk
theorem pg_strN (C : CXA g A own cc nL ret p s m args meth c) (hS : va_S A s.heap H locs) {v : Int32} (e1 : sN i = some v) (hdg : decode cc pc = .ok (.arraylength, 1))
    (kk : W p l e R s m args below meth c H locs cells slots Q (F0 m (pc + 1) ls (.int v :: rest))) : W p l e R s m args below meth c H locs cells slots Q (F0 m pc ls (.ref (sV g i) :: rest)) :=
  va_tlen C.1 C.2.1 (C.ex.2.1.1 i (sN_inv e1).1).2.2.2 hS (sN_inv e1).2 hdg kk
theorem pg_strB (C : CXA g A own cc nL ret p s m args meth c) (hS : va_S A s.heap H locs) {x v : Int32} (e1 : sB i x = some v) (hdg : decode cc pc = .ok (.baload, 1))
    (kk : W p l e R s m args below meth c H locs cells slots Q (F0 m (pc + 1) ls (.int v :: rest))) : W p l e R s m args below meth c H locs cells slots Q (F0 m pc ls (.int x :: .ref (sV g i) :: rest)) :=
  va_tb C.1 C.2.1 (C.ex.2.1.1 i (sB_inv e1).1).2.2.2 hS (sB_inv e1).2.1 (by show Value.int _ = _; rw [(sB_inv e1).2.2]) hdg kk
theorem pg_ldcS (C : CXA g A own cc nL ret p s m args meth c) (hi : i < nS) (ho : ownS i = own) (hx : ixS i = index) (hdg : decode cc pc = .ok (.ldc index, 2))
    (kk : W p l e R s m args below meth c H locs cells slots Q (F0 m (pc + 2) ls (.ref (sK g i) :: rest))) : W p l e R s m args below meth c H locs cells slots Q (F0 m pc ls rest) := by
  subst ho
  subst hx
  exact va_ldcS C.1 C.2.1 C.own (C.ex.2.2.1 i hi) hdg kk
-- ends
theorem WD_ends (C : CXA g (inA g) own cc nL ret p s m args meth c) (hw : WD g h s.heap H locs) {r : Option Value} : ∀ t : State, t.heap = H → s.WarmedH t.vm → Qq g r h args s (.returned r) t := by
  intro t ht hW
  obtain ⟨h1, h2, h3⟩ := hw
  exact ⟨rfl, ⟨by rw [ht]; exact h1, va_K.moved hW.alike C.K, h2.weaken (fun _ _ _ _ => trivial), C.ex.go h3 ht hW⟩, h3.F ht⟩
theorem pg_iret (C : CXA g (inA g) own cc nL (some .int) p s m args meth c) (hw : WD g h s.heap H locs) {v : Int32} (hdg : decode cc pc = .ok (.ireturn, 1)) :
    W p l e R s m args below meth c H locs 0 0 (MQ below (Qq g (some (.int v)) h) args s 0 0 (inA g)) (F0 m pc ls [.int v]) :=
  W.iret C.1 C.2.1 C.2.2.2.2.2.1 (WD_ends C hw) hw.2.2.2.2 hdg C.2.2.2.2.2.2.1
theorem pg_zret {ty : FieldType} (C : CXA g (inA g) own cc nL (some ty) p s m args meth c) (hw : WD g h s.heap H locs) {v : Int32} (hn : narrow ty (.int v) = .int v) (hdg : decode cc pc = .ok (.ireturn, 1)) :
    W p l e R s m args below meth c H locs 0 0 (MQ below (Qq g (some (.int v)) h) args s 0 0 (inA g)) (F0 m pc ls [.int v]) :=
  W.zret C.1 C.2.1 C.2.2.2.2.2.1 hn (WD_ends C hw) hw.2.2.2.2 hdg C.2.2.2.2.2.2.1
theorem pg_lret (C : CXA g (inA g) own cc nL (some .long) p s m args meth c) (hw : WD g h s.heap H locs) {v : Int64} (hdg : decode cc pc = .ok (.lreturn, 1)) :
    W p l e R s m args below meth c H locs 0 0 (MQ below (Qq g (some (.long v)) h) args s 0 0 (inA g)) (F0 m pc ls [.long v]) :=
  W.lret C.1 C.2.1 C.2.2.2.2.2.1 (WD_ends C hw) hw.2.2.2.2 hdg C.2.2.2.2.2.2.1
theorem pg_aret {rt : FieldType} (C : CXA g (inA g) own cc nL (some rt) p s m args meth c) (hw : WD g h s.heap H locs) {v : Nat} (hrt : (∃ n, rt = .object n) ∨ ∃ t, rt = .array t) (hdg : decode cc pc = .ok (.areturn, 1)) :
    W p l e R s m args below meth c H locs 0 0 (MQ below (Qq g (some (.ref v)) h) args s 0 0 (inA g)) (F0 m pc ls [.ref v]) :=
  W.aret C.1 C.2.1 C.2.2.2.2.2.1 hrt (Or.inr ⟨v, rfl⟩) (WD_ends C hw) hw.2.2.2.2 hdg C.2.2.2.2.2.2.1
theorem pg_vret (C : CXA g (inA g) own cc nL none p s m args meth c) (hw : WD g h s.heap H locs) (hdg : decode cc pc = .ok (.return_, 1)) :
    W p l e R s m args below meth c H locs 0 0 (MQ below (Qq g none h) args s 0 0 (inA g)) (F0 m pc ls []) :=
  W.vret C.1 C.2.1 C.2.2.2.2.2.1 (WD_ends C hw) hw.2.2.2.2 hdg C.2.2.2.2.2.2.1
-- calls
theorem WDA.pre (C : CXA g A own cc nL ret p s m args meth c) (hw : WDA g A h s.heap H locs) (As : List Value) : ∀ U : State, U.heap = H → s.WarmedH U.vm → va_Pc As (HW g h) As.toArray U := by
  intro U hU hW
  obtain ⟨h1, h2, h3⟩ := hw
  exact ⟨rfl, by rw [hU]; exact h1, va_K.moved hW.alike C.K, h2.weaken (fun _ _ _ _ => trivial), (C.ex.go h3 hU hW).narrow (fun q hq => wl_A h2 hq)⟩
theorem pg_run {st0 : List Value} {av : Array Value} {r : Option Value} (hw : WDA g A h s.heap H locs) (hr : va_Run p l e R s m args below meth c H locs 0 0 0 0 (F0 m pc ls st0) rest (Qq g r h' av) (inA g)) {st1 : List Value} (hst : r.toList ++ rest = st1)
    (kk : ∀ (H : Heap) (locs : List Loc), WDA g A h' s.heap H locs → W p l e R s m args below meth c H locs 0 0 Q (F0 m (pc + 3) ls st1)) : W p l e R s m args below meth c H locs 0 0 Q (F0 m pc ls st0) := by
  intro T hT X
  obtain ⟨v, st₀, t, T', L', h0, X', hL, e1, e2, ⟨hv, ⟨hP, hK, hD, hN⟩, hz, hk⟩, st⟩ := hr T hT X
  cases hv
  subst hst
  rw [h0] at hz hk
  obtain ⟨h1, h2, h3⟩ := hw
  obtain ⟨t2, a1, b1⟩ := kk T'.heap (locs ++ L') ⟨by rw [e1]; exact hP, (wl_D hD).weaken (fun _ _ _ hq => wl_A h2 hq), ⟨Nat.le_trans h3.1 (by rw [e1]; exact hz), fun q g1 g2 => by rw [e1, hk q (Nat.lt_of_lt_of_le g1 h3.1) (fun z => g2 (wl_A h2 z))]; exact h3.2.1 q g1 g2, fun q hq => by
      rcases List.mem_append.mp hq with h | h
      · exact h3.2.2 q h
      · exact wl_A h2 (hL q h)⟩⟩ T' rfl X'
  exact ⟨t2, st t2 a1, b1⟩
theorem pg_cb {y : MethodName} {bytes : ByteArray} {maxL n : Nat} {rt : Option FieldType} {rm : Room} (C : CXA g A own cc nL ret p s m args meth c) (M : MD y bytes maxL rt n) (hl : Cond.methodLink own index y ∈ ALL) (hc : rm.cells = 0 ∧ rm.slots = 0) (hR : rm.frames + 1 ≤ R.frames ∧ 8 + (maxL + 11) + rm.locals ≤ R.locals) :
    CallB R s args own index y bytes maxL rt (.code y bytes maxL rt :: ALL) rm 0 0 n :=
  callB_of n (fun w hw => C.w hw) (good_in M.2.1) rfl hc.1 hc.2 (C.w M.1) (C.w hl) M.2.2 hR
theorem pg_cn {y : MethodName} {host : String} {bytes : ByteArray} {maxL n : Nat} {rt : Option FieldType} {rm : Room} (C : CXA g A own cc nL ret p s m args meth c) (M : MD y bytes maxL rt n) (hl : (own, index, y, host) ∈ nests) (hc : rm.cells = 0 ∧ rm.slots = 0) (hR : rm.frames + 1 ≤ R.frames ∧ 8 + (maxL + 11) + rm.locals ≤ R.locals) :
    va_CN R s args own index y host bytes maxL rt (.code y bytes maxL rt :: ALL) rm 0 0 n :=
  va_cnB n (fun w hw => C.w hw) (good_in M.2.1) rfl hc.1 hc.2 (C.ex.1 _ hl) (C.w M.1) M.2.2 hR
theorem pg_callV {y : MethodName} {bytes : ByteArray} {maxL n : Nat} {rt : Option FieldType} {f lo b : Nat} {r : Option Value} {u : Unit} (C : CXA g A own cc nL ret p s m args meth c) (hw : WDA g A h s.heap H locs) (hls : ls.size = nL) (M : Cond.methodLink own index y ∈ ALL ∧ MD y bytes maxL rt n ∧ MV y k) (hk : kd b k = some u) {As : List Value} {st0 st1 : List Value}
    (hM : Ct l g y (.code y bytes maxL rt) (rmS f lo) (.ref (aD g b) :: As) h r h') (hn : As.length = n) (hR : (rmS f lo).frames + 1 ≤ R.frames ∧ 8 + (maxL + 11) + (rmS f lo).locals ≤ R.locals) (hrest : (rest.map fun v => v.category).sum ≤ 8) (hst0 : st0 = As.reverse ++ .ref (aD g b) :: rest) (hst : r.toList ++ rest = st1) (hdg : decode cc pc = .ok (.invokevirtual index, 3))
    (kk : ∀ (H : Heap) (locs : List Loc), WDA g A h' s.heap H locs → W p l e R s m args below meth c H locs 0 0 Q (F0 m (pc + 3) ls st1)) : W p l e R s m args below meth c H locs 0 0 Q (F0 m pc ls st0) := by
  subst hst0
  unfold kd at hk
  obtain ⟨⟨hko, hlt⟩, -⟩ := ot hk
  obtain ⟨q0, he, -⟩ := wl_at (g := g) (h := h) (kO_in (a := b) (by omega))
  rw [cG_o hko hlt] at he
  obtain ⟨T, N, hcl⟩ := M.2.2.2.2
  exact pg_run hw (va_runV (C := y.cls) (b := aD g b) (As := As) (rest := rest) ⟨C.1, C.2.1, C.2.2.1, C.own, C.2.2.2.2.1⟩ hM ⟨pg_cb C M.2.1 M.1 ⟨rfl, rfl⟩ hR, C.w M.2.2.1, C.w M.2.2.2.1⟩ ⟨HW.blind, va_recv (q := (y.cls, T, N)) C.K hw.1 hcl he, hw.pre C (.ref (aD g b) :: As)⟩ rfl hn hls rfl (lv_room hrest) hdg ⟨Nat.zero_le _, Nat.zero_le _⟩) hst kk
theorem pg_callT {y : MethodName} {bytes : ByteArray} {maxL n : Nat} {rt : Option FieldType} {f lo b : Nat} {r : Option Value} {u : Unit} (C : CXA g A own cc nL ret p s m args meth c) (hw : WDA g A h s.heap H locs) (hls : ls.size = nL) (M : Cond.methodLink own index y ∈ ALL ∧ MD y bytes maxL rt n ∧ Cond.instanceMethod y ∈ ALL ∧ Cond.selects y.cls y y ∈ ALL) (hk : sG b = some u) {As : List Value} {st0 st1 : List Value}
    (hM : Ct l g y (.code y bytes maxL rt) (rmS f lo) (.ref (sK g b) :: As) h r h') (hn : As.length = n) (hR : (rmS f lo).frames + 1 ≤ R.frames ∧ 8 + (maxL + 11) + (rmS f lo).locals ≤ R.locals) (hrest : (rest.map fun v => v.category).sum ≤ 8) (hst0 : st0 = As.reverse ++ .ref (sK g b) :: rest) (hst : r.toList ++ rest = st1) (hdg : decode cc pc = .ok (.invokevirtual index, 3))
    (kk : ∀ (H : Heap) (locs : List Loc), WDA g A h' s.heap H locs → W p l e R s m args below meth c H locs 0 0 Q (F0 m (pc + 3) ls st1)) (hy : y.cls = "java/lang/String" := by rfl) : W p l e R s m args below meth c H locs 0 0 Q (F0 m pc ls st0) := by
  subst hst0
  exact pg_run hw (va_runV (C := y.cls) (b := sK g b) (As := As) (rest := rest) ⟨C.1, C.2.1, C.2.2.1, C.own, C.2.2.2.2.1⟩ hM ⟨pg_cb C M.2.1 M.1 ⟨rfl, rfl⟩ hR, C.w M.2.2.1, C.w M.2.2.2⟩ ⟨HW.blind, by rw [hy]; exact vk_recv C.ex.2.1 (sG_inv hk) hw.2.2, hw.pre C (.ref (sK g b) :: As)⟩ rfl hn hls rfl (lv_room hrest) hdg ⟨Nat.zero_le _, Nat.zero_le _⟩) hst kk
theorem pg_callVN {y : MethodName} {host : String} {bytes : ByteArray} {maxL n : Nat} {rt : Option FieldType} {f lo b : Nat} {r : Option Value} {u : Unit} (C : CXA g A own cc nL ret p s m args meth c) (hw : WDA g A h s.heap H locs) (hls : ls.size = nL) (M : (own, index, y, host) ∈ nests ∧ MD y bytes maxL rt n ∧ MV y k) (hk : kd b k = some u) {As : List Value} {st0 st1 : List Value}
    (hM : Ct l g y (.code y bytes maxL rt) (rmS f lo) (.ref (aD g b) :: As) h r h') (hn : As.length = n) (hR : (rmS f lo).frames + 1 ≤ R.frames ∧ 8 + (maxL + 11) + (rmS f lo).locals ≤ R.locals) (hrest : (rest.map fun v => v.category).sum ≤ 8) (hst0 : st0 = As.reverse ++ .ref (aD g b) :: rest) (hst : r.toList ++ rest = st1) (hdg : decode cc pc = .ok (.invokevirtual index, 3))
    (kk : ∀ (H : Heap) (locs : List Loc), WDA g A h' s.heap H locs → W p l e R s m args below meth c H locs 0 0 Q (F0 m (pc + 3) ls st1)) : W p l e R s m args below meth c H locs 0 0 Q (F0 m pc ls st0) := by
  subst hst0
  unfold kd at hk
  obtain ⟨⟨hko, hlt⟩, -⟩ := ot hk
  obtain ⟨q0, he, -⟩ := wl_at (g := g) (h := h) (kO_in (a := b) (by omega))
  rw [cG_o hko hlt] at he
  obtain ⟨T, N, hcl⟩ := M.2.2.2.2
  exact pg_run hw (va_runVN (C := y.cls) (b := aD g b) (As := As) (rest := rest) ⟨C.1, C.2.1, C.2.2.1, C.own, C.2.2.2.2.1⟩ hM ⟨pg_cn C M.2.1 M.1 ⟨rfl, rfl⟩ hR, C.w M.2.2.1, C.w M.2.2.2.1⟩ ⟨HW.blind, va_recv (q := (y.cls, T, N)) C.K hw.1 hcl he, hw.pre C (.ref (aD g b) :: As)⟩ rfl hn hls rfl (lv_room hrest) hdg ⟨Nat.zero_le _, Nat.zero_le _⟩) hst kk
theorem pg_callS {y : MethodName} {bytes : ByteArray} {maxL n : Nat} {rt : Option FieldType} {f lo : Nat} {r : Option Value} (C : CXA g A own cc nL ret p s m args meth c) (hw : WDA g A h s.heap H locs) (hls : ls.size = nL) (M : Cond.methodLink own index y ∈ ALL ∧ MD y bytes maxL rt n ∧ Cond.static y ∈ ALL) {As : List Value} {st0 st1 : List Value}
    (hM : Ct l g y (.code y bytes maxL rt) (rmS f lo) As h r h') (hn : As.length = n) (hR : (rmS f lo).frames + 1 ≤ R.frames ∧ 8 + (maxL + 11) + (rmS f lo).locals ≤ R.locals) (hrest : (rest.map fun v => v.category).sum ≤ 8) (hst0 : st0 = As.reverse ++ rest) (hst : r.toList ++ rest = st1) (hdg : decode cc pc = .ok (.invokestatic index, 3))
    (kk : ∀ (H : Heap) (locs : List Loc), WDA g A h' s.heap H locs → W p l e R s m args below meth c H locs 0 0 Q (F0 m (pc + 3) ls st1)) : W p l e R s m args below meth c H locs 0 0 Q (F0 m pc ls st0) := by
  subst hst0
  exact pg_run hw (va_runS (As := As) (rest := rest) ⟨C.1, C.2.1, C.2.2.1, C.own, C.2.2.2.2.1⟩ hM ⟨pg_cb C M.2.1 M.1 ⟨rfl, rfl⟩ hR, C.w M.2.2⟩ ⟨HW.blind, hw.pre C As⟩ rfl hn hls rfl (lv_room hrest) hdg ⟨Nat.zero_le _, Nat.zero_le _⟩) hst kk
theorem pg_callSN {y : MethodName} {host : String} {bytes : ByteArray} {maxL n : Nat} {rt : Option FieldType} {f lo : Nat} {r : Option Value} (C : CXA g A own cc nL ret p s m args meth c) (hw : WDA g A h s.heap H locs) (hls : ls.size = nL) (M : (own, index, y, host) ∈ nests ∧ MD y bytes maxL rt n ∧ Cond.static y ∈ ALL) {As : List Value} {st0 st1 : List Value}
    (hM : Ct l g y (.code y bytes maxL rt) (rmS f lo) As h r h') (hn : As.length = n) (hR : (rmS f lo).frames + 1 ≤ R.frames ∧ 8 + (maxL + 11) + (rmS f lo).locals ≤ R.locals) (hrest : (rest.map fun v => v.category).sum ≤ 8) (hst0 : st0 = As.reverse ++ rest) (hst : r.toList ++ rest = st1) (hdg : decode cc pc = .ok (.invokestatic index, 3))
    (kk : ∀ (H : Heap) (locs : List Loc), WDA g A h' s.heap H locs → W p l e R s m args below meth c H locs 0 0 Q (F0 m (pc + 3) ls st1)) : W p l e R s m args below meth c H locs 0 0 Q (F0 m pc ls st0) := by
  subst hst0
  exact pg_run hw (va_runSN (As := As) (rest := rest) ⟨C.1, C.2.1, C.2.2.1, C.own, C.2.2.2.2.1⟩ hM ⟨pg_cn C M.2.1 M.1 ⟨rfl, rfl⟩ hR, C.w M.2.2, trivial⟩ ⟨HW.blind, hw.pre C As⟩ rfl hn hls rfl (lv_room hrest) hdg ⟨Nat.zero_le _, Nat.zero_le _⟩) hst kk
end PG
theorem Ct.of {l : Launch} {g : GG} {y : MethodName} {cw : Cond} {rm : Room} {av : List Value} {h h' : HP} {r : Option Value} {cc : ByteArray} {maxL : Nat} {ret : Option FieldType} {own : String} (hy : plainName y.cls = true) (hcw : cw = .code y cc maxL ret) (ho : y.cls = own) (hn : (lg_sl av).length ≤ maxL)
    (body : ∀ (p : Program) (e : Env) (s : State) (m : MethodId) (args : Array Value) (below : List Frame) (meth : Method) (c : Code) (ls : Array Slot), CX g own cc maxL ret p s m args meth c → lv_has ls maxL (lv_args 0 av) → WD g h s.heap s.heap [] →
      W p l e rm s m args below meth c s.heap [] 0 0 (MQ below (Qq g r h') args s 0 0 (inA g)) (F0 m 0 ls [])) : Ct l g y cw rm av h r h' := by
  subst hcw
  subst ho
  refine Met.ofW (cc := cc) (maxL := maxL) (ret := ret) hy rfl ?_
  intro p e s m args below meth c s₁ B hml hv
  obtain ⟨rfl, hP, hK, hD, hN⟩ := hv
  have hts := atoms_spec (ws := Cond.code y cc maxL ret :: ALL) B.pre
  rw [lg_entry_eq]
  exact body p e s m _ below meth c _ ⟨B.exec, B.bytes, hml, findClass_of_methodNamed B.named, fun w hw => hts w (List.mem_cons_of_mem _ hw), B.returns, B.notSynchronized, hK, hN⟩ (lv_entry av hn) ⟨hP, wl_D hD, va_S.rf⟩
