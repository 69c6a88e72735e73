/-! Constructors: worlds that grow, cell by cell. -/
def AO (U : State) : Prop := va_AO "AdjoinedSets$Text" U ∧ va_AO "AdjoinedSets$Function" U
theorem AO.warm {s U : State} (hW : s.WarmedH U.vm) (h : AO s) : AO U := ⟨va_AO.moved hW.alike h.1, va_AO.moved hW.alike h.2⟩
def HN (g : GG) (A : Nat → Prop) (ws : va_W) (U : State) : Prop := va_P g.1 classes ws U.heap ∧ va_K g.1 classes (tysOf g.2.1) U ∧ va_D (fun _ => True) ws ∧ EX g A U ∧ AO U
def NWd (g : GG) (A : Nat → Prop) (ws : va_W) (H0 H : Heap) (locs : List Loc) : Prop := va_P g.1 classes ws H ∧ va_D A ws ∧ va_S A H0 H locs
def QN {S : Type} (g : GG) (A : Nat → Prop) (w' : S → va_W) : Array Value → State → Outcome → State → Prop := fun _ st oc t => oc = .returned none ∧ (∃ u : S, va_P g.1 classes (w' u) t.heap ∧ va_D A (w' u)) ∧ va_F A st t
def rmN (f mc ms lo : Nat) : Room := { frames := f, cells := mc, slots := ms, locals := lo }
def CtN {S : Type} (l : Launch) (g : GG) (y : MethodName) (cw : Cond) (f mc ms lo : Nat) (av : List Value) (ws : va_W) (w' : S → va_W) : Prop := ∀ sz : Nat, Met l y (cw :: ALL) (rmN f mc ms lo) (va_Pc av (fun U => U.heap.size = sz ∧ HN g (va_A ws sz) ws U)) (QN g (va_A ws sz) w') mc ms (va_A ws sz)
theorem HN.blind {g : GG} {A : Nat → Prop} {ws : va_W} {av : List Value} {sz : Nat} : FrameBlind (va_Pc av (fun U => U.heap.size = sz ∧ HN g A ws U)) := by
  intro a U g' mk q
  obtain ⟨q0, q1, q2, q3, q4, q5, q6⟩ := q
  exact ⟨q0, q1, q2, va_K.moved (u := U) (U := U.calling g' mk a) (Vm.Alike.refl U.vm) q3, q4, q5.calling, va_AO.moved (u := U) (U := U.calling g' mk a) (Vm.Alike.refl U.vm) q6.1, va_AO.moved (u := U) (U := U.calling g' mk a) (Vm.Alike.refl U.vm) q6.2⟩
theorem CtN.of {S : Type} {l : Launch} {g : GG} {y : MethodName} {cw : Cond} {f mc ms lo : Nat} {av : List Value} {ws : va_W} {w' : S → va_W} {cc : ByteArray} {maxL : Nat} {own : String} (hy : plainName y.cls = true) (hcw : cw = .code y cc maxL none) (ho : y.cls = own) (hn : (lg_sl av).length ≤ maxL)
    (body : ∀ (p : Program) (e : Env) (s : State) (m : MethodId) (args : Array Value) (below : List Frame) (meth : Method) (c : Code) (ls : Array Slot) (A : Nat → Prop), CXA g A own cc maxL none p s m args meth c → meth.name = y.name → AO s → (∀ q : Nat, s.heap.size ≤ q → A q) → lv_has ls maxL (lv_args 0 av) → NWd g A ws s.heap s.heap [] →
      W p l e (rmN f mc ms lo) s m args below meth c s.heap [] 0 0 (MQ below (QN g A w') args s mc ms A) (F0 m 0 ls [])) : CtN l g y cw f mc ms lo av ws w' := by
  subst hcw
  subst ho
  intro sz
  refine Met.ofW (cc := cc) (maxL := maxL) (ret := none) hy rfl ?_
  intro p e s m args below meth c s₁ B hml hv
  obtain ⟨rfl, hsz, hP, hK, hD, hN, hO⟩ := hv
  subst hsz
  have hts := atoms_spec (ws := Cond.code y cc maxL none :: ALL) B.pre
  rw [lg_entry_eq]
  exact body p e s m _ below meth c _ (va_A ws s.heap.size) ⟨B.exec, B.bytes, hml, findClass_of_methodNamed B.named, fun w hw => hts w (List.mem_cons_of_mem _ hw), B.returns, B.notSynchronized, hK, hN⟩ (name_of_methodNamed B.named B.method).1 hO (fun q h => Or.inr h) (lv_entry av hn) ⟨hP, hD.self, va_S.rf⟩
theorem vpi {i : Int32} {n : Nat} (h : ¬ (i < 0 ∨ n ≤ i.toNatClampNeg)) : vp_in i n := h
def FNK (own : String) (index k i : Nat) (t : FieldType) : Prop := ∃ (C : String) (T : u_T) (N : Nat) (ty : Nat → FieldType), KF k C T N ty ∧ i < N ∧ Cond.fieldLink own index (T i).1 (T i).2.1 (T i).2.2.1 ∈ ALL ∧ (T i).2.2.2 = true ∧ (T i).1 = own ∧ parseFieldDescriptor (T i).2.2.1 = some t
def NEW (own : String) (index k N : Nat) (ty : Nat → FieldType) : Prop := ∃ (C : String) (T : u_T), KF k C T N ty ∧ Cond.classLink own index C ∈ ALL ∧ Cond.instantiable C N ∈ ALL ∧ Cond.initialized C ∈ ALL
section NR
variable {p : Program} {l : Launch} {e : Env} {R : Room} {s : State} {m : MethodId} {args : Array Value} {below : List Frame} {meth : Method} {c : Code} {H : Heap} {locs : List Loc} {cells slots : Nat} {Q : State → Prop}
variable {A : Nat → Prop} {cc : ByteArray} {pc : Nat} {ls : Array Slot} {rest : List Value} {g : GG} {own : String} {nL : Nat} {ret : Option FieldType} {index k i a t0 : Nat} {ws : va_W}
theorem n_obj (C : CXA g A own cc nL ret p s m args meth c) (hls : ls.size = nL) (M : Cond.methodLink own index objectInit ∈ ALL ∧ Cond.instanceMethod objectInit ∈ ALL ∧ Cond.code objectInit ⟨#[0xb1]⟩ 1 none ∈ ALL) (hfr : 1 ≤ R.frames) (hlo : (rest.map fun v => v.category).sum + 12 ≤ R.locals) (hdg : decode cc pc = .ok (.invokespecial index, 3))
    (kk : W p l e R s m args below meth c H locs cells slots Q (F0 m (pc + 3) ls rest)) : W p l e R s m args below meth c H locs cells slots Q (F0 m pc ls (.ref a :: rest)) :=
  W.objInit C.1 C.2.1 C.own (C.w M.1) (C.w M.2.1) (C.w M.2.2) rfl (by rw [C.2.2.1]; exact hls) rfl hdg hfr (by show 2 * 0 + _ + 12 ≤ _; omega) kk
theorem n_new {N : Nat} {ty : Nat → FieldType} (C : CXA g A own cc nL ret p s m args meth c) (hA : ∀ q : Nat, s.heap.size ≤ q → A q) (hw : NWd g A ws s.heap H locs) (M : NEW own index k N ty) {fs : List Value} (hfs : ∀ j, j < N → defaultValue (ty j) = vp_V fs j) {c' s' : Nat} (hc : cells + 1 = c') (hs : slots + N = s') (hcr : c' ≤ R.cells) (hsr : s' ≤ R.slots) (hdg : decode cc pc = .ok (.new index, 3))
    (kk : ∀ (q : Nat) (H : Heap), NWd g A (ws ++ [(q, .inr (k, fs))]) s.heap H locs → W p l e R s m args below meth c H locs c' s' Q (F0 m (pc + 3) ls (.ref q :: rest))) : W p l e R s m args below meth c H locs cells slots Q (F0 m pc ls rest) := by
  subst hc
  subst hs
  obtain ⟨C', T, ⟨hcl, hin, hty, -⟩, h1, h2, h3⟩ := M
  exact va_new (D := g.1) (ci := k) C.1 C.2.1 (fun w hw => C.w hw) hin ty hty C.own (C.w h1) (C.w h2) (C.w h3) C.K hw.1 hw.2.1 hw.2.2 hA hcl hfs hcr hsr hdg (fun q H1 hP hD hS => kk q H1 ⟨hP, hD, hS⟩)
theorem n_putF (C : CXA g A own cc nL ret p s m args meth c) (hin : meth.name = "<init>") (hw : NWd g A ws s.heap H locs) {t : FieldType} (F : FNK own index k i t) (q0 : Nat) {fs : List Value} (he : ws[q0]? = some (a, .inr (k, fs))) {v : Value} (hn : narrow t v = v) (hf : fits t v = true) (hl : i < fs.length) (hdg : decode cc pc = .ok (.putfield index, 3))
    (kk : ∀ (H : Heap) (locs : List Loc), NWd g A (ws.set q0 (a, .inr (k, fs.set i v))) s.heap H locs → W p l e R s m args below meth c H locs cells slots Q (F0 m (pc + 3) ls rest)) : W p l e R s m args below meth c H locs cells slots Q (F0 m pc ls (v :: .ref a :: rest)) := by
  obtain ⟨C', T, N, ty, ⟨hcl, hinn, hty, hnm⟩, hi, hlk, hfin, hdecl, hd⟩ := F
  exact va_putF (D := g.1) (ci := k) C.1 C.2.1 (fun w hw => C.w hw) hinn ty hty hnm C.own C.K hw.1 hw.2.1 hw.2.2 q0 he hcl i hi (C.w hlk) (fun _ h9 => h9) hfin hin hdecl hd hn hf hl hdg (fun H1 locs1 hP hD hS => kk H1 locs1 ⟨hP, hD, hS⟩)
theorem n_put (C : CXA g A own cc nL ret p s m args meth c) (hw : NWd g A ws s.heap H locs) {t : FieldType} (F : FPK own index k i t) (q0 : Nat) {fs : List Value} (he : ws[q0]? = some (a, .inr (k, fs))) {v : Value} (hn : narrow t v = v) (hf : fits t v = true) (hl : i < fs.length) (hdg : decode cc pc = .ok (.putfield index, 3))
    (kk : ∀ (H : Heap) (locs : List Loc), NWd g A (ws.set q0 (a, .inr (k, fs.set i v))) s.heap H locs → W p l e R s m args below meth c H locs cells slots Q (F0 m (pc + 3) ls rest)) : W p l e R s m args below meth c H locs cells slots Q (F0 m pc ls (v :: .ref a :: rest)) := by
  obtain ⟨C', T, N, ty, ⟨hcl, hinn, hty, hnm⟩, hi, hlk, hfin, hd⟩ := F
  exact va_put (D := g.1) (ci := k) C.1 C.2.1 (fun w hw => C.w hw) hinn ty hty hnm C.own C.K hw.1 hw.2.1 hw.2.2 q0 he hcl i hi (C.w hlk) (fun _ h9 => h9) hfin hd hn hf hl hdg (fun H1 locs1 hP hD hS => kk H1 locs1 ⟨hP, hD, hS⟩)
theorem n_get (C : CXA g A own cc nL ret p s m args meth c) (hw : NWd g A ws s.heap H locs) (F : FLK own index k i) (q0 : Nat) {fs : List Value} (he : ws[q0]? = some (a, .inr (k, fs))) {v : Value} (hv : fs[i]? = some v) (hdg : decode cc pc = .ok (.getfield index, 3))
    (kk : W p l e R s m args below meth c H locs cells slots Q (F0 m (pc + 3) ls (v :: rest))) : W p l e R s m args below meth c H locs cells slots Q (F0 m pc ls (.ref a :: rest)) := by
  obtain ⟨C', T, N, ty, ⟨hcl, hin, -, -⟩, hi, hl⟩ := F
  exact va_get (D := g.1) (ci := k) C.1 C.2.1 (fun w hw => C.w hw) hin C.own C.K hw.1 q0 he hcl i hi (C.w hl) (fun _ h9 => h9) hv hdg kk
theorem n_newa {atype : ArrayType} {ty : FieldType} (C : CXA g A own cc nL ret p s m args meth c) (hA : ∀ q : Nat, s.heap.size ≤ q → A q) (hw : NWd g A ws s.heap H locs) (harr : Cond.arrayClass (newarray.typeOf atype) ∈ ALL) (hty : newarray.typeOf atype = ty) (hra : ∀ (U : State) (x : ClassId), va_RA U x ty → U.vm.findClass ("[" ++ ty.toString) = some x) (ht : (tysOf g.2.1)[t0]? = some (g.2.1 k, ty)) {n : Int32} {N' : Nat} {a0 : vp_A} (ha : ∀ cA : ClassId, vp_cell cA a0 = arrV cA N' (fun _ => defaultValue ty)) (hn : ¬ n < 0) (hN : n.toNatClampNeg = N') (hbytes : N' * componentBytes ty ≤ 536870912) {c' s' : Nat} (hc : cells + 1 = c') (hs : slots + N' = s') (hcr : c' ≤ R.cells) (hsr : s' ≤ R.slots) (hdg : decode cc pc = .ok (.newarray atype, 2))
    (kk : ∀ (q : Nat) (H : Heap), NWd g A (ws ++ [(q, .inl (g.2.1 k, a0))]) s.heap H locs → W p l e R s m args below meth c H locs c' s' Q (F0 m (pc + 2) ls (.ref q :: rest))) : W p l e R s m args below meth c H locs cells slots Q (F0 m pc ls (.int n :: rest)) := by
  subst hc
  subst hs
  refine va_newa C.1 C.2.1 (C.w harr) hty C.K hw.1 hw.2.1 hw.2.2 hA ha hn hN hbytes hcr hsr hdg (fun q cA H1 hK hP hD hS => ?_)
  have e1 := hra _ _ (hK.2 (tysOf g.2.1).length (cA, ty) (by rw [List.getElem?_append_right (Nat.le_refl _), Nat.sub_self]; rfl)).2
  have e2 := hra _ _ (C.K.2 t0 _ ht).2
  have e3 : cA = g.2.1 k := Option.some.inj (e1.symm.trans e2)
  subst e3
  exact kk q H1 ⟨hP, hD, hS⟩
theorem n_newq {K : String} (C : CXA g A own cc nL ret p s m args meth c) (hA : ∀ q : Nat, s.heap.size ≤ q → A q) (hw : NWd g A ws s.heap H locs) (hcl : Cond.classLink own index K ∈ ALL) (hov : va_AO K s) (ht : (tysOf g.2.1)[t0]? = some (g.2.1 k, .object K)) {n : Int32} {N' : Nat} (hn : ¬ n < 0) (hN : n.toNatClampNeg = N') (hbytes : N' * 4 ≤ 536870912) {c' s' : Nat} (hc : cells + 1 = c') (hs : slots + N' = s') (hcr : c' ≤ R.cells) (hsr : s' ≤ R.slots) (hdg : decode cc pc = .ok (.anewarray index, 3))
    (kk : ∀ (q : Nat) (H : Heap), NWd g A (ws ++ [(q, .inl (g.2.1 k, N', .inr (.inr (.inr (.inr (fun _ => none))))))]) s.heap H locs → W p l e R s m args below meth c H locs c' s' Q (F0 m (pc + 3) ls (.ref q :: rest))) : W p l e R s m args below meth c H locs cells slots Q (F0 m pc ls (.int n :: rest)) := by
  subst hc
  subst hs
  refine va_newq C.1 C.2.1 C.own (C.w hcl) hov C.K hw.1 hw.2.1 hw.2.2 hA hn hN hbytes hcr hsr hdg (fun q cA H1 hK hP hD hS => ?_)
  obtain ⟨_, _, _, _, _, e1⟩ := (hK.2 (tysOf g.2.1).length (cA, .object K) (by rw [List.getElem?_append_right (Nat.le_refl _), Nat.sub_self]; rfl)).2
  obtain ⟨_, _, _, _, _, e2⟩ := (C.K.2 t0 _ ht).2
  have e3 : cA = g.2.1 k := Option.some.inj (e1.symm.trans e2)
  subst e3
  exact kk q H1 ⟨hP, hD, hS⟩
theorem n_iast (C : CXA g A own cc nL ret p s m args meth c) (hw : NWd g A ws s.heap H locs) (q0 : Nat) {n : Nat} {f : Nat → Int32} (ha : ws[q0]? = some (a, .inl (g.2.1 k, n, .inl f))) (ht : (tysOf g.2.1)[t0]? = some (g.2.1 k, .int)) {i x : Int32} (hin : vp_in i n) (hdg : decode cc pc = .ok (.iastore, 1))
    (kk : ∀ (H : Heap) (locs : List Loc), NWd g A (ws.set q0 (a, .inl (g.2.1 k, n, .inl (upd f i.toNatClampNeg x)))) s.heap H locs → W p l e R s m args below meth c H locs cells slots Q (F0 m (pc + 1) ls rest)) : W p l e R s m args below meth c H locs cells slots Q (F0 m pc ls (.int x :: .int i :: .ref a :: rest)) :=
  va_iast C.1 C.2.1 C.K hw.1 hw.2.1 hw.2.2 q0 t0 ha ht hin hdg (fun H1 locs1 hP hD hS => kk H1 locs1 ⟨hP, hD, hS⟩)
theorem n_aast (C : CXA g A own cc nL ret p s m args meth c) (hw : NWd g A ws s.heap H locs) (q0 qk ci : Nat) {r : vw_C} {n v : Nat} {vs : List Value} {f : Nat → Option Nat} (ha : ws[q0]? = some (a, .inl (g.2.1 k, n, .inr (.inr (.inr (.inr f)))))) (ht : (tysOf g.2.1)[t0]? = some (g.2.1 k, .object r.1)) (hv : ws[qk]? = some (v, .inr (ci, vs))) (hcl : classes[ci]? = some r) {i : Int32} (hin : vp_in i n) (hdg : decode cc pc = .ok (.aastore, 1))
    (kk : ∀ (H : Heap) (locs : List Loc), NWd g A (ws.set q0 (a, .inl (g.2.1 k, n, .inr (.inr (.inr (.inr (va_up f i.toNatClampNeg (some v)))))))) s.heap H locs → W p l e R s m args below meth c H locs cells slots Q (F0 m (pc + 1) ls rest)) : W p l e R s m args below meth c H locs cells slots Q (F0 m pc ls (.ref v :: .int i :: .ref a :: rest)) :=
  va_astq C.1 C.2.1 C.K hw.1 hw.2.1 hw.2.2 q0 t0 qk ci ha ht hv hcl hin hdg (fun H1 locs1 hP hD hS => kk H1 locs1 ⟨hP, hD, hS⟩)
theorem n_ret {S : Type} {w' : S → va_W} {mc ms : Nat} (u : S) (C : CXA g A own cc nL none p s m args meth c) (hw : NWd g A (w' u) s.heap H locs) (hdg : decode cc pc = .ok (.return_, 1)) : W p l e R s m args below meth c H locs mc ms (MQ below (QN g A w') args s mc ms A) (F0 m pc ls []) :=
  W.vret C.1 C.2.1 C.2.2.2.2.2.1 (fun t ht hW => ⟨rfl, ⟨u, by rw [ht]; exact hw.1, hw.2.1⟩, hw.2.2.F ht⟩) hw.2.2.2.2 hdg C.2.2.2.2.2.2.1
/-- a call that changes the cell at place j alone and may make others -/
theorem n_go {S : Type} {w' : S → va_W} {mc ms b j : Nat} {e0 : va_E} {wr : va_W} {isR : List Nat} {av : Array Value} {st0 : List Value} (hA : ∀ q : Nat, s.heap.size ≤ q → A q) (hw : NWd g A ws s.heap H locs) (hj : [j].map (fun i => ws[i]?) = [some (b, e0)]) (hR : isR.map (fun i => ws[i]?) = wr.map some) (hnd : va_nd isR = true) (hni : ∀ i ∈ isR, i ∉ [j])
    (hr : va_Run p l e R s m args below meth c H locs cells slots mc ms (F0 m pc ls st0) rest (QN g (va_A [(b, e0)] H.size) w' av) (va_A [(b, e0)] H.size)) {c' s' : Nat} (hc : cells + mc = c') (hs : slots + ms = s')
    (kk : ∀ (u : S) (H : Heap) (locs : List Loc), NWd g A (wr ++ w' u) s.heap H locs → W p l e R s m args below meth c H locs c' s' Q (F0 m (pc + 3) ls rest)) : W p l e R s m args below meth c H locs cells slots Q (F0 m pc ls st0) := by
  subst hc
  subst hs
  have hFc : ∀ q, va_A [(b, e0)] H.size q → A q := va_free (wc := [(b, e0)]) hw.2.1 hw.2.2 hA [j] hj
  intro T hT X
  obtain ⟨v, st₀, t, T', L', h0, X', hL, e1, e2, ⟨hv, ⟨u, hP1, hD1⟩, hz, hk⟩, st⟩ := hr T hT X
  cases hv
  rw [h0] at hz hk
  obtain ⟨hP, hD⟩ := va_join (wc := [(b, e0)]) (wr := wr) (w1 := w' u) hw.1 hw.2.1 [j] isR hj hR hnd hni hk hFc hP1 hD1
  obtain ⟨h1, h2, h3⟩ := hw
  obtain ⟨t2, a1, b1⟩ := kk u T'.heap (locs ++ L') ⟨by rw [e1]; exact hP, hD, ⟨Nat.le_trans h3.1 (by rw [e1]; exact hz), fun q g1 g2 => by rw [e1, hk q (Nat.lt_of_lt_of_le g1 h3.1) (fun z => g2 (hFc q z))]; exact h3.2.1 q g1 g2, fun q hq => by
      rcases List.mem_append.mp hq with h | h
      · exact h3.2.2 q h
      · exact hFc _ (hL q h)⟩⟩ T' rfl X'
  exact ⟨t2, st t2 a1, b1⟩
theorem n_pre {b j : Nat} {e0 : va_E} (C : CXA g A own cc nL ret p s m args meth c) (ao : AO s) (hA : ∀ q : Nat, s.heap.size ≤ q → A q) (hw : NWd g A ws s.heap H locs) (hj : [j].map (fun i => ws[i]?) = [some (b, e0)]) (As : List Value) : ∀ U : State, U.heap = H → s.WarmedH U.vm → va_Pc As (fun U => U.heap.size = H.size ∧ HN g (va_A [(b, e0)] H.size) [(b, e0)] U) As.toArray U := by
  intro U hU hW
  have hFc : ∀ q, va_A [(b, e0)] H.size q → A q := va_free (wc := [(b, e0)]) hw.2.1 hw.2.2 hA [j] hj
  refine ⟨rfl, by rw [hU], ?_, va_K.moved hW.alike C.K, ?_, (C.ex.go hw.2.2 hU hW).narrow hFc, AO.warm hW ao⟩
  · rw [hU]
    exact hw.1.sub [j] (by have := hj; simp only [List.map_cons, List.map_nil, List.cons.injEq, and_true] at this; simp [this])
  · exact (hw.2.1.sub (ws' := [(b, e0)]) [j] rfl hj).weaken (fun _ _ _ _ => trivial)
theorem n_callI {S : Type} {w' : S → va_W} {y : MethodName} {bytes : ByteArray} {maxL n f mc ms lo b j : Nat} {e0 : va_E} {wr : va_W} {isR : List Nat} (C : CXA g A own cc nL ret p s m args meth c) (ao : AO s) (hA : ∀ q : Nat, s.heap.size ≤ q → A q) (hw : NWd g A ws s.heap H locs) (hls : ls.size = nL) (M : Cond.methodLink own index y ∈ ALL ∧ MD y bytes maxL none n ∧ Cond.instanceMethod y ∈ ALL ∧ y.name = "<init>") (hj : [j].map (fun i => ws[i]?) = [some (b, e0)]) (hR : isR.map (fun i => ws[i]?) = wr.map some) (hnd : va_nd isR = true) (hni : ∀ i ∈ isR, i ∉ [j]) {As : List Value} {st0 : List Value}
    (hM : CtN l g y (.code y bytes maxL none) f mc ms lo (.ref b :: As) [(b, e0)] w') (hn : As.length = n) (hRm : f + 1 ≤ R.frames ∧ 8 + (maxL + 11) + lo ≤ R.locals) (hrest : (rest.map fun v => v.category).sum ≤ 8) (hst0 : st0 = As.reverse ++ .ref b :: rest) {c' s' : Nat} (hc : cells + mc = c') (hs : slots + ms = s') (hcr : c' ≤ R.cells) (hsr : s' ≤ R.slots) (hdg : decode cc pc = .ok (.invokespecial index, 3))
    (kk : ∀ (u : S) (H : Heap) (locs : List Loc), NWd g A (wr ++ w' u) s.heap H locs → W p l e R s m args below meth c H locs c' s' Q (F0 m (pc + 3) ls rest)) : W p l e R s m args below meth c H locs cells slots Q (F0 m pc ls st0) := by
  subst hst0
  exact n_go hA hw hj hR hnd hni (va_runI (b := b) (As := As) (rest := rest) ⟨C.1, C.2.1, C.2.2.1, C.own, C.2.2.2.2.1⟩ (hM H.size) ⟨callB_of n (fun w hw => C.w hw) (good_in M.2.1.2.1) rfl rfl rfl (C.w M.2.1.1) (C.w M.1) M.2.1.2.2 hRm, M.2.2.2, C.w M.2.2.1⟩ ⟨HN.blind, n_pre C ao hA hw hj (.ref b :: As)⟩ rfl hn hls rfl (lv_room hrest) hdg ⟨by rw [hc]; exact hcr, by rw [hs]; exact hsr⟩) hc hs kk
theorem n_callIN {S : Type} {w' : S → va_W} {y : MethodName} {host : String} {bytes : ByteArray} {maxL n f mc ms lo b j : Nat} {e0 : va_E} {wr : va_W} {isR : List Nat} (C : CXA g A own cc nL ret p s m args meth c) (ao : AO s) (hA : ∀ q : Nat, s.heap.size ≤ q → A q) (hw : NWd g A ws s.heap H locs) (hls : ls.size = nL) (M : (own, index, y, host) ∈ nests ∧ MD y bytes maxL none n ∧ Cond.instanceMethod y ∈ ALL ∧ y.name = "<init>") (hj : [j].map (fun i => ws[i]?) = [some (b, e0)]) (hR : isR.map (fun i => ws[i]?) = wr.map some) (hnd : va_nd isR = true) (hni : ∀ i ∈ isR, i ∉ [j]) {As : List Value} {st0 : List Value}
    (hM : CtN l g y (.code y bytes maxL none) f mc ms lo (.ref b :: As) [(b, e0)] w') (hn : As.length = n) (hRm : f + 1 ≤ R.frames ∧ 8 + (maxL + 11) + lo ≤ R.locals) (hrest : (rest.map fun v => v.category).sum ≤ 8) (hst0 : st0 = As.reverse ++ .ref b :: rest) {c' s' : Nat} (hc : cells + mc = c') (hs : slots + ms = s') (hcr : c' ≤ R.cells) (hsr : s' ≤ R.slots) (hdg : decode cc pc = .ok (.invokespecial index, 3))
    (kk : ∀ (u : S) (H : Heap) (locs : List Loc), NWd g A (wr ++ w' u) s.heap H locs → W p l e R s m args below meth c H locs c' s' Q (F0 m (pc + 3) ls rest)) : W p l e R s m args below meth c H locs cells slots Q (F0 m pc ls st0) := by
  subst hst0
  exact n_go hA hw hj hR hnd hni (va_runIN (b := b) (As := As) (rest := rest) ⟨C.1, C.2.1, C.2.2.1, C.own, C.2.2.2.2.1⟩ (hM H.size) ⟨va_cnB n (fun w hw => C.w hw) (good_in M.2.1.2.1) rfl rfl rfl (C.ex.1 _ M.1) (C.w M.2.1.1) M.2.1.2.2 hRm, M.2.2.2, C.w M.2.2.1⟩ ⟨HN.blind, n_pre C ao hA hw hj (.ref b :: As)⟩ rfl hn hls rfl (lv_room hrest) hdg ⟨by rw [hc]; exact hcr, by rw [hs]; exact hsr⟩) hc hs kk
theorem n_callS {S : Type} {w' : S → va_W} {y : MethodName} {bytes : ByteArray} {maxL n f mc ms lo b j : Nat} {e0 : va_E} {wr : va_W} {isR : List Nat} (C : CXA g A own cc nL ret p s m args meth c) (ao : AO s) (hA : ∀ q : Nat, s.heap.size ≤ q → A q) (hw : NWd g A ws s.heap H locs) (hls : ls.size = nL) (M : Cond.methodLink own index y ∈ ALL ∧ MD y bytes maxL none n ∧ Cond.static y ∈ ALL) (hj : [j].map (fun i => ws[i]?) = [some (b, e0)]) (hR : isR.map (fun i => ws[i]?) = wr.map some) (hnd : va_nd isR = true) (hni : ∀ i ∈ isR, i ∉ [j]) {As : List Value} {st0 : List Value}
    (hM : CtN l g y (.code y bytes maxL none) f mc ms lo As [(b, e0)] w') (hn : As.length = n) (hRm : f + 1 ≤ R.frames ∧ 8 + (maxL + 11) + lo ≤ R.locals) (hrest : (rest.map fun v => v.category).sum ≤ 8) (hst0 : st0 = As.reverse ++ rest) {c' s' : Nat} (hc : cells + mc = c') (hs : slots + ms = s') (hcr : c' ≤ R.cells) (hsr : s' ≤ R.slots) (hdg : decode cc pc = .ok (.invokestatic index, 3))
    (kk : ∀ (u : S) (H : Heap) (locs : List Loc), NWd g A (wr ++ w' u) s.heap H locs → W p l e R s m args below meth c H locs c' s' Q (F0 m (pc + 3) ls rest)) : W p l e R s m args below meth c H locs cells slots Q (F0 m pc ls st0) := by
  subst hst0
  exact n_go hA hw hj hR hnd hni (va_runS (As := As) (rest := rest) ⟨C.1, C.2.1, C.2.2.1, C.own, C.2.2.2.2.1⟩ (hM H.size) ⟨callB_of n (fun w hw => C.w hw) (good_in M.2.1.2.1) rfl rfl rfl (C.w M.2.1.1) (C.w M.1) M.2.1.2.2 hRm, C.w M.2.2⟩ ⟨HN.blind, n_pre C ao hA hw hj As⟩ rfl hn hls rfl (lv_room hrest) hdg ⟨by rw [hc]; exact hcr, by rw [hs]; exact hsr⟩) hc hs kk
end NR
/-! Arrays.fill on one row, String.length on a constant: beside any world. -/
theorem n_fill (l : Launch) (g : GG) (x0 n : Nat) (v : Int32) (hn : n < 2 ^ 31) : CtN (S := Unit) l g y_Arrays_fill w_Arrays_fill 0 0 0 0 [.ref x0, .int v] [(x0, .inl (g.2.1 0, n, .inl (fun _ => 0)))] (fun _ => [(x0, .inl (g.2.1 0, n, .inl (fun j => if j < n then v else 0)))]) := by
  refine CtN.of (own := R_Arrays) (by decide) rfl rfl (Nat.le_of_ble_eq_true rfl) ?_
  intro p e s m args below meth c ls A C hin ao hA hl hw
  have hx := C.1
  have hb := C.2.1
  have hl : lv_has ls 4 [(0, .ref x0), (1, .int v)] := hl
  refine lv_iconst (v := 0) hx hb d_Arrays_fill_0 (by decide) ?_
  refine lv_istore_n hx hb d_Arrays_fill_1 rfl hl (by decide) (lv' := [(2, .int 0), (0, .ref x0), (1, .int v)]) rfl (fun ls hl => ?_)
  refine lv_aload_n hx hb d_Arrays_fill_2 rfl (lv_at hl 1 rfl) ?_
  refine va_alen (D := g.1) (v := nI n) hx hb C.K hw.1 0 0 (ty := .int) rfl rfl rfl d_Arrays_fill_3 ?_
  refine lv_istore_n hx hb d_Arrays_fill_4 rfl hl (by decide) (lv' := [(3, .int (nI n)), (2, .int 0), (0, .ref x0), (1, .int v)]) rfl (fun ls hl => ?_)
  have key : ∀ (r j : Nat), j + r = n → ∀ (H : Heap) (locs : List Loc) (ls : Array Slot), NWd g A [(x0, .inl (g.2.1 0, n, .inl (fun q => if q < j then v else 0)))] s.heap H locs → lv_has ls 4 [(3, .int (nI n)), (2, .int (nI j)), (0, .ref x0), (1, .int v)] → W p l e (rmN 0 0 0 0) s m args below meth c H locs 0 0 (MQ below (QN g A (fun _ : Unit => [(x0, .inl (g.2.1 0, n, .inl (fun j => if j < n then v else 0)))])) args s 0 0 A) (F0 m 5 ls []) := by
    intro r
    induction r with
    | zero =>
      intro j hj H locs ls hw hl
      have hj : j = n := by omega
      subst hj
      refine lv_iload_n hx hb d_Arrays_fill_5 rfl (lv_at hl 1 rfl) ?_
      refine lv_iload_n hx hb d_Arrays_fill_6 rfl (lv_at hl 0 rfl) ?_
      refine lv_icmp_ge hx hb d_Arrays_fill_7 (tgt := 20) (by decide) (fun _ => ?_) (fun hc => absurd (nI_le (Nat.le_refl _) hn) hc)
      exact n_ret () C hw d_Arrays_fill_20
    | succ r ih =>
      intro j hj H locs ls hw hl
      refine lv_iload_n hx hb d_Arrays_fill_5 rfl (lv_at hl 1 rfl) ?_
      refine lv_iload_n hx hb d_Arrays_fill_6 rfl (lv_at hl 0 rfl) ?_
      refine lv_icmp_ge hx hb d_Arrays_fill_7 (tgt := 20) (by decide) (fun hc => absurd hc (nI_ge (by omega) hn)) (fun _ => ?_)
      refine lv_aload_n hx hb d_Arrays_fill_10 rfl (lv_at hl 2 rfl) ?_
      refine lv_iload_n hx hb d_Arrays_fill_11 rfl (lv_at hl 1 rfl) ?_
      refine lv_iload_n hx hb d_Arrays_fill_12 rfl (lv_at hl 3 rfl) ?_
      refine n_iast (k := 0) (t0 := 0) C hw 0 rfl rfl (vp_in_nI (by omega) hn) d_Arrays_fill_13 (fun H locs hw => ?_)
      refine lv_iinc hx hb d_Arrays_fill_14 hl (k := 1) rfl (v := nI (j + 1)) (by rw [nI_succ]; rfl) (by decide) (lv' := [(2, .int (nI (j + 1))), (3, .int (nI n)), (0, .ref x0), (1, .int v)]) rfl (fun ls hl => ?_)
      refine lv_goto hx hb d_Arrays_fill_17 (tgt := 5) (by decide) ?_
      refine ih (j + 1) (by omega) H locs ls ?_ (lv_sub hl [1, 0, 2, 3] rfl)
      have e1 : upd (fun q => if q < j then v else 0) (nI j).toNatClampNeg v = fun q => if q < j + 1 then v else 0 := by
        rw [nI_clamp (by omega)]
        funext q
        unfold upd
        by_cases h1 : q = j
        · simp [h1]
        · by_cases h2 : q < j
          · simp [h1, h2, Nat.lt_succ_of_lt h2]
          · have h3 : ¬ q < j + 1 := by omega
            simp [h1, h2, h3]
      rw [← e1]
      exact hw
  exact key n 0 (by omega) s.heap [] ls (by
    have e0 : (fun q : Nat => if q < 0 then v else 0) = (fun _ => (0 : Int32)) := by funext q; simp
    rw [e0]
    exact hw) hl
def CtS (l : Launch) (g : GG) (A : Nat → Prop) (y : MethodName) (cw : Cond) (f lo : Nat) (av : List Value) (r : Int32) : Prop := Met l y (cw :: ALL) (rmS f lo) (va_Pc av (fun U => va_K g.1 classes (tysOf g.2.1) U ∧ EX g A U)) (fun _ st oc t => oc = .returned (some (.int r)) ∧ t.heap = st.heap) 0 0 (fun _ => False)
theorem SX.blind {g : GG} {A : Nat → Prop} {av : List Value} : FrameBlind (va_Pc av (fun U => va_K g.1 classes (tysOf g.2.1) U ∧ EX g A U)) := by
  intro a U g' mk q
  obtain ⟨q0, q1, q2⟩ := q
  exact ⟨q0, va_K.moved (u := U) (U := U.calling g' mk a) (Vm.Alike.refl U.vm) q1, q2.calling⟩
theorem CtS.of {l : Launch} {g : GG} {A : Nat → Prop} {y : MethodName} {cw : Cond} {f lo : Nat} {av : List Value} {r : Int32} {cc : ByteArray} {maxL : Nat} {own : String} {ty : FieldType} (hy : plainName y.cls = true) (hcw : cw = .code y cc maxL (some ty)) (ho : y.cls = own) (hn : (lg_sl av).length ≤ maxL)
    (body : ∀ (p : Program) (e : Env) (s : State) (m : MethodId) (args : Array Value) (below : List Frame) (meth : Method) (c : Code) (ls : Array Slot), CXA g A own cc maxL (some ty) p s m args meth c → lv_has ls maxL (lv_args 0 av) →
      W p l e (rmS f lo) s m args below meth c s.heap [] 0 0 (MQ below (fun _ st oc t => oc = .returned (some (.int r)) ∧ t.heap = st.heap) args s 0 0 (fun _ => False)) (F0 m 0 ls [])) : CtS l g A y cw f lo av r := by
  subst hcw
  subst ho
  refine Met.ofW (cc := cc) (maxL := maxL) (ret := some ty) hy rfl ?_
  intro p e s m args below meth c s₁ B hml hv
  obtain ⟨rfl, hK, hN⟩ := hv
  have hts := atoms_spec (ws := Cond.code y cc maxL (some ty) :: ALL) B.pre
  rw [lg_entry_eq]
  exact body p e s m _ below meth c _ ⟨B.exec, B.bytes, hml, findClass_of_methodNamed B.named, fun w hw => hts w (List.mem_cons_of_mem _ hw), B.returns, B.notSynchronized, hK, hN⟩ (lv_entry av hn)
theorem n_callT {p : Program} {l : Launch} {e : Env} {R : Room} {s : State} {m : MethodId} {args : Array Value} {below : List Frame} {meth : Method} {c : Code} {H : Heap} {locs : List Loc} {cells slots : Nat} {Q : State → Prop} {A : Nat → Prop} {cc : ByteArray} {pc : Nat} {ls : Array Slot} {rest : List Value} {g : GG} {own : String} {nL : Nat} {ret : Option FieldType} {index : Nat}
    {y : MethodName} {bytes : ByteArray} {maxL f lo i : Nat} {rt : Option FieldType} {r : Int32} (C : CXA g A own cc nL ret p s m args meth c) (hS : va_S A s.heap H locs) (hls : ls.size = nL) (M : Cond.methodLink own index y ∈ ALL ∧ MD y bytes maxL rt 0 ∧ Cond.instanceMethod y ∈ ALL ∧ Cond.selects y.cls y y ∈ ALL) (hi : i < nS)
    (hM : CtS l g A y (.code y bytes maxL rt) f lo [.ref (sK g i)] r) (hR : f + 1 ≤ R.frames ∧ 8 + (maxL + 11) + lo ≤ R.locals) (hcs : cells ≤ R.cells ∧ slots ≤ R.slots) (hrest : (rest.map fun v => v.category).sum ≤ 8) (hdg : decode cc pc = .ok (.invokevirtual index, 3)) (hy : y.cls = "java/lang/String")
    (kk : W p l e R s m args below meth c H locs cells slots Q (F0 m (pc + 3) ls (.int r :: rest))) : W p l e R s m args below meth c H locs cells slots Q (F0 m pc ls (.ref (sK g i) :: rest)) := by
  have hr := va_runV (cells := cells) (slots := slots) (locs := locs) (below := below) (meth := meth) (e := e) (g := F0 m pc ls (.ref (sK g i) :: rest)) (C := y.cls) (b := sK g i) (As := []) (rest := rest) ⟨C.1, C.2.1, C.2.2.1, C.own, C.2.2.2.2.1⟩ hM ⟨callB_of 0 (fun w hw => C.w hw) (good_in M.2.1.2.1) rfl rfl rfl (C.w M.2.1.1) (C.w M.1) M.2.1.2.2 hR, C.w M.2.2.1, C.w M.2.2.2⟩ ⟨SX.blind, by rw [hy]; exact vk_recv C.ex.2.1 hi hS, fun U hU hW => ⟨rfl, va_K.moved hW.alike C.K, C.ex.go hS hU hW⟩⟩ rfl rfl hls rfl (lv_room hrest) hdg hcs
  intro T hT X
  obtain ⟨v, st₀, t, T', L', h0, X', hL, e1, e2, ⟨hv, hh⟩, st⟩ := hr T hT X
  cases hv
  obtain ⟨t2, a1, b1⟩ := kk T' (by rw [e1, hh, h0]) (Stand.forget X' (fun q h => (hL q h).elim))
  exact ⟨t2, st t2 a1, b1⟩
theorem n_coder (l : Launch) (g : GG) (A : Nat → Prop) {i : Nat} (hi : i < nS) : CtS l g A y_String_coder w_String_coder 0 0 [.ref (sK g i)] 0 := by
  refine CtS.of (own := R_String) (by decide) rfl rfl (Nat.le_of_ble_eq_true rfl) ?_
  intro p e s m args below meth c ls C hl
  have hx := C.1
  have hb := C.2.1
  have hl : lv_has ls 1 [(0, .ref (sK g i))] := hl
  have hS : va_S A s.heap s.heap [] := va_S.rf
  refine pg_cs C hS sl_String_38 d_String_coder_0 ?_
  refine lv_if_eq hx hb d_String_coder_3 (tgt := 13) (by decide) (fun hc => absurd hc (by decide)) (fun _ => ?_)
  refine lv_aload_n hx hb d_String_coder_6 rfl (lv_at hl 0 rfl) ?_
  refine pg_strC C hS hi sl_String_15 d_String_coder_7 ?_
  refine lv_goto hx hb d_String_coder_10 (tgt := 14) (by decide) ?_
  exact W.zret hx hb C.2.2.2.2.2.1 rfl (fun t ht hW => ⟨rfl, ht⟩) (fun q h => by cases h) d_String_coder_14 C.2.2.2.2.2.2.1
theorem n_length (l : Launch) (g : GG) (A : Nat → Prop) {i : Nat} {v : Int32} (hi : i < nS) (hv : (Int32.ofNat (lenS.getD i 0)) >>> ((0 : Int32) &&& 31) = v) : CtS l g A y_String_length w_String_length 1 20 [.ref (sK g i)] v := by
  refine CtS.of (own := R_String) (by decide) rfl rfl (Nat.le_of_ble_eq_true rfl) ?_
  intro p e s m args below meth c ls C hl
  have hx := C.1
  have hb := C.2.1
  have hl : lv_has ls 1 [(0, .ref (sK g i))] := hl
  have hS : va_S A s.heap s.heap [] := va_S.rf
  refine lv_aload_n hx hb d_String_length_0 rfl (lv_at hl 0 rfl) ?_
  refine pg_strV C hS hi sl_String_9 d_String_length_1 ?_
  refine pg_strN C hS (v := Int32.ofNat (lenS.getD i 0)) (by unfold sN; rw [if_pos hi]) d_String_length_4 ?_
  refine lv_aload_n hx hb d_String_length_5 rfl (lv_at hl 0 rfl) ?_
  refine n_callT C hS hl.1 ml_String_335 hi (n_coder l g A hi) ⟨Nat.le_of_ble_eq_true rfl, Nat.le_of_ble_eq_true rfl⟩ ⟨Nat.zero_le _, Nat.zero_le _⟩ (Nat.le_of_ble_eq_true rfl) d_String_length_6 rfl ?_
  refine lv_ishr hx hb d_String_length_9 ?_
  rw [hv]
  exact W.iret hx hb C.2.2.2.2.2.1 (fun t ht hW => ⟨rfl, ht⟩) (fun q h => by cases h) d_String_length_10 C.2.2.2.2.2.2.1
theorem n_len {p : Program} {l : Launch} {e : Env} {R : Room} {s : State} {m : MethodId} {args : Array Value} {below : List Frame} {meth : Method} {c : Code} {H : Heap} {locs : List Loc} {cells slots : Nat} {Q : State → Prop} {A : Nat → Prop} {cc : ByteArray} {pc : Nat} {ls : Array Slot} {rest : List Value} {g : GG} {own : String} {nL : Nat} {ret : Option FieldType} {index i : Nat}
    (C : CXA g A own cc nL ret p s m args meth c) (hS : va_S A s.heap H locs) (hls : ls.size = nL) (M : Cond.methodLink own index y_String_length ∈ ALL ∧ MD y_String_length b_String_length 1 (some .int) 0 ∧ Cond.instanceMethod y_String_length ∈ ALL ∧ Cond.selects y_String_length.cls y_String_length y_String_length ∈ ALL) (hi : i < nS) {v : Int32} (hv : (Int32.ofNat (lenS.getD i 0)) >>> ((0 : Int32) &&& 31) = v)
    (hR1 : 2 ≤ R.frames) (hR2 : 40 ≤ R.locals) (hcs : cells ≤ R.cells ∧ slots ≤ R.slots) (hrest : (rest.map fun v => v.category).sum ≤ 8) (hdg : decode cc pc = .ok (.invokevirtual index, 3))
    (kk : W p l e R s m args below meth c H locs cells slots Q (F0 m (pc + 3) ls (.int v :: rest))) : W p l e R s m args below meth c H locs cells slots Q (F0 m pc ls (.ref (sK g i) :: rest)) :=
  n_callT C hS hls M hi (n_length l g A hi hv) ⟨hR1, hR2⟩ hcs hrest hdg rfl kk
