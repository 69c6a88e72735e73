/-! The frame: a clean heap (address to kind and payload), one world for all methods, and rows that walk over it. -/
abbrev CE : Type := Nat × (List Value ⊕ vp_A)
abbrev HP : Type := Nat → CE
abbrev GG : Type := va_G × (Nat → ClassId) × (Nat → Nat) × (Nat → Nat) × Option Nat
def jk : CE := (999, .inl [])
def ceE (AK : Nat → ClassId) (x : CE) : va_E := match x.2 with
  | .inl fs => .inr (x.1, fs)
  | .inr a => .inl (AK x.1, a)
abbrev wl (g : GG) (L : List Nat) (h : HP) : va_W := va_pl L (fun a => ceE g.2.1 (h a))
def NW (U : State) : Prop := ∀ q ∈ nests, va_Nw (.methodLinkNest q.1 q.2.1 q.2.2.1 q.2.2.2) U
/-- what lies beside the pool and never changes: nest words, the String constants (by their places), two statics of the JDK -/
def EX (g : GG) (A : Nat → Prop) (U : State) : Prop := NW U ∧ vk_S nS lenS bytS g.2.2.1 g.2.2.2.1 A U U.heap ∧ (∀ i, i < nS → vk_R (ownS i) (ixS i) (txS i) (g.2.2.1 i) U) ∧ va_Z "java/lang/String" "COMPACT_STRINGS" "Z" (.int 1) A U U.heap ∧ va_Z "jdk/internal/util/Preconditions" "SIOOBE_FORMATTER" "Ljava/util/function/BiFunction;" (va_rf g.2.2.2.2) A U U.heap
def HW (g : GG) (L : List Nat) (h : HP) (U : State) : Prop := va_P g.1 classes (wl g L h) U.heap ∧ va_K g.1 classes (tysOf g.2.1) U ∧ va_D (fun _ => True) (wl g L h) ∧ (∀ a, h a ≠ jk → a ∈ L) ∧ EX g (fun q => q ∈ L) U
def WDA (g : GG) (A : Nat → Prop) (L : List Nat) (h : HP) (H0 H : Heap) (locs : List Loc) : Prop := va_P g.1 classes (wl g L h) H ∧ va_D A (wl g L h) ∧ va_S A H0 H locs ∧ ∀ a, h a ≠ jk → a ∈ L
abbrev WD (g : GG) (L : List Nat) (h : HP) (H0 H : Heap) (locs : List Loc) : Prop := WDA g (fun q => q ∈ L) L h H0 H locs
def Qq (g : GG) (L : List Nat) (r : Option Value) (h : HP) : Array Value → State → Outcome → State → Prop := fun _ st oc t => oc = .returned r ∧ HW g L h t ∧ va_F (fun q => q ∈ L) st t
def Ct (l : Launch) (g : GG) (L : List Nat) (y : MethodName) (cw : Cond) (rm : Room) (av : List Value) (h : HP) (r : Option Value) (h' : HP) : Prop := Met l y (cw :: ALL) rm (va_Pc av (HW g L h)) (Qq g L r h') 0 0 (fun q => q ∈ L)
def CXA (g : GG) (A : Nat → Prop) (own : String) (cc : ByteArray) (nL : Nat) (ret : Option FieldType) (p : Program) (s : State) (m : MethodId) (args : Array Value) (meth : Method) (c : Code) : Prop :=
  p.tables.exec = Jvm.exec ∧ c.code = cc ∧ c.maxLocals = nL ∧ s.vm.findClass own = some m.cls ∧ (∀ w ∈ ALL, w.before args s = true) ∧ meth.sig.returnType = ret ∧ meth.locks = false ∧ va_K g.1 classes (tysOf g.2.1) s ∧ EX g A s
abbrev CX (g : GG) (L : List Nat) (own : String) (cc : ByteArray) (nL : Nat) (ret : Option FieldType) (p : Program) (s : State) (m : MethodId) (args : Array Value) (meth : Method) (c : Code) : Prop := CXA g (fun q => q ∈ L) own cc nL ret p s m args meth c
def rmS (f lo : Nat) : Room := { frames := f, cells := 0, slots := 0, locals := lo }
theorem rm_ok {f lo mL f' lo' : Nat} (h1 : f + 1 ≤ f') (h2 : 8 + (mL + 11) + lo ≤ lo') : (rmS f lo).frames + 1 ≤ (rmS f' lo').frames ∧ 8 + (mL + 11) + (rmS f lo).locals ≤ (rmS f' lo').locals := ⟨h1, h2⟩
-- the clean heap's reads and writes; none: not of that kind, or out of bounds
def gV (h : HP) (a k i : Nat) : Option Value := match h a with
  | (k', .inl fs) => if k' = k then fs[i]? else none
  | (_, .inr _) => none
def gI (h : HP) (a k i : Nat) : Option Int32 := match gV h a k i with
  | some (.int x) => some x
  | _ => none
def gL (h : HP) (a k i : Nat) : Option Int64 := match gV h a k i with
  | some (.long x) => some x
  | _ => none
def gR (h : HP) (a k i : Nat) : Option Nat := match gV h a k i with
  | some (.ref x) => some x
  | _ => none
def pV (h : HP) (a k i : Nat) (v : Value) : Option HP := match h a with
  | (k', .inl fs) => if k' = k ∧ i < fs.length then some (va_up h a (k, .inl (fs.set i v))) else none
  | (_, .inr _) => none
def pI (h : HP) (a k i : Nat) (x : Int32) : Option HP := pV h a k i (.int x)
def pL (h : HP) (a k i : Nat) (x : Int64) : Option HP := pV h a k i (.long x)
def pR (h : HP) (a k i : Nat) (x : Nat) : Option HP := pV h a k i (.ref x)
def kd (h : HP) (a k : Nat) : Option Unit := match h a with
  | (k', .inl fs) => if k' = k ∧ k < 999 then some () else none
  | (_, .inr _) => none
def aA (h : HP) (a k : Nat) : Option vp_A := match h a with
  | (k', .inr x) => if k' = k then some x else none
  | (_, .inl _) => none
def aN (h : HP) (a k : Nat) : Option Int32 := (aA h a k).bind fun x => some (Int32.ofNat x.1)
def aI (h : HP) (a k : Nat) (i : Int32) : Option Int32 := match aA h a k with
  | some (n, .inl f) => if i < 0 ∨ n ≤ i.toNatClampNeg then none else some (f i.toNatClampNeg)
  | _ => none
def aL (h : HP) (a k : Nat) (i : Int32) : Option Int64 := match aA h a k with
  | some (n, .inr (.inl f)) => if i < 0 ∨ n ≤ i.toNatClampNeg then none else some (f i.toNatClampNeg)
  | _ => none
def aR (h : HP) (a k : Nat) (i : Int32) : Option Nat := match aA h a k with
  | some (n, .inr (.inr (.inr (.inr f)))) => if i < 0 ∨ n ≤ i.toNatClampNeg then none else f i.toNatClampNeg
  | _ => none
def uI (h : HP) (a k : Nat) (i x : Int32) : Option HP := match aA h a k with
  | some (n, .inl f) => if i < 0 ∨ n ≤ i.toNatClampNeg then none else some (va_up h a (k, .inr (n, .inl (upd f i.toNatClampNeg x))))
  | _ => none
def uL (h : HP) (a k : Nat) (i : Int32) (x : Int64) : Option HP := match aA h a k with
  | some (n, .inr (.inl f)) => if i < 0 ∨ n ≤ i.toNatClampNeg then none else some (va_up h a (k, .inr (n, .inr (.inl (vp_updL f i.toNatClampNeg x)))))
  | _ => none
def sG (x : Nat) : Option Unit := if x < nS then some () else none
def sN (x : Nat) : Option Int32 := if x < nS then some (Int32.ofNat (lenS.getD x 0)) else none
def sB (x : Nat) (i : Int32) : Option Int32 := if x < nS then (if i < 0 ∨ lenS.getD x 0 ≤ i.toNatClampNeg then none else some ((bytS.getD x []).getD i.toNatClampNeg 0)) else none
def zr (x : Int32) : Option Unit := if x = 0 ∨ x = 1 then some () else none
theorem zr_n {x : Int32} {u : Unit} (h : zr x = some u) : narrow .boolean (.int x) = .int x := by
  unfold zr at h
  split at h
  · rename_i q
    rcases q with rfl | rfl <;> rfl
  · cases h
theorem zr_b {x : Int32} {u : Unit} (h : zr x = some u) : x = 0 ∨ x = 1 := by
  unfold zr at h
  split at h
  · assumption
  · cases h
-- what a hypothesis 's = some z' gives
theorem no_s {α : Type} {z : α} (h : (none : Option α) = some z) : False := by cases h
theorem ob {α β : Type} {x : Option α} {f : α → Option β} {z : β} (h : x.bind f = some z) : ∃ y, x = some y ∧ f y = some z := by
  cases x with
  | none => cases h
  | some y => exact ⟨y, rfl, h⟩
theorem oi_t {α : Type} {c : Prop} [Decidable c] {A B : Option α} {z : α} (h : c) (q : (if c then A else B) = some z) : A = some z := by rw [if_pos h] at q; exact q
theorem oi_f {α : Type} {c : Prop} [Decidable c] {A B : Option α} {z : α} (h : ¬ c) (q : (if c then A else B) = some z) : B = some z := by rw [if_neg h] at q; exact q
theorem by_c {c X : Prop} (f : c → X) (g : ¬ c → X) : X := (Classical.em c).elim f g
theorem iinc_e (x : Int32) {a b : Int32} (h : a = b) : x + a = x + b := by rw [h]
theorem tb_out {x lo hi : Int} (h : x < lo ∨ hi < x) : x < lo ∨ hi < x := h
theorem gV_inv {h : HP} {a k i : Nat} {v : Value} (e : gV h a k i = some v) : ∃ fs, h a = (k, .inl fs) ∧ fs[i]? = some v := by
  unfold gV at e
  split at e
  · rename_i k' fs hx
    split at e
    · rename_i hk
      subst hk
      exact ⟨fs, hx, e⟩
    · cases e
  · cases e
theorem gI_inv {h : HP} {a k i : Nat} {x : Int32} (e : gI h a k i = some x) : gV h a k i = some (.int x) := by
  unfold gI at e
  split at e
  · rename_i y hy
    cases e
    exact hy
  · cases e
theorem gL_inv {h : HP} {a k i : Nat} {x : Int64} (e : gL h a k i = some x) : gV h a k i = some (.long x) := by
  unfold gL at e
  split at e
  · rename_i y hy
    cases e
    exact hy
  · cases e
theorem gR_inv {h : HP} {a k i : Nat} {x : Nat} (e : gR h a k i = some x) : gV h a k i = some (.ref x) := by
  unfold gR at e
  split at e
  · rename_i y hy
    cases e
    exact hy
  · cases e
theorem pV_inv {h h' : HP} {a k i : Nat} {v : Value} (e : pV h a k i v = some h') : ∃ fs, h a = (k, .inl fs) ∧ i < fs.length ∧ h' = va_up h a (k, .inl (fs.set i v)) := by
  unfold pV at e
  split at e
  · rename_i k' fs hx
    split at e
    · rename_i hk
      obtain ⟨rfl, hi⟩ := hk
      cases e
      exact ⟨fs, hx, hi, rfl⟩
    · cases e
  · cases e
theorem kd_inv {h : HP} {a k : Nat} {u : Unit} (e : kd h a k = some u) : k < 999 ∧ ∃ fs, h a = (k, .inl fs) := by
  unfold kd at e
  split at e
  · rename_i k' fs hx
    split at e
    · rename_i hk
      obtain ⟨rfl, hi⟩ := hk
      exact ⟨hi, fs, hx⟩
    · cases e
  · cases e
theorem aA_inv {h : HP} {a k : Nat} {x : vp_A} (e : aA h a k = some x) : h a = (k, .inr x) := by
  unfold aA at e
  split at e
  · rename_i k' y hx
    split at e
    · rename_i hk
      subst hk
      cases e
      exact hx
    · cases e
  · cases e
theorem aN_inv {h : HP} {a k : Nat} {v : Int32} (e : aN h a k = some v) : ∃ x : vp_A, h a = (k, .inr x) ∧ Int32.ofNat x.1 = v := by
  obtain ⟨x, h1, h2⟩ := ob e
  exact ⟨x, aA_inv h1, Option.some.inj h2⟩
theorem aI_inv {h : HP} {a k : Nat} {i v : Int32} (e : aI h a k i = some v) : ∃ n f, h a = (k, .inr (n, .inl f)) ∧ vp_in i n ∧ f i.toNatClampNeg = v := by
  unfold aI at e
  split at e
  · rename_i n f hx
    split at e
    · cases e
    · rename_i hi
      exact ⟨n, f, aA_inv hx, hi, Option.some.inj e⟩
  · cases e
theorem aL_inv {h : HP} {a k : Nat} {i : Int32} {v : Int64} (e : aL h a k i = some v) : ∃ n f, h a = (k, .inr (n, .inr (.inl f))) ∧ vp_in i n ∧ f i.toNatClampNeg = v := by
  unfold aL at e
  split at e
  · rename_i n f hx
    split at e
    · cases e
    · rename_i hi
      exact ⟨n, f, aA_inv hx, hi, Option.some.inj e⟩
  · cases e
theorem aR_inv {h : HP} {a k : Nat} {i : Int32} {v : Nat} (e : aR h a k i = some v) : ∃ n f, h a = (k, .inr (n, .inr (.inr (.inr (.inr f))))) ∧ vp_in i n ∧ f i.toNatClampNeg = some v := by
  unfold aR at e
  split at e
  · rename_i n f hx
    split at e
    · cases e
    · rename_i hi
      exact ⟨n, f, aA_inv hx, hi, e⟩
  · cases e
theorem uI_inv {h h' : HP} {a k : Nat} {i x : Int32} (e : uI h a k i x = some h') : ∃ n f, h a = (k, .inr (n, .inl f)) ∧ vp_in i n ∧ h' = va_up h a (k, .inr (n, .inl (upd f i.toNatClampNeg x))) := by
  unfold uI at e
  split at e
  · rename_i n f hx
    split at e
    · cases e
    · rename_i hi
      exact ⟨n, f, aA_inv hx, hi, (Option.some.inj e).symm⟩
  · cases e
theorem uL_inv {h h' : HP} {a k : Nat} {i : Int32} {x : Int64} (e : uL h a k i x = some h') : ∃ n f, h a = (k, .inr (n, .inr (.inl f))) ∧ vp_in i n ∧ h' = va_up h a (k, .inr (n, .inr (.inl (vp_updL f i.toNatClampNeg x)))) := by
  unfold uL at e
  split at e
  · rename_i n f hx
    split at e
    · cases e
    · rename_i hi
      exact ⟨n, f, aA_inv hx, hi, (Option.some.inj e).symm⟩
  · cases e
-- the world
theorem sG_inv {x : Nat} {u : Unit} (h : sG x = some u) : x < nS := by
  unfold sG at h
  split at h
  · assumption
  · cases h
theorem sN_inv {x : Nat} {v : Int32} (h : sN x = some v) : x < nS ∧ Int32.ofNat (lenS.getD x 0) = v := by
  unfold sN at h
  split at h
  · exact ⟨by assumption, Option.some.inj h⟩
  · cases h
theorem sB_inv {x : Nat} {i v : Int32} (h : sB x i = some v) : x < nS ∧ vp_in i (lenS.getD x 0) ∧ (bytS.getD x []).getD i.toNatClampNeg 0 = v := by
  unfold sB at h
  split at h
  · split at h
    · cases h
    · exact ⟨by assumption, by assumption, Option.some.inj h⟩
  · cases h
def cr (x : Int32) : Option Unit := if narrow .char (.int x) = .int x then some () else none
theorem cr_n {x : Int32} {u : Unit} (h : cr x = some u) : narrow .char (.int x) = .int x := by
  unfold cr at h
  split at h
  · assumption
  · cases h
def byr (x : Int32) : Option Unit := if narrow .byte (.int x) = .int x then some () else none
theorem byr_n {x : Int32} {u : Unit} (h : byr x = some u) : narrow .byte (.int x) = .int x := by
  unfold byr at h
  split at h
  · assumption
  · cases h
theorem jk_o {k : Nat} {fs : List Value} {i : Nat} {v : Value} (h : fs[i]? = some v) : ((k, .inl fs) : CE) ≠ jk := by
  intro q
  have q2 : (Sum.inl fs : List Value ⊕ vp_A) = Sum.inl [] := congrArg Prod.snd q
  cases q2
  simp at h
theorem jk_k {k : Nat} {fs : List Value} (h : k < 999) : ((k, .inl fs) : CE) ≠ jk := by
  intro q
  have q2 : k = 999 := congrArg Prod.fst q
  omega
theorem jk_a {k : Nat} {x : vp_A} : ((k, .inr x) : CE) ≠ jk := by
  intro q
  have q2 : (Sum.inr x : List Value ⊕ vp_A) = Sum.inl [] := congrArg Prod.snd q
  cases q2
theorem WDA.cell {g : GG} {A : Nat → Prop} {L : List Nat} {h : HP} {H0 H : Heap} {locs : List Loc} (hw : WDA g A L h H0 H locs) {a : Nat} {x : CE} (hx : h a = x) (hn : x ≠ jk) : ∃ k : Nat, (wl g L h)[k]? = some (a, ceE g.2.1 x) := by
  subst hx
  exact va_pl_get (X := []) (f := fun a => ceE g.2.1 (h a)) (hw.2.2.2 a hn)
theorem wl_in {g : GG} {L : List Nat} {h : HP} {k : Nat} {q : Nat × va_E} (hk : (wl g L h)[k]? = some q) : q.1 ∈ L := by
  obtain ⟨a, ha, e⟩ := List.mem_map.mp (List.mem_of_getElem? hk)
  rw [← e]
  exact ha
theorem wl_D {g : GG} {A : Nat → Prop} {L : List Nat} {h : HP} (hD : va_D A (wl g L h)) : va_D (fun q => q ∈ L) (wl g L h) := hD.weaken (fun _ _ hk _ => wl_in hk)
theorem wl_A {g : GG} {A : Nat → Prop} {L : List Nat} {h : HP} (hD : va_D A (wl g L h)) {q : Nat} (hq : q ∈ L) : A q := by
  obtain ⟨k, hk⟩ := va_pl_get (X := []) (f := fun a => ceE g.2.1 (h a)) hq
  exact hD.2 k (q, ceE g.2.1 (h q)) hk
theorem wl_up {g : GG} {h : HP} {a : Nat} {x : CE} : va_up (fun a => ceE g.2.1 (h a)) a (ceE g.2.1 x) = fun b => ceE g.2.1 (va_up h a x b) := by
  funext b
  unfold va_up
  by_cases hb : b = a
  · simp [hb]
  · simp [hb]
theorem WDA.upd {g : GG} {A : Nat → Prop} {L : List Nat} {h : HP} {H0 H H1 : Heap} {locs locs1 : List Loc} (hw : WDA g A L h H0 H locs) {a q0 : Nat} {x x' : CE} {E : va_E} (hx : h a = x) (hn : x ≠ jk) (he : (wl g L h)[q0]? = some (a, ceE g.2.1 x)) (hE : ceE g.2.1 x' = E)
    (hP : va_P g.1 classes ((wl g L h).set q0 (a, E)) H1) (hD : va_D A ((wl g L h).set q0 (a, E))) (hS : va_S A H0 H1 locs1) : WDA g A L (va_up h a x') H0 H1 locs1 := by
  subst hE
  have ha : a ∈ L := hw.2.2.2 a (by rw [hx]; exact hn)
  have e1 : (wl g L h).set q0 (a, ceE g.2.1 x') = wl g L (va_up h a x') := by
    have e2 := va_pl_set (X := []) (f := fun a => ceE g.2.1 (h a)) (e := ceE g.2.1 x') (k := q0) hw.2.1 ha (by rw [hx]; exact he)
    rw [wl_up] at e2
    exact e2
  rw [e1] at hP hD
  refine ⟨hP, hD, hS, fun b hb => ?_⟩
  by_cases hba : b = a
  · rw [hba]; exact ha
  · unfold va_up at hb
    rw [if_neg hba] at hb
    exact hw.2.2.2 b hb
-- what lies beside the pool
theorem EX.narrow {g : GG} {A B : Nat → Prop} {U : State} (h : EX g A U) (hAB : ∀ q, B q → A q) : EX g B U := ⟨h.1, h.2.1.narrow hAB, h.2.2.1, h.2.2.2.1.narrow hAB, h.2.2.2.2.narrow hAB⟩
theorem EX.go {g : GG} {A : Nat → Prop} {s t : State} {H : Heap} {locs : List Loc} (h : EX g A s) (hS : va_S A s.heap H locs) (ht : t.heap = H) (hW : s.WarmedH t.vm) : EX g A t := by
  obtain ⟨h1, h2, h3, h4, h5⟩ := h
  subst ht
  exact ⟨fun q hq => va_Nw.warmM hW (h1 q hq), (h2.kept hS.2.1).moved hW.alike, fun i hi => vk_R.warm hW (h3 i hi), (h4.kept hS.2.1).moved hW.alike, (h5.kept hS.2.1).moved hW.alike⟩
theorem EX.calling {g : GG} {A : Nat → Prop} {U : State} {g' : JFrame} {mk : MethodId} {a : Array Value} (h : EX g A U) : EX g A (U.calling g' mk a) := by
  obtain ⟨h1, h2, h3, h4, h5⟩ := h
  exact ⟨fun q hq => va_Nw.same rfl rfl (h1 q hq), vk_S.moved (u := U) (U := U.calling g' mk a) (Vm.Alike.refl U.vm) h2, fun i hi => vk_R.same rfl (h3 i hi), va_Z.moved (u := U) (U := U.calling g' mk a) (Vm.Alike.refl U.vm) h4, va_Z.moved (u := U) (U := U.calling g' mk a) (Vm.Alike.refl U.vm) h5⟩
