/-! The frame: a clean heap (address to kind and payload), one world for all methods, and rows that walk over it. -/
abbrev CE : Type := Nat × (List Value ⊕ vp_A)
abbrev HP : Type := Nat → CE
abbrev GG : Type := va_G × (Nat → ClassId)
def jk : CE := (999, .inl [])
def ceE (AK : Nat → ClassId) (x : CE) : va_E := match x.2 with
  | .inl fs => .inr (x.1, fs)
  | .inr a => .inl (AK x.1, a)
abbrev wl (g : GG) (L : List Nat) (h : HP) : va_W := va_pl L (fun a => ceE g.2 (h a))
def NW (U : State) : Prop := ∀ q ∈ nests, va_Nw (.methodLinkNest q.1 q.2.1 q.2.2.1 q.2.2.2) U
def HW (g : GG) (L : List Nat) (h : HP) (U : State) : Prop := va_P g.1 classes (wl g L h) U.heap ∧ va_K g.1 classes (tysOf g.2) U ∧ va_D (fun q => q ∈ L) (wl g L h) ∧ (∀ a, h a ≠ jk → a ∈ L) ∧ NW U
def WD (g : GG) (L : List Nat) (h : HP) (H0 H : Heap) (locs : List Loc) : Prop := va_P g.1 classes (wl g L h) H ∧ va_D (fun q => q ∈ L) (wl g L h) ∧ va_S (fun q => q ∈ L) H0 H locs ∧ ∀ a, h a ≠ jk → a ∈ L
def Qq (g : GG) (L : List Nat) (r : Option Value) (h : HP) : Array Value → State → Outcome → State → Prop := fun _ st oc t => oc = .returned r ∧ HW g L h t ∧ va_F (fun q => q ∈ L) st t
def Ct (l : Launch) (g : GG) (L : List Nat) (y : MethodName) (cw : Cond) (rm : Room) (av : List Value) (h : HP) (r : Option Value) (h' : HP) : Prop := Met l y (cw :: ALL) rm (va_Pc av (HW g L h)) (Qq g L r h') 0 0 (fun q => q ∈ L)
def CX (g : GG) (own : String) (cc : ByteArray) (nL : Nat) (ret : Option FieldType) (p : Program) (s : State) (m : MethodId) (args : Array Value) (meth : Method) (c : Code) : Prop :=
  p.tables.exec = Jvm.exec ∧ c.code = cc ∧ c.maxLocals = nL ∧ s.vm.findClass own = some m.cls ∧ (∀ w ∈ ALL, w.before args s = true) ∧ meth.sig.returnType = ret ∧ meth.locks = false ∧ va_K g.1 classes (tysOf g.2) s ∧ NW s
def rmS (f lo : Nat) : Room := { frames := f, cells := 0, slots := 0, locals := lo }
theorem rm_ok {f lo mL f' lo' : Nat} (h1 : f + 1 ≤ f') (h2 : 8 + (mL + 11) + lo ≤ lo') : (rmS f lo).frames + 1 ≤ (rmS f' lo').frames ∧ 8 + (mL + 11) + (rmS f lo).locals ≤ (rmS f' lo').locals := ⟨h1, h2⟩
-- the clean heap's reads and writes; none: not of that kind, or out of bounds
def gV (h : HP) (a k i : Nat) : Option Value := match h a with
  | (k', .inl fs) => if k' = k then fs[i]? else none
  | (_, .inr _) => none
def gI (h : HP) (a k i : Nat) : Option Int32 := match gV h a k i with
  | some (.int x) => some x
  | _ => none
def gL (h : HP) (a k i : Nat) : Option Int64 := match gV h a k i with
  | some (.long x) => some x
  | _ => none
def gR (h : HP) (a k i : Nat) : Option Nat := match gV h a k i with
  | some (.ref x) => some x
  | _ => none
def pV (h : HP) (a k i : Nat) (v : Value) : Option HP := match h a with
  | (k', .inl fs) => if k' = k ∧ i < fs.length then some (va_up h a (k, .inl (fs.set i v))) else none
  | (_, .inr _) => none
def pI (h : HP) (a k i : Nat) (x : Int32) : Option HP := pV h a k i (.int x)
def pL (h : HP) (a k i : Nat) (x : Int64) : Option HP := pV h a k i (.long x)
def pR (h : HP) (a k i : Nat) (x : Nat) : Option HP := pV h a k i (.ref x)
def kd (h : HP) (a k : Nat) : Option Unit := match h a with
  | (k', .inl fs) => if k' = k ∧ k < 999 then some () else none
  | (_, .inr _) => none
def aA (h : HP) (a k : Nat) : Option vp_A := match h a with
  | (k', .inr x) => if k' = k then some x else none
  | (_, .inl _) => none
def aN (h : HP) (a k : Nat) : Option Int32 := (aA h a k).bind fun x => some (Int32.ofNat x.1)
def aI (h : HP) (a k : Nat) (i : Int32) : Option Int32 := match aA h a k with
  | some (n, .inl f) => if i < 0 ∨ n ≤ i.toNatClampNeg then none else some (f i.toNatClampNeg)
  | _ => none
def aL (h : HP) (a k : Nat) (i : Int32) : Option Int64 := match aA h a k with
  | some (n, .inr (.inl f)) => if i < 0 ∨ n ≤ i.toNatClampNeg then none else some (f i.toNatClampNeg)
  | _ => none
def aR (h : HP) (a k : Nat) (i : Int32) : Option Nat := match aA h a k with
  | some (n, .inr (.inr (.inr (.inr f)))) => if i < 0 ∨ n ≤ i.toNatClampNeg then none else f i.toNatClampNeg
  | _ => none
def uI (h : HP) (a k : Nat) (i x : Int32) : Option HP := match aA h a k with
  | some (n, .inl f) => if i < 0 ∨ n ≤ i.toNatClampNeg then none else some (va_up h a (k, .inr (n, .inl (upd f i.toNatClampNeg x))))
  | _ => none
def uL (h : HP) (a k : Nat) (i : Int32) (x : Int64) : Option HP := match aA h a k with
  | some (n, .inr (.inl f)) => if i < 0 ∨ n ≤ i.toNatClampNeg then none else some (va_up h a (k, .inr (n, .inr (.inl (vp_updL f i.toNatClampNeg x)))))
  | _ => none
def zr (x : Int32) : Option Unit := if x = 0 ∨ x = 1 then some () else none
theorem zr_n {x : Int32} {u : Unit} (h : zr x = some u) : narrow .boolean (.int x) = .int x := by
  unfold zr at h
  split at h
  · rename_i q
    rcases q with rfl | rfl <;> rfl
  · cases h
theorem zr_b {x : Int32} {u : Unit} (h : zr x = some u) : x = 0 ∨ x = 1 := by
  unfold zr at h
  split at h
  · assumption
  · cases h
-- what a hypothesis 's = some z' gives
theorem no_s {α : Type} {z : α} (h : (none : Option α) = some z) : False := by cases h
theorem ob {α β : Type} {x : Option α} {f : α → Option β} {z : β} (h : x.bind f = some z) : ∃ y, x = some y ∧ f y = some z := by
  cases x with
  | none => cases h
  | some y => exact ⟨y, rfl, h⟩
theorem oi_t {α : Type} {c : Prop} [Decidable c] {A B : Option α} {z : α} (h : c) (q : (if c then A else B) = some z) : A = some z := by rw [if_pos h] at q; exact q
theorem oi_f {α : Type} {c : Prop} [Decidable c] {A B : Option α} {z : α} (h : ¬ c) (q : (if c then A else B) = some z) : B = some z := by rw [if_neg h] at q; exact q
theorem by_c {c X : Prop} (f : c → X) (g : ¬ c → X) : X := (Classical.em c).elim f g
theorem iinc_e (x : Int32) {a b : Int32} (h : a = b) : x + a = x + b := by rw [h]
theorem tb_out {x lo hi : Int} (h : x < lo ∨ hi < x) : x < lo ∨ hi < x := h
theorem gV_inv {h : HP} {a k i : Nat} {v : Value} (e : gV h a k i = some v) : ∃ fs, h a = (k, .inl fs) ∧ fs[i]? = some v := by
  unfold gV at e
  split at e
  · rename_i k' fs hx
    split at e
    · rename_i hk
      subst hk
      exact ⟨fs, hx, e⟩
    · cases e
  · cases e
theorem gI_inv {h : HP} {a k i : Nat} {x : Int32} (e : gI h a k i = some x) : gV h a k i = some (.int x) := by
  unfold gI at e
  split at e
  · rename_i y hy
    cases e
    exact hy
  · cases e
theorem gL_inv {h : HP} {a k i : Nat} {x : Int64} (e : gL h a k i = some x) : gV h a k i = some (.long x) := by
  unfold gL at e
  split at e
  · rename_i y hy
    cases e
    exact hy
  · cases e
theorem gR_inv {h : HP} {a k i : Nat} {x : Nat} (e : gR h a k i = some x) : gV h a k i = some (.ref x) := by
  unfold gR at e
  split at e
  · rename_i y hy
    cases e
    exact hy
  · cases e
theorem pV_inv {h h' : HP} {a k i : Nat} {v : Value} (e : pV h a k i v = some h') : ∃ fs, h a = (k, .inl fs) ∧ i < fs.length ∧ h' = va_up h a (k, .inl (fs.set i v)) := by
  unfold pV at e
  split at e
  · rename_i k' fs hx
    split at e
    · rename_i hk
      obtain ⟨rfl, hi⟩ := hk
      cases e
      exact ⟨fs, hx, hi, rfl⟩
    · cases e
  · cases e
theorem kd_inv {h : HP} {a k : Nat} {u : Unit} (e : kd h a k = some u) : k < 999 ∧ ∃ fs, h a = (k, .inl fs) := by
  unfold kd at e
  split at e
  · rename_i k' fs hx
    split at e
    · rename_i hk
      obtain ⟨rfl, hi⟩ := hk
      exact ⟨hi, fs, hx⟩
    · cases e
  · cases e
theorem aA_inv {h : HP} {a k : Nat} {x : vp_A} (e : aA h a k = some x) : h a = (k, .inr x) := by
  unfold aA at e
  split at e
  · rename_i k' y hx
    split at e
    · rename_i hk
      subst hk
      cases e
      exact hx
    · cases e
  · cases e
theorem aN_inv {h : HP} {a k : Nat} {v : Int32} (e : aN h a k = some v) : ∃ x : vp_A, h a = (k, .inr x) ∧ Int32.ofNat x.1 = v := by
  obtain ⟨x, h1, h2⟩ := ob e
  exact ⟨x, aA_inv h1, Option.some.inj h2⟩
theorem aI_inv {h : HP} {a k : Nat} {i v : Int32} (e : aI h a k i = some v) : ∃ n f, h a = (k, .inr (n, .inl f)) ∧ vp_in i n ∧ f i.toNatClampNeg = v := by
  unfold aI at e
  split at e
  · rename_i n f hx
    split at e
    · cases e
    · rename_i hi
      exact ⟨n, f, aA_inv hx, hi, Option.some.inj e⟩
  · cases e
theorem aL_inv {h : HP} {a k : Nat} {i : Int32} {v : Int64} (e : aL h a k i = some v) : ∃ n f, h a = (k, .inr (n, .inr (.inl f))) ∧ vp_in i n ∧ f i.toNatClampNeg = v := by
  unfold aL at e
  split at e
  · rename_i n f hx
    split at e
    · cases e
    · rename_i hi
      exact ⟨n, f, aA_inv hx, hi, Option.some.inj e⟩
  · cases e
theorem aR_inv {h : HP} {a k : Nat} {i : Int32} {v : Nat} (e : aR h a k i = some v) : ∃ n f, h a = (k, .inr (n, .inr (.inr (.inr (.inr f))))) ∧ vp_in i n ∧ f i.toNatClampNeg = some v := by
  unfold aR at e
  split at e
  · rename_i n f hx
    split at e
    · cases e
    · rename_i hi
      exact ⟨n, f, aA_inv hx, hi, e⟩
  · cases e
theorem uI_inv {h h' : HP} {a k : Nat} {i x : Int32} (e : uI h a k i x = some h') : ∃ n f, h a = (k, .inr (n, .inl f)) ∧ vp_in i n ∧ h' = va_up h a (k, .inr (n, .inl (upd f i.toNatClampNeg x))) := by
  unfold uI at e
  split at e
  · rename_i n f hx
    split at e
    · cases e
    · rename_i hi
      exact ⟨n, f, aA_inv hx, hi, (Option.some.inj e).symm⟩
  · cases e
theorem uL_inv {h h' : HP} {a k : Nat} {i : Int32} {x : Int64} (e : uL h a k i x = some h') : ∃ n f, h a = (k, .inr (n, .inr (.inl f))) ∧ vp_in i n ∧ h' = va_up h a (k, .inr (n, .inr (.inl (vp_updL f i.toNatClampNeg x)))) := by
  unfold uL at e
  split at e
  · rename_i n f hx
    split at e
    · cases e
    · rename_i hi
      exact ⟨n, f, aA_inv hx, hi, (Option.some.inj e).symm⟩
  · cases e
-- the world
theorem jk_o {k : Nat} {fs : List Value} {i : Nat} {v : Value} (h : fs[i]? = some v) : ((k, .inl fs) : CE) ≠ jk := by
  intro q
  have q2 : (Sum.inl fs : List Value ⊕ vp_A) = Sum.inl [] := congrArg Prod.snd q
  cases q2
  simp at h
theorem jk_k {k : Nat} {fs : List Value} (h : k < 999) : ((k, .inl fs) : CE) ≠ jk := by
  intro q
  have q2 : k = 999 := congrArg Prod.fst q
  omega
theorem jk_a {k : Nat} {x : vp_A} : ((k, .inr x) : CE) ≠ jk := by
  intro q
  have q2 : (Sum.inr x : List Value ⊕ vp_A) = Sum.inl [] := congrArg Prod.snd q
  cases q2
theorem WD.cell {g : GG} {L : List Nat} {h : HP} {H0 H : Heap} {locs : List Loc} (hw : WD g L h H0 H locs) {a : Nat} {x : CE} (hx : h a = x) (hn : x ≠ jk) : ∃ k : Nat, (wl g L h)[k]? = some (a, ceE g.2 x) := by
  subst hx
  exact va_pl_get (X := []) (f := fun a => ceE g.2 (h a)) (hw.2.2.2 a hn)
theorem wl_up {g : GG} {h : HP} {a : Nat} {x : CE} : va_up (fun a => ceE g.2 (h a)) a (ceE g.2 x) = fun b => ceE g.2 (va_up h a x b) := by
  funext b
  unfold va_up
  by_cases hb : b = a
  · simp [hb]
  · simp [hb]
theorem WD.upd {g : GG} {L : List Nat} {h : HP} {H0 H H1 : Heap} {locs locs1 : List Loc} (hw : WD g L h H0 H locs) {a q0 : Nat} {x x' : CE} {E : va_E} (hx : h a = x) (hn : x ≠ jk) (he : (wl g L h)[q0]? = some (a, ceE g.2 x)) (hE : ceE g.2 x' = E)
    (hP : va_P g.1 classes ((wl g L h).set q0 (a, E)) H1) (hD : va_D (fun q => q ∈ L) ((wl g L h).set q0 (a, E))) (hS : va_S (fun q => q ∈ L) H0 H1 locs1) : WD g L (va_up h a x') H0 H1 locs1 := by
  subst hE
  have ha : a ∈ L := hw.2.2.2 a (by rw [hx]; exact hn)
  have e1 : (wl g L h).set q0 (a, ceE g.2 x') = wl g L (va_up h a x') := by
    have e2 := va_pl_set (X := []) (f := fun a => ceE g.2 (h a)) (e := ceE g.2 x') (k := q0) hw.2.1 ha (by rw [hx]; exact he)
    rw [wl_up] at e2
    exact e2
  rw [e1] at hP hD
  refine ⟨hP, hD, hS, fun b hb => ?_⟩
  by_cases hba : b = a
  · rw [hba]; exact ha
  · unfold va_up at hb
    rw [if_neg hba] at hb
    exact hw.2.2.2 b hb
