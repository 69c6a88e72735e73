/-- the class of an object, by its name; 999: none -/
def kO (n : Nat) : Nat := if 100 ≤ n ∧ n < 166 then (if (n - 100) % 3 = 0 then 0 else 999) else match n with
  | 0 => 8
  | 3 => 2
  | 4 => 3
  | 5 => 4
  | 6 => 7
  | 11 => 5
  | 12 => 6
  | 17 => 1
  | 18 => 1
  | 19 => 1
  | 20 => 1
  | 200 => 9
  | _ => 999
/-- its fields: 0 an int, 1 a long, 2 the one reference that changes, 3 and more a name -/
def fO (n : Nat) : List Nat := if 100 ≤ n ∧ n < 166 then [n + 4, n + 5, 0] else match n with
  | 0 => [4, 103, 5, 6, 7, 8, 9]
  | 3 => [10, 11, 0]
  | 4 => [103, 5, 12, 0, 0, 0]
  | 5 => [5, 13, 0]
  | 6 => [103, 5, 6, 106, 14, 15, 18, 19, 0]
  | 11 => [16, 2, 0]
  | 12 => [103, 17]
  | 17 => [109, 0]
  | 18 => [112, 0]
  | 19 => [115, 0]
  | 20 => [118, 0]
  | 200 => [204, 0, 205, 206, 0, 207, 208, 0, 209, 210, 211, 212, 0, 213, 214, 0, 0, 0, 215, 216, 217, 218, 219, 220, 221, 1, 222, 223, 224, 225, 226, 227, 228, 229, 230, 231]
  | _ => []
/-- the kind of an array; 999: none -/
def kA (n : Nat) : Nat := if 100 ≤ n ∧ n < 166 then (if (n - 100) % 3 = 1 then 1 else if (n - 100) % 3 = 2 then 0 else 999) else match n with
  | 1 => 2
  | 2 => 4
  | 7 => 3
  | 8 => 0
  | 9 => 0
  | 10 => 2
  | 13 => 0
  | 14 => 0
  | 15 => 0
  | 16 => 0
  | 201 => 0
  | 202 => 2
  | 203 => 0
  | 204 => 0
  | 205 => 0
  | 206 => 0
  | 207 => 0
  | 208 => 0
  | 209 => 0
  | 210 => 5
  | 211 => 0
  | 212 => 0
  | 213 => 0
  | 214 => 0
  | 215 => 0
  | 216 => 2
  | 217 => 2
  | 218 => 2
  | 219 => 0
  | 220 => 0
  | 221 => 0
  | 222 => 0
  | 223 => 0
  | 224 => 0
  | 225 => 0
  | 226 => 0
  | 227 => 0
  | 228 => 5
  | _ => 999
def lA (n : Nat) : Nat := if 100 ≤ n ∧ n < 166 then 60 else match n with
  | 1 => 8
  | 2 => 4
  | 7 => 16
  | 8 => 16
  | 9 => 8
  | 10 => 264
  | 13 => 8
  | 14 => 6
  | 15 => 6
  | 16 => 60
  | 201 => 1500
  | 202 => 8
  | 203 => 4
  | 204 => 16
  | 205 => 16
  | 206 => 200
  | 207 => 200
  | 208 => 200
  | 209 => 200
  | 210 => 64
  | 211 => 64
  | 212 => 32
  | 213 => 32
  | 214 => 32
  | 215 => 32
  | 216 => 32
  | 217 => 32
  | 218 => 32
  | 219 => 140
  | 220 => 7
  | 221 => 7
  | 222 => 8
  | 223 => 8
  | 224 => 8
  | 225 => 64
  | 226 => 6
  | 227 => 6
  | 228 => 64
  | _ => 0
/-- what an array of references holds -/
def eA (n i : Nat) : Nat := match n with
  | 2 => 17 + 1 * i
  | 7 => 118 + 3 * i
  | _ => 0
def names : List Nat := [0, 1, 2, 3, 4, 5, 6, 7, 8, 9, 10, 11, 12, 13, 14, 15, 16, 17, 18, 19, 20, 100, 101, 102, 103, 104, 105, 106, 107, 108, 109, 110, 111, 112, 113, 114, 115, 116, 117, 118, 119, 120, 121, 122, 123, 124, 125, 126, 127, 128, 129, 130, 131, 132, 133, 134, 135, 136, 137, 138, 139, 140, 141, 142, 143, 144, 145, 146, 147, 148, 149, 150, 151, 152, 153, 154, 155, 156, 157, 158, 159, 160, 161, 162, 163, 164, 165, 200, 201, 202, 203, 204, 205, 206, 207, 208, 209, 210, 211, 212, 213, 214, 215, 216, 217, 218, 219, 220, 221, 222, 223, 224, 225, 226, 227, 228]
theorem kO_in {a : Nat} (h : kO a ≠ 999) : a ∈ names := by
  by_cases ha : a < 229
  · exact (show ∀ a, a < 229 → kO a ≠ 999 → a ∈ names by decide +kernel) a ha h
  · exfalso
    apply h
    unfold kO
    rw [if_neg (by omega)]
    split <;> first | omega | rfl
theorem kA_in {a : Nat} (h : kA a ≠ 999) : a ∈ names := by
  by_cases ha : a < 229
  · exact (show ∀ a, a < 229 → kA a ≠ 999 → a ∈ names by decide +kernel) a ha h
  · exfalso
    apply h
    unfold kA
    rw [if_neg (by omega)]
    split <;> first | omega | rfl
theorem names_kind : ∀ n ∈ names, (kO n ≠ 999 ∧ kA n = 999) ∨ (kO n = 999 ∧ kA n ≠ 999) := by decide +kernel
theorem kO_kA {a : Nat} (h : kO a ≠ 999) : kA a = 999 := by
  rcases names_kind a (kO_in h) with q | q
  · exact q.2
  · exact absurd q.1 h
theorem kA_kO {a : Nat} (h : kA a ≠ 999) : kO a = 999 := by
  rcases names_kind a (kA_in h) with q | q
  · exact absurd q.2 h
  · exact q.1
/-! The frame: every cell of both objects has a name; the memory is flat: ints by name and place, longs by name and place, and the one reference that changes. One world for all methods, and rows that walk over it. -/
abbrev HP : Type := (Nat → Nat → Int32) × (Nat → Nat → Int64) × Nat
abbrev GG : Type := va_G × (Nat → ClassId) × (Nat → Nat) × (Nat → Nat) × Option Nat × (Nat → Nat)
abbrev aD (g : GG) (n : Nat) : Nat := g.2.2.2.2.2 n
abbrev sK (g : GG) (n : Nat) : Nat := g.2.2.1 n
abbrev sV (g : GG) (n : Nat) : Nat := g.2.2.2.1 n
def up2 {α : Type} (f : Nat → Nat → α) (n i : Nat) (x : α) : Nat → Nat → α := fun m j => if m = n ∧ j = i then x else f m j
def fV (ad : Nat → Nat) (h : HP) (n i c : Nat) : Value := if c = 0 then .int (h.1 n i) else if c = 1 then .long (h.2.1 n i) else if c = 2 then .ref (ad h.2.2) else .ref (ad (c - 3))
def fVs (ad : Nat → Nat) (h : HP) (n : Nat) : List Value := (fO n).mapIdx (fun i c => fV ad h n i c)
def aV (ad : Nat → Nat) (h : HP) (n : Nat) : vp_A := (lA n, if kA n = 2 then .inr (.inl (h.2.1 n)) else if kA n = 3 ∨ kA n = 4 then .inr (.inr (.inr (.inr (fun i => some (ad (eA n i)))))) else .inl (h.1 n))
def cG (g : GG) (h : HP) (n : Nat) : va_E := if kO n = 999 then .inl (g.2.1 (kA n), aV (aD g) h n) else .inr (kO n, fVs (aD g) h n)
abbrev wl (g : GG) (h : HP) : va_W := names.map (fun n => (aD g n, cG g h n))
def inA (g : GG) : Nat → Prop := fun q => ∃ n ∈ names, q = aD g n
theorem va_rf_cat (r : Option Nat) : (va_rf r).category = 1 := by cases r <;> rfl
def NW (U : State) : Prop := ∀ q ∈ nests, va_Nw (.methodLinkNest q.1 q.2.1 q.2.2.1 q.2.2.2) U
/-- what lies beside the world and never changes: nest words, the String constants (by their places), two statics of the JDK -/
def EX (g : GG) (A : Nat → Prop) (U : State) : Prop := NW U ∧ vk_S nS lenS bytS g.2.2.1 g.2.2.2.1 A U U.heap ∧ (∀ i, i < nS → vk_R (ownS i) (ixS i) (txS i) (g.2.2.1 i) U) ∧ va_Z "java/lang/String" "COMPACT_STRINGS" "Z" (.int 1) A U U.heap ∧ va_Z "jdk/internal/util/Preconditions" "SIOOBE_FORMATTER" "Ljava/util/function/BiFunction;" (va_rf g.2.2.2.2.1) A U U.heap
def HW (g : GG) (h : HP) (U : State) : Prop := va_P g.1 classes (wl g h) U.heap ∧ va_K g.1 classes (tysOf g.2.1) U ∧ va_D (fun _ => True) (wl g h) ∧ EX g (inA g) U
def WDA (g : GG) (A : Nat → Prop) (h : HP) (H0 H : Heap) (locs : List Loc) : Prop := va_P g.1 classes (wl g h) H ∧ va_D A (wl g h) ∧ va_S A H0 H locs
abbrev WD (g : GG) (h : HP) (H0 H : Heap) (locs : List Loc) : Prop := WDA g (inA g) h H0 H locs
def Qq (g : GG) (r : Option Value) (h : HP) : Array Value → State → Outcome → State → Prop := fun _ st oc t => oc = .returned r ∧ HW g h t ∧ va_F (inA g) st t
def Ct (l : Launch) (g : GG) (y : MethodName) (cw : Cond) (rm : Room) (av : List Value) (h : HP) (r : Option Value) (h' : HP) : Prop := Met l y (cw :: ALL) rm (va_Pc av (HW g h)) (Qq g r h') 0 0 (inA g)
def CXA (g : GG) (A : Nat → Prop) (own : String) (cc : ByteArray) (nL : Nat) (ret : Option FieldType) (p : Program) (s : State) (m : MethodId) (args : Array Value) (meth : Method) (c : Code) : Prop :=
  p.tables.exec = Jvm.exec ∧ c.code = cc ∧ c.maxLocals = nL ∧ s.vm.findClass own = some m.cls ∧ (∀ w ∈ ALL, w.before args s = true) ∧ meth.sig.returnType = ret ∧ meth.locks = false ∧ va_K g.1 classes (tysOf g.2.1) s ∧ EX g A s
abbrev CX (g : GG) (own : String) (cc : ByteArray) (nL : Nat) (ret : Option FieldType) (p : Program) (s : State) (m : MethodId) (args : Array Value) (meth : Method) (c : Code) : Prop := CXA g (inA g) own cc nL ret p s m args meth c
def rmS (f lo : Nat) : Room := { frames := f, cells := 0, slots := 0, locals := lo }
theorem rm_ok {f lo mL f' lo' : Nat} (h1 : f + 1 ≤ f') (h2 : 8 + (mL + 11) + lo ≤ lo') : (rmS f lo).frames + 1 ≤ (rmS f' lo').frames ∧ 8 + (mL + 11) + (rmS f lo).locals ≤ (rmS f' lo').locals := ⟨h1, h2⟩
-- the memory's reads and writes; none: not of that kind, or out of bounds
def gI (h : HP) (a k i : Nat) : Option Int32 := if kO a = k ∧ (fO a)[i]? = some 0 then some (h.1 a i) else none
def gL (h : HP) (a k i : Nat) : Option Int64 := if kO a = k ∧ (fO a)[i]? = some 1 then some (h.2.1 a i) else none
def gR (h : HP) (a k i : Nat) : Option Nat := if kO a = k then (match (fO a)[i]? with
  | some 2 => some h.2.2
  | some (m + 3) => some m
  | _ => none) else none
def pI (h : HP) (a k i : Nat) (x : Int32) : Option HP := if kO a = k ∧ (fO a)[i]? = some 0 then some (up2 h.1 a i x, h.2) else none
def pL (h : HP) (a k i : Nat) (x : Int64) : Option HP := if kO a = k ∧ (fO a)[i]? = some 1 then some (h.1, up2 h.2.1 a i x, h.2.2) else none
def pR (h : HP) (a k i : Nat) (x : Nat) : Option HP := if a = 11 ∧ k = 5 ∧ i = 1 then some (h.1, h.2.1, x) else none
def kd (a k : Nat) : Option Unit := if kO a = k ∧ k < 999 then some () else none
def aN (a k : Nat) : Option Int32 := if kA a = k ∧ k < 6 then some (Int32.ofNat (lA a)) else none
def aI (h : HP) (a k : Nat) (i : Int32) : Option Int32 := if kA a = k ∧ (k = 0 ∨ k = 1 ∨ k = 5) ∧ ¬ (i < 0 ∨ lA a ≤ i.toNatClampNeg) then some (h.1 a i.toNatClampNeg) else none
def aL (h : HP) (a k : Nat) (i : Int32) : Option Int64 := if kA a = k ∧ k = 2 ∧ ¬ (i < 0 ∨ lA a ≤ i.toNatClampNeg) then some (h.2.1 a i.toNatClampNeg) else none
def aR (a k : Nat) (i : Int32) : Option Nat := if kA a = k ∧ (k = 3 ∨ k = 4) ∧ ¬ (i < 0 ∨ lA a ≤ i.toNatClampNeg) then some (eA a i.toNatClampNeg) else none
def uI (h : HP) (a k : Nat) (i x : Int32) : Option HP := if kA a = k ∧ (k = 0 ∨ k = 1 ∨ k = 5) ∧ ¬ (i < 0 ∨ lA a ≤ i.toNatClampNeg) then some (up2 h.1 a i.toNatClampNeg x, h.2) else none
def uL (h : HP) (a k : Nat) (i : Int32) (x : Int64) : Option HP := if kA a = k ∧ k = 2 ∧ ¬ (i < 0 ∨ lA a ≤ i.toNatClampNeg) then some (h.1, up2 h.2.1 a i.toNatClampNeg x, h.2.2) else none
/-- arraycopy between two arrays of ints (k 0) or chars (k 1), that are not one -/
def cpy2 (f : Nat → Nat → Int32) (a b sp dp n : Nat) : Nat → Nat → Int32 := fun m j => if m = b ∧ dp ≤ j ∧ j < dp + n then f a (sp + (j - dp)) else f m j
def cpI (h : HP) (k a : Nat) (sp : Int32) (b : Nat) (dp n : Int32) : Option HP := if kA a = k ∧ kA b = k ∧ k = 0 ∧ a ≠ b ∧ ¬ sp < 0 ∧ ¬ dp < 0 ∧ ¬ n < 0 ∧ sp.toNatClampNeg + n.toNatClampNeg ≤ lA a ∧ dp.toNatClampNeg + n.toNatClampNeg ≤ lA b then some (cpy2 h.1 a b sp.toNatClampNeg dp.toNatClampNeg n.toNatClampNeg, h.2) else none
def cpC (h : HP) (k a : Nat) (sp : Int32) (b : Nat) (dp n : Int32) : Option HP := if kA a = k ∧ kA b = k ∧ k = 1 ∧ a ≠ b ∧ ¬ sp < 0 ∧ ¬ dp < 0 ∧ ¬ n < 0 ∧ sp.toNatClampNeg + n.toNatClampNeg ≤ lA a ∧ dp.toNatClampNeg + n.toNatClampNeg ≤ lA b ∧ ∀ i, i < n.toNatClampNeg → fits .char (.int (h.1 a (sp.toNatClampNeg + i))) = true then some (cpy2 h.1 a b sp.toNatClampNeg dp.toNatClampNeg n.toNatClampNeg, h.2) else none
def sG (x : Nat) : Option Unit := if x < nS then some () else none
def sN (x : Nat) : Option Int32 := if x < nS then some (Int32.ofNat (lenS.getD x 0)) else none
def sB (x : Nat) (i : Int32) : Option Int32 := if x < nS then (if i < 0 ∨ lenS.getD x 0 ≤ i.toNatClampNeg then none else some ((bytS.getD x []).getD i.toNatClampNeg 0)) else none
def zr (x : Int32) : Option Unit := if x = 0 ∨ x = 1 then some () else none
theorem zr_n {x : Int32} {u : Unit} (h : zr x = some u) : narrow .boolean (.int x) = .int x := by
  unfold zr at h
  split at h
  · rename_i q
    rcases q with rfl | rfl <;> rfl
  · cases h
theorem zr_b {x : Int32} {u : Unit} (h : zr x = some u) : x = 0 ∨ x = 1 := by
  unfold zr at h
  split at h
  · assumption
  · cases h
-- what a hypothesis 's = some z' gives
theorem no_s {α : Type} {z : α} (h : (none : Option α) = some z) : False := by cases h
theorem ob {α β : Type} {x : Option α} {f : α → Option β} {z : β} (h : x.bind f = some z) : ∃ y, x = some y ∧ f y = some z := by
  cases x with
  | none => cases h
  | some y => exact ⟨y, rfl, h⟩
theorem oi_t {α : Type} {c : Prop} [Decidable c] {A B : Option α} {z : α} (h : c) (q : (if c then A else B) = some z) : A = some z := by rw [if_pos h] at q; exact q
theorem oi_f {α : Type} {c : Prop} [Decidable c] {A B : Option α} {z : α} (h : ¬ c) (q : (if c then A else B) = some z) : B = some z := by rw [if_neg h] at q; exact q
theorem by_c {c X : Prop} (f : c → X) (g : ¬ c → X) : X := (Classical.em c).elim f g
theorem iinc_e (x : Int32) {a b : Int32} (h : a = b) : x + a = x + b := by rw [h]
theorem tb_out {x lo hi : Int} (h : x < lo ∨ hi < x) : x < lo ∨ hi < x := h
theorem ot {α : Type} {c : Prop} [Decidable c] {x z : α} (h : (if c then some x else none) = some z) : c ∧ x = z := by
  by_cases hc : c
  · rw [if_pos hc] at h
    exact ⟨hc, Option.some.inj h⟩
  · rw [if_neg hc] at h
    cases h
theorem gR_inv {h : HP} {a k i x : Nat} (e : gR h a k i = some x) : kO a = k ∧ ∃ c, (fO a)[i]? = some c ∧ c ≠ 0 ∧ c ≠ 1 ∧ ((c = 2 ∧ x = h.2.2) ∨ (c ≠ 2 ∧ x = c - 3)) := by
  unfold gR at e
  split at e
  · rename_i hk
    refine ⟨hk, ?_⟩
    split at e
    · rename_i q
      exact ⟨2, q, by decide, by decide, Or.inl ⟨rfl, (Option.some.inj e).symm⟩⟩
    · rename_i m q
      exact ⟨m + 3, q, by omega, by omega, Or.inr ⟨by omega, by have := Option.some.inj e; omega⟩⟩
    · cases e
  · cases e
theorem sG_inv {x : Nat} {u : Unit} (h : sG x = some u) : x < nS := by
  unfold sG at h
  split at h
  · assumption
  · cases h
theorem sN_inv {x : Nat} {v : Int32} (h : sN x = some v) : x < nS ∧ Int32.ofNat (lenS.getD x 0) = v := by
  unfold sN at h
  split at h
  · exact ⟨by assumption, Option.some.inj h⟩
  · cases h
theorem sB_inv {x : Nat} {i v : Int32} (h : sB x i = some v) : x < nS ∧ vp_in i (lenS.getD x 0) ∧ (bytS.getD x []).getD i.toNatClampNeg 0 = v := by
  unfold sB at h
  split at h
  · split at h
    · cases h
    · exact ⟨by assumption, by assumption, Option.some.inj h⟩
  · cases h
def cr (x : Int32) : Option Unit := if narrow .char (.int x) = .int x then some () else none
theorem cr_n {x : Int32} {u : Unit} (h : cr x = some u) : narrow .char (.int x) = .int x := by
  unfold cr at h
  split at h
  · assumption
  · cases h
def byr (x : Int32) : Option Unit := if narrow .byte (.int x) = .int x then some () else none
theorem byr_n {x : Int32} {u : Unit} (h : byr x = some u) : narrow .byte (.int x) = .int x := by
  unfold byr at h
  split at h
  · assumption
  · cases h
-- the world
theorem wl_at {g : GG} {h : HP} {a : Nat} (ha : a ∈ names) : ∃ k : Nat, (wl g h)[k]? = some (aD g a, cG g h a) ∧ names[k]? = some a := by
  obtain ⟨k, hk⟩ := List.getElem?_of_mem ha
  exact ⟨k, by show (names.map _)[k]? = _; rw [List.getElem?_map, hk]; rfl, hk⟩
theorem names_nd : ∀ i j a : Nat, names[i]? = some a → names[j]? = some a → i = j := va_nd_inj names (by decide +kernel)
theorem wl_D {g : GG} {A : Nat → Prop} {h : HP} (hD : va_D A (wl g h)) : va_D (inA g) (wl g h) := hD.weaken (fun k q hk _ => by
  obtain ⟨n, hn, e⟩ := List.mem_map.mp (List.mem_of_getElem? hk)
  exact ⟨n, hn, by rw [← e]⟩)
theorem wl_A {g : GG} {A : Nat → Prop} {h : HP} (hD : va_D A (wl g h)) {q : Nat} (hq : inA g q) : A q := by
  obtain ⟨n, hn, rfl⟩ := hq
  obtain ⟨k, hk, -⟩ := wl_at (g := g) (h := h) hn
  exact hD.2 k _ hk
theorem wl_set {g : GG} {h h' : HP} {a q0 : Nat} {E : va_E} (hq : names[q0]? = some a) (hE : cG g h' a = E) (ho : ∀ n ∈ names, n ≠ a → cG g h' n = cG g h n) : (wl g h).set q0 (aD g a, E) = wl g h' := by
  apply List.ext_getElem?
  intro k
  by_cases hk : q0 = k
  · subst hk
    have hl : q0 < (wl g h).length := by
      show q0 < (names.map _).length
      rw [List.length_map]
      exact (List.getElem?_eq_some_iff.mp hq).1
    rw [List.getElem?_set_self hl]
    show _ = (names.map _)[q0]?
    rw [List.getElem?_map, hq]
    show _ = some (aD g a, cG g h' a)
    rw [hE]
  · rw [List.getElem?_set_ne hk]
    show (names.map _)[k]? = (names.map _)[k]?
    rw [List.getElem?_map, List.getElem?_map]
    cases hn : names[k]? with
    | none => rfl
    | some n =>
      show some (aD g n, cG g h n) = some (aD g n, cG g h' n)
      rw [ho n (List.mem_of_getElem? hn) (fun e => hk (names_nd q0 k a hq (by rw [← e]; exact hn)))]
theorem WDA.upd {g : GG} {A : Nat → Prop} {h h' : HP} {H0 H1 : Heap} {locs1 : List Loc} {a q0 : Nat} {E : va_E} (hq : names[q0]? = some a) (hE : cG g h' a = E) (ho : ∀ n ∈ names, n ≠ a → cG g h' n = cG g h n)
    (hP : va_P g.1 classes ((wl g h).set q0 (aD g a, E)) H1) (hD : va_D A ((wl g h).set q0 (aD g a, E))) (hS : va_S A H0 H1 locs1) : WDA g A h' H0 H1 locs1 := by
  rw [wl_set hq hE ho] at hP hD
  exact ⟨hP, hD, hS⟩
theorem cG_o {g : GG} {h : HP} {a k : Nat} (hk : kO a = k) (h9 : k < 999) : cG g h a = .inr (k, fVs (aD g) h a) := by
  unfold cG
  rw [if_neg (by omega), hk]
theorem cG_a {g : GG} {h : HP} {a k : Nat} (hk : kA a = k) (h9 : k < 999) : cG g h a = .inl (g.2.1 k, aV (aD g) h a) := by
  unfold cG
  rw [if_pos (kA_kO (by omega)), hk]
theorem fVs_at {ad : Nat → Nat} {h : HP} {n i c : Nat} (hc : (fO n)[i]? = some c) : (fVs ad h n)[i]? = some (fV ad h n i c) := by
  unfold fVs
  rw [List.getElem?_mapIdx, hc]
  rfl
theorem fVs_len {ad : Nat → Nat} {h : HP} {n i c : Nat} (hc : (fO n)[i]? = some c) : i < (fVs ad h n).length := by
  unfold fVs
  rw [List.length_mapIdx]
  exact (List.getElem?_eq_some_iff.mp hc).1
theorem up2_n {α : Type} {f : Nat → Nat → α} {n i m : Nat} {x : α} (h : m ≠ n) : up2 f n i x m = f m := by
  funext j
  unfold up2
  rw [if_neg (fun q => h q.1)]
theorem up2_upd {f : Nat → Nat → Int32} {n i : Nat} {x : Int32} : up2 f n i x n = upd (f n) i x := by
  funext j
  unfold up2 upd
  by_cases hj : j = i <;> simp [hj]
theorem up2_updL {f : Nat → Nat → Int64} {n i : Nat} {x : Int64} : up2 f n i x n = vp_updL (f n) i x := by
  funext j
  unfold up2 vp_updL
  by_cases hj : j = i <;> simp [hj]
theorem cpy2_n {f : Nat → Nat → Int32} {a b sp dp n m : Nat} (h : m ≠ b) : cpy2 f a b sp dp n m = f m := by
  funext j
  unfold cpy2
  rw [if_neg (fun q => h q.1)]
theorem cpy2_b {f : Nat → Nat → Int32} {a b sp dp n : Nat} : cpy2 f a b sp dp n b = va_cpy (f a) (f b) sp dp n := by
  funext j
  unfold cpy2 va_cpy
  by_cases hj : dp ≤ j ∧ j < dp + n
  · rw [if_pos ⟨rfl, hj⟩, if_pos hj]
  · rw [if_neg (fun q => hj q.2), if_neg hj]
/-- cells that a change of the ints of a name leaves -/
theorem cG_I {g : GG} {h : HP} {f : Nat → Nat → Int32} {n : Nat} (hf : f n = h.1 n) : cG g (f, h.2) n = cG g h n := by
  unfold cG fVs aV fV
  simp only [hf]
theorem cG_J {g : GG} {h : HP} {f : Nat → Nat → Int64} {n : Nat} (hf : f n = h.2.1 n) : cG g (h.1, f, h.2.2) n = cG g h n := by
  unfold cG fVs aV fV
  simp only [hf]
theorem fVs_set {ad : Nat → Nat} {h h' : HP} {n i c : Nat} {v : Value} (hc : (fO n)[i]? = some c) (hv : fV ad h' n i c = v) (ho : ∀ j d, j ≠ i → (fO n)[j]? = some d → fV ad h' n j d = fV ad h n j d) : fVs ad h' n = (fVs ad h n).set i v := by
  apply List.ext_getElem?
  intro j
  by_cases hj : i = j
  · subst hj
    rw [List.getElem?_set_self (fVs_len hc), fVs_at hc, hv]
  · rw [List.getElem?_set_ne hj]
    unfold fVs
    rw [List.getElem?_mapIdx, List.getElem?_mapIdx]
    cases hd : (fO n)[j]? with
    | none => rfl
    | some d =>
      show some (fV ad h' n j d) = some (fV ad h n j d)
      rw [ho j d (fun e => hj e.symm) hd]
-- what lies beside the world
theorem EX.narrow {g : GG} {A B : Nat → Prop} {U : State} (h : EX g A U) (hAB : ∀ q, B q → A q) : EX g B U := ⟨h.1, h.2.1.narrow hAB, h.2.2.1, h.2.2.2.1.narrow hAB, h.2.2.2.2.narrow hAB⟩
theorem EX.go {g : GG} {A : Nat → Prop} {s t : State} {H : Heap} {locs : List Loc} (h : EX g A s) (hS : va_S A s.heap H locs) (ht : t.heap = H) (hW : s.WarmedH t.vm) : EX g A t := by
  obtain ⟨h1, h2, h3, h4, h5⟩ := h
  subst ht
  exact ⟨fun q hq => va_Nw.warmM hW (h1 q hq), (h2.kept hS.2.1).moved hW.alike, fun i hi => vk_R.warm hW (h3 i hi), (h4.kept hS.2.1).moved hW.alike, (h5.kept hS.2.1).moved hW.alike⟩
theorem EX.calling {g : GG} {A : Nat → Prop} {U : State} {g' : JFrame} {mk : MethodId} {a : Array Value} (h : EX g A U) : EX g A (U.calling g' mk a) := by
  obtain ⟨h1, h2, h3, h4, h5⟩ := h
  exact ⟨fun q hq => va_Nw.same rfl rfl (h1 q hq), vk_S.moved (u := U) (U := U.calling g' mk a) (Vm.Alike.refl U.vm) h2, fun i hi => vk_R.same rfl (h3 i hi), va_Z.moved (u := U) (U := U.calling g' mk a) (Vm.Alike.refl U.vm) h4, va_Z.moved (u := U) (U := U.calling g' mk a) (Vm.Alike.refl U.vm) h5⟩
