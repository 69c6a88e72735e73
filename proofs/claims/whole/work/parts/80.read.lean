/-! Reading, as mathematics: where a term or formula ends, or where it is wrong. -/
def chr (n : Nat) (t : Nat → Int32) (p : Nat) : Int32 := if p < n then t p else 0
def fnN (c : Int32) : Nat := (c - 65).toNatClampNeg
def upS (sc : Nat → Nat) (l x : Nat) : Nat → Nat := fun q => if q = l then x else sc q
def sq (R : Nat → Nat ⊕ Nat) : Nat → Nat → Nat ⊕ Nat
  | 0, p => .inr p
  | m + 1, p => match R p with
    | .inl w => .inl w
    | .inr q => sq R m q
def bn (n : Nat) (t : Nat → Int32) (R : Bool → (Nat → Nat) → Nat → Nat ⊕ Nat) (b : Bool) (sc : Nat → Nat) (p : Nat) : Nat ⊕ Nat :=
  if 97 ≤ chr n t (p + 1) ∧ chr n t (p + 1) < 105 then (match R false sc (p + 2) with
    | .inl w => .inl w
    | .inr q => R b (upS sc (lwN (chr n t (p + 1))) (if chr n t (p + 2) = 97 ∧ sc 0 = 0 then 2 else 1)) q) else .inl (p + 1)
/-- k: takes; ow, ok: the function whose body it is and what it takes; lt: how many letters may be free; d: how deep still; sc: 0 free, 1 bound, 2 bound over a -/
def PT (k : Nat → Nat) (n : Nat) (t : Nat → Int32) (ow : Int32) (ok lt : Nat) : Nat → Bool → (Nat → Nat) → Nat → Nat ⊕ Nat
  | 0 => fun _ _ p => .inl p
  | d + 1 => fun b sc p => match b with
    | false => if 48 ≤ chr n t p ∧ chr n t p ≤ 57 then .inr (p + 1)
        else if 97 ≤ chr n t p ∧ chr n t p < 105 then (if lwN (chr n t p) < lt ∨ sc (lwN (chr n t p)) ≠ 0 then .inr (p + 1) else .inl p)
        else if 65 ≤ chr n t p ∧ chr n t p < 69 then (if chr n t p - 65 = ow then (if (97 ≤ chr n t (p + 1) ∧ chr n t (p + 1) < 105) ∧ sc (lwN (chr n t (p + 1))) = 2 then sq (PT k n t ow ok lt d false sc) ok (p + 1) else .inl (p + 1)) else if k (fnN (chr n t p)) = 0 then .inl p else sq (PT k n t ow ok lt d false sc) (k (fnN (chr n t p))) (p + 1))
        else if chr n t p = 38 ∨ chr n t p = 43 ∨ chr n t p = 45 ∨ chr n t p = 124 then sq (PT k n t ow ok lt d false sc) 2 (p + 1)
        else if chr n t p = 80 ∨ chr n t p = 84 ∨ chr n t p = 85 then sq (PT k n t ow ok lt d false sc) 1 (p + 1)
        else if chr n t p = 73 then bn n t (PT k n t ow ok lt d) false sc p
        else if chr n t p = 123 then bn n t (PT k n t ow ok lt d) true sc p else .inl p
    | true => if chr n t p = 33 then sq (PT k n t ow ok lt d true sc) 1 (p + 1)
        else if chr n t p = 60 ∨ chr n t p = 61 then sq (PT k n t ow ok lt d false sc) 2 (p + 1)
        else if chr n t p = 62 ∨ chr n t p = 94 ∨ chr n t p = 118 then sq (PT k n t ow ok lt d true sc) 2 (p + 1)
        else if chr n t p = 69 ∨ chr n t p = 76 then bn n t (PT k n t ow ok lt d) true sc p else .inl p
def enc (r : Nat ⊕ Nat) : Int32 := match r with
  | .inl w => (-100) - nI w
  | .inr e => nI e
-- KD looks at the ends from p to e alone
theorem its_congr {R R' : Nat → Nat → Prop} {E E' : Nat → Int32} (hR : ∀ p e, (∀ q, p ≤ q → q < e → E q = E' q) → R p e → R' p e) (hlt : ∀ p e, R p e → p ≤ e) : ∀ (m p e : Nat), (∀ q, p ≤ q → q < e → E q = E' q) → its R m p e → its R' m p e ∧ p ≤ e := by
  intro m
  induction m with
  | zero =>
    intro p e _ h
    have h : p = e := h
    exact ⟨h, by omega⟩
  | succ m ih =>
    intro p e hE h
    obtain ⟨q, h1, h2⟩ := h
    have l1 := hlt p q h1
    have key : ∀ (m q e : Nat), its R m q e → q ≤ e := by
      intro m
      induction m with
      | zero => intro q e h; have h : q = e := h; omega
      | succ m ih2 =>
        intro q e h
        obtain ⟨r, a, b⟩ := h
        have := hlt q r a
        have := ih2 r e b
        omega
    have l2 := key m q e h2
    exact ⟨⟨q, hR p q (fun x a b => hE x a (by omega)) h1, (ih q e (fun x a b => hE x (by omega) b) h2).1⟩, by omega⟩
theorem KD_lt {k : Nat → Nat} {t E : Nat → Int32} {d : Nat} {b : Bool} {p e : Nat} (h : KD k t E d b p e) : p < e := by
  cases d with
  | zero => exact absurd h (fun q => q)
  | succ d => exact h.2.1
theorem KD_congr {k : Nat → Nat} {t E E' : Nat → Int32} : ∀ (d : Nat) (b : Bool) (p e : Nat), (∀ q, p ≤ q → q < e → E q = E' q) → KD k t E d b p e → KD k t E' d b p e := by
  intro d
  induction d with
  | zero => intro b p e _ h; exact absurd h (fun q => q)
  | succ d ih =>
    intro b p e hE h
    obtain ⟨h1, h2, h3⟩ := h
    have hp : E p = E' p := hE p (Nat.le_refl _) h2
    have two : ∀ (b1 b2 : Bool) (s : Nat), p ≤ s → (∃ q, KD k t E d b1 s q ∧ KD k t E d b2 q e) → ∃ q, KD k t E' d b1 s q ∧ KD k t E' d b2 q e := by
      intro b1 b2 s hs ⟨q, a, b⟩
      have l1 := KD_lt a
      have l2 := KD_lt b
      exact ⟨q, ih b1 s q (fun x y z => hE x (by omega) (by omega)) a, ih b2 q e (fun x y z => hE x (by omega) z) b⟩
    have one : ∀ (b1 : Bool), KD k t E d b1 (p + 1) e → KD k t E' d b1 (p + 1) e := fun b1 a => ih b1 (p + 1) e (fun x y z => hE x (by omega) z) a
    refine ⟨by rw [← hp]; exact h1, h2, ?_⟩
    cases b with
    | true =>
      rcases h3 with ⟨a, b⟩ | ⟨a, b⟩ | ⟨a, b⟩ | ⟨a, a2, b⟩
      · exact Or.inl ⟨a, two _ _ _ (by omega) b⟩
      · exact Or.inr (Or.inl ⟨a, one _ b⟩)
      · exact Or.inr (Or.inr (Or.inl ⟨a, two _ _ _ (by omega) b⟩))
      · exact Or.inr (Or.inr (Or.inr ⟨a, a2, two _ _ _ (by omega) b⟩))
    | false =>
      rcases h3 with a | a | ⟨a, a2, b⟩ | ⟨a, b⟩ | ⟨a, b⟩ | ⟨a, a2, b⟩ | ⟨a, a2, b⟩
      · exact Or.inl a
      · exact Or.inr (Or.inl a)
      · exact Or.inr (Or.inr (Or.inl ⟨a, a2, (its_congr (E := E) (E' := E') (fun p e q r => ih false p e q r) (fun p e r => Nat.le_of_lt (KD_lt r)) _ _ _ (fun x y z => hE x (by omega) z) b).1⟩))
      · exact Or.inr (Or.inr (Or.inr (Or.inl ⟨a, two _ _ _ (by omega) b⟩)))
      · exact Or.inr (Or.inr (Or.inr (Or.inr (Or.inl ⟨a, one _ b⟩))))
      · exact Or.inr (Or.inr (Or.inr (Or.inr (Or.inr (Or.inl ⟨a, a2, two _ _ _ (by omega) b⟩)))))
      · exact Or.inr (Or.inr (Or.inr (Or.inr (Or.inr (Or.inr ⟨a, a2, two _ _ _ (by omega) b⟩)))))
