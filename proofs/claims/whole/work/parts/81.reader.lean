/-! The class's reader reads as PT says, and leaves the ends. -/
theorem s_let (c : Int32) : s_AdjoinedSets_isLetter c = some (if 97 ≤ c ∧ c < 105 then 1 else 0) := by
  unfold s_AdjoinedSets_isLetter
  by_cases h1 : c < 97
  · rw [if_pos h1, if_neg]
    intro q
    rw [Int32.lt_iff_toInt_lt] at h1
    have := Int32.le_iff_toInt_le.mp q.1
    omega
  · have h1' : 97 ≤ c := by
      rw [Int32.lt_iff_toInt_lt] at h1
      rw [Int32.le_iff_toInt_le]
      omega
    rw [if_neg h1]
    by_cases h2 : 105 ≤ c
    · rw [if_pos h2, if_neg]
      intro q
      have := Int32.lt_iff_toInt_lt.mp q.2
      rw [Int32.le_iff_toInt_le] at h2
      omega
    · rw [if_neg h2, if_pos]
      refine ⟨h1', ?_⟩
      rw [Int32.le_iff_toInt_le] at h2
      rw [Int32.lt_iff_toInt_lt]
      omega
theorem s_fun (c : Int32) : s_AdjoinedSets_isFunction c = some (if 65 ≤ c ∧ c < 69 then 1 else 0) := by
  unfold s_AdjoinedSets_isFunction
  by_cases h1 : c < 65
  · rw [if_pos h1, if_neg]
    intro q
    rw [Int32.lt_iff_toInt_lt] at h1
    have := Int32.le_iff_toInt_le.mp q.1
    omega
  · have h1' : 65 ≤ c := by
      rw [Int32.lt_iff_toInt_lt] at h1
      rw [Int32.le_iff_toInt_le]
      omega
    rw [if_neg h1]
    by_cases h2 : 69 ≤ c
    · rw [if_pos h2, if_neg]
      intro q
      have := Int32.lt_iff_toInt_lt.mp q.2
      rw [Int32.le_iff_toInt_le] at h2
      omega
    · rw [if_neg h2, if_pos]
      refine ⟨h1', ?_⟩
      rw [Int32.le_iff_toInt_le] at h2
      rw [Int32.lt_iff_toInt_lt]
      omega
theorem s_dig (c : Int32) : s_AdjoinedSets_isDigit c = some (if 48 ≤ c ∧ c ≤ 57 then 1 else 0) := by
  unfold s_AdjoinedSets_isDigit
  by_cases h1 : c < 48
  · rw [if_pos h1, if_neg]
    intro q
    rw [Int32.lt_iff_toInt_lt] at h1
    have := Int32.le_iff_toInt_le.mp q.1
    omega
  · have h1' : 48 ≤ c := by
      rw [Int32.lt_iff_toInt_lt] at h1
      rw [Int32.le_iff_toInt_le]
      omega
    rw [if_neg h1]
    by_cases h2 : c ≤ 57
    · first
        | rw [if_pos h2, if_pos ⟨h1', h2⟩]
        | (rw [if_neg (by rw [Int32.lt_iff_toInt_lt]; rw [Int32.le_iff_toInt_le] at h2; omega), if_pos ⟨h1', h2⟩])
    · first
        | rw [if_neg h2, if_neg (fun q => h2 q.2)]
        | (rw [if_pos (by rw [Int32.lt_iff_toInt_lt]; rw [Int32.le_iff_toInt_le] at h2; omega), if_neg (fun q => h2 q.2)])
def RC (k : Nat → Nat) (n : Nat) (t : Nat → Int32) (ow : Int32) (ok lt : Nat) (h : HP) (sc : Nat → Nat) : Prop := (tN h 100 n ∧ ∀ p, p < n → h.1 101 p = t p) ∧ (∀ f, f < 4 → h.1 (17 + f) 1 = nI (k f)) ∧ (h.1 4 3 = ow ∧ h.1 4 4 = nI ok ∧ h.1 4 5 = nI lt) ∧ ∀ l, l < 8 → h.1 9 l = nI (sc l)
/-- only the buffer's ends differ, and not ahead of p -/
def o102 (p : Nat) (h h' : HP) : Prop := (∀ m, m ≠ 102 → h'.1 m = h.1 m) ∧ h'.2 = h.2 ∧ ∀ q, q < p → h'.1 102 q = h.1 102 q
theorem o102.rf (p : Nat) (h : HP) : o102 p h h := ⟨fun _ _ => rfl, rfl, fun _ _ => rfl⟩
theorem o102.tr {p p' : Nat} {a b c : HP} (hp : p ≤ p') (h1 : o102 p a b) (h2 : o102 p' b c) : o102 p a c := ⟨fun m hm => (h2.1 m hm).trans (h1.1 m hm), h2.2.1.trans h1.2.1, fun q hq => (h2.2.2 q (by omega)).trans (h1.2.2 q hq)⟩
theorem o102.le {p p' : Nat} {a b : HP} (hp : p ≤ p') (h1 : o102 p' a b) : o102 p a b := ⟨h1.1, h1.2.1, fun q hq => h1.2.2 q (by omega)⟩
theorem RC.o {k : Nat → Nat} {n : Nat} {t : Nat → Int32} {ow : Int32} {ok lt p : Nat} {h h' : HP} {sc : Nat → Nat} (ho : o102 p h h') (hr : RC k n t ow ok lt h sc) : RC k n t ow ok lt h' sc := by
  obtain ⟨⟨⟨a1, a2, a3⟩, a4⟩, b, ⟨c1, c2, c3⟩, d⟩ := hr
  refine ⟨⟨⟨a1, by rw [ho.1 100 (by decide)]; exact a2, a3⟩, fun p hp => by rw [ho.1 101 (by decide)]; exact a4 p hp⟩, fun f hf => by rw [ho.1 (17 + f) (by omega)]; exact b f hf, ⟨by rw [ho.1 4 (by decide)]; exact c1, by rw [ho.1 4 (by decide)]; exact c2, by rw [ho.1 4 (by decide)]; exact c3⟩, fun l hl => by rw [ho.1 9 (by decide)]; exact d l hl⟩
theorem RC.sc {k : Nat → Nat} {n : Nat} {t : Nat → Int32} {ow : Int32} {ok lt l x : Nat} {h : HP} {sc : Nat → Nat} (hr : RC k n t ow ok lt h sc) : RC k n t ow ok lt (up2 h.1 9 l (nI x), h.2) (upS sc l x) := by
  obtain ⟨⟨⟨a1, a2, a3⟩, a4⟩, b, ⟨c1, c2, c3⟩, d⟩ := hr
  have hn : ∀ m, m ≠ 9 → up2 h.1 9 l (nI x) m = h.1 m := fun m hm => up2_n hm
  refine ⟨⟨⟨a1, by show up2 h.1 9 l (nI x) 100 2 = _; rw [hn 100 (by decide)]; exact a2, a3⟩, fun p hp => by show up2 h.1 9 l (nI x) 101 p = _; rw [hn 101 (by decide)]; exact a4 p hp⟩, fun f hf => by show up2 h.1 9 l (nI x) (17 + f) 1 = _; rw [hn (17 + f) (by omega)]; exact b f hf, ⟨by show up2 h.1 9 l (nI x) 4 3 = _; rw [hn 4 (by decide)]; exact c1, by show up2 h.1 9 l (nI x) 4 4 = _; rw [hn 4 (by decide)]; exact c2, by show up2 h.1 9 l (nI x) 4 5 = _; rw [hn 4 (by decide)]; exact c3⟩, fun q hq => ?_⟩
  show up2 h.1 9 l (nI x) 9 q = nI (if q = l then x else sc q)
  by_cases e : q = l
  · rw [if_pos e, e, u2_s]
  · rw [if_neg e, u2_i e]
    exact d q hq
theorem RC.at {k : Nat → Nat} {n : Nat} {t : Nat → Int32} {ow : Int32} {ok lt : Nat} {h : HP} {sc : Nat → Nat} (hr : RC k n t ow ok lt h sc) {p : Nat} (hp : p < 2 ^ 30) : s_Text_at 100 (nI p) h = some (chr n t p) := by
  rw [p_at hr.1.1 hp]
  unfold tc chr
  by_cases e : p < n
  · rw [if_pos e, if_pos e, hr.1.2 p e]
  · rw [if_neg e, if_neg e]
theorem b_eta {α β : Type} (x : Option (α × β)) : (x.bind fun q => some (q.1, q.2)) = x := by cases x <;> rfl
def bI (b : Bool) : Int32 := if b then 1 else 0
def rd (g : Nat) (b : Bool) : Nat → Int32 → Int32 → HP → Option (Int32 × HP) := if b then (s_grp_Reader_binder g).2.1 else (s_grp_Reader_binder g).2.2.2.2.2.2
theorem rd_part (g : Nat) (b : Bool) (p D : Int32) (h : HP) : (s_grp_Reader_binder (g + 1)).2.2.2.2.1 4 p (bI b) D h = rd g b 4 p (D + 1) h := by
  show s_Reader_part (s_grp_Reader_binder g) 4 p (bI b) D h = _
  unfold s_Reader_part rd bI
  cases b with
  | true =>
    simp only [if_true]
    rw [if_neg (by decide), rK_4, ob_s, b_eta]
  | false =>
    rw [if_pos (by decide), rK_4, ob_s, b_eta]
    rfl
section READ
variable {k : Nat → Nat} {n : Nat} {t : Nat → Int32} {ow : Int32} {ok lt : Nat}
def kk (k : Nat → Nat) (ow : Int32) (ok : Nat) (f : Nat) : Nat := if nI f = ow then ok else k f
def Pst (k : Nat → Nat) (n : Nat) (t : Nat → Int32) (ow : Int32) (ok d : Nat) (b : Bool) (p : Nat) (h h' : HP) (r : Nat ⊕ Nat) : Prop := o102 p h h' ∧ match r with
  | .inl w => w ≤ n
  | .inr e => e ≤ n ∧ KD (kk k ow ok) t (h'.1 102) d b p e
def Psq (k : Nat → Nat) (n : Nat) (t : Nat → Int32) (ow : Int32) (ok d : Nat) (b : Bool) (m p : Nat) (h h' : HP) (r : Nat ⊕ Nat) : Prop := o102 p h h' ∧ match r with
  | .inl w => w ≤ n
  | .inr e => p ≤ e ∧ e ≤ n ∧ its (KD (kk k ow ok) t (h'.1 102) d b) m p e
def GoodR (k : Nat → Nat) (n : Nat) (t : Nat → Int32) (ow : Int32) (ok lt d g : Nat) : Prop := ∀ (b : Bool) (sc : Nat → Nat) (p : Nat) (h : HP), RC k n t ow ok lt h sc → (∀ l, sc l ≤ 2) → p ≤ n → ∃ h', rd g b 4 (nI p) (nI (13 - d)) h = some (enc (PT k n t ow ok lt d b sc p), h') ∧ Pst k n t ow ok d b p h h' (PT k n t ow ok lt d b sc p)
theorem enc_l {w : Nat} (hw : w ≤ 60) : enc (.inl w) < 0 := by
  show (-100) - nI w < 0
  exact (show ∀ w, w ≤ 60 → (-100 : Int32) - nI w < 0 by decide) w hw
theorem rd_parts {d g : Nat} (hd : d ≤ 11) (hG : GoodR k n t ow ok lt d g) (hn : n ≤ 60) (b : Bool) (sc : Nat → Nat) (hsc : ∀ l, sc l ≤ 2) (m : Nat) (hm : m ≤ 3) : ∀ (r j p : Nat) (h : HP), j ≤ m → m < j + r → RC k n t ow ok lt h sc → p ≤ n → ∃ h', s_Reader_parts_8 (s_grp_Reader_binder (g + 1)) r 4 (nI m) (bI b) (nI (12 - d)) (nI p) (nI j) h = some (enc (sq (PT k n t ow ok lt d b sc) (m - j) p), h') ∧ Psq k n t ow ok d b (m - j) p h h' (sq (PT k n t ow ok lt d b sc) (m - j) p) := by
  intro r
  induction r with
  | zero => intro j p h h1 h2; omega
  | succ r ih =>
    intro j p h h1 h2 hr hp
    rw [s_Reader_parts_8]
    dsimp only
    by_cases e : j = m
    · subst e
      rw [if_pos (nI_le (Nat.le_refl _) (by omega)), Nat.sub_self]
      exact ⟨h, rfl, o102.rf p h, Nat.le_refl _, hp, rfl⟩
    · rw [if_neg (nI_ge (by omega) (by omega)), if_neg (nI_pos (by omega)), rK_4, ob_s, rd_part]
      have eD : nI (12 - d) + 1 = nI (13 - d) := by rw [nI_1]; congr 1; omega
      rw [eD]
      obtain ⟨h1', e1, q1⟩ := hG b sc p h hr hsc hp
      rw [e1, ob_s, nI_1]
      obtain ⟨x, hx⟩ : ∃ x, m - j = x + 1 := ⟨m - j - 1, by omega⟩
      rw [hx]
      show ∃ h', s_Reader_parts_8 _ r 4 (nI m) (bI b) (nI (12 - d)) (enc (PT k n t ow ok lt d b sc p)) (nI (j + 1)) h1' = some (enc (match PT k n t ow ok lt d b sc p with | .inl w => .inl w | .inr q => sq (PT k n t ow ok lt d b sc) x q), h') ∧ Psq k n t ow ok d b (x + 1) p h h' (match PT k n t ow ok lt d b sc p with | .inl w => .inl w | .inr q => sq (PT k n t ow ok lt d b sc) x q)
      cases hP : PT k n t ow ok lt d b sc p with
      | inl w =>
        rw [hP] at q1
        have hw : w ≤ n := q1.2
        refine ⟨h1', ?_, q1.1, hw⟩
        obtain ⟨r', rfl⟩ : ∃ r', r = r' + 1 := ⟨r - 1, by omega⟩
        rw [s_Reader_parts_8]
        dsimp only
        by_cases e2 : nI m ≤ nI (j + 1)
        · rw [if_pos e2]
        · rw [if_neg e2, if_pos (enc_l (by omega))]
      | inr q =>
        rw [hP] at q1
        obtain ⟨o1, hqn, hK⟩ := q1
        have hpq := KD_lt hK
        obtain ⟨h2', e2, o2, q2⟩ := ih (j + 1) q h1' (by omega) (by omega) (RC.o o1 hr) hqn
        have ex : m - (j + 1) = x := by omega
        rw [ex] at e2 q2
        refine ⟨h2', e2, o1.tr (by omega) o2, ?_⟩
        dsimp only
        cases hS : sq (PT k n t ow ok lt d b sc) x q with
        | inl w =>
          rw [hS] at q2
          exact q2
        | inr e3 =>
          rw [hS] at q2
          obtain ⟨a1, a2, a3⟩ := q2
          exact ⟨by omega, a2, q, KD_congr d b p q (fun y _ hy => (o2.2.2 y hy).symm) hK, a3⟩
end READ
