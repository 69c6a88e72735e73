/-! The state as mathematics: texts (length, characters, ends), values, takes, bodies, theorems, rests. -/
abbrev TX : Type := Nat × (Nat → Int32) × (Nat → Int32)
/-- buffer; values; takes; bodies; count; theorems; rests -/
abbrev SG : Type := TX × (Nat → Int64) × (Nat → Nat) × (Nat → TX) × Nat × (Nat → TX) × (Nat → Int32)
abbrev gB (S : SG) : TX := S.1
abbrev gVs (S : SG) : Nat → Int64 := S.2.1
abbrev gK (S : SG) : Nat → Nat := S.2.2.1
abbrev gBd (S : SG) : Nat → TX := S.2.2.2.1
abbrev gC (S : SG) : Nat := S.2.2.2.2.1
abbrev gT (S : SG) : Nat → TX := S.2.2.2.2.2.1
abbrev gRs (S : SG) : Nat → Int32 := S.2.2.2.2.2.2
def cT (h : HP) (t : Nat) (x : TX) : Prop := tN h t x.1 ∧ ∀ p, p < x.1 → h.1 (t + 1) p = x.2.1 p
def cE (h : HP) (t : Nat) (x : TX) : Prop := ∀ p, p < x.1 → h.1 (t + 2) p = x.2.2 p
def mT (h : HP) (o : Nat) (x : TX) : Prop := ∀ p, p < x.1 → h.1 201 (o + p) = x.2.1 p
def isLw (c : Int32) : Prop := 97 ≤ c ∧ c < 105
/-- m items in a row, from p to e -/
def its (R : Nat → Nat → Prop) : Nat → Nat → Nat → Prop
  | 0 => fun p e => p = e
  | m + 1 => fun p e => ∃ q, R p q ∧ its R m q e
/-- from p to e stands a formula (b) or a term, at most d deep; E has the ends -/
def KD (k : Nat → Nat) (t E : Nat → Int32) : Nat → Bool → Nat → Nat → Prop
  | 0 => fun _ _ _ => False
  | d + 1 => fun b p e => E p = nI e ∧ p < e ∧ match b with
    | true => (((t p = 60 ∨ t p = 61) ∧ ∃ q, KD k t E d false (p + 1) q ∧ KD k t E d false q e) ∨ (t p = 33 ∧ KD k t E d true (p + 1) e) ∨ ((t p = 94 ∨ t p = 118 ∨ t p = 62) ∧ ∃ q, KD k t E d true (p + 1) q ∧ KD k t E d true q e) ∨ ((t p = 69 ∨ t p = 76) ∧ isLw (t (p + 1)) ∧ ∃ q, KD k t E d false (p + 2) q ∧ KD k t E d true q e))
    | false => (((48 ≤ t p ∧ t p ≤ 57) ∧ e = p + 1) ∨ (isLw (t p) ∧ e = p + 1) ∨ ((65 ≤ t p ∧ t p < 69) ∧ 0 < k (t p - 65).toNatClampNeg ∧ its (KD k t E d false) (k (t p - 65).toNatClampNeg) (p + 1) e) ∨ ((t p = 43 ∨ t p = 124 ∨ t p = 38 ∨ t p = 45) ∧ ∃ q, KD k t E d false (p + 1) q ∧ KD k t E d false q e) ∨ ((t p = 85 ∨ t p = 80 ∨ t p = 84) ∧ KD k t E d false (p + 1) e) ∨ (t p = 123 ∧ isLw (t (p + 1)) ∧ ∃ q, KD k t E d false (p + 2) q ∧ KD k t E d true q e) ∨ (t p = 73 ∧ isLw (t (p + 1)) ∧ ∃ q, KD k t E d false (p + 2) q ∧ KD k t E d false q e))
def lwN (c : Int32) : Nat := (c - 97).toNatClampNeg
/-- which letters are free in the part at p, as the ends say -/
def fv (t E : Nat → Int32) : Nat → Nat → Nat → Bool
  | 0 => fun _ _ => false
  | d + 1 => fun p l => if 97 ≤ t p ∧ t p < 105 then decide (l = lwN (t p)) else if t p = 123 ∨ t p = 73 ∨ t p = 69 ∨ t p = 76 then
      (decide (p + 2 < (E p).toNatClampNeg) && (fv t E d (p + 2) l || (decide ((E (p + 2)).toNatClampNeg < (E p).toNatClampNeg) && ((fv t E d (E (p + 2)).toNatClampNeg l && !decide (l = lwN (t (p + 1)))) || (decide ((E (E (p + 2)).toNatClampNeg).toNatClampNeg < (E p).toNatClampNeg) && fv t E d (E (E (p + 2)).toNatClampNeg).toNatClampNeg l)))))
    else (decide (p + 1 < (E p).toNatClampNeg) && (fv t E d (p + 1) l || (decide ((E (p + 1)).toNatClampNeg < (E p).toNatClampNeg) && (fv t E d (E (p + 1)).toNatClampNeg l || (decide ((E (E (p + 1)).toNatClampNeg).toNatClampNeg < (E p).toNatClampNeg) && fv t E d (E (E (p + 1)).toNatClampNeg).toNatClampNeg l)))))
def okC (c : Int32) : Prop := 33 ≤ c ∧ c ≤ 126
def WF (S : SG) : Prop := ((gB S).1 ≤ 60 ∧ ∀ p, p < (gB S).1 → okC ((gB S).2.1 p)) ∧ (∀ j, j < 8 → 0 ≤ gVs S j ∧ gVs S j ≤ 4611686018427387903) ∧ (∀ f, f < 4 → gK S f ≤ 3 ∧ (gK S f ≠ 0 → (gBd S f).1 ≤ 60 ∧ (∀ p, p < (gBd S f).1 → okC ((gBd S f).2.1 p)) ∧ KD (gK S) (gBd S f).2.1 (gBd S f).2.2 12 false 0 (gBd S f).1 ∧ ∀ l, l < 8 → fv (gBd S f).2.1 (gBd S f).2.2 12 0 l = true → l < gK S f)) ∧ gC S ≤ 16 ∧ ∀ i, i < gC S → (gT S i).1 ≤ 60 ∧ (∀ p, p < (gT S i).1 → okC ((gT S i).2.1 p)) ∧ KD (gK S) (gT S i).2.1 (gT S i).2.2 12 true 0 (gT S i).1
/-- the class's part of the memory shows S -/
def CA (S : SG) (h : HP) : Prop := cT h 100 (gB S) ∧ (∀ j, j < 8 → h.2.1 1 j = gVs S j) ∧ (∀ f, f < 4 → h.1 (17 + f) 1 = nI (gK S f) ∧ (gK S f ≠ 0 → cT h (106 + 3 * f) (gBd S f) ∧ cE h (106 + 3 * f) (gBd S f))) ∧ h.1 3 2 = nI (gC S) ∧ ∀ i, i < gC S → cT h (118 + 3 * i) (gT S i) ∧ cE h (118 + 3 * i) (gT S i) ∧ h.1 8 i = gRs S i
/-- the model's part of the memory shows S -/
def MA (S : SG) (h : HP) : Prop := (h.1 200 1 = nI (gB S).1 ∧ mT h 0 (gB S)) ∧ (∀ j, j < 8 → h.2.1 202 j = gVs S j) ∧ (∀ f, f < 4 → h.1 203 f = nI (gK S f) ∧ (gK S f ≠ 0 → mT h (1100 + 60 * f) (gBd S f))) ∧ h.1 200 4 = nI (gC S) ∧ (∀ i, i < gC S → h.1 204 i = nI (gT S i).1 ∧ mT h (100 + 60 * i) (gT S i) ∧ h.1 205 i = gRs S i) ∧ h.1 219 = pat 140
/-- the class's (the model's) part stays -/
def sC (h h' : HP) : Prop := (∀ n, n < 200 → h'.1 n = h.1 n ∧ h'.2.1 n = h.2.1 n) ∧ h'.2.2 = h.2.2
def sM (h h' : HP) : Prop := ∀ n, 200 ≤ n → h'.1 n = h.1 n ∧ h'.2.1 n = h.2.1 n
theorem cT_of {h h' : HP} {t : Nat} {x : TX} (hs : sC h h') (ht : t + 2 < 200) (hc : cT h t x) : cT h' t x := by
  obtain ⟨⟨h1, h2, h3⟩, h4⟩ := hc
  refine ⟨⟨h1, by rw [(hs.1 t (by omega)).1]; exact h2, h3⟩, fun p hp => ?_⟩
  rw [(hs.1 (t + 1) (by omega)).1]
  exact h4 p hp
theorem cE_of {h h' : HP} {t : Nat} {x : TX} (hs : sC h h') (ht : t + 2 < 200) (hc : cE h t x) : cE h' t x := by
  intro p hp
  rw [(hs.1 (t + 2) (by omega)).1]
  exact hc p hp
theorem CA_of {S : SG} {h h' : HP} (hs : sC h h') (hw : WF S) (hc : CA S h) : CA S h' := by
  obtain ⟨h1, h2, h3, h4, h5⟩ := hc
  refine ⟨cT_of hs (by decide) h1, fun j hj => by rw [(hs.1 1 (by decide)).2]; exact h2 j hj, fun f hf => ?_, by rw [(hs.1 3 (by decide)).1]; exact h4, fun i hi => ?_⟩
  · obtain ⟨a, b⟩ := h3 f hf
    exact ⟨by rw [(hs.1 (17 + f) (by omega)).1]; exact a, fun q => ⟨cT_of hs (by omega) (b q).1, cE_of hs (by omega) (b q).2⟩⟩
  · obtain ⟨a, b, c⟩ := h5 i hi
    have hi2 : i < 16 := Nat.lt_of_lt_of_le hi hw.2.2.2.1
    exact ⟨cT_of hs (by omega) a, cE_of hs (by omega) b, by rw [(hs.1 8 (by decide)).1]; exact c⟩
theorem mT_of {h h' : HP} {o : Nat} {x : TX} (hs : sM h h') (hc : mT h o x) : mT h' o x := by
  intro p hp
  rw [(hs 201 (by decide)).1]
  exact hc p hp
theorem MA_of {S : SG} {h h' : HP} (hs : sM h h') (hc : MA S h) : MA S h' := by
  obtain ⟨⟨h1, h1b⟩, h2, h3, h4, h5, h6⟩ := hc
  refine ⟨⟨by rw [(hs 200 (by decide)).1]; exact h1, mT_of hs h1b⟩, fun j hj => by rw [(hs 202 (by decide)).2]; exact h2 j hj, fun f hf => ?_, by rw [(hs 200 (by decide)).1]; exact h4, fun i hi => ?_, by rw [(hs 219 (by decide)).1]; exact h6⟩
  · obtain ⟨a, b⟩ := h3 f hf
    exact ⟨by rw [(hs 203 (by decide)).1]; exact a, fun q => mT_of hs (b q)⟩
  · obtain ⟨a, b, c⟩ := h5 i hi
    exact ⟨by rw [(hs 204 (by decide)).1]; exact a, mT_of hs b, by rw [(hs 205 (by decide)).1]; exact c⟩
-- the easy answers
def q_rests (S : SG) (i : Int32) : Int32 := if i < 0 then -1 else if nI (gC S) ≤ i then -1 else gRs S i.toNatClampNeg
def q_theorem (S : SG) (i k : Int32) : Int32 := if i < 0 then -1 else if nI (gC S) ≤ i then -1 else if k < 0 then -1 else if nI (gT S i.toNatClampNeg).1 ≤ k then -1 else (gT S i.toNatClampNeg).2.1 k.toNatClampNeg
theorem c_has {S : SG} {h : HP} {i : Int32} (hc : CA S h) : s_Laws_has 3 i h = some (if i < 0 then 0 else if nI (gC S) ≤ i then 0 else 1) := by
  unfold s_Laws_has
  rw [rI_3_2, ob_s, hc.2.2.2.1]
  (repeat' split) <;> rfl
theorem m_is {S : SG} {h : HP} {i : Int32} (hc : MA S h) : s_AdjoinedSetsModel_isTheorem 200 i h = some (if i < 0 then 0 else if nI (gC S) ≤ i then 0 else 1) := by
  unfold s_AdjoinedSetsModel_isTheorem
  rw [rI_200_4, ob_s, hc.2.2.2.1]
  (repeat' split) <;> rfl
theorem c_theorems {S : SG} {h : HP} (hc : CA S h) : s_AdjoinedSets_theorems 0 h = some (nI (gC S)) := by
  unfold s_AdjoinedSets_theorems s_Laws_count
  rw [rR_0_3, ob_s, rK_3, ob_s, rI_3_2, ob_s, ob_s, hc.2.2.2.1]
theorem m_theorems {S : SG} {h : HP} (hc : MA S h) : s_AdjoinedSetsModel_theorems 200 h = some (nI (gC S)) := by
  unfold s_AdjoinedSetsModel_theorems
  rw [rI_200_4, ob_s, hc.2.2.2.1]
theorem c_rests {S : SG} {h : HP} {i : Int32} (hw : WF S) (hc : CA S h) : s_AdjoinedSets_rests 0 i h = some (q_rests S i) := by
  have h16 : gC S ≤ 16 := hw.2.2.2.1
  unfold s_AdjoinedSets_rests q_rests
  rw [rR_0_3, ob_s, rK_3, ob_s, c_has hc, ob_s]
  rcases pk_ix i (n := gC S) (by omega) with h1 | h1 | ⟨j, hj, rfl⟩
  · simp [h1]
  · by_cases h2 : i < 0 <;> simp [h1, h2]
  · have a := nI_pos (n := j) (by omega)
    have b := nI_ge hj (by omega)
    simp only [a, b, if_false]
    rw [if_neg (by decide), ob_s, rK_3, ob_s]
    unfold s_Laws_restsOf
    rw [rR_3_1, ob_s, rA_8 (by omega), ob_s, ob_s, nI_clamp (by omega), (hc.2.2.2.2 j hj).2.2]
theorem m_rests {S : SG} {h : HP} {i : Int32} (hw : WF S) (hc : MA S h) : s_AdjoinedSetsModel_rests 200 i h = some (q_rests S i) := by
  have h16 : gC S ≤ 16 := hw.2.2.2.1
  unfold s_AdjoinedSetsModel_rests q_rests
  rw [rK_200, ob_s, m_is hc, ob_s]
  rcases pk_ix i (n := gC S) (by omega) with h1 | h1 | ⟨j, hj, rfl⟩
  · simp [h1]
  · by_cases h2 : i < 0 <;> simp [h1, h2]
  · have a := nI_pos (n := j) (by omega)
    have b := nI_ge hj (by omega)
    simp only [a, b, if_false]
    rw [if_neg (by decide), rR_200_6, ob_s, rA_205 (by omega), ob_s, nI_clamp (by omega), (hc.2.2.2.2.1 j hj).2.2]
