/-! The model's reader reads as PT says. -/
def MQ2 (own lm : Int32) (n : Nat) (res : Nat ⊕ Nat) (w p r : Nat) (h : HP) : Prop := match res with
  | .inl e => ∃ h', s_AdjoinedSetsModel_wrong_20 r 200 own lm (nI p) h = some (nI e, h') ∧ o200 h h' ∧ e ≤ n
  | .inr e => ∃ h' r', p ≤ e ∧ e ≤ n ∧ r' + e = r + p ∧ low w h h' ∧ h'.1 200 7 = nI w ∧ s_AdjoinedSetsModel_wrong_20 r 200 own lm (nI p) h = s_AdjoinedSetsModel_wrong_20 r' 200 own lm (nI e) h'
theorem o200.tr {a b c : HP} (h1 : o200 a b) (h2 : o200 b c) : o200 a c := ⟨fun m x y => (h2.1 m x y).trans (h1.1 m x y), h2.2.1.trans h1.2.1, fun j x y => (h2.2.2 j x y).trans (h1.2.2 j x y)⟩
theorem MQ2.pre {own lm : Int32} {n w p r p0 r0 : Nat} {res : Nat ⊕ Nat} {h h0 : HP} (he : s_AdjoinedSetsModel_wrong_20 r 200 own lm (nI p) h = s_AdjoinedSetsModel_wrong_20 r0 200 own lm (nI p0) h0) (hl : low w h h0) (hp : p ≤ p0) (hr : r0 + p0 = r + p) (hq : MQ2 own lm n res w p0 r0 h0) : MQ2 own lm n res w p r h := by
  cases res with
  | inl e =>
    obtain ⟨h', a, b, c⟩ := hq
    exact ⟨h', he.trans a, hl.1.tr b, c⟩
  | inr e =>
    obtain ⟨h', r', a, b, c, d, e1, f⟩ := hq
    exact ⟨h', r', by omega, b, by omega, hl.tr (Nat.le_refl _) d, e1, he.trans f⟩
theorem go2 (c own lm bo me : Int32) (h : HP) : s_AdjoinedSetsModel_goesOn 200 c 2 own lm bo me h = some (if 97 ≤ c ∧ c < 105 then 1 else 0) := by
  unfold s_AdjoinedSetsModel_goesOn
  rw [if_pos rfl, ml_low, ob_s]
  split <;> rfl
section MODEL
variable {k : Nat → Nat} {n : Nat} {t : Nat → Int32} {ow lm : Int32} {ok lt d : Nat}
def MG (k : Nat → Nat) (n : Nat) (t : Nat → Int32) (ow lm : Int32) (ok lt d : Nat) : Prop := ∀ (b : Bool) (sc : Nat → Nat) (bo me : Int32) (p : Nat) (h : HP) (w r : Nat), rel sc bo me → p ≤ n → MR (kk k ow ok) n t h → w ≤ 2 * p → h.1 200 7 = nI (w + 1) → itm h w (bI b) bo me (nI (13 - d)) → 100 ≤ r + p → MQ2 ow lm n (PT k n t ow ok lt d b sc p) w p r h
theorem MG_sq (hG : MG k n t ow lm ok lt d) (b : Bool) (sc : Nat → Nat) (bo me : Int32) (hr : rel sc bo me) : ∀ (m p : Nat) (h : HP) (w r : Nat), p ≤ n → MR (kk k ow ok) n t h → w + m ≤ 2 * p + 1 → h.1 200 7 = nI (w + m) → (∀ q, q < m → itm h (w + q) (bI b) bo me (nI (13 - d))) → 100 ≤ r + p → MQ2 ow lm n (sq (PT k n t ow ok lt d b sc) m p) w p r h := by
  intro m
  induction m with
  | zero =>
    intro p h w r hp hm hw h7 hi h1
    exact ⟨h, r, Nat.le_refl _, hp, rfl, low.rf w h, h7, rfl⟩
  | succ m ih =>
    intro p h w r hp hm hw h7 hi h1
    have A := hG b sc bo me p h (w + m) r hr hp hm (by omega) h7 (hi m (by omega)) h1
    show MQ2 ow lm n (match PT k n t ow ok lt d b sc p with | .inl w => .inl w | .inr q => sq (PT k n t ow ok lt d b sc) m q) w p r h
    cases hP : PT k n t ow ok lt d b sc p with
    | inl e => rw [hP] at A; exact A
    | inr q =>
      rw [hP] at A
      obtain ⟨h1', r1, l1, l2, l3, l4, l5, l6⟩ := A
      exact MQ2.pre l6 (l4.le (by omega)) l1 l3 (ih q h1' w r1 l2 (MR.o l4.1 hm) (by omega) l5 (fun x hx => l4.itm (by omega) (hi x (by omega))) (by omega))
theorem MG_bn (hG : MG k n t ow lm ok lt d) (hn : n ≤ 60) (b : Bool) (sc : Nat → Nat) (bo me bo' me' : Int32) (hr : rel sc bo me) (p : Nat) (hp : p < n) (hr' : 97 ≤ chr n t (p + 1) ∧ chr n t (p + 1) < 105 → rel (upS sc (lwN (chr n t (p + 1))) (if chr n t (p + 2) = 97 ∧ sc 0 = 0 then 2 else 1)) bo' me') (h : HP) (w r : Nat) (hm : MR (kk k ow ok) n t h) (hw : w ≤ 2 * p) (h7 : h.1 200 7 = nI (w + 3)) (i0 : itm h w (bI b) bo' me' (nI (13 - d))) (i1 : itm h (w + 1) 0 bo me (nI (13 - d))) (i2 : itm h (w + 2) 2 bo me (nI (13 - d))) (h1 : 100 ≤ r + (p + 1)) : MQ2 ow lm n (bn n t (PT k n t ow ok lt d) b sc p) w (p + 1) r h := by
  obtain ⟨r, rfl⟩ : ∃ r0, r = r0 + 1 := ⟨r - 1, by omega⟩
  unfold bn
  by_cases c1 : p + 1 < n
  · have ct : chr n t (p + 1) = t (p + 1) := if_pos c1
    obtain ⟨h', a1, a2, a3, a4⟩ := m_iter (w := w + 2) (r := r) (own := ow) (lt := lm) hn c1 hm (by omega) h7 i2
    rw [if_neg (fun q => q.1 rfl), go2, ob_s] at a4
    by_cases c2 : 97 ≤ chr n t (p + 1) ∧ chr n t (p + 1) < 105
    · rw [← ct, if_pos c2, if_neg (by decide), if_neg (by decide)] at a4
      rw [if_pos c2]
      have A := hG false sc bo me (p + 2) h' (w + 1) r hr (by omega) (MR.o (a1 0).1 hm) (by omega) a2 ((a1 (w + 2)).itm (by omega) i1) (by omega)
      cases hP : PT k n t ow ok lt d false sc (p + 2) with
      | inl e =>
        rw [hP] at A
        exact MQ2.pre a4 (a1 w) (by omega) (by omega) (res := .inl e) A
      | inr q =>
        rw [hP] at A
        obtain ⟨h2, r1, l1, l2, l3, l4, l5, l6⟩ := A
        have hm2 := MR.o l4.1 (MR.o (a1 0).1 hm)
        have B := hG b _ bo' me' q h2 w r1 (hr' c2) l2 hm2 (by omega) l5 (l4.itm (by omega) ((a1 (w + 2)).itm (by omega) i0)) (by omega)
        exact MQ2.pre (a4.trans l6) ((a1 w).tr (Nat.le_refl _) (l4.le (by omega))) (by omega) (by omega) B
    · rw [← ct, if_neg c2, if_pos rfl] at a4
      rw [if_neg c2]
      exact ⟨h', a4, (a1 0).1, by omega⟩
  · have e : p + 1 = n := by omega
    have ct : chr n t (p + 1) = 0 := if_neg c1
    rw [ct, if_neg (by decide)]
    have a4 := m_end (w := w + 2) (r := r) (own := ow) (lt := lm) hn hm (by omega) h7
    rw [← e] at a4
    exact ⟨h, a4, (low.rf 0 h).1, by omega⟩
/-- a character with m parts, none of them a member's name -/
theorem MG_n (hG : MG k n t ow lm ok lt d) (b : Bool) (sc : Nat → Nat) (bo me c : Int32) (hr : rel sc bo me) (p : Nat) (hp : p < n) (hn : n ≤ 60) (h h1 : HP) (w r m : Nat) (hm : MR (kk k ow ok) n t h) (hw : w ≤ 2 * p) (hl : low w h h1) (h7 : h1.1 200 7 = nI w) (h12 : h1.1 200 12 = nI (13 - d)) (he : s_AdjoinedSetsModel_wrong_20 (r + 1) 200 ow lm (nI p) h = (s_AdjoinedSetsModel_wantParts 200 (nI p) c ow bo me h1).bind fun q => s_AdjoinedSetsModel_wrong_20 r 200 ow lm (nI (p + 1)) q) (hk : s_AdjoinedSetsModel_wantParts 200 (nI p) c ow bo me h1 = s_AdjoinedSetsModel_wantParts_29 200 (nI p) c ow bo me (bI b) h1) (hb : s_AdjoinedSetsModel_isBinder c = some 0) (hpo : s_AdjoinedSetsModel_partsOf 200 c h1 = some (nI m)) (m1 : 1 ≤ m) (m3 : m ≤ 3) (hf : ¬ ((65 ≤ c ∧ c < 69) ∧ c - 65 = ow)) (h100 : 100 ≤ r + 1 + p) : MQ2 ow lm n (sq (PT k n t ow ok lt d b sc) m (p + 1)) w p (r + 1) h := by
  obtain ⟨h2, f, a1, a2, a3, a4⟩ := wp_n (u := bI b) hk hb hpo m1 m3 (by rw [if_neg hf]) (by omega) h7
  rw [f, ob_s] at he
  rw [h12] at a3 a4
  have hm2 := MR.o a1.1 (MR.o hl.1 hm)
  refine MQ2.pre he (hl.tr (Nat.le_refl _) a1) (by omega) (by omega) (MG_sq hG b sc bo me hr m (p + 1) h2 w r (by omega) hm2 (by omega) a2 (fun q hq => ?_) (by omega))
  by_cases e : q = m - 1
  · rw [e]; exact a4
  · exact a3 q (by omega)
theorem MG_b (hG : MG k n t ow lm ok lt d) (b : Bool) (sc : Nat → Nat) (bo me c : Int32) (hr : rel sc bo me) (p : Nat) (hp : p < n) (hn : n ≤ 60) (h h1 : HP) (w r : Nat) (hm : MR (kk k ow ok) n t h) (hw : w ≤ 2 * p) (hl : low w h h1) (h7 : h1.1 200 7 = nI w) (h12 : h1.1 200 12 = nI (13 - d)) (he : s_AdjoinedSetsModel_wrong_20 (r + 1) 200 ow lm (nI p) h = (s_AdjoinedSetsModel_wantParts 200 (nI p) c ow bo me h1).bind fun q => s_AdjoinedSetsModel_wrong_20 r 200 ow lm (nI (p + 1)) q) (hk : s_AdjoinedSetsModel_wantParts 200 (nI p) c ow bo me h1 = s_AdjoinedSetsModel_wantParts_29 200 (nI p) c ow bo me 0 h1) (hb : s_AdjoinedSetsModel_isBinder c = some 1) (hkB : kB c = bI b) (h100 : 100 ≤ r + 1 + p) : MQ2 ow lm n (bn n t (PT k n t ow ok lt d) b sc p) w p (r + 1) h := by
  have hm1 := MR.o hl.1 hm
  obtain ⟨h2, bo', me', f, a1, a2, a3, a4, a5, a6⟩ := wp_b (own := ow) hk hb hn hm1 hr hp (by omega) h7
  rw [f, ob_s] at he
  rw [h12] at a3 a4 a5
  rw [hkB] at a3
  exact MQ2.pre he (hl.tr (Nat.le_refl _) a1) (by omega) (by omega) (MG_bn hG hn b sc bo me bo' me' hr p hp a6 h2 w r (MR.o a1.1 hm1) hw a2 a3 a4 a5 (by omega))
end MODEL
