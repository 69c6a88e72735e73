/-! Rule 9. -/
theorem ok_t {S : SG} (hw : WF S) {i : Nat} (hi : i < gC S) : ∀ p, p < (gT S i).1 → okC ((gT S i).2.1 p) := (hw.2.2.2.2 i hi).2.1
theorem tx_t {S : SG} {h : HP} (hc : CA S h) {i : Nat} (hi : i < gC S) : cT h (118 + 3 * i) (gT S i) ∧ cE h (118 + 3 * i) (gT S i) := ⟨(hc.2.2.2.2 i hi).1, (hc.2.2.2.2 i hi).2.1⟩
theorem thAt {i : Nat} : s_AdjoinedSetsModel_theoremAt 200 (nI i) = some (nI (100 + 60 * i)) := by
  unfold s_AdjoinedSetsModel_theoremAt
  rw [show (100 : Int32) = nI 100 from rfl, show (60 : Int32) = nI 60 from rfl, pk_mul, nI_add]
theorem len_t {h : HP} {t : Nat} {x : TX} (hc : cT h t x) : s_Text_length t h = some (nI x.1) := p_length hc.1
theorem nI_inj {a b : Nat} (ha : a < 2 ^ 20) (hb : b < 2 ^ 20) : nI a = nI b ↔ a = b := nI_eq (by omega) (by omega)
theorem al_9 {S : SG} {E : Nat → Int32} {i j : Int32} (hw : WF S) (hv : vld S 9 i j) : ALR S E 9 i j := by
  obtain ⟨a, ha, rfl⟩ := thm_j hw (hv.1 (by omega))
  obtain ⟨b, hb, rfl⟩ := thm_j hw (hv.2.1 (by omega))
  have h16 := hw.2.2.2.1
  have n60 := hw.1.1
  have a60 := (hw.2.2.2.2 a ha).1
  have b60 := (hw.2.2.2.2 b hb).1
  have cl : ∀ h, CA S h → ((((gT S b).1 = 1 + (gT S a).1 + (gB S).1 ∧ (gT S b).2.1 0 = 62 ∧ eqt (gT S b).1 (gT S b).2.1 1 (gT S a).2.1 0 (gT S a).1 ∧ eqt (gT S b).1 (gT S b).2.1 (1 + (gT S a).1) (gB S).2.1 0 (gB S).1) → s_Rules_allow 6 9 (nI a) (nI b) h = some (1, h)) ∧ (¬ ((gT S b).1 = 1 + (gT S a).1 + (gB S).1 ∧ (gT S b).2.1 0 = 62 ∧ eqt (gT S b).1 (gT S b).2.1 1 (gT S a).2.1 0 (gT S a).1 ∧ eqt (gT S b).1 (gT S b).2.1 (1 + (gT S a).1) (gB S).2.1 0 (gB S).1) → s_Rules_allow 6 9 (nI a) (nI b) h = some (0, h))) := by
    intro h hc
    obtain ⟨ca, _⟩ := tx_t hc ha
    obtain ⟨cb, _⟩ := tx_t hc hb
    have cB := hc.1
    have e0 : ∀ v, s_Rules_isDetached 6 (118 + 3 * a) (118 + 3 * b) h = some v → (v = 0 ∨ v = 1) → s_Rules_allow 6 9 (nI a) (nI b) h = some (v, h) := by
      intro v hd hv
      have hz : zr v = some () := by rcases hv with rfl | rfl <;> rfl
      unfold s_Rules_allow
      rw [if_neg (by decide), if_neg (by decide), if_neg (by decide), if_neg (by decide), if_neg (by decide), if_neg (by decide), if_neg (by decide), if_neg (by decide), if_neg (by decide), if_pos rfl, rR_6_2, ob_s, rK_3, ob_s, c_text (by omega), ob_s, ob_s, rK_3, ob_s, c_text (by omega), ob_s, rK_6, ob_s, hd, ob_s, hz, ob_s]
    have e1 : nI (1 + (gT S a).1) + nI (gB S).1 = nI (1 + (gT S a).1 + (gB S).1) := nI_add _ _
    have e2 : 1 + nI (gT S a).1 = nI (1 + (gT S a).1) := by rw [show (1 : Int32) = nI 1 from rfl, nI_add]
    have hd : s_Rules_isDetached 6 (118 + 3 * a) (118 + 3 * b) h = if nI (gT S b).1 = nI (1 + (gT S a).1 + (gB S).1) then (s_Text_at (118 + 3 * b) 0 h).bind fun q14 => if q14 = 62 then (s_Text_has (118 + 3 * b) 1 (118 + 3 * a) 0 (nI (gT S a).1) h).bind fun q21 => if q21 = 0 then some 0 else (s_Text_has (118 + 3 * b) (nI (1 + (gT S a).1)) 100 0 (nI (gB S).1) h).bind fun q32 => if q32 = 0 then some 0 else some 1 else some 0 else some 0 := by
      unfold s_Rules_isDetached
      rw [t_kd ca.1.1, t_kd cb.1.1, len_t ca, len_t cb]
      simp only [ob_s, rR_6_0, rK_100, len_t cB, e1, e2]
    by_cases p1 : (gT S b).1 = 1 + (gT S a).1 + (gB S).1
    rotate_left
    · have : s_Rules_isDetached 6 (118 + 3 * a) (118 + 3 * b) h = some 0 := by rw [hd, if_neg (fun q => p1 ((nI_inj (by omega) (by omega)).mp q))]
      exact ⟨fun q => absurd q.1 p1, fun _ => e0 0 this (Or.inl rfl)⟩
    rw [if_pos (by rw [p1]), show (0 : Int32) = nI 0 from rfl, at_h cb (by omega), ob_s] at hd
    by_cases p2 : (gT S b).2.1 0 = 62
    rotate_left
    · rw [if_neg p2] at hd
      exact ⟨fun q => absurd q.2.1 p2, fun _ => e0 0 hd (Or.inl rfl)⟩
    rw [if_pos p2] at hd
    have g1 := c_hs cb ca (ok_t hw hb) (a := 1) (f := 0) (to := (gT S a).1) (by omega) (Nat.le_refl _) (by omega)
    rw [Nat.sub_zero] at g1
    by_cases p3 : eqt (gT S b).1 (gT S b).2.1 1 (gT S a).2.1 0 (gT S a).1
    rotate_left
    · rw [show s_Text_has (118 + 3 * b) 1 (118 + 3 * a) (nI 0) (nI (gT S a).1) h = some 0 from g1.2 p3, ob_s, if_pos (show (0 : Int32) = nI 0 from rfl)] at hd
      exact ⟨fun q => absurd q.2.2.1 p3, fun _ => e0 0 hd (Or.inl rfl)⟩
    rw [show s_Text_has (118 + 3 * b) 1 (118 + 3 * a) (nI 0) (nI (gT S a).1) h = some 1 from g1.1 p3, ob_s, if_neg (by decide)] at hd
    have g2 := c_hs cb cB (ok_t hw hb) (a := 1 + (gT S a).1) (f := 0) (to := (gB S).1) (by omega) (Nat.le_refl _) (by omega)
    rw [Nat.sub_zero] at g2
    by_cases p4 : eqt (gT S b).1 (gT S b).2.1 (1 + (gT S a).1) (gB S).2.1 0 (gB S).1
    · rw [g2.1 p4, ob_s, if_neg (by decide)] at hd
      exact ⟨fun _ => e0 1 hd (Or.inr rfl), fun q => absurd ⟨p1, p2, p3, p4⟩ q⟩
    · rw [g2.2 p4, ob_s, if_pos (show (0 : Int32) = nI 0 from rfl)] at hd
      exact ⟨fun q => absurd q.2.2.2 p4, fun _ => e0 0 hd (Or.inl rfl)⟩
  have ml : ∀ H, MA S H → ((((gT S b).1 = 1 + (gT S a).1 + (gB S).1 ∧ (gT S b).2.1 0 = 62 ∧ eqt (gT S b).1 (gT S b).2.1 1 (gT S a).2.1 0 (gT S a).1 ∧ eqt (gT S b).1 (gT S b).2.1 (1 + (gT S a).1) (gB S).2.1 0 (gB S).1) → s_AdjoinedSetsModel_allows 200 9 (nI a) (nI b) H = some (1, H)) ∧ (¬ ((gT S b).1 = 1 + (gT S a).1 + (gB S).1 ∧ (gT S b).2.1 0 = 62 ∧ eqt (gT S b).1 (gT S b).2.1 1 (gT S a).2.1 0 (gT S a).1 ∧ eqt (gT S b).1 (gT S b).2.1 (1 + (gT S a).1) (gB S).2.1 0 (gB S).1) → s_AdjoinedSetsModel_allows 200 9 (nI a) (nI b) H = some (0, H))) := by
    intro H hm
    obtain ⟨ma1, ma2, _⟩ := hm.2.2.2.2.1 a ha
    obtain ⟨mb1, mb2, _⟩ := hm.2.2.2.2.1 b hb
    have e0 : ∀ v, s_AdjoinedSetsModel_follows 200 (nI a) (nI b) H = some v → (v = 0 ∨ v = 1) → s_AdjoinedSetsModel_allows 200 9 (nI a) (nI b) H = some (v, H) := by
      intro v hd hv
      have hz : zr v = some () := by rcases hv with rfl | rfl <;> rfl
      unfold s_AdjoinedSetsModel_allows
      rw [if_neg (by decide), if_neg (by decide), if_neg (by decide), if_neg (by decide), if_neg (by decide), if_neg (by decide), if_neg (by decide), if_neg (by decide), if_neg (by decide), if_pos rfl, rK_200, ob_s, hd, ob_s, hz, ob_s]
    have e1 : 1 + nI (gT S a).1 + nI (gB S).1 = nI (1 + (gT S a).1 + (gB S).1) := by rw [show (1 : Int32) = nI 1 from rfl, nI_add, nI_add]
    have e2 : nI (100 + 60 * b) + 1 = nI (100 + 60 * b + 1) := nI_1 _
    have e3 : nI (100 + 60 * b + 1) + nI (gT S a).1 = nI (100 + 60 * b + (1 + (gT S a).1)) := by rw [nI_add]; congr 1; omega
    have hd : s_AdjoinedSetsModel_follows 200 (nI a) (nI b) H = if nI (gT S b).1 = nI (1 + (gT S a).1 + (gB S).1) then (if H.1 201 (100 + 60 * b) = 62 then (s_AdjoinedSetsModel_isSame 200 (nI (100 + 60 * b + 1)) (nI (100 + 60 * a)) (nI (gT S a).1) H).bind fun q28 => if q28 = 0 then some 0 else (s_AdjoinedSetsModel_isSame 200 (nI (100 + 60 * b + (1 + (gT S a).1))) 0 (nI (gB S).1) H).bind fun q38 => if q38 = 0 then some 0 else some 1 else some 0) else some 0 := by
      unfold s_AdjoinedSetsModel_follows
      simp only [rK_200, ob_s, thAt, rR_200_5, rA_204 (show b < 16 by omega), rA_204 (show a < 16 by omega), ma1, mb1, rI_200_1, hm.1.1, e1, rR_200_0, rA_201 (show 100 + 60 * b < 1500 by omega), e2, e3]
    by_cases p1 : (gT S b).1 = 1 + (gT S a).1 + (gB S).1
    rotate_left
    · have : s_AdjoinedSetsModel_follows 200 (nI a) (nI b) H = some 0 := by rw [hd, if_neg (fun q => p1 ((nI_inj (by omega) (by omega)).mp q))]
      exact ⟨fun q => absurd q.1 p1, fun _ => e0 0 this (Or.inl rfl)⟩
    rw [if_pos (by rw [p1]), show H.1 201 (100 + 60 * b) = (gT S b).2.1 0 from mb2 0 (by omega)] at hd
    by_cases p2 : (gT S b).2.1 0 = 62
    rotate_left
    · rw [if_neg p2] at hd
      exact ⟨fun q => absurd q.2.1 p2, fun _ => e0 0 hd (Or.inl rfl)⟩
    rw [if_pos p2] at hd
    have g1 := m_sm2 mb2 ma2 (a := 1) (f := 0) (m := (gT S a).1) (by omega) (by omega) (by omega) (by omega)
    by_cases p3 : eqt (gT S b).1 (gT S b).2.1 1 (gT S a).2.1 0 (gT S a).1
    rotate_left
    · rw [show s_AdjoinedSetsModel_isSame 200 (nI (100 + 60 * b + 1)) (nI (100 + 60 * a)) (nI (gT S a).1) H = some 0 from g1.2 p3, ob_s, if_pos rfl] at hd
      exact ⟨fun q => absurd q.2.2.1 p3, fun _ => e0 0 hd (Or.inl rfl)⟩
    rw [show s_AdjoinedSetsModel_isSame 200 (nI (100 + 60 * b + 1)) (nI (100 + 60 * a)) (nI (gT S a).1) H = some 1 from g1.1 p3, ob_s, if_neg (by decide)] at hd
    have g2 := m_sm2 mb2 hm.1.2 (a := 1 + (gT S a).1) (f := 0) (m := (gB S).1) (by omega) (by omega) (by omega) (by omega)
    by_cases p4 : eqt (gT S b).1 (gT S b).2.1 (1 + (gT S a).1) (gB S).2.1 0 (gB S).1
    · rw [show s_AdjoinedSetsModel_isSame 200 (nI (100 + 60 * b + (1 + (gT S a).1))) 0 (nI (gB S).1) H = some 1 from g2.1 p4, ob_s, if_neg (by decide)] at hd
      exact ⟨fun _ => e0 1 hd (Or.inr rfl), fun q => absurd ⟨p1, p2, p3, p4⟩ q⟩
    · rw [show s_AdjoinedSetsModel_isSame 200 (nI (100 + 60 * b + (1 + (gT S a).1))) 0 (nI (gB S).1) H = some 0 from g2.2 p4, ob_s, if_pos rfl] at hd
      exact ⟨fun q => absurd q.2.2.2 p4, fun _ => e0 0 hd (Or.inl rfl)⟩
  by_cases hP : (gT S b).1 = 1 + (gT S a).1 + (gB S).1 ∧ (gT S b).2.1 0 = 62 ∧ eqt (gT S b).1 (gT S b).2.1 1 (gT S a).2.1 0 (gT S a).1 ∧ eqt (gT S b).1 (gT S b).2.1 (1 + (gT S a).1) (gB S).2.1 0 (gB S).1
  · exact ⟨1, Or.inr rfl, fun h hc _ => ⟨h, (cl h hc).1 hP, kq.rf h⟩, fun H hm => ⟨H, (ml H hm).1 hP, hm, sC.rf H⟩⟩
  · exact ⟨0, Or.inl rfl, fun h hc _ => ⟨h, (cl h hc).2 hP, kq.rf h⟩, fun H hm => ⟨H, (ml H hm).2 hP, hm, sC.rf H⟩⟩
