/-! Rule 12: the model's search, and both. -/
section
variable {S : SG} {E : Nat → Int32} {a b : Nat} {F : Int32}
def R12 (S : SG) (E : Nat → Int32) (a b x y : Nat) : Prop := y ≠ x ∧ fv (gB S).2.1 E 12 0 y = false ∧ P12 S E (gT S a) z0 x 1 1 0 ∧ D12 S b ∧ P12 S E (gT S b) (zA x y) x 3 2 (1 + (gB S).1)
theorem m_yl {c12 : Nat → Int32 → Int32 → Int32 → Int32 → Int32 → HP → Option (Int32 × HP)} {x : Nat} (hw : WF S) (hK : KD (gK S) (gB S).2.1 E 12 true 0 (gB S).1) (ha : a < gC S) (hb : b < gC S) (hx : x < 8) (hF : MSK F (fv (gB S).2.1 E 12 0)) : ∀ (m y r : Nat) (H : HP), y + m = 8 → m + 1 < r → MA S H → ((∃ y', y ≤ y' ∧ y' < 8 ∧ R12 S E a b x y') → ∃ H', s_AdjoinedSetsModel_isInduced_22 c12 r 200 (nI a) (nI b) F 0 (nI x) (nI y) H = c12 200 (nI a) (nI b) F 1 (nI (x + 1)) H' ∧ oS H H') ∧ (¬ (∃ y', y ≤ y' ∧ y' < 8 ∧ R12 S E a b x y') → ∃ H', s_AdjoinedSetsModel_isInduced_22 c12 r 200 (nI a) (nI b) F 0 (nI x) (nI y) H = c12 200 (nI a) (nI b) F 0 (nI (x + 1)) H' ∧ oS H H') := by
  intro m
  induction m with
  | zero =>
    intro y r H h1 h2 hm
    obtain ⟨r, rfl⟩ : ∃ r0, r = r0 + 1 := ⟨r - 1, by omega⟩
    refine ⟨fun ⟨y', z1, z2, _⟩ => absurd z1 (by omega), fun _ => ⟨H, ?_, oS.rf H⟩⟩
    rw [s_AdjoinedSetsModel_isInduced_22]
    dsimp only
    unfold s_AdjoinedSetsModel_isInduced_76
    rw [if_pos (show 8 ≤ nI y from nI_le (a := 8) (by omega) (by omega)), nI_1]
  | succ m ih =>
    intro y r H h1 h2 hm
    obtain ⟨r, rfl⟩ : ∃ r0, r = r0 + 1 := ⟨r - 1, by omega⟩
    have hy : y < 8 := by omega
    have next : ∀ H2, oS H H2 → MA S H2 → ¬ R12 S E a b x y → s_AdjoinedSetsModel_isInduced_22 c12 (r + 1) 200 (nI a) (nI b) F 0 (nI x) (nI y) H = s_AdjoinedSetsModel_isInduced_22 c12 r 200 (nI a) (nI b) F 0 (nI x) (nI (y + 1)) H2 → ((∃ y', y ≤ y' ∧ y' < 8 ∧ R12 S E a b x y') → ∃ H', s_AdjoinedSetsModel_isInduced_22 c12 (r + 1) 200 (nI a) (nI b) F 0 (nI x) (nI y) H = c12 200 (nI a) (nI b) F 1 (nI (x + 1)) H' ∧ oS H H') ∧ (¬ (∃ y', y ≤ y' ∧ y' < 8 ∧ R12 S E a b x y') → ∃ H', s_AdjoinedSetsModel_isInduced_22 c12 (r + 1) 200 (nI a) (nI b) F 0 (nI x) (nI y) H = c12 200 (nI a) (nI b) F 0 (nI (x + 1)) H' ∧ oS H H') := by
      intro H2 o2 m2 hn e2
      obtain ⟨i1, i2⟩ := ih (y + 1) r H2 (by omega) (by omega) m2
      rw [e2]
      constructor
      · intro ⟨y', z1, z2, z3⟩
        have hne : y' ≠ y := fun z => hn (by rw [← z]; exact z3)
        obtain ⟨H', a1, a2⟩ := i1 ⟨y', by omega, z2, z3⟩
        exact ⟨H', a1, o2.tr a2⟩
      · intro z
        obtain ⟨H', a1, a2⟩ := i2 (fun ⟨y', z1, z2, z3⟩ => z ⟨y', by omega, z2, z3⟩)
        exact ⟨H', a1, o2.tr a2⟩
    obtain ⟨H', o', g1, g2⟩ := m_ind (E := E) (x := x) (y := y) hw hK ha hb hx hy hm
    have e0 : s_AdjoinedSetsModel_isInduced_22 c12 (r + 1) 200 (nI a) (nI b) F 0 (nI x) (nI y) H = if nI x = nI y then s_AdjoinedSetsModel_isInduced_22 c12 r 200 (nI a) (nI b) F 0 (nI x) (nI (y + 1)) H else if ((F >>> (nI y &&& 31)) &&& 1) = 0 then (s_AdjoinedSetsModel_isInduction 200 (nI a) (nI b) (nI x) (nI y) H).bind fun q2 => (if q2.1 = 0 then s_AdjoinedSetsModel_isInduced_22 c12 r 200 (nI a) (nI b) F 0 (nI x) (nI (y + 1)) q2.2 else s_AdjoinedSetsModel_isInduced_22 c12 r 200 (nI a) (nI b) F 1 (nI x) (nI (y + 1)) q2.2) else s_AdjoinedSetsModel_isInduced_22 c12 r 200 (nI a) (nI b) F 0 (nI x) (nI (y + 1)) H := by
      rw [s_AdjoinedSetsModel_isInduced_22]
      dsimp only
      unfold s_AdjoinedSetsModel_isInduced_67 s_AdjoinedSetsModel_isInduced_68
      rw [if_neg (show ¬ 8 ≤ nI y from nI_ge (b := 8) hy (by omega)), if_pos (show (0 : Int32) = 0 from rfl), rK_200, ob_s, nI_1]
    by_cases hyx : y = x
    · refine next H (oS.rf H) hm (fun z => z.1 hyx) ?_
      rw [e0, if_pos (by rw [hyx])]
    have hyx' : ¬ nI x = nI y := fun z => hyx ((nI_inj (by omega) (by omega)).mp z).symm
    by_cases hfy : fv (gB S).2.1 E 12 0 y = false
    rotate_left
    · refine next H (oS.rf H) hm (fun z => hfy z.2.1) ?_
      rw [e0, if_neg hyx', if_neg (fun z => hfy (by rw [← hF.2 y hy]; exact (tb_sh F hy).mp z))]
    have e0 := e0
    rw [if_neg hyx', if_pos ((tb_sh F hy).mpr (by rw [hF.2 y hy]; exact hfy))] at e0
    by_cases hP : P12 S E (gT S a) z0 x 1 1 0 ∧ D12 S b ∧ P12 S E (gT S b) (zA x y) x 3 2 (1 + (gB S).1)
    · rw [g1 hP, ob_s] at e0
      dsimp only at e0
      rw [if_neg (by decide)] at e0
      obtain ⟨r, rfl⟩ : ∃ r0, r = r0 + 1 := ⟨r - 1, by omega⟩
      refine ⟨fun _ => ⟨H', ?_, o'⟩, fun z => absurd ⟨y, Nat.le_refl _, hy, hyx, hfy, hP⟩ z⟩
      rw [e0, s_AdjoinedSetsModel_isInduced_22]
      dsimp only
      unfold s_AdjoinedSetsModel_isInduced_76
      rw [nI_1, if_neg (show ¬ (1 : Int32) = 0 by decide), ite_self]
    · rw [g2 hP, ob_s] at e0
      dsimp only at e0
      rw [if_pos rfl] at e0
      exact next H' o' (MA_oS hw o' hm) (fun z => hP z.2.2) e0
theorem m_xl1 : ∀ (m x r : Nat) (H : HP), x + m = 8 → m < r → s_AdjoinedSetsModel_isInduced_12 r 200 (nI a) (nI b) F 1 (nI x) H = some (1, H) := by
  intro m
  induction m with
  | zero =>
    intro x r H h1 h2
    obtain ⟨r, rfl⟩ : ∃ r0, r = r0 + 1 := ⟨r - 1, by omega⟩
    rw [s_AdjoinedSetsModel_isInduced_12]
    dsimp only
    rw [if_pos (show 8 ≤ nI x from nI_le (a := 8) (by omega) (by omega))]
    rfl
  | succ m ih =>
    intro x r H h1 h2
    obtain ⟨r, rfl⟩ : ∃ r0, r = r0 + 1 := ⟨r - 1, by omega⟩
    rw [s_AdjoinedSetsModel_isInduced_12]
    dsimp only
    rw [if_neg (show ¬ 8 ≤ nI x from nI_ge (b := 8) (by omega) (by omega)), show (20000 : Nat) = 19999 + 1 from rfl, s_AdjoinedSetsModel_isInduced_22]
    dsimp only
    unfold s_AdjoinedSetsModel_isInduced_76
    rw [if_neg (show ¬ (8 : Int32) ≤ 0 by decide), if_neg (show ¬ (1 : Int32) = 0 by decide), nI_1]
    exact ih (x + 1) r H (by omega) (by omega)
theorem m_xl (hw : WF S) (hK : KD (gK S) (gB S).2.1 E 12 true 0 (gB S).1) (ha : a < gC S) (hb : b < gC S) (hF : MSK F (fv (gB S).2.1 E 12 0)) : ∀ (m x r : Nat) (H : HP), x + m = 8 → m < r → MA S H → ((∃ x', x ≤ x' ∧ x' < 8 ∧ ∃ y', y' < 8 ∧ R12 S E a b x' y') → ∃ H', s_AdjoinedSetsModel_isInduced_12 r 200 (nI a) (nI b) F 0 (nI x) H = some (1, H') ∧ oS H H') ∧ (¬ (∃ x', x ≤ x' ∧ x' < 8 ∧ ∃ y', y' < 8 ∧ R12 S E a b x' y') → ∃ H', s_AdjoinedSetsModel_isInduced_12 r 200 (nI a) (nI b) F 0 (nI x) H = some (0, H') ∧ oS H H') := by
  intro m
  induction m with
  | zero =>
    intro x r H h1 h2 hm
    obtain ⟨r, rfl⟩ : ∃ r0, r = r0 + 1 := ⟨r - 1, by omega⟩
    refine ⟨fun ⟨y', z1, z2, _⟩ => absurd z1 (by omega), fun _ => ⟨H, ?_, oS.rf H⟩⟩
    rw [s_AdjoinedSetsModel_isInduced_12]
    dsimp only
    rw [if_pos (show 8 ≤ nI x from nI_le (a := 8) (by omega) (by omega))]
    rfl
  | succ m ih =>
    intro x r H h1 h2 hm
    obtain ⟨r, rfl⟩ : ∃ r0, r = r0 + 1 := ⟨r - 1, by omega⟩
    have hx : x < 8 := by omega
    obtain ⟨y1, y2⟩ := m_yl (c12 := s_AdjoinedSetsModel_isInduced_12 r) (x := x) hw hK ha hb hx hF 8 0 20000 H (by omega) (by omega) hm
    have e0 : s_AdjoinedSetsModel_isInduced_12 (r + 1) 200 (nI a) (nI b) F 0 (nI x) H = s_AdjoinedSetsModel_isInduced_22 (s_AdjoinedSetsModel_isInduced_12 r) 20000 200 (nI a) (nI b) F 0 (nI x) (nI 0) H := by
      rw [s_AdjoinedSetsModel_isInduced_12]
      dsimp only
      rw [if_neg (show ¬ 8 ≤ nI x from nI_ge (b := 8) hx (by omega))]
      rfl
    rw [e0]
    by_cases hY : ∃ y', 0 ≤ y' ∧ y' < 8 ∧ R12 S E a b x y'
    · obtain ⟨H', a1, a2⟩ := y1 hY
      obtain ⟨y', _, z2, z3⟩ := hY
      refine ⟨fun _ => ⟨H', ?_, a2⟩, fun z => absurd ⟨x, Nat.le_refl _, hx, y', z2, z3⟩ z⟩
      rw [a1]
      exact m_xl1 m (x + 1) r H' (by omega) (by omega)
    · obtain ⟨H', a1, a2⟩ := y2 hY
      rw [a1]
      obtain ⟨i1, i2⟩ := ih (x + 1) r H' (by omega) (by omega) (MA_oS hw a2 hm)
      constructor
      · intro ⟨x', z1, z2, y', z4, z5⟩
        have hne : x' ≠ x := fun z => hY ⟨y', Nat.zero_le _, z4, by rw [← z]; exact z5⟩
        obtain ⟨H'', b1, b2⟩ := i1 ⟨x', by omega, z2, y', z4, z5⟩
        exact ⟨H'', b1, a2.tr b2⟩
      · intro z
        obtain ⟨H'', b1, b2⟩ := i2 (fun ⟨x', z1, z2, z3⟩ => z ⟨x', by omega, z2, z3⟩)
        exact ⟨H'', b1, a2.tr b2⟩
end
theorem al_12 {S : SG} {E : Nat → Int32} {i j : Int32} (hw : WF S) (hK : KD (gK S) (gB S).2.1 E 12 true 0 (gB S).1) (hv : vld S 12 i j) : ALR S E (nI 12) i j := by
  obtain ⟨a, ha, rfl⟩ := thm_j hw (hv.1 (by omega))
  obtain ⟨b, hb, rfl⟩ := thm_j hw (hv.2.1 (by omega))
  have h16 := hw.2.2.2.1
  have hk3 : ∀ f, f < 4 → gK S f ≤ 3 := fun f hf => (hw.2.2.1 f hf).1
  have h60 := hw.1.1
  have a60 := (hw.2.2.2.2 a ha).1
  have b60 := (hw.2.2.2.2 b hb).1
  have bn := KD_2 (hw.2.2.2.2 b hb).2.2
  have ca : ∀ h, s_Rules_allow 6 (nI 12) (nI a) (nI b) h = (s_Rules_isByInduction 6 (118 + 3 * a) (118 + 3 * b) h).bind wr := by
    intro h
    unfold s_Rules_allow
    rw [if_neg (by decide), if_neg (by decide), if_neg (by decide), if_neg (by decide), if_neg (by decide), if_neg (by decide), if_neg (by decide), if_neg (by decide), if_neg (by decide), if_neg (by decide), if_neg (by decide), if_neg (by decide), if_pos (show nI 12 = 12 from rfl), rR_6_2, ob_s, rK_3, ob_s, c_text (by omega), ob_s, ob_s, rK_3, ob_s, c_text (by omega), ob_s, rK_6, ob_s]
    rfl
  have ma : ∀ h, s_AdjoinedSetsModel_allows 200 (nI 12) (nI a) (nI b) h = (s_AdjoinedSetsModel_isInduced 200 (nI a) (nI b) h).bind wr := by
    intro h
    unfold s_AdjoinedSetsModel_allows
    rw [if_neg (by decide), if_neg (by decide), if_neg (by decide), if_neg (by decide), if_neg (by decide), if_neg (by decide), if_neg (by decide), if_neg (by decide), if_neg (by decide), if_neg (by decide), if_neg (by decide), if_neg (by decide), if_pos (show nI 12 = 12 from rfl), rK_200, ob_s]
    rfl
  have cl : ∀ h, CA S h → cE h 100 (xB S E) → ((∃ x', x' < 8 ∧ ∃ y', y' < 8 ∧ R12 S E a b x' y') → ∃ h', s_Rules_isByInduction 6 (118 + 3 * a) (118 + 3 * b) h = some (1, h') ∧ kq h h') ∧ (¬ (∃ x', x' < 8 ∧ ∃ y', y' < 8 ∧ R12 S E a b x' y') → ∃ h', s_Rules_isByInduction 6 (118 + 3 * a) (118 + 3 * b) h = some (0, h') ∧ kq h h') := by
    intro h hc hE
    obtain ⟨cb, _⟩ := tx_t hc hb
    have cB := hc.1
    unfold s_Rules_isByInduction
    rw [rR_6_0, ob_s, rK_100, ob_s, len_t cB, ob_s, t_kd cb.1.1, ob_s, show s_Text_at (118 + 3 * b) 0 h = some ((gT S b).2.1 0) from at_h (p := 0) cb (by omega), ob_s]
    by_cases h62 : (gT S b).2.1 0 = 62
    rotate_left
    · rw [if_neg h62]
      exact ⟨fun ⟨_, _, _, _, z⟩ => absurd z.2.2.2.1.1 h62, fun _ => ⟨h, rfl, kq.rf h⟩⟩
    have g2 := c_hs cb cB (ok_t hw hb) (a := 1) (f := 0) (to := (gB S).1) (by omega) (Nat.le_refl _) (by omega)
    rw [Nat.sub_zero] at g2
    rw [if_pos h62, ob_s, ob_s, rK_100, ob_s, len_t cB, ob_s, ob_s]
    by_cases heq : eqt (gT S b).1 (gT S b).2.1 1 (gB S).2.1 0 (gB S).1
    rotate_left
    · rw [show s_Text_has (118 + 3 * b) 1 100 0 (nI (gB S).1) h = some 0 from g2.2 heq, ob_s, if_pos rfl]
      exact ⟨fun ⟨_, _, _, _, z⟩ => absurd z.2.2.2.1.2 heq, fun _ => ⟨h, rfl, kq.rf h⟩⟩
    have hD : D12 S b := ⟨h62, heq⟩
    have hKG := D12_K hw hK hb hD
    obtain ⟨F, f1, f2⟩ := c_free (x := xB S E) hk3 cB hE 12 true 0 (gB S).1 1 13 hK (Nat.le_refl _) (by omega) (by omega)
    rw [show s_Text_has (118 + 3 * b) 1 100 0 (nI (gB S).1) h = some 1 from g2.1 heq, ob_s, if_neg (by decide), ob_s, rK_100, ob_s, show s_grp_Text_freeIn 13 100 0 1 h = some F from f1, ob_s, show 1 + nI (gB S).1 = nI (1 + (gB S).1) by rw [show (1 : Int32) = nI 1 from rfl, nI_add]]
    obtain ⟨y1, y2⟩ := c_xl (a := a) (b := b) (F := F) hw hK ha hb f2 hKG 8 0 20000 h (by omega) (by omega) hc hE
    constructor
    · intro ⟨x', z1, y', z2, z3⟩
      exact y1 ⟨x', Nat.zero_le _, z1, z3.2.2.1, y', z2, z3.1, z3.2.1, z3.2.2.2.2⟩
    · intro z
      exact y2 (fun ⟨x', _, z2, z3, y', z4, z5⟩ => z ⟨x', z2, y', z4, z5.1, z5.2.1, z3, hD, z5.2.2⟩)
  have ml : ∀ H, MA S H → ((∃ x', x' < 8 ∧ ∃ y', y' < 8 ∧ R12 S E a b x' y') → ∃ H', s_AdjoinedSetsModel_isInduced 200 (nI a) (nI b) H = some (1, H') ∧ oS H H') ∧ (¬ (∃ x', x' < 8 ∧ ∃ y', y' < 8 ∧ R12 S E a b x' y') → ∃ H', s_AdjoinedSetsModel_isInduced 200 (nI a) (nI b) H = some (0, H') ∧ oS H H') := by
    intro H hm
    obtain ⟨F, P, A, B, e1, f2⟩ := m_free (h := H) (x := xB S E) (o := 0) (K := gK S) (fun p hp => hm.1.2 p hp) (by show 0 + (gB S).1 ≤ 1490; omega) h60 (fun f hf => (hm.2.2.1 f hf).1) hk3 (Nat.le_refl 12) hK (Nat.le_refl _)
    have o1 : oS H (sw H 0 P A B) := oS_24 o24_sw
    obtain ⟨y1, y2⟩ := m_xl (a := a) (b := b) (F := F) hw hK ha hb f2 8 0 20000 (sw H 0 P A B) (by omega) (by omega) (MA_sw hm)
    unfold s_AdjoinedSetsModel_isInduced
    rw [rK_200, ob_s, show s_AdjoinedSetsModel_freeIn 200 0 H = some (F, sw H 0 P A B) from e1, ob_s]
    dsimp only
    constructor
    · intro ⟨x', z1, z2⟩
      obtain ⟨H', a1, a2⟩ := y1 ⟨x', Nat.zero_le _, z1, z2⟩
      exact ⟨H', a1, o1.tr a2⟩
    · intro z
      obtain ⟨H', a1, a2⟩ := y2 (fun ⟨x', _, z1, z2⟩ => z ⟨x', z1, z2⟩)
      exact ⟨H', a1, o1.tr a2⟩
  by_cases hP : ∃ x', x' < 8 ∧ ∃ y', y' < 8 ∧ R12 S E a b x' y'
  · refine ⟨1, Or.inr rfl, fun h z1 z2 => ?_, fun H z1 => ?_⟩
    · obtain ⟨h', y1, y2⟩ := (cl h z1 z2).1 hP
      exact ⟨h', by rw [ca, y1]; rfl, y2⟩
    · obtain ⟨H', y1, y2⟩ := (ml H z1).1 hP
      exact ⟨H', by rw [ma, y1]; rfl, MA_oS hw y2 z1, sC_oS y2⟩
  · refine ⟨0, Or.inl rfl, fun h z1 z2 => ?_, fun H z1 => ?_⟩
    · obtain ⟨h', y1, y2⟩ := (cl h z1 z2).2 hP
      exact ⟨h', by rw [ca, y1]; rfl, y2⟩
    · obtain ⟨H', y1, y2⟩ := (ml H z1).2 hP
      exact ⟨H', by rw [ma, y1]; rfl, MA_oS hw y2 z1, sC_oS y2⟩
