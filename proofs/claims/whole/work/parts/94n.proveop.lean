/-! prove, if the rules are allowed alike. -/
theorem op_prove_of (hAL : ∀ (S : SG) (E : Nat → Int32) (k : Nat) (i j : Int32), k < 18 → WF S → KD (gK S) (gB S).2.1 E 12 true 0 (gB S).1 → vld S k i j → gC S < 16 → ALR S E (nI k) i j) : ∀ r i j, OP2 (s_AdjoinedSets_prove 0 r i j) (s_AdjoinedSetsModel_prove 200 r i j) := by
  intro rule i j S h hw hc hm
  have bad : s_AdjoinedSets_prove 0 rule i j h = some (-1, h) → s_AdjoinedSetsModel_prove 200 rule i j h = some (-1, h) → ∃ (r : Int32) (h1 h2 : HP) (S' : SG), s_AdjoinedSets_prove 0 rule i j h = some (r, h1) ∧ s_AdjoinedSetsModel_prove 200 rule i j h1 = some (r, h2) ∧ WF S' ∧ CA S' h2 ∧ MA S' h2 := fun a b => ⟨-1, h, h, S, a, b, hw, hc, hm⟩
  have m36 : ∀ a b, (rule < 0 ∨ 17 < rule) → s_AdjoinedSetsModel_prove_36 200 rule i j a b h = some (-1, h) := by
    intro a b hr
    unfold s_AdjoinedSetsModel_prove_36
    by_cases h0 : rule < 0
    · rw [if_pos h0]
    · rw [if_neg h0, if_pos (by rcases hr with q | q; exact absurd q h0; exact q)]
  have mbad : (rule < 0 ∨ 17 < rule) → s_AdjoinedSetsModel_prove 200 rule i j h = some (-1, h) := by
    intro hr
    have e17 : ∀ a, s_AdjoinedSetsModel_prove_17 200 rule i j a h = some (-1, h) := by
      intro a
      unfold s_AdjoinedSetsModel_prove_17 s_AdjoinedSetsModel_prove_31
      split
      · exact m36 _ _ hr
      · split
        · exact m36 _ _ hr
        · exact m36 _ _ hr
    unfold s_AdjoinedSetsModel_prove s_AdjoinedSetsModel_prove_16
    split
    · exact e17 _
    · split
      · exact e17 _
      · exact e17 _
  by_cases h0 : rule < 0
  · exact bad (by unfold s_AdjoinedSets_prove; rw [if_pos h0]) (mbad (Or.inl h0))
  by_cases h17 : 17 < rule
  · exact bad (by unfold s_AdjoinedSets_prove; rw [if_neg h0, if_pos h17]) (mbad (Or.inr h17))
  obtain ⟨k, hk31, rfl⟩ := nI_of h0
  have hk : k < 18 := by
    apply Classical.byContradiction
    intro q
    exact h17 (show 17 < nI k from nI_lt (a := 17) (by omega) hk31)
  by_cases hv : vld S k i j
  rotate_left
  · exact bad (by unfold s_AdjoinedSets_prove; rw [if_neg h0, if_neg h17, rK_0, ob_s, (c_names hk hc).2 hv, ob_s, if_pos rfl]) ((m_prove hk hm).2 hv)
  obtain ⟨h1, f1, ho, q1⟩ := c_readFormula hw hc
  have hk1 := kp_o3 ho
  have hc1 : CA S h1 := CA_kp hk1 hw hc (cT_o3 ho hc)
  have h60 := hw.1.1
  unfold s_AdjoinedSets_prove
  rw [if_neg h0, if_neg h17, rK_0, ob_s, (c_names hk hc).1 hv, ob_s, if_neg (by decide), rR_0_4, ob_s, rK_4, ob_s, f1, ob_s]
  dsimp only
  have e90 : ∀ (H : HP) (v : Int32), s_AdjoinedSets_prove_90 0 v H = some (v, (up2 H.1 100 2 0, H.2)) := by
    intro H v
    unfold s_AdjoinedSets_prove_90
    rw [rR_0_1, ob_s, rK_100, ob_s, p_empty isT_100, ob_s]
  have hend : ∀ (H : HP), kp h H → CA (setB S e0) (up2 H.1 100 2 0, H.2) ∧ MA S (up2 H.1 100 2 0, H.2) := by
    intro H hk
    have hk2 : kp h (up2 H.1 100 2 0, H.2) := hk.tr (kp_I rfl (by decide))
    exact ⟨CA_ofB hk2.1 hw hc (cT_e0 (by show up2 H.1 100 2 0 100 2 = 0; exact u2_s)), MA_of hk2.2 hm⟩
  cases hR : RS (gK S) (gB S).1 (gB S).2.1 (-1) 0 8 true with
  | inl w =>
    rw [hR] at q1
    have q1 : w ≤ (gB S).1 := q1
    obtain ⟨g1, g2, g3⟩ := fin100 w (by omega)
    rw [show enc (.inl w) = (-100) - nI w from rfl, if_pos g2, e90]
    obtain ⟨k2, k3⟩ := hend h1 hk1
    obtain ⟨h4, f4, o4⟩ := m_wrong (S := S) (h := (up2 h1.1 100 2 0, h1.2)) hw (ow := -1) (lm := 0) (ok := 0) (lt := 8) (Or.inl rfl) (Or.inl ⟨by decide, rfl⟩) (MR_MA k3) true
    rw [hR] at f4
    refine ⟨((-100) - nI w), _, (up2 h4.1 200 1 0, h4.2), setB S e0, rfl, ?_, WF_e0 hw, CA_of (sC.tr (sC_o200 o4) (sC_I (by decide))) (WF_e0 hw) k2, sz0 (MA_o200 o4 k3)⟩
    rw [(m_prove hk k3).1 hv]
    unfold s_AdjoinedSetsModel_prove_92 s_AdjoinedSetsModel_prove_147
    rw [rK_200, ob_s, show s_AdjoinedSetsModel_wrong 200 1 (-1) 0 (up2 h1.1 100 2 0, h1.2) = some (nI w, h4) from f4, ob_s]
    dsimp only
    rw [if_neg (nI_pos (by omega)), if_pos g2, wI_200_1, ob_s]
  | inr e =>
    rw [hR] at q1
    obtain ⟨q1, hK⟩ := q1
    have hx : cT h1 100 (xB S (h1.1 102)) := cT_o3 ho hc
    have hE : cE h1 100 (xB S (h1.1 102)) := fun p hp => rfl
    rw [show enc (.inr e) = nI e from rfl, if_neg (nI_pos (by omega)), rR_0_3, ob_s, rK_3, ob_s]
    unfold s_Laws_count
    rw [rI_3_2, ob_s, ob_s, hc1.2.2.2.1]
    have h16 := hw.2.2.2.1
    have mw92 : ∀ (H : HP), MA S H → ∃ h4, MA S h4 ∧ sC H h4 ∧ s_AdjoinedSetsModel_prove 200 (nI k) i j H = (if nI (gC S) = 16 then s_AdjoinedSetsModel_prove_147 200 i j (fst1 k) (snd1 k) (-2) h4 else ((s_AdjoinedSetsModel_allows 200 (nI k) i j h4).bind fun q7 => if q7.1 = 0 then s_AdjoinedSetsModel_prove_147 200 i j (fst1 k) (snd1 k) (-4) q7.2 else (gI q7.2 200 9 4).bind fun v9 => s_AdjoinedSetsModel_prove_147 200 i j (fst1 k) (snd1 k) v9 q7.2)) := by
      intro H hH
      obtain ⟨h4, f4, o4⟩ := m_wrong (S := S) (h := H) hw (ow := -1) (lm := 0) (ok := 0) (lt := 8) (Or.inl rfl) (Or.inl ⟨by decide, rfl⟩) (MR_MA hH) true
      rw [hR] at f4
      have m4 := MA_o200 o4 hH
      refine ⟨h4, m4, sC_o200 o4, ?_⟩
      rw [(m_prove hk hH).1 hv]
      unfold s_AdjoinedSetsModel_prove_92
      rw [rK_200, ob_s, show s_AdjoinedSetsModel_wrong 200 1 (-1) 0 H = some (-1, h4) from f4, ob_s]
      dsimp only
      rw [if_pos (by decide), rI_200_4, ob_s, m4.2.2.2.1, ob_s]
    have e147 : ∀ (v : Int32) (H : HP), v < 0 → s_AdjoinedSetsModel_prove_147 200 i j (fst1 k) (snd1 k) v H = some (v, (up2 H.1 200 1 0, H.2)) := by
      intro v H hvn
      unfold s_AdjoinedSetsModel_prove_147
      rw [if_pos hvn, wI_200_1, ob_s]
    by_cases hfull : gC S = 16
    · rw [if_pos (show 16 ≤ nI (gC S) by rw [hfull]; decide), e90]
      obtain ⟨k2, k3⟩ := hend h1 hk1
      obtain ⟨h4, m4, s4, e4⟩ := mw92 _ k3
      refine ⟨-2, _, (up2 h4.1 200 1 0, h4.2), setB S e0, rfl, ?_, WF_e0 hw, CA_of (sC.tr s4 (sC_I (by decide))) (WF_e0 hw) k2, sz0 m4⟩
      rw [e4, if_pos (show nI (gC S) = 16 by rw [hfull]; rfl), e147 _ _ (by decide)]
    · have hc16 : gC S < 16 := by omega
      have hne16 : ¬ nI (gC S) = 16 := fun q => hfull ((nI_eq (a := gC S) (b := 16) (by omega) (by decide)).mp q)
      obtain ⟨r, hr01, hcl, hml⟩ := hAL S (h1.1 102) k i j hk hw hK hv hc16
      obtain ⟨h2, a1, a2⟩ := hcl h1 hc1 hE
      rw [if_neg (show ¬ 16 ≤ nI (gC S) from nI_ge (b := 16) hc16 (by omega)), rR_0_6, ob_s, rK_6, ob_s, a1, ob_s]
      dsimp only
      have hk2 : kp h h2 := hk1.tr (kq_kp a2)
      have hc2 : CA S h2 := CA_kq a2 hw hc1
      rcases hr01 with hr | hr
      · rw [if_pos hr]
        unfold s_AdjoinedSets_prove_88
        rw [e90]
        obtain ⟨k2, k3⟩ := hend h2 hk2
        obtain ⟨h4, m4, s4, e4⟩ := mw92 _ k3
        obtain ⟨h5, b1, b2, b3⟩ := hml h4 m4
        refine ⟨-4, _, (up2 h5.1 200 1 0, h5.2), setB S e0, rfl, ?_, WF_e0 hw, CA_of (sC.tr s4 (sC.tr b3 (sC_I (by decide)))) (WF_e0 hw) k2, sz0 b2⟩
        rw [e4, if_neg hne16, b1, ob_s]
        dsimp only
        rw [if_pos hr, e147 _ _ (by decide)]
      · rw [if_neg (by rw [hr]; decide), rR_0_3, ob_s, rR_0_1, ob_s, ob_s, c_restR hw hc2 hk hv, ob_s, rK_3, ob_s]
        have hx2 : cT h2 100 (xB S (h1.1 102)) := cT_kq a2 (Or.inl rfl) hx
        have hE2 : cE h2 100 (xB S (h1.1 102)) := cE_kq a2 (Or.inl rfl) hE
        obtain ⟨h3, b1, b2, b3⟩ := c_addT (r := rsN S k i j) hw hc2 hc16 hx2 hE2 (fun p hp => hw.1.2 p hp)
        rw [b1, ob_s]
        unfold s_AdjoinedSets_prove_88
        dsimp only
        rw [e90]
        have hm3 : MA S (up2 h3.1 100 2 0, h3.2) := MA_of (hk2.2.tr (b3.tr (sM_I (by decide)))) hm
        obtain ⟨h4, m4, s4, e4⟩ := mw92 _ hm3
        obtain ⟨h5, c1, c2, c3⟩ := hml h4 m4
        obtain ⟨h6, d1, d2, d3⟩ := m_addT (E := h1.1 102) hw c2 hc16 hk hv
        have hw' : WF (pvS S (xB S (h1.1 102)) (rsN S k i j ||| bitI (gC S))) := WF_pv hw hc16 h60 (fun p hp => hw.1.2 p hp) hK
        refine ⟨nI (gC S), _, h6, pvS S (xB S (h1.1 102)) (rsN S k i j ||| bitI (gC S)), rfl, ?_, hw', CA_of (sC.tr s4 (sC.tr c3 d3)) hw' b2, d2⟩
        rw [e4, if_neg hne16, c1, ob_s]
        dsimp only
        rw [if_neg (by rw [hr]; decide), rI_200_4, ob_s, c2.2.2.2.1, d1]
