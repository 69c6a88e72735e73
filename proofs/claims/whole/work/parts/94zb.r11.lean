/-! Rule 11: for all members. -/
theorem KD_2 {K : Nat → Nat} {t E : Nat → Int32} {d p e : Nat} (h : KD K t E d true p e) : p + 1 < e := by
  cases d with
  | zero => exact absurd h (fun z => z)
  | succ d =>
    obtain ⟨_, _, _, hp⟩ := KD_v h
    have ha : 1 ≤ arN K true (t p) := by
      unfold arN
      dsimp only
      split <;> omega
    obtain ⟨a, ha'⟩ : ∃ a, arN K true (t p) = a + 1 := ⟨_, (Nat.sub_add_cancel ha).symm⟩
    rw [ha'] at hp
    obtain ⟨q, z1, z2⟩ := hp
    have := KD_lt z1
    have := pc_le _ _ _ _ z2
    have := fs_1 (t p)
    omega
theorem fit9 {t E : Nat → Int32} : fitM t E (PL 9) 0 (fun _ => 0) = if t 0 = 76 then some (hst (hst (hst (fun _ => 0) 6 2) 1 3) 4 (2 + hln E 1 2 + 1)) else none := rfl
theorem al_11 {S : SG} {E : Nat → Int32} {i j : Int32} (hw : WF S) (hK : KD (gK S) (gB S).2.1 E 12 true 0 (gB S).1) (hv : vld S 11 i j) : ALR S E (nI 11) i j := by
  obtain ⟨a, ha, rfl⟩ := thm_j hw (hv.1 (by omega))
  have h16 := hw.2.2.2.1
  have hk3 : ∀ f, f < 4 → gK S f ≤ 3 := fun f hf => (hw.2.2.1 f hf).1
  have h60 := hw.1.1
  have a60 := (hw.2.2.2.2 a ha).1
  have hn1 : 0 + 1 < (gB S).1 := KD_2 hK
  have ca : ∀ h, s_Rules_allow 6 (nI 11) (nI a) j h = (s_Rules_isForAllMembers 6 (118 + 3 * a) h).bind wr := by
    intro h
    unfold s_Rules_allow
    rw [if_neg (by decide), if_neg (by decide), if_neg (by decide), if_neg (by decide), if_neg (by decide), if_neg (by decide), if_neg (by decide), if_neg (by decide), if_neg (by decide), if_neg (by decide), if_neg (by decide), if_pos (show nI 11 = 11 from rfl), rR_6_2, ob_s, rK_3, ob_s, c_text (by omega), ob_s, rK_6, ob_s]
    rfl
  have ma : ∀ h, s_AdjoinedSetsModel_allows 200 (nI 11) (nI a) j h = (s_AdjoinedSetsModel_isForAll 200 (nI a) h).bind wr := by
    intro h
    unfold s_AdjoinedSetsModel_allows
    rw [if_neg (by decide), if_neg (by decide), if_neg (by decide), if_neg (by decide), if_neg (by decide), if_neg (by decide), if_neg (by decide), if_neg (by decide), if_neg (by decide), if_neg (by decide), if_neg (by decide), if_pos (show nI 11 = 11 from rfl), rK_200, ob_s]
    rfl
  have r0 : ∀ H, MA S H → aI H 201 0 0 = some ((gB S).2.1 0) := by
    intro H hm
    have := hm.1.2 0 (by omega)
    rw [show (0 : Int32) = nI 0 from rfl, rA_201 (by omega)]
    exact congrArg some this
  have r1 : ∀ H, MA S H → aI H 201 0 1 = some ((gB S).2.1 1) := by
    intro H hm
    have := hm.1.2 1 (by omega)
    rw [show (1 : Int32) = nI 1 from rfl, rA_201 (by omega)]
    exact congrArg some this
  by_cases h76 : (gB S).2.1 0 = 76
  rotate_left
  · have hF : fitM (gB S).2.1 E (PL 9) 0 (fun _ => 0) = none := by rw [fit9, if_neg h76]
    refine ⟨0, Or.inl rfl, fun h hc hE => ?_, fun H hm => ?_⟩
    · rcases c_fits (K := gK S) (x := xB S E) (h := h) (fun p hp => hw.1.2 p hp) (q := 9) (by omega) (by omega) hK hc.1 hE with ⟨hs', sx', h', z1, _⟩ | ⟨z1, h', z2, z3⟩
      · rw [show fitM (gB S).2.1 E (PL 9) 0 (fun _ => 0) = some hs' from z1] at hF; cases hF
      · refine ⟨h', ?_, o14_kq z3⟩
        rw [ca]
        unfold s_Rules_isForAllMembers
        rw [rR_6_5, ob_s, show s_Rules_formOf 11 = some 9 from rfl, ob_s, rK_12, ob_s, z2, ob_s]
        dsimp only
        rw [if_pos rfl, ob_s]
        rfl
    · refine ⟨H, ?_, hm, sC.rf H⟩
      rw [ma]
      unfold s_AdjoinedSetsModel_isForAll
      rw [rR_200_0, ob_s, r0 H hm, ob_s, if_neg h76]
      rfl
  have hF : fitM (gB S).2.1 E (PL 9) 0 (fun _ => 0) = some (hst (hst (hst (fun _ => 0) 6 2) 1 3) 4 (2 + hln E 1 2 + 1)) := by rw [fit9, if_pos h76]
  obtain ⟨sx', hI⟩ := fit_I h60 (show 1 ≤ 9 by omega) (show 9 < 14 by omega) hK hF
  have e6 : (hst (hst (hst (fun _ => 0) 6 2) 1 3) 4 (2 + hln E 1 2 + 1)) 6 = 2 := rfl
  have e1 : (hst (hst (hst (fun _ => 0) 6 2) 1 3) 4 (2 + hln E 1 2 + 1)) 1 = 3 := rfl
  generalize hst (hst (hst (fun _ => 0) 6 2) 1 3) 4 (2 + hln E 1 2 + 1) = hs at hF hI e6 e1
  have n1 : hs 1 ≠ 0 := by omega
  have n6 : hs 6 ≠ 0 := by omega
  obtain ⟨d, q, z1, z2, z3⟩ := hI.1 1 (by omega) (by omega) n1
  obtain ⟨hL, hlt⟩ := hI.2.1 n6
  have hl8 := (lw_n hL).2
  have hp1 : hs 6 - 1 = 1 := by omega
  have hp2 : hs 1 - 1 = 2 := by omega
  have z3' : KD (gK S) (gB S).2.1 E d false 2 q := by rw [← hp2]; exact z3
  have hL' : isLw ((gB S).2.1 1) := by rw [← hp1]; exact hL
  have hq := KD_lt z3'
  have cl : ∀ h, CA S h → cE h 100 (xB S E) → ∃ h', kq h h' ∧ ((((gT S a).1 = (gB S).1 + 1 ∧ (gT S a).2.1 0 = 62 ∧ (gT S a).2.1 1 = 60 ∧ eqt (gT S a).1 (gT S a).2.1 2 (gB S).2.1 1 ((gB S).1 - 1)) ∧ fv (gB S).2.1 E d 2 (lwN ((gB S).2.1 1)) = false) → s_Rules_isForAllMembers 6 (118 + 3 * a) h = some (1, h')) ∧ (¬ (((gT S a).1 = (gB S).1 + 1 ∧ (gT S a).2.1 0 = 62 ∧ (gT S a).2.1 1 = 60 ∧ eqt (gT S a).1 (gT S a).2.1 2 (gB S).2.1 1 ((gB S).1 - 1)) ∧ fv (gB S).2.1 E d 2 (lwN ((gB S).2.1 1)) = false) → s_Rules_isForAllMembers 6 (118 + 3 * a) h = some (0, h')) := by
    intro h hc hE
    rcases c_fits (K := gK S) (x := xB S E) (h := h) (fun p hp => hw.1.2 p hp) (q := 9) (by omega) (by omega) hK hc.1 hE with ⟨hs', sx', h', y1, y2, y3, y4, y5⟩ | ⟨y1, _⟩
    rotate_left
    · rw [show fitM (gB S).2.1 E (PL 9) 0 (fun _ => 0) = none from y1] at hF; cases hF
    have hh : hs' = hs := Option.some.inj ((show fitM (gB S).2.1 E (PL 9) 0 (fun _ => 0) = some hs' from y1).symm.trans hF)
    subst hh
    have hk := o14_kq y5
    have hc' := CA_kq hk hw hc
    have hE' := cE_kq hk (Or.inl rfl) hE
    refine ⟨h', hk, ?_⟩
    have ef := f_free (K := gK S) (x := xB S E) hk3 hc'.1 hE' y3 n6 hL hlt (c := 1) (by omega) (by omega) n1 z1 z2 z3
    rw [hp1, hp2] at ef
    have ef : s_Form_letterIsFreeIn 12 115 h' = some (if fv (gB S).2.1 E d 2 (lwN ((gB S).2.1 1)) = true then 1 else 0) := ef
    obtain ⟨ct, _⟩ := tx_t hc' ha
    have cB := hc'.1
    unfold s_Rules_isForAllMembers
    rw [rR_6_5, ob_s, show s_Rules_formOf 11 = some 9 from rfl, ob_s, rK_12, ob_s, y2, ob_s]
    dsimp only
    rw [if_neg (by decide), rR_6_5, ob_s, rK_12, ob_s, ef, ob_s]
    cases hfv : fv (gB S).2.1 E d 2 (lwN ((gB S).2.1 1)) with
    | true =>
      rw [if_pos (show true = true from rfl), if_neg (by decide)]
      exact ⟨fun z => absurd z.2 (by decide), fun _ => rfl⟩
    | false =>
      rw [if_neg (show ¬ (false = true) by decide), if_pos rfl, t_kd ct.1.1, ob_s, len_t ct, ob_s, rR_6_0, ob_s, rK_100, ob_s, len_t cB, ob_s, nI_1]
      by_cases p1 : (gT S a).1 = (gB S).1 + 1
      rotate_left
      · rw [if_neg (fun z => p1 ((nI_inj (by omega) (by omega)).mp z))]
        exact ⟨fun z => absurd z.1.1 p1, fun _ => rfl⟩
      rw [if_pos (by rw [p1]), ob_s, show s_Text_at (118 + 3 * a) 0 h' = some ((gT S a).2.1 0) from at_h (p := 0) ct (by omega), ob_s]
      by_cases p2 : (gT S a).2.1 0 = 62
      rotate_left
      · rw [if_neg p2]
        exact ⟨fun z => absurd z.1.2.1 p2, fun _ => rfl⟩
      rw [if_pos p2, ob_s, show s_Text_at (118 + 3 * a) 1 h' = some ((gT S a).2.1 1) from at_h (p := 1) ct (by omega), ob_s]
      by_cases p3 : (gT S a).2.1 1 = 60
      rotate_left
      · rw [if_neg p3]
        exact ⟨fun z => absurd z.1.2.2.1 p3, fun _ => rfl⟩
      have g2 := c_hs ct cB (ok_t hw ha) (a := 2) (f := 1) (to := (gB S).1) (by omega) (Nat.le_refl _) (by omega)
      rw [if_pos p3, ob_s, ob_s, rK_100, ob_s, len_t cB, ob_s, ob_s]
      by_cases p4 : eqt (gT S a).1 (gT S a).2.1 2 (gB S).2.1 1 ((gB S).1 - 1)
      · rw [show s_Text_has (118 + 3 * a) 2 100 1 (nI (gB S).1) h' = some 1 from g2.1 p4, ob_s, if_neg (by decide)]
        exact ⟨fun _ => rfl, fun z => absurd ⟨⟨p1, p2, p3, p4⟩, rfl⟩ z⟩
      · rw [show s_Text_has (118 + 3 * a) 2 100 1 (nI (gB S).1) h' = some 0 from g2.2 p4, ob_s, if_pos rfl]
        exact ⟨fun z => absurd z.1.2.2.2 p4, fun _ => rfl⟩
  have ml : ∀ H, MA S H → ∃ H', o24 H H' ∧ ((((gT S a).1 = (gB S).1 + 1 ∧ (gT S a).2.1 0 = 62 ∧ (gT S a).2.1 1 = 60 ∧ eqt (gT S a).1 (gT S a).2.1 2 (gB S).2.1 1 ((gB S).1 - 1)) ∧ fv (gB S).2.1 E d 2 (lwN ((gB S).2.1 1)) = false) → s_AdjoinedSetsModel_isForAll 200 (nI a) H = some (1, H')) ∧ (¬ (((gT S a).1 = (gB S).1 + 1 ∧ (gT S a).2.1 0 = 62 ∧ (gT S a).2.1 1 = 60 ∧ eqt (gT S a).1 (gT S a).2.1 2 (gB S).2.1 1 ((gB S).1 - 1)) ∧ fv (gB S).2.1 E d 2 (lwN ((gB S).2.1 1)) = false) → s_AdjoinedSetsModel_isForAll 200 (nI a) H = some (0, H')) := by
    intro H hm
    obtain ⟨m1, m2, _⟩ := hm.2.2.2.2.1 a ha
    have htx : ∀ H, MA S H → mT H 0 (xB S E) := fun H hm p hp => hm.1.2 p hp
    unfold s_AdjoinedSetsModel_isForAll
    rw [rR_200_0, ob_s, r0 H hm, ob_s, if_pos h76, rK_200, ob_s, thAt, ob_s, rR_200_5, ob_s, rA_204 (by omega), ob_s, m1, rI_200_1, ob_s, hm.1.1, nI_1]
    by_cases p1 : (gT S a).1 = (gB S).1 + 1
    rotate_left
    · rw [if_neg (fun z => p1 ((nI_inj (by omega) (by omega)).mp z))]
      exact ⟨H, o24.rf H, fun z => absurd z.1.1 p1, fun _ => rfl⟩
    rw [if_pos (by rw [p1]), ob_s, rA_201 (by omega), ob_s, show H.1 201 (100 + 60 * a) = (gT S a).2.1 0 from m2 0 (by omega)]
    by_cases p2 : (gT S a).2.1 0 = 62
    rotate_left
    · rw [if_neg p2]
      exact ⟨H, o24.rf H, fun z => absurd z.1.2.1 p2, fun _ => rfl⟩
    rw [if_pos p2, ob_s, nI_1, rA_201 (by omega), ob_s, show H.1 201 (100 + 60 * a + 1) = (gT S a).2.1 1 from m2 1 (by omega)]
    by_cases p3 : (gT S a).2.1 1 = 60
    rotate_left
    · rw [if_neg p3]
      exact ⟨H, o24.rf H, fun z => absurd z.1.2.2.1 p3, fun _ => rfl⟩
    have g2 := m_sm2 m2 hm.1.2 (a := 2) (f := 1) (m := (gB S).1 - 1) (by omega) (by omega) (by omega) (by omega)
    rw [if_pos p3, ob_s, ob_s, show (2 : Int32) = nI 2 from rfl, nI_add, show nI (gB S).1 - 1 = nI ((gB S).1 - 1) from pk_sub (b := 1) (by omega)]
    by_cases p4 : eqt (gT S a).1 (gT S a).2.1 2 (gB S).2.1 1 ((gB S).1 - 1)
    rotate_left
    · rw [show s_AdjoinedSetsModel_isSame 200 (nI (100 + 60 * a + 2)) 1 (nI ((gB S).1 - 1)) H = some 0 from g2.2 p4, ob_s, if_pos rfl]
      exact ⟨H, o24.rf H, fun z => absurd z.1.2.2.2 p4, fun _ => rfl⟩
    rw [show s_AdjoinedSetsModel_isSame 200 (nI (100 + 60 * a + 2)) 1 (nI ((gB S).1 - 1)) H = some 1 from g2.1 p4, ob_s, if_neg (by decide), ob_s]
    obtain ⟨y, P, A, B, e1, my⟩ := m_free (h := H) (x := xB S E) (o := 0) (K := gK S) (htx H hm) (by show 0 + (gB S).1 ≤ 1490; omega) h60 (fun f hf => (hm.2.2.1 f hf).1) hk3 z1 z3' z2
    rw [Nat.zero_add] at e1
    refine ⟨sw H 0 P A B, o24_sw, ?_⟩
    rw [e1, ob_s]
    dsimp only
    rw [rR_200_0, ob_s, r1 _ (MA_sw hm), ob_s, ml_bit hL', ob_s]
    have hb : (y &&& bitI (lwN ((gB S).2.1 1))) = 0 ↔ fv (gB S).2.1 E d 2 (lwN ((gB S).2.1 1)) = false := by
      rw [tb_z _ (lw_n hL').2, my.2 _ (lw_n hL').2]
      exact Iff.rfl
    by_cases p5 : fv (gB S).2.1 E d 2 (lwN ((gB S).2.1 1)) = false
    · rw [if_pos (hb.mpr p5)]
      exact ⟨fun _ => rfl, fun z => absurd ⟨⟨p1, p2, p3, p4⟩, p5⟩ z⟩
    · rw [if_neg (fun z => p5 (hb.mp z))]
      exact ⟨fun z => absurd z.2 p5, fun _ => rfl⟩
  by_cases hP : ((gT S a).1 = (gB S).1 + 1 ∧ (gT S a).2.1 0 = 62 ∧ (gT S a).2.1 1 = 60 ∧ eqt (gT S a).1 (gT S a).2.1 2 (gB S).2.1 1 ((gB S).1 - 1)) ∧ fv (gB S).2.1 E d 2 (lwN ((gB S).2.1 1)) = false
  · refine ⟨1, Or.inr rfl, fun h hc hE => ?_, fun H hm => ?_⟩
    · obtain ⟨h', y1, y2, _⟩ := cl h hc hE
      exact ⟨h', by rw [ca, y2 hP]; rfl, y1⟩
    · obtain ⟨H', y1, y2, _⟩ := ml H hm
      exact ⟨H', by rw [ma, y2 hP]; rfl, MA_24 y1 hm, sC_24 y1⟩
  · refine ⟨0, Or.inl rfl, fun h hc hE => ?_, fun H hm => ?_⟩
    · obtain ⟨h', y1, _, y2⟩ := cl h hc hE
      exact ⟨h', by rw [ca, y2 hP]; rfl, y1⟩
    · obtain ⟨H', y1, _, y2⟩ := ml H hm
      exact ⟨H', by rw [ma, y2 hP]; rfl, MA_24 y1 hm, sC_24 y1⟩
