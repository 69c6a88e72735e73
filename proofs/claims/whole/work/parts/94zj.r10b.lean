/-! Rule 10: both. -/
theorem j_8 {j : Int32} (h0 : ¬ j < 0) (h8 : ¬ 8 ≤ j) : ∃ l, l < 8 ∧ j = nI l := by
  rw [Int32.lt_iff_toInt_lt] at h0
  rw [Int32.le_iff_toInt_le] at h8
  have x1 : (0 : Int32).toInt = 0 := by decide
  have x2 : (8 : Int32).toInt = 8 := by decide
  refine ⟨j.toInt.toNat, by omega, ?_⟩
  rw [← Int32.toInt_inj]
  have : (nI j.toInt.toNat).toInt = (j.toInt.toNat : Int) := nI_toInt (by omega)
  rw [this]
  omega
theorem m_139 {S : SG} {H : HP} {a : Nat} {E : Nat → Int32} {rl : Nat → Bool} {w we dw : Nat → Nat} (hw : WF S) (hK : KD (gK S) (gB S).2.1 E 12 true 0 (gB S).1) (ha : a < gC S) (hm : MA S H) (hz : ∀ l, l < 8 → rl l = false → H.1 223 l = 0) (hy : ∀ l, l < 8 → rl l = true → H.1 222 l = nI (0 + w l) ∧ H.1 223 l = nI (we l - w l) ∧ MSK (H.1 224 l) (fv (gB S).2.1 E (dw l) (w l)) ∧ we l ≤ (gB S).1 ∧ KD (gK S) (gB S).2.1 E (dw l) false (w l) (we l)) : ∃ H', o24 H H' ∧ (MT (gK S) (gT S a).2.1 (gT S a).2.2 (xB S E).2.1 (xB S E).2.2 rl (fun l => fv (xB S E).2.1 (xB S E).2.2 (dw l) (w l)) (EQt (xB S E) (xB S E) w we) 12 true (fun _ => false) 0 0 → s_AdjoinedSetsModel_isInstance_139 200 (nI (100 + 60 * a)) H = some (1, H')) ∧ (¬ MT (gK S) (gT S a).2.1 (gT S a).2.2 (xB S E).2.1 (xB S E).2.2 rl (fun l => fv (xB S E).2.1 (xB S E).2.2 (dw l) (w l)) (EQt (xB S E) (xB S E) w we) 12 true (fun _ => false) 0 0 → s_AdjoinedSetsModel_isInstance_139 200 (nI (100 + 60 * a)) H = some (0, H')) := by
  have hk3 : ∀ f, f < 4 → gK S f ≤ 3 := fun f hf => (hw.2.2.1 f hf).1
  have h60 := hw.1.1
  have h16 := hw.2.2.2.1
  obtain ⟨a60, _, hKa⟩ := hw.2.2.2.2 a ha
  have htx : mT H 0 (xB S E) := fun p hp => hm.1.2 p hp
  have RMh : RM (gK S) H (100 + 60 * a) 0 0 (gT S a) (xB S E) (xB S E) rl w we dw := ⟨(hm.2.2.2.2.1 a ha).2.1, htx, htx, a60, h60, h60, by omega, by omega, by omega, hy, hz, hk3⟩
  obtain ⟨P, A, B, g1, g2⟩ := m_replaced RMh (fun f hf => (hm.2.2.1 f hf).1) (Nat.le_refl 12) hKa (Nat.le_refl _) hK (Nat.le_refl _)
  have hsz : (sw H 0 P A B).1 200 1 = nI (gB S).1 := hm.1.1
  refine ⟨sw H 0 P A B, o24_sw, fun z => ?_, fun z => ?_⟩
  · unfold s_AdjoinedSetsModel_isInstance_139
    rw [rK_200, ob_s, show s_AdjoinedSetsModel_replaced 200 (nI (100 + 60 * a)) 0 H = _ from g1 z, ob_s]
    dsimp only
    rw [rI_200_1, ob_s, hsz, Nat.zero_add, if_pos rfl]
  · unfold s_AdjoinedSetsModel_isInstance_139
    rw [rK_200, ob_s, show s_AdjoinedSetsModel_replaced 200 (nI (100 + 60 * a)) 0 H = _ from g2 z, ob_s]
    dsimp only
    rw [rI_200_1, ob_s, hsz, if_neg (nI_m1 (by omega))]
theorem al_10 {S : SG} {E : Nat → Int32} {i j : Int32} (hw : WF S) (hK : KD (gK S) (gB S).2.1 E 12 true 0 (gB S).1) (hv : vld S 10 i j) : ALR S E (nI 10) i j := by
  obtain ⟨a, ha, rfl⟩ := thm_j hw (hv.1 (by omega))
  obtain ⟨l0, hl0, rfl⟩ := j_8 (hv.2.2 rfl).1 (hv.2.2 rfl).2
  have h16 := hw.2.2.2.1
  have hk3 : ∀ f, f < 4 → gK S f ≤ 3 := fun f hf => (hw.2.2.1 f hf).1
  have h60 := hw.1.1
  obtain ⟨a60, _, hKa⟩ := hw.2.2.2.2 a ha
  have ca : ∀ h, s_Rules_allow 6 (nI 10) (nI a) (nI l0) h = (s_Rules_isInstanceOf 6 (118 + 3 * a) (nI l0) h).bind wr := by
    intro h
    unfold s_Rules_allow
    rw [if_neg (by decide), if_neg (by decide), if_neg (by decide), if_neg (by decide), if_neg (by decide), if_neg (by decide), if_neg (by decide), if_neg (by decide), if_neg (by decide), if_neg (by decide), if_pos (show nI 10 = 10 from rfl), rR_6_2, ob_s, rK_3, ob_s, c_text (by omega), ob_s, rK_6, ob_s]
    rfl
  have ma : ∀ h, s_AdjoinedSetsModel_allows 200 (nI 10) (nI a) (nI l0) h = (s_AdjoinedSetsModel_isInstance 200 (nI a) (nI l0) h).bind wr := by
    intro h
    unfold s_AdjoinedSetsModel_allows
    rw [if_neg (by decide), if_neg (by decide), if_neg (by decide), if_neg (by decide), if_neg (by decide), if_neg (by decide), if_neg (by decide), if_neg (by decide), if_neg (by decide), if_neg (by decide), if_pos (show nI 10 = 10 from rfl), rK_200, ob_s]
    rfl
  -- the class
  have cl : ∀ h, CA S h → cE h 100 (xB S E) → ∃ h1, kq h h1 ∧ RCs (gK S) h1 (118 + 3 * a) 100 (gT S a) (xB S E) l0 ∧ (∀ h2, s_grp_Replacement_goesOn 14 11 (118 + 3 * a) (nI 0) 100 0 (nI 1) (nw h1 (nI 0)) = some (0, h2) → s_Rules_isInstanceOf 6 (118 + 3 * a) (nI l0) h = some (0, h2)) ∧ (∀ h2, s_grp_Replacement_goesOn 14 11 (118 + 3 * a) (nI 0) 100 0 (nI 1) (nw h1 (nI 0)) = some (1, nw h2 (nI (gB S).1)) → s_Rules_isInstanceOf 6 (118 + 3 * a) (nI l0) h = some (1, nw h2 (nI (gB S).1))) := by
    intro h hc hE
    obtain ⟨g1, e1, f1, f2, f3, f4⟩ := c_begin h 100
    have hk : kq h (up2 g1.1 13 l0 (-2), g1.2) := ⟨fun n _ _ a3 _ _ _ _ _ _ => (up2_n a3).trans (f2 n a3), f3⟩
    have hc1 := CA_kq hk hw hc
    have hE1 := cE_kq hk (Or.inl rfl) hE
    obtain ⟨ct, ce⟩ := tx_t hc1 ha
    have e0 : s_Rules_isInstanceOf 6 (118 + 3 * a) (nI l0) h = (s_Replacement_gives 11 (118 + 3 * a) 0 100 0 (nI (gB S).1) (up2 g1.1 13 l0 (-2), g1.2)).bind wr := by
      unfold s_Rules_isInstanceOf s_Replacement_seek
      rw [rR_6_4, ob_s, rR_6_0, ob_s, rK_11, ob_s, e1, ob_s, rR_6_4, ob_s, rK_11, ob_s, ob_s, c_put hl0, ob_s, ob_s, rR_6_4, ob_s, rR_6_0, ob_s, ob_s, rK_100, ob_s, len_t hc1.1, ob_s, rK_11, ob_s]
      rfl
    refine ⟨(up2 g1.1 13 l0 (-2), g1.2), hk, ⟨ct, ce, hc1.1, hE1, fun p hp => hw.1.2 p hp, f4, fun l hl => ?_, hk3, hl0⟩, fun h2 e2 => ?_, fun h2 e2 => ?_⟩
    · show up2 g1.1 13 l0 (-2) 13 l = _
      by_cases hll : l = l0
      · rw [hll, u2_s, if_pos rfl]
      · rw [u2_i hll, f1 l hl, if_neg hll]
    · rw [e0]
      unfold s_Replacement_gives
      rw [wI_11_2, ob_s, rK_11, ob_s, show s_grp_Replacement_goesOn 14 11 (118 + 3 * a) 0 100 0 1 (up2 (up2 g1.1 13 l0 (-2), g1.2).1 11 2 0, (up2 g1.1 13 l0 (-2), g1.2).2) = some (0, h2) from e2, ob_s]
      dsimp only
      rw [if_pos rfl, ob_s]
      rfl
    · rw [e0]
      unfold s_Replacement_gives
      rw [wI_11_2, ob_s, rK_11, ob_s, show s_grp_Replacement_goesOn 14 11 (118 + 3 * a) 0 100 0 1 (up2 (up2 g1.1 13 l0 (-2), g1.2).1 11 2 0, (up2 g1.1 13 l0 (-2), g1.2).2) = some (1, nw h2 (nI (gB S).1)) from e2, ob_s]
      dsimp only
      rw [if_neg (by decide), rI_11_2, ob_s, nw_2, if_pos rfl, ob_s]
      rfl
  -- the model
  have ml : ∀ H, MA S H → ∃ H1, MA S H1 ∧ o24 H H1 ∧ (∀ l, l < 8 → H1.1 223 l = 0) ∧ s_AdjoinedSetsModel_isInstance 200 (nI a) (nI l0) H = if fx (foc (gK S) (gT S a).2.1 (gT S a).2.2 l0 12 true (fun _ => false) 0) < nI (gB S).1 then (if fx (foc (gK S) (gT S a).2.1 (gT S a).2.2 l0 12 true (fun _ => false) 0) < 0 then s_AdjoinedSetsModel_isInstance_139 200 (nI (100 + 60 * a)) H1 else (s_AdjoinedSetsModel_isSame 200 (nI (100 + 60 * a)) 0 (fx (foc (gK S) (gT S a).2.1 (gT S a).2.2 l0 12 true (fun _ => false) 0)) H1).bind fun q7 => if q7 = 0 then some (0, H1) else (s_AdjoinedSetsModel_replace 200 (nI l0) (fx (foc (gK S) (gT S a).2.1 (gT S a).2.2 l0 12 true (fun _ => false) 0)) H1).bind fun q10 => s_AdjoinedSetsModel_isInstance_139 200 (nI (100 + 60 * a)) q10) else some (0, H1) := by
    intro H hm
    obtain ⟨P, A, B, e1, sp⟩ := m_scan (h := H) (x := gT S a) (o := 100 + 60 * a) (s := 0) (hm.2.2.2.2.1 a ha).2.1 (by omega) a60 (fun f hf => (hm.2.2.1 f hf).1) hk3 (Nat.le_refl 12) hKa (Nat.le_refl _)
    have hlo := lo_foc (l0 := l0) hl0 12 0 true 0 (gT S a).1 (fun _ => false) sp a60 MSK_0
    rw [Nat.sub_zero] at hlo
    obtain ⟨H1, e2, z1, o1⟩ := m_noR (sw H 0 P A B)
    have m1 := MA_24 o1 (MA_sw hm)
    refine ⟨H1, m1, o24_sw.tr o1, z1, ?_⟩
    have e3 := m_fst (l0 := l0) (h := H) (P := P) (A := A) (B := B) (x := gT S a) (o := 100 + 60 * a) (hm.2.2.2.2.1 a ha).2.1 a60 (by omega) (by omega) hl0 (gT S a).1 20000 (Nat.le_refl _) (by omega)
    rw [Nat.sub_self, hlo] at e3
    have e4 : nI (100 + 60 * a + (gT S a).1) - 1 = nI (100 + 60 * a + (gT S a).1 - 1) := by rw [show (1 : Int32) = nI 1 from rfl, pk_sub (by omega)]
    unfold s_AdjoinedSetsModel_isInstance
    rw [rK_200, ob_s, thAt, ob_s, ob_s, show s_AdjoinedSetsModel_scan 200 (nI (100 + 60 * a)) H = _ from e1, ob_s]
    dsimp only
    rw [e4, show s_AdjoinedSetsModel_isInstance_22 20000 200 (nI l0) (nI (100 + 60 * a)) (-1) (nI (100 + 60 * a + (gT S a).1 - 1)) (sw H 0 P A B) = _ from e3]
    unfold aft
    rw [e2, ob_s, rI_200_1, ob_s, m1.1.1]
  have hcs := fun h1 (hR : RCs (gK S) h1 (118 + 3 * a) 100 (gT S a) (xB S E) l0) => c_sk hR 12 true 0 (gT S a).1 1 14 0 (gB S).1 12 0 (fun _ => false) hKa (Nat.le_refl _) hK (Nat.le_refl _) (Nat.le_refl _) (by omega) (by omega) (by omega) MSK_0
  cases hf : foc (gK S) (gT S a).2.1 (gT S a).2.2 l0 12 true (fun _ => false) 0 with
  | none =>
    have hmm : ∀ H, MA S H → ∃ H', o24 H H' ∧ (MTn (gK S) (gT S a) (xB S E) 12 true (fun _ => false) 0 0 → s_AdjoinedSetsModel_isInstance 200 (nI a) (nI l0) H = some (1, H')) ∧ (¬ MTn (gK S) (gT S a) (xB S E) 12 true (fun _ => false) 0 0 → s_AdjoinedSetsModel_isInstance 200 (nI a) (nI l0) H = some (0, H')) := by
      intro H hm
      obtain ⟨H1, m1, o1, z1, e1⟩ := ml H hm
      obtain ⟨H', o2, g1, g2⟩ := m_139 (E := E) (rl := fun _ => false) (w := fun _ => 0) (we := fun _ => 0) (dw := fun _ => 0) hw hK ha m1 (fun l hl _ => z1 l hl) (fun l _ z => Bool.noConfusion z)
      rw [hf] at e1
      rw [show fx none = -1 from rfl, if_pos (show (-1 : Int32) < nI (gB S).1 by rw [Int32.lt_iff_toInt_lt, nI_toInt (by omega), show (-1 : Int32).toInt = -1 by decide]; omega), if_pos (show (-1 : Int32) < 0 by decide)] at e1
      have iff1 : MT (gK S) (gT S a).2.1 (gT S a).2.2 (xB S E).2.1 (xB S E).2.2 (fun _ => false) (fun l => fv (xB S E).2.1 (xB S E).2.2 ((fun _ => 0) l) ((fun _ => 0) l)) (EQt (xB S E) (xB S E) (fun _ => 0) (fun _ => 0)) 12 true (fun _ => false) 0 0 ↔ MTn (gK S) (gT S a) (xB S E) 12 true (fun _ => false) 0 0 := (MT_none (l0 := l0) (ff := fun _ _ => false) (EQ := fun _ _ => False) 12 true (fun _ => false) 0 0 hf).symm.trans (MT_none (l0 := l0) (ff := fun _ _ => false) (EQ := fun _ _ => False) 12 true (fun _ => false) 0 0 hf)
      exact ⟨H', o1.tr o2, fun z => e1.trans (g1 (iff1.mpr z)), fun z => e1.trans (g2 (fun y => z (iff1.mp y)))⟩
    by_cases hP : MTn (gK S) (gT S a) (xB S E) 12 true (fun _ => false) 0 0
    · refine ⟨1, Or.inr rfl, fun h hc hE => ?_, fun H hm => ?_⟩
      · obtain ⟨h1, k1, hR, _, c2⟩ := cl h hc hE
        exact ⟨_, by rw [ca, c2 h1 (((hcs h1 hR).1 hf).1 hP)]; rfl, kq_nw k1⟩
      · obtain ⟨H', o1, g1, _⟩ := hmm H hm
        exact ⟨H', by rw [ma, g1 hP]; rfl, MA_24 o1 hm, sC_24 o1⟩
    · refine ⟨0, Or.inl rfl, fun h hc hE => ?_, fun H hm => ?_⟩
      · obtain ⟨h1, k1, hR, c1, _⟩ := cl h hc hE
        obtain ⟨h', e, k2⟩ := ((hcs h1 hR).1 hf).2 hP
        exact ⟨h', by rw [ca, c1 h' e]; rfl, k1.tr k2⟩
      · obtain ⟨H', o1, _, g2⟩ := hmm H hm
        exact ⟨H', by rw [ma, g2 hP]; rfl, MA_24 o1 hm, sC_24 o1⟩
  | some x =>
    obtain ⟨_, hxT⟩ := foc_rg _ _ _ _ _ _ hKa a60 hf
    have hfx : fx (some x) = nI x := rfl
    have hx0 : ¬ nI x < 0 := nI_pos (by omega)
    by_cases hpre : ∀ j, j < x - 0 → (gT S a).2.1 (0 + j) = (xB S E).2.1 (0 + j)
    rotate_left
    · refine ⟨0, Or.inl rfl, fun h hc hE => ?_, fun H hm => ?_⟩
      · obtain ⟨h1, k1, hR, c1, _⟩ := cl h hc hE
        obtain ⟨h', e, k2⟩ := ((hcs h1 hR).2 x hf).2 hpre
        exact ⟨h', by rw [ca, c1 h' e]; rfl, k1.tr k2⟩
      · obtain ⟨H1, m1, o1, z1, e1⟩ := ml H hm
        rw [hf, hfx] at e1
        refine ⟨H1, ?_, m1, sC_24 o1⟩
        rw [ma, e1]
        by_cases hxn : x < (gB S).1
        · have g2 := m_sm2 (m1.2.2.2.2.1 a ha).2.1 m1.1.2 (a := 0) (f := 0) (m := x) (by omega) (by omega) (by omega) (by omega)
          rw [if_pos (nI_lt hxn (by omega)), if_neg hx0, show s_AdjoinedSetsModel_isSame 200 (nI (100 + 60 * a)) 0 (nI x) H1 = some 0 from g2.2 (fun z => hpre (fun j hj => (z j (by omega)).2)), ob_s, if_pos rfl]
          rfl
        · rw [if_neg (nI_nlt (by omega) (by omega))]
          rfl
    obtain ⟨d3, e0, dle, hKw, hle⟩ := foc_KD (K := gK S) 12 12 _ _ _ _ _ _ _ hKa a60 hK h60 hf hpre
    rw [Nat.zero_add, Nat.sub_zero] at hKw
    have hxe := KD_lt hKw
    have hKw := KD_up (d' := 12) (by omega) hKw
    have hwE : (E x).toNatClampNeg = e0 := nI_cl (KD_end hKw) (by omega)
    have hmm : ∀ H, MA S H → ∃ H', o24 H H' ∧ (MTw (gK S) (gT S a) (xB S E) l0 x 12 true (fun _ => false) 0 0 → s_AdjoinedSetsModel_isInstance 200 (nI a) (nI l0) H = some (1, H')) ∧ (¬ MTw (gK S) (gT S a) (xB S E) l0 x 12 true (fun _ => false) 0 0 → s_AdjoinedSetsModel_isInstance 200 (nI a) (nI l0) H = some (0, H')) := by
      intro H hm
      obtain ⟨H1, m1, o1, z1, e1⟩ := ml H hm
      rw [hf, hfx] at e1
      have g2 := m_sm2 (m1.2.2.2.2.1 a ha).2.1 m1.1.2 (a := 0) (f := 0) (m := x) (by omega) (by omega) (by omega) (by omega)
      have heq : eqt (gT S a).1 (gT S a).2.1 0 (gB S).2.1 0 x := fun j hj => ⟨by omega, hpre j (by omega)⟩
      obtain ⟨H2, e2, r1, r2, r3, r4, o2⟩ := m_rep (K := gK S) (H := H1) (ow := 0) (l := l0) (w := x) (we := e0) (dw := 12) (xw := xB S E) hl0 (fun p hp => m1.1.2 p hp) (by omega) h60 (fun f hf => (m1.2.2.1 f hf).1) hk3 (Nat.le_refl _) hKw hle
      have m2 := MA_24 o2 m1
      rw [if_pos (nI_lt (by omega) (by omega)), if_neg hx0, show s_AdjoinedSetsModel_isSame 200 (nI (100 + 60 * a)) 0 (nI x) H1 = some 1 from g2.1 heq, ob_s, if_neg (by decide), show s_AdjoinedSetsModel_replace 200 (nI l0) (nI x) H1 = some H2 by rw [Nat.zero_add] at e2; exact e2, ob_s] at e1
      obtain ⟨H', o3, g3, g4⟩ := m_139 (E := E) (rl := rlS l0) (w := fun _ => x) (we := fun _ => (E x).toNatClampNeg) (dw := fun _ => 12) hw hK ha m2 (fun l hl hrl => by rw [(r4 l (of_decide_eq_false hrl)).2.1]; exact z1 l hl) (fun l _ hrl => by
        have hl' : l = l0 := of_decide_eq_true hrl
        rw [hl', hwE]
        exact ⟨r1, r2, r3, hle, hKw⟩)
      exact ⟨H', (o1.tr o2).tr o3, fun z => e1.trans (g3 z), fun z => e1.trans (g4 z)⟩
    have hcw := fun h1 hR => ((hcs h1 hR).2 x hf).1 hpre
    rw [show 0 + (x - 0) = x by omega] at hcw
    by_cases hP : MTw (gK S) (gT S a) (xB S E) l0 x 12 true (fun _ => false) 0 0
    · refine ⟨1, Or.inr rfl, fun h hc hE => ?_, fun H hm => ?_⟩
      · obtain ⟨h1, k1, hR, _, c2⟩ := cl h hc hE
        exact ⟨_, by rw [ca, c2 _ ((hcw h1 hR).1 hP)]; rfl, kq_nw (k1.tr kq_13)⟩
      · obtain ⟨H', o1, g1, _⟩ := hmm H hm
        exact ⟨H', by rw [ma, g1 hP]; rfl, MA_24 o1 hm, sC_24 o1⟩
    · refine ⟨0, Or.inl rfl, fun h hc hE => ?_, fun H hm => ?_⟩
      · obtain ⟨h1, k1, hR, c1, _⟩ := cl h hc hE
        obtain ⟨h', e, k2⟩ := (hcw h1 hR).2 hP
        exact ⟨h', by rw [ca, c1 h' e]; rfl, k1.tr k2⟩
      · obtain ⟨H', o1, _, g2⟩ := hmm H hm
        exact ⟨H', by rw [ma, g2 hP]; rfl, MA_24 o1 hm, sC_24 o1⟩
