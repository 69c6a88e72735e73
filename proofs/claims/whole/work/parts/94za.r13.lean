/-! Rule 13: a definition unfolded. -/
theorem fn_aR : ∀ f, f < 4 → aR 2 4 (nI f) = some (17 + f) := by decide
def ps (E : Nat → Int32) (p : Nat) : Nat → Nat
  | 0 => p
  | k + 1 => (E (ps E p k)).toNatClampNeg
theorem ps_s (E : Nat → Int32) (p : Nat) : ∀ k, ps E p (k + 1) = ps E (E p).toNatClampNeg k := by
  intro k
  induction k with
  | zero => rfl
  | succ k ih =>
    show (E (ps E p (k + 1))).toNatClampNeg = (E (ps E (E p).toNatClampNeg k)).toNatClampNeg
    rw [ih]
theorem its_ps {K : Nat → Nat} {t E : Nat → Int32} {d : Nat} : ∀ (m p e : Nat), its (KD K t E d false) m p e → e ≤ 60 → (∀ k, k < m → KD K t E d false (ps E p k) (ps E p (k + 1)) ∧ ps E p (k + 1) ≤ e) ∧ ps E p m = e := by
  intro m
  induction m with
  | zero => intro p e h _; exact ⟨fun k hk => absurd hk (by omega), h⟩
  | succ m ih =>
    intro p e h he
    obtain ⟨q, h1, h2⟩ := h
    have hq : q ≤ e := by
      have : ∀ m q e, its (KD K t E d false) m q e → q ≤ e := by
        intro m
        induction m with
        | zero => intro q e h; exact Nat.le_of_eq h
        | succ m ih2 =>
          intro q e h
          obtain ⟨q2, a1, a2⟩ := h
          have := KD_lt a1
          have := ih2 q2 e a2
          omega
      exact this m q e h2
    have hc : (E p).toNatClampNeg = q := nI_cl (KD_end h1) (by omega)
    obtain ⟨i1, i2⟩ := ih q e h2 he
    refine ⟨fun k hk => ?_, by rw [ps_s, hc]; exact i2⟩
    cases k with
    | zero =>
      rw [ps_s, hc]
      exact ⟨h1, hq⟩
    | succ k =>
      rw [ps_s E p k, ps_s E p (k + 1), hc]
      exact i1 k (by omega)
theorem fn_a1 : ∀ j, j < 127 → 33 ≤ j → (65 ≤ nI j ∧ nI j < 69) → ¬ (nI j - 65 < 0) ∧ nI j - 65 < 4 := by decide
theorem fn_a2 : ∀ j, j < 127 → 33 ≤ j → (65 ≤ nI j ∧ nI j < 69) → ¬ nI j < 65 ∧ ¬ 68 < nI j := by decide
theorem fn_a3 : ∀ j, j < 127 → 33 ≤ j → ¬ (65 ≤ nI j ∧ nI j < 69) → (nI j - 65 < 0 ∨ (¬ nI j - 65 < 0 ∧ ¬ nI j - 65 < 4)) := by decide
theorem fn_a4 : ∀ j, j < 127 → 33 ≤ j → ¬ (65 ≤ nI j ∧ nI j < 69) → (nI j < 65 ∨ (¬ nI j < 65 ∧ 68 < nI j)) := by decide
theorem ok_j {c : Int32} (h : okC c) : ∃ j, j < 127 ∧ 33 ≤ j ∧ c = nI j := by
  obtain ⟨h1, h2⟩ := h
  rw [Int32.le_iff_toInt_le] at h1 h2
  have x1 : (33 : Int32).toInt = 33 := by decide
  have x2 : (126 : Int32).toInt = 126 := by decide
  refine ⟨c.toInt.toNat, by omega, by omega, ?_⟩
  rw [← Int32.toInt_inj]
  have : (nI c.toInt.toNat).toInt = (c.toInt.toNat : Int) := nI_toInt (by omega)
  rw [this]
  omega
theorem al_13 {S : SG} {E : Nat → Int32} {i j : Int32} (hw : WF S) (hK : KD (gK S) (gB S).2.1 E 12 true 0 (gB S).1) : ALR S E (nI 13) i j := by
  have hk3 : ∀ f, f < 4 → gK S f ≤ 3 := fun f hf => (hw.2.2.1 f hf).1
  have h60 := hw.1.1
  have hn1 : 1 < (gB S).1 := by
    obtain ⟨_, _, _, hp⟩ := KD_v hK
    have ha : 1 ≤ arN (gK S) true ((gB S).2.1 0) := by
      unfold arN
      dsimp only
      split <;> omega
    obtain ⟨a, ha'⟩ : ∃ a, arN (gK S) true ((gB S).2.1 0) = a + 1 := ⟨_, (Nat.sub_add_cancel ha).symm⟩
    rw [ha'] at hp
    obtain ⟨q, z1, z2⟩ := hp
    have := KD_lt z1
    have := pc_le _ _ _ _ z2
    have := fs_1 ((gB S).2.1 0)
    omega
  obtain ⟨jc, j1, j2, hjc⟩ := ok_j (hw.1.2 1 hn1)
  have hfa1 := fn_a1 jc j1 j2
  have hfa2 := fn_a2 jc j1 j2
  have hfa3 := fn_a3 jc j1 j2
  have hfa4 := fn_a4 jc j1 j2
  rw [← hjc] at hfa1 hfa2 hfa3 hfa4
  have ca : ∀ h, s_Rules_allow 6 (nI 13) i j h = (s_Rules_isUnfolding 6 h).bind wr := by
    intro h
    unfold s_Rules_allow
    rw [if_neg (by decide), if_neg (by decide), if_neg (by decide), if_neg (by decide), if_neg (by decide), if_neg (by decide), if_neg (by decide), if_neg (by decide), if_neg (by decide), if_neg (by decide), if_neg (by decide), if_neg (by decide), if_neg (by decide), if_pos (show nI 13 = 13 from rfl), rK_6, ob_s]
    rfl
  have ma : ∀ h, s_AdjoinedSetsModel_allows 200 (nI 13) i j h = (s_AdjoinedSetsModel_isDefinition 200 h).bind wr := by
    intro h
    unfold s_AdjoinedSetsModel_allows
    rw [if_neg (by decide), if_neg (by decide), if_neg (by decide), if_neg (by decide), if_neg (by decide), if_neg (by decide), if_neg (by decide), if_neg (by decide), if_neg (by decide), if_neg (by decide), if_neg (by decide), if_neg (by decide), if_neg (by decide), if_pos (show nI 13 = 13 from rfl), rK_200, ob_s]
    rfl
  have cu : ∀ h, CA S h → s_Rules_isUnfolding 6 h = if (gB S).2.1 0 = 61 then (if ((gB S).2.1 1 - 65) < 0 then some (0, h) else if ((gB S).2.1 1 - 65) < 4 then (s_Replacement_begin 11 100 h).bind fun q18 => s_Rules_isUnfolding_51 20000 6 ((gB S).2.1 1 - 65) 2 0 q18 else some (0, h)) else some (0, h) := by
    intro h hc
    unfold s_Rules_isUnfolding
    rw [rR_6_0, ob_s, rK_100, ob_s, show s_Text_at 100 1 h = some ((gB S).2.1 1) from at_h (p := 1) hc.1 hn1, ob_s, ob_s, rK_100, ob_s, show s_Text_at 100 0 h = some ((gB S).2.1 0) from at_h (p := 0) hc.1 (by omega), ob_s, rR_6_4, ob_s, ob_s, rK_11, ob_s]
  have mu : ∀ H, MA S H → s_AdjoinedSetsModel_isDefinition 200 H = if (gB S).2.1 0 = 61 then ((s_AdjoinedSetsModel_isFunction ((gB S).2.1 1)).bind fun q10 => if q10 = 0 then some (0, H) else (s_AdjoinedSetsModel_noReplacing 200 H).bind fun q17 => s_AdjoinedSetsModel_isDefinition_43 20000 200 ((gB S).2.1 1 - 65) 2 0 q17) else some (0, H) := by
    intro H hm
    have r0 : aI H 201 0 0 = some ((gB S).2.1 0) := by
      have := hm.1.2 0 (by omega)
      rw [show (0 : Int32) = nI 0 from rfl, rA_201 (by omega)]
      exact congrArg some this
    have r1 : aI H 201 0 1 = some ((gB S).2.1 1) := by
      have := hm.1.2 1 (by omega)
      rw [show (1 : Int32) = nI 1 from rfl, rA_201 (by omega)]
      exact congrArg some this
    unfold s_AdjoinedSetsModel_isDefinition
    rw [rR_200_0, ob_s, r0, ob_s, ob_s, r1, ob_s, ob_s, r1, ob_s, rK_200, ob_s]
  have no : ∀ (hcl : ∀ h, CA S h → s_Rules_isUnfolding 6 h = some (0, h)) (hml : ∀ H, MA S H → s_AdjoinedSetsModel_isDefinition 200 H = some (0, H)), ALR S E (nI 13) i j := fun hcl hml => ⟨0, Or.inl rfl, fun h hc _ => ⟨h, by rw [ca, hcl h hc]; rfl, kq.rf h⟩, fun H hm => ⟨H, by rw [ma, hml H hm]; rfl, hm, sC.rf H⟩⟩
  by_cases h61 : (gB S).2.1 0 = 61
  rotate_left
  · exact no (fun h hc => by rw [cu h hc, if_neg h61]) (fun H hm => by rw [mu H hm, if_neg h61])
  by_cases hfn : 65 ≤ (gB S).2.1 1 ∧ (gB S).2.1 1 < 69
  rotate_left
  · have f1 := hfa3 hfn
    have f2 := hfa4 hfn
    refine no (fun h hc => ?_) (fun H hm => ?_)
    · rw [cu h hc, if_pos h61]
      rcases f1 with z | ⟨z1, z2⟩
      · rw [if_pos z]
      · rw [if_neg z1, if_neg z2]
    · rw [mu H hm, if_pos h61]
      unfold s_AdjoinedSetsModel_isFunction
      rcases f2 with z | ⟨z1, z2⟩
      · rw [if_pos z, ob_s, if_pos rfl]
      · rw [if_neg z1, if_pos z2, ob_s, if_pos rfl]
  obtain ⟨f1, f2⟩ := hfa1 hfn
  obtain ⟨f3, f4⟩ := hfa2 hfn
  obtain ⟨ef, hf4⟩ := fn_n hfn
  -- the terms
  have hparts : ∃ q, (0 < gK S (fnN ((gB S).2.1 1)) ∧ its (KD (gK S) (gB S).2.1 E 10 false) (gK S (fnN ((gB S).2.1 1))) 2 q) ∧ q ≤ (gB S).1 ∧ KD (gK S) (gB S).2.1 E 11 false q (gB S).1 := by
    rcases hK.2.2 with ⟨_, q, k1, k2⟩ | ⟨z, _⟩ | ⟨z, _⟩ | ⟨z, _⟩
    · refine ⟨q, ?_, Nat.le_of_lt (KD_lt k2), k2⟩
      have hall : ∀ j, j < 69 → 65 ≤ j → ¬ (48 ≤ nI j ∧ nI j ≤ 57) ∧ ¬ (97 ≤ nI j ∧ nI j < 105) ∧ ¬ nI j = 123 ∧ ¬ nI j = 73 := by decide
      have hall2 : ∀ j, j < 69 → 65 ≤ j → ¬ (nI j = 43 ∨ nI j = 124 ∨ nI j = 38 ∨ nI j = 45) ∧ ¬ (nI j = 85 ∨ nI j = 80 ∨ nI j = 84) := by decide
      have hj : (gB S).2.1 1 = nI (65 + fnN ((gB S).2.1 1)) := by
        rw [← nI_add, ← ef]
        show (gB S).2.1 1 = 65 + ((gB S).2.1 1 - 65)
        rw [Int32.add_comm, Int32.sub_add_cancel]
      obtain ⟨y1, y2, y5, y6⟩ := hall (65 + fnN ((gB S).2.1 1)) (by omega) (by omega)
      obtain ⟨y3, y4⟩ := hall2 (65 + fnN ((gB S).2.1 1)) (by omega) (by omega)
      rw [← hj] at y1 y2 y3 y4 y5 y6
      rcases k1.2.2 with z | z | z | z | z | z | z
      · exact absurd z.1 y1
      · exact absurd z.1 y2
      · exact z.2
      · exact absurd z.1 y3
      · exact absurd z.1 y4
      · exact absurd z.1 y5
      · exact absurd z.1 y6
    · rw [h61] at z; exact absurd z (by decide)
    · rw [h61] at z; exact absurd z (by decide)
    · rw [h61] at z; exact absurd z (by decide)
  obtain ⟨q, ⟨hK0, hits⟩, hqn, hKq⟩ := hparts
  generalize hf : fnN ((gB S).2.1 1) = f at *
  have hKf3 := hk3 f hf4
  obtain ⟨hps, hpe⟩ := its_ps _ _ _ hits (by omega)
  obtain ⟨b1, b2, b3, b4⟩ := (hw.2.2.1 f hf4).2 (by omega)
  -- the class's walk over the terms
  have cloop : ∀ (m k r : Nat) (h : HP), k + m = gK S f → m < r → CA S h → cE h 100 (xB S E) → (∀ l, l < 8 → h.1 13 l = if l < k then nI (ps E 2 l) else -1) → h.2.2 = 100 → ∃ h', s_Rules_isUnfolding_51 r 6 (nI f) (nI (ps E 2 k)) (nI k) h = (s_Replacement_gives 11 (106 + 3 * f) 0 100 (nI q) (nI (gB S).1) h').bind wr ∧ CA S h' ∧ cE h' 100 (xB S E) ∧ SR h' (fun l => decide (l < gK S f)) (ps E 2) ∧ h'.2.2 = 100 ∧ kq h h' := by
    intro m
    induction m with
    | zero =>
      intro k r h h1 h2 hc hE hs ht
      obtain ⟨r, rfl⟩ : ∃ r0, r = r0 + 1 := ⟨r - 1, by omega⟩
      have hk : k = gK S f := by omega
      refine ⟨h, ?_, hc, hE, fun l hl => ?_, ht, kq.rf h⟩
      · rw [s_Rules_isUnfolding_51]
        dsimp only
        unfold s_Function_takes s_Function_body
        rw [rR_6_1, ob_s, fn_aR f hf4, ob_s, (fn_R f hf4 h).2.2, ob_s, (fn_R f hf4 h).1, ob_s, (hc.2.2.1 f hf4).1, ob_s, if_pos (nI_le (by omega) (by omega)), rR_6_4, ob_s, ob_s, fn_aR f hf4, ob_s, (fn_R f hf4 h).2.2, ob_s, (fn_R f hf4 h).2.1, ob_s, ob_s, rR_6_0, ob_s, ob_s, rK_100, ob_s, len_t hc.1, ob_s, rK_11, ob_s, hk, hpe]
        rfl
      · rw [hs l hl, hk]
        by_cases hl2 : l < gK S f
        · rw [if_pos hl2, if_pos (by simp [hl2])]
        · rw [if_neg hl2, if_neg (by simp [hl2])]
    | succ m ih =>
      intro k r h h1 h2 hc hE hs ht
      obtain ⟨r, rfl⟩ : ∃ r0, r = r0 + 1 := ⟨r - 1, by omega⟩
      have hk : k < gK S f := by omega
      have hk' : kq h (up2 h.1 13 k (nI (ps E 2 k)), h.2) := ⟨fun n _ _ a3 _ _ _ _ _ _ => up2_n a3, rfl⟩
      have hc' := CA_kq hk' hw hc
      have hE' := cE_kq hk' (Or.inl rfl) hE
      obtain ⟨kd1, kd2⟩ := hps k hk
      have lk := KD_lt kd1
      obtain ⟨h', a1, a2, a3, a4, a5, a6⟩ := ih (k + 1) r (up2 h.1 13 k (nI (ps E 2 k)), h.2) (by omega) (by omega) hc' hE' (fun l hl => by
        show up2 h.1 13 k (nI (ps E 2 k)) 13 l = _
        by_cases hlk : l = k
        · rw [hlk, u2_s, if_pos (by omega)]
        · rw [u2_i hlk, hs l hl]
          by_cases hlk2 : l < k
          · rw [if_pos hlk2, if_pos (by omega)]
          · rw [if_neg hlk2, if_neg (by omega)]) ht
      refine ⟨h', ?_, a2, a3, a4, a5, hk'.tr a6⟩
      rw [s_Rules_isUnfolding_51]
      dsimp only
      unfold s_Function_takes
      rw [rR_6_1, ob_s, fn_aR f hf4, ob_s, (fn_R f hf4 h).2.2, ob_s, (fn_R f hf4 h).1, ob_s, (hc.2.2.1 f hf4).1, ob_s, if_neg (nI_ge (by omega) (by omega)), rR_6_4, ob_s, rK_11, ob_s, c_put (by omega), ob_s, rR_6_0, ob_s, rK_100, ob_s, end_h (x := xB S E) hc'.1 hE' (by show ps E 2 k < (gB S).1; omega), ob_s, nI_1, show (xB S E).2.2 (ps E 2 k) = nI (ps E 2 (k + 1)) from KD_end kd1, a1]
  -- the model's
  have mloop : ∀ (m k r : Nat) (H : HP), k + m = gK S f → m < r → MA S H → (∀ l, l < 8 → k ≤ l → H.1 223 l = 0) → (∀ l, l < k → H.1 222 l = nI (0 + ps E 2 l) ∧ H.1 223 l = nI (ps E 2 (l + 1) - ps E 2 l) ∧ MSK (H.1 224 l) (fv (gB S).2.1 E 10 (ps E 2 l))) → ∃ H', s_AdjoinedSetsModel_isDefinition_43 r 200 (nI f) (nI (ps E 2 k)) (nI k) H = ((s_AdjoinedSetsModel_replaced 200 (nI (1100 + 60 * f)) (nI q) H').bind fun q6 => (gI q6.2 200 9 1).bind fun v8 => if q6.1 = v8 then some (1, q6.2) else some (0, q6.2)) ∧ MA S H' ∧ (∀ l, l < 8 → gK S f ≤ l → H'.1 223 l = 0) ∧ (∀ l, l < gK S f → H'.1 222 l = nI (0 + ps E 2 l) ∧ H'.1 223 l = nI (ps E 2 (l + 1) - ps E 2 l) ∧ MSK (H'.1 224 l) (fv (gB S).2.1 E 10 (ps E 2 l))) ∧ o24 H H' := by
    intro m
    induction m with
    | zero =>
      intro k r H h1 h2 hm hz hs
      obtain ⟨r, rfl⟩ : ∃ r0, r = r0 + 1 := ⟨r - 1, by omega⟩
      have hk : k = gK S f := by omega
      subst hk
      refine ⟨H, ?_, hm, hz, hs, o24.rf H⟩
      rw [s_AdjoinedSetsModel_isDefinition_43]
      dsimp only
      rw [rR_200_3, ob_s, rA_203 (by omega), ob_s, (hm.2.2.1 f hf4).1, if_pos (nI_le (Nat.le_refl _) (by omega)), rK_200, ob_s, show (60 : Int32) = nI 60 from rfl, show (1100 : Int32) = nI 1100 from rfl, pk_mul, nI_add, hpe]
    | succ m ih =>
      intro k r H h1 h2 hm hz hs
      obtain ⟨r, rfl⟩ : ∃ r0, r = r0 + 1 := ⟨r - 1, by omega⟩
      have hk : k < gK S f := by omega
      obtain ⟨kd1, kd2⟩ := hps k hk
      have lk := KD_lt kd1
      have htx : ∀ H, MA S H → mT H 0 (xB S E) := fun H hm p hp => hm.1.2 p hp
      have h203 : ∀ H, MA S H → ∀ f, f < 4 → H.1 203 f = nI (gK S f) := fun H hm f hf => (hm.2.2.1 f hf).1
      obtain ⟨H1, e1, r1, r2, r3, r4, r5⟩ := m_rep (K := gK S) (H := H) (ow := 0) (l := k) (w := ps E 2 k) (we := ps E 2 (k + 1)) (dw := 10) (xw := xB S E) (by omega) (htx _ hm) (by omega) h60 (h203 _ hm) hk3 (by omega) kd1 (by show ps E 2 (k + 1) ≤ (gB S).1; omega)
      have m1 := MA_24 r5 hm
      have eE := m_endOf (h := H1) (K := gK S) (n := (gB S).1) (o := 0) (t := (gB S).2.1) (E := E) (h203 _ m1) (htx _ m1) (by omega) h60 hk3 (d := 10) (by omega) kd1 (by omega)
      obtain ⟨H', a1, a2, a3, a4, a5⟩ := ih (k + 1) r H1 (by omega) (by omega) m1 (fun l hl z => by rw [(r4 l (by omega)).2.1]; exact hz l hl (by omega)) (fun l hl => by
        by_cases hlk : l = k
        · rw [hlk]; exact ⟨r1, r2, r3⟩
        · rw [(r4 l hlk).1, (r4 l hlk).2.1, (r4 l hlk).2.2]
          exact hs l (by omega))
      refine ⟨H', ?_, a2, a3, a4, r5.tr a5⟩
      rw [Nat.zero_add] at e1 eE
      rw [s_AdjoinedSetsModel_isDefinition_43]
      dsimp only
      rw [rR_200_3, ob_s, rA_203 (by omega), ob_s, (hm.2.2.1 f hf4).1, if_neg (nI_ge (by omega) (by omega)), rK_200, ob_s, e1, ob_s, ob_s, eE, ob_s, nI_1, Nat.zero_add, a1]
  have key : ∀ (P : Prop), P = MT (gK S) (gBd S f).2.1 (gBd S f).2.2 (xB S E).2.1 (xB S E).2.2 (fun l => decide (l < gK S f)) (fun l => fv (xB S E).2.1 (xB S E).2.2 ((fun _ => 10) l) (ps E 2 l)) (EQt (xB S E) (xB S E) (ps E 2) (fun l => ps E 2 (l + 1))) 12 false (fun _ => false) 0 q → (∀ h, CA S h → cE h 100 (xB S E) → (P → ∃ h', s_Rules_isUnfolding 6 h = some (1, h') ∧ kq h h') ∧ (¬ P → ∃ h', s_Rules_isUnfolding 6 h = some (0, h') ∧ kq h h')) ∧ ∀ H, MA S H → (P → ∃ H', s_AdjoinedSetsModel_isDefinition 200 H = some (1, H') ∧ o24 H H') ∧ (¬ P → ∃ H', s_AdjoinedSetsModel_isDefinition 200 H = some (0, H') ∧ o24 H H') := by
    intro P hP
    refine ⟨fun h hc hE => ?_, fun H hm => ?_⟩
    · obtain ⟨h1, e1, g1, g2, g3, g4⟩ := c_begin h 100
      have hk1 : kq h h1 := ⟨fun n _ _ a3 _ _ _ _ _ _ => g2 n a3, g3⟩
      obtain ⟨h2, e2, i1, i2, i3, i4, i5⟩ := cloop (gK S f) 0 20000 h1 (by omega) (by omega) (CA_kq hk1 hw hc) (cE_kq hk1 (Or.inl rfl) hE) (fun l hl => by rw [if_neg (by omega)]; exact g1 l hl) g4
      obtain ⟨tb1, tb2⟩ := (i1.2.2.1 f hf4).2 (by omega)
      have t1 : cT h2 100 (xB S E) := i1.1
      obtain ⟨g1, g2⟩ := c_gives (K := gK S) (h := h2) (s := 106 + 3 * f) (t := 100) (u := 100) (xs := gBd S f) (xt := xB S E) (xw := xB S E) (rl := fun l => decide (l < gK S f)) (w := ps E 2) (we := fun l => ps E 2 (l + 1)) (dw := fun _ => 10) ⟨tb1, tb2, t1, fun p hp => hw.1.2 p hp, t1, i2, i4, i3, fun l _ hl => ⟨(by decide : 10 ≤ 12), by have := (hps l (of_decide_eq_true hl)).2; show ps E 2 (l + 1) ≤ (gB S).1; omega, (hps l (of_decide_eq_true hl)).1⟩, hk3⟩ b3 (Nat.le_refl _) (by omega) hKq (Nat.le_refl _)
      have g1 := fun z : P => g1 (Eq.mp hP z)
      have g2 := fun z : ¬ P => g2 (fun y => z (Eq.mpr hP y))
      have e0 : s_Rules_isUnfolding 6 h = (s_Replacement_gives 11 (106 + 3 * f) 0 100 (nI q) (nI (gB S).1) h2).bind wr := by
        rw [cu h hc, if_pos h61, if_neg f1, if_pos f2, e1, ob_s, ef]
        exact e2
      rw [e0]
      constructor
      · intro z
        obtain ⟨v, e⟩ := g1 z
        exact ⟨nw h2 v, by rw [show s_Replacement_gives 11 (106 + 3 * f) 0 100 (nI q) (nI (gB S).1) h2 = _ from e, ob_s]; rfl, kq_nw (hk1.tr i5)⟩
      · intro z
        obtain ⟨v, e⟩ := g2 z
        exact ⟨nw h2 v, by rw [show s_Replacement_gives 11 (106 + 3 * f) 0 100 (nI q) (nI (gB S).1) h2 = _ from e, ob_s]; rfl, kq_nw (hk1.tr i5)⟩
    · obtain ⟨H1, e1, g1, g2⟩ := m_noR H
      obtain ⟨H2, e2, i1, i2, i3, i4⟩ := mloop (gK S f) 0 20000 H1 (by omega) (by omega) (MA_24 g2 hm) (fun l hl _ => g1 l hl) (fun l hl => absurd hl (by omega))
      have htx : mT H2 0 (xB S E) := fun p hp => i1.1.2 p hp
      have tb := (i1.2.2.1 f hf4).2 (by omega)
      have RMh : RM (gK S) H2 (1100 + 60 * f) 0 0 (gBd S f) (xB S E) (xB S E) (fun l => decide (l < gK S f)) (ps E 2) (fun l => ps E 2 (l + 1)) (fun _ => 10) := by
        refine ⟨tb, htx, htx, b1, h60, h60, by omega, by omega, by omega, fun l hl hrl => ?_, fun l hl hrl => ?_, hk3⟩
        · have hl' : l < gK S f := of_decide_eq_true hrl
          obtain ⟨y1, y2, y3⟩ := i3 l hl'
          have := (hps l hl').2
          exact ⟨y1, y2, y3, by show ps E 2 (l + 1) ≤ (gB S).1; omega, (hps l hl').1⟩
        · have hl' : ¬ l < gK S f := of_decide_eq_false hrl
          exact i2 l hl (by omega)
      obtain ⟨Pp, A, B, g3, g4⟩ := m_replaced RMh (fun f hf => (i1.2.2.1 f hf).1) (Nat.le_refl _) b3 (Nat.le_refl _) hKq (Nat.le_refl _)
      have g3 := fun z : P => g3 (Eq.mp hP z)
      have g4 := fun z : ¬ P => g4 (fun y => z (Eq.mpr hP y))
      simp only [Nat.zero_add, Nat.add_zero] at g3 g4
      have o3 : o24 H (sw H2 0 Pp A B) := (g2.tr i4).tr o24_sw
      have e0 : s_AdjoinedSetsModel_isDefinition 200 H = ((s_AdjoinedSetsModel_replaced 200 (nI (1100 + 60 * f)) (nI q) H2).bind fun q6 => (gI q6.2 200 9 1).bind fun v8 => if q6.1 = v8 then some (1, q6.2) else some (0, q6.2)) := by
        rw [mu H hm, if_pos h61]
        unfold s_AdjoinedSetsModel_isFunction
        rw [if_neg f3, if_neg f4, ob_s, if_neg (by decide), e1, ob_s, ef]
        exact e2
      rw [e0]
      have hsz : (sw H2 0 Pp A B).1 200 1 = nI (gB S).1 := i1.1.1
      constructor
      · intro z
        refine ⟨_, ?_, o3⟩
        rw [g3 z, ob_s]
        dsimp only
        rw [rI_200_1, ob_s, hsz, if_pos rfl]
      · intro z
        refine ⟨_, ?_, o3⟩
        rw [g4 z, ob_s]
        dsimp only
        rw [rI_200_1, ob_s, hsz, if_neg (nI_m1 (by omega))]
  obtain ⟨k1, k2⟩ := key _ rfl
  generalize MT (gK S) (gBd S f).2.1 (gBd S f).2.2 (xB S E).2.1 (xB S E).2.2 (fun l => decide (l < gK S f)) (fun l => fv (xB S E).2.1 (xB S E).2.2 ((fun _ => 10) l) (ps E 2 l)) (EQt (xB S E) (xB S E) (ps E 2) (fun l => ps E 2 (l + 1))) 12 false (fun _ => false) 0 q = P at k1 k2
  by_cases hP : P
  · refine ⟨1, Or.inr rfl, fun h z1 z2 => ?_, fun H z1 => ?_⟩
    · obtain ⟨h', y1, y2⟩ := (k1 h z1 z2).1 hP
      exact ⟨h', by rw [ca, y1]; rfl, y2⟩
    · obtain ⟨H', y1, y2⟩ := (k2 H z1).1 hP
      exact ⟨H', by rw [ma, y1]; rfl, MA_24 y2 z1, sC_24 y2⟩
  · refine ⟨0, Or.inl rfl, fun h z1 z2 => ?_, fun H z1 => ?_⟩
    · obtain ⟨h', y1, y2⟩ := (k1 h z1 z2).2 hP
      exact ⟨h', by rw [ca, y1]; rfl, y2⟩
    · obtain ⟨H', y1, y2⟩ := (k2 H z1).2 hP
      exact ⟨H', by rw [ma, y1]; rfl, MA_24 y2 z1, sC_24 y2⟩
