/-! Rules 8, 14, 15: G is F with a term for x. -/
theorem nI_m1 {a : Nat} (h : a < 2 ^ 30) : ¬ (-1 : Int32) = nI a := fun q => by have := nI_pos (n := a) (by omega); rw [← q] at this; exact this (by decide)
theorem zr_1 : zr 1 = some () := rfl
theorem zr_0 : zr 0 = some () := rfl
theorem g_core {S : SG} {E : Nat → Int32} {hs' : Nat → Nat} {sx' : Bool} {c : Nat} (hw : WF S) (hI : hsI (gK S) (gB S).2.1 E (gB S).1 sx' hs') (hc1 : 1 ≤ c) (hc3 : c ≤ 3) (nc : hs' c ≠ 0) (n4 : hs' 4 ≠ 0) (n5 : hs' 5 ≠ 0) (n6 : hs' 6 ≠ 0) : ∃ r : Int32, (r = 0 ∨ r = 1) ∧ (∀ h, CA S h → cE h 100 (xB S E) → SA h hs' → ∃ h', s_Rules_isReplacedBy 6 (nI (chC c)) h = some (r, h') ∧ kq h h') ∧ ∀ H, MA S H → HA E H hs' → ∃ H', s_AdjoinedSetsModel_isG 200 (nI c) H = some (r, H') ∧ MA S H' ∧ sC H H' := by
  have hk3 : ∀ f, f < 4 → gK S f ≤ 3 := fun f hf => (hw.2.2.1 f hf).1
  have h60 := hw.1.1
  obtain ⟨dc, qc, a1, a2, a3⟩ := hI.1 c hc1 (by omega) nc
  rw [show decide (4 ≤ c) = false from decide_eq_false (by omega)] at a3
  obtain ⟨d4, q4, b1, b2, b3⟩ := hI.1 4 (by omega) (by omega) n4
  obtain ⟨d5, q5, c1, c2, c3⟩ := hI.1 5 (by omega) (by omega) n5
  obtain ⟨hL, hlt⟩ := hI.2.1 n6
  have hl8 := (lw_n hL).2
  have lc := KD_lt a3
  have l4 := KD_lt b3
  have l5 := KD_lt c3
  have key : ∀ (P : Prop), P = MT (gK S) (xB S E).2.1 (xB S E).2.2 (xB S E).2.1 (xB S E).2.2 (fun j => decide (j = lwN ((gB S).2.1 (hs' 6 - 1)))) (fun l => fv (xB S E).2.1 (xB S E).2.2 ((fun _ => dc) l) ((fun _ => hs' c - 1) l)) (EQt (xB S E) (xB S E) (fun _ => hs' c - 1) (fun _ => qc)) d4 true (fun _ => false) (hs' 4 - 1) (hs' 5 - 1) → (∀ h, CA S h → cE h 100 (xB S E) → SA h hs' → (P → ∃ h', s_Rules_isReplacedBy 6 (nI (chC c)) h = some (1, h') ∧ kq h h') ∧ (¬ P → ∃ h', s_Rules_isReplacedBy 6 (nI (chC c)) h = some (0, h') ∧ kq h h')) ∧ ∀ H, MA S H → HA E H hs' → (P → ∃ H', s_AdjoinedSetsModel_isG 200 (nI c) H = some (1, H') ∧ o24 H H') ∧ (¬ P → ∃ H', s_AdjoinedSetsModel_isG 200 (nI c) H = some (0, H') ∧ o24 H H') := by
    intro P hP
    refine ⟨fun h hc hE hS => ?_, fun H hm hH => ?_⟩
    · obtain ⟨h1, e1, f1, f2, f3, f4⟩ := c_beginWith h 100 (l := lwN ((gB S).2.1 (hs' 6 - 1))) (v := hs' c - 1) hl8
      have hkq : kq h h1 := ⟨fun n _ _ a3 _ _ _ _ _ _ => f2 n a3, f3⟩
      have hS1 : SA h1 hs' := fun c z1 z2 => by rw [f2 14 (by decide)]; exact hS c z1 z2
      have t1 := cT_kq hkq (Or.inl rfl) hc.1
      have t1 : cT h1 100 (xB S E) := t1
      have E1 := cE_kq hkq (Or.inl rfl) hE
      obtain ⟨g1, g2⟩ := c_gives (K := gK S) (h := h1) (s := 100) (t := 100) (u := 100) (xs := xB S E) (xt := xB S E) (xw := xB S E) (rl := fun j => decide (j = lwN ((gB S).2.1 (hs' 6 - 1)))) (w := fun _ => hs' c - 1) (we := fun _ => qc) (dw := fun _ => dc) ⟨t1, E1, t1, fun p hp => hw.1.2 p hp, t1, E1, f4, f1, fun l _ _ => ⟨a1, a2, a3⟩, hk3⟩ b3 b2 b1 c3 c2
      have g1 := fun z : P => g1 (Eq.mp hP z)
      have g2 := fun z : ¬ P => g2 (fun y => z (Eq.mpr hP y))
      have pc := plc hS (c := c) hc1 (by omega)
      rw [if_neg nc] at pc
      have p4 := plc hS1 (c := 4) (by omega) (by omega)
      rw [if_neg n4] at p4
      have p5 := plc hS1 (c := 5) (by omega) (by omega)
      rw [if_neg n5] at p5
      have en5 : s_Form_endOf 12 71 h1 = some (nI q5) := by
        unfold s_Form_endOf
        rw [if_neg (by decide), rR_12_0, ob_s, rK_12, ob_s, show s_Form_placeOf 12 71 h1 = some (nI (hs' 5 - 1)) from p5, ob_s, rK_100, ob_s, end_h t1 E1 (by show hs' 5 - 1 < (gB S).1; omega), ob_s]
        exact congrArg some (KD_end c3)
      have e0 : s_Rules_isReplacedBy 6 (nI (chC c)) h = (s_Replacement_gives 11 100 (nI (hs' 4 - 1)) 100 (nI (hs' 5 - 1)) (nI q5) h1).bind wr := by
        unfold s_Rules_isReplacedBy
        rw [rR_6_4, ob_s, rR_6_0, ob_s, rR_6_5, ob_s, rK_12, ob_s, f_letter (x := xB S E) hc.1 hS n6 hL hlt, ob_s, ob_s, rK_12, ob_s, pc, ob_s, rK_11, ob_s, show s_Replacement_beginWith 11 100 (nI (lwN ((xB S E).2.1 (hs' 6 - 1)))) (nI (hs' c - 1)) h = some h1 from e1, ob_s, rR_6_4, ob_s, rR_6_0, ob_s, rR_6_5, ob_s, rK_12, ob_s, show s_Form_placeOf 12 70 h1 = some (nI (hs' 4 - 1)) from p4, ob_s, ob_s, ob_s, rK_12, ob_s, show s_Form_placeOf 12 71 h1 = some (nI (hs' 5 - 1)) from p5, ob_s, ob_s, rK_12, ob_s, en5, ob_s, rK_11, ob_s]
        rfl
      rw [e0]
      constructor
      · intro z
        obtain ⟨v, e⟩ := g1 z
        exact ⟨nw h1 v, by rw [e, ob_s]; rfl, kq_nw hkq⟩
      · intro z
        obtain ⟨v, e⟩ := g2 z
        exact ⟨nw h1 v, by rw [e, ob_s]; rfl, kq_nw hkq⟩
    · obtain ⟨H1, e1, f1, f2⟩ := m_noR H
      have m1 := MA_24 f2 hm
      have htx : ∀ H, MA S H → mT H 0 (xB S E) := fun H hm p hp => hm.1.2 p hp
      have h203 : ∀ H, MA S H → ∀ f, f < 4 → H.1 203 f = nI (gK S f) := fun H hm f hf => (hm.2.2.1 f hf).1
      obtain ⟨H2, e2, r1, r2, r3, r4, r5⟩ := m_rep (K := gK S) (H := H1) (ow := 0) (l := lwN ((gB S).2.1 (hs' 6 - 1))) (w := hs' c - 1) (we := qc) (dw := dc) (xw := xB S E) hl8 (htx _ m1) (by omega) h60 (h203 _ m1) hk3 a1 a3 a2
      have m2 := MA_24 r5 m1
      have RMh : RM (gK S) H2 0 0 0 (xB S E) (xB S E) (xB S E) (fun j => decide (j = lwN ((gB S).2.1 (hs' 6 - 1)))) (fun _ => hs' c - 1) (fun _ => qc) (fun _ => dc) := by
        refine ⟨htx _ m2, htx _ m2, htx _ m2, h60, h60, h60, by omega, by omega, by omega, fun l hl hrl => ?_, fun l hl hrl => ?_, hk3⟩
        · have hl' : l = lwN ((gB S).2.1 (hs' 6 - 1)) := of_decide_eq_true hrl
          rw [hl']
          exact ⟨r1, r2, r3, a2, a3⟩
        · have hl' : l ≠ lwN ((gB S).2.1 (hs' 6 - 1)) := of_decide_eq_false hrl
          rw [(r4 l hl').2.1]
          exact f1 l hl
      obtain ⟨Pp, A, B, g1, g2⟩ := m_replaced RMh (h203 _ m2) b1 b3 b2 c3 c2
      have g1 := fun z : P => g1 (Eq.mp hP z)
      have g2 := fun z : ¬ P => g2 (fun y => z (Eq.mpr hP y))
      simp only [Nat.zero_add] at g1 g2 e2
      have o2 := f2.tr r5
      have o3 : o24 H2 (sw H2 0 Pp A B) := o24_sw
      have h220 : ∀ {H' : HP} (ho : o24 H H') (c : Nat), 1 ≤ c → c ≤ 6 → hs' c ≠ 0 → aI H' 220 0 (nI c) = some (nI (hs' c - 1)) := by
        intro H' ho c z1 z2 z3
        rw [rA_220 (by omega), ho.1 220 (by omega) (by omega) (by omega) (by omega) (by omega), (hH c z1 z2).2 z3]
      have h221 : aI (sw H2 0 Pp A B) 221 0 5 = some (nI (q5 - (hs' 5 - 1))) := by
        rw [show (5 : Int32) = nI 5 from rfl, rA_221 (by omega), (o2.tr o3).1 221 (by omega) (by omega) (by omega) (by omega) (by omega), (hH 5 (by omega) (by omega)).1, if_neg n5]
        unfold hln
        rw [if_neg (by omega), nI_cl (KD_end c3) (by omega)]
      have h201 : aI H1 201 0 (nI (hs' 6 - 1)) = some ((gB S).2.1 (hs' 6 - 1)) := by
        rw [rA_201 (by omega)]
        have := htx _ m1 (hs' 6 - 1) hlt
        rw [Nat.zero_add] at this
        exact congrArg some this
      have e0 : s_AdjoinedSetsModel_isG 200 (nI c) H = (s_AdjoinedSetsModel_replaced 200 (nI (hs' 4 - 1)) (nI (hs' 5 - 1)) H2).bind fun q28 => (gR q28.2 200 9 27).bind fun v30 => (aI q28.2 v30 0 5).bind fun v32 => (gR q28.2 200 9 28).bind fun v34 => (aI q28.2 v34 0 5).bind fun v36 => if q28.1 = (v32 + v36) then some (1, q28.2) else some (0, q28.2) := by
        unfold s_AdjoinedSetsModel_isG
        rw [rK_200, ob_s, e1, ob_s, rR_200_0, ob_s, rR_200_27, ob_s, show (6 : Int32) = nI 6 from rfl, h220 f2 6 (by omega) (by omega) n6, ob_s, h201, ob_s, ob_s, h220 f2 c hc1 (by omega) nc, ob_s, ob_s, (lw_n hL).1, e2, ob_s, rR_200_27, ob_s, show (4 : Int32) = nI 4 from rfl, h220 o2 4 (by omega) (by omega) n4, ob_s, ob_s, show aI H2 220 0 5 = _ from h220 o2 5 (by omega) (by omega) n5, ob_s, ob_s]
      rw [e0]
      constructor
      · intro z
        refine ⟨_, ?_, o2.tr o3⟩
        rw [g1 z, ob_s]
        dsimp only
        rw [rR_200_27, ob_s, show aI (sw H2 0 Pp A B) 220 0 5 = _ from h220 (o2.tr o3) 5 (by omega) (by omega) n5, ob_s, rR_200_28, ob_s, h221, ob_s, nI_add, show hs' 5 - 1 + (q5 - (hs' 5 - 1)) = q5 by omega, if_pos rfl]
      · intro z
        refine ⟨_, ?_, o2.tr o3⟩
        rw [g2 z, ob_s]
        dsimp only
        rw [rR_200_27, ob_s, show aI (sw H2 0 Pp A B) 220 0 5 = _ from h220 (o2.tr o3) 5 (by omega) (by omega) n5, ob_s, rR_200_28, ob_s, h221, ob_s, nI_add, show hs' 5 - 1 + (q5 - (hs' 5 - 1)) = q5 by omega, if_neg (nI_m1 (by omega))]
  obtain ⟨k1, k2⟩ := key _ rfl
  generalize MT (gK S) (xB S E).2.1 (xB S E).2.2 (xB S E).2.1 (xB S E).2.2 (fun j => decide (j = lwN ((gB S).2.1 (hs' 6 - 1)))) (fun l => fv (xB S E).2.1 (xB S E).2.2 ((fun _ => dc) l) ((fun _ => hs' c - 1) l)) (EQt (xB S E) (xB S E) (fun _ => hs' c - 1) (fun _ => qc)) d4 true (fun _ => false) (hs' 4 - 1) (hs' 5 - 1) = P at k1 k2
  by_cases hP : P
  · refine ⟨1, Or.inr rfl, fun h z1 z2 z3 => (k1 h z1 z2 z3).1 hP, fun H z1 z2 => ?_⟩
    obtain ⟨H', y1, y2⟩ := (k2 H z1 z2).1 hP
    exact ⟨H', y1, MA_24 y2 z1, sC_24 y2⟩
  · refine ⟨0, Or.inl rfl, fun h z1 z2 z3 => (k1 h z1 z2 z3).2 hP, fun H z1 z2 => ?_⟩
    obtain ⟨H', y1, y2⟩ := (k2 H z1 z2).2 hP
    exact ⟨H', y1, MA_24 y2 z1, sC_24 y2⟩
def bw (q : Int32 × HP) : Option (Int32 × HP) := if q.1 = 0 then some (0, q.2) else some (1, q.2)
theorem bw_r {r : Int32} {h : HP} (hr : r = 0 ∨ r = 1) : bw (r, h) = some (r, h) := by rcases hr with rfl | rfl <;> rfl
theorem wr_r {r : Int32} {h : HP} (hr : r = 0 ∨ r = 1) : wr (r, h) = some (r, h) := by rcases hr with rfl | rfl <;> rfl
theorem al_8 {S : SG} {E : Nat → Int32} {i j : Int32} (hw : WF S) (hK : KD (gK S) (gB S).2.1 E 12 true 0 (gB S).1) : ALR S E (nI 8) i j := by
  refine al_form hw hK (by omega) (by omega) (fun h => (s_Rules_isReplacedBy 6 116 h).bind bw) (fun H => ((s_AdjoinedSetsModel_isG 200 2 H).bind wr).bind wr) ?_ ?_ ?_
  · intro h
    unfold s_Rules_allow
    rw [if_neg (by decide), if_neg (by decide), if_neg (by decide), if_neg (by decide), if_neg (by decide), if_neg (by decide), if_neg (by decide), if_neg (by decide), if_pos (show nI 8 = 8 from rfl), rR_6_5, ob_s, (fo_k 8 (by omega) (by omega)).1, ob_s, rK_12, ob_s]
    rfl
  · intro H
    rw [al_m 8 i j H (by omega) (by omega)]
    unfold s_AdjoinedSetsModel_allows_109 s_AdjoinedSetsModel_isPattern
    rw [rK_200, ob_s, ob_s]
    cases hf : s_AdjoinedSetsModel_fits 200 (nI 8) H with
    | none => rfl
    | some q =>
      show ((if q.1 = 0 then some (0, q.2) else _).bind wr) = (if q.1 = 0 then some (0, q.2) else ((s_AdjoinedSetsModel_isG 200 2 q.2).bind wr).bind wr)
      by_cases h0 : q.1 = 0
      · rw [if_pos h0, if_pos h0]
        rfl
      · rw [if_neg h0, if_neg h0, if_neg (show ¬ nI 8 = 7 by decide), if_pos (show nI 8 = 8 from rfl)]
        rfl
  · intro hs' hF
    obtain ⟨sx', hI⟩ := fit_I hw.1.1 (by decide) (by decide) hK hF
    obtain ⟨r, hr, g1, g2⟩ := g_core (c := 2) hw hI (by omega) (by omega) (fit_has _ _ _ _ hF 2 (by omega) (by decide)) (fit_has _ _ _ _ hF 4 (by omega) (by decide)) (fit_has _ _ _ _ hF 5 (by omega) (by decide)) (fit_has _ _ _ _ hF 6 (by omega) (by decide))
    refine ⟨r, hr, fun h z1 z2 z3 => ?_, fun H z1 z2 => ?_⟩
    · obtain ⟨h', e, hk⟩ := g1 h z1 z2 z3
      exact ⟨h', by rw [show s_Rules_isReplacedBy 6 116 h = _ from e, ob_s]; exact bw_r hr, hk⟩
    · obtain ⟨H', e, y⟩ := g2 H z1 z2
      exact ⟨H', by rw [show s_AdjoinedSetsModel_isG 200 2 H = _ from e, ob_s, wr_r hr, ob_s]; exact wr_r hr, y⟩
theorem al_14 {S : SG} {E : Nat → Int32} {k : Nat} {i j : Int32} (hw : WF S) (hK : KD (gK S) (gB S).2.1 E 12 true 0 (gB S).1) (hk : k = 14 ∨ k = 15) : ALR S E (nI k) i j := by
  refine al_form hw hK (by omega) (by omega) (fun h => (s_Rules_isReplacedBy 6 117 h).bind bw) (fun H => ((s_AdjoinedSetsModel_isG 200 3 H).bind bw).bind wr) ?_ ?_ ?_
  · intro h
    have e0 : s_Rules_allow 6 (nI k) i j h = s_Rules_allow_232 6 (nI k) h := by rcases hk with rfl | rfl <;> rfl
    rw [e0]
    unfold s_Rules_allow_232
    rw [rR_6_5, ob_s, (fo_k k (by omega) (by omega)).1, ob_s, rK_12, ob_s]
    rfl
  · intro H
    rw [al_m k i j H (by omega) (by omega)]
    unfold s_AdjoinedSetsModel_allows_109 s_AdjoinedSetsModel_isPattern
    rw [rK_200, ob_s, ob_s]
    cases hf : s_AdjoinedSetsModel_fits 200 (nI k) H with
    | none => rfl
    | some q =>
      show ((if q.1 = 0 then some (0, q.2) else _).bind wr) = (if q.1 = 0 then some (0, q.2) else ((s_AdjoinedSetsModel_isG 200 3 q.2).bind bw).bind wr)
      by_cases h0 : q.1 = 0
      · rw [if_pos h0, if_pos h0]
        rfl
      · rw [if_neg h0, if_neg h0]
        rcases hk with rfl | rfl
        · rw [if_neg (show ¬ nI 14 = 7 by decide), if_neg (show ¬ nI 14 = 8 by decide), if_pos (show nI 14 = 14 from rfl)]
          rfl
        · rw [if_neg (show ¬ nI 15 = 7 by decide), if_neg (show ¬ nI 15 = 8 by decide), if_neg (show ¬ nI 15 = 14 by decide), if_pos (show nI 15 = 15 from rfl)]
          rfl
  · intro hs' hF
    obtain ⟨sx', hI⟩ := fit_I hw.1.1 (show 1 ≤ frm k by rcases hk with rfl | rfl <;> decide) (show frm k < 14 by rcases hk with rfl | rfl <;> decide) hK hF
    obtain ⟨r, hr, g1, g2⟩ := g_core (c := 3) hw hI (by omega) (by omega) (fit_has _ _ _ _ hF 3 (by omega) (by rcases hk with rfl | rfl <;> decide)) (fit_has _ _ _ _ hF 4 (by omega) (by rcases hk with rfl | rfl <;> decide)) (fit_has _ _ _ _ hF 5 (by omega) (by rcases hk with rfl | rfl <;> decide)) (fit_has _ _ _ _ hF 6 (by omega) (by rcases hk with rfl | rfl <;> decide))
    refine ⟨r, hr, fun h z1 z2 z3 => ?_, fun H z1 z2 => ?_⟩
    · obtain ⟨h', e, hk⟩ := g1 h z1 z2 z3
      exact ⟨h', by rw [show s_Rules_isReplacedBy 6 117 h = _ from e, ob_s]; exact bw_r hr, hk⟩
    · obtain ⟨H', e, y⟩ := g2 H z1 z2
      exact ⟨H', by rw [show s_AdjoinedSetsModel_isG 200 3 H = _ from e, ob_s, bw_r hr, ob_s]; exact wr_r hr, y⟩
