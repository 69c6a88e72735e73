/-! Rule 7. -/
theorem fit_inv {K : Nat → Nat} {t E : Nat → Int32} {n : Nat} (hn : n ≤ 60) : ∀ (cs : List Nat) (p : Nat) (hs hs' : Nat → Nat) (L : List Nat) (sx : Bool), (∀ c, c ∈ cs → c < 127) → tcK cs sx L = true → chn K t E n L p → hsI K t E n sx hs → fitM t E cs p hs = some hs' → ∃ sx', hsI K t E n sx' hs' := by
  intro cs
  induction cs with
  | nil =>
    intro p hs hs' L sx _ _ _ hI h
    rw [fitM] at h
    rw [← Option.some.inj h]
    exact ⟨sx, hI⟩
  | cons c cs ih =>
    intro p hs hs' L sx h127 htc hch hI h
    have hm : ∀ c, c ∈ cs → c < 127 := fun c hc => h127 c (List.mem_cons_of_mem _ hc)
    obtain ⟨k0, L', hL, hpn, st1, st2⟩ := fit_step hn htc hch hI (h127 c (List.mem_cons_self ..))
    rw [fitM] at h
    dsimp only at h
    by_cases h7 : 6 < c
    · rw [if_pos h7] at h
      by_cases heq : t p = nI c
      · rw [if_pos heq] at h
        obtain ⟨L2, sx2, a1, a2, a3⟩ := st1 h7 heq
        exact ih _ _ _ L2 sx2 hm a1 a2 a3 h
      · rw [if_neg heq] at h; cases h
    · rw [if_neg h7] at h
      obtain ⟨hc1, s0, s1⟩ := st2 (by omega)
      by_cases h0 : hs c = 0
      · rw [if_pos h0] at h
        obtain ⟨_, _, L2, sx2, a1, a2, a3⟩ := s0 h0
        exact ih _ _ _ L2 sx2 hm a1 a2 a3 h
      · rw [if_neg h0] at h
        by_cases hall : ∀ j, j < hln E c (hs c - 1) → t (hs c - 1 + j) = t (p + j)
        · rw [if_pos hall] at h
          obtain ⟨_, L2, sx2, a1, a2, a3⟩ := (s1 h0).2 hall
          exact ih _ _ _ L2 sx2 hm a1 a2 a3 h
        · rw [if_neg hall] at h; cases h
theorem PL_127 : ∀ q, q < 14 → ∀ c, c ∈ PL q → c < 127 := by decide
theorem fit_I {K : Nat → Nat} {t E : Nat → Int32} {n q : Nat} (hn : n ≤ 60) (hq1 : 1 ≤ q) (hq : q < 14) (hK : KD K t E 12 true 0 n) {hs' : Nat → Nat} (h : fitM t E (PL q) 0 (fun _ => 0) = some hs') : ∃ sx', hsI K t E n sx' hs' := fit_inv hn (PL q) 0 _ _ [1] false (PL_127 q hq) (tc_all q hq hq1) (by unfold chn; rw [if_neg (by decide)]; exact ⟨12, n, by omega, Nat.le_refl _, hK, rfl⟩) ⟨fun c _ _ z => absurd rfl z, fun z => absurd rfl z, fun z => Bool.noConfusion z⟩ h
/-- a rule with a form: what happens behind the form decides -/
theorem al_form {S : SG} {E : Nat → Int32} {k : Nat} {i j : Int32} (hw : WF S) (hK : KD (gK S) (gB S).2.1 E 12 true 0 (gB S).1) (hk : k < 18) (hk3 : (1 ≤ k ∧ k ≤ 8) ∨ 14 ≤ k) (fc : HP → Option (Int32 × HP)) (fm : HP → Option (Int32 × HP)) (hcl : ∀ h, s_Rules_allow 6 (nI k) i j h = (s_Form_fits 12 (frm k) h).bind fun q => if q.1 = 0 then some (0, q.2) else fc q.2) (hml : ∀ H, s_AdjoinedSetsModel_allows 200 (nI k) i j H = (s_AdjoinedSetsModel_fits 200 (nI k) H).bind fun q => if q.1 = 0 then some (0, q.2) else fm q.2) (hin : ∀ hs', fitM (gB S).2.1 E (PL (frm k)) 0 (fun _ => 0) = some hs' → ∃ r : Int32, (r = 0 ∨ r = 1) ∧ (∀ h, CA S h → cE h 100 (xB S E) → SA h hs' → ∃ h', fc h = some (r, h') ∧ kq h h') ∧ ∀ H, MA S H → HA E H hs' → ∃ H', fm H = some (r, H') ∧ MA S H' ∧ sC H H') : ALR S E (nI k) i j := by
  obtain ⟨f1, f2, f3, f4, f5⟩ := fo_k k hk hk3
  cases hF : fitM (gB S).2.1 E (PL (frm k)) 0 (fun _ => 0) with
  | none =>
    refine ⟨0, Or.inl rfl, fun h hc hE => ?_, fun H hm => ?_⟩
    · rcases c_fits (K := gK S) (x := xB S E) (h := h) (fun p hp => hw.1.2 p hp) f2 f3 hK hc.1 hE with ⟨hs', sx', h', z1, _⟩ | ⟨z1, h', z2, z3⟩
      · rw [show fitM (gB S).2.1 E (PL (frm k)) 0 (fun _ => 0) = some hs' from z1] at hF; cases hF
      · exact ⟨h', by rw [hcl, z2, ob_s]; rfl, o14_kq z3⟩
    · have := m_fits (x := xB S E) hw xB_b f2 f3 f4 hK hm
      rw [f5] at this
      rcases this with ⟨hs', H', z1, _⟩ | ⟨z1, H', z2, z3⟩
      · rw [show fitM (gB S).2.1 E (PL (frm k)) 0 (fun _ => 0) = some hs' from z1] at hF; cases hF
      · exact ⟨H', by rw [hml, z2, ob_s]; rfl, MA_22 z3 hm, sC_22 z3⟩
  | some hs0 =>
    obtain ⟨r, hr, g1, g2⟩ := hin hs0 hF
    refine ⟨r, hr, fun h hc hE => ?_, fun H hm => ?_⟩
    · rcases c_fits (K := gK S) (x := xB S E) (h := h) (fun p hp => hw.1.2 p hp) f2 f3 hK hc.1 hE with ⟨hs', sx', h', z1, z2, z3, z4, z5⟩ | ⟨z1, _⟩
      · rw [show fitM (gB S).2.1 E (PL (frm k)) 0 (fun _ => 0) = some hs' from z1] at hF
        have := Option.some.inj hF
        subst this
        obtain ⟨h2, e1, e2⟩ := g1 h' (CA_kq (o14_kq z5) hw hc) (cE_14 z5 hE) z3
        exact ⟨h2, by rw [hcl, z2, ob_s]; exact e1, (o14_kq z5).tr e2⟩
      · rw [show fitM (gB S).2.1 E (PL (frm k)) 0 (fun _ => 0) = none from z1] at hF; cases hF
    · have := m_fits (x := xB S E) hw xB_b f2 f3 f4 hK hm
      rw [f5] at this
      rcases this with ⟨hs', H', z1, z2, z3, z5⟩ | ⟨z1, _⟩
      · rw [show fitM (gB S).2.1 E (PL (frm k)) 0 (fun _ => 0) = some hs' from z1] at hF
        have := Option.some.inj hF
        subst this
        obtain ⟨H2, e1, e2, e3⟩ := g2 H' (MA_22 z5 hm) z3
        exact ⟨H2, by rw [hml, z2, ob_s]; exact e1, e2, sC.tr (sC_22 z5) e3⟩
      · rw [show fitM (gB S).2.1 E (PL (frm k)) 0 (fun _ => 0) = none from z1] at hF; cases hF
def wr (q : Int32 × HP) : Option (Int32 × HP) := (zr q.1).bind fun _ => some (q.1, q.2)
def bd7 (H : HP) : Option (Int32 × HP) := ((gR H 200 9 27).bind fun v9 => (aI H v9 0 1).bind fun v11 => (s_AdjoinedSetsModel_freeIn 200 v11 H).bind fun q14 => (gR q14.2 200 9 27).bind fun v16 => (aI q14.2 v16 0 2).bind fun v18 => (s_AdjoinedSetsModel_freeIn 200 v18 q14.2).bind fun q21 => (gR q21.2 200 9 0).bind fun v23 => (gR q21.2 200 9 27).bind fun v25 => (aI q21.2 v25 0 6).bind fun v27 => (aI q21.2 v23 0 v27).bind fun v29 => (s_AdjoinedSetsModel_bit v29).bind fun q31 => if ((q14.1 ||| q21.1) &&& q31) = 0 then some ((1 : Int32), q21.2) else some (0, q21.2))
theorem al_7 {S : SG} {E : Nat → Int32} {i j : Int32} (hw : WF S) (hK : KD (gK S) (gB S).2.1 E 12 true 0 (gB S).1) : ALR S E (nI 7) i j := by
  have hk3 : ∀ f, f < 4 → gK S f ≤ 3 := fun f hf => (hw.2.2.1 f hf).1
  have h60 := hw.1.1
  refine al_form hw hK (by omega) (by omega) (fun h => (s_Form_letterIsFreeIn 12 115 h).bind fun q16 => if q16 = 0 then ((s_Form_letterIsFreeIn 12 116 h).bind fun q22 => if q22 = 0 then some (1, h) else some (0, h)) else some (0, h)) (fun H => (bd7 H).bind wr) ?_ ?_ ?_
  · intro h
    unfold s_Rules_allow
    rw [if_neg (by decide), if_neg (by decide), if_neg (by decide), if_neg (by decide), if_neg (by decide), if_neg (by decide), if_neg (by decide), if_pos (show nI 7 = 7 from rfl), rR_6_5, ob_s, (fo_k 7 (by omega) (by omega)).1, ob_s, rK_12, ob_s]
    rfl
  · intro H
    rw [al_m 7 i j H (by omega) (by omega)]
    unfold s_AdjoinedSetsModel_allows_109 s_AdjoinedSetsModel_isPattern
    rw [rK_200, ob_s, ob_s]
    cases hf : s_AdjoinedSetsModel_fits 200 (nI 7) H with
    | none => rfl
    | some q =>
      show ((if q.1 = 0 then some (0, q.2) else _).bind wr) = (if q.1 = 0 then some (0, q.2) else (bd7 q.2).bind wr)
      by_cases h0 : q.1 = 0
      · rw [if_pos h0, if_pos h0]
        rfl
      · rw [if_neg h0, if_neg h0, if_pos (show nI 7 = 7 from rfl)]
        simp only [ob_s]
        rfl
  · intro hs' hF
    obtain ⟨sx', hI⟩ := fit_I h60 (by decide) (by decide) hK hF
    have hs1 := fit_has _ _ _ _ hF 1 (by omega) (by decide)
    have hs2 := fit_has _ _ _ _ hF 2 (by omega) (by decide)
    have hs6 := fit_has _ _ _ _ hF 6 (by omega) (by decide)
    obtain ⟨d1, q1, z1, z2, z3⟩ := hI.1 1 (by omega) (by omega) hs1
    obtain ⟨d2, q2, y1, y2, y3⟩ := hI.1 2 (by omega) (by omega) hs2
    obtain ⟨hL, hlt⟩ := hI.2.1 hs6
    have hl8 := (lw_n hL).2
    have cl : ∀ h, CA S h → cE h 100 (xB S E) → SA h hs' → ∀ c, (c = 1 ∨ c = 2) → ∀ d q, hs' c ≠ 0 → d ≤ 12 → q ≤ (gB S).1 → KD (gK S) (gB S).2.1 E d false (hs' c - 1) q → s_Form_letterIsFreeIn 12 (nI (chC c)) h = some (if fv (gB S).2.1 E d (hs' c - 1) (lwN ((gB S).2.1 (hs' 6 - 1))) = true then 1 else 0) := fun h hc hE hS c hc12 d q hne hd hq hKc => f_free (x := xB S E) hk3 hc.1 hE hS hs6 hL hlt (by omega) (by omega) hne hd hq hKc
    have ml : ∀ H, MA S H → HA E H hs' → ∃ y1 y2 H', MA S H' ∧ sC H H' ∧ MSK y1 (fv (gB S).2.1 E d1 (hs' 1 - 1)) ∧ MSK y2 (fv (gB S).2.1 E d2 (hs' 2 - 1)) ∧ bd7 H = if ((y1 ||| y2) &&& bitI (lwN ((gB S).2.1 (hs' 6 - 1)))) = 0 then some (1, H') else some (0, H') := by
      intro H hm hH
      have htx : ∀ H, MA S H → mT H 0 (xB S E) := fun H hm p hp => hm.1.2 p hp
      obtain ⟨w1, P1, A1, B1, e1, k1⟩ := m_free (h := H) (x := xB S E) (o := 0) (K := gK S) (htx H hm) (by show 0 + (gB S).1 ≤ 1490; omega) h60 (fun f hf => (hm.2.2.1 f hf).1) hk3 z1 z3 z2
      have m1 : MA S (sw H 0 P1 A1 B1) := MA_sw hm
      obtain ⟨w2, P2, A2, B2, e2, k2⟩ := m_free (h := sw H 0 P1 A1 B1) (x := xB S E) (o := 0) (K := gK S) (htx _ m1) (by show 0 + (gB S).1 ≤ 1490; omega) h60 (fun f hf => (m1.2.2.1 f hf).1) hk3 y1 y3 y2
      rw [Nat.zero_add] at e1 e2
      refine ⟨w1, w2, sw (sw H 0 P1 A1 B1) 0 P2 A2 B2, MA_sw m1, sC.tr sC_sw sC_sw, k1, k2, ?_⟩
      have h1 : aI H 220 0 1 = some (nI (hs' 1 - 1)) := by rw [show (1 : Int32) = nI 1 from rfl, rA_220 (by omega), (hH 1 (by omega) (by omega)).2 hs1]
      have h2 : aI (sw H 0 P1 A1 B1) 220 0 2 = some (nI (hs' 2 - 1)) := by
        rw [show (2 : Int32) = nI 2 from rfl, rA_220 (by omega)]
        exact congrArg some ((hH 2 (by omega) (by omega)).2 hs2)
      have h3 : aI (sw (sw H 0 P1 A1 B1) 0 P2 A2 B2) 220 0 6 = some (nI (hs' 6 - 1)) := by
        rw [show (6 : Int32) = nI 6 from rfl, rA_220 (by omega)]
        exact congrArg some ((hH 6 (by omega) (by omega)).2 hs6)
      have h4 : aI (sw (sw H 0 P1 A1 B1) 0 P2 A2 B2) 201 0 (nI (hs' 6 - 1)) = some ((gB S).2.1 (hs' 6 - 1)) := by
        rw [rA_201 (by omega)]
        have := (htx _ (MA_sw (w := 0) (P := P2) (A := A2) (B := B2) m1)) (hs' 6 - 1) hlt
        rw [Nat.zero_add] at this
        exact congrArg some this
      unfold bd7
      rw [rR_200_27, ob_s, h1, ob_s, e1, ob_s]
      dsimp only
      rw [rR_200_27, ob_s, h2, ob_s, e2, ob_s]
      dsimp only
      rw [rR_200_0, ob_s, rR_200_27, ob_s, h3, ob_s, h4, ob_s, ml_bit hL, ob_s]
    have c1 := fun h hc hE hS => cl h hc hE hS 1 (Or.inl rfl) d1 q1 hs1 z1 z2 z3
    have c2 := fun h hc hE hS => cl h hc hE hS 2 (Or.inr rfl) d2 q2 hs2 y1 y2 y3
    have hbit : ∀ y1 y2, MSK y1 (fv (gB S).2.1 E d1 (hs' 1 - 1)) → MSK y2 (fv (gB S).2.1 E d2 (hs' 2 - 1)) → (((y1 ||| y2) &&& bitI (lwN ((gB S).2.1 (hs' 6 - 1)))) = 0 ↔ (fv (gB S).2.1 E d1 (hs' 1 - 1) (lwN ((gB S).2.1 (hs' 6 - 1))) = false ∧ fv (gB S).2.1 E d2 (hs' 2 - 1) (lwN ((gB S).2.1 (hs' 6 - 1))) = false)) := by
      intro y1 y2 k1 k2
      rw [tb_z _ hl8, tb_or, k1.2 _ hl8, k2.2 _ hl8, Bool.or_eq_false_iff]
    by_cases hP : fv (gB S).2.1 E d1 (hs' 1 - 1) (lwN ((gB S).2.1 (hs' 6 - 1))) = false ∧ fv (gB S).2.1 E d2 (hs' 2 - 1) (lwN ((gB S).2.1 (hs' 6 - 1))) = false
    · refine ⟨1, Or.inr rfl, fun h hc hE hS => ⟨h, ?_, kq.rf h⟩, fun H hm hH => ?_⟩
      · have e1 := c1 h hc hE hS
        have e2 := c2 h hc hE hS
        rw [hP.1, if_neg (by decide)] at e1
        rw [hP.2, if_neg (by decide)] at e2
        rw [show s_Form_letterIsFreeIn 12 115 h = some 0 from e1, ob_s, if_pos rfl, show s_Form_letterIsFreeIn 12 116 h = some 0 from e2, ob_s, if_pos rfl]
      · obtain ⟨y1, y2, H', a1, a2, a3, a4, a5⟩ := ml H hm hH
        exact ⟨H', by rw [a5, if_pos ((hbit y1 y2 a3 a4).mpr hP)]; rfl, a1, a2⟩
    · refine ⟨0, Or.inl rfl, fun h hc hE hS => ⟨h, ?_, kq.rf h⟩, fun H hm hH => ?_⟩
      · have e1 := c1 h hc hE hS
        have e2 := c2 h hc hE hS
        cases hb1 : fv (gB S).2.1 E d1 (hs' 1 - 1) (lwN ((gB S).2.1 (hs' 6 - 1))) with
        | true =>
          rw [hb1, if_pos rfl] at e1
          rw [show s_Form_letterIsFreeIn 12 115 h = some 1 from e1, ob_s, if_neg (by decide)]
        | false =>
          rw [hb1, if_neg (by decide)] at e1
          have hb2 : fv (gB S).2.1 E d2 (hs' 2 - 1) (lwN ((gB S).2.1 (hs' 6 - 1))) = true := by
            cases hq : fv (gB S).2.1 E d2 (hs' 2 - 1) (lwN ((gB S).2.1 (hs' 6 - 1))) with
            | true => rfl
            | false => exact absurd ⟨hb1, hq⟩ hP
          rw [hb2, if_pos rfl] at e2
          rw [show s_Form_letterIsFreeIn 12 115 h = some 0 from e1, ob_s, if_pos rfl, show s_Form_letterIsFreeIn 12 116 h = some 1 from e2, ob_s, if_neg (by decide)]
      · obtain ⟨y1, y2, H', a1, a2, a3, a4, a5⟩ := ml H hm hH
        exact ⟨H', by rw [a5, if_neg (fun z => hP ((hbit y1 y2 a3 a4).mp z))]; rfl, a1, a2⟩
