/-! Rule 0: the class. -/
def CS (h : HP) (s : ST) : Prop := h.1 6 8 = nI s.1 ∧ (∀ k, k < s.1 → h.1 15 k = nI (s.2.1 k)) ∧ ∀ q, q < 60 → s.2.2 q ≠ 99 → h.1 16 q = nI (s.2.2 q)
def oR (h h' : HP) : Prop := (∀ n, n ≠ 6 → n ≠ 15 → n ≠ 16 → h'.1 n = h.1 n) ∧ h'.2 = h.2
theorem oR.rf (h : HP) : oR h h := ⟨fun _ _ _ _ => rfl, rfl⟩
theorem oR.tr {a b c : HP} (h1 : oR a b) (h2 : oR b c) : oR a c := ⟨fun n a1 a2 a3 => (h2.1 n a1 a2 a3).trans (h1.1 n a1 a2 a3), h2.2.trans h1.2⟩
theorem oR_kq {h h' : HP} (ho : oR h h') : kq h h' := ⟨fun n a1 _ _ _ a5 a6 _ _ _ => ho.1 n a1 a5 a6, by rw [ho.2]⟩
theorem cT_R {h h' : HP} {x : TX} (ho : oR h h') (hc : cT h 100 x) : cT h' 100 x := cT_kq (oR_kq ho) (Or.inl rfl) hc
theorem cE_R {h h' : HP} {x : TX} (ho : oR h h') (hc : cE h 100 x) : cE h' 100 x := cE_kq (oR_kq ho) (Or.inl rfl) hc
theorem isCn (c : Int32) : s_AdjoinedSets_isConnective c = some (if c = 33 ∨ c = 94 ∨ c = 118 ∨ c = 62 then 1 else 0) := by
  unfold s_AdjoinedSets_isConnective
  by_cases a : c = 33
  · simp [a]
  · by_cases b : c = 94
    · simp [b]
    · by_cases d : c = 118
      · simp [d]
      · by_cases e : c = 62
        · simp [e]
        · simp [a, b, d, e]
section
variable {K : Nat → Nat} {x : TX}
theorem sm_eq {n p e a ea d da : Nat} {t E : Nat → Int32} (hn : n ≤ 60) (hK : KD K t E d true p e) (he : e ≤ n) (hKa : KD K t E da true a ea) (hea : ea ≤ n) : eqt n t p t a (ea - a) ↔ smP t E a p := by
  have l1 := KD_lt hK
  have l2 := KD_lt hKa
  have c1 : (E p).toNatClampNeg = e := nI_cl (KD_end hK) (by omega)
  have c2 : (E a).toNatClampNeg = ea := nI_cl (KD_end hKa) (by omega)
  unfold smP
  rw [c1, c2]
  constructor
  · intro h
    exact ⟨KD_pre _ _ _ _ _ _ _ hKa hK (fun k z1 _ => (h k z1).2.symm), fun j hj => (h j hj).2.symm⟩
  · intro h j hj
    exact ⟨by have := h.1; omega, (h.2 j hj).symm⟩
theorem c_fnd {h : HP} {s : ST} {p e d : Nat} (hx : cT h 100 x) (hE : cE h 100 x) (hok : ∀ p, p < x.1 → okC (x.2.1 p)) (hS : CS h s) (hG : GD K x.2.1 x.2.2 x.1 s) (hK : KD K x.2.1 x.2.2 d true p e) (he : e ≤ x.1) : ∀ (m k r : Nat), k + m = s.1 → m < r → s_Rules_countPart_2 r 6 (nI p) (nI k) h = s_Rules_countPart_50 6 (nI p) (nI (fndF x.2.1 x.2.2 s.2.1 p m k)) h := by
  have h60 := hx.1.2.2
  have g6 := hG.1
  have lp := KD_lt hK
  intro m
  induction m with
  | zero =>
    intro k r h1 h2
    obtain ⟨r, rfl⟩ : ∃ r0, r = r0 + 1 := ⟨r - 1, by omega⟩
    rw [s_Rules_countPart_2, fndF]
    dsimp only
    rw [rI_6_8, ob_s, hS.1, if_pos (nI_le (by omega) (by omega))]
  | succ m ih =>
    intro k r h1 h2
    obtain ⟨r, rfl⟩ : ∃ r0, r = r0 + 1 := ⟨r - 1, by omega⟩
    obtain ⟨da, ea, hKa, hea⟩ := hG.2.1 k (by omega)
    have la := KD_lt hKa
    have hsm := sm_eq h60 hK he hKa hea
    have hh := c_hs hx hx hok (a := p) (f := s.2.1 k) (to := ea) (by omega) hea (by omega)
    rw [s_Rules_countPart_2, fndF]
    dsimp only
    rw [rI_6_8, ob_s, hS.1, if_neg (nI_ge (by omega) (by omega)), rR_6_0, ob_s, ob_s, rR_6_6, ob_s, rA_15 (by omega), ob_s, hS.2.1 k (by omega), ob_s, ob_s, rA_15 (by omega), ob_s, hS.2.1 k (by omega), rK_100, ob_s, end_h hx hE (by omega), ob_s, KD_end hKa, ob_s]
    by_cases hm : smP x.2.1 x.2.2 (s.2.1 k) p
    · rw [hh.1 (hsm.mpr hm), ob_s, if_neg (by decide), if_pos (smB_P.mpr hm)]
    · rw [hh.2 (fun z => hm (hsm.mp z)), ob_s, if_pos rfl, if_neg (fun z => hm (smB_P.mp z)), nI_1]
      exact ih (k + 1) r (by omega) (by omega)
theorem c_cnt {h : HP} {s : ST} {p e d : Nat} (hx : cT h 100 x) (hE : cE h 100 x) (hok : ∀ p, p < x.1 → okC (x.2.1 p)) (hS : CS h s) (hG : GD K x.2.1 x.2.2 x.1 s) (hK : KD K x.2.1 x.2.2 d true p e) (he : e ≤ x.1) : (∀ s', cntP x.2.1 x.2.2 p s = some s' → ∃ h', s_Rules_countPart 6 (nI p) h = some (1, h') ∧ CS h' s' ∧ oR h h') ∧ (cntP x.2.1 x.2.2 p s = none → s_Rules_countPart 6 (nI p) h = some (0, h)) := by
  have h60 := hx.1.2.2
  have g6 := hG.1
  have lp := KD_lt hK
  have e0 : s_Rules_countPart 6 (nI p) h = s_Rules_countPart_50 6 (nI p) (nI (fndF x.2.1 x.2.2 s.2.1 p s.1 0)) h := c_fnd hx hE hok hS hG hK he s.1 0 20000 (by omega) (by omega)
  obtain ⟨_, f2, _, _⟩ := fnd_v (t := x.2.1) (E := x.2.2) (pl := s.2.1) (p := p) s.1 0
  rw [Nat.zero_add] at f2
  rw [e0]
  unfold cntP s_Rules_countPart_50 s_Rules_countPart_93
  generalize fndF x.2.1 x.2.2 s.2.1 p s.1 0 = k at f2
  by_cases h6 : 6 ≤ k
  · rw [if_pos h6, if_pos (show 6 ≤ nI k from nI_le (a := 6) h6 (by omega))]
    exact ⟨fun s' z => (by cases z), fun _ => rfl⟩
  rw [if_neg h6, if_neg (show ¬ 6 ≤ nI k from nI_ge (b := 6) (by omega) (by omega)), if_neg (nI_pos (by omega)), if_pos (show nI p < 60 from nI_lt (b := 60) (by omega) (by omega)), rI_6_8, ob_s, hS.1]
  refine ⟨fun s' hs => ?_, fun z => (by cases z)⟩
  have hs := Option.some.inj hs
  subst hs
  by_cases hks : k = s.1
  · subst hks
    rw [if_pos rfl, rR_6_6, ob_s, wA_15 (by omega), ob_s, rI_6_8, ob_s]
    rw [show (up2 h.1 15 s.1 (nI p), h.2).1 6 8 = nI s.1 from (up2_ne h.1 15 s.1 6 (nI p) 8 (by decide)).trans hS.1, nI_1, wI_6_8, ob_s, rR_6_7, ob_s, wA_16 (by omega), ob_s]
    refine ⟨_, rfl, ⟨?_, fun i hi => ?_, fun q hq h99 => ?_⟩, ?_, rfl⟩
    · show up2 (up2 (up2 h.1 15 s.1 (nI p)) 6 8 (nI (s.1 + 1))) 16 p (nI s.1) 6 8 = nI (if s.1 = s.1 then s.1 + 1 else s.1)
      rw [up2_n (by decide), u2_s, if_pos rfl]
    · rw [if_pos rfl] at hi
      show up2 (up2 (up2 h.1 15 s.1 (nI p)) 6 8 (nI (s.1 + 1))) 16 p (nI s.1) 15 i = nI ((if s.1 = s.1 then upN s.2.1 s.1 p else s.2.1) i)
      rw [up2_n (by decide), up2_n (by decide), if_pos rfl]
      unfold upN
      by_cases his : i = s.1
      · rw [his, u2_s, if_pos rfl]
      · have hi : i < s.1 + 1 := hi
        rw [u2_i his, if_neg his]
        exact hS.2.1 i (by omega)
    · show up2 (up2 (up2 h.1 15 s.1 (nI p)) 6 8 (nI (s.1 + 1))) 16 p (nI s.1) 16 q = nI (upN s.2.2 p s.1 q)
      have h99 : upN s.2.2 p s.1 q ≠ 99 := h99
      unfold upN at h99 ⊢
      by_cases hqp : q = p
      · rw [hqp, u2_s, if_pos rfl]
      · rw [if_neg hqp] at h99 ⊢
        rw [u2_i hqp, up2_n (by decide), up2_n (by decide)]
        exact hS.2.2 q hq h99
    · intro m a1 a2 a3
      show up2 (up2 (up2 h.1 15 s.1 (nI p)) 6 8 (nI (s.1 + 1))) 16 p (nI s.1) m = h.1 m
      rw [up2_n a3, up2_n a1, up2_n a2]
  · rw [if_neg (show ¬ nI k = nI s.1 from fun z => hks ((nI_inj (by omega) (by omega)).mp z)), rR_6_7, ob_s, wA_16 (by omega), ob_s]
    refine ⟨_, rfl, ⟨?_, fun i hi => ?_, fun q hq h99 => ?_⟩, ?_, rfl⟩
    · show up2 h.1 16 p (nI k) 6 8 = nI (if k = s.1 then s.1 + 1 else s.1)
      rw [up2_n (by decide), if_neg hks]
      exact hS.1
    · rw [if_neg hks] at hi
      show up2 h.1 16 p (nI k) 15 i = nI ((if k = s.1 then upN s.2.1 s.1 p else s.2.1) i)
      rw [up2_n (by decide), if_neg hks]
      exact hS.2.1 i hi
    · show up2 h.1 16 p (nI k) 16 q = nI (upN s.2.2 p k q)
      have h99 : upN s.2.2 p k q ≠ 99 := h99
      unfold upN at h99 ⊢
      by_cases hqp : q = p
      · rw [hqp, u2_s, if_pos rfl]
      · rw [if_neg hqp] at h99 ⊢
        rw [u2_i hqp]
        exact hS.2.2 q hq h99
    · intro m a1 a2 a3
      show up2 h.1 16 p (nI k) m = h.1 m
      rw [up2_n a3]
theorem c_col (hok : ∀ p, p < x.1 → okC (x.2.1 p)) : ∀ (d p e D g : Nat) (s : ST) (h : HP), cT h 100 x → cE h 100 x → CS h s → GD K x.2.1 x.2.2 x.1 s → KD K x.2.1 x.2.2 d true p e → e ≤ x.1 → d + D ≤ 13 → d ≤ g → (∀ s', WK x.2.1 x.2.2 d p s = some s' → ∃ h', s_grp_Rules_collectParts g 6 (nI p) (nI D) h = some (1, h') ∧ CS h' s' ∧ oR h h') ∧ (WK x.2.1 x.2.2 d p s = none → ∃ h', s_grp_Rules_collectParts g 6 (nI p) (nI D) h = some (0, h') ∧ oR h h') := by
  intro d
  induction d with
  | zero => intro p e D g s h _ _ _ _ hK; exact absurd hK (fun z => z)
  | succ d ih =>
    intro p e D g s h hx hE hS hG hK he hD hg
    have h60 := hx.1.2.2
    obtain ⟨g, rfl⟩ : ∃ g0, g = g0 + 1 := ⟨g - 1, by omega⟩
    have hpe := KD_lt hK
    have e0 : s_grp_Rules_collectParts (g + 1) 6 (nI p) (nI D) h = s_Rules_collectParts (s_grp_Rules_collectParts g) 6 (nI p) (nI D) h := rfl
    rw [e0]
    unfold s_Rules_collectParts
    rw [if_pos (show nI D ≤ 12 from nI_le (b := 12) (by omega) (by omega)), rR_6_0, ob_s, rK_100, ob_s, at_h hx (by omega), ob_s, isCn, ob_s]
    rcases KD_f hK with ⟨hc1, k⟩ | ⟨hc2, q, k1, k2⟩ | hna
    · rw [if_pos (Or.inl hc1), if_neg (by decide), ob_s, rK_100, ob_s, end_h hx hE (by omega), ob_s, KD_end hK, WK_n hc1, nI_1]
      obtain ⟨i1, i2⟩ := ih (p + 1) e (D + 1) g s h hx hE hS hG k he (by omega) (by omega)
      have lk := KD_lt k
      rw [show (20000 : Nat) = 19999 + 1 from rfl, s_Rules_collectParts_45]
      dsimp only
      rw [if_neg (show ¬ (2 : Int32) ≤ 0 by decide), if_neg (nI_ge (by omega) (by omega)), rK_6, ob_s, nI_1]
      constructor
      · intro s' hs
        obtain ⟨h', a1, a2, a3⟩ := i1 s' hs
        refine ⟨h', ?_, a2, a3⟩
        rw [a1, ob_s]
        dsimp only
        rw [if_neg (by decide), rR_6_0, ob_s, rK_100, ob_s, end_h (cT_R a3 hx) (cE_R a3 hE) (by omega), ob_s, KD_end k, show (19999 : Nat) = 19998 + 1 from rfl, s_Rules_collectParts_45]
        dsimp only
        rw [if_neg (show ¬ (2 : Int32) ≤ 0 + 1 by decide), if_pos (nI_le (Nat.le_refl _) (by omega))]
      · intro hs
        obtain ⟨h', a1, a3⟩ := i2 hs
        refine ⟨h', ?_, a3⟩
        rw [a1, ob_s]
        dsimp only
        rw [if_pos rfl]
    · have l1 := KD_lt k1
      have l2 := KD_lt k2
      have hcl : (x.2.2 (p + 1)).toNatClampNeg = q := nI_cl (KD_end k1) (by omega)
      rw [if_pos (Or.inr hc2), if_neg (by decide), ob_s, rK_100, ob_s, end_h hx hE (by omega), ob_s, KD_end hK, WK_b hc2, hcl, nI_1]
      obtain ⟨i1, i2⟩ := ih (p + 1) q (D + 1) g s h hx hE hS hG k1 (by omega) (by omega) (by omega)
      rw [show (20000 : Nat) = 19999 + 1 from rfl, s_Rules_collectParts_45]
      dsimp only
      rw [if_neg (show ¬ (2 : Int32) ≤ 0 by decide), if_neg (nI_ge (by omega) (by omega)), rK_6, ob_s, nI_1]
      cases h1 : WK x.2.1 x.2.2 d (p + 1) s with
      | none =>
        obtain ⟨h', a1, a3⟩ := i2 h1
        refine ⟨fun s' z => (by cases z), fun _ => ⟨h', ?_, a3⟩⟩
        rw [a1, ob_s]
        dsimp only
        rw [if_pos rfl]
      | some s1 =>
        rw [ob_s]
        obtain ⟨h', a1, a2, a3⟩ := i1 s1 h1
        obtain ⟨w1, _, _, _⟩ := WK_f h60 _ _ _ _ _ k1 (by omega) hG h1
        obtain ⟨j1, j2⟩ := ih q e (D + 1) g s1 h' (cT_R a3 hx) (cE_R a3 hE) a2 w1 k2 he (by omega) (by omega)
        rw [a1, ob_s]
        dsimp only
        rw [if_neg (by decide), rR_6_0, ob_s, rK_100, ob_s, end_h (cT_R a3 hx) (cE_R a3 hE) (by omega), ob_s, KD_end k1, show (19999 : Nat) = 19998 + 1 from rfl, s_Rules_collectParts_45]
        dsimp only
        rw [if_neg (show ¬ (2 : Int32) ≤ 0 + 1 by decide), if_neg (nI_ge (by omega) (by omega)), rK_6, ob_s, nI_1]
        constructor
        · intro s' hs
          obtain ⟨h2, b1, b2, b3⟩ := j1 s' hs
          refine ⟨h2, ?_, b2, a3.tr b3⟩
          rw [b1, ob_s]
          dsimp only
          rw [if_neg (by decide), rR_6_0, ob_s, rK_100, ob_s, end_h (cT_R b3 (cT_R a3 hx)) (cE_R b3 (cE_R a3 hE)) (by omega), ob_s, show (19998 : Nat) = 19997 + 1 from rfl, s_Rules_collectParts_45]
          dsimp only
          rw [if_pos (show (2 : Int32) ≤ 0 + 1 + 1 by decide)]
        · intro hs
          obtain ⟨h2, b1, b3⟩ := j2 hs
          refine ⟨h2, ?_, a3.tr b3⟩
          rw [b1, ob_s]
          dsimp only
          rw [if_pos rfl]
    · rw [if_neg hna, if_pos rfl, rK_6, ob_s, WK_a hna]
      obtain ⟨i1, i2⟩ := c_cnt hx hE hok hS hG hK he
      constructor
      · intro s' hs
        obtain ⟨h', a1, a2, a3⟩ := i1 s' hs
        refine ⟨h', ?_, a2, a3⟩
        rw [a1, ob_s]
        rfl
      · intro hs
        refine ⟨h, ?_, oR.rf h⟩
        rw [i2 hs, ob_s]
        rfl
theorem c_hw {X : Int32} {s : ST} {h : HP} (hx : cT h 100 x) (hE : cE h 100 x) (hS : CS h s) (h6 : s.1 ≤ 6) : ∀ (d p e D g : Nat), KD K x.2.1 x.2.2 d true p e → e ≤ x.1 → d + D ≤ 13 → d ≤ g → AS x.2.1 x.2.2 s.2.2 s.1 d p → s_grp_Rules_holdsWith g 6 X (nI p) (nI D) h = some (if TV x.2.1 x.2.2 s.2.2 (fun l => tb X l) d p = true then 1 else 0) := by
  have h60 := hx.1.2.2
  intro d
  induction d with
  | zero => intro p e D g hK; exact absurd hK (fun z => z)
  | succ d ih =>
    intro p e D g hK he hD hg hA
    obtain ⟨g, rfl⟩ : ∃ g0, g = g0 + 1 := ⟨g - 1, by omega⟩
    have hpe := KD_lt hK
    have e0 : s_grp_Rules_holdsWith (g + 1) 6 X (nI p) (nI D) h = s_Rules_holdsWith (s_grp_Rules_holdsWith g) 6 X (nI p) (nI D) h := rfl
    rw [e0]
    unfold s_Rules_holdsWith
    rw [if_neg (show ¬ 12 < nI D from nI_nlt (a := 12) (by omega) (by omega)), if_neg (nI_pos (by omega)), if_pos (show nI p < 60 from nI_lt (b := 60) (by omega) (by omega)), rR_6_0, ob_s, rK_100, ob_s, at_h hx (by omega), ob_s, isCn, ob_s]
    rcases KD_f hK with ⟨hc1, k⟩ | ⟨hc2, q, k1, k2⟩ | hna
    · rw [if_pos (Or.inl hc1), if_neg (show ¬ (1 : Int32) = 0 by decide), rK_6, ob_s, nI_1, nI_1, ih (p + 1) e (D + 1) g k he (by omega) (by omega) (hA.1 hc1), ob_s, if_pos hc1, TV_n hc1]
      cases TV x.2.1 x.2.2 s.2.2 (fun l => tb X l) d (p + 1) <;> rfl
    · have l1 := KD_lt k1
      have l2 := KD_lt k2
      have hn2 : ¬ x.2.1 p = 33 := by rcases hc2 with z | z | z <;> rw [z] <;> decide
      have hcl : (x.2.2 (p + 1)).toNatClampNeg = q := nI_cl (KD_end k1) (by omega)
      obtain ⟨a1, a2⟩ := hA.2.1 hc2
      rw [hcl] at a2
      rw [if_pos (Or.inr hc2), if_neg (show ¬ (1 : Int32) = 0 by decide), rK_6, ob_s, nI_1, nI_1, ih (p + 1) q (D + 1) g k1 (by omega) (by omega) (by omega) a1, ob_s, if_neg hn2, ob_s, rK_100, ob_s, end_h hx hE (by omega), ob_s, KD_end k1, ob_s, ih q e (D + 1) g k2 he (by omega) (by omega) a2, ob_s, TV_b hc2, hcl]
      unfold bop
      generalize TV x.2.1 x.2.2 s.2.2 (fun l => tb X l) d (p + 1) = b1
      generalize TV x.2.1 x.2.2 s.2.2 (fun l => tb X l) d q = b2
      rcases hc2 with z | z | z
      · rw [if_pos z, if_pos z]
        cases b1 <;> cases b2 <;> rfl
      · rw [if_neg (show ¬ x.2.1 p = 94 by rw [z]; decide), if_neg (show ¬ x.2.1 p = 94 by rw [z]; decide), if_pos z, if_pos z]
        cases b1 <;> cases b2 <;> rfl
      · rw [if_neg (show ¬ x.2.1 p = 94 by rw [z]; decide), if_neg (show ¬ x.2.1 p = 94 by rw [z]; decide), if_neg (show ¬ x.2.1 p = 118 by rw [z]; decide), if_neg (show ¬ x.2.1 p = 118 by rw [z]; decide)]
        cases b1 <;> cases b2 <;> rfl
    · have hal := hA.2.2 hna
      rw [if_neg hna, if_pos (show (0 : Int32) = 0 from rfl), rR_6_7, ob_s, rA_16 (by omega), ob_s, hS.2.2 p (by omega) (by omega), TV_a hna]
      have ht := tb_sh X (l := s.2.2 p) (by omega)
      cases hb : tb X (s.2.2 p) with
      | false => rw [if_pos (ht.mpr hb), if_neg (by decide)]
      | true => rw [if_neg (fun z => by rw [ht.mp z] at hb; cases hb), if_pos rfl]
theorem pw_c : ∀ c, c < 7 → (1 : Int32) <<< (nI c &&& 31) = nI (2 ^ c) := by decide
theorem c_all {s : ST} {h : HP} (hx : cT h 100 x) (hE : cE h 100 x) (hS : CS h s) (h6 : s.1 ≤ 6) (hK : KD K x.2.1 x.2.2 12 true 0 x.1) (hA : AS x.2.1 x.2.2 s.2.2 s.1 12 0) : ∀ (m y r : Nat), y + m = 2 ^ s.1 → m < r → ((∀ i, y ≤ i → i < 2 ^ s.1 → TV x.2.1 x.2.2 s.2.2 (fun l => tb (nI i) l) 12 0 = true) → s_Rules_holdsForAllValues_18 r 6 (nI y) h = some (1, h)) ∧ (¬ (∀ i, y ≤ i → i < 2 ^ s.1 → TV x.2.1 x.2.2 s.2.2 (fun l => tb (nI i) l) 12 0 = true) → s_Rules_holdsForAllValues_18 r 6 (nI y) h = some (0, h)) := by
  have hp : 2 ^ s.1 ≤ 64 := Nat.pow_le_pow_right (by decide) h6
  intro m
  induction m with
  | zero =>
    intro y r h1 h2
    obtain ⟨r, rfl⟩ : ∃ r0, r = r0 + 1 := ⟨r - 1, by omega⟩
    refine ⟨fun _ => ?_, fun z => absurd (fun i h1 h2 => absurd h1 (by omega)) z⟩
    rw [s_Rules_holdsForAllValues_18]
    dsimp only
    rw [rI_6_8, ob_s, hS.1, pw_c s.1 (by omega), if_pos (nI_le (by omega) (by omega))]
  | succ m ih =>
    intro y r h1 h2
    obtain ⟨r, rfl⟩ : ∃ r0, r = r0 + 1 := ⟨r - 1, by omega⟩
    obtain ⟨i1, i2⟩ := ih (y + 1) r (by omega) (by omega)
    rw [s_Rules_holdsForAllValues_18]
    dsimp only
    rw [rI_6_8, ob_s, hS.1, pw_c s.1 (by omega), if_neg (nI_ge (by omega) (by omega)), rK_6, ob_s, show s_grp_Rules_holdsWith 14 6 (nI y) 0 1 h = _ from c_hw (X := nI y) hx hE hS h6 12 0 x.1 1 14 hK (Nat.le_refl _) (by omega) (by omega) hA, ob_s, nI_1]
    by_cases hT : TV x.2.1 x.2.2 s.2.2 (fun l => tb (nI y) l) 12 0 = true
    · rw [if_pos hT, if_neg (show ¬ (1 : Int32) = 0 by decide)]
      refine ⟨fun z => i1 (fun i z1 z2 => z i (by omega) z2), fun z => i2 (fun w => z (fun i z1 z2 => ?_))⟩
      by_cases hi : i = y
      · rw [hi]; exact hT
      · exact w i (by omega) z2
    · rw [if_neg hT, if_pos (show (0 : Int32) = 0 from rfl)]
      exact ⟨fun z => absurd (z y (Nat.le_refl _) (by omega)) hT, fun _ => rfl⟩
end
