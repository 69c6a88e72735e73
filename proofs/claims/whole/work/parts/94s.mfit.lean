/-! The model's forms. -/
def o22 (h h' : HP) : Prop := (∀ m, m ≠ 220 → m ≠ 221 → h'.1 m = h.1 m) ∧ h'.2 = h.2
theorem o22.rf (h : HP) : o22 h h := ⟨fun _ _ _ => rfl, rfl⟩
theorem o22.tr {a b c : HP} (h1 : o22 a b) (h2 : o22 b c) : o22 a c := ⟨fun m z1 z2 => (h2.1 m z1 z2).trans (h1.1 m z1 z2), h2.2.trans h1.2⟩
theorem MA_22 {S : SG} {h h' : HP} (ho : o22 h h') (hm : MA S h) : MA S h' := MA_k hm (fun m hm => ho.1 m (by omega) (by omega)) (by rw [ho.2]) (by rw [ho.1 200 (by decide) (by decide)]) (by rw [ho.1 200 (by decide) (by decide)])
theorem sC_22 {h h' : HP} (ho : o22 h h') : sC h h' := ⟨fun n hn => ⟨ho.1 n (by omega) (by omega), by rw [ho.2]⟩, by rw [ho.2]⟩
def ppN (q : Nat) : Nat := [0, 0, 4, 16, 28, 33, 47, 61, 79, 0, 90, 103, 116, 128].getD q 0
theorem pat_c : ∀ q, q < 14 → 1 ≤ q → q ≠ 9 → (∀ k, k < (PL q).length → pat 140 (ppN q + k) = nI ((PL q).getD k 0)) ∧ pat 140 (ppN q + (PL q).length) = 0 ∧ ppN q + (PL q).length < 140 := by decide +kernel
def pfN : Nat → Nat → Nat → Nat → Option Int32
  | 0 => fun _ _ _ => none
  | r + 1 => fun nth p k => if nth ≤ k then some (nI p) else if 140 ≤ p then none else if pat 140 p = 0 then pfN r nth (p + 1) (k + 1) else pfN r nth (p + 1) k
theorem m_pf {H : HP} (hp : H.1 219 = pat 140) {nth : Nat} (hn : nth < 100) : ∀ (r p k : Nat) (v : Int32), k < 1000 → pfN r nth p k = some v → s_AdjoinedSetsModel_patternOf_22 r 200 (nI nth) (nI p) (nI k) H = some v := by
  intro r
  induction r with
  | zero => intro p k v _ h; cases h
  | succ r ih =>
    intro p k v hk h
    have h : (if nth ≤ k then some (nI p) else if 140 ≤ p then none else if pat 140 p = 0 then pfN r nth (p + 1) (k + 1) else pfN r nth (p + 1) k) = some v := h
    rw [s_AdjoinedSetsModel_patternOf_22]
    dsimp only
    unfold s_AdjoinedSetsModel_patternOf_46
    by_cases h1 : nth ≤ k
    · rw [if_pos h1] at h
      rw [if_pos (nI_le h1 (by omega))]
      exact h
    · rw [if_neg h1] at h
      by_cases h2 : 140 ≤ p
      · rw [if_pos h2] at h; cases h
      · rw [if_neg h2] at h
        rw [if_neg (nI_ge (by omega) (by omega)), rR_200_26, ob_s, rA_219 (by omega), ob_s, hp, nI_1, nI_1]
        by_cases h3 : pat 140 p = 0
        · rw [if_pos h3] at h
          rw [if_pos h3]
          exact ih (p + 1) (k + 1) v (by omega) h
        · rw [if_neg h3] at h
          rw [if_neg h3]
          exact ih (p + 1) k v hk h
/-- the rule of a form -/
def rlN (q : Nat) : Nat := if q ≤ 8 then q else q + 4
theorem pf_all : ∀ q, q < 14 → 1 ≤ q → q ≠ 9 → pfN 20000 (if q ≤ 8 then q - 1 else q - 2) 0 0 = some (nI (ppN q)) := by decide +kernel
theorem m_pat {H : HP} (hp : H.1 219 = pat 140) {q : Nat} (hq1 : 1 ≤ q) (hq : q < 14) (h9 : q ≠ 9) : s_AdjoinedSetsModel_patternOf 200 (nI (rlN q)) H = some (nI (ppN q)) := by
  unfold s_AdjoinedSetsModel_patternOf s_AdjoinedSetsModel_patternOf_16 rlN
  have hp0 := pf_all q hq hq1 h9
  by_cases h8 : q ≤ 8
  · rw [if_pos h8] at hp0 ⊢
    rw [if_neg (show ¬ 9 ≤ nI q from nI_ge (b := 9) (by omega) (by omega)), show nI q - 1 = nI (q - 1) from by rw [show (1 : Int32) = nI 1 from rfl, pk_sub (by omega)]]
    exact m_pf hp (by omega) 20000 0 0 _ (by omega) hp0
  · rw [if_neg h8] at hp0 ⊢
    rw [if_pos (show 9 ≤ nI (q + 4) from nI_le (a := 9) (by omega) (by omega)), show nI (q + 4) - 6 = nI (q - 2) from by rw [show (6 : Int32) = nI 6 from rfl, pk_sub (by omega)]; congr 1]
    exact m_pf hp (by omega) 20000 0 0 _ (by omega) hp0
def HA (E : Nat → Int32) (H : HP) (hs : Nat → Nat) : Prop := ∀ c, 1 ≤ c → c ≤ 6 → H.1 221 c = (if hs c = 0 then 0 else nI (hln E c (hs c - 1))) ∧ (hs c ≠ 0 → H.1 220 c = nI (hs c - 1))
theorem m_fit {S : SG} {x : TX} (hw : WF S) (hxb : x.1 = (gB S).1 ∧ x.2.1 = (gB S).2.1) {q : Nat} (hq1 : 1 ≤ q) (hq : q < 14) (h9 : q ≠ 9) : ∀ (cs : List Nat) (k p r : Nat) (hs : Nat → Nat) (L : List Nat) (sx : Bool) (H : HP), (PL q).drop k = cs → k ≤ (PL q).length → tcK cs sx L = true → chn (gK S) x.2.1 x.2.2 x.1 L p → hsI (gK S) x.2.1 x.2.2 x.1 sx hs → HA x.2.2 H hs → MA S H → cs.length < r → (∃ hs' H', fitM x.2.1 x.2.2 cs p hs = some hs' ∧ s_AdjoinedSetsModel_fits_29 r 200 (nI p) (nI (ppN q + k)) H = some (1, H') ∧ HA x.2.2 H' hs' ∧ o22 H H') ∨ (fitM x.2.1 x.2.2 cs p hs = none ∧ ∃ H', s_AdjoinedSetsModel_fits_29 r 200 (nI p) (nI (ppN q + k)) H = some (0, H') ∧ o22 H H') := by
  obtain ⟨pc1, pc2, pc3⟩ := pat_c q hq hq1 h9
  have h60 : x.1 ≤ 60 := by rw [hxb.1]; exact hw.1.1
  intro cs
  induction cs with
  | nil =>
    intro k p r hs L sx H hd hk htc hch hI hH hm hr
    obtain ⟨r, rfl⟩ : ∃ r0, r = r0 + 1 := ⟨r - 1, by omega⟩
    left
    have hL : L = [] := of_decide_eq_true htc
    subst hL
    have hp : p = x.1 := hch
    have hkl : k = (PL q).length := by
      apply Classical.byContradiction
      intro z
      have := congrArg List.length hd
      rw [List.length_drop] at this
      simp at this
      omega
    refine ⟨hs, H, rfl, ?_, hH, o22.rf H⟩
    rw [s_AdjoinedSetsModel_fits_29]
    dsimp only
    rw [rR_200_26, ob_s, rA_219 (by omega), ob_s, hm.2.2.2.2.2, hkl, pc2, if_pos rfl, rI_200_1, ob_s, hm.1.1, if_pos (by rw [hp, hxb.1])]
  | cons c cs ih =>
    intro k p r hs L sx H hd hk htc hch hI hH hm hr
    obtain ⟨r, rfl⟩ : ∃ r0, r = r0 + 1 := ⟨r - 1, by omega⟩
    obtain ⟨hkl, hgc, hd2⟩ := drop_c hd
    have hok2 := str_ok q hq k hkl
    rw [hgc] at hok2
    have hcc := pc1 k hkl
    rw [hgc] at hcc
    have hr2 : cs.length < r := by
      have : (c :: cs).length = cs.length + 1 := rfl
      omega
    obtain ⟨k0, L', hL, hpn, st1, st2⟩ := fit_step h60 htc hch hI hok2.2
    have hc0 : c ≠ 0 := by
      intro z
      have h1 := hok2.1
      rw [z] at h1
      revert h1
      decide
    have htx : mT H 0 x := fun p hp => by rw [hxb.2]; exact hm.1.2 p (by rw [← hxb.1]; exact hp)
    have h201 : H.1 201 p = x.2.1 p := by have := htx p hpn; rw [Nat.zero_add] at this; exact this
    have e0 : s_AdjoinedSetsModel_fits_29 (r + 1) 200 (nI p) (nI (ppN q + k)) H = if nI c ≤ 6 then (if nI c = 6 then s_AdjoinedSetsModel_fits_100 (s_AdjoinedSetsModel_fits_29 r) 200 (nI p) (nI (ppN q + k)) (nI c) 1 H else (s_AdjoinedSetsModel_endOf 200 (nI p) H).bind fun q16 => s_AdjoinedSetsModel_fits_100 (s_AdjoinedSetsModel_fits_29 r) 200 (nI p) (nI (ppN q + k)) (nI c) (q16 - nI p) H) else (if x.2.1 p = nI c then s_AdjoinedSetsModel_fits_29 r 200 (nI (p + 1)) (nI (ppN q + (k + 1))) H else some (0, H)) := by
      rw [s_AdjoinedSetsModel_fits_29]
      dsimp only
      unfold s_AdjoinedSetsModel_fits_165
      rw [rR_200_26, ob_s, rA_219 (by omega), ob_s, hm.2.2.2.2.2, hcc, if_neg (nI_ne0 (by omega) (by omega)), ob_s, rA_219 (by omega), ob_s, hm.2.2.2.2.2, hcc, rI_200_1, ob_s, hm.1.1, if_pos (nI_lt (by rw [← hxb.1]; exact hpn) (by omega)), rK_200, ob_s, rR_200_0, ob_s, rA_201 (by omega), ob_s, h201, nI_1, nI_1]
      rfl
    -- a hole whose part has length ln
    have e129 : ∀ (H2 : HP) (ln from' : Nat), MA S H2 → 1 ≤ c → c ≤ 6 → H2.1 221 c = nI ln → H2.1 220 c = nI from' → ∀ ln2, ln2 ≤ 60 → ln ≤ 60 → from' + ln ≤ x.1 → p + ln2 ≤ x.1 → ((ln = ln2 ∧ ∀ j, j < ln → x.2.1 (from' + j) = x.2.1 (p + j)) → s_AdjoinedSetsModel_fits_129 (s_AdjoinedSetsModel_fits_29 r) 200 (nI p) (nI (ppN q + k)) (nI c) (nI ln2) H2 = s_AdjoinedSetsModel_fits_29 r 200 (nI (p + ln2)) (nI (ppN q + (k + 1))) H2) ∧ (¬ (ln = ln2 ∧ ∀ j, j < ln → x.2.1 (from' + j) = x.2.1 (p + j)) → s_AdjoinedSetsModel_fits_129 (s_AdjoinedSetsModel_fits_29 r) 200 (nI p) (nI (ppN q + k)) (nI c) (nI ln2) H2 = some (0, H2)) := by
      intro H2 ln from' hm2 c1 c6 w1 w2 ln2 l1 l2 f1 f2
      have htx2 : mT H2 0 x := fun p hp => by rw [hxb.2]; exact hm2.1.2 p (by rw [← hxb.1]; exact hp)
      unfold s_AdjoinedSetsModel_fits_129 s_AdjoinedSetsModel_fits_165
      rw [rR_200_28, ob_s, rA_221 (by omega), ob_s, w1]
      by_cases hl : ln = ln2
      · subst hl
        have g := m_sm2 (a := from') (f := p) (m := ln) htx2 htx2 (by omega) (by omega) (by omega) (by omega)
        rw [Nat.zero_add, Nat.zero_add] at g
        rw [if_pos rfl, rR_200_27, ob_s, rA_220 (by omega), ob_s, w2, rK_200, ob_s]
        by_cases hall : ∀ j, j < ln → x.2.1 (from' + j) = x.2.1 (p + j)
        · rw [g.1 (fun j hj => ⟨by omega, hall j hj⟩), ob_s, if_neg (by decide), nI_add, nI_1]
          exact ⟨fun _ => rfl, fun z => absurd ⟨rfl, hall⟩ z⟩
        · rw [g.2 (fun z => hall (fun j hj => (z j hj).2)), ob_s, if_pos rfl]
          exact ⟨fun z => absurd z.2 hall, fun _ => rfl⟩
      · rw [if_neg (fun z => hl ((nI_inj (by omega) (by omega)).mp z))]
        exact ⟨fun z => absurd z.1 hl, fun _ => rfl⟩
    by_cases h7 : 6 < c
    · rw [e0, if_neg (show ¬ nI c ≤ 6 from nI_ge (a := 6) h7 (by omega))]
      by_cases heq : x.2.1 p = nI c
      · rw [if_pos heq]
        obtain ⟨L2, sx2, a1, a2, a3⟩ := st1 h7 heq
        have ef : fitM x.2.1 x.2.2 (c :: cs) p hs = fitM x.2.1 x.2.2 cs (p + 1) hs := by
          rw [fitM]
          dsimp only
          rw [if_pos h7, if_pos heq]
        rw [ef]
        exact ih (k + 1) (p + 1) r hs L2 sx2 H hd2 (by omega) a1 a2 a3 hH hm hr2
      · rw [if_neg heq]
        right
        refine ⟨?_, H, rfl, o22.rf H⟩
        rw [fitM]
        dsimp only
        rw [if_pos h7, if_neg heq]
    · obtain ⟨hc1, s0, s1⟩ := st2 (by omega)
      have hc6' : c ≤ 6 := by omega
      -- the length of the part at p
      have hpart : (c ≠ 6 → ∃ d qq, d ≤ 12 ∧ qq ≤ x.1 ∧ KD (gK S) x.2.1 x.2.2 d (decide (4 ≤ c)) p qq) → p + hln x.2.2 c p ≤ x.1 ∧ s_AdjoinedSetsModel_fits_29 (r + 1) 200 (nI p) (nI (ppN q + k)) H = s_AdjoinedSetsModel_fits_100 (s_AdjoinedSetsModel_fits_29 r) 200 (nI p) (nI (ppN q + k)) (nI c) (nI (hln x.2.2 c p)) H := by
        intro b1
        rw [e0, if_pos (show nI c ≤ 6 from nI_le (b := 6) hc6' (by omega))]
        by_cases hc6 : c = 6
        · rw [if_pos (show nI c = 6 by rw [hc6]; rfl)]
          have : hln x.2.2 c p = 1 := by unfold hln; rw [if_pos hc6]
          rw [this]
          exact ⟨by omega, rfl⟩
        · obtain ⟨d, qq, z0, z2, z3⟩ := b1 hc6
          have hlt := KD_lt z3
          have hl : hln x.2.2 c p = qq - p := by unfold hln; rw [if_neg hc6, nI_cl (KD_end z3) (by omega)]
          have he := m_endOf (h := H) (K := gK S) (n := x.1) (t := x.2.1) (E := x.2.2) (o := 0) (fun f hf => (hm.2.2.1 f hf).1) (fun p hp => htx p hp) (by omega) h60 (fun f hf => (hw.2.2.1 f hf).1) z0 z3 z2
          rw [Nat.zero_add, Nat.zero_add] at he
          rw [if_neg (show ¬ nI c = 6 from fun z => hc6 ((nI_inj (b := 6) (by omega) (by omega)).mp z)), he, ob_s, pk_sub (by omega), hl]
          exact ⟨by omega, rfl⟩
      by_cases h0 : hs c = 0
      · obtain ⟨b1, b2, L2, sx2, a1, a2, a3⟩ := s0 h0
        obtain ⟨hp1, hp2⟩ := hpart b1
        rw [hp2]
        unfold s_AdjoinedSetsModel_fits_100
        rw [rR_200_28, ob_s, rA_221 (by omega), ob_s, (hH c hc1 hc6').1, if_pos h0, if_pos rfl, rR_200_27, ob_s, wA_220 (by omega), ob_s, rR_200_28, ob_s, wA_221 (by omega), ob_s]
        obtain ⟨H2, hH2⟩ : ∃ H2 : HP, H2 = (up2 (up2 H.1 220 c (nI p)) 221 c (nI (hln x.2.2 c p)), H.2) := ⟨_, rfl⟩
        have hH2' : (up2 (up2 H.1 220 c (nI p), H.2).1 221 c (nI (hln x.2.2 c p)), (up2 H.1 220 c (nI p), H.2).2) = H2 := hH2.symm
        rw [hH2']
        have o2 : o22 H H2 := by rw [hH2]; exact ⟨fun m z1 z2 => by show up2 (up2 H.1 220 c (nI p)) 221 c (nI (hln x.2.2 c p)) m = _; rw [up2_n z2, up2_n z1], rfl⟩
        have v221 : ∀ c', H2.1 221 c' = if c' = c then nI (hln x.2.2 c p) else H.1 221 c' := by
          intro c'
          rw [hH2]
          show up2 (up2 H.1 220 c (nI p)) 221 c (nI (hln x.2.2 c p)) 221 c' = _
          by_cases hcc : c' = c
          · rw [hcc, u2_s, if_pos rfl]
          · rw [u2_i hcc, up2_n (by decide), if_neg hcc]
        have v220 : ∀ c', H2.1 220 c' = if c' = c then nI p else H.1 220 c' := by
          intro c'
          rw [hH2]
          show up2 (up2 H.1 220 c (nI p)) 221 c (nI (hln x.2.2 c p)) 220 c' = _
          rw [up2_n (by decide)]
          by_cases hcc : c' = c
          · rw [hcc, u2_s, if_pos rfl]
          · rw [u2_i hcc, if_neg hcc]
        have hHA : HA x.2.2 H2 (hst hs c (p + 1)) := by
          intro c' c1' c6'
          rw [v221, v220]
          unfold hst
          by_cases hcc : c' = c
          · subst hcc
            rw [if_pos rfl, if_pos rfl, if_pos rfl, if_neg (by omega), Nat.add_sub_cancel]
            exact ⟨rfl, fun _ => rfl⟩
          · rw [if_neg hcc, if_neg hcc, if_neg hcc]
            exact hH c' c1' c6'
        rw [(e129 H2 (hln x.2.2 c p) p (MA_22 o2 hm) hc1 hc6' (by rw [v221, if_pos rfl]) (by rw [v220, if_pos rfl]) (hln x.2.2 c p) (by omega) (by omega) hp1 hp1).1 ⟨rfl, fun _ _ => rfl⟩]
        have ef : fitM x.2.1 x.2.2 (c :: cs) p hs = fitM x.2.1 x.2.2 cs (p + hln x.2.2 c p) (hst hs c (p + 1)) := by
          rw [fitM]
          dsimp only
          rw [if_neg h7, if_pos h0]
        rw [ef]
        rcases ih (k + 1) (p + hln x.2.2 c p) r (hst hs c (p + 1)) L2 sx2 H2 hd2 (by omega) a1 a2 a3 hHA (MA_22 o2 hm) hr2 with ⟨hs', H', z1, z2, z3, z5⟩ | ⟨z1, H', z2, z3⟩
        · exact Or.inl ⟨hs', H', z1, z2, z3, o2.tr z5⟩
        · exact Or.inr ⟨z1, H', z2, o2.tr z3⟩
      · obtain ⟨b1, b2⟩ := s1 h0
        obtain ⟨hp1, hp2⟩ := hpart b1
        rw [hp2]
        have hfl : hs c - 1 + hln x.2.2 c (hs c - 1) ≤ x.1 ∧ 0 < hln x.2.2 c (hs c - 1) := by
          by_cases hc6 : c = 6
          · subst hc6
            have := (hI.2.1 h0).2
            unfold hln
            rw [if_pos rfl]
            omega
          · obtain ⟨d, qq, _, z2, z3⟩ := hI.1 c hc1 (by omega) h0
            have := KD_lt z3
            unfold hln
            rw [if_neg hc6, nI_cl (KD_end z3) (by omega)]
            omega
        unfold s_AdjoinedSetsModel_fits_100
        rw [rR_200_28, ob_s, rA_221 (by omega), ob_s, (hH c hc1 hc6').1, if_neg h0, if_neg (nI_ne0 hfl.2 (by omega))]
        obtain ⟨g1, g2⟩ := e129 H (hln x.2.2 c (hs c - 1)) (hs c - 1) hm hc1 hc6' (by rw [(hH c hc1 hc6').1, if_neg h0]) ((hH c hc1 hc6').2 h0) (hln x.2.2 c p) (by omega) (by omega) hfl.1 hp1
        by_cases hall : ∀ j, j < hln x.2.2 c (hs c - 1) → x.2.1 (hs c - 1 + j) = x.2.1 (p + j)
        · obtain ⟨c1, L2, sx2, a1, a2, a3⟩ := b2 hall
          have hle : hln x.2.2 c (hs c - 1) = hln x.2.2 c p := by
            by_cases hc6 : c = 6
            · unfold hln; rw [if_pos hc6, if_pos hc6]
            · exact (c1 hc6).symm
          rw [g1 ⟨hle, hall⟩]
          have ef : fitM x.2.1 x.2.2 (c :: cs) p hs = fitM x.2.1 x.2.2 cs (p + hln x.2.2 c (hs c - 1)) hs := by
            rw [fitM]
            dsimp only
            rw [if_neg h7, if_neg h0, if_pos hall]
          rw [ef, ← hle]
          exact ih (k + 1) _ r hs L2 sx2 H hd2 (by omega) a1 a2 a3 hH hm hr2
        · rw [g2 (fun z => hall z.2)]
          right
          refine ⟨?_, H, rfl, o22.rf H⟩
          rw [fitM]
          dsimp only
          rw [if_neg h7, if_neg h0, if_neg hall]
theorem m_fz {S : SG} {rule : Int32} : ∀ (i c r : Nat) (H : HP), c + i = 7 → i < r → MA S H → (∀ l, l < c → H.1 221 l = 0) → ∃ H', o22 H H' ∧ (∀ l, l < 7 → H'.1 221 l = 0) ∧ s_AdjoinedSetsModel_fits_2 r 200 rule (nI c) H = (s_AdjoinedSetsModel_patternOf 200 rule H').bind fun q2 => s_AdjoinedSetsModel_fits_29 20000 200 0 q2 H' := by
  intro i
  induction i with
  | zero =>
    intro c r H h1 h2 hm hz
    obtain ⟨r, rfl⟩ : ∃ r0, r = r0 + 1 := ⟨r - 1, by omega⟩
    refine ⟨H, o22.rf H, fun l hl => hz l (by omega), ?_⟩
    rw [s_AdjoinedSetsModel_fits_2]
    dsimp only
    rw [if_pos (show 7 ≤ nI c from nI_le (a := 7) (by omega) (by omega)), rK_200, ob_s]
  | succ i ih =>
    intro c r H h1 h2 hm hz
    obtain ⟨r, rfl⟩ : ∃ r0, r = r0 + 1 := ⟨r - 1, by omega⟩
    have o2 : o22 H (up2 H.1 221 c 0, H.2) := ⟨fun m z1 z2 => up2_n z2, rfl⟩
    obtain ⟨H', a1, a2, a3⟩ := ih (c + 1) r (up2 H.1 221 c 0, H.2) (by omega) (by omega) (MA_22 o2 hm) (fun l hl => by
      show up2 H.1 221 c 0 221 l = 0
      by_cases hlc : l = c
      · rw [hlc, u2_s]
      · rw [u2_i hlc]; exact hz l (by omega))
    refine ⟨H', o2.tr a1, a2, ?_⟩
    rw [s_AdjoinedSetsModel_fits_2]
    dsimp only
    rw [if_neg (show ¬ 7 ≤ nI c from nI_ge (b := 7) (by omega) (by omega)), rR_200_28, ob_s, wA_221 (by omega), ob_s, nI_1, a3]
/-- the model fits the buffer to a form -/
theorem m_fits {S : SG} {x : TX} {H : HP} (hw : WF S) (hxb : x.1 = (gB S).1 ∧ x.2.1 = (gB S).2.1) {q : Nat} (hq1 : 1 ≤ q) (hq : q < 14) (h9 : q ≠ 9) (hK : KD (gK S) x.2.1 x.2.2 12 true 0 x.1) (hm : MA S H) : (∃ hs' H', fitM x.2.1 x.2.2 (PL q) 0 (fun _ => 0) = some hs' ∧ s_AdjoinedSetsModel_fits 200 (nI (rlN q)) H = some (1, H') ∧ HA x.2.2 H' hs' ∧ o22 H H') ∨ (fitM x.2.1 x.2.2 (PL q) 0 (fun _ => 0) = none ∧ ∃ H', s_AdjoinedSetsModel_fits 200 (nI (rlN q)) H = some (0, H') ∧ o22 H H') := by
  obtain ⟨H1, a1, a2, a3⟩ := m_fz (rule := nI (rlN q)) 7 0 20000 H (by omega) (by omega) hm (fun l hl => absurd hl (by omega))
  have m1 := MA_22 a1 hm
  have e0 : s_AdjoinedSetsModel_fits 200 (nI (rlN q)) H = s_AdjoinedSetsModel_fits_29 20000 200 0 (nI (ppN q)) H1 := by
    unfold s_AdjoinedSetsModel_fits
    rw [show s_AdjoinedSetsModel_fits_2 20000 200 (nI (rlN q)) 0 H = _ from a3, m_pat m1.2.2.2.2.2 hq1 hq h9, ob_s]
  rw [e0]
  obtain ⟨_, _, s17⟩ := str_l q hq hq1
  have := m_fit hw hxb hq1 hq h9 (PL q) 0 0 20000 (fun _ => 0) [1] false H1 rfl (Nat.zero_le _) (tc_all q hq hq1) (by unfold chn; rw [if_neg (by decide)]; exact ⟨12, x.1, by omega, Nat.le_refl _, hK, rfl⟩) ⟨fun c _ _ z => absurd rfl z, fun z => absurd rfl z, fun z => Bool.noConfusion z⟩ (fun c c1 c6 => ⟨by rw [if_pos rfl]; exact a2 c (by omega), fun z => absurd rfl z⟩) m1 (by omega)
  rcases this with ⟨hs', H', z1, z2, z3, z5⟩ | ⟨z1, H', z2, z3⟩
  · exact Or.inl ⟨hs', H', z1, z2, z3, a1.tr z5⟩
  · exact Or.inr ⟨z1, H', z2, a1.tr z3⟩
