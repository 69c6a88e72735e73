/-! define. -/
theorem fits_ok {c : Int32} (h : okC c) : fits .char (.int c) = true := by
  have h0 : ¬ c < 0 := by
    rw [Int32.lt_iff_toInt_lt]
    have := h.1
    rw [Int32.le_iff_toInt_le] at this
    have e : (33 : Int32).toInt = 33 := by decide
    have e2 : (0 : Int32).toInt = 0 := by decide
    omega
  obtain ⟨m, hm, rfl⟩ := nI_of h0
  have a2 := (nI_leI (a := m) (b := 126) hm (by decide)).mp h.2
  exact (pk_charN (q := m) (by omega)).2
theorem c_copy {h : HP} {x : TX} {t : Nat} (hT : isT t) (ht0 : t ≠ 100) (hx : cT h 100 x) (hE : cE h 100 x) (hok : ∀ p, p < x.1 → okC (x.2.1 p)) : ∃ h', s_Text_copy t 100 h = some h' ∧ cT h' t x ∧ cE h' t x ∧ (∀ m, m ≠ t → m ≠ t + 1 → m ≠ t + 2 → h'.1 m = h.1 m) ∧ h'.2 = h.2 := by
  have hT' := hT
  obtain ⟨t1, t2, t3⟩ := hT'
  have h60 := hx.1.2.2
  have hl := hx.1.2.1
  unfold s_Text_copy
  have c1 : cpC h 1 101 0 (t + 1) 0 (nI x.1) = some (cpy2 h.1 101 (t + 1) 0 0 x.1, h.2) := by
    unfold cpC
    rw [nI_clamp (by omega), if_pos]
    · rfl
    · exact ⟨rfl, kA_t1 hT, rfl, by omega, by decide, by decide, nI_pos (by omega), by show 0 + x.1 ≤ 60; omega, by rw [lA_t1 hT]; show 0 + x.1 ≤ 60; omega, fun i hi => by show fits .char (.int (h.1 101 (0 + i))) = true; rw [Nat.zero_add, hx.2 i hi]; exact fits_ok (hok i hi)⟩
  obtain ⟨g, hg⟩ : ∃ g, g = cpy2 h.1 101 (t + 1) 0 0 x.1 := ⟨_, rfl⟩
  have g1 : ∀ m, m ≠ t + 1 → g m = h.1 m := by
    intro m hm
    rw [hg]
    funext j
    unfold cpy2
    rw [if_neg (fun q => hm q.1)]
  have g2 : ∀ p, p < x.1 → g (t + 1) p = x.2.1 p := by
    intro p hp
    rw [hg]
    unfold cpy2
    rw [if_pos ⟨rfl, by omega, by omega⟩, Nat.zero_add, Nat.sub_zero]
    exact hx.2 p hp
  rw [rR_100_0, ob_s, t_g0 hT, ob_s, rI_100_2, ob_s, hl, c1, ob_s, ← hg, rR_100_1, ob_s, t_g1 hT, ob_s, rI_100_2, ob_s]
  have e0 : (g, h.2).1 100 2 = nI x.1 := by
    show g 100 2 = _
    rw [g1 100 (by omega), hl]
  have c2 : cpI (g, h.2) 0 102 0 (t + 2) 0 (nI x.1) = some (cpy2 g 102 (t + 2) 0 0 x.1, h.2) := by
    unfold cpI
    rw [nI_clamp (by omega), if_pos]
    · rfl
    · exact ⟨rfl, kA_t2 hT, rfl, by omega, by decide, by decide, nI_pos (by omega), by show 0 + x.1 ≤ 60; omega, by rw [lA_t2 hT]; show 0 + x.1 ≤ 60; omega⟩
  rw [e0, c2, ob_s]
  obtain ⟨k, hk⟩ : ∃ k, k = cpy2 g 102 (t + 2) 0 0 x.1 := ⟨_, rfl⟩
  have k1 : ∀ m, m ≠ t + 2 → k m = g m := by
    intro m hm
    rw [hk]
    funext j
    unfold cpy2
    rw [if_neg (fun q => hm q.1)]
  have k2 : ∀ p, p < x.1 → k (t + 2) p = x.2.2 p := by
    intro p hp
    rw [hk]
    unfold cpy2
    rw [if_pos ⟨rfl, by omega, by omega⟩, Nat.zero_add, Nat.sub_zero, g1 102 (by omega)]
    exact hE p hp
  rw [← hk, rI_100_2, ob_s]
  have e1 : (k, h.2).1 100 2 = nI x.1 := by
    show k 100 2 = _
    rw [k1 100 (by omega), g1 100 (by omega), hl]
  rw [e1, t_pI hT, ob_s]
  refine ⟨_, rfl, ⟨⟨hT, ?_, h60⟩, fun p hp => ?_⟩, fun p hp => ?_, fun m m1 m2 m3 => ?_, rfl⟩
  · show up2 k t 2 (nI x.1) t 2 = nI x.1
    exact u2_s
  · show up2 k t 2 (nI x.1) (t + 1) p = _
    rw [up2_n (by omega), k1 (t + 1) (by omega)]
    exact g2 p hp
  · show up2 k t 2 (nI x.1) (t + 2) p = _
    rw [up2_n (by omega)]
    exact k2 p hp
  · show up2 k t 2 (nI x.1) m = _
    rw [up2_n m1, k1 m m3, g1 m m2]
def dfS (S : SG) (j a : Nat) (x : TX) : SG := (e0, gVs S, (fun f => if f = j then a else gK S f), (fun f => if f = j then x else gBd S f), gC S, gT S, gRs S)
theorem WF_df {S : SG} {j a : Nat} {x : TX} (hw : WF S) (hj : j < 4) (h0 : gK S j = 0) (ha : 1 ≤ a ∧ a ≤ 3) (hx : x.1 ≤ 60) (hok : ∀ p, p < x.1 → okC (x.2.1 p)) (hK : KD (fun f => if f = j then a else gK S f) x.2.1 x.2.2 12 false 0 x.1) (hf : ∀ l, l < 8 → fv x.2.1 x.2.2 12 0 l = true → l < a) : WF (dfS S j a x) := by
  have hk : ∀ f, f < 4 → 0 < gK S f → (if f = j then a else gK S f) = gK S f := by
    intro f _ hp
    rw [if_neg (fun q => by rw [q, h0] at hp; omega)]
  refine ⟨⟨Nat.zero_le _, fun p hp => absurd hp (by show ¬ p < 0; omega)⟩, hw.2.1, fun f hf4 => ?_, hw.2.2.2.1, fun i hi => ?_⟩
  · show (if f = j then a else gK S f) ≤ 3 ∧ ((if f = j then a else gK S f) ≠ 0 → (if f = j then x else gBd S f).1 ≤ 60 ∧ (∀ p, p < (if f = j then x else gBd S f).1 → okC ((if f = j then x else gBd S f).2.1 p)) ∧ KD (fun f => if f = j then a else gK S f) (if f = j then x else gBd S f).2.1 (if f = j then x else gBd S f).2.2 12 false 0 (if f = j then x else gBd S f).1 ∧ ∀ l, l < 8 → fv (if f = j then x else gBd S f).2.1 (if f = j then x else gBd S f).2.2 12 0 l = true → l < (if f = j then a else gK S f))
    by_cases hfj : f = j
    · rw [if_pos hfj, if_pos hfj]
      exact ⟨ha.2, fun _ => ⟨hx, hok, hK, hf⟩⟩
    · rw [if_neg hfj, if_neg hfj]
      obtain ⟨b1, b2⟩ := hw.2.2.1 f hf4
      refine ⟨b1, fun q => ?_⟩
      obtain ⟨c1, c2, c3, c4⟩ := b2 q
      exact ⟨c1, c2, KD_m hk _ _ _ _ c3, c4⟩
  · obtain ⟨c1, c2, c3⟩ := hw.2.2.2.2 i hi
    exact ⟨c1, c2, KD_m hk _ _ _ _ c3⟩
theorem m_dcopy {j n : Nat} {x3 : Int32} (hj : j < 4) (hn : n ≤ 60) : ∀ (i c r : Nat) (H : HP), c + i = n → i < r → H.1 200 1 = nI n → ∃ H', s_AdjoinedSetsModel_define_62 r 200 (nI j) x3 (nI c) H = s_AdjoinedSetsModel_define_100 200 x3 H' ∧ (∀ m, m ≠ 201 → H'.1 m = H.1 m) ∧ H'.2 = H.2 ∧ (∀ q, q < 1100 + 60 * j + c ∨ 1100 + 60 * j + n ≤ q → H'.1 201 q = H.1 201 q) ∧ ∀ p, c ≤ p → p < n → H'.1 201 (1100 + 60 * j + p) = H.1 201 p := by
  intro i
  induction i with
  | zero =>
    intro c r H h1 h2 h3
    obtain ⟨r, rfl⟩ : ∃ r0, r = r0 + 1 := ⟨r - 1, by omega⟩
    refine ⟨H, ?_, fun _ _ => rfl, rfl, fun _ _ => rfl, fun p z1 z2 => absurd z1 (by omega)⟩
    rw [s_AdjoinedSetsModel_define_62]
    dsimp only
    rw [rI_200_1, ob_s, h3, if_pos (nI_le (by omega) (by omega))]
  | succ i ih =>
    intro c r H h1 h2 h3
    obtain ⟨r, rfl⟩ : ∃ r0, r = r0 + 1 := ⟨r - 1, by omega⟩
    have e1 : (1100 + (60 * nI j)) + nI c = nI (1100 + 60 * j + c) := by
      rw [show (1100 : Int32) = nI 1100 from rfl, show (60 : Int32) = nI 60 from rfl, pk_mul, nI_add, nI_add]
    obtain ⟨H', a1, a2, a3, a4, a5⟩ := ih (c + 1) r (up2 H.1 201 (1100 + 60 * j + c) (H.1 201 c), H.2) (by omega) (by omega) (by show up2 H.1 201 (1100 + 60 * j + c) (H.1 201 c) 200 1 = nI n; rw [up2_n (by decide)]; exact h3)
    refine ⟨H', ?_, fun m hm => ?_, a3, fun q hq => ?_, fun p z1 z2 => ?_⟩
    · rw [s_AdjoinedSetsModel_define_62]
      dsimp only
      rw [rI_200_1, ob_s, h3, if_neg (nI_ge (by omega) (by omega)), rR_200_0, ob_s, ob_s, rA_201 (by omega), ob_s, e1, wA_201 (by omega), ob_s, nI_1, a1]
    · rw [a2 m hm]
      exact up2_n hm
    · rw [a4 q (by omega)]
      show up2 H.1 201 (1100 + 60 * j + c) (H.1 201 c) 201 q = _
      rw [u2_i (by omega)]
    · by_cases hpc : p = c
      · rw [hpc, a4 _ (by omega)]
        show up2 H.1 201 (1100 + 60 * j + c) (H.1 201 c) 201 (1100 + 60 * j + c) = _
        exact u2_s
      · rw [a5 p (by omega) z2]
        show up2 H.1 201 (1100 + 60 * j + c) (H.1 201 c) 201 p = _
        rw [u2_i (by omega)]
theorem op_define : ∀ f n, OP2 (s_AdjoinedSets_define 0 f n) (s_AdjoinedSetsModel_define 200 f n) := by
  intro f n S h hw hc hm
  have bad : s_AdjoinedSets_define 0 f n h = some (-1, h) → s_AdjoinedSetsModel_define 200 f n h = some (-1, h) → ∃ (r : Int32) (h1 h2 : HP) (S' : SG), s_AdjoinedSets_define 0 f n h = some (r, h1) ∧ s_AdjoinedSetsModel_define 200 f n h1 = some (r, h2) ∧ WF S' ∧ CA S' h2 ∧ MA S' h2 := fun a b => ⟨-1, h, h, S, a, b, hw, hc, hm⟩
  by_cases hf0 : f < 0
  · exact bad (by unfold s_AdjoinedSets_define; rw [if_pos hf0]) (by unfold s_AdjoinedSetsModel_define; rw [if_pos hf0])
  obtain ⟨j, hj31, rfl⟩ := nI_of hf0
  by_cases hj4 : 4 ≤ j
  · exact bad (by unfold s_AdjoinedSets_define; rw [if_neg hf0, if_pos (show 4 ≤ nI j from nI_le (a := 4) hj4 hj31)]) (by unfold s_AdjoinedSetsModel_define; rw [if_neg hf0, if_pos (show 3 < nI j from nI_lt (a := 3) (by omega) hj31)])
  have hj : j < 4 := by omega
  have hkj := (hw.2.2.1 j hj).1
  have ec : s_AdjoinedSets_define 0 (nI j) n h = if nI (gK S j) = 0 then (if n < 1 then some (-1, h) else if n ≤ 3 then ((s_Reader_readBody 4 (nI j) n h).bind fun q11 => if q11.1 < 0 then s_AdjoinedSets_define_63 0 q11.1 q11.2 else ((s_Function_become (17 + j) n 100 q11.2).bind fun q20 => s_AdjoinedSets_define_63 0 0 q20)) else some (-1, h)) else some (-1, h) := by
    unfold s_AdjoinedSets_define s_Function_takes
    rw [if_neg hf0, if_neg (show ¬ 4 ≤ nI j from nI_ge (b := 4) hj (by omega)), rR_0_2, ob_s, rA_2 hj, ob_s, Nat.one_mul, (fn_R j hj h).2.2, ob_s, (fn_R j hj h).1, ob_s, (hc.2.2.1 j hj).1, ob_s, rR_0_4, ob_s, rK_4, ob_s]
    simp only [rR_0_2, ob_s, rA_2 hj, rR_0_1, Nat.one_mul, (fn_R j hj h).2.2]
  have em : ∀ H : HP, H.1 203 j = nI (gK S j) → s_AdjoinedSetsModel_define 200 (nI j) n H = if 0 < nI (gK S j) then some (-1, H) else (if n < 1 then some (-1, H) else if n ≤ 3 then ((s_AdjoinedSetsModel_wrong 200 0 (nI j) n (up2 H.1 203 j n, H.2)).bind fun q10 => if q10.1 < 0 then s_AdjoinedSetsModel_define_62 20000 200 (nI j) q10.1 0 q10.2 else s_AdjoinedSetsModel_define_100 200 q10.1 (up2 q10.2.1 203 j 0, q10.2.2)) else some (-1, H)) := by
    intro H h203
    unfold s_AdjoinedSetsModel_define
    rw [if_neg hf0, if_neg (show ¬ 3 < nI j from nI_nlt (a := 3) (b := j) (by omega) (by omega)), rR_200_3, ob_s, rA_203 hj, ob_s, h203]
    simp only [ob_s, rR_200_3, wA_203 hj, rK_200]
  by_cases hk0 : gK S j = 0
  rotate_left
  · exact bad (by rw [ec, if_neg (nI_ne0 (by omega) (by omega))]) (by rw [em h (hm.2.2.1 j hj).1, if_pos (show 0 < nI (gK S j) from nI_lt (a := 0) (by omega) (by omega))])
  have hz : nI (gK S j) = 0 := by rw [hk0]; rfl
  by_cases hn1 : n < 1
  · exact bad (by rw [ec, if_pos hz, if_pos hn1]) (by rw [em h (hm.2.2.1 j hj).1, if_neg (by rw [hz]; decide), if_pos hn1])
  by_cases hn3 : n ≤ 3
  rotate_left
  · exact bad (by rw [ec, if_pos hz, if_neg hn1, if_neg hn3]) (by rw [em h (hm.2.2.1 j hj).1, if_neg (by rw [hz]; decide), if_neg hn1, if_neg hn3])
  obtain ⟨a, ha3, rfl⟩ : ∃ a, a ≤ 3 ∧ n = nI a := by
    have h0 : ¬ n < 0 := by
      rw [Int32.lt_iff_toInt_lt] at hn1 ⊢
      have e1 : (1 : Int32).toInt = 1 := by decide
      have e0 : (0 : Int32).toInt = 0 := by decide
      omega
    exact nI_of2 (n := 3) (by decide) h0 hn3
  have ha : 1 ≤ a ∧ a ≤ 3 := by
    refine ⟨?_, ha3⟩
    apply Classical.byContradiction
    intro q
    exact hn1 (by rw [show a = 0 by omega]; decide)
  obtain ⟨h1, f1, ho, q1⟩ := c_readBody hw hc (f := j) ha
  have hk1 := kp_o3 ho
  have hc1 : CA S h1 := CA_kp hk1 hw hc (cT_o3 ho hc)
  have hm1 : MA S h1 := MA_of hk1.2 hm
  have h60 := hw.1.1
  rw [ec, if_pos hz, if_neg hn1, if_pos hn3, f1, ob_s]
  dsimp only
  have e63 : ∀ (H : HP) (v : Int32), s_AdjoinedSets_define_63 0 v H = some (v, (up2 H.1 100 2 0, H.2)) := by
    intro H v
    unfold s_AdjoinedSets_define_63
    rw [rR_0_1, ob_s, rK_100, ob_s, p_empty isT_100, ob_s]
  have hMR : ∀ H : HP, MA S H → MR (kk (gK S) (nI j) a) (gB S).1 (gB S).2.1 (up2 H.1 203 j (nI a), H.2) := by
    intro H hH
    refine ⟨by show up2 H.1 203 j (nI a) 200 1 = _; rw [up2_n (by decide)]; exact hH.1.1, fun p hp => ?_, fun f hf => ?_⟩
    · show up2 H.1 203 j (nI a) 201 p = _
      rw [up2_n (by decide)]
      have := hH.1.2 p hp
      rw [Nat.zero_add] at this
      exact this
    · show up2 H.1 203 j (nI a) 203 f = _
      unfold kk
      by_cases hfj : f = j
      · rw [hfj, u2_s, if_pos rfl]
      · rw [u2_i hfj, if_neg (fun q => hfj ((nI_eq (a := f) (b := j) (by omega) (by omega)).mp q))]
        exact (hH.2.2.1 f hf).1
  cases hR : RS (gK S) (gB S).1 (gB S).2.1 (nI j) a a false with
  | inl w =>
    rw [hR] at q1
    have q1 : w ≤ (gB S).1 := q1
    obtain ⟨g1, g2, g3⟩ := fin100 w (by omega)
    rw [show enc (.inl w) = (-100) - nI w from rfl, if_pos g2, e63]
    have hk2 : kp h (up2 h1.1 100 2 0, h1.2) := hk1.tr (kp_I rfl (by decide))
    have hc2 : CA (setB S e0) (up2 h1.1 100 2 0, h1.2) := CA_ofB hk2.1 hw hc (cT_e0 (by show up2 h1.1 100 2 0 100 2 = 0; exact u2_s))
    have hm2 : MA S (up2 h1.1 100 2 0, h1.2) := MA_of hk2.2 hm
    obtain ⟨h4, f4, o4⟩ := m_wrong (S := S) (h := (up2 (up2 h1.1 100 2 0, h1.2).1 203 j (nI a), (up2 h1.1 100 2 0, h1.2).2)) hw (ow := nI j) (lm := nI a) (ok := a) (lt := a) (Or.inr ha) (Or.inr ⟨nI_pos (by omega), rfl, by omega⟩) (hMR _ hm2) false
    rw [hR] at f4
    have hm4 : MA S (up2 h4.1 203 j 0, h4.2) := by
      obtain ⟨⟨b1, b2⟩, b3, b4, b5, b6, b7⟩ := hm2
      have w203 : ∀ m, m ≠ 200 → m ≠ 203 → (m < 206 ∨ 209 < m) → (up2 h4.1 203 j 0, h4.2).1 m = (up2 h1.1 100 2 0, h1.2).1 m := by
        intro m m1 m2 m3
        show up2 h4.1 203 j 0 m = _
        rw [up2_n m2, o4.1 m m1 m3]
        exact up2_n m2
      have w200 : ∀ i, i ≠ 7 → i ≠ 12 → (up2 h4.1 203 j 0, h4.2).1 200 i = (up2 h1.1 100 2 0, h1.2).1 200 i := by
        intro i i1 i2
        show up2 h4.1 203 j 0 200 i = _
        rw [up2_n (by decide), o4.2.2 i i1 i2]
        show up2 (up2 h1.1 100 2 0) 203 j (nI a) 200 i = _
        rw [up2_n (by decide)]
      refine ⟨⟨(w200 1 (by decide) (by decide)).trans b1, fun p hp => by rw [w203 201 (by decide) (by decide) (by decide)]; exact b2 p hp⟩, fun l hl => ?_, fun f hf => ?_, (w200 4 (by decide) (by decide)).trans b5, fun i hi => ?_, by rw [w203 219 (by decide) (by decide) (by decide)]; exact b7⟩
      · show h4.2.1 202 l = _
        rw [o4.2.1]
        exact b3 l hl
      · refine ⟨?_, fun q p hp => by rw [w203 201 (by decide) (by decide) (by decide)]; exact (b4 f hf).2 q p hp⟩
        show up2 h4.1 203 j 0 203 f = _
        by_cases hfj : f = j
        · rw [hfj, u2_s, hz]
        · rw [u2_i hfj, o4.1 203 (by decide) (by decide)]
          show up2 (up2 h1.1 100 2 0) 203 j (nI a) 203 f = _
          rw [u2_i hfj]
          exact (b4 f hf).1
      · obtain ⟨c1, c2, c3⟩ := b6 i hi
        exact ⟨by rw [w203 204 (by decide) (by decide) (by decide)]; exact c1, fun p hp => by rw [w203 201 (by decide) (by decide) (by decide)]; exact c2 p hp, by rw [w203 205 (by decide) (by decide) (by decide)]; exact c3⟩
    refine ⟨((-100) - nI w), _, (up2 (up2 h4.1 203 j 0, h4.2).1 200 1 0, (up2 h4.1 203 j 0, h4.2).2), setB S e0, rfl, ?_, WF_e0 hw, CA_of (sC.tr (sC_I (by decide)) (sC.tr (sC_o200 o4) (sC.tr (sC_I (by decide)) (sC_I (by decide))))) (WF_e0 hw) hc2, sz0 hm4⟩
    rw [em _ (hm2.2.2.1 j hj).1, if_neg (by rw [hz]; decide), if_neg hn1, if_pos hn3, show s_AdjoinedSetsModel_wrong 200 0 (nI j) (nI a) (up2 (up2 h1.1 100 2 0, h1.2).1 203 j (nI a), (up2 h1.1 100 2 0, h1.2).2) = some (nI w, h4) from f4, ob_s]
    dsimp only
    unfold s_AdjoinedSetsModel_define_100
    rw [if_neg (nI_pos (by omega)), wI_200_1, ob_s, if_neg (nI_pos (by omega))]
  | inr e =>
    rw [hR] at q1
    obtain ⟨q1, hK⟩ := q1
    have hx : cT h1 100 (xB S (h1.1 102)) := cT_o3 ho hc
    have hE : cE h1 100 (xB S (h1.1 102)) := fun p hp => rfl
    have hkx : ∀ f, f < 4 → kk (gK S) (nI j) a f = (if f = j then a else gK S f) := by
      intro f hf
      unfold kk
      by_cases hfj : f = j
      · rw [if_pos hfj, if_pos (by rw [hfj])]
      · rw [if_neg hfj, if_neg (fun q => hfj ((nI_eq (a := f) (b := j) (by omega) (by omega)).mp q))]
    have hK' : KD (fun f => if f = j then a else gK S f) (gB S).2.1 (h1.1 102) 12 false 0 (gB S).1 := KD_k hkx _ _ _ _ hK
    have hfv : ∀ l, l < 8 → fv (gB S).2.1 (h1.1 102) 12 0 l = true → l < a := by
      have hPT : PT (gK S) (gB S).1 (gB S).2.1 (nI j) a a 12 false (fun _ => 0) 0 = .inr (gB S).1 := by
        unfold RS at hR
        cases hP : PT (gK S) (gB S).1 (gB S).2.1 (nI j) a a 12 false (fun _ => 0) 0 with
        | inl w => rw [hP] at hR; cases hR
        | inr e2 =>
          rw [hP] at hR
          dsimp only at hR
          by_cases he2 : e2 = (gB S).1
          · rw [he2]
          · rw [if_neg he2] at hR; cases hR
      intro l hl hf
      have := (PT_fv h60 (show a ≤ 8 by omega) (kx := fun f => if f = j then a else gK S f) (fun f hf => (hkx f hf).symm) (fun f hf => by split; exact ha.2; exact (hw.2.2.1 f hf).1) 12 false (fun _ => 0) 0 _ _ hPT hK' (Nat.le_refl _)).2 l hl hf
      rcases this with q | q
      · exact q
      · exact absurd rfl q
    have hw' : WF (dfS S j a (xB S (h1.1 102))) := WF_df hw hj hk0 ha h60 (fun p hp => hw.1.2 p hp) hK' hfv
    rw [show enc (.inr e) = nI e from rfl, if_neg (nI_pos (by omega))]
    unfold s_Function_become
    have wI : pI h1 (17 + j) 1 1 (nI a) = some (up2 h1.1 (17 + j) 1 (nI a), h1.2) := by
      obtain rfl | rfl | rfl | rfl : j = 0 ∨ j = 1 ∨ j = 2 ∨ j = 3 := by omega
      · rfl
      · rfl
      · rfl
      · rfl
    have hT := isT_bd hj
    have hx2 : cT (up2 h1.1 (17 + j) 1 (nI a), h1.2) 100 (xB S (h1.1 102)) := by
      obtain ⟨⟨b1, b2, b3⟩, b4⟩ := hx
      exact ⟨⟨b1, by show up2 h1.1 (17 + j) 1 (nI a) 100 2 = _; rw [up2_n (by omega)]; exact b2, b3⟩, fun p hp => by show up2 h1.1 (17 + j) 1 (nI a) 101 p = _; rw [up2_n (by omega)]; exact b4 p hp⟩
    have hE2 : cE (up2 h1.1 (17 + j) 1 (nI a), h1.2) 100 (xB S (h1.1 102)) := fun p hp => by show up2 h1.1 (17 + j) 1 (nI a) 102 p = _; rw [up2_n (by omega)]; rfl
    obtain ⟨h2, p1, p2, p3, p4, p5⟩ := c_copy hT (by omega) hx2 hE2 (fun p hp => hw.1.2 p hp)
    rw [wI, ob_s, (fn_R j hj _).2.1, ob_s, t_kd hT, ob_s, p1, ob_s, ob_s, e63]
    obtain ⟨H, hH⟩ : ∃ H : HP, H = (up2 h2.1 100 2 0, h2.2) := ⟨_, rfl⟩
    have n1 : ∀ m, m ≠ 100 → m ≠ 17 + j → m ≠ 106 + 3 * j → m ≠ 106 + 3 * j + 1 → m ≠ 106 + 3 * j + 2 → H.1 m = h1.1 m := by
      intro m z1 z2 z3 z4 z5
      rw [hH]
      show up2 h2.1 100 2 0 m = _
      rw [up2_n z1, p4 m z3 z4 z5]
      exact up2_n z2
    have nJ : H.2 = h1.2 := by rw [hH]; exact p5
    have hcH : CA (dfS S j a (xB S (h1.1 102))) H := by
      obtain ⟨b1, b2, b3, b4, b5⟩ := hc1
      refine ⟨cT_e0 (by rw [hH]; show up2 h2.1 100 2 0 100 2 = 0; exact u2_s), fun l hl => by rw [nJ]; exact b2 l hl, fun f hf => ?_, by rw [n1 3 (by decide) (by omega) (by omega) (by omega) (by omega)]; exact b4, fun i hi => ?_⟩
      · show H.1 (17 + f) 1 = nI (if f = j then a else gK S f) ∧ ((if f = j then a else gK S f) ≠ 0 → cT H (106 + 3 * f) (if f = j then xB S (h1.1 102) else gBd S f) ∧ cE H (106 + 3 * f) (if f = j then xB S (h1.1 102) else gBd S f))
        by_cases hfj : f = j
        · subst hfj
          rw [if_pos rfl, if_pos rfl]
          refine ⟨?_, fun _ => ⟨?_, ?_⟩⟩
          · rw [hH]
            show up2 h2.1 100 2 0 (17 + f) 1 = _
            rw [up2_n (by omega), p4 _ (by omega) (by omega) (by omega)]
            show up2 h1.1 (17 + f) 1 (nI a) (17 + f) 1 = _
            exact u2_s
          · obtain ⟨⟨c1, c2, c3⟩, c4⟩ := p2
            rw [hH]
            exact ⟨⟨c1, by show up2 h2.1 100 2 0 (106 + 3 * f) 2 = _; rw [up2_n (by omega)]; exact c2, c3⟩, fun p hp => by show up2 h2.1 100 2 0 (106 + 3 * f + 1) p = _; rw [up2_n (by omega)]; exact c4 p hp⟩
          · rw [hH]
            exact fun p hp => by show up2 h2.1 100 2 0 (106 + 3 * f + 2) p = _; rw [up2_n (by omega)]; exact p3 p hp
        · rw [if_neg hfj, if_neg hfj]
          obtain ⟨c1, c2⟩ := b3 f hf
          refine ⟨by rw [n1 (17 + f) (by omega) (by omega) (by omega) (by omega) (by omega)]; exact c1, fun q => ?_⟩
          obtain ⟨⟨⟨d1, d2, d3⟩, d4⟩, d5⟩ := c2 q
          exact ⟨⟨⟨d1, by rw [n1 (106 + 3 * f) (by omega) (by omega) (by omega) (by omega) (by omega)]; exact d2, d3⟩, fun p hp => by rw [n1 (106 + 3 * f + 1) (by omega) (by omega) (by omega) (by omega) (by omega)]; exact d4 p hp⟩, fun p hp => by rw [n1 (106 + 3 * f + 2) (by omega) (by omega) (by omega) (by omega) (by omega)]; exact d5 p hp⟩
      · obtain ⟨⟨⟨d1, d2, d3⟩, d4⟩, d5, d6⟩ := b5 i hi
        have hi16 : i < 16 := Nat.lt_of_lt_of_le hi hw.2.2.2.1
        exact ⟨⟨⟨d1, by rw [n1 (118 + 3 * i) (by omega) (by omega) (by omega) (by omega) (by omega)]; exact d2, d3⟩, fun p hp => by rw [n1 (118 + 3 * i + 1) (by omega) (by omega) (by omega) (by omega) (by omega)]; exact d4 p hp⟩, fun p hp => by rw [n1 (118 + 3 * i + 2) (by omega) (by omega) (by omega) (by omega) (by omega)]; exact d5 p hp, by rw [n1 8 (by decide) (by omega) (by omega) (by omega) (by omega)]; exact d6⟩
    have hsM : sM h1 H := fun m hm => ⟨n1 m (by omega) (by omega) (by omega) (by omega) (by omega), by rw [nJ]⟩
    have hm2 : MA S H := MA_of hsM hm1
    rw [← hH]
    obtain ⟨h4, f4, o4⟩ := m_wrong (S := S) (h := (up2 H.1 203 j (nI a), H.2)) hw (ow := nI j) (lm := nI a) (ok := a) (lt := a) (Or.inr ha) (Or.inr ⟨nI_pos (by omega), rfl, by omega⟩) (hMR _ hm2) false
    rw [hR] at f4
    have h41 : h4.1 200 1 = nI (gB S).1 := by
      rw [o4.2.2 1 (by decide) (by decide)]
      show up2 H.1 203 j (nI a) 200 1 = _
      rw [up2_n (by decide)]
      exact hm2.1.1
    obtain ⟨h5, c1, c2, c3, c4, c5⟩ := m_dcopy (x3 := -1) hj h60 (gB S).1 0 20000 h4 (by omega) (by omega) h41
    have s45 : sC h4 h5 := ⟨fun m hm => ⟨c2 m (by omega), by rw [c3]⟩, by rw [c3]⟩
    have w201 : ∀ q, q < 1100 + 60 * j ∨ 1100 + 60 * j + 60 ≤ q → h5.1 201 q = H.1 201 q := by
      intro q hq
      rw [c4 q (by omega), o4.1 201 (by decide) (by decide)]
      show up2 H.1 203 j (nI a) 201 q = _
      rw [up2_n (by decide)]
    have wo : ∀ m, m ≠ 200 → m ≠ 201 → m ≠ 203 → (m < 206 ∨ 209 < m) → h5.1 m = H.1 m := by
      intro m m0 m1 m2 m3
      rw [c2 m m1, o4.1 m m0 m3]
      exact up2_n m2
    have w200 : ∀ i, i ≠ 7 → i ≠ 12 → h5.1 200 i = H.1 200 i := by
      intro i i1 i2
      rw [c2 200 (by decide), o4.2.2 i i1 i2]
      show up2 H.1 203 j (nI a) 200 i = _
      rw [up2_n (by decide)]
    have hm5 : MA (dfS S j a (xB S (h1.1 102))) (up2 h5.1 200 1 0, h5.2) := by
      obtain ⟨⟨b1, b2⟩, b3, b4, b5, b6, b7⟩ := hm2
      refine ⟨⟨by show up2 h5.1 200 1 0 200 1 = nI 0; exact u2_s, fun p hp => absurd hp (by show ¬ p < 0; omega)⟩, fun l hl => ?_, fun f hf => ?_, ?_, fun i hi => ?_, ?_⟩
      · show h5.2.1 202 l = _
        rw [c3, o4.2.1]
        exact b3 l hl
      · show up2 h5.1 200 1 0 203 f = nI (if f = j then a else gK S f) ∧ ((if f = j then a else gK S f) ≠ 0 → mT (up2 h5.1 200 1 0, h5.2) (1100 + 60 * f) (if f = j then xB S (h1.1 102) else gBd S f))
        rw [up2_n (by decide), c2 203 (by decide), o4.1 203 (by decide) (by decide)]
        by_cases hfj : f = j
        · subst hfj
          rw [if_pos rfl, if_pos rfl]
          refine ⟨u2_s, fun _ p hp => ?_⟩
          show up2 h5.1 200 1 0 201 _ = _
          rw [up2_n (by decide), c5 p (by omega) hp, o4.1 201 (by decide) (by decide)]
          show up2 H.1 203 f (nI a) 201 p = _
          rw [up2_n (by decide)]
          have := b2 p hp
          rw [Nat.zero_add] at this
          exact this
        · rw [if_neg hfj, if_neg hfj]
          refine ⟨by show up2 H.1 203 j (nI a) 203 f = _; rw [u2_i hfj]; exact (b4 f hf).1, fun q p hp => ?_⟩
          have hb60 := ((hw.2.2.1 f hf).2 q).1
          show up2 h5.1 200 1 0 201 _ = _
          rw [up2_n (by decide), w201 _ (by omega)]
          exact (b4 f hf).2 q p hp
      · show up2 h5.1 200 1 0 200 4 = _
        rw [u2_i (by decide), w200 4 (by decide) (by decide)]
        exact b5
      · obtain ⟨d1, d2, d3⟩ := b6 i hi
        have hi16 : i < 16 := Nat.lt_of_lt_of_le hi hw.2.2.2.1
        have ht60 := (hw.2.2.2.2 i hi).1
        refine ⟨?_, fun p hp => ?_, ?_⟩
        · show up2 h5.1 200 1 0 204 i = _
          rw [up2_n (by decide), wo 204 (by decide) (by decide) (by decide) (by decide)]
          exact d1
        · have hp' : p < (gT S i).1 := hp
          show up2 h5.1 200 1 0 201 _ = _
          rw [up2_n (by decide), w201 _ (by omega)]
          exact d2 p hp
        · show up2 h5.1 200 1 0 205 i = _
          rw [up2_n (by decide), wo 205 (by decide) (by decide) (by decide) (by decide)]
          exact d3
      · show up2 h5.1 200 1 0 219 = _
        rw [up2_n (by decide), wo 219 (by decide) (by decide) (by decide) (by decide)]
        exact b7
    refine ⟨0, H, (up2 h5.1 200 1 0, h5.2), dfS S j a (xB S (h1.1 102)), rfl, ?_, hw', CA_of (sC.tr (sC_I (by decide)) (sC.tr (sC_o200 o4) (sC.tr s45 (sC_I (by decide))))) hw' hcH, hm5⟩
    rw [em _ (hm2.2.2.1 j hj).1, if_neg (by rw [hz]; decide), if_neg hn1, if_pos hn3, show s_AdjoinedSetsModel_wrong 200 0 (nI j) (nI a) (up2 H.1 203 j (nI a), H.2) = some (-1, h4) from f4, ob_s]
    dsimp only
    rw [if_pos (by decide), show s_AdjoinedSetsModel_define_62 20000 200 (nI j) (-1) 0 h4 = _ from c1]
    unfold s_AdjoinedSetsModel_define_100
    rw [wI_200_1, ob_s, if_pos (by decide)]
