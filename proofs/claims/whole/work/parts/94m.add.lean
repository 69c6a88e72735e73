/-! prove: the new theorem. -/
def pvS (S : SG) (x : TX) (r : Int32) : SG := (e0, gVs S, gK S, gBd S, gC S + 1, (fun i => if i = gC S then x else gT S i), (fun i => if i = gC S then r else gRs S i))
def rsN (S : SG) (k : Nat) (i j : Int32) : Int32 := if k = 9 ∨ k = 12 then gRs S i.toNatClampNeg ||| gRs S j.toNatClampNeg else if k = 10 ∨ k = 11 then gRs S i.toNatClampNeg else 0
theorem WF_pv {S : SG} {x : TX} {r : Int32} (hw : WF S) (hc : gC S < 16) (hx : x.1 ≤ 60) (hok : ∀ p, p < x.1 → okC (x.2.1 p)) (hK : KD (gK S) x.2.1 x.2.2 12 true 0 x.1) : WF (pvS S x r) := by
  refine ⟨⟨Nat.zero_le _, fun p hp => absurd hp (by show ¬ p < 0; omega)⟩, hw.2.1, hw.2.2.1, (by show gC S + 1 ≤ 16; omega), fun i hi => ?_⟩
  have hi : i < gC S + 1 := hi
  show (if i = gC S then x else gT S i).1 ≤ 60 ∧ (∀ p, p < (if i = gC S then x else gT S i).1 → okC ((if i = gC S then x else gT S i).2.1 p)) ∧ KD (gK S) (if i = gC S then x else gT S i).2.1 (if i = gC S then x else gT S i).2.2 12 true 0 (if i = gC S then x else gT S i).1
  by_cases h : i = gC S
  · rw [if_pos h]
    exact ⟨hx, hok, hK⟩
  · rw [if_neg h]
    exact hw.2.2.2.2 i (by omega)
theorem thm_j {S : SG} {i : Int32} (hw : WF S) (h : thm S i) : ∃ m, m < gC S ∧ i = nI m := by
  have h16 := hw.2.2.2.1
  obtain ⟨m, hm, rfl⟩ := nI_of h.1
  refine ⟨m, ?_, rfl⟩
  apply Classical.byContradiction
  intro q
  exact h.2 (nI_le (by omega) hm)
theorem c_restR {S : SG} {h : HP} {k : Nat} {i j : Int32} (hw : WF S) (hc : CA S h) (hk : k < 18) (hv : vld S k i j) : s_AdjoinedSets_restsByRule 0 (nI k) i j h = some (rsN S k i j) := by
  have h16 := hw.2.2.2.1
  have ro : ∀ i, thm S i → s_Laws_restsOf 3 i h = some (gRs S i.toNatClampNeg) := by
    intro i hi
    obtain ⟨m, hm, rfl⟩ := thm_j hw hi
    unfold s_Laws_restsOf
    rw [rR_3_1, ob_s, rA_8 (by omega), ob_s, nI_clamp (by omega), (hc.2.2.2.2 m hm).2.2]
  have e32 : thm S i → thm S j → s_AdjoinedSets_restsByRule_32 0 i j h = some (gRs S i.toNatClampNeg ||| gRs S j.toNatClampNeg) := by
    intro a b
    unfold s_AdjoinedSets_restsByRule_32
    rw [rR_0_3, ob_s, rK_3, ob_s, ro i a, ob_s, ob_s, rK_3, ob_s, ro j b, ob_s]
  have e50 : thm S i → s_AdjoinedSets_restsByRule_50 0 i h = some (gRs S i.toNatClampNeg) := by
    intro a
    unfold s_AdjoinedSets_restsByRule_50
    rw [rR_0_3, ob_s, rK_3, ob_s, ro i a, ob_s]
  unfold s_AdjoinedSets_restsByRule rsN
  by_cases h9 : k = 9
  · rw [if_pos (show nI k = 9 by rw [h9]; rfl), if_pos (Or.inl h9)]
    exact e32 (hv.1 (by omega)) (hv.2.1 (by omega))
  rw [if_neg (show ¬ nI k = 9 from nk (m := 9) hk (by omega) h9)]
  by_cases h10 : k = 10
  · rw [if_pos (show nI k = 10 by rw [h10]; rfl), if_neg (by omega), if_pos (Or.inl h10)]
    exact e50 (hv.1 (by omega))
  rw [if_neg (show ¬ nI k = 10 from nk (m := 10) hk (by omega) h10)]
  by_cases h11 : k = 11
  · rw [if_pos (show nI k = 11 by rw [h11]; rfl), if_neg (by omega), if_pos (Or.inr h11)]
    exact e50 (hv.1 (by omega))
  rw [if_neg (show ¬ nI k = 11 from nk (m := 11) hk (by omega) h11)]
  by_cases h12 : k = 12
  · rw [if_pos (show nI k = 12 by rw [h12]; rfl), if_pos (Or.inr h12)]
    exact e32 (hv.1 (by omega)) (hv.2.1 (by omega))
  rw [if_neg (show ¬ nI k = 12 from nk (m := 12) hk (by omega) h12), if_neg (by omega), if_neg (by omega)]
/-- the class's new theorem -/
theorem c_addT {S : SG} {h : HP} {x : TX} {r : Int32} (hw : WF S) (hc : CA S h) (hc16 : gC S < 16) (hx : cT h 100 x) (hE : cE h 100 x) (hok : ∀ p, p < x.1 → okC (x.2.1 p)) : ∃ h', s_Laws_add 3 100 r h = some (nI (gC S), h') ∧ CA (pvS S x (r ||| bitI (gC S))) (up2 h'.1 100 2 0, h'.2) ∧ sM h h' := by
  have hT := isT_th hc16
  obtain ⟨h2, p1, p2, p3, p4, p5⟩ := c_copy hT (by omega) hx hE hok
  unfold s_Laws_add
  have hcnt := hc.2.2.2.1
  have e1 : h2.1 3 2 = nI (gC S) := by rw [p4 3 (by omega) (by omega) (by omega)]; exact hcnt
  rw [rI_3_2, ob_s, hcnt, if_pos (show nI (gC S) < 16 from nI_lt (b := 16) hc16 (by omega)), rR_3_0, ob_s, ob_s, rA_7 hc16, ob_s, t_kd hT, ob_s, p1, ob_s, rR_3_1, ob_s, rI_3_2, ob_s, e1, ob_s, wA_8 hc16, ob_s, rI_3_2, ob_s]
  have e2 : (up2 h2.1 8 (gC S) (r ||| (1 : Int32) <<< (nI (gC S) &&& 31)), h2.2).1 3 2 = nI (gC S) := by
    show up2 h2.1 8 (gC S) (r ||| (1 : Int32) <<< (nI (gC S) &&& 31)) 3 2 = _
    rw [up2_n (by decide)]
    exact e1
  rw [e2, nI_1, wI_3_2, ob_s, rI_3_2, ob_s]
  have e3 : (up2 (up2 h2.1 8 (gC S) (r ||| (1 : Int32) <<< (nI (gC S) &&& 31)), h2.2).1 3 2 (nI (gC S + 1)), (up2 h2.1 8 (gC S) (r ||| (1 : Int32) <<< (nI (gC S) &&& 31)), h2.2).2).1 3 2 = nI (gC S + 1) := by
    show up2 (up2 h2.1 8 (gC S) (r ||| (1 : Int32) <<< (nI (gC S) &&& 31))) 3 2 (nI (gC S + 1)) 3 2 = _
    exact u2_s
  rw [e3, nI_pred]
  obtain ⟨H, hH⟩ : ∃ H : HP, H = (up2 (up2 (up2 h2.1 8 (gC S) (r ||| (1 : Int32) <<< (nI (gC S) &&& 31)), h2.2).1 3 2 (nI (gC S + 1)), (up2 h2.1 8 (gC S) (r ||| (1 : Int32) <<< (nI (gC S) &&& 31)), h2.2).2).1 100 2 0, h2.2) := ⟨_, rfl⟩
  have n0 : ∀ m, m ≠ 100 → m ≠ 3 → m ≠ 8 → H.1 m = h2.1 m := by
    intro m z1 z2 z3
    rw [hH]
    show up2 (up2 (up2 h2.1 8 (gC S) (r ||| (1 : Int32) <<< (nI (gC S) &&& 31))) 3 2 (nI (gC S + 1))) 100 2 0 m = _
    rw [up2_n z1, up2_n z2, up2_n z3]
  have n1 : ∀ m, m ≠ 100 → m ≠ 3 → m ≠ 8 → m ≠ 118 + 3 * gC S → m ≠ 118 + 3 * gC S + 1 → m ≠ 118 + 3 * gC S + 2 → H.1 m = h.1 m := fun m z1 z2 z3 z4 z5 z6 => by rw [n0 m z1 z2 z3, p4 m z4 z5 z6]
  have n8 : ∀ i, H.1 8 i = if i = gC S then r ||| bitI (gC S) else h.1 8 i := by
    intro i
    rw [hH]
    show up2 (up2 (up2 h2.1 8 (gC S) (r ||| (1 : Int32) <<< (nI (gC S) &&& 31))) 3 2 (nI (gC S + 1))) 100 2 0 8 i = _
    rw [up2_n (by decide), up2_n (by decide)]
    by_cases hi : i = gC S
    · rw [hi, u2_s, if_pos rfl]
      rfl
    · rw [u2_i hi, if_neg hi, p4 8 (by omega) (by omega) (by omega)]
  have n3 : H.1 3 2 = nI (gC S + 1) := by
    rw [hH]
    show up2 (up2 (up2 h2.1 8 (gC S) (r ||| (1 : Int32) <<< (nI (gC S) &&& 31))) 3 2 (nI (gC S + 1))) 100 2 0 3 2 = _
    rw [up2_n (by decide)]
    exact u2_s
  have n100 : H.1 100 2 = 0 := by
    rw [hH]
    show up2 (up2 (up2 h2.1 8 (gC S) (r ||| (1 : Int32) <<< (nI (gC S) &&& 31))) 3 2 (nI (gC S + 1))) 100 2 0 100 2 = _
    exact u2_s
  have nJ : H.2 = h.2 := by rw [hH]; exact p5
  refine ⟨_, rfl, ?_, fun m hm => ⟨?_, by show h2.2.1 m = _; rw [p5]⟩⟩
  · show CA (pvS S x (r ||| bitI (gC S))) (up2 (up2 (up2 h2.1 8 (gC S) (r ||| (1 : Int32) <<< (nI (gC S) &&& 31))) 3 2 (nI (gC S + 1))) 100 2 0, h2.2)
    have hH2 : H = (up2 (up2 (up2 h2.1 8 (gC S) (r ||| (1 : Int32) <<< (nI (gC S) &&& 31))) 3 2 (nI (gC S + 1))) 100 2 0, h2.2) := hH
    rw [← hH2]
    obtain ⟨b1, b2, b3, b4, b5⟩ := hc
    refine ⟨cT_e0 n100, fun l hl => by rw [nJ]; exact b2 l hl, fun f hf => ?_, n3, fun i hi => ?_⟩
    · obtain ⟨c1, c2⟩ := b3 f hf
      refine ⟨by rw [n1 (17 + f) (by omega) (by omega) (by omega) (by omega) (by omega) (by omega)]; exact c1, fun q => ?_⟩
      obtain ⟨⟨⟨d1, d2, d3⟩, d4⟩, d5⟩ := c2 q
      exact ⟨⟨⟨d1, by rw [n1 (106 + 3 * f) (by omega) (by omega) (by omega) (by omega) (by omega) (by omega)]; exact d2, d3⟩, fun p hp => by rw [n1 (106 + 3 * f + 1) (by omega) (by omega) (by omega) (by omega) (by omega) (by omega)]; exact d4 p hp⟩, fun p hp => by rw [n1 (106 + 3 * f + 2) (by omega) (by omega) (by omega) (by omega) (by omega) (by omega)]; exact d5 p hp⟩
    · have hi : i < gC S + 1 := hi
      show cT H (118 + 3 * i) (if i = gC S then x else gT S i) ∧ cE H (118 + 3 * i) (if i = gC S then x else gT S i) ∧ H.1 8 i = (if i = gC S then r ||| bitI (gC S) else gRs S i)
      rw [n8]
      by_cases hic : i = gC S
      · subst hic
        rw [if_pos rfl, if_pos rfl, if_pos rfl]
        obtain ⟨⟨d1, d2, d3⟩, d4⟩ := p2
        exact ⟨⟨⟨d1, by rw [n0 _ (by omega) (by omega) (by omega)]; exact d2, d3⟩, fun p hp => by rw [n0 _ (by omega) (by omega) (by omega)]; exact d4 p hp⟩, fun p hp => by rw [n0 _ (by omega) (by omega) (by omega)]; exact p3 p hp, rfl⟩
      · rw [if_neg hic, if_neg hic, if_neg hic]
        obtain ⟨⟨⟨d1, d2, d3⟩, d4⟩, d5, d6⟩ := b5 i (by omega)
        exact ⟨⟨⟨d1, by rw [n1 _ (by omega) (by omega) (by omega) (by omega) (by omega) (by omega)]; exact d2, d3⟩, fun p hp => by rw [n1 _ (by omega) (by omega) (by omega) (by omega) (by omega) (by omega)]; exact d4 p hp⟩, fun p hp => by rw [n1 _ (by omega) (by omega) (by omega) (by omega) (by omega) (by omega)]; exact d5 p hp, d6⟩
  · show up2 (up2 h2.1 8 (gC S) (r ||| (1 : Int32) <<< (nI (gC S) &&& 31))) 3 2 (nI (gC S + 1)) m = h.1 m
    rw [up2_n (by omega), up2_n (by omega), p4 m (by omega) (by omega) (by omega)]
theorem m_pcopy {c0 n : Nat} {x2 x3 x4 x5 : Int32} (hj : c0 < 16) (hn : n ≤ 60) : ∀ (i c r : Nat) (H : HP), c + i = n → i < r → H.1 200 1 = nI n → ∃ H', s_AdjoinedSetsModel_prove_157 r 200 x2 x3 x4 x5 (nI c0) (nI c) H = s_AdjoinedSetsModel_prove_157 1 200 x2 x3 x4 x5 (nI c0) (nI n) H' ∧ (∀ m, m ≠ 201 → H'.1 m = H.1 m) ∧ H'.2 = H.2 ∧ (∀ q, q < 100 + 60 * c0 + c ∨ 100 + 60 * c0 + n ≤ q → H'.1 201 q = H.1 201 q) ∧ ∀ p, c ≤ p → p < n → H'.1 201 (100 + 60 * c0 + p) = H.1 201 p := by
  intro i
  induction i with
  | zero =>
    intro c r H h1 h2 h3
    obtain ⟨r, rfl⟩ : ∃ r0, r = r0 + 1 := ⟨r - 1, by omega⟩
    have hcn : c = n := by omega
    subst hcn
    refine ⟨H, ?_, fun _ _ => rfl, rfl, fun _ _ => rfl, fun p z1 z2 => absurd z1 (by omega)⟩
    rw [s_AdjoinedSetsModel_prove_157, s_AdjoinedSetsModel_prove_157]
    dsimp only
    rw [rI_200_1, ob_s, h3, if_pos (nI_le (Nat.le_refl _) (by omega)), ob_s, if_pos (nI_le (Nat.le_refl _) (by omega))]
  | succ i ih =>
    intro c r H h1 h2 h3
    obtain ⟨r, rfl⟩ : ∃ r0, r = r0 + 1 := ⟨r - 1, by omega⟩
    have e1 : (100 + (60 * nI c0)) + nI c = nI (100 + 60 * c0 + c) := by
      rw [show (100 : Int32) = nI 100 from rfl, show (60 : Int32) = nI 60 from rfl, pk_mul, nI_add, nI_add]
    by_cases hself : 100 + 60 * c0 + c < 0
    · omega
    obtain ⟨H', a1, a2, a3, a4, a5⟩ := ih (c + 1) r (up2 H.1 201 (100 + 60 * c0 + c) (H.1 201 c), H.2) (by omega) (by omega) (by show up2 H.1 201 (100 + 60 * c0 + c) (H.1 201 c) 200 1 = nI n; rw [up2_n (by decide)]; exact h3)
    refine ⟨H', ?_, fun m hm => ?_, a3, fun q hq => ?_, fun p z1 z2 => ?_⟩
    · rw [← a1, s_AdjoinedSetsModel_prove_157]
      dsimp only
      unfold s_AdjoinedSetsModel_theoremAt
      rw [rI_200_1, ob_s, h3, if_neg (nI_ge (by omega) (by omega)), rR_200_0, ob_s, rK_200, ob_s, ob_s, ob_s, rA_201 (by omega), ob_s, e1, wA_201 (by omega), ob_s, nI_1]
    · rw [a2 m hm]
      exact up2_n hm
    · rw [a4 q (by omega)]
      show up2 H.1 201 (100 + 60 * c0 + c) (H.1 201 c) 201 q = _
      rw [u2_i (by omega)]
    · by_cases hpc : p = c
      · rw [hpc, a4 _ (by omega)]
        show up2 H.1 201 (100 + 60 * c0 + c) (H.1 201 c) 201 (100 + 60 * c0 + c) = _
        exact u2_s
      · rw [a5 p (by omega) z2]
        show up2 H.1 201 (100 + 60 * c0 + c) (H.1 201 c) 201 p = _
        rw [u2_i (by omega)]
/-- the model's new theorem -/
theorem m_addT {S : SG} {H : HP} {E : Nat → Int32} {k : Nat} {i j : Int32} (hw : WF S) (hm : MA S H) (hc16 : gC S < 16) (hk : k < 18) (hv : vld S k i j) : ∃ H', s_AdjoinedSetsModel_prove_147 200 i j (fst1 k) (snd1 k) (nI (gC S)) H = some (nI (gC S), H') ∧ MA (pvS S (xB S E) (rsN S k i j ||| bitI (gC S))) H' ∧ sC H H' := by
  have h60 := hw.1.1
  unfold s_AdjoinedSetsModel_prove_147
  rw [if_neg (nI_pos (by omega))]
  obtain ⟨h5, c1, c2, c3, c4, c5⟩ := m_pcopy (x2 := i) (x3 := j) (x4 := fst1 k) (x5 := snd1 k) hc16 h60 (gB S).1 0 20000 H (by omega) (by omega) hm.1.1
  rw [show s_AdjoinedSetsModel_prove_157 20000 200 i j (fst1 k) (snd1 k) (nI (gC S)) 0 H = _ from c1, s_AdjoinedSetsModel_prove_157]
  dsimp only
  have s1 : h5.1 200 1 = nI (gB S).1 := by rw [c2 200 (by decide)]; exact hm.1.1
  rw [rI_200_1, ob_s, s1, if_pos (nI_le (Nat.le_refl _) (by omega)), rR_200_5, ob_s, ob_s, wA_204 hc16, ob_s, rR_200_6, ob_s]
  obtain ⟨h6, hh6⟩ : ∃ h6 : HP, h6 = (up2 h5.1 204 (gC S) (nI (gB S).1), h5.2) := ⟨_, rfl⟩
  rw [← hh6]
  have r6 : ∀ m, m ≠ 204 → h6.1 m = h5.1 m := by intro m hm; rw [hh6]; exact up2_n hm
  have rr : ∀ i, thm S i → aI h6 205 0 i = some (gRs S i.toNatClampNeg) := by
    intro i hi
    obtain ⟨m, hm1, rfl⟩ := thm_j hw hi
    rw [rA_205 (by omega), nI_clamp (by omega), r6 205 (by decide), c2 205 (by decide), (hm.2.2.2.2.1 m hm1).2.2]
  -- the last writes
  have e245 : ∀ a b, s_AdjoinedSetsModel_prove_245 200 (nI (gC S)) 205 (nI (gC S)) a b h6 = some (nI (gC S), (up2 (up2 (up2 h6.1 205 (gC S) (a ||| b)) 200 4 (nI (gC S + 1))) 200 1 0, h6.2)) := by
    intro a b
    unfold s_AdjoinedSetsModel_prove_245
    rw [wA_205 hc16, ob_s, rI_200_4, ob_s]
    have e4 : (up2 h6.1 205 (gC S) (a ||| b), h6.2).1 200 4 = nI (gC S) := by
      show up2 h6.1 205 (gC S) (a ||| b) 200 4 = _
      rw [up2_n (by decide), r6 200 (by decide), c2 200 (by decide)]
      exact hm.2.2.2.1
    rw [e4, nI_1, wI_200_4, ob_s, wI_200_1, ob_s]
  have hfin : ∃ v, ((if fst1 k = 0 then s_AdjoinedSetsModel_prove_229 200 j (snd1 k) (nI (gC S)) 205 (nI (gC S)) ((1 : Int32) <<< (nI (gC S) &&& 31)) 0 h6 else (some 205).bind fun v11 => (aI h6 v11 0 i).bind fun v13 => s_AdjoinedSetsModel_prove_229 200 j (snd1 k) (nI (gC S)) 205 (nI (gC S)) ((1 : Int32) <<< (nI (gC S) &&& 31)) v13 h6) = some (nI (gC S), (up2 (up2 (up2 h6.1 205 (gC S) v) 200 4 (nI (gC S + 1))) 200 1 0, h6.2))) ∧ v = (rsN S k i j ||| bitI (gC S)) := by
    have hb : (1 : Int32) <<< (nI (gC S) &&& 31) = bitI (gC S) := rfl
    have oz : ∀ a : Int32, a ||| 0 = a := fun a => Int32.or_zero
    unfold s_AdjoinedSetsModel_prove_229 fst1 snd1 rsN
    rw [hb]
    by_cases h2 : k = 9 ∨ k = 12
    · have hi := hv.1 (by omega)
      have hj := hv.2.1 h2
      rw [if_pos (show 9 ≤ k ∧ k ≤ 12 by omega), if_pos h2, if_neg (by decide), ob_s, rr i hi, ob_s, if_neg (by decide), rR_200_6, ob_s, rr j hj, ob_s, e245, if_pos h2]
      refine ⟨_, rfl, ?_⟩
      rw [Int32.or_comm (gRs S i.toNatClampNeg ||| gRs S j.toNatClampNeg), ← Int32.or_assoc]
    · rw [if_neg h2]
      by_cases h1 : k = 10 ∨ k = 11
      · have hi := hv.1 (by omega)
        rw [if_pos (show 9 ≤ k ∧ k ≤ 12 by omega), if_neg (by decide), ob_s, rr i hi, ob_s, if_pos rfl, e245, if_neg h2, if_pos h1]
        refine ⟨_, rfl, ?_⟩
        rw [oz, Int32.or_comm]
      · rw [if_neg (show ¬ (9 ≤ k ∧ k ≤ 12) by omega), if_pos rfl, if_pos rfl, e245, if_neg h2, if_neg h1]
        refine ⟨_, rfl, ?_⟩
        rw [oz, oz, Int32.or_comm, oz]
  obtain ⟨v, e1, e2⟩ := hfin
  rw [e1]
  refine ⟨_, rfl, ?_, ⟨fun m hm2 => ⟨?_, by show h6.2.1 m = _; rw [hh6]; show h5.2.1 m = _; rw [c3]⟩, by show h6.2.2 = _; rw [hh6]; show h5.2.2 = _; rw [c3]⟩⟩
  · obtain ⟨H2, hH2⟩ : ∃ H2 : HP, H2 = (up2 (up2 (up2 h6.1 205 (gC S) v) 200 4 (nI (gC S + 1))) 200 1 0, h6.2) := ⟨_, rfl⟩
    rw [← hH2]
    have w0 : ∀ m, m ≠ 200 → m ≠ 201 → m ≠ 204 → m ≠ 205 → H2.1 m = H.1 m := by
      intro m z0 z1 z2 z3
      rw [hH2]
      show up2 (up2 (up2 h6.1 205 (gC S) v) 200 4 (nI (gC S + 1))) 200 1 0 m = _
      rw [up2_n z0, up2_n z0, up2_n z3, r6 m z2, c2 m z1]
    have w201 : ∀ q, H2.1 201 q = h5.1 201 q := by
      intro q
      rw [hH2]
      show up2 (up2 (up2 h6.1 205 (gC S) v) 200 4 (nI (gC S + 1))) 200 1 0 201 q = _
      rw [up2_n (by decide), up2_n (by decide), up2_n (by decide), r6 201 (by decide)]
    have w204 : ∀ q, H2.1 204 q = if q = gC S then nI (gB S).1 else H.1 204 q := by
      intro q
      rw [hH2]
      show up2 (up2 (up2 h6.1 205 (gC S) v) 200 4 (nI (gC S + 1))) 200 1 0 204 q = _
      rw [up2_n (by decide), up2_n (by decide), up2_n (by decide), hh6]
      show up2 h5.1 204 (gC S) (nI (gB S).1) 204 q = _
      by_cases hq : q = gC S
      · rw [hq, u2_s, if_pos rfl]
      · rw [u2_i hq, if_neg hq, c2 204 (by decide)]
    have w205 : ∀ q, H2.1 205 q = if q = gC S then v else H.1 205 q := by
      intro q
      rw [hH2]
      show up2 (up2 (up2 h6.1 205 (gC S) v) 200 4 (nI (gC S + 1))) 200 1 0 205 q = _
      rw [up2_n (by decide), up2_n (by decide)]
      by_cases hq : q = gC S
      · rw [hq, u2_s, if_pos rfl]
      · rw [u2_i hq, if_neg hq, r6 205 (by decide), c2 205 (by decide)]
    obtain ⟨⟨b1, b2⟩, b3, b4, b5, b6, b7⟩ := hm
    refine ⟨⟨by rw [hH2]; show up2 (up2 (up2 h6.1 205 (gC S) v) 200 4 (nI (gC S + 1))) 200 1 0 200 1 = nI 0; exact u2_s, fun p hp => absurd hp (by show ¬ p < 0; omega)⟩, fun l hl => ?_, fun f hf => ?_, ?_, fun m hm2 => ?_, by rw [w0 219 (by decide) (by decide) (by decide) (by decide)]; exact b7⟩
    · rw [hH2]
      show h6.2.1 202 l = _
      rw [hh6]
      show h5.2.1 202 l = _
      rw [c3]
      exact b3 l hl
    · refine ⟨by rw [w0 203 (by decide) (by decide) (by decide) (by decide)]; exact (b4 f hf).1, fun q p hp => ?_⟩
      rw [w201, c4 _ (by omega)]
      exact (b4 f hf).2 q p hp
    · rw [hH2]
      show up2 (up2 (up2 h6.1 205 (gC S) v) 200 4 (nI (gC S + 1))) 200 1 0 200 4 = nI (gC S + 1)
      rw [u2_i (by decide)]
      exact u2_s
    · have hm2 : m < gC S + 1 := hm2
      show H2.1 204 m = nI (if m = gC S then xB S E else gT S m).1 ∧ mT H2 (100 + 60 * m) (if m = gC S then xB S E else gT S m) ∧ H2.1 205 m = (if m = gC S then (rsN S k i j ||| bitI (gC S)) else gRs S m)
      rw [w204, w205]
      by_cases hmc : m = gC S
      · subst hmc
        rw [if_pos rfl, if_pos rfl, if_pos rfl, if_pos rfl]
        refine ⟨rfl, fun p hp => ?_, e2⟩
        rw [w201, c5 p (by omega) hp]
        have := b2 p hp
        rw [Nat.zero_add] at this
        exact this
      · rw [if_neg hmc, if_neg hmc, if_neg hmc, if_neg hmc]
        obtain ⟨d1, d2, d3⟩ := b6 m (by omega)
        have ht60 := (hw.2.2.2.2 m (by omega)).1
        refine ⟨d1, fun p hp => ?_, d3⟩
        rw [w201, c4 _ (by omega)]
        exact d2 p hp
  · show up2 (up2 (up2 h6.1 205 (gC S) v) 200 4 (nI (gC S + 1))) 200 1 0 m = _
    rw [up2_n (by omega), up2_n (by omega), up2_n (by omega), r6 m (by omega), c2 m (by omega)]
