/-! Rule 12: the model. -/
def oS (H H' : HP) : Prop := (∀ n, n ≠ 200 → n ≠ 201 → ¬ (206 ≤ n ∧ n ≤ 211) → n ≠ 222 → n ≠ 223 → n ≠ 224 → H'.1 n = H.1 n) ∧ (∀ p, p < 1400 → H'.1 201 p = H.1 201 p) ∧ (∀ i, i ≠ 7 → H'.1 200 i = H.1 200 i) ∧ H'.2 = H.2
theorem oS.rf (H : HP) : oS H H := ⟨fun _ _ _ _ _ _ _ => rfl, fun _ _ => rfl, fun _ _ => rfl, rfl⟩
theorem oS.tr {a b c : HP} (h1 : oS a b) (h2 : oS b c) : oS a c := ⟨fun n a1 a2 a3 a4 a5 a6 => (h2.1 n a1 a2 a3 a4 a5 a6).trans (h1.1 n a1 a2 a3 a4 a5 a6), fun p hp => (h2.2.1 p hp).trans (h1.2.1 p hp), fun i hi => (h2.2.2.1 i hi).trans (h1.2.2.1 i hi), h2.2.2.2.trans h1.2.2.2⟩
theorem oS_24 {H H' : HP} (h : o24 H H') : oS H H' := ⟨fun n a1 _ a2 a3 a4 a5 => h.1 n a1 a2 a3 a4 a5, fun p _ => by rw [h.1 201 (by omega) (by omega) (by omega) (by omega) (by omega)], h.2.1, h.2.2⟩
theorem oS_w {H : HP} {p : Nat} {v : Int32} (hp : 1400 ≤ p) : oS H (up2 H.1 201 p v, H.2) := ⟨fun n _ a2 _ _ _ _ => up2_n a2, fun q hq => u2_i (by omega), fun i _ => up2_ne H.1 201 p 200 v i (by decide), rfl⟩
theorem mT_oS {H H' : HP} {o : Nat} {x : TX} (h : oS H H') (ho : o + x.1 ≤ 1400) (hc : mT H o x) : mT H' o x := fun p hp => by rw [h.2.1 (o + p) (by omega)]; exact hc p hp
theorem MA_oS {S : SG} {H H' : HP} (hw : WF S) (h : oS H H') (hm : MA S H) : MA S H' := by
  obtain ⟨⟨h1, h1b⟩, h2, h3, h4, h5, h6⟩ := hm
  have h60 := hw.1.1
  refine ⟨⟨by rw [h.2.2.1 1 (by decide)]; exact h1, mT_oS h (by omega) h1b⟩, fun j hj => by rw [h.2.2.2]; exact h2 j hj, fun f hf => ?_, by rw [h.2.2.1 4 (by decide)]; exact h4, fun i hi => ?_, by rw [h.1 219 (by omega) (by omega) (by omega) (by omega) (by omega) (by omega)]; exact h6⟩
  · obtain ⟨a, b⟩ := h3 f hf
    refine ⟨by rw [h.1 203 (by omega) (by omega) (by omega) (by omega) (by omega) (by omega)]; exact a, fun q => ?_⟩
    have := ((hw.2.2.1 f hf).2 q).1
    exact mT_oS h (by omega) (b q)
  · obtain ⟨a, b, c⟩ := h5 i hi
    have := (hw.2.2.2.2 i hi).1
    have := hw.2.2.2.1
    exact ⟨by rw [h.1 204 (by omega) (by omega) (by omega) (by omega) (by omega) (by omega)]; exact a, mT_oS h (by omega) b, by rw [h.1 205 (by omega) (by omega) (by omega) (by omega) (by omega) (by omega)]; exact c⟩
theorem sC_oS {H H' : HP} (h : oS H H') : sC H H' := ⟨fun n hn => ⟨h.1 n (by omega) (by omega) (by omega) (by omega) (by omega) (by omega), by rw [h.2.2.2]⟩, by rw [h.2.2.2]⟩
section
variable {S : SG} {E : Nat → Int32} {a b : Nat} {F : Int32}
/-- one question of the model -/
theorem m_ask {H : HP} {xt xw : TX} {ot ow x we dw q e2 d2 : Nat} (hw : WF S) (hK : KD (gK S) (gB S).2.1 E 12 true 0 (gB S).1) (hm : MA S H) (hz : ∀ l, l < 8 → l ≠ x → H.1 223 l = 0) (hx : x < 8) (ht : mT H ot xt) (t60 : xt.1 ≤ 60) (hot : ot ≤ 1360) (hu : mT H ow xw) (u60 : xw.1 ≤ 60) (how : ow ≤ 1430) (hd : dw ≤ 12) (hwe : we ≤ xw.1) (hKw : KD (gK S) xw.2.1 xw.2.2 dw false 0 we) (hKt : KD (gK S) xt.2.1 xt.2.2 d2 true q e2) (he2 : e2 ≤ xt.1) : ∃ H1, s_AdjoinedSetsModel_replace 200 (nI x) (nI (ow + 0)) H = some H1 ∧ o24 H H1 ∧ (∀ l, l < 8 → l ≠ x → H1.1 223 l = 0) ∧ ∃ H2, o24 H1 H2 ∧ (∀ l, l < 8 → l ≠ x → H2.1 223 l = 0) ∧ (P12 S E xt xw x we dw q → s_AdjoinedSetsModel_replaced 200 0 (nI (ot + q)) H1 = some (nI (ot + e2), H2)) ∧ (¬ P12 S E xt xw x we dw q → s_AdjoinedSetsModel_replaced 200 0 (nI (ot + q)) H1 = some (-1, H2)) := by
  have hk3 : ∀ f, f < 4 → gK S f ≤ 3 := fun f hf => (hw.2.2.1 f hf).1
  have h60 := hw.1.1
  obtain ⟨H1, e1, r1, r2, r3, r4, r5⟩ := m_rep (K := gK S) (H := H) (ow := ow) (l := x) (w := 0) (we := we) (dw := dw) (xw := xw) hx hu how u60 (fun f hf => (hm.2.2.1 f hf).1) hk3 hd hKw hwe
  have m1 := MA_24 r5 hm
  have hz1 : ∀ l, l < 8 → l ≠ x → H1.1 223 l = 0 := fun l hl hlx => by rw [(r4 l hlx).2.1]; exact hz l hl hlx
  have RMh : RM (gK S) H1 0 ot ow (xB S E) xt xw (fun j => decide (j = x)) (fun _ => 0) (fun _ => we) (fun _ => dw) := by
    refine ⟨fun p hp => m1.1.2 p hp, mT_24 r5 ht, mT_24 r5 hu, h60, t60, u60, by omega, hot, how, fun l hl hrl => ?_, fun l hl hrl => ?_, hk3⟩
    · have hl' : l = x := of_decide_eq_true hrl
      rw [hl']
      exact ⟨r1, r2, r3, hwe, hKw⟩
    · exact hz1 l hl (of_decide_eq_false hrl)
  obtain ⟨Pp, A, B, g1, g2⟩ := m_replaced RMh (fun f hf => (m1.2.2.1 f hf).1) (Nat.le_refl 12) hK (Nat.le_refl _) hKt he2
  exact ⟨H1, e1, r5, hz1, sw H1 0 Pp A B, o24_sw, hz1, g1, g2⟩
theorem w_201 {H : HP} {p : Nat} {v : Int32} (hp : p < 1500) : uI H 201 0 (nI p) v = some (up2 H.1 201 p v, H.2) := wA_201 hp
def D12 (S : SG) (b : Nat) : Prop := (gT S b).2.1 0 = 62 ∧ eqt (gT S b).1 (gT S b).2.1 1 (gB S).2.1 0 (gB S).1
theorem D12_K (hw : WF S) (hK : KD (gK S) (gB S).2.1 E 12 true 0 (gB S).1) (hb : b < gC S) (hD : D12 S b) : KD (gK S) (gT S b).2.1 (gT S b).2.2 11 true (1 + (gB S).1) (gT S b).1 := by
  have hKb := (hw.2.2.2.2 b hb).2.2
  obtain ⟨h0, he⟩ := hD
  rcases hKb.2.2 with ⟨z, _⟩ | ⟨z, _⟩ | ⟨_, q, k1, k2⟩ | ⟨z, _⟩
  · rw [h0] at z; exact absurd z (by decide)
  · rw [h0] at z; exact absurd z (by decide)
  · have l1 := KD_lt k1
    have := KD_pre _ _ _ _ _ _ _ hK k1 (fun k z1 z2 => (he k (by omega)).2.symm)
    rw [show 1 + (gB S).1 = q by omega]
    exact k2
  · rw [h0] at z; exact absurd z (by decide)
theorem m_ind {H : HP} {x y : Nat} (hw : WF S) (hK : KD (gK S) (gB S).2.1 E 12 true 0 (gB S).1) (ha : a < gC S) (hb : b < gC S) (hx : x < 8) (hy : y < 8) (hm : MA S H) : ∃ H', oS H H' ∧ (P12 S E (gT S a) z0 x 1 1 0 ∧ D12 S b ∧ P12 S E (gT S b) (zA x y) x 3 2 (1 + (gB S).1) → s_AdjoinedSetsModel_isInduction 200 (nI a) (nI b) (nI x) (nI y) H = some (1, H')) ∧ (¬ (P12 S E (gT S a) z0 x 1 1 0 ∧ D12 S b ∧ P12 S E (gT S b) (zA x y) x 3 2 (1 + (gB S).1)) → s_AdjoinedSetsModel_isInduction 200 (nI a) (nI b) (nI x) (nI y) H = some (0, H')) := by
  have h60 := hw.1.1
  have h16 := hw.2.2.2.1
  have a60 := (hw.2.2.2.2 a ha).1
  have b60 := (hw.2.2.2.2 b hb).1
  have hKa := (hw.2.2.2.2 a ha).2.2
  have hKb := (hw.2.2.2.2 b hb).2.2
  have bn := KD_2 hKb
  have w : ∀ z, 97 + nI z = nI (97 + z) := fun z => by rw [show (97 : Int32) = nI 97 from rfl, nI_add]
  -- the scratch
  obtain ⟨H4, e4, o4, s1, s2⟩ : ∃ H4, (∀ f : HP → Option (Int32 × HP), ((uI H 201 0 1400 48).bind fun h3 => (uI h3 201 0 1401 43).bind fun h7 => (uI h7 201 0 1402 (97 + nI x)).bind fun h11 => (uI h11 201 0 1403 (97 + nI y)).bind fun h15 => f h15) = f H4) ∧ oS H H4 ∧ mT H4 1400 z0 ∧ mT H4 1401 (zA x y) := by
    have q1 := fun H v => w_201 (H := H) (p := 1400) (v := v) (by omega)
    have q2 := fun H v => w_201 (H := H) (p := 1401) (v := v) (by omega)
    have q3 := fun H v => w_201 (H := H) (p := 1402) (v := v) (by omega)
    have q4 := fun H v => w_201 (H := H) (p := 1403) (v := v) (by omega)
    refine ⟨(up2 (up2 (up2 (up2 H.1 201 1400 48) 201 1401 43) 201 1402 (nI (97 + x))) 201 1403 (nI (97 + y)), H.2), fun f => ?_, ?_, fun p hp => ?_, fun p hp => ?_⟩
    · rw [show uI H 201 0 1400 48 = _ from q1 H 48, ob_s, show ∀ H v, uI H 201 0 1401 v = _ from q2, ob_s, w, show ∀ H v, uI H 201 0 1402 v = _ from q3, ob_s, w, show ∀ H v, uI H 201 0 1403 v = _ from q4, ob_s]
    · exact (((oS_w (p := 1400) (v := 48) (by omega)).tr (oS_w (H := (up2 H.1 201 1400 48, H.2)) (p := 1401) (v := 43) (by omega))).tr (oS_w (H := (up2 (up2 H.1 201 1400 48) 201 1401 43, H.2)) (p := 1402) (v := nI (97 + x)) (by omega))).tr (oS_w (H := (up2 (up2 (up2 H.1 201 1400 48) 201 1401 43) 201 1402 (nI (97 + x)), H.2)) (p := 1403) (v := nI (97 + y)) (by omega))
    · have hp : p < 1 := hp
      obtain rfl : p = 0 := by omega
      show up2 (up2 (up2 (up2 H.1 201 1400 48) 201 1401 43) 201 1402 (nI (97 + x))) 201 1403 (nI (97 + y)) 201 1400 = 48
      rw [u2_i (by omega), u2_i (by omega), u2_i (by omega), u2_s]
    · have hp : p < 3 := hp
      obtain rfl | rfl | rfl : p = 0 ∨ p = 1 ∨ p = 2 := by omega
      · show up2 (up2 (up2 (up2 H.1 201 1400 48) 201 1401 43) 201 1402 (nI (97 + x))) 201 1403 (nI (97 + y)) 201 1401 = 43
        rw [u2_i (by omega), u2_i (by omega), u2_s]
      · show up2 (up2 (up2 (up2 H.1 201 1400 48) 201 1401 43) 201 1402 (nI (97 + x))) 201 1403 (nI (97 + y)) 201 1402 = nI (97 + x)
        rw [u2_i (by omega), u2_s]
      · show up2 (up2 (up2 (up2 H.1 201 1400 48) 201 1401 43) 201 1402 (nI (97 + x))) 201 1403 (nI (97 + y)) 201 1403 = nI (97 + y)
        rw [u2_s]
  have m4 := MA_oS hw o4 hm
  obtain ⟨H5, e5, z5, o5⟩ := m_noR H4
  have m5 := MA_24 o5 m4
  obtain ⟨H6, e6, o6, z6, H7, o7, z7, p1, p2⟩ := m_ask (E := E) (x := x) (we := 1) (dw := 1) hw hK m5 (fun l hl _ => z5 l hl) hx (m5.2.2.2.2.1 a ha).2.1 a60 (by omega) (mT_24 o5 s1) (by decide) (by omega) (by omega) (Nat.le_refl _) KD_z0 hKa (Nat.le_refl _)
  have m7 := MA_24 o7 (MA_24 o6 m5)
  have oA := o4.tr (oS_24 (o5.tr (o6.tr o7)))
  have e0 : s_AdjoinedSetsModel_isInduction 200 (nI a) (nI b) (nI x) (nI y) H = (s_AdjoinedSetsModel_replaced 200 0 (nI (100 + 60 * a)) H6).bind fun q30 => (gR q30.2 200 9 5).bind fun v32 => (aI q30.2 v32 0 (nI a)).bind fun v34 => if q30.1 = (nI (100 + 60 * a) + v34) then ((s_AdjoinedSetsModel_replace 200 (nI x) 1401 q30.2).bind fun q37 => (gR q37 200 9 0).bind fun v39 => (aI q37 v39 0 (nI (100 + 60 * b))).bind fun v41 => if v41 = 62 then ((gR q37 200 9 5).bind fun v44 => (aI q37 v44 0 (nI b)).bind fun v46 => (gI q37 200 9 1).bind fun v48 => if v46 ≤ v48 then some (0, q37) else ((gI q37 200 9 1).bind fun v51 => (s_AdjoinedSetsModel_isSame 200 (nI (100 + 60 * b) + 1) 0 v51 q37).bind fun q54 => if q54 = 0 then some (0, q37) else ((gI q37 200 9 1).bind fun v57 => (s_AdjoinedSetsModel_replaced 200 0 ((nI (100 + 60 * b) + 1) + v57) q37).bind fun q60 => (gR q60.2 200 9 5).bind fun v62 => (aI q60.2 v62 0 (nI b)).bind fun v64 => if q60.1 = (nI (100 + 60 * b) + v64) then some (1, q60.2) else some (0, q60.2)))) else some (0, q37)) else some (0, q30.2) := by
    unfold s_AdjoinedSetsModel_isInduction
    simp only [rR_200_0, ob_s, rK_200, thAt]
    rw [e4, e5, ob_s, show s_AdjoinedSetsModel_replace 200 (nI x) 1400 H5 = some H6 from e6, ob_s]
  rw [e0]
  have h204 : ∀ {H'}, MA S H' → ∀ c, c < gC S → aI H' 204 0 (nI c) = some (nI (gT S c).1) := fun hm' c hc => by rw [rA_204 (by omega), (hm'.2.2.2.2.1 c hc).1]
  by_cases hP0 : P12 S E (gT S a) z0 x 1 1 0
  rotate_left
  · rw [show s_AdjoinedSetsModel_replaced 200 0 (nI (100 + 60 * a)) H6 = _ from p2 hP0, ob_s]
    dsimp only
    rw [rR_200_5, ob_s, h204 m7 a ha, ob_s, nI_add, if_neg (nI_m1 (by omega))]
    exact ⟨H7, oA, fun z => absurd z.1 hP0, fun _ => rfl⟩
  rw [show s_AdjoinedSetsModel_replaced 200 0 (nI (100 + 60 * a)) H6 = _ from p1 hP0, ob_s]
  dsimp only
  rw [rR_200_5, ob_s, h204 m7 a ha, ob_s, nI_add, if_pos rfl]
  have s2' : mT H7 1401 (zA x y) := mT_24 o7 (mT_24 o6 (mT_24 o5 s2))
  -- replacing anew: its memory
  obtain ⟨H8, e8, r1, r2, r3, r4, o8⟩ := m_rep (K := gK S) (H := H7) (ow := 1401) (l := x) (w := 0) (we := 3) (dw := 2) (xw := zA x y) hx s2' (by omega) (by show 3 ≤ 60; omega) (fun f hf => (m7.2.2.1 f hf).1) (fun f hf => (hw.2.2.1 f hf).1) (by omega) (KD_zA hx hy) (Nat.le_refl _)
  have m8 := MA_24 o8 m7
  have oB := oA.tr (oS_24 o8)
  obtain ⟨mb1, mb2, _⟩ := m8.2.2.2.2.1 b hb
  rw [show s_AdjoinedSetsModel_replace 200 (nI x) 1401 H7 = some H8 from e8, ob_s, rR_200_0, ob_s, rA_201 (by omega), ob_s, show H8.1 201 (100 + 60 * b) = (gT S b).2.1 0 from mb2 0 (by omega)]
  by_cases h62 : (gT S b).2.1 0 = 62
  rotate_left
  · rw [if_neg h62]
    exact ⟨H8, oB, fun z => absurd z.2.1.1 h62, fun _ => rfl⟩
  rw [if_pos h62, rR_200_5, ob_s, h204 m8 b hb, ob_s, rI_200_1, ob_s, m8.1.1]
  by_cases hsz : (gT S b).1 ≤ (gB S).1
  · rw [if_pos (nI_le hsz (by omega))]
    refine ⟨H8, oB, fun z => ?_, fun _ => rfl⟩
    have hKG := D12_K hw hK hb z.2.1
    have := KD_lt hKG
    omega
  rw [if_neg (nI_ge (by omega) (by omega)), ob_s, nI_1]
  have g2 := m_sm2 mb2 m8.1.2 (a := 1) (f := 0) (m := (gB S).1) (by omega) (by omega) (by omega) (by omega)
  by_cases heq : eqt (gT S b).1 (gT S b).2.1 1 (gB S).2.1 0 (gB S).1
  rotate_left
  · rw [show s_AdjoinedSetsModel_isSame 200 (nI (100 + 60 * b + 1)) 0 (nI (gB S).1) H8 = some 0 from g2.2 heq, ob_s, if_pos rfl]
    exact ⟨H8, oB, fun z => absurd z.2.1.2 heq, fun _ => rfl⟩
  have hD : D12 S b := ⟨h62, heq⟩
  have hKG := D12_K hw hK hb hD
  rw [show s_AdjoinedSetsModel_isSame 200 (nI (100 + 60 * b + 1)) 0 (nI (gB S).1) H8 = some 1 from g2.1 heq, ob_s, if_neg (by decide), ob_s, nI_add, show 100 + 60 * b + 1 + (gB S).1 = 100 + 60 * b + (1 + (gB S).1) by omega]
  obtain ⟨H8', e8', _, _, H9, o9, _, u1, u2⟩ := m_ask (E := E) (x := x) (we := 3) (dw := 2) hw hK m7 z7 hx (m7.2.2.2.2.1 b hb).2.1 b60 (by omega) s2' (by show 3 ≤ 60; omega) (by omega) (by omega) (Nat.le_refl _) (KD_zA hx hy) hKG (Nat.le_refl _)
  obtain rfl : H8 = H8' := Option.some.inj (e8.symm.trans e8')
  have m9 := MA_24 o9 m8
  by_cases hP1 : P12 S E (gT S b) (zA x y) x 3 2 (1 + (gB S).1)
  · rw [u1 hP1, ob_s]
    dsimp only
    rw [rR_200_5, ob_s, h204 m9 b hb, ob_s, nI_add, if_pos rfl]
    exact ⟨H9, oB.tr (oS_24 o9), fun _ => rfl, fun z => absurd ⟨hP0, hD, hP1⟩ z⟩
  · rw [u2 hP1, ob_s]
    dsimp only
    rw [rR_200_5, ob_s, h204 m9 b hb, ob_s, nI_add, if_neg (nI_m1 (by omega))]
    exact ⟨H9, oB.tr (oS_24 o9), fun z => absurd z.2.2 hP1, fun _ => rfl⟩
end
