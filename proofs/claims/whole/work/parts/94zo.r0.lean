/-! Rule 0: the model's pile, and both. -/
def o8 (h h' : HP) : Prop := (∀ n, n ≠ 228 → h'.1 n = h.1 n) ∧ h'.2 = h.2
theorem o8.rf (h : HP) : o8 h h := ⟨fun _ _ => rfl, rfl⟩
theorem o8.tr {a b c : HP} (h1 : o8 a b) (h2 : o8 b c) : o8 a c := ⟨fun n a1 => (h2.1 n a1).trans (h1.1 n a1), h2.2.trans h1.2⟩
theorem o8_T {h h' : HP} (ho : o8 h h') : oT h h' := ⟨fun n _ _ _ a4 => ho.1 n a4, ho.2⟩
theorem o8_w {H : HP} {k : Nat} {v : Int32} : o8 H (up2 H.1 228 k v, H.2) := ⟨fun n hn => up2_n hn, rfl⟩
def b01 (b : Bool) : Int32 := if b = true then 1 else 0
theorem nar_b (b : Bool) : vp_nar .boolean (b01 b) = b01 b := by cases b <;> decide
theorem tb_s1 (x : Int32) {l : Nat} (hl : l < 8) : ((x >>> (nI l &&& 31)) &&& 1) = 1 ↔ tb x l = true := by
  have hs : ((nI l &&& 31).toBitVec.smod 32).toNat = l := (show ∀ l, l < 8 → ((nI l &&& 31).toBitVec.smod 32).toNat = l by decide) l hl
  rw [← Int32.toBitVec_inj, Int32.toBitVec_and, Int32.toBitVec_shiftRight, BitVec.sshiftRight_eq', hs]
  have e1 : (1 : Int32).toBitVec = BitVec.twoPow 32 0 := by decide
  rw [e1, BitVec.and_twoPow, BitVec.getLsbD_sshiftRight]
  have e2 : (decide (32 ≤ 0)) = false := by decide
  have e3 : l + 0 < 32 := by omega
  rw [e2, if_pos e3, Nat.add_zero]
  unfold tb
  cases x.toBitVec.getLsbD l with
  | true => exact ⟨fun _ => rfl, fun _ => rfl⟩
  | false => exact ⟨fun q => absurd q (by decide), fun q => Bool.noConfusion q⟩
theorem nI_m (n : Nat) : nI (n + 1) + (-1) = nI n := by
  have : nI (n + 1) - 1 = nI n := nI_pred n
  rw [← this, Int32.sub_eq_add_neg]
section
variable {K : Nat → Nat} {t E : Nat → Int32} {X : Int32}
/-- a token of a part -/
theorem h7_a {H : HP} {n k r l : Nat} (hn : n < 64) (hk : k < 64) (hl : l < 6) (ht : H.1 225 n = nI (1000 + l)) : s_AdjoinedSetsModel_holds_7 (r + 1) 200 X (nI k) (nI n) H = s_AdjoinedSetsModel_holds_7 r 200 X (nI (k + 1)) (nI n + (-1)) (up2 H.1 228 k (b01 (tb X l)), H.2) := by
  have e1 : nI (1000 + l) - 1000 = nI l := by
    rw [show (1000 : Int32) = nI 1000 from rfl, pk_sub (by omega), show 1000 + l - 1000 = l by omega]
  rw [s_AdjoinedSetsModel_holds_7]
  dsimp only
  unfold s_AdjoinedSetsModel_holds_53 s_AdjoinedSetsModel_holds_190
  rw [if_neg (nI_pos (by omega)), rR_200_32, ob_s, rA_225 hn, ob_s, ht, if_neg (show ¬ nI (1000 + l) < 1000 from nI_nlt (a := 1000 + l) (b := 1000) (by omega) (by omega)), rR_200_35, ob_s, e1, nI_1]
  cases hb : tb X l with
  | true =>
    rw [if_pos ((tb_s1 X (by omega)).mpr hb), nar1, wA_228 hk, ob_s]
    rfl
  | false =>
    rw [if_neg (fun z => by rw [(tb_s1 X (by omega)).mp z] at hb; cases hb), nar0, wA_228 hk, ob_s]
    rfl
theorem h7_n {H : HP} {n k r : Nat} {b : Bool} (hn : n < 64) (hk : k < 64) (ht : H.1 225 n = 33) (hb : H.1 228 k = b01 b) : s_AdjoinedSetsModel_holds_7 (r + 1) 200 X (nI (k + 1)) (nI n) H = s_AdjoinedSetsModel_holds_7 r 200 X (nI (k + 1)) (nI n + (-1)) (up2 H.1 228 k (b01 (!b)), H.2) := by
  rw [s_AdjoinedSetsModel_holds_7]
  dsimp only
  unfold s_AdjoinedSetsModel_holds_90 s_AdjoinedSetsModel_holds_190
  rw [if_neg (nI_pos (by omega)), rR_200_32, ob_s, rA_225 hn, ob_s, ht, if_pos (show (33 : Int32) < 1000 by decide), if_pos rfl, rR_200_35, ob_s, ob_s, nI_pred, rA_228 hk, ob_s, hb]
  cases b with
  | true =>
    rw [if_neg (show ¬ b01 true = 0 by decide), nar0, wA_228 hk, ob_s]
    rfl
  | false =>
    rw [if_pos (show b01 false = 0 by decide), nar1, wA_228 hk, ob_s]
    rfl
theorem h7_b {H : HP} {n k r : Nat} {c : Int32} {a b : Bool} (hn : n < 64) (hk : k + 1 < 64) (hc : c = 94 ∨ c = 118 ∨ c = 62) (ht : H.1 225 n = c) (ha : H.1 228 (k + 1) = b01 a) (hb : H.1 228 k = b01 b) : s_AdjoinedSetsModel_holds_7 (r + 1) 200 X (nI (k + 2)) (nI n) H = s_AdjoinedSetsModel_holds_7 r 200 X (nI (k + 1)) (nI n + (-1)) (up2 H.1 228 k (b01 (bop c a b)), H.2) := by
  have e1 : nI (k + 2) - 1 = nI (k + 1) := nI_pred (k + 1)
  have e2 : nI (k + 2) - 2 = nI k := by
    rw [show (2 : Int32) = nI 2 from rfl, pk_sub (by omega)]
    congr 1
  have e3 : nI (k + 2) + (-1) = nI (k + 1) := nI_m (k + 1)
  have e4 : nI (k + 1) - 1 = nI k := nI_pred k
  rw [s_AdjoinedSetsModel_holds_7]
  dsimp only
  unfold s_AdjoinedSetsModel_holds_145 s_AdjoinedSetsModel_holds_166 s_AdjoinedSetsModel_holds_184 s_AdjoinedSetsModel_holds_189 s_AdjoinedSetsModel_holds_190
  rw [if_neg (nI_pos (by omega)), rR_200_32, ob_s, rA_225 hn, ob_s, ht]
  rw [if_pos (show c < 1000 by rcases hc with rfl | rfl | rfl <;> decide), if_neg (show ¬ c = 33 by rcases hc with rfl | rfl | rfl <;> decide), rR_200_35, ob_s, e1, rA_228 hk, ob_s, ob_s, e2, rA_228 (show k < 64 by omega), ob_s, ob_s, ha, hb, e3, e4, nar0, nar1, wA_228 (show k < 64 by omega), wA_228 (show k < 64 by omega), ob_s, ob_s]
  unfold bop
  rcases hc with rfl | rfl | rfl
  · rw [if_pos rfl, if_pos rfl]
    cases a <;> cases b <;> rfl
  · rw [if_neg (show ¬ (118 : Int32) = 94 by decide), if_neg (show ¬ (118 : Int32) = 94 by decide), if_pos rfl, if_pos rfl]
    cases a <;> cases b <;> rfl
  · rw [if_neg (show ¬ (62 : Int32) = 94 by decide), if_neg (show ¬ (62 : Int32) = 94 by decide), if_neg (show ¬ (62 : Int32) = 118 by decide), if_neg (show ¬ (62 : Int32) = 118 by decide)]
    cases a <;> cases b <;> rfl
theorem m_hold {a : Nat → Nat} {c : Nat} (h6 : c ≤ 6) : ∀ (d p e n n' k : Nat) (H : HP), KD K t E d true p e → e ≤ 60 → TKP t E (H.1 225) a d p n n' → AS t E a c d p → n' ≤ 60 → k + (n' - n) ≤ 60 → ∃ H', o8 H H' ∧ (∀ i, i < k → H'.1 228 i = H.1 228 i) ∧ H'.1 228 k = b01 (TV t E a (fun l => tb X l) d p) ∧ ∀ r, s_AdjoinedSetsModel_holds_7 (r + (n' - n)) 200 X (nI k) (nI n' + (-1)) H = s_AdjoinedSetsModel_holds_7 r 200 X (nI (k + 1)) (nI n + (-1)) H' := by
  intro d
  induction d with
  | zero => intro p e n n' k H hK; exact absurd hK (fun z => z)
  | succ d ih =>
    intro p e n n' k H hK he hT hA hn' hk
    have hpe := KD_lt hK
    have hnn := TKP_lt _ _ _ _ hT
    rcases KD_f hK with ⟨hc1, k1⟩ | ⟨hc2, q, k1, k2⟩ | hna
    · rcases hT with ⟨_, z2, z3⟩ | ⟨z1, _⟩ | ⟨z1, _⟩
      · have l1 := TKP_lt _ _ _ _ z3
        obtain ⟨H1, o1, a1, a2, a3⟩ := ih (p + 1) e (n + 1) n' k H k1 he z3 (hA.1 hc1) hn' (by omega)
        have ht : H1.1 225 n = 33 := by rw [o1.1 225 (by decide)]; exact z2
        refine ⟨(up2 H1.1 228 k (b01 (!(TV t E a (fun l => tb X l) d (p + 1)))), H1.2), o1.tr o8_w, fun i hi => ?_, ?_, fun r => ?_⟩
        rotate_right
        · rw [show r + (n' - n) = (r + 1) + (n' - (n + 1)) by omega, a3, nI_m, h7_n (by omega) (by omega) ht a2]
        · show up2 H1.1 228 k (b01 (!(TV t E a (fun l => tb X l) d (p + 1)))) 228 i = _
          rw [u2_i (by omega)]
          exact a1 i hi
        · rw [TV_n hc1]
          exact u2_s
      · rw [hc1] at z1; exact absurd z1 (by decide)
      · exact absurd (Or.inl hc1) z1
    · have l1 := KD_lt k1
      have l2 := KD_lt k2
      have hcl : (E (p + 1)).toNatClampNeg = q := nI_cl (KD_end k1) (by omega)
      obtain ⟨A1, A2⟩ := hA.2.1 hc2
      rw [hcl] at A2
      rcases hT with ⟨z1, _⟩ | ⟨_, z2, m, z3, z4⟩ | ⟨z1, _⟩
      · rw [z1] at hc2; exact absurd hc2 (by decide)
      · have m1 := TKP_lt _ _ _ _ z3
        have m2 := TKP_lt _ _ _ _ z4
        rw [hcl] at z4
        obtain ⟨H1, o1, a1, a2, a3⟩ := ih q e m n' k H k2 he z4 A2 hn' (by omega)
        have z3' : TKP t E (H1.1 225) a d (p + 1) (n + 1) m := by rw [o1.1 225 (by decide)]; exact z3
        obtain ⟨H2, o2, b1, b2, b3⟩ := ih (p + 1) q (n + 1) m (k + 1) H1 k1 (by omega) z3' A1 (by omega) (by omega)
        have ht : H2.1 225 n = t p := by rw [o2.1 225 (by decide), o1.1 225 (by decide)]; exact z2
        have hg : H2.1 228 k = b01 (TV t E a (fun l => tb X l) d q) := by rw [b1 k (by omega)]; exact a2
        refine ⟨(up2 H2.1 228 k (b01 (bop (t p) (TV t E a (fun l => tb X l) d (p + 1)) (TV t E a (fun l => tb X l) d q))), H2.2), (o1.tr o2).tr o8_w, fun i hi => ?_, ?_, fun r => ?_⟩
        rotate_right
        · rw [show r + (n' - n) = ((r + 1) + (m - (n + 1))) + (n' - m) by omega, a3, b3, nI_m, h7_b (by omega) (by omega) hc2 ht b2 hg]
        · show up2 H2.1 228 k (b01 (bop (t p) (TV t E a (fun l => tb X l) d (p + 1)) (TV t E a (fun l => tb X l) d q))) 228 i = _
          rw [u2_i (by omega), b1 i (by omega)]
          exact a1 i hi
        · rw [TV_b hc2, hcl]
          exact u2_s
      · exact absurd (Or.inr hc2) z1
    · rcases hT with ⟨z1, _⟩ | ⟨z1, _⟩ | ⟨_, z2, z3⟩
      · exact absurd (Or.inl z1) hna
      · exact absurd (Or.inr z1) hna
      · subst z3
        have hal := hA.2.2 hna
        refine ⟨(up2 H.1 228 k (b01 (tb X (a p))), H.2), o8_w, fun i hi => ?_, ?_, fun r => ?_⟩
        rotate_right
        · rw [show r + (n + 1 - n) = r + 1 by omega, nI_m, h7_a (by omega) (by omega) (show a p < 6 by omega) z2]
        · show up2 H.1 228 k (b01 (tb X (a p))) 228 i = _
          rw [u2_i (by omega)]
        · rw [TV_a hna]
          exact u2_s
end
theorem m_t64 {K : Nat → Nat} {x : TX} {a : Nat → Nat} {c n' : Nat} (h60 : x.1 ≤ 60) (h6 : c ≤ 6) (hK : KD K x.2.1 x.2.2 12 true 0 x.1) (hA : AS x.2.1 x.2.2 a c 12 0) (hn' : n' ≤ 60) : ∀ (m y r : Nat) (H : HP), y + m = 64 → m < r → TKP x.2.1 x.2.2 (H.1 225) a 12 0 0 n' → ((∀ i, y ≤ i → i < 64 → TV x.2.1 x.2.2 a (fun l => tb (nI i) l) 12 0 = true) → ∃ H', s_AdjoinedSetsModel_isTautology_17 r 200 (nI n') 1 (nI y) H = some (1, H') ∧ o8 H H') ∧ (¬ (∀ i, y ≤ i → i < 64 → TV x.2.1 x.2.2 a (fun l => tb (nI i) l) 12 0 = true) → ∃ H', s_AdjoinedSetsModel_isTautology_17 r 200 (nI n') 1 (nI y) H = some (0, H') ∧ o8 H H') := by
  intro m
  induction m with
  | zero =>
    intro y r H h1 h2 _
    obtain ⟨r, rfl⟩ : ∃ r0, r = r0 + 1 := ⟨r - 1, by omega⟩
    refine ⟨fun _ => ⟨H, ?_, o8.rf H⟩, fun z => absurd (fun i h1 h2 => absurd h1 (by omega)) z⟩
    rw [s_AdjoinedSetsModel_isTautology_17]
    dsimp only
    rw [if_pos (show 64 ≤ nI y from nI_le (a := 64) (by omega) (by omega))]
    rfl
  | succ m ih =>
    intro y r H h1 h2 hT
    obtain ⟨r, rfl⟩ : ∃ r0, r = r0 + 1 := ⟨r - 1, by omega⟩
    have hnn := TKP_lt _ _ _ _ hT
    obtain ⟨H1, o1, _, a2, a3⟩ := m_hold (X := nI y) h6 12 0 x.1 0 n' 0 H hK h60 hT hA hn' (by omega)
    have hT1 : TKP x.2.1 x.2.2 (H1.1 225) a 12 0 0 n' := by rw [o1.1 225 (by decide)]; exact hT
    have e1 : s_AdjoinedSetsModel_holds 200 (nI n') (nI y) H = some (b01 (TV x.2.1 x.2.2 a (fun l => tb (nI y) l) 12 0), H1) := by
      unfold s_AdjoinedSetsModel_holds
      have e3 := a3 (20000 - n')
      rw [show 20000 - n' + (n' - 0) = 20000 by omega] at e3
      rw [Int32.sub_eq_add_neg, show s_AdjoinedSetsModel_holds_7 20000 200 (nI y) 0 (nI n' + (-1)) H = _ from e3, show 20000 - n' = (20000 - n' - 1) + 1 by omega, s_AdjoinedSetsModel_holds_7]
      dsimp only
      rw [if_pos (show nI 0 + (-1) < 0 by decide), rR_200_35, ob_s, show aI H1 228 5 0 = some (H1.1 228 0) from rA_228 (j := 0) (by omega), ob_s, a2]
      cases TV x.2.1 x.2.2 a (fun l => tb (nI y) l) 12 0 <;> rfl
    rw [s_AdjoinedSetsModel_isTautology_17]
    dsimp only
    rw [if_neg (show ¬ 64 ≤ nI y from nI_ge (b := 64) (by omega) (by omega)), if_neg (show ¬ (1 : Int32) = 0 by decide), rK_200, ob_s, e1, ob_s]
    dsimp only
    rw [nI_1]
    by_cases hV : TV x.2.1 x.2.2 a (fun l => tb (nI y) l) 12 0 = true
    · rw [hV, show b01 true = 1 from rfl]
      obtain ⟨i1, i2⟩ := ih (y + 1) r H1 (by omega) (by omega) hT1
      constructor
      · intro z
        obtain ⟨H', b1, b2⟩ := i1 (fun i z1 z2 => z i (by omega) z2)
        exact ⟨H', b1, o1.tr b2⟩
      · intro z
        obtain ⟨H', b1, b2⟩ := i2 (fun w => z (fun i z1 z2 => by
          by_cases hi : i = y
          · rw [hi]; exact hV
          · exact w i (by omega) z2))
        exact ⟨H', b1, o1.tr b2⟩
    · refine ⟨fun z => absurd (z y (Nat.le_refl _) (by omega)) hV, fun _ => ⟨H1, ?_, o1⟩⟩
      have hb : TV x.2.1 x.2.2 a (fun l => tb (nI y) l) 12 0 = false := by
        cases hq : TV x.2.1 x.2.2 a (fun l => tb (nI y) l) 12 0 with
        | true => exact absurd hq hV
        | false => rfl
      obtain ⟨r, rfl⟩ : ∃ r0, r = r0 + 1 := ⟨r - 1, by omega⟩
      rw [hb, show b01 false = 0 from rfl, s_AdjoinedSetsModel_isTautology_17]
      dsimp only
      rw [if_pos (show (0 : Int32) = 0 from rfl), ite_self]
      rfl
theorem tb_mod : ∀ c, c < 7 → ∀ i, i < 64 → ∀ l, l < c → tb (nI (i % 2 ^ c)) l = tb (nI i) l := by decide +kernel
theorem al_0 {S : SG} {E : Nat → Int32} {i j : Int32} (hw : WF S) (hK : KD (gK S) (gB S).2.1 E 12 true 0 (gB S).1) : ALR S E (nI 0) i j := by
  have hk3 : ∀ f, f < 4 → gK S f ≤ 3 := fun f hf => (hw.2.2.1 f hf).1
  have h60 := hw.1.1
  have lp := KD_lt hK
  have hG0 : GD (gK S) (gB S).2.1 E (gB S).1 (0, fun _ => 0, fun _ => 99) := ⟨Nat.zero_le _, fun k hk => absurd hk (by show ¬ k < 0; omega), fun k k' hk => absurd hk (by show ¬ k < 0; omega)⟩
  have ca : ∀ h, s_Rules_allow 6 (nI 0) i j h = (s_Rules_holdsForAllValues 6 h).bind wr := by
    intro h
    unfold s_Rules_allow
    rw [if_pos (show nI 0 = 0 from rfl), rK_6, ob_s]
    rfl
  have ma : ∀ h, s_AdjoinedSetsModel_allows 200 (nI 0) i j h = (s_AdjoinedSetsModel_isTautology 200 h).bind wr := by
    intro h
    unfold s_AdjoinedSetsModel_allows
    rw [if_pos (show nI 0 = 0 from rfl), rK_200, ob_s]
    rfl
  have cl := fun h (hc : CA S h) (hE : cE h 100 (xB S E)) => c_col (K := gK S) (x := xB S E) (fun p hp => hw.1.2 p hp) 12 0 (gB S).1 1 14 (0, fun _ => 0, fun _ => 99) (up2 h.1 6 8 0, h.2) (cT_R ⟨fun n a1 _ _ => up2_n a1, rfl⟩ hc.1) (cE_R ⟨fun n a1 _ _ => up2_n a1, rfl⟩ hE) ⟨(show up2 h.1 6 8 0 6 8 = nI 0 by rw [u2_s]; rfl), fun k hk => absurd hk (by show ¬ k < 0; omega), fun q _ z => absurd rfl z⟩ hG0 hK (Nat.le_refl _) (by omega) (by omega)
  have co : ∀ h, oR h (up2 h.1 6 8 0, h.2) := fun h => ⟨fun n a1 _ _ => up2_n a1, rfl⟩
  have ml := fun H (hm : MA S H) => m_tok (K := gK S) (x := xB S E) h60 hk3 12 0 (gB S).1 0 (0, fun _ => 0, fun _ => 99) H (by omega) hK (Nat.le_refl _) (Nat.le_refl _) hm.1.1 (fun p hp => hm.1.2 p hp) (fun f hf => (hm.2.2.1 f hf).1) (fun k hk => absurd hk (by show ¬ k < 0; omega)) hG0
  cases hW : WK (gB S).2.1 E 12 0 (0, fun _ => 0, fun _ => 99) with
  | none =>
    refine ⟨0, Or.inl rfl, fun h hc hE => ?_, fun H hm => ?_⟩
    · obtain ⟨h', e1, o1⟩ := (cl h hc hE).2 hW
      refine ⟨h', ?_, oR_kq ((co h).tr o1)⟩
      rw [ca]
      unfold s_Rules_holdsForAllValues
      rw [wI_6_8, ob_s, rK_6, ob_s, show s_grp_Rules_collectParts 14 6 0 1 (up2 h.1 6 8 0, h.2) = some (0, h') from e1, ob_s]
      dsimp only
      rw [if_pos rfl, ob_s]
      rfl
    · obtain ⟨H', o1, e1⟩ := (ml H hm).2 hW
      have e1 := e1 (20000 - (gB S).1)
      rw [show 20000 - (gB S).1 + ((gB S).1 - 0) = 20000 by omega] at e1
      refine ⟨H', ?_, MA_T o1 hm, sC_T o1⟩
      rw [ma]
      unfold s_AdjoinedSetsModel_isTautology s_AdjoinedSetsModel_tokenize s_AdjoinedSetsModel_isTautology_14
      rw [rK_200, ob_s, show s_AdjoinedSetsModel_tokenize_6 20000 200 0 0 0 H = some (-1, H') from e1, ob_s]
      dsimp only
      rw [if_pos (show (-1 : Int32) ≤ 0 by decide), show (20000 : Nat) = 19999 + 1 from rfl, s_AdjoinedSetsModel_isTautology_17]
      dsimp only
      rw [if_pos (show (0 : Int32) = 0 from rfl), ite_self]
      rfl
  | some s =>
    obtain ⟨hG, _, _, hA⟩ := WK_f (K := gK S) h60 _ _ _ _ _ hK (Nat.le_refl _) hG0 hW
    have g6 := hG.1
    have hcl : ∀ h, CA S h → cE h 100 (xB S E) → ∃ h', kq h h' ∧ ((∀ i, 0 ≤ i → i < 2 ^ s.1 → TV (gB S).2.1 E s.2.2 (fun l => tb (nI i) l) 12 0 = true) → s_Rules_holdsForAllValues 6 h = some (1, h')) ∧ (¬ (∀ i, 0 ≤ i → i < 2 ^ s.1 → TV (gB S).2.1 E s.2.2 (fun l => tb (nI i) l) 12 0 = true) → s_Rules_holdsForAllValues 6 h = some (0, h')) := by
      intro h hc hE
      obtain ⟨h', e1, hS, o1⟩ := (cl h hc hE).1 s hW
      have o2 := (co h).tr o1
      have hc' : cT h' 100 (xB S E) := cT_R o2 hc.1
      have hp : 2 ^ s.1 ≤ 64 := Nat.pow_le_pow_right (by decide) g6
      obtain ⟨i1, i2⟩ := c_all (K := gK S) (x := xB S E) hc' (cE_R o2 hE) hS g6 hK hA (2 ^ s.1) 0 20000 (by omega) (by omega)
      have e0 : s_Rules_holdsForAllValues 6 h = s_Rules_holdsForAllValues_18 20000 6 (nI 0) h' := by
        unfold s_Rules_holdsForAllValues
        rw [wI_6_8, ob_s, rK_6, ob_s, show s_grp_Rules_collectParts 14 6 0 1 (up2 h.1 6 8 0, h.2) = some (1, h') from e1, ob_s]
        dsimp only
        rw [if_neg (show ¬ (1 : Int32) = 0 by decide)]
        rfl
      exact ⟨h', oR_kq o2, fun z => e0.trans (i1 z), fun z => e0.trans (i2 z)⟩
    have hml : ∀ H, MA S H → ((∀ i, 0 ≤ i → i < 64 → TV (gB S).2.1 E s.2.2 (fun l => tb (nI i) l) 12 0 = true) → ∃ H', s_AdjoinedSetsModel_isTautology 200 H = some (1, H') ∧ oT H H') ∧ (¬ (∀ i, 0 ≤ i → i < 64 → TV (gB S).2.1 E s.2.2 (fun l => tb (nI i) l) 12 0 = true) → ∃ H', s_AdjoinedSetsModel_isTautology 200 H = some (0, H') ∧ oT H H') := by
      intro H hm
      obtain ⟨H', n', a1, a2, a3, _, a5, _, a7⟩ := (ml H hm).1 s hW
      have hsz : H'.1 200 1 = nI (gB S).1 := by rw [a3.1 200 (by decide) (by decide) (by decide) (by decide)]; exact hm.1.1
      have e1 : s_AdjoinedSetsModel_tokenize_6 20000 200 0 0 0 H = some (nI n', H') := by
        have e1 := a7 (20000 - n')
        rw [show 20000 - n' + (n' - 0) = 20000 by omega] at e1
        rw [show s_AdjoinedSetsModel_tokenize_6 20000 200 0 0 0 H = _ from e1, show 20000 - n' = (20000 - n' - 1) + 1 by omega, s_AdjoinedSetsModel_tokenize_6]
        dsimp only
        rw [rI_200_1, ob_s, hsz, if_pos (nI_le (Nat.le_refl _) (by omega))]
      obtain ⟨i1, i2⟩ := m_t64 (K := gK S) (x := xB S E) h60 g6 hK hA (n' := n') (by omega) 64 0 20000 H' (by omega) (by omega) a5
      have e0 : s_AdjoinedSetsModel_isTautology 200 H = s_AdjoinedSetsModel_isTautology_17 20000 200 (nI n') 1 (nI 0) H' := by
        unfold s_AdjoinedSetsModel_isTautology s_AdjoinedSetsModel_tokenize s_AdjoinedSetsModel_isTautology_14
        rw [rK_200, ob_s, e1, ob_s]
        dsimp only
        rw [if_neg (show ¬ nI n' ≤ 0 from nI_ge (a := 0) (by omega) (by omega))]
        rfl
      rw [e0]
      constructor
      · intro z
        obtain ⟨H2, b1, b2⟩ := i1 z
        exact ⟨H2, b1, a3.tr (o8_T b2)⟩
      · intro z
        obtain ⟨H2, b1, b2⟩ := i2 z
        exact ⟨H2, b1, a3.tr (o8_T b2)⟩
    have heq : (∀ i, 0 ≤ i → i < 2 ^ s.1 → TV (gB S).2.1 E s.2.2 (fun l => tb (nI i) l) 12 0 = true) ↔ (∀ i, 0 ≤ i → i < 64 → TV (gB S).2.1 E s.2.2 (fun l => tb (nI i) l) 12 0 = true) := by
      have hp : 2 ^ s.1 ≤ 64 := Nat.pow_le_pow_right (by decide) g6
      constructor
      · intro z i _ hi
        have hpos : 0 < 2 ^ s.1 := Nat.pow_pos (by decide)
        have := z (i % 2 ^ s.1) (Nat.zero_le _) (Nat.mod_lt _ hpos)
        rw [← this]
        exact TV_cg (K := gK S) (fun l hl => (tb_mod s.1 (by omega) i hi l hl).symm) 12 0 (gB S).1 hK h60 (fun _ _ _ => rfl) hA
      · intro z i h0 hi
        exact z i h0 (by omega)
    by_cases hP : ∀ i, 0 ≤ i → i < 64 → TV (gB S).2.1 E s.2.2 (fun l => tb (nI i) l) 12 0 = true
    · refine ⟨1, Or.inr rfl, fun h hc hE => ?_, fun H hm => ?_⟩
      · obtain ⟨h', k1, k2, _⟩ := hcl h hc hE
        exact ⟨h', by rw [ca, k2 (heq.mpr hP)]; rfl, k1⟩
      · obtain ⟨H', k1, k2⟩ := (hml H hm).1 hP
        exact ⟨H', by rw [ma, k1]; rfl, MA_T k2 hm, sC_T k2⟩
    · refine ⟨0, Or.inl rfl, fun h hc hE => ?_, fun H hm => ?_⟩
      · obtain ⟨h', k1, _, k2⟩ := hcl h hc hE
        exact ⟨h', by rw [ca, k2 (fun z => hP (heq.mp z))]; rfl, k1⟩
      · obtain ⟨H', k1, k2⟩ := (hml H hm).2 hP
        exact ⟨H', by rw [ma, k1]; rfl, MA_T k2 hm, sC_T k2⟩
