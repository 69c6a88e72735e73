/-! Rule 0: the model's tokens of a formula, and how they are worked out. -/
section
variable {K : Nat → Nat} {x : TX}
theorem tk_c {H : HP} {n c p r : Nat} {ch : Int32} (hsz : H.1 200 1 = nI x.1) (h60 : x.1 ≤ 60) (hx : mT H 0 x) (hp : p < x.1) (hn : n < 60) (hch : x.2.1 p = ch) (hc : ch = 33 ∨ ch = 94 ∨ ch = 118 ∨ ch = 62) : s_AdjoinedSetsModel_tokenize_6 (r + 1) 200 (nI n) (nI c) (nI p) H = s_AdjoinedSetsModel_tokenize_6 r 200 (nI (n + 1)) (nI c) (nI (p + 1)) (up2 H.1 225 n ch, H.2) := by
  have h201 : H.1 201 p = ch := by rw [← hch, ← hx p hp, Nat.zero_add]
  rw [s_AdjoinedSetsModel_tokenize_6]
  dsimp only
  unfold s_AdjoinedSetsModel_tokenize_50 s_AdjoinedSetsModel_tokenize_180
  rw [rI_200_1, ob_s, hsz, if_neg (nI_ge hp (by omega)), rR_200_0, ob_s, rA_201 (by omega), ob_s, h201, rR_200_32, ob_s, wA_225 (by omega), ob_s, nI_1, nI_1]
  rcases hc with rfl | rfl | rfl | rfl
  · rw [if_pos rfl]
  · rw [if_neg (by decide), if_pos rfl]
  · rw [if_neg (by decide), if_neg (by decide), if_pos rfl]
  · rw [if_neg (by decide), if_neg (by decide), if_neg (by decide), if_pos rfl]
theorem tk_a {H : HP} {n c p e r d : Nat} (hsz : H.1 200 1 = nI x.1) (h60 : x.1 ≤ 60) (hx : mT H 0 x) (hKm : ∀ f, f < 4 → H.1 203 f = nI (K f)) (hK3 : ∀ f, f < 4 → K f ≤ 3) (hd : d ≤ 12) (hK : KD K x.2.1 x.2.2 d true p e) (he : e ≤ x.1) (hna : ¬ (x.2.1 p = 33 ∨ x.2.1 p = 94 ∨ x.2.1 p = 118 ∨ x.2.1 p = 62)) : s_AdjoinedSetsModel_tokenize_6 (r + 1) 200 (nI n) (nI c) (nI p) H = s_AdjoinedSetsModel_tokenize_79 (s_AdjoinedSetsModel_tokenize_6 r) 20000 200 (nI n) (nI c) (nI p) (nI (e - p)) (-1) 0 H := by
  have lp := KD_lt hK
  have h201 : H.1 201 p = x.2.1 p := by rw [← hx p (by omega), Nat.zero_add]
  have hE := m_endOf (o := 0) hKm hx (by omega) h60 hK3 hd hK he
  rw [Nat.zero_add, Nat.zero_add] at hE
  rw [s_AdjoinedSetsModel_tokenize_6]
  dsimp only
  rw [rI_200_1, ob_s, hsz, if_neg (nI_ge (by omega) (by omega)), rR_200_0, ob_s, rA_201 (by omega), ob_s, h201, if_neg (fun z => hna (Or.inl z)), if_neg (fun z => hna (Or.inr (Or.inl z))), if_neg (fun z => hna (Or.inr (Or.inr (Or.inl z)))), if_neg (fun z => hna (Or.inr (Or.inr (Or.inr z)))), rK_200, ob_s, hE, ob_s, pk_sub (by omega)]
theorem m_tok (h60 : x.1 ≤ 60) (hK3 : ∀ f, f < 4 → K f ≤ 3) : ∀ (d p e n : Nat) (s : ST) (H : HP), d ≤ 12 → KD K x.2.1 x.2.2 d true p e → e ≤ x.1 → n ≤ p → H.1 200 1 = nI x.1 → mT H 0 x → (∀ f, f < 4 → H.1 203 f = nI (K f)) → MS x.2.2 H s → GD K x.2.1 x.2.2 x.1 s → (∀ s', WK x.2.1 x.2.2 d p s = some s' → ∃ H' n', n < n' ∧ n' ≤ n + (e - p) ∧ oT H H' ∧ MS x.2.2 H' s' ∧ TKP x.2.1 x.2.2 (H'.1 225) s'.2.2 d p n n' ∧ (∀ i, i < n → H'.1 225 i = H.1 225 i) ∧ ∀ r, s_AdjoinedSetsModel_tokenize_6 (r + (n' - n)) 200 (nI n) (nI s.1) (nI p) H = s_AdjoinedSetsModel_tokenize_6 r 200 (nI n') (nI s'.1) (nI e) H') ∧ (WK x.2.1 x.2.2 d p s = none → ∃ H', oT H H' ∧ ∀ r, s_AdjoinedSetsModel_tokenize_6 (r + (e - p)) 200 (nI n) (nI s.1) (nI p) H = some (-1, H')) := by
  intro d
  induction d with
  | zero => intro p e n s H _ hK; exact absurd hK (fun z => z)
  | succ d ih =>
    intro p e n s H hd hK he hnp hsz hx hKm hS hG
    have hpe := KD_lt hK
    have tr : ∀ {H H' : HP}, oT H H' → H.1 200 1 = nI x.1 → mT H 0 x → (∀ f, f < 4 → H.1 203 f = nI (K f)) → H'.1 200 1 = nI x.1 ∧ mT H' 0 x ∧ ∀ f, f < 4 → H'.1 203 f = nI (K f) := by
      intro H H' ho a1 a2 a3
      refine ⟨by rw [ho.1 200 (by decide) (by decide) (by decide) (by decide)]; exact a1, fun p hp => by rw [ho.1 201 (by decide) (by decide) (by decide) (by decide)]; exact a2 p hp, fun f hf => by rw [ho.1 203 (by decide) (by decide) (by decide) (by decide)]; exact a3 f hf⟩
    have oc : ∀ ch, oT H (up2 H.1 225 n ch, H.2) := fun ch => ⟨fun m a1 _ _ _ => up2_n a1, rfl⟩
    have sc : ∀ ch, MS x.2.2 (up2 H.1 225 n ch, H.2) s := fun ch k hk => ⟨(up2_ne H.1 225 n 226 ch k (by decide)).trans (hS k hk).1, (up2_ne H.1 225 n 227 ch k (by decide)).trans (hS k hk).2⟩
    rcases KD_f hK with ⟨hc1, k⟩ | ⟨hc2, q, k1, k2⟩ | hna
    · have lk := KD_lt k
      obtain ⟨b1, b2, b3⟩ := tr (oc 33) hsz hx hKm
      obtain ⟨i1, i2⟩ := ih (p + 1) e (n + 1) s (up2 H.1 225 n 33, H.2) (by omega) k he (by omega) b1 b2 b3 (sc 33) hG
      rw [WK_n hc1]
      have st : ∀ r, s_AdjoinedSetsModel_tokenize_6 (r + 1) 200 (nI n) (nI s.1) (nI p) H = s_AdjoinedSetsModel_tokenize_6 r 200 (nI (n + 1)) (nI s.1) (nI (p + 1)) (up2 H.1 225 n 33, H.2) := fun r => tk_c hsz h60 hx (by omega) (by omega) hc1 (Or.inl rfl)
      constructor
      · intro s' hs
        obtain ⟨H', n', c1, c2, c3, c4, c5, c6, c7⟩ := i1 s' hs
        refine ⟨H', n', by omega, by omega, (oc 33).tr c3, c4, Or.inl ⟨hc1, ?_, c5⟩, fun i hi => ?_, fun r => ?_⟩
        · rw [c6 n (by omega)]
          exact u2_s
        · rw [c6 i (by omega)]
          exact u2_i (by omega)
        · rw [show r + (n' - n) = (r + (n' - (n + 1))) + 1 by omega, st, c7]
      · intro hs
        obtain ⟨H', c3, c7⟩ := i2 hs
        exact ⟨H', (oc 33).tr c3, fun r => by rw [show r + (e - p) = (r + (e - (p + 1))) + 1 by omega, st, c7]⟩
    · have l1 := KD_lt k1
      have l2 := KD_lt k2
      have hcl : (x.2.2 (p + 1)).toNatClampNeg = q := nI_cl (KD_end k1) (by omega)
      have st : ∀ r, s_AdjoinedSetsModel_tokenize_6 (r + 1) 200 (nI n) (nI s.1) (nI p) H = s_AdjoinedSetsModel_tokenize_6 r 200 (nI (n + 1)) (nI s.1) (nI (p + 1)) (up2 H.1 225 n (x.2.1 p), H.2) := fun r => tk_c hsz h60 hx (by omega) (by omega) rfl (Or.inr hc2)
      obtain ⟨b1, b2, b3⟩ := tr (oc (x.2.1 p)) hsz hx hKm
      obtain ⟨i1, i2⟩ := ih (p + 1) q (n + 1) s (up2 H.1 225 n (x.2.1 p), H.2) (by omega) k1 (by omega) (by omega) b1 b2 b3 (sc _) hG
      rw [WK_b hc2, hcl]
      cases h1 : WK x.2.1 x.2.2 d (p + 1) s with
      | none =>
        obtain ⟨H', c3, c7⟩ := i2 h1
        refine ⟨fun s' z => (by cases z), fun _ => ⟨H', (oc _).tr c3, fun r => ?_⟩⟩
        rw [show r + (e - p) = ((r + (e - q)) + (q - (p + 1))) + 1 by omega, st, c7]
      | some s1 =>
        rw [ob_s]
        obtain ⟨H1, m, c1, c2, c3, c4, c5, c6, c7⟩ := i1 s1 h1
        obtain ⟨w1, w2, w3, _⟩ := WK_f h60 _ _ _ _ _ k1 (by omega) hG h1
        obtain ⟨d1, d2, d3⟩ := tr c3 b1 b2 b3
        obtain ⟨j1, j2⟩ := ih q e m s1 H1 (by omega) k2 he (by omega) d1 d2 d3 c4 w1
        constructor
        · intro s' hs
          obtain ⟨_, _, v3, _⟩ := WK_f h60 _ _ _ _ _ k2 he w1 hs
          obtain ⟨H', n', g1, g2, g3, g4, g5, g6, g7⟩ := j1 s' hs
          refine ⟨H', n', by omega, by omega, ((oc _).tr c3).tr g3, g4, Or.inr (Or.inl ⟨hc2, ?_, m, TKP_cg _ _ _ _ _ k1 (by omega) (fun r h1 h2 => v3 r (by omega)) (fun i h1 h2 => g6 i (by omega)) c5, ?_⟩), fun i hi => ?_, fun r => ?_⟩
          · rw [g6 n (by omega), c6 n (by omega)]
            exact u2_s
          · rw [hcl]; exact g5
          · rw [g6 i (by omega), c6 i (by omega)]
            exact u2_i (by omega)
          · rw [show r + (n' - n) = ((r + (n' - m)) + (m - (n + 1))) + 1 by omega, st, c7, g7]
        · intro hs
          obtain ⟨H', g3, g7⟩ := j2 hs
          refine ⟨H', ((oc _).tr c3).tr g3, fun r => ?_⟩
          rw [show r + (e - p) = (((r + (e - p - 1 - (m - (n + 1)) - (e - q))) + (e - q)) + (m - (n + 1))) + 1 by omega, st, c7, g7]
    · rw [WK_a hna]
      have st := fun r => tk_a (n := n) (c := s.1) (r := r) hsz h60 hx hKm hK3 hd hK he hna
      constructor
      · intro s' hs
        obtain ⟨H', o1, a2, a3, a4, a5⟩ := (m_part (n := n) h60 hx hS hG hK he (by omega)).1 s' hs
        refine ⟨H', n + 1, by omega, by omega, o1, a2, Or.inr (Or.inr ⟨hna, a3, rfl⟩), fun i hi => a4 i (by omega), fun r => ?_⟩
        rw [show r + (n + 1 - n) = r + 1 by omega, st, a5]
      · intro hs
        refine ⟨H, oT.rf H, fun r => ?_⟩
        rw [show r + (e - p) = (r + (e - p - 1)) + 1 by omega, st]
        exact (m_part (n := n) h60 hx hS hG hK he (by omega)).2 hs _
end
