/-! Rule 0: the model's tokens. -/
def oT (h h' : HP) : Prop := (∀ n, n ≠ 225 → n ≠ 226 → n ≠ 227 → n ≠ 228 → h'.1 n = h.1 n) ∧ h'.2 = h.2
theorem oT.rf (h : HP) : oT h h := ⟨fun _ _ _ _ _ => rfl, rfl⟩
theorem oT.tr {a b c : HP} (h1 : oT a b) (h2 : oT b c) : oT a c := ⟨fun n a1 a2 a3 a4 => (h2.1 n a1 a2 a3 a4).trans (h1.1 n a1 a2 a3 a4), h2.2.trans h1.2⟩
theorem MA_T {S : SG} {h h' : HP} (ho : oT h h') (hm : MA S h) : MA S h' := MA_k hm (fun m hm => ho.1 m (by omega) (by omega) (by omega) (by omega)) (by rw [ho.2]) (by rw [ho.1 200 (by decide) (by decide) (by decide) (by decide)]) (by rw [ho.1 200 (by decide) (by decide) (by decide) (by decide)])
theorem sC_T {h h' : HP} (ho : oT h h') : sC h h' := ⟨fun n hn => ⟨ho.1 n (by omega) (by omega) (by omega) (by omega), by rw [ho.2]⟩, by rw [ho.2]⟩
def MS (E : Nat → Int32) (H : HP) (s : ST) : Prop := ∀ k, k < s.1 → H.1 226 k = nI (s.2.1 k) ∧ H.1 227 k = nI ((E (s.2.1 k)).toNatClampNeg - s.2.1 k)
def TKP (t E : Nat → Int32) (tok : Nat → Int32) (a : Nat → Nat) : Nat → Nat → Nat → Nat → Prop
  | 0 => fun _ _ _ => False
  | d + 1 => fun p n n' => (t p = 33 ∧ tok n = 33 ∧ TKP t E tok a d (p + 1) (n + 1) n') ∨ ((t p = 94 ∨ t p = 118 ∨ t p = 62) ∧ tok n = t p ∧ ∃ m, TKP t E tok a d (p + 1) (n + 1) m ∧ TKP t E tok a d (E (p + 1)).toNatClampNeg m n') ∨ (¬ (t p = 33 ∨ t p = 94 ∨ t p = 118 ∨ t p = 62) ∧ tok n = nI (1000 + a p) ∧ n' = n + 1)
section
variable {K : Nat → Nat} {t E : Nat → Int32}
theorem TKP_lt {tok : Nat → Int32} {a : Nat → Nat} : ∀ (d p n n' : Nat), TKP t E tok a d p n n' → n < n' := by
  intro d
  induction d with
  | zero => intro p n n' h; exact absurd h (fun z => z)
  | succ d ih =>
    intro p n n' h
    rcases h with ⟨_, _, k⟩ | ⟨_, _, m, k1, k2⟩ | ⟨_, _, k⟩
    · have := ih _ _ _ k; omega
    · have := ih _ _ _ k1; have := ih _ _ _ k2; omega
    · omega
theorem TKP_cg {tok tok' : Nat → Int32} {a a' : Nat → Nat} : ∀ (d p e n n' : Nat), KD K t E d true p e → e ≤ 60 → (∀ q, p ≤ q → q < e → a' q = a q) → (∀ i, n ≤ i → i < n' → tok' i = tok i) → TKP t E tok a d p n n' → TKP t E tok' a' d p n n' := by
  intro d
  induction d with
  | zero => intro p e n n' _ _ _ _ h; exact absurd h (fun z => z)
  | succ d ih =>
    intro p e n n' hK he ha ht h
    have hpe := KD_lt hK
    have hnn := TKP_lt _ _ _ _ h
    rcases KD_f hK with ⟨hc1, k⟩ | ⟨hc2, q, k1, k2⟩ | hna
    · rcases h with ⟨z1, z2, z3⟩ | ⟨z1, _⟩ | ⟨z1, _⟩
      · exact Or.inl ⟨z1, by rw [ht n (Nat.le_refl _) hnn]; exact z2, ih _ _ _ _ k he (fun q h1 h2 => ha q (by omega) h2) (fun i h1 h2 => ht i (by omega) h2) z3⟩
      · rw [hc1] at z1; exact absurd z1 (by decide)
      · exact absurd (Or.inl hc1) z1
    · have l1 := KD_lt k1
      have l2 := KD_lt k2
      have hcl : (E (p + 1)).toNatClampNeg = q := nI_cl (KD_end k1) (by omega)
      rcases h with ⟨z1, _⟩ | ⟨z1, z2, m, z3, z4⟩ | ⟨z1, _⟩
      · rw [z1] at hc2; exact absurd hc2 (by decide)
      · have m1 := TKP_lt _ _ _ _ z3
        have m2 := TKP_lt _ _ _ _ z4
        rw [hcl] at z4
        refine Or.inr (Or.inl ⟨z1, by rw [ht n (Nat.le_refl _) hnn]; exact z2, m, ih _ _ _ _ k1 (by omega) (fun q h1 h2 => ha q (by omega) (by omega)) (fun i h1 h2 => ht i (by omega) (by omega)) z3, ?_⟩)
        rw [hcl]
        exact ih _ _ _ _ k2 he (fun q h1 h2 => ha q (by omega) h2) (fun i h1 h2 => ht i (by omega) h2) z4
      · exact absurd (Or.inr hc2) z1
    · rcases h with ⟨z1, _⟩ | ⟨z1, _⟩ | ⟨z1, z2, z3⟩
      · exact absurd (Or.inl z1) hna
      · exact absurd (Or.inr z1) hna
      · exact Or.inr (Or.inr ⟨z1, by rw [ht n (Nat.le_refl _) hnn, ha p (Nat.le_refl _) hpe]; exact z2, z3⟩)
/-- the last part that is the same -/
def lastF (t E : Nat → Int32) (pl : Nat → Nat) (p : Nat) : Nat → Nat → Int32 → Int32
  | 0 => fun _ x => x
  | m + 1 => fun i x => lastF t E pl p m (i + 1) (if smB t E (pl i) p = true then nI i else x)
theorem last_n {pl : Nat → Nat} {p : Nat} : ∀ (m i : Nat) (x : Int32), (∀ k, i ≤ k → k < i + m → ¬ smP t E (pl k) p) → lastF t E pl p m i x = x := by
  intro m
  induction m with
  | zero => intro i x _; rfl
  | succ m ih =>
    intro i x h
    rw [lastF]
    dsimp only
    rw [if_neg (fun z => h i (Nat.le_refl _) (by omega) (smB_P.mp z))]
    exact ih (i + 1) x (fun k h1 h2 => h k (by omega) (by omega))
theorem last_1 {pl : Nat → Nat} {p k0 : Nat} (h0 : smP t E (pl k0) p) : ∀ (m i : Nat) (x : Int32), i ≤ k0 → k0 < i + m → (∀ k, i ≤ k → k < i + m → smP t E (pl k) p → k = k0) → lastF t E pl p m i x = nI k0 := by
  intro m
  induction m with
  | zero => intro i x h1 h2; omega
  | succ m ih =>
    intro i x h1 h2 h
    rw [lastF]
    dsimp only
    by_cases hi : i = k0
    · rw [hi, if_pos (smB_P.mpr h0)]
      exact last_n m (k0 + 1) _ (fun k z1 z2 z3 => by have := h k (by omega) (by omega) z3; omega)
    · rw [if_neg (fun z => hi (h i (Nat.le_refl _) (by omega) (smB_P.mp z)))]
      exact ih (i + 1) x (by omega) (by omega) (fun k z1 z2 z3 => h k (by omega) (by omega) z3)
theorem last_f {n p : Nat} {s : ST} (hG : GD K t E n s) : lastF t E s.2.1 p s.1 0 (-1) = if fndF t E s.2.1 p s.1 0 = s.1 then -1 else nI (fndF t E s.2.1 p s.1 0) := by
  obtain ⟨_, f2, f3, f4⟩ := fnd_v (t := t) (E := E) (pl := s.2.1) (p := p) s.1 0
  rw [Nat.zero_add] at f2 f3
  generalize fndF t E s.2.1 p s.1 0 = k at *
  by_cases hk : k = s.1
  · rw [if_pos hk]
    exact last_n _ _ _ (fun i h1 h2 => f4 i h1 (by omega))
  · rw [if_neg hk]
    have hs := f3 (by omega)
    exact last_1 hs _ _ _ (Nat.zero_le _) (by omega) (fun i h1 h2 h3 => hG.2.2 i k (by omega) (by omega) (smP_tr h3 (smP_sym hs)))
end
section
variable {K : Nat → Nat} {x : TX}
/-- at the end of the search -/
def f79 (c6 : Nat → Int32 → Int32 → Int32 → HP → Option (Int32 × HP)) (n c p len x6 : Int32) (h : HP) : Option (Int32 × HP) := if 0 ≤ x6 then s_AdjoinedSetsModel_tokenize_163 c6 200 n c p len x6 h else if c = 6 then some (-1, h) else (gR h 200 9 33).bind fun v1 => (uI h v1 0 c p).bind fun h3 => (gR h3 200 9 34).bind fun v5 => (uI h3 v5 0 c len).bind fun h7 => s_AdjoinedSetsModel_tokenize_163 c6 200 n (c + 1) p len c h7
theorem m_79 {c6 : Nat → Int32 → Int32 → Int32 → HP → Option (Int32 × HP)} {H : HP} {s : ST} {p e d : Nat} {N : Int32} (h60 : x.1 ≤ 60) (hx : mT H 0 x) (hS : MS x.2.2 H s) (hG : GD K x.2.1 x.2.2 x.1 s) (hK : KD K x.2.1 x.2.2 d true p e) (he : e ≤ x.1) : ∀ (m i r : Nat) (x6 : Int32), i + m = s.1 → m < r → s_AdjoinedSetsModel_tokenize_79 c6 r 200 N (nI s.1) (nI p) (nI (e - p)) x6 (nI i) H = f79 c6 N (nI s.1) (nI p) (nI (e - p)) (lastF x.2.1 x.2.2 s.2.1 p m i x6) H := by
  have g6 := hG.1
  have lp := KD_lt hK
  have cp : (x.2.2 p).toNatClampNeg = e := nI_cl (KD_end hK) (by omega)
  intro m
  induction m with
  | zero =>
    intro i r x6 h1 h2
    obtain ⟨r, rfl⟩ : ∃ r0, r = r0 + 1 := ⟨r - 1, by omega⟩
    rw [s_AdjoinedSetsModel_tokenize_79]
    dsimp only
    rw [if_pos (nI_le (by omega) (by omega))]
    rfl
  | succ m ih =>
    intro i r x6 h1 h2
    obtain ⟨r, rfl⟩ : ∃ r0, r = r0 + 1 := ⟨r - 1, by omega⟩
    obtain ⟨da, ea, hKa, hea⟩ := hG.2.1 i (by omega)
    have la := KD_lt hKa
    have ci : (x.2.2 (s.2.1 i)).toNatClampNeg = ea := nI_cl (KD_end hKa) (by omega)
    obtain ⟨s1, s2⟩ := hS i (by omega)
    rw [ci] at s2
    rw [s_AdjoinedSetsModel_tokenize_79]
    dsimp only
    unfold s_AdjoinedSetsModel_tokenize_119 s_AdjoinedSetsModel_tokenize_121
    rw [if_neg (nI_ge (by omega) (by omega)), rR_200_34, ob_s, rA_227 (by omega), ob_s, s2, nI_1, lastF]
    dsimp only
    by_cases hl : ea - s.2.1 i = e - p
    rotate_left
    · have hn : ¬ smP x.2.1 x.2.2 (s.2.1 i) p := fun z => hl (by have := z.1; rw [ci, cp] at this; exact this)
      rw [if_neg (fun z => hl ((nI_inj (by omega) (by omega)).mp z)), if_neg (fun z => hn (smB_P.mp z))]
      exact ih (i + 1) r x6 (by omega) (by omega)
    have g2 := m_sm2 hx hx (a := s.2.1 i) (f := p) (m := e - p) (by omega) (by omega) (by omega) (by omega)
    rw [Nat.zero_add, Nat.zero_add] at g2
    have hsm : eqt x.1 x.2.1 (s.2.1 i) x.2.1 p (e - p) ↔ smP x.2.1 x.2.2 (s.2.1 i) p := by
      unfold smP
      rw [ci, cp]
      exact ⟨fun z => ⟨hl, fun j hj => (z j (by omega)).2⟩, fun z j hj => ⟨by omega, z.2 j (by omega)⟩⟩
    rw [if_pos (by rw [hl]), rR_200_33, ob_s, rA_226 (by omega), ob_s, s1, rK_200, ob_s]
    by_cases hm : smP x.2.1 x.2.2 (s.2.1 i) p
    · rw [g2.1 (hsm.mpr hm), ob_s, if_neg (by decide), if_pos (smB_P.mpr hm)]
      exact ih (i + 1) r (nI i) (by omega) (by omega)
    · rw [g2.2 (fun z => hm (hsm.mp z)), ob_s, if_pos rfl, if_neg (fun z => hm (smB_P.mp z))]
      exact ih (i + 1) r x6 (by omega) (by omega)
theorem nI_m6 {c : Nat} (h : c ≤ 6) : nI c = 6 ↔ c = 6 := nI_inj (b := 6) (by omega) (by omega)
/-- a part -/
theorem m_part {H : HP} {s : ST} {p e d n : Nat} (h60 : x.1 ≤ 60) (hx : mT H 0 x) (hS : MS x.2.2 H s) (hG : GD K x.2.1 x.2.2 x.1 s) (hK : KD K x.2.1 x.2.2 d true p e) (he : e ≤ x.1) (hn : n < 60) : (∀ s', cntP x.2.1 x.2.2 p s = some s' → ∃ H', oT H H' ∧ MS x.2.2 H' s' ∧ H'.1 225 n = nI (1000 + s'.2.2 p) ∧ (∀ q, q ≠ n → H'.1 225 q = H.1 225 q) ∧ ∀ c6, s_AdjoinedSetsModel_tokenize_79 c6 20000 200 (nI n) (nI s.1) (nI p) (nI (e - p)) (-1) 0 H = c6 200 (nI (n + 1)) (nI s'.1) (nI e) H') ∧ (cntP x.2.1 x.2.2 p s = none → ∀ c6, s_AdjoinedSetsModel_tokenize_79 c6 20000 200 (nI n) (nI s.1) (nI p) (nI (e - p)) (-1) 0 H = some (-1, H)) := by
  have g6 := hG.1
  have lp := KD_lt hK
  have cp : (x.2.2 p).toNatClampNeg = e := nI_cl (KD_end hK) (by omega)
  have e0 : ∀ c6, s_AdjoinedSetsModel_tokenize_79 c6 20000 200 (nI n) (nI s.1) (nI p) (nI (e - p)) (-1) 0 H = f79 c6 (nI n) (nI s.1) (nI p) (nI (e - p)) (if fndF x.2.1 x.2.2 s.2.1 p s.1 0 = s.1 then -1 else nI (fndF x.2.1 x.2.2 s.2.1 p s.1 0)) H := by
    intro c6
    have e0 := m_79 (c6 := c6) (N := nI n) h60 hx hS hG hK he s.1 0 20000 (-1) (by omega) (by omega)
    rw [last_f hG] at e0
    exact e0
  obtain ⟨_, f2, _, _⟩ := fnd_v (t := x.2.1) (E := x.2.2) (pl := s.2.1) (p := p) s.1 0
  rw [Nat.zero_add] at f2
  have h1000 : ∀ k, 1000 + nI k = nI (1000 + k) := fun k => by rw [show (1000 : Int32) = nI 1000 from rfl, nI_add]
  unfold cntP
  generalize fndF x.2.1 x.2.2 s.2.1 p s.1 0 = k at f2 e0
  by_cases hks : k = s.1
  · subst hks
    rw [if_pos rfl, if_pos rfl]
    by_cases h6 : s.1 = 6
    · rw [if_pos (by omega)]
      refine ⟨fun s' z => (by cases z), fun _ c6 => ?_⟩
      rw [e0 c6]
      unfold f79
      rw [if_pos rfl, if_neg (show ¬ (0 : Int32) ≤ -1 by decide), if_pos ((nI_m6 g6).mpr h6)]
    rw [if_neg (by omega)]
    refine ⟨fun s' hs => ?_, fun z => (by cases z)⟩
    have hs := Option.some.inj hs
    subst hs
    refine ⟨(up2 (up2 (up2 H.1 226 s.1 (nI p)) 227 s.1 (nI (e - p))) 225 n (nI (1000 + s.1)), H.2), ⟨?_, rfl⟩, fun i hi => ?_, ?_, fun q hq => ?_, fun c6 => ?_⟩
    · intro m a1 a2 a3 _
      show up2 (up2 (up2 H.1 226 s.1 (nI p)) 227 s.1 (nI (e - p))) 225 n (nI (1000 + s.1)) m = H.1 m
      rw [up2_n a1, up2_n a3, up2_n a2]
    · have hi : i < s.1 + 1 := hi
      show up2 (up2 (up2 H.1 226 s.1 (nI p)) 227 s.1 (nI (e - p))) 225 n (nI (1000 + s.1)) 226 i = nI (upN s.2.1 s.1 p i) ∧ up2 (up2 (up2 H.1 226 s.1 (nI p)) 227 s.1 (nI (e - p))) 225 n (nI (1000 + s.1)) 227 i = nI ((x.2.2 (upN s.2.1 s.1 p i)).toNatClampNeg - upN s.2.1 s.1 p i)
      have q6 : up2 (up2 (up2 H.1 226 s.1 (nI p)) 227 s.1 (nI (e - p))) 225 n (nI (1000 + s.1)) 226 i = up2 H.1 226 s.1 (nI p) 226 i := by rw [up2_n (by decide), up2_n (by decide)]
      have q7 : up2 (up2 (up2 H.1 226 s.1 (nI p)) 227 s.1 (nI (e - p))) 225 n (nI (1000 + s.1)) 227 i = up2 (up2 H.1 226 s.1 (nI p)) 227 s.1 (nI (e - p)) 227 i := by rw [up2_n (by decide)]
      unfold upN
      rw [q6, q7]
      by_cases his : i = s.1
      · rw [his, u2_s, u2_s, if_pos rfl, cp]
        exact ⟨rfl, rfl⟩
      · rw [u2_i his, u2_i his, if_neg his, up2_ne H.1 226 s.1 227 (nI p) i (by decide)]
        exact hS i (by omega)
    · show up2 (up2 (up2 H.1 226 s.1 (nI p)) 227 s.1 (nI (e - p))) 225 n (nI (1000 + s.1)) 225 n = nI (1000 + upN s.2.2 p s.1 p)
      unfold upN
      rw [u2_s, if_pos rfl]
    · show up2 (up2 (up2 H.1 226 s.1 (nI p)) 227 s.1 (nI (e - p))) 225 n (nI (1000 + s.1)) 225 q = H.1 225 q
      rw [u2_i hq, up2_n (by decide), up2_n (by decide)]
    · rw [e0 c6]
      unfold f79 s_AdjoinedSetsModel_tokenize_163 s_AdjoinedSetsModel_tokenize_180
      rw [if_pos rfl, if_neg (show ¬ (0 : Int32) ≤ -1 by decide), if_neg (fun z => h6 ((nI_m6 g6).mp z)), rR_200_33, ob_s, wA_226 (by omega), ob_s, rR_200_34, ob_s, wA_227 (by omega), ob_s, rR_200_32, ob_s, wA_225 (by omega), ob_s, nI_1, nI_1, nI_add, h1000, show p + (e - p) = e by omega]
  · rw [if_neg hks, if_neg hks, if_neg (by omega)]
    refine ⟨fun s' hs => ?_, fun z => (by cases z)⟩
    have hs := Option.some.inj hs
    subst hs
    refine ⟨(up2 H.1 225 n (nI (1000 + k)), H.2), ⟨?_, rfl⟩, fun i hi => ?_, ?_, fun q hq => ?_, fun c6 => ?_⟩
    · intro m a1 a2 a3 _
      show up2 H.1 225 n (nI (1000 + k)) m = H.1 m
      rw [up2_n a1]
    · show up2 H.1 225 n (nI (1000 + k)) 226 i = _ ∧ up2 H.1 225 n (nI (1000 + k)) 227 i = _
      rw [up2_n (by decide), up2_n (by decide)]
      exact hS i hi
    · show up2 H.1 225 n (nI (1000 + k)) 225 n = nI (1000 + upN s.2.2 p k p)
      unfold upN
      rw [u2_s, if_pos rfl]
    · show up2 H.1 225 n (nI (1000 + k)) 225 q = H.1 225 q
      rw [u2_i hq]
    · rw [e0 c6]
      unfold f79 s_AdjoinedSetsModel_tokenize_163 s_AdjoinedSetsModel_tokenize_180
      rw [if_neg hks, if_pos (show (0 : Int32) ≤ nI k from nI_le (a := 0) (Nat.zero_le _) (by omega)), rR_200_32, ob_s, wA_225 (by omega), ob_s, nI_1, nI_add, h1000, show p + (e - p) = e by omega]
end
