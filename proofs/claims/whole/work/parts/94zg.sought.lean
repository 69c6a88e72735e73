/-! Rule 10: the class looks for the term. -/
theorem KD_up1 {k : Nat → Nat} {t E : Nat → Int32} : ∀ (d : Nat) (b : Bool) (p e : Nat), KD k t E d b p e → KD k t E (d + 1) b p e := by
  intro d
  induction d with
  | zero => intro b p e h; exact absurd h (fun q => q)
  | succ d ih =>
    intro b p e h
    obtain ⟨h1, h2, h3⟩ := h
    have two : ∀ (b1 b2 : Bool) (s : Nat), (∃ q, KD k t E d b1 s q ∧ KD k t E d b2 q e) → ∃ q, KD k t E (d + 1) b1 s q ∧ KD k t E (d + 1) b2 q e := by
      intro b1 b2 s ⟨q, a, b⟩
      exact ⟨q, ih _ _ _ a, ih _ _ _ b⟩
    refine ⟨h1, h2, ?_⟩
    cases b with
    | true =>
      rcases h3 with ⟨a, b⟩ | ⟨a, b⟩ | ⟨a, b⟩ | ⟨a, a2, b⟩
      · exact Or.inl ⟨a, two _ _ _ b⟩
      · exact Or.inr (Or.inl ⟨a, ih _ _ _ b⟩)
      · exact Or.inr (Or.inr (Or.inl ⟨a, two _ _ _ b⟩))
      · exact Or.inr (Or.inr (Or.inr ⟨a, a2, two _ _ _ b⟩))
    | false =>
      rcases h3 with a | a | ⟨a, a2, b⟩ | ⟨a, b⟩ | ⟨a, b⟩ | ⟨a, a2, b⟩ | ⟨a, a2, b⟩
      · exact Or.inl a
      · exact Or.inr (Or.inl a)
      · exact Or.inr (Or.inr (Or.inl ⟨a, a2, its_imp (fun p e r => ih false p e r) _ _ _ b⟩))
      · exact Or.inr (Or.inr (Or.inr (Or.inl ⟨a, two _ _ _ b⟩)))
      · exact Or.inr (Or.inr (Or.inr (Or.inr (Or.inl ⟨a, ih _ _ _ b⟩))))
      · exact Or.inr (Or.inr (Or.inr (Or.inr (Or.inr (Or.inl ⟨a, a2, two _ _ _ b⟩)))))
      · exact Or.inr (Or.inr (Or.inr (Or.inr (Or.inr (Or.inr ⟨a, a2, two _ _ _ b⟩)))))
theorem KD_up {k : Nat → Nat} {t E : Nat → Int32} {d d' : Nat} {b : Bool} {p e : Nat} (hd : d ≤ d') (h : KD k t E d b p e) : KD k t E d' b p e := by
  obtain ⟨m, rfl⟩ : ∃ m, d' = d + m := ⟨d' - d, by omega⟩
  clear hd
  induction m with
  | zero => exact h
  | succ m ih => exact KD_up1 _ _ _ _ ih
section
variable {h : HP} {s : Nat} {xs : TX} {G : Nat → Nat → Int32 → Nat → Int32 → Int32 → HP → Option (Int32 × HP)}
theorem g111_0 {r t p e D i : Nat} {M : Int32} (hi : i ≤ 3) (he : e ≤ 60) : s_Replacement_goesOn_111 G (r + 1) 11 s (nI p) t M (nI D) (nI e) (nI e) (nI i) h = some (1, h) := by
  rw [s_Replacement_goesOn_111]
  dsimp only
  by_cases hi3 : 3 ≤ i
  · rw [if_pos (show 3 ≤ nI i from nI_le (a := 3) hi3 (by omega))]
  · rw [if_neg (show ¬ 3 ≤ nI i from nI_ge (b := 3) (by omega) (by omega)), if_pos (nI_le (Nat.le_refl _) (by omega))]
theorem g111_1 {r t p e D i p' : Nat} {M y : Int32} (hs : isT s) (hi : i < 3) (he : e ≤ 60) (hp : p' < e) (hy : s_Text_boundBy s (nI p) h = some y) : s_Replacement_goesOn_111 G (r + 1) 11 s (nI p) t M (nI D) (nI p') (nI e) (nI i) h = (G 11 s (nI p') t (if i = 1 then M ||| y else M) (nI (D + 1)) h).bind fun q2 => if q2.1 = 0 then some (0, q2.2) else (s_Text_endOf s (nI p') q2.2).bind fun q5 => s_Replacement_goesOn_111 G r 11 s (nI p) t M (nI D) q5 (nI e) (nI (i + 1)) q2.2 := by
  rw [s_Replacement_goesOn_111]
  dsimp only
  unfold s_Replacement_goesOn_143
  rw [if_neg (show ¬ 3 ≤ nI i from nI_ge (b := 3) (by omega) (by omega)), if_neg (nI_ge (by omega) (by omega)), t_kd hs, ob_s, hy, ob_s, rK_11, ob_s, ob_s, nI_1, nI_1]
  by_cases hi1 : i = 1
  · rw [if_pos (show nI i = 1 by rw [hi1]; rfl), if_pos hi1]
    simp only [ob_s]
  · rw [if_neg (show ¬ nI i = 1 from fun z => hi1 ((nI_inj (b := 1) (by omega) (by omega)).mp z)), if_neg hi1]
    simp only [ob_s]
end
section
variable {K : Nat → Nat} {h : HP} {s t u : Nat} {xs xt xw : TX} {rl : Nat → Bool} {w we : Nat → Nat} {dw : Nat → Nat}
theorem c_parts (hR : RC2 K h s t u xs xt xw rl w we dw) {d p e e2 D g : Nat} {M y : Int32} {bs bo b1 : Nat → Bool} (he : e ≤ xs.1) (het : e2 ≤ xt.1) (hD : d + D ≤ 12) (hg : d ≤ g) (hM : MSK M bo) (hM1 : MSK (M ||| y) b1) (hyn : ∀ v, s_Text_boundBy s (nI p) (nw h v) = some y) : ∀ (m i p' q' r : Nat), pc (KD K xs.2.1 xs.2.2 d) bs m i p' e → (∃ d3, pc (KD K xt.2.1 xt.2.2 d3) bs m i q' e2) → i + m ≤ 3 → m < r → (MTP (MT K xs.2.1 xs.2.2 xt.2.1 xt.2.2 rl (fun l => fv xw.2.1 xw.2.2 (dw l) (w l)) (EQt xt xw w we) d) xs.2.2 xt.2.2 bs bo b1 m i p' q' → s_Replacement_goesOn_111 (s_grp_Replacement_goesOn g) r 11 s (nI p) t M (nI D) (nI p') (nI e) (nI i) (nw h (nI q')) = some (1, nw h (nI e2))) ∧ (¬ MTP (MT K xs.2.1 xs.2.2 xt.2.1 xt.2.2 rl (fun l => fv xw.2.1 xw.2.2 (dw l) (w l)) (EQt xt xw w we) d) xs.2.2 xt.2.2 bs bo b1 m i p' q' → ∃ v, s_Replacement_goesOn_111 (s_grp_Replacement_goesOn g) r 11 s (nI p) t M (nI D) (nI p') (nI e) (nI i) (nw h (nI q')) = some (0, nw h v)) := by
  have cs := hR.1
  have es := hR.2.1
  have ct := hR.2.2.1
  have s60 := cs.1.2.2
  have t60 := ct.1.2.2
  have hs100 : 100 ≤ s := cs.1.1.1
  intro m
  induction m with
  | zero =>
    intro i p' q' r z1 z2 h3 hr
    obtain ⟨r, rfl⟩ : ∃ r0, r = r0 + 1 := ⟨r - 1, by omega⟩
    have z1 : p' = e := z1
    obtain ⟨d3, z2⟩ := z2
    have z2 : q' = e2 := z2
    subst z1
    subst z2
    exact ⟨fun _ => g111_0 (by omega) (by omega), fun z => absurd trivial z⟩
  | succ m ih2 =>
    intro i p' q' r z1 z2 h3 hr
    obtain ⟨r, rfl⟩ : ∃ r0, r = r0 + 1 := ⟨r - 1, by omega⟩
    obtain ⟨r1, k1, k2⟩ := z1
    obtain ⟨d3, r2, k3, k4⟩ := z2
    have l1 := KD_lt k1
    have l2 := pc_le _ _ _ _ k2
    have l3 := KD_lt k3
    have l4 := pc_le _ _ _ _ k4
    have hMi : MSK (if i = 1 then M ||| y else M) (if i = 1 then b1 else bo) := by
      by_cases hi1 : i = 1
      · rw [if_pos hi1, if_pos hi1]; exact hM1
      · rw [if_neg hi1, if_neg hi1]; exact hM
    obtain ⟨g1, g2⟩ := c_go hR d (bs i) p' r1 (D + 1) g q' r2 d3 (if i = 1 then M ||| y else M) (if i = 1 then b1 else bo) k1 (by omega) k3 (by omega) (by omega) (by omega) (by omega) hMi
    obtain ⟨i1, i2⟩ := ih2 (i + 1) r1 r2 r k2 ⟨d3, k4⟩ (by omega) (by omega)
    rw [g111_1 cs.1.1 (by omega) (by omega) (by omega) (hyn _)]
    have he1 : (xs.2.2 p').toNatClampNeg = r1 := nI_cl (KD_end k1) (by omega)
    have he2 : (xt.2.2 q').toNatClampNeg = r2 := nI_cl (KD_end k3) (by omega)
    by_cases hm : MT K xs.2.1 xs.2.2 xt.2.1 xt.2.2 rl (fun l => fv xw.2.1 xw.2.2 (dw l) (w l)) (EQt xt xw w we) d (bs i) (if i = 1 then b1 else bo) p' q'
    · rw [g1 hm, ob_s]
      dsimp only
      rw [if_neg (by decide), end_h (cT_nw cs) (cE_nw hs100 es) (by omega), ob_s, KD_end k1]
      refine ⟨fun z => i1 ?_, fun z => i2 (fun y => z ⟨hm, ?_⟩)⟩
      · have := z.2
        rw [he1, he2] at this
        exact this
      · rw [he1, he2]
        exact y
    · obtain ⟨v, e2⟩ := g2 hm
      rw [e2, ob_s]
      dsimp only
      rw [if_pos rfl]
      exact ⟨fun z => absurd z.1 hm, fun _ => ⟨v, rfl⟩⟩
end
/-- the letter's term stands at w0 in the target -/
def MTw (K : Nat → Nat) (xs xt : TX) (l0 w0 : Nat) : Nat → Bool → (Nat → Bool) → Nat → Nat → Prop := MT K xs.2.1 xs.2.2 xt.2.1 xt.2.2 (rlS l0) (fun _ => fv xt.2.1 xt.2.2 12 w0) (EQt xt xt (fun _ => w0) (fun _ => (xt.2.2 w0).toNatClampNeg))
def MTn (K : Nat → Nat) (xs xt : TX) : Nat → Bool → (Nat → Bool) → Nat → Nat → Prop := MT K xs.2.1 xs.2.2 xt.2.1 xt.2.2 (fun _ => false) (fun _ _ => false) (fun _ _ => False)
def hw13 (h : HP) (l0 w0 : Nat) : HP := (up2 h.1 13 l0 (nI w0), h.2)
def RCs (K : Nat → Nat) (h : HP) (s t : Nat) (xs xt : TX) (l0 : Nat) : Prop := cT h s xs ∧ cE h s xs ∧ cT h t xt ∧ cE h t xt ∧ (∀ p, p < xt.1 → okC (xt.2.1 p)) ∧ h.2.2 = t ∧ (∀ l, l < 8 → h.1 13 l = if l = l0 then -2 else -1) ∧ (∀ f, f < 4 → K f ≤ 3) ∧ l0 < 8
theorem cT_13 {h : HP} {t l0 w0 : Nat} {x : TX} (hc : cT h t x) : cT (hw13 h l0 w0) t x := by
  obtain ⟨⟨a1, a2, a3⟩, a4⟩ := hc
  have ht : 100 ≤ t := a1.1
  have e : ∀ n, n ≠ 13 → (hw13 h l0 w0).1 n = h.1 n := fun n hn => up2_n hn
  exact ⟨⟨a1, by rw [e _ (by omega)]; exact a2, a3⟩, fun p hp => by rw [e _ (by omega)]; exact a4 p hp⟩
theorem cE_13 {h : HP} {t l0 w0 : Nat} {x : TX} (ht : 100 ≤ t) (hc : cE h t x) : cE (hw13 h l0 w0) t x := fun p hp => by
  have e : ∀ n, n ≠ 13 → (hw13 h l0 w0).1 n = h.1 n := fun n hn => up2_n hn
  rw [e _ (by omega)]
  exact hc p hp
theorem RC_13 {K : Nat → Nat} {h : HP} {s t : Nat} {xs xt : TX} {l0 w0 e0 : Nat} (hR : RCs K h s t xs xt l0) (hK : KD K xt.2.1 xt.2.2 12 false w0 e0) (he : e0 ≤ xt.1) : RC2 K (hw13 h l0 w0) s t t xs xt xt (rlS l0) (fun _ => w0) (fun _ => (xt.2.2 w0).toNatClampNeg) (fun _ => 12) := by
  obtain ⟨cs, es, ct, et, okt, hu, hst, hK3, hl0⟩ := hR
  have t60 := ct.1.2.2
  have hs100 : 100 ≤ s := cs.1.1.1
  have ht100 : 100 ≤ t := ct.1.1.1
  have hc : (xt.2.2 w0).toNatClampNeg = e0 := nI_cl (KD_end hK) (by omega)
  refine ⟨cT_13 cs, cE_13 hs100 es, cT_13 ct, okt, cT_13 ct, cE_13 ht100 et, hu, fun l hl => ?_, fun l _ _ => ⟨Nat.le_refl 12, by rw [hc]; exact he, by rw [hc]; exact hK⟩, hK3⟩
  show up2 h.1 13 l0 (nI w0) 13 l = _
  by_cases hll : l = l0
  · rw [hll, u2_s, if_pos (by simp)]
  · rw [u2_i hll, hst l hl, if_neg hll, if_neg (by simp [hll])]
theorem kq_13 {h : HP} {l0 w0 : Nat} : kq h (hw13 h l0 w0) := ⟨fun n _ _ a3 _ _ _ _ _ _ => up2_n a3, rfl⟩
theorem pre_sub {a b : Nat → Int32} {p q p' q' x : Nat} (hp : p ≤ p') (hx : p' ≤ x) (hq : q' + p = q + p') (h : ∀ j, j < x - p → a (p + j) = b (q + j)) : ∀ j, j < x - p' → a (p' + j) = b (q' + j) := by
  intro j hj
  have := h (p' - p + j) (by omega)
  rw [show p + (p' - p + j) = p' + j by omega, show q + (p' - p + j) = q' + j by omega] at this
  exact this
