/-! The model's scan: for each place whether a letter stands there as a term, and what is bound there. -/
def sw (h : HP) (w : Nat) (P : Nat → Nat → Int32) (A B : Nat → Int32) : HP := (fun m i => if m = 200 then (if i = 7 then nI w else h.1 200 i) else if 206 ≤ m ∧ m ≤ 209 then P m i else if m = 210 then A i else if m = 211 then B i else h.1 m i, h.2)
def upA (A : Nat → Int32) (j : Nat) (v : Int32) : Nat → Int32 := fun q => if q = j then v else A q
section
variable {h : HP} {w : Nat} {P : Nat → Nat → Int32} {A B : Nat → Int32}
theorem sw_7 : (sw h w P A B).1 200 7 = nI w := rfl
theorem sw_12 : (sw h w P A B).1 200 12 = h.1 200 12 := rfl
theorem sw_201 : (sw h w P A B).1 201 = h.1 201 := rfl
theorem sw_206 : (sw h w P A B).1 206 = P 206 := rfl
theorem sw_207 : (sw h w P A B).1 207 = P 207 := rfl
theorem sw_210 : (sw h w P A B).1 210 = A := rfl
theorem sw_211 : (sw h w P A B).1 211 = B := rfl
theorem sw_s7 {d' : Nat} : (up2 (sw h w P A B).1 200 7 (nI d'), (sw h w P A B).2) = sw h d' P A B := by
  refine Prod.ext ?_ rfl
  funext a b
  show up2 (sw h w P A B).1 200 7 (nI d') a b = (sw h d' P A B).1 a b
  unfold up2 sw
  dsimp only
  by_cases c1 : a = 200
  · by_cases c2 : b = 7
    · simp [c1, c2]
    · simp [c1, c2]
  · simp [c1]
theorem sw_sP {m i : Nat} {x : Int32} (hm : 206 ≤ m ∧ m ≤ 209) : (up2 (sw h w P A B).1 m i x, (sw h w P A B).2) = sw h w (up2 P m i x) A B := by
  refine Prod.ext ?_ rfl
  funext a b
  show up2 (sw h w P A B).1 m i x a b = (sw h w (up2 P m i x) A B).1 a b
  unfold sw
  dsimp only
  by_cases c : a = m ∧ b = i
  · rw [if_neg (by omega), if_pos (by omega)]
    unfold up2
    rw [if_pos c, if_pos c]
  · unfold up2
    rw [if_neg c, if_neg c]
theorem sw_sA {i : Nat} {x : Int32} : (up2 (sw h w P A B).1 210 i x, (sw h w P A B).2) = sw h w P (upA A i x) B := by
  refine Prod.ext ?_ rfl
  funext a b
  show up2 (sw h w P A B).1 210 i x a b = (sw h w P (upA A i x) B).1 a b
  unfold sw up2 upA
  dsimp only
  by_cases c : a = 210
  · by_cases c2 : b = i
    · simp [c, c2]
    · simp [c, c2]
  · simp [c]
theorem sw_sB {i : Nat} {x : Int32} : (up2 (sw h w P A B).1 211 i x, (sw h w P A B).2) = sw h w P A (upA B i x) := by
  refine Prod.ext ?_ rfl
  funext a b
  show up2 (sw h w P A B).1 211 i x a b = (sw h w P A (upA B i x)).1 a b
  unfold sw up2 upA
  dsimp only
  by_cases c : a = 211
  · by_cases c2 : b = i
    · simp [c, c2]
    · simp [c, c2]
  · simp [c]
def pP (h : HP) (P : Nat → Nat → Int32) (w : Nat) (a b c : Int32) : Nat → Nat → Int32 := up2 (up2 (up2 (up2 P 206 w a) 207 w b) 208 w c) 209 w (h.1 200 12)
theorem s_want (hw : w < 200) (a b c : Int32) : s_AdjoinedSetsModel_want 200 a b c (sw h w P A B) = some (sw h (w + 1) (pP h P w a b c) A B) := by
  unfold s_AdjoinedSetsModel_want
  rw [rR_200_8, ob_s, rI_200_7, ob_s, sw_7, wA_206 hw, ob_s, sw_sP (by omega), rR_200_9, ob_s, rI_200_7, ob_s, sw_7, wA_207 hw, ob_s, sw_sP (by omega), rR_200_10, ob_s, rI_200_7, ob_s, sw_7, wA_208 hw, ob_s, sw_sP (by omega), rR_200_11, ob_s, rI_200_7, ob_s, sw_7, rI_200_12, ob_s, sw_12, wA_209 hw, ob_s, sw_sP (by omega), rI_200_7, ob_s, sw_7, nI_1, wI_200_7, ob_s, sw_s7]
  rfl
theorem pP_s (a b c : Int32) : pP h P w a b c 206 w = a ∧ pP h P w a b c 207 w = b := by
  unfold pP
  exact ⟨by rw [up2_n (by decide), up2_n (by decide), up2_n (by decide), u2_s], by rw [up2_n (by decide), up2_n (by decide), u2_s]⟩
theorem pP_l {a b c : Int32} {m i : Nat} (hi : i < w) : pP h P w a b c m i = P m i := by
  unfold pP
  rw [u2_j (by omega), u2_j (by omega), u2_j (by omega), u2_j (by omega)]
end
theorem nar1 : vp_nar .boolean 1 = 1 := by decide
theorem nar0 : vp_nar .boolean 0 = 0 := by decide
/-- one turn of the scan up to where it asks for the parts -/
theorem sc_turn {h : HP} {w : Nat} {P : Nat → Nat → Int32} {A B : Nat → Int32} {f j k : Nat} {c kd0 bo : Int32} (hw : w < 200) (hj : j < 64) (hf : f + j < 1500) (hc : h.1 201 (f + j) = c) (h6 : P 206 w = kd0) (h7 : P 207 w = bo) (hk : kd0 = 0 ∨ kd0 = 2) : s_AdjoinedSetsModel_scan_14 (k + 1) 200 (nI f) (nI (f + j)) (sw h (w + 1) P A B) = (if kd0 = 0 then ((s_AdjoinedSetsModel_isBinder c).bind fun q13 => if q13 = 0 then ((s_AdjoinedSetsModel_partsOf 200 c (sw h w P (upA A j (if 97 ≤ c ∧ c < 105 then 1 else 0)) (upA B j bo))).bind fun q16 => s_AdjoinedSetsModel_scan_158 (s_AdjoinedSetsModel_scan_14 k) 20000 200 (nI f) (nI (f + j)) bo q16 0 (sw h w P (upA A j (if 97 ≤ c ∧ c < 105 then 1 else 0)) (upA B j bo))) else ((aI (sw h w P (upA A j (if 97 ≤ c ∧ c < 105 then 1 else 0)) (upA B j bo)) 201 0 (nI (f + j + 1))).bind fun v20 => (s_AdjoinedSetsModel_bit v20).bind fun q22 => (s_AdjoinedSetsModel_want 200 0 (bo ||| q22) 0 (sw h w P (upA A j (if 97 ≤ c ∧ c < 105 then 1 else 0)) (upA B j bo))).bind fun q25 => (s_AdjoinedSetsModel_want 200 0 bo 0 q25).bind fun q28 => (s_AdjoinedSetsModel_want 200 2 bo 0 q28).bind fun q31 => s_AdjoinedSetsModel_scan_14 k 200 (nI f) (nI (f + j + 1)) q31)) else s_AdjoinedSetsModel_scan_14 k 200 (nI f) (nI (f + j + 1)) (sw h w P (upA A j 0) (upA B j bo))) := by
  have e : nI (f + j) - nI f = nI j := by rw [pk_sub (by omega)]; congr 1; omega
  have h81 : ∀ v, (v = 0 ∨ v = 1) → s_AdjoinedSetsModel_scan_81 (s_AdjoinedSetsModel_scan_14 k) 200 (nI f) (nI (f + j)) bo c 210 (nI j) v (sw h w P A B) = (if kd0 = 0 then ((s_AdjoinedSetsModel_isBinder c).bind fun q13 => if q13 = 0 then ((s_AdjoinedSetsModel_partsOf 200 c (sw h w P (upA A j v) (upA B j bo))).bind fun q16 => s_AdjoinedSetsModel_scan_158 (s_AdjoinedSetsModel_scan_14 k) 20000 200 (nI f) (nI (f + j)) bo q16 0 (sw h w P (upA A j v) (upA B j bo))) else ((aI (sw h w P (upA A j v) (upA B j bo)) 201 0 (nI (f + j + 1))).bind fun v20 => (s_AdjoinedSetsModel_bit v20).bind fun q22 => (s_AdjoinedSetsModel_want 200 0 (bo ||| q22) 0 (sw h w P (upA A j v) (upA B j bo))).bind fun q25 => (s_AdjoinedSetsModel_want 200 0 bo 0 q25).bind fun q28 => (s_AdjoinedSetsModel_want 200 2 bo 0 q28).bind fun q31 => s_AdjoinedSetsModel_scan_14 k 200 (nI f) (nI (f + j + 1)) q31)) else s_AdjoinedSetsModel_scan_14 k 200 (nI f) (nI (f + j + 1)) (sw h w P (upA A j v) (upA B j bo))) := by
    intro v hv
    have hnv : vp_nar .boolean v = v := by
      rcases hv with rfl | rfl
      · exact nar0
      · exact nar1
    unfold s_AdjoinedSetsModel_scan_81 s_AdjoinedSetsModel_scan_178
    rw [hnv, wA_210 hj, ob_s, sw_sA, rR_200_14, ob_s, e, wA_211 hj, ob_s, sw_sB, rR_200_8, ob_s, rI_200_7, ob_s, sw_7, rA_206 hw, ob_s, sw_206, h6, nI_1, rK_200, rR_200_0]
    rfl
  rw [s_AdjoinedSetsModel_scan_14]
  dsimp only
  unfold s_AdjoinedSetsModel_scan_80
  rw [rI_200_7, ob_s, sw_7, if_neg (show ¬ nI (w + 1) ≤ 0 from nI_ge (a := 0) (by omega) (by omega)), ob_s, nI_pred, wI_200_7, ob_s, sw_s7, rR_200_9, ob_s, rI_200_7, ob_s, sw_7, rA_207 hw, ob_s, sw_207, h7, rR_200_0, ob_s, rA_201 hf, ob_s, sw_201, hc, rR_200_13, ob_s, rR_200_8, ob_s, ob_s, rA_206 hw, ob_s, sw_206, h6, e]
  rcases hk with rfl | rfl
  · rw [if_pos rfl, ml_low, ob_s]
    by_cases hl : 97 ≤ c ∧ c < 105
    · rw [if_pos hl, if_neg (by decide), h81 1 (Or.inr rfl), if_pos rfl, if_pos rfl]
    · rw [if_neg hl, if_pos rfl, h81 0 (Or.inl rfl)]
  · rw [if_neg (by decide), h81 0 (Or.inl rfl)]
    rfl
/-- what the scan leaves between p and e -/
def SP (k : Nat → Nat) (t E : Nat → Int32) (s : Nat) (A B : Nat → Int32) : Nat → Int32 → Bool → Nat → Nat → Prop
  | 0 => fun _ _ _ _ => False
  | d + 1 => fun bo b p e => E p = nI e ∧ p < e ∧ A (p - s) = (if 97 ≤ t p ∧ t p < 105 then 1 else 0) ∧ B (p - s) = bo ∧ match b with
    | true => (((t p = 60 ∨ t p = 61) ∧ ∃ q, SP k t E s A B d bo false (p + 1) q ∧ SP k t E s A B d bo false q e) ∨ (t p = 33 ∧ SP k t E s A B d bo true (p + 1) e) ∨ ((t p = 94 ∨ t p = 118 ∨ t p = 62) ∧ ∃ q, SP k t E s A B d bo true (p + 1) q ∧ SP k t E s A B d bo true q e) ∨ ((t p = 69 ∨ t p = 76) ∧ isLw (t (p + 1)) ∧ A (p + 1 - s) = 0 ∧ B (p + 1 - s) = bo ∧ ∃ q, SP k t E s A B d bo false (p + 2) q ∧ SP k t E s A B d (bo ||| bitI (lwN (t (p + 1)))) true q e))
    | false => (((48 ≤ t p ∧ t p ≤ 57) ∧ e = p + 1) ∨ (isLw (t p) ∧ e = p + 1) ∨ ((65 ≤ t p ∧ t p < 69) ∧ 0 < k (t p - 65).toNatClampNeg ∧ its (SP k t E s A B d bo false) (k (t p - 65).toNatClampNeg) (p + 1) e) ∨ ((t p = 43 ∨ t p = 124 ∨ t p = 38 ∨ t p = 45) ∧ ∃ q, SP k t E s A B d bo false (p + 1) q ∧ SP k t E s A B d bo false q e) ∨ ((t p = 85 ∨ t p = 80 ∨ t p = 84) ∧ SP k t E s A B d bo false (p + 1) e) ∨ (t p = 123 ∧ isLw (t (p + 1)) ∧ A (p + 1 - s) = 0 ∧ B (p + 1 - s) = bo ∧ ∃ q, SP k t E s A B d bo false (p + 2) q ∧ SP k t E s A B d (bo ||| bitI (lwN (t (p + 1)))) true q e) ∨ (t p = 73 ∧ isLw (t (p + 1)) ∧ A (p + 1 - s) = 0 ∧ B (p + 1 - s) = bo ∧ ∃ q, SP k t E s A B d bo false (p + 2) q ∧ SP k t E s A B d (bo ||| bitI (lwN (t (p + 1)))) false q e))
section
variable {k : Nat → Nat} {t E : Nat → Int32} {s : Nat} {A B A' B' : Nat → Int32}
theorem SP_lt {d : Nat} {bo : Int32} {b : Bool} {p e : Nat} (h : SP k t E s A B d bo b p e) : p < e := by
  cases d with
  | zero => exact absurd h (fun z => z)
  | succ d => exact h.2.1
theorem its_cg {R R' : Nat → Nat → Prop} {lo hi : Nat} (hR : ∀ p e, lo ≤ p → e ≤ hi → R p e → R' p e) (hlt : ∀ p e, R p e → p < e) : ∀ (m p e : Nat), lo ≤ p → e ≤ hi → its R m p e → its R' m p e ∧ p ≤ e := by
  intro m
  induction m with
  | zero =>
    intro p e _ _ h
    have h : p = e := h
    exact ⟨h, by omega⟩
  | succ m ih =>
    intro p e hp he h
    obtain ⟨q, h1, h2⟩ := h
    have a := hlt p q h1
    have hq : q ≤ e := by
      have : ∀ m q e, its R m q e → q ≤ e := by
        intro m
        induction m with
        | zero => intro q e h; exact Nat.le_of_eq h
        | succ m ih2 =>
          intro q e h
          obtain ⟨q2, a1, a2⟩ := h
          have := hlt _ _ a1
          have := ih2 q2 e a2
          omega
      exact this m q e h2
    exact ⟨⟨q, hR p q hp (by omega) h1, (ih q e (by omega) he h2).1⟩, by omega⟩
theorem SP_cg : ∀ (d : Nat) (bo : Int32) (b : Bool) (p e : Nat), s ≤ p → (∀ j, p - s ≤ j → j < e - s → A' j = A j ∧ B' j = B j) → SP k t E s A B d bo b p e → SP k t E s A' B' d bo b p e := by
  intro d
  induction d with
  | zero => intro bo b p e _ _ h; exact absurd h (fun z => z)
  | succ d ih =>
    intro bo b p e hs hab h
    obtain ⟨h1, h2, h3, h4, h5⟩ := h
    have sub : ∀ (bo : Int32) (b : Bool) (p' e' : Nat), p ≤ p' → e' ≤ e → SP k t E s A B d bo b p' e' → SP k t E s A' B' d bo b p' e' := fun bo b p' e' hp he z => ih bo b p' e' (by omega) (fun j a b => hab j (by omega) (by omega)) z
    have two : ∀ (b0 b1 : Int32) (c1 c2 : Bool) (p' : Nat), p ≤ p' → (∃ q, SP k t E s A B d b0 c1 p' q ∧ SP k t E s A B d b1 c2 q e) → ∃ q, SP k t E s A' B' d b0 c1 p' q ∧ SP k t E s A' B' d b1 c2 q e := by
      intro b0 b1 c1 c2 p' hp ⟨q, z1, z2⟩
      have l1 := SP_lt z1
      have l2 := SP_lt z2
      exact ⟨q, sub _ _ _ _ hp (by omega) z1, sub _ _ _ _ (by omega) (Nat.le_refl _) z2⟩
    have lt2 : ∀ (b0 b1 : Int32) (c1 c2 : Bool) (p' : Nat), (∃ q, SP k t E s A B d b0 c1 p' q ∧ SP k t E s A B d b1 c2 q e) → p' < e := by
      intro b0 b1 c1 c2 p' ⟨q, z1, z2⟩
      have l1 := SP_lt z1
      have l2 := SP_lt z2
      omega
    refine ⟨h1, h2, by rw [(hab (p - s) (by omega) (by omega)).1]; exact h3, by rw [(hab (p - s) (by omega) (by omega)).2]; exact h4, ?_⟩
    have nm : ∀ {p' : Nat}, p' = p + 2 → p' < e → ∀ {v1 v2 : Int32}, A (p + 1 - s) = v1 → B (p + 1 - s) = v2 → A' (p + 1 - s) = v1 ∧ B' (p + 1 - s) = v2 := by
      intro p' hp' hlt v1 v2 z1 z2
      exact ⟨by rw [(hab (p + 1 - s) (by omega) (by omega)).1]; exact z1, by rw [(hab (p + 1 - s) (by omega) (by omega)).2]; exact z2⟩
    cases b with
    | true =>
      rcases h5 with ⟨a, b⟩ | ⟨a, b⟩ | ⟨a, b⟩ | ⟨a, a2, a3, a4, b⟩
      · exact Or.inl ⟨a, two _ _ _ _ _ (by omega) b⟩
      · exact Or.inr (Or.inl ⟨a, sub _ _ _ _ (by omega) (Nat.le_refl _) b⟩)
      · exact Or.inr (Or.inr (Or.inl ⟨a, two _ _ _ _ _ (by omega) b⟩))
      · obtain ⟨n1, n2⟩ := nm rfl (lt2 _ _ _ _ _ b) a3 a4
        exact Or.inr (Or.inr (Or.inr ⟨a, a2, n1, n2, two _ _ _ _ _ (by omega) b⟩))
    | false =>
      rcases h5 with ⟨a, b⟩ | ⟨a, b⟩ | ⟨a, a2, b⟩ | ⟨a, b⟩ | ⟨a, b⟩ | ⟨a, a2, a3, a4, b⟩ | ⟨a, a2, a3, a4, b⟩
      · exact Or.inl ⟨a, b⟩
      · exact Or.inr (Or.inl ⟨a, b⟩)
      · exact Or.inr (Or.inr (Or.inl ⟨a, a2, (its_cg (lo := p) (hi := e) (fun p' e' x y z => sub _ _ _ _ x y z) (fun _ _ z => SP_lt z) _ _ _ (by omega) (Nat.le_refl _) b).1⟩))
      · exact Or.inr (Or.inr (Or.inr (Or.inl ⟨a, two _ _ _ _ _ (by omega) b⟩)))
      · exact Or.inr (Or.inr (Or.inr (Or.inr (Or.inl ⟨a, sub _ _ _ _ (by omega) (Nat.le_refl _) b⟩))))
      · obtain ⟨n1, n2⟩ := nm rfl (lt2 _ _ _ _ _ b) a3 a4
        exact Or.inr (Or.inr (Or.inr (Or.inr (Or.inr (Or.inl ⟨a, a2, n1, n2, two _ _ _ _ _ (by omega) b⟩)))))
      · obtain ⟨n1, n2⟩ := nm rfl (lt2 _ _ _ _ _ b) a3 a4
        exact Or.inr (Or.inr (Or.inr (Or.inr (Or.inr (Or.inr ⟨a, a2, n1, n2, two _ _ _ _ _ (by omega) b⟩)))))
end
