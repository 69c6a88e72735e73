/-! The model's reader: one step of its loop. -/
def MR (K : Nat → Nat) (n : Nat) (t : Nat → Int32) (h : HP) : Prop := h.1 200 1 = nI n ∧ (∀ p, p < n → h.1 201 p = t p) ∧ ∀ f, f < 4 → h.1 203 f = nI (K f)
theorem MR.o {K : Nat → Nat} {n : Nat} {t : Nat → Int32} {h h' : HP} (ho : o200 h h') (hm : MR K n t h) : MR K n t h' := ⟨by rw [ho.2.2 1 (by decide) (by decide)]; exact hm.1, fun p hp => by rw [ho.1 201 (by decide) (Or.inl (by decide))]; exact hm.2.1 p hp, fun f hf => by rw [ho.1 203 (by decide) (Or.inl (by decide))]; exact hm.2.2 f hf⟩
theorem m_187 {c own bo me v u : Int32} {m : Nat} (hm : m ≤ 3) (hu : u = if (65 ≤ c ∧ c < 69) ∧ c - 65 = own then 3 else v) : ∀ (i j r w : Nat) (h : HP), j + i = m → 1 ≤ j → i < r → w + i < 200 → h.1 200 7 = nI w → ∃ h', s_AdjoinedSetsModel_wantParts_187 r 200 c own bo me v (nI m) (nI j) h = some h' ∧ low w h h' ∧ h'.1 200 7 = nI (w + i + 1) ∧ h'.1 200 12 = h.1 200 12 ∧ (∀ q, q < i → itm h' (w + q) v bo me (h.1 200 12)) ∧ itm h' (w + i) u bo me (h.1 200 12) := by
  intro i
  induction i with
  | zero =>
    intro j r w h hj h1 hr hw h7
    obtain ⟨r, rfl⟩ : ∃ r0, r = r0 + 1 := ⟨r - 1, by omega⟩
    rw [s_AdjoinedSetsModel_wantParts_187]
    dsimp only
    rw [if_pos (nI_le (by omega) (by omega)), if_neg (show ¬ nI m ≤ 0 from nI_ge (a := 0) (by omega) (by omega)), ml_fun, ob_s]
    unfold s_AdjoinedSetsModel_wantParts_235 s_AdjoinedSetsModel_wantParts_237
    obtain ⟨h', f, a1, a2, a3, a4⟩ := m_want (a := u) (b := bo) (c := me) h7 (by omega)
    refine ⟨h', ?_, a1, a2, a3, fun q hq => by omega, a4⟩
    have k9 : kd 200 9 = some () := rfl
    by_cases c1 : 65 ≤ c ∧ c < 69
    · rw [if_pos c1, if_neg (by decide)]
      by_cases c2 : c - 65 = own
      · rw [if_pos c2, k9, ob_s]
        rw [hu, if_pos ⟨c1, c2⟩] at f
        rw [f, ob_s]
      · rw [if_neg c2, k9, ob_s]
        rw [hu, if_neg (fun q => c2 q.2)] at f
        rw [f, ob_s]
    · rw [if_neg c1, if_pos rfl, k9, ob_s]
      rw [hu, if_neg (fun q => c1 q.1)] at f
      rw [f, ob_s]
  | succ i ih =>
    intro j r w h hj h1 hr hw h7
    obtain ⟨r, rfl⟩ : ∃ r0, r = r0 + 1 := ⟨r - 1, by omega⟩
    rw [s_AdjoinedSetsModel_wantParts_187]
    dsimp only
    have k9 : kd 200 9 = some () := rfl
    obtain ⟨h1', f, a1, a2, a3, a4⟩ := m_want (a := v) (b := bo) (c := me) h7 (by omega)
    rw [if_neg (nI_ge (by omega) (by omega)), k9, ob_s, f, ob_s, nI_1]
    obtain ⟨h', g, b1, b2, b3, b4, b5⟩ := ih (j + 1) r (w + 1) h1' (by omega) (by omega) (by omega) (by omega) a2
    rw [a3] at b3 b4 b5
    refine ⟨h', g, a1.tr (by omega) b1, by rw [b2]; congr 1; omega, b3, fun q hq => ?_, ?_⟩
    · by_cases e : q = 0
      · subst e
        exact b1.itm (by omega) a4
      · have := b4 (q - 1) (by omega)
        have e2 : w + 1 + (q - 1) = w + q := by omega
        rw [e2] at this
        exact this
    · have e2 : w + 1 + i = w + (i + 1) := by omega
      rw [e2] at b5
      exact b5
section LOOP
variable {K : Nat → Nat} {n : Nat} {t : Nat → Int32}
theorem m_end {h : HP} {w r : Nat} {own lt : Int32} (hn : n ≤ 60) (hm : MR K n t h) (hw : w + 1 < 200) (h7 : h.1 200 7 = nI (w + 1)) : s_AdjoinedSetsModel_wrong_20 (r + 1) 200 own lt (nI n) h = some (nI n, h) := by
  rw [s_AdjoinedSetsModel_wrong_20]
  dsimp only
  rw [rI_200_7, ob_s, h7, if_neg (show ¬ nI (w + 1) ≤ 0 from nI_ge (a := 0) (by omega) (by omega)), rI_200_1, ob_s, hm.1, if_pos rfl]
theorem m_iter {h : HP} {w r p : Nat} {own lt a bo me D : Int32} (hn : n ≤ 60) (hp : p < n) (hm : MR K n t h) (hw : w + 1 < 200) (h7 : h.1 200 7 = nI (w + 1)) (hi : itm h w a bo me D) : ∃ h1, (∀ q, low q h h1) ∧ h1.1 200 7 = nI w ∧ h1.1 200 12 = D + 1 ∧ s_AdjoinedSetsModel_wrong_20 (r + 1) 200 own lt (nI p) h = if a ≠ 2 ∧ 13 < D + 1 then some (nI p, h1) else (s_AdjoinedSetsModel_goesOn 200 (t p) a own lt bo me h1).bind fun q => if q = 0 then some (nI p, h1) else if a = 0 ∨ a = 1 then (s_AdjoinedSetsModel_wantParts 200 (nI p) (t p) own bo me h1).bind fun q => s_AdjoinedSetsModel_wrong_20 r 200 own lt (nI (p + 1)) q else s_AdjoinedSetsModel_wrong_20 r 200 own lt (nI (p + 1)) h1 := by
  have lo : ∀ q, low q h (up2 (up2 h.1 200 7 (nI w)) 200 12 (D + 1), h.2) := by
    intro q
    refine ⟨⟨fun m x _ => ?_, rfl, fun j x y => ?_⟩, fun m x _ j _ => ?_⟩
    · show up2 (up2 h.1 200 7 (nI w)) 200 12 (D + 1) m = _
      rw [up2_n x, up2_n x]
    · show up2 (up2 h.1 200 7 (nI w)) 200 12 (D + 1) 200 j = _
      rw [u2_i y, u2_i x]
    · show up2 (up2 h.1 200 7 (nI w)) 200 12 (D + 1) m j = _
      rw [up2_n (by omega), up2_n (by omega)]
  have v7 : (up2 (up2 h.1 200 7 (nI w)) 200 12 (D + 1), h.2).1 200 7 = nI w := by
    show up2 (up2 h.1 200 7 (nI w)) 200 12 (D + 1) 200 7 = _
    rw [u2_i (by decide), u2_s]
  have v12 : (up2 (up2 h.1 200 7 (nI w)) 200 12 (D + 1), h.2).1 200 12 = D + 1 := by
    show up2 (up2 h.1 200 7 (nI w)) 200 12 (D + 1) 200 12 = _
    rw [u2_s]
  refine ⟨_, lo, v7, v12, ?_⟩
  have n7 : (up2 h.1 200 7 (nI w), h.2).1 200 7 = nI w := by
    show up2 h.1 200 7 (nI w) 200 7 = _
    rw [u2_s]
  have nx : ∀ m, m ≠ 200 → (up2 h.1 200 7 (nI w), h.2).1 m = h.1 m := by
    intro m hm
    show up2 h.1 200 7 (nI w) m = _
    rw [up2_n hm]
  rw [s_AdjoinedSetsModel_wrong_20]
  dsimp only
  rw [rI_200_7, ob_s, h7, if_neg (show ¬ nI (w + 1) ≤ 0 from nI_ge (a := 0) (by omega) (by omega)), rI_200_1, ob_s, hm.1, if_neg (fun q => by have := congrArg Int32.toNatClampNeg q; rw [nI_clamp (by omega), nI_clamp (by omega)] at this; omega), ob_s]
  rw [show nI (w + 1) - 1 = nI w from pk_sub (a := w + 1) (b := 1) (by omega), wI_200_7, ob_s, rR_200_9, ob_s, rI_200_7, ob_s, n7, rA_207 (by omega), ob_s, rR_200_10, ob_s, ob_s, rA_208 (by omega), ob_s, rR_200_8, ob_s, ob_s, rA_206 (by omega), ob_s, rR_200_11, ob_s, ob_s, rA_209 (by omega), ob_s, wI_200_12, ob_s]
  rw [nx 206 (by decide), nx 207 (by decide), nx 208 (by decide), nx 209 (by decide), hi.1, hi.2.1, hi.2.2.1, hi.2.2.2]
  have hm1 := MR.o (lo 0).1 hm
  have X : s_AdjoinedSetsModel_wrong_112 (s_AdjoinedSetsModel_wrong_20 r) 200 own lt (nI p) bo me a (up2 (up2 h.1 200 7 (nI w)) 200 12 (D + 1), h.2) = (s_AdjoinedSetsModel_goesOn 200 (t p) a own lt bo me (up2 (up2 h.1 200 7 (nI w)) 200 12 (D + 1), h.2)).bind fun q => if q = 0 then some (nI p, (up2 (up2 h.1 200 7 (nI w)) 200 12 (D + 1), h.2)) else if a = 0 ∨ a = 1 then (s_AdjoinedSetsModel_wantParts 200 (nI p) (t p) own bo me (up2 (up2 h.1 200 7 (nI w)) 200 12 (D + 1), h.2)).bind fun q => s_AdjoinedSetsModel_wrong_20 r 200 own lt (nI (p + 1)) q else s_AdjoinedSetsModel_wrong_20 r 200 own lt (nI (p + 1)) (up2 (up2 h.1 200 7 (nI w)) 200 12 (D + 1), h.2) := by
    have k9 : kd 200 9 = some () := rfl
    have w148 : s_AdjoinedSetsModel_wrong_148 (s_AdjoinedSetsModel_wrong_20 r) 200 own lt (nI p) bo me (up2 (up2 h.1 200 7 (nI w)) 200 12 (D + 1), h.2) = (s_AdjoinedSetsModel_wantParts 200 (nI p) (t p) own bo me (up2 (up2 h.1 200 7 (nI w)) 200 12 (D + 1), h.2)).bind fun q => s_AdjoinedSetsModel_wrong_20 r 200 own lt (nI (p + 1)) q := by
      unfold s_AdjoinedSetsModel_wrong_148 s_AdjoinedSetsModel_wrong_166
      rw [rR_200_0, ob_s, rA_201 (by omega), ob_s, hm1.2.1 p hp, k9, ob_s, nI_1]
    unfold s_AdjoinedSetsModel_wrong_112 s_AdjoinedSetsModel_wrong_166
    rw [w148, rR_200_0, ob_s, rA_201 (by omega), ob_s, hm1.2.1 p hp, k9, ob_s, nI_1]
    congr 1
    funext q
    by_cases c1 : q = 0
    · rw [if_pos c1, if_pos c1]
    · rw [if_neg c1, if_neg c1]
      by_cases c2 : a = 0
      · rw [if_pos c2, if_pos (Or.inl c2)]
      · rw [if_neg c2]
        by_cases c3 : a = 1
        · rw [if_pos c3, if_pos (Or.inr c3)]
        · rw [if_neg c3, if_neg (fun q => q.elim c2 c3)]
  by_cases c1 : a = 2
  · rw [if_pos c1, if_neg (fun q => q.1 c1)]
    exact X
  · rw [if_neg c1]
    rw [show gI (up2 (up2 h.1 200 7 (nI w)) 200 12 (D + 1), h.2) 200 9 12 = some (D + 1) from congrArg some v12, ob_s]
    by_cases c2 : 13 < D + 1
    · rw [if_pos c2, if_pos ⟨c1, c2⟩]
    · rw [if_neg c2, if_neg (fun q => c2 q.2)]
      exact X
end LOOP
