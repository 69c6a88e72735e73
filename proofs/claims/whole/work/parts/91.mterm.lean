/-! The model's reader: a term's step. -/
theorem cl_dig {c : Int32} (h : 48 ≤ c ∧ c ≤ 57) : s_AdjoinedSetsModel_isPair c = some 0 ∧ s_AdjoinedSetsModel_isSingle c = some 0 ∧ s_AdjoinedSetsModel_isBinder c = some 0 ∧ s_AdjoinedSetsModel_isFunction c = some 0 ∧ s_AdjoinedSetsModel_isLow c = some 0 ∧ s_AdjoinedSetsModel_beginsTerm c = some 1 ∧ c ≠ 33 ∧ c ≠ 94 ∧ c ≠ 118 ∧ c ≠ 62 := by
  have h0 : ¬ c < 0 := by
    have := Int32.le_iff_toInt_le.mp h.1
    have a : (48 : Int32).toInt = 48 := by decide
    rw [Int32.lt_iff_toInt_lt]
    have b : (0 : Int32).toInt = 0 := by decide
    omega
  obtain ⟨j, hj, rfl⟩ := nI_of h0
  have h1 : 48 ≤ j := (nI_leI (a := 48) (by decide) hj).mp h.1
  have h2 : j ≤ 57 := (nI_leI (b := 57) hj (by decide)).mp h.2
  exact (show ∀ j, j < 58 → 48 ≤ j → (s_AdjoinedSetsModel_isPair (nI j) = some 0 ∧ s_AdjoinedSetsModel_isSingle (nI j) = some 0 ∧ s_AdjoinedSetsModel_isBinder (nI j) = some 0 ∧ s_AdjoinedSetsModel_isFunction (nI j) = some 0 ∧ s_AdjoinedSetsModel_isLow (nI j) = some 0 ∧ s_AdjoinedSetsModel_beginsTerm (nI j) = some 1 ∧ nI j ≠ 33 ∧ nI j ≠ 94 ∧ nI j ≠ 118 ∧ nI j ≠ 62) by decide) j (by omega) h1
theorem cl_low {c : Int32} (h : 97 ≤ c ∧ c < 105) : s_AdjoinedSetsModel_isPair c = some 0 ∧ s_AdjoinedSetsModel_isSingle c = some 0 ∧ s_AdjoinedSetsModel_isBinder c = some 0 ∧ s_AdjoinedSetsModel_isFunction c = some 0 ∧ s_AdjoinedSetsModel_isLow c = some 1 ∧ s_AdjoinedSetsModel_beginsTerm c = some 1 ∧ c ≠ 33 ∧ c ≠ 94 ∧ c ≠ 118 ∧ c ≠ 62 := by
  obtain ⟨j, h1, h2, rfl⟩ := lw_q h
  exact (show ∀ j, j < 105 → 97 ≤ j → (s_AdjoinedSetsModel_isPair (nI j) = some 0 ∧ s_AdjoinedSetsModel_isSingle (nI j) = some 0 ∧ s_AdjoinedSetsModel_isBinder (nI j) = some 0 ∧ s_AdjoinedSetsModel_isFunction (nI j) = some 0 ∧ s_AdjoinedSetsModel_isLow (nI j) = some 1 ∧ s_AdjoinedSetsModel_beginsTerm (nI j) = some 1 ∧ nI j ≠ 33 ∧ nI j ≠ 94 ∧ nI j ≠ 118 ∧ nI j ≠ 62) by decide) j h2 h1
theorem cl_fun {c : Int32} (h : 65 ≤ c ∧ c < 69) : s_AdjoinedSetsModel_isPair c = some 0 ∧ s_AdjoinedSetsModel_isSingle c = some 0 ∧ s_AdjoinedSetsModel_isBinder c = some 0 ∧ s_AdjoinedSetsModel_isFunction c = some 1 ∧ c ≠ 33 ∧ c ≠ 94 ∧ c ≠ 118 ∧ c ≠ 62 := by
  have h0 : ¬ c < 0 := by
    have := Int32.le_iff_toInt_le.mp h.1
    have a : (65 : Int32).toInt = 65 := by decide
    rw [Int32.lt_iff_toInt_lt]
    have b : (0 : Int32).toInt = 0 := by decide
    omega
  obtain ⟨j, hj, rfl⟩ := nI_of h0
  have h1 : 65 ≤ j := (nI_leI (a := 65) (by decide) hj).mp h.1
  have h2 : j < 69 := (nI_ltI (b := 69) hj (by decide)).mp h.2
  exact (show ∀ j, j < 69 → 65 ≤ j → (s_AdjoinedSetsModel_isPair (nI j) = some 0 ∧ s_AdjoinedSetsModel_isSingle (nI j) = some 0 ∧ s_AdjoinedSetsModel_isBinder (nI j) = some 0 ∧ s_AdjoinedSetsModel_isFunction (nI j) = some 1 ∧ nI j ≠ 33 ∧ nI j ≠ 94 ∧ nI j ≠ 118 ∧ nI j ≠ 62) by decide) j h2 h1
theorem po_0 {c : Int32} {h : HP} (a : s_AdjoinedSetsModel_isPair c = some 0) (b : s_AdjoinedSetsModel_isSingle c = some 0) (b2 : s_AdjoinedSetsModel_isBinder c = some 0) (d : s_AdjoinedSetsModel_isFunction c = some 0) : s_AdjoinedSetsModel_partsOf 200 c h = some 0 := by
  unfold s_AdjoinedSetsModel_partsOf
  rw [a, ob_s, if_pos rfl, b, ob_s, if_pos rfl, b2, ob_s, if_pos rfl, d, ob_s, if_pos rfl]
theorem po_f {K : Nat → Nat} {n : Nat} {t : Nat → Int32} {c : Int32} {h : HP} (hm : MR K n t h) (hc : 65 ≤ c ∧ c < 69) : s_AdjoinedSetsModel_partsOf 200 c h = some (nI (K (fnN c))) := by
  obtain ⟨a, b, b2, d, _⟩ := cl_fun hc
  obtain ⟨e, f4⟩ := fn_n hc
  unfold s_AdjoinedSetsModel_partsOf
  rw [a, ob_s, if_pos rfl, b, ob_s, if_pos rfl, b2, ob_s, if_pos rfl, d, ob_s, if_neg (by decide), rR_200_3, ob_s, e, rA_203 f4, ob_s, hm.2.2 _ f4]
theorem go0_f {K : Nat → Nat} {n : Nat} {t : Nat → Int32} {c own lm bo me : Int32} {h : HP} (hm : MR K n t h) (hc : 65 ≤ c ∧ c < 69) (hK : K (fnN c) ≤ 3) : s_AdjoinedSetsModel_goesOn 200 c 0 own lm bo me h = some (if K (fnN c) = 0 then 0 else 1) := by
  obtain ⟨a, b, b2, d, _⟩ := cl_fun hc
  obtain ⟨e, f4⟩ := fn_n hc
  unfold s_AdjoinedSetsModel_goesOn
  rw [if_neg (by decide), if_neg (by decide), if_neg (by decide), d, ob_s, if_neg (by decide), rR_200_3, ob_s, e, rA_203 f4, ob_s, hm.2.2 _ f4]
  by_cases k0 : K (fnN c) = 0
  · rw [if_pos k0, k0, if_pos (by decide)]
  · rw [if_neg k0, if_neg (show ¬ nI (K (fnN c)) ≤ 0 from nI_ge (a := 0) (by omega) (by omega))]
theorem go0_l {c own lm bo me : Int32} {h : HP} {sc : Nat → Nat} {lt : Nat} (hc : 97 ≤ c ∧ c < 105) (hr : rel sc bo me) (hlm : (own < 0 ∧ lt = 8) ∨ (¬ own < 0 ∧ lm = nI lt ∧ lt ≤ 8)) : s_AdjoinedSetsModel_goesOn 200 c 0 own lm bo me h = some (if lwN c < lt ∨ sc (lwN c) ≠ 0 then 1 else 0) := by
  obtain ⟨_, _, _, d, e, f, _⟩ := cl_low hc
  obtain ⟨el, l8⟩ := lw_n hc
  unfold s_AdjoinedSetsModel_goesOn s_AdjoinedSetsModel_goesOn_119
  rw [if_neg (by decide), if_neg (by decide), if_neg (by decide), d, ob_s, if_pos rfl, e, ob_s, if_neg (by decide)]
  rcases hlm with ⟨h1, h2⟩ | ⟨h1, h2, h3⟩
  · rw [if_pos h1, f, ob_s, if_pos (Or.inl (by omega))]
    rfl
  · rw [if_neg h1, ml_bit hc, ob_s, el, h2]
    have hb : (bo &&& bitI (lwN c)) = 0 ↔ sc (lwN c) = 0 := by
      rw [tb_z bo l8, (hr _ l8).1]
      simp
    by_cases c1 : sc (lwN c) = 0
    · rw [if_pos (hb.mpr c1)]
      by_cases c2 : lwN c < lt
      · rw [if_neg (nI_ge (by omega) (by omega)), if_pos (Or.inl c2)]
      · rw [if_pos (nI_le (by omega) (by omega)), if_neg (fun q => q.elim c2 (fun q => q c1))]
    · rw [if_neg (fun q => c1 (hb.mp q)), if_pos (Or.inr c1)]
theorem go3 {c own lm bo me : Int32} {h : HP} {sc : Nat → Nat} (hr : rel sc bo me) : s_AdjoinedSetsModel_goesOn 200 c 3 own lm bo me h = some (if (97 ≤ c ∧ c < 105) ∧ sc (lwN c) = 2 then 1 else 0) := by
  unfold s_AdjoinedSetsModel_goesOn
  rw [if_neg (by decide), if_pos rfl, ml_low, ob_s]
  by_cases hc : 97 ≤ c ∧ c < 105
  · obtain ⟨el, l8⟩ := lw_n hc
    rw [if_pos hc, if_neg (by decide), ml_bit hc, ob_s, ob_s]
    have hb : (bo &&& bitI (lwN c)) = 0 ↔ sc (lwN c) = 0 := by
      rw [tb_z bo l8, (hr _ l8).1]
      simp
    have hb2 : (me &&& bitI (lwN c)) = 0 ↔ ¬ sc (lwN c) = 2 := by
      rw [tb_z me l8, (hr _ l8).2]
      simp
    by_cases c1 : sc (lwN c) = 2
    · rw [if_neg (fun q => by have := hb.mp q; omega), if_neg (fun q => (hb2.mp q) c1), if_pos ⟨hc, c1⟩]
    · rw [if_neg (c := (97 ≤ c ∧ c < 105) ∧ sc (lwN c) = 2) (fun q => c1 q.2), if_pos (hb2.mpr c1)]
      split <;> rfl
  · rw [if_neg hc, if_pos rfl, if_neg (fun q => hc q.1)]
