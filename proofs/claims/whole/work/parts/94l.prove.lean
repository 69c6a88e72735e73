/-! prove, out of what is said of the rules. -/
/-- what the rules' work leaves -/
def kq (h h' : HP) : Prop := (∀ n, n ≠ 6 → n ≠ 11 → n ≠ 13 → n ≠ 14 → n ≠ 15 → n ≠ 16 → n ≠ 103 → n ≠ 104 → n ≠ 105 → h'.1 n = h.1 n) ∧ h'.2.1 = h.2.1
theorem kq.rf (h : HP) : kq h h := ⟨fun _ _ _ _ _ _ _ _ _ _ => rfl, rfl⟩
theorem kq.tr {a b c : HP} (h1 : kq a b) (h2 : kq b c) : kq a c := ⟨fun n a1 a2 a3 a4 a5 a6 a7 a8 a9 => (h2.1 n a1 a2 a3 a4 a5 a6 a7 a8 a9).trans (h1.1 n a1 a2 a3 a4 a5 a6 a7 a8 a9), h2.2.trans h1.2⟩
theorem kq_kp {h h' : HP} (hk : kq h h') : kp h h' := by
  refine ⟨fun n hn hw => ⟨hk.1 n ?_ ?_ ?_ ?_ ?_ ?_ ?_ ?_ ?_, by rw [hk.2]⟩, fun n hn => ⟨hk.1 n (by omega) (by omega) (by omega) (by omega) (by omega) (by omega) (by omega) (by omega) (by omega), by rw [hk.2]⟩⟩ <;> (intro q; rw [q] at hw; revert hw; decide)
theorem cT_kq {h h' : HP} {t : Nat} {x : TX} (hk : kq h h') (ht : t = 100 ∨ 106 ≤ t) (hc : cT h t x) : cT h' t x := by
  obtain ⟨⟨a1, a2, a3⟩, a4⟩ := hc
  refine ⟨⟨a1, by rw [hk.1 t (by omega) (by omega) (by omega) (by omega) (by omega) (by omega) (by omega) (by omega) (by omega)]; exact a2, a3⟩, fun p hp => by rw [hk.1 (t + 1) (by omega) (by omega) (by omega) (by omega) (by omega) (by omega) (by omega) (by omega) (by omega)]; exact a4 p hp⟩
theorem cE_kq {h h' : HP} {t : Nat} {x : TX} (hk : kq h h') (ht : t = 100 ∨ 106 ≤ t) (hc : cE h t x) : cE h' t x := fun p hp => by rw [hk.1 (t + 2) (by omega) (by omega) (by omega) (by omega) (by omega) (by omega) (by omega) (by omega) (by omega)]; exact hc p hp
theorem CA_kq {S : SG} {h h' : HP} (hk : kq h h') (hw : WF S) (hc : CA S h) : CA S h' := CA_kp (kq_kp hk) hw hc (cT_kq hk (Or.inl rfl) hc.1)
/-- class and model allow a rule alike -/
def ALR (S : SG) (E : Nat → Int32) (rule i j : Int32) : Prop := ∃ r : Int32, (r = 0 ∨ r = 1) ∧ (∀ h, CA S h → cE h 100 (xB S E) → ∃ h', s_Rules_allow 6 rule i j h = some (r, h') ∧ kq h h') ∧ ∀ H, MA S H → ∃ H', s_AdjoinedSetsModel_allows 200 rule i j H = some (r, H') ∧ MA S H' ∧ sC H H'
abbrev thm (S : SG) (i : Int32) : Prop := ¬ i < 0 ∧ ¬ nI (gC S) ≤ i
abbrev vld (S : SG) (k : Nat) (i j : Int32) : Prop := (9 ≤ k ∧ k ≤ 12 → thm S i) ∧ (k = 9 ∨ k = 12 → thm S j) ∧ (k = 10 → ¬ j < 0 ∧ ¬ 8 ≤ j)
theorem has_t {S : SG} {h : HP} {i : Int32} (hc : CA S h) : (thm S i → s_Laws_has 3 i h = some 1) ∧ (¬ thm S i → s_Laws_has 3 i h = some 0) := by
  rw [c_has hc]
  by_cases h1 : i < 0
  · exact ⟨fun q => absurd h1 q.1, fun _ => by rw [if_pos h1]⟩
  · rw [if_neg h1]
    by_cases h2 : nI (gC S) ≤ i
    · exact ⟨fun q => absurd h2 q.2, fun _ => by rw [if_pos h2]⟩
    · exact ⟨fun _ => by rw [if_neg h2], fun q => absurd ⟨h1, h2⟩ q⟩
theorem is_t {S : SG} {h : HP} {i : Int32} (hm : MA S h) : (thm S i → s_AdjoinedSetsModel_isTheorem 200 i h = some 1) ∧ (¬ thm S i → s_AdjoinedSetsModel_isTheorem 200 i h = some 0) := by
  rw [m_is hm]
  by_cases h1 : i < 0
  · exact ⟨fun q => absurd h1 q.1, fun _ => by rw [if_pos h1]⟩
  · rw [if_neg h1]
    by_cases h2 : nI (gC S) ≤ i
    · exact ⟨fun q => absurd h2 q.2, fun _ => by rw [if_pos h2]⟩
    · exact ⟨fun _ => by rw [if_neg h2], fun q => absurd ⟨h1, h2⟩ q⟩
theorem nk {k m : Nat} (hk : k < 18) (hm : m < 18) (h : k ≠ m) : ¬ nI k = nI m := fun q => h ((nI_eq (by omega) (by omega)).mp q)
theorem c_names {S : SG} {h : HP} {k : Nat} {i j : Int32} (hk : k < 18) (hc : CA S h) : (vld S k i j → s_AdjoinedSets_namesWhatIsThere 0 (nI k) i j h = some 1) ∧ (¬ vld S k i j → s_AdjoinedSets_namesWhatIsThere 0 (nI k) i j h = some 0) := by
  have z1 : zr 1 = some () := rfl
  have z0 : zr 0 = some () := rfl
  have h32 : (thm S i ∧ thm S j → s_AdjoinedSets_namesWhatIsThere_32 0 i j h = some 1) ∧ (¬ (thm S i ∧ thm S j) → s_AdjoinedSets_namesWhatIsThere_32 0 i j h = some 0) := by
    unfold s_AdjoinedSets_namesWhatIsThere_32
    by_cases a : thm S i
    · by_cases b : thm S j
      · exact ⟨fun _ => by rw [rR_0_3, ob_s, rK_3, ob_s, (has_t hc).1 a, ob_s, if_neg (by decide), ob_s, rK_3, ob_s, (has_t hc).1 b, ob_s, if_neg (by decide)], fun q => absurd ⟨a, b⟩ q⟩
      · exact ⟨fun q => absurd q.2 b, fun _ => by rw [rR_0_3, ob_s, rK_3, ob_s, (has_t hc).1 a, ob_s, if_neg (by decide), ob_s, rK_3, ob_s, (has_t hc).2 b, ob_s, if_pos rfl]⟩
    · exact ⟨fun q => absurd q.1 a, fun _ => by rw [rR_0_3, ob_s, rK_3, ob_s, (has_t hc).2 a, ob_s, if_pos rfl]⟩
  unfold s_AdjoinedSets_namesWhatIsThere
  by_cases h9 : k = 9
  · subst h9
    rw [if_pos (show nI 9 = 9 from rfl)]
    exact ⟨fun q => h32.1 ⟨q.1 (by omega), q.2.1 (by omega)⟩, fun q => h32.2 (fun z => q ⟨fun _ => z.1, fun _ => z.2, fun z => absurd z (by omega)⟩)⟩
  rw [if_neg (show ¬ nI k = 9 from nk (m := 9) hk (by omega) h9)]
  by_cases h10 : k = 10
  · subst h10
    rw [if_pos (show nI 10 = 10 from rfl), rR_0_3, ob_s, rK_3, ob_s]
    by_cases a : thm S i
    · rw [(has_t hc).1 a, ob_s, if_neg (by decide)]
      by_cases b : j < 0
      · rw [if_pos b]
        exact ⟨fun q => absurd b (q.2.2 rfl).1, fun _ => rfl⟩
      · rw [if_neg b]
        by_cases c : 8 ≤ j
        · rw [if_pos c]
          exact ⟨fun q => absurd c (q.2.2 rfl).2, fun _ => rfl⟩
        · rw [if_neg c]
          exact ⟨fun _ => rfl, fun q => absurd ⟨fun _ => a, fun z => absurd z (by omega), fun _ => ⟨b, c⟩⟩ q⟩
    · rw [(has_t hc).2 a, ob_s, if_pos rfl]
      exact ⟨fun q => absurd (q.1 (by omega)) a, fun _ => rfl⟩
  rw [if_neg (show ¬ nI k = 10 from nk (m := 10) hk (by omega) h10)]
  by_cases h11 : k = 11
  · subst h11
    rw [if_pos (show nI 11 = 11 from rfl), rR_0_3, ob_s, rK_3, ob_s]
    by_cases a : thm S i
    · rw [(has_t hc).1 a, ob_s, z1, ob_s]
      exact ⟨fun _ => rfl, fun q => absurd ⟨fun _ => a, fun z => absurd z (by omega), fun z => absurd z (by omega)⟩ q⟩
    · rw [(has_t hc).2 a, ob_s, z0, ob_s]
      exact ⟨fun q => absurd (q.1 (by omega)) a, fun _ => rfl⟩
  rw [if_neg (show ¬ nI k = 11 from nk (m := 11) hk (by omega) h11)]
  by_cases h12 : k = 12
  · subst h12
    rw [if_pos (show nI 12 = 12 from rfl)]
    exact ⟨fun q => h32.1 ⟨q.1 (by omega), q.2.1 (by omega)⟩, fun q => h32.2 (fun z => q ⟨fun _ => z.1, fun _ => z.2, fun z => absurd z (by omega)⟩)⟩
  rw [if_neg (show ¬ nI k = 12 from nk (m := 12) hk (by omega) h12)]
  exact ⟨fun _ => rfl, fun q => absurd ⟨fun q => absurd q (by omega), fun q => absurd q (by omega), fun q => absurd q (by omega)⟩ q⟩
def fst1 (k : Nat) : Int32 := if 9 ≤ k ∧ k ≤ 12 then 1 else 0
def snd1 (k : Nat) : Int32 := if k = 9 ∨ k = 12 then 1 else 0
theorem m_prove {S : SG} {H : HP} {k : Nat} {i j : Int32} (hk : k < 18) (hm : MA S H) : (vld S k i j → s_AdjoinedSetsModel_prove 200 (nI k) i j H = s_AdjoinedSetsModel_prove_92 200 (nI k) i j (fst1 k) (snd1 k) H) ∧ (¬ vld S k i j → s_AdjoinedSetsModel_prove 200 (nI k) i j H = some (-1, H)) := by
  have hlt0 : ¬ nI k < 0 := nI_pos (by omega)
  have hgt : ¬ 17 < nI k := nI_nlt (a := 17) (b := k) (by omega) (by omega)
  -- behind the tests of i and j
  have e74 : ∀ a b, (k = 10 → ¬ j < 0 ∧ ¬ 8 ≤ j) → s_AdjoinedSetsModel_prove_74 200 (nI k) i j a b H = s_AdjoinedSetsModel_prove_92 200 (nI k) i j a b H := by
    intro a b hj
    unfold s_AdjoinedSetsModel_prove_74
    by_cases h10 : k = 10
    · have := hj h10
      have h78 : j ≤ 7 := by
        have := this.2
        rw [Int32.le_iff_toInt_le] at this ⊢
        have x1 : (7 : Int32).toInt = 7 := by decide
        have x2 : (8 : Int32).toInt = 8 := by decide
        omega
      rw [if_pos (show nI k = 10 by rw [h10]; rfl), if_neg this.1, if_pos h78]
    · rw [if_neg (show ¬ nI k = 10 from nk (m := 10) hk (by omega) h10)]
  have e74n : ∀ a b, k = 10 → ¬ (¬ j < 0 ∧ ¬ 8 ≤ j) → s_AdjoinedSetsModel_prove_74 200 (nI k) i j a b H = some (-1, H) := by
    intro a b h10 hj
    unfold s_AdjoinedSetsModel_prove_74
    rw [if_pos (show nI k = 10 by rw [h10]; rfl)]
    by_cases h0 : j < 0
    · rw [if_pos h0]
    · rw [if_neg h0, if_neg]
      intro h7
      apply hj
      refine ⟨h0, fun h8 => ?_⟩
      rw [Int32.le_iff_toInt_le] at h7 h8
      have x1 : (7 : Int32).toInt = 7 := by decide
      have x2 : (8 : Int32).toInt = 8 := by decide
      omega
  have e61 : ∀ a, thm S j → s_AdjoinedSetsModel_prove_61 200 (nI k) i j a 1 H = s_AdjoinedSetsModel_prove_74 200 (nI k) i j a 1 H := by
    intro a hj
    unfold s_AdjoinedSetsModel_prove_61
    rw [if_neg (by decide), rK_200, ob_s, (is_t hm).1 hj, ob_s, if_neg (by decide)]
  have e61n : ∀ a, ¬ thm S j → s_AdjoinedSetsModel_prove_61 200 (nI k) i j a 1 H = some (-1, H) := by
    intro a hj
    unfold s_AdjoinedSetsModel_prove_61
    rw [if_neg (by decide), rK_200, ob_s, (is_t hm).2 hj, ob_s, if_pos rfl]
  have e610 : ∀ a, s_AdjoinedSetsModel_prove_61 200 (nI k) i j a 0 H = s_AdjoinedSetsModel_prove_74 200 (nI k) i j a 0 H := by
    intro a
    unfold s_AdjoinedSetsModel_prove_61
    rw [if_pos rfl]
  have e36 : ∀ b, thm S i → s_AdjoinedSetsModel_prove_36 200 (nI k) i j 1 b H = s_AdjoinedSetsModel_prove_61 200 (nI k) i j 1 b H := by
    intro b hi
    unfold s_AdjoinedSetsModel_prove_36
    rw [if_neg hlt0, if_neg hgt, if_neg (by decide), rK_200, ob_s, (is_t hm).1 hi, ob_s, if_neg (by decide)]
  have e36n : ∀ b, ¬ thm S i → s_AdjoinedSetsModel_prove_36 200 (nI k) i j 1 b H = some (-1, H) := by
    intro b hi
    unfold s_AdjoinedSetsModel_prove_36
    rw [if_neg hlt0, if_neg hgt, if_neg (by decide), rK_200, ob_s, (is_t hm).2 hi, ob_s, if_pos rfl]
  have e360 : ∀ b, s_AdjoinedSetsModel_prove_36 200 (nI k) i j 0 b H = s_AdjoinedSetsModel_prove_61 200 (nI k) i j 0 b H := by
    intro b
    unfold s_AdjoinedSetsModel_prove_36
    rw [if_neg hlt0, if_neg hgt, if_pos rfl]
  have e17 : ∀ a, s_AdjoinedSetsModel_prove_17 200 (nI k) i j a H = s_AdjoinedSetsModel_prove_36 200 (nI k) i j a (snd1 k) H := by
    intro a
    unfold s_AdjoinedSetsModel_prove_17 s_AdjoinedSetsModel_prove_31 snd1
    by_cases h9 : k = 9
    · rw [if_pos (show nI k = 9 by rw [h9]; rfl), if_pos (Or.inl h9)]
    · rw [if_neg (show ¬ nI k = 9 from nk (m := 9) hk (by omega) h9)]
      by_cases h12 : k = 12
      · rw [if_pos (show nI k = 12 by rw [h12]; rfl), if_pos (Or.inr h12)]
      · rw [if_neg (show ¬ nI k = 12 from nk (m := 12) hk (by omega) h12), if_neg (by omega)]
  have e0 : s_AdjoinedSetsModel_prove 200 (nI k) i j H = s_AdjoinedSetsModel_prove_36 200 (nI k) i j (fst1 k) (snd1 k) H := by
    unfold s_AdjoinedSetsModel_prove s_AdjoinedSetsModel_prove_16 fst1
    by_cases h9 : k < 9
    · rw [if_pos (show nI k < 9 from nI_lt (b := 9) h9 (by omega)), e17, if_neg (show ¬ (9 ≤ k ∧ k ≤ 12) by omega)]
    · rw [if_neg (show ¬ nI k < 9 from nI_nlt (b := 9) (by omega) (by omega))]
      by_cases h12 : 12 < k
      · rw [if_pos (show 12 < nI k from nI_lt (a := 12) h12 (by omega)), e17, if_neg (show ¬ (9 ≤ k ∧ k ≤ 12) by omega)]
      · rw [if_neg (show ¬ 12 < nI k from nI_nlt (a := 12) (b := k) (by omega) (by omega)), e17, if_pos (show 9 ≤ k ∧ k ≤ 12 by omega)]
  rw [e0]
  by_cases hin : 9 ≤ k ∧ k ≤ 12
  · have ef : fst1 k = 1 := by unfold fst1; rw [if_pos hin]
    rw [ef]
    by_cases hi : thm S i
    · rw [e36 _ hi]
      by_cases h2 : k = 9 ∨ k = 12
      · have es : snd1 k = 1 := by unfold snd1; rw [if_pos h2]
        rw [es]
        by_cases hj : thm S j
        · rw [e61 _ hj, e74 _ _ (fun z => absurd z (by omega))]
          exact ⟨fun _ => rfl, fun q => absurd ⟨fun _ => hi, fun _ => hj, fun z => absurd z (by omega)⟩ q⟩
        · rw [e61n _ hj]
          exact ⟨fun q => absurd (q.2.1 h2) hj, fun _ => rfl⟩
      · have es : snd1 k = 0 := by unfold snd1; rw [if_neg h2]
        rw [es, e610]
        by_cases hv : k = 10 → ¬ j < 0 ∧ ¬ 8 ≤ j
        · rw [e74 _ _ hv]
          exact ⟨fun _ => rfl, fun q => absurd ⟨fun _ => hi, fun z => absurd z h2, hv⟩ q⟩
        · have h10 : k = 10 := by
            apply Classical.byContradiction
            intro z
            exact hv (fun y => absurd y z)
          rw [e74n _ _ h10 (fun z => hv (fun _ => z))]
          exact ⟨fun q => absurd q.2.2 hv, fun _ => rfl⟩
    · rw [e36n _ hi]
      exact ⟨fun q => absurd (q.1 hin) hi, fun _ => rfl⟩
  · have ef : fst1 k = 0 := by unfold fst1; rw [if_neg hin]
    have es : snd1 k = 0 := by unfold snd1; rw [if_neg (by omega)]
    rw [ef, es, e360, e610, e74 _ _ (fun z => absurd z (by omega))]
    exact ⟨fun _ => rfl, fun q => absurd ⟨fun z => absurd z hin, fun z => absurd z (by omega), fun z => absurd z (by omega)⟩ q⟩
