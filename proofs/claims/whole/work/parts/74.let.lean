/-! let: codes and values. -/
def isC (x : Int64) : Prop := 0 ≤ x ∧ x ≤ 4611686018427387903
theorem c_isCode (x : Int64) : (isC x ∧ s_AdjoinedSets_isCode x = some 1) ∨ (¬ isC x ∧ s_AdjoinedSets_isCode x = some 0) := by
  unfold s_AdjoinedSets_isCode isC
  by_cases h1 : lg_cmp x 0 < 0
  · right
    rw [if_pos h1]
    refine ⟨fun q => ?_, rfl⟩
    have := (lg_cmp_lt x 0).mp h1
    rw [Int64.lt_iff_toInt_lt] at this
    have q1 := Int64.le_iff_toInt_le.mp q.1
    omega
  · rw [if_neg h1]
    by_cases h2 : 0 < lg_cmp x 4611686018427387903
    · right
      rw [if_pos h2]
      refine ⟨fun q => ?_, rfl⟩
      have := (lg_cmp_gt x 4611686018427387903).mp h2
      rw [Int64.lt_iff_toInt_lt] at this
      have q1 := Int64.le_iff_toInt_le.mp q.2
      omega
    · left
      rw [if_neg h2]
      refine ⟨⟨?_, ?_⟩, rfl⟩
      · have : ¬ x < 0 := fun q => h1 ((lg_cmp_lt x 0).mpr q)
        rw [Int64.lt_iff_toInt_lt] at this
        rw [Int64.le_iff_toInt_le]
        omega
      · have : ¬ 4611686018427387903 < x := fun q => h2 ((lg_cmp_gt x 4611686018427387903).mpr q)
        rw [Int64.lt_iff_toInt_lt] at this
        rw [Int64.le_iff_toInt_le]
        omega
theorem m_isCode (x : Int64) : (isC x ∧ s_AdjoinedSetsModel_isCode x = some 1) ∨ (¬ isC x ∧ s_AdjoinedSetsModel_isCode x = some 0) := by
  have e1 : (4611686018427387904 : Int64).toInt = 4611686018427387904 := by decide
  have e2 : (4611686018427387903 : Int64).toInt = 4611686018427387903 := by decide
  unfold s_AdjoinedSetsModel_isCode isC
  by_cases h1 : lg_cmp x 0 < 0
  · right
    rw [if_pos h1]
    refine ⟨fun q => ?_, rfl⟩
    have := (lg_cmp_lt x 0).mp h1
    rw [Int64.lt_iff_toInt_lt] at this
    have q1 := Int64.le_iff_toInt_le.mp q.1
    omega
  · rw [if_neg h1]
    by_cases h2 : 0 ≤ lg_cmp x 4611686018427387904
    · right
      rw [if_pos h2]
      refine ⟨fun q => ?_, rfl⟩
      have := (lg_cmp_ge x 4611686018427387904).mp h2
      rw [Int64.le_iff_toInt_le] at this
      have q1 := Int64.le_iff_toInt_le.mp q.2
      omega
    · left
      rw [if_neg h2]
      refine ⟨⟨?_, ?_⟩, rfl⟩
      · have : ¬ x < 0 := fun q => h1 ((lg_cmp_lt x 0).mpr q)
        rw [Int64.lt_iff_toInt_lt] at this
        rw [Int64.le_iff_toInt_le]
        omega
      · have : ¬ 4611686018427387904 ≤ x := fun q => h2 ((lg_cmp_ge x 4611686018427387904).mpr q)
        rw [Int64.le_iff_toInt_le] at this
        rw [Int64.le_iff_toInt_le]
        omega
def setV (S : SG) (j : Nat) (x : Int64) : SG := (S.1, (fun q => if q = j then x else S.2.1 q), S.2.2)
theorem WF_setV {S : SG} {j : Nat} {x : Int64} (hw : WF S) (hx : isC x) : WF (setV S j x) := by
  refine ⟨hw.1, fun q hq => ?_, hw.2.2⟩
  show 0 ≤ (if q = j then x else S.2.1 q) ∧ (if q = j then x else S.2.1 q) ≤ _
  split
  · exact hx
  · exact hw.2.1 q hq
theorem CA_setV {S : SG} {h : HP} {j : Nat} {x : Int64} (hc : CA S h) : CA (setV S j x) (h.1, up2 h.2.1 1 j x, h.2.2) := by
  obtain ⟨h1, h2, h3, h4, h5⟩ := hc
  refine ⟨h1, fun q hq => ?_, h3, h4, h5⟩
  show up2 h.2.1 1 j x 1 q = if q = j then x else S.2.1 q
  by_cases e : q = j
  · rw [if_pos e, e, u2_s]
  · rw [if_neg e, u2_i e]
    exact h2 q hq
theorem MA_setV {S : SG} {h : HP} {j : Nat} {x : Int64} (hc : MA S h) : MA (setV S j x) (h.1, up2 h.2.1 202 j x, h.2.2) := by
  obtain ⟨h1, h2, h3⟩ := hc
  refine ⟨h1, fun q hq => ?_, h3⟩
  show up2 h.2.1 202 j x 202 q = if q = j then x else S.2.1 q
  by_cases e : q = j
  · rw [if_pos e, e, u2_s]
  · rw [if_neg e, u2_i e]
    exact h2 q hq
theorem op_let (x : Int32) (c : Int64) : OP2 (s_AdjoinedSets_let 0 x c) (s_AdjoinedSetsModel_let 200 x c) := by
  intro S h w hc hm
  by_cases hx : x < 0
  · refine ⟨0, h, h, S, ?_, ?_, w, hc, hm⟩
    · unfold s_AdjoinedSets_let
      rw [if_pos hx]
    · unfold s_AdjoinedSetsModel_let
      rw [if_pos hx]
  · obtain ⟨j, hj, rfl⟩ := nI_of hx
    by_cases h8 : j < 8
    · rcases c_isCode c with ⟨a, e1⟩ | ⟨a, e1⟩
      · have e2 : s_AdjoinedSetsModel_isCode c = some 1 := by
          rcases m_isCode c with ⟨_, e⟩ | ⟨b, _⟩
          · exact e
          · exact absurd a b
        refine ⟨1, (h.1, up2 h.2.1 1 j c, h.2.2), (h.1, up2 (up2 h.2.1 1 j c) 202 j c, h.2.2), setV S j c, ?_, ?_, WF_setV w a, ?_, ?_⟩
        · unfold s_AdjoinedSets_let
          rw [if_neg hx, if_neg (show ¬ (8 : Int32) ≤ nI j from nI_ge h8 (by decide)), e1, ob_s, if_neg (by decide), rR_0_0, ob_s, wA_1 h8, ob_s]
        · unfold s_AdjoinedSetsModel_let
          rw [if_neg hx, if_neg (show ¬ (7 : Int32) < nI j from nI_nlt (a := 7) (by omega) (by omega)), e2, ob_s, if_neg (by decide), rR_200_2, ob_s, wA_202 h8, ob_s]
        · exact CA_of (sC_J (h := (h.1, up2 h.2.1 1 j c, h.2.2)) (by decide)) (WF_setV w a) (CA_setV hc)
        · exact MA_setV (h := (h.1, up2 h.2.1 1 j c, h.2.2)) (MA_of (sM_J (by decide)) hm)
      · have e2 : s_AdjoinedSetsModel_isCode c = some 0 := by
          rcases m_isCode c with ⟨b, _⟩ | ⟨_, e⟩
          · exact absurd b a
          · exact e
        refine ⟨0, h, h, S, ?_, ?_, w, hc, hm⟩
        · unfold s_AdjoinedSets_let
          rw [if_neg hx, if_neg (show ¬ (8 : Int32) ≤ nI j from nI_ge h8 (by decide)), e1, ob_s, if_pos rfl]
        · unfold s_AdjoinedSetsModel_let
          rw [if_neg hx, if_neg (show ¬ (7 : Int32) < nI j from nI_nlt (a := 7) (by omega) (by omega)), e2, ob_s, if_pos rfl]
    · refine ⟨0, h, h, S, ?_, ?_, w, hc, hm⟩
      · unfold s_AdjoinedSets_let
        rw [if_neg hx, if_pos (show (8 : Int32) ≤ nI j from nI_le (a := 8) (by omega) hj)]
      · unfold s_AdjoinedSetsModel_let
        rw [if_neg hx, if_pos (show (7 : Int32) < nI j from nI_lt (a := 7) (by omega) hj)]
