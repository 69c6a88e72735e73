/-! All rules. -/
theorem al_all : ∀ (S : SG) (E : Nat → Int32) (k : Nat) (i j : Int32), k < 18 → WF S → KD (gK S) (gB S).2.1 E 12 true 0 (gB S).1 → vld S k i j → gC S < 16 → ALR S E (nI k) i j := by
  intro S E k i j hk hw hK hv _
  by_cases h0 : k = 0
  · subst h0; exact al_0 hw hK
  by_cases h7 : k = 7
  · subst h7; exact al_7 hw hK
  by_cases h8 : k = 8
  · subst h8; exact al_8 hw hK
  by_cases h9 : k = 9
  · subst h9; exact al_9 hw hv
  by_cases h10 : k = 10
  · subst h10; exact al_10 hw hK hv
  by_cases h11 : k = 11
  · subst h11; exact al_11 hw hK hv
  by_cases h12 : k = 12
  · subst h12; exact al_12 hw hK hv
  by_cases h13 : k = 13
  · subst h13; exact al_13 hw hK
  by_cases h14 : k = 14 ∨ k = 15
  · exact al_14 hw hK h14
  · exact al_f hw hK hk (decide_eq_true (by omega))
theorem op_prove : ∀ r i j, OP2 (s_AdjoinedSets_prove 0 r i j) (s_AdjoinedSetsModel_prove 200 r i j) := op_prove_of al_all
