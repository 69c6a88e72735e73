/-! The law's loop, out of what is said of each call. -/
def OPS : Prop := (∀ x n, OP2 (s_AdjoinedSets_type 0 x n) (s_AdjoinedSetsModel_type 200 x n)) ∧ OP2 (s_AdjoinedSets_clear 0) (s_AdjoinedSetsModel_clear 200) ∧ (∀ x c, OP2 (s_AdjoinedSets_let 0 x c) (s_AdjoinedSetsModel_let 200 x c)) ∧ OPL (s_AdjoinedSets_eval 0) (s_AdjoinedSetsModel_eval 200) ∧ OP2 (s_AdjoinedSets_truth 0) (s_AdjoinedSetsModel_truth 200) ∧ (∀ f n, OP2 (s_AdjoinedSets_define 0 f n) (s_AdjoinedSetsModel_define 200 f n)) ∧ (∀ r i j, OP2 (s_AdjoinedSets_prove 0 r i j) (s_AdjoinedSetsModel_prove 200 r i j)) ∧ (∀ k, OP2 (s_AdjoinedSets_refute 0 k) (s_AdjoinedSetsModel_refute 200 k)) ∧ (∀ x, ∃ r, s_AdjoinedSets_size 0 x = some r ∧ s_AdjoinedSetsModel_size 200 x = some r) ∧ (∀ x, ∃ r, s_AdjoinedSets_rank 0 x = some r ∧ s_AdjoinedSetsModel_rank 200 x = some r)
theorem sc_at {xs : Nat → Int32} {sn j : Nat} (hj : j < sn) (hs : sn ≤ 2048) : scA xs sn (nI j) = some (xs j) := by
  unfold scA
  rw [if_pos (cl_in hj (by omega)), nI_clamp (by omega)]
theorem lg_same (x : Int64) : lg_cmp x x = 0 := by simp [lg_cmp]
theorem law_go (O : OPS) (xs : Nat → Int32) (sn : Nat) (hs : sn ≤ 2048) : ∀ (k i : Nat) (S : SG) (h : HP), WF S → CA S h → MA S h → i ≤ sn + 4 → sn + 4 < i + 4 * k → ∃ z, s_law_18 xs sn k 0 0 200 (nI i) h = some z ∧ z.1 = 1 := by
  obtain ⟨Otype, Oclear, Olet, Oeval, Otruth, Odefine, Oprove, Orefute, Osize, Orank⟩ := O
  intro k
  induction k with
  | zero =>
    intro i S h _ _ _ h1 h2
    exact absurd h2 (by omega)
  | succ k ih =>
    intro i S h w hc hm h1 h2
    rw [s_law_18]
    dsimp only
    by_cases hx : sn < i + 4
    · have hlt : (Int32.ofNat sn) - 4 < nI i := by
        rw [show (Int32.ofNat sn) = nI sn from rfl, show (4 : Int32) = nI 4 from rfl, Int32.lt_iff_toInt_lt, pk_sub_toInt (by omega) (by omega), nI_toInt (by omega)]
        omega
      rw [if_pos hlt]
      exact ⟨(1, h), rfl, rfl⟩
    · have hlt : ¬ (Int32.ofNat sn) - 4 < nI i := by
        rw [show (Int32.ofNat sn) = nI sn from rfl, show (4 : Int32) = nI 4 from rfl, Int32.lt_iff_toInt_lt, pk_sub_toInt (by omega) (by omega), nI_toInt (by omega)]
        omega
      have e0 := sc_at (xs := xs) (sn := sn) (j := i) (by omega) hs
      have e1 : scA xs sn (nI i + 1) = some (xs (i + 1)) := by rw [nI_1]; exact sc_at (by omega) hs
      have e2 : scA xs sn (nI i + 2) = some (xs (i + 2)) := by rw [show (2 : Int32) = nI 2 from rfl, nI_add]; exact sc_at (by omega) hs
      have e3 : scA xs sn (nI i + 3) = some (xs (i + 3)) := by rw [show (3 : Int32) = nI 3 from rfl, nI_add]; exact sc_at (by omega) hs
      have e4 : nI i + 4 = nI (i + 4) := by rw [show (4 : Int32) = nI 4 from rfl, nI_add]
      have nx : ∀ (S' : SG) (h' : HP), WF S' → CA S' h' → MA S' h' → ∃ z, s_law_540 xs sn (s_law_18 xs sn k) 0 0 200 (nI i) h' = some z ∧ z.1 = 1 := by
        intro S' h' w' c' m'
        unfold s_law_540
        rw [e4]
        exact ih (i + 4) S' h' w' c' m' (by omega) (by omega)
      rw [if_neg hlt, e0, ob_s]
      refine by_c (fun (hk : (xs i &&& 15) = 0) => ?_) (fun hk => ?_)
      · rw [if_pos hk]
        obtain ⟨r, h1, h2, S', f1, f2, w2, c2, m2⟩ := Otype (((xs (i + 1)).toInt64 <<< ((32 : Int32).toInt64 &&& 63)) ||| ((xs (i + 2)).toInt64 &&& 4294967295)) (xs (i + 3)) S h w hc hm
        rw [e1, ob_s, e2, ob_s, e3, ob_s, rK_0, ob_s, f1, ob_s, ob_s, ob_s, ob_s, rK_200, ob_s]
        dsimp only
        rw [f2, ob_s]
        dsimp only
        rw [if_pos rfl]
        exact nx S' h2 w2 c2 m2
      rw [if_neg hk]
      refine by_c (fun (hk : (xs i &&& 15) = 1) => ?_) (fun hk => ?_)
      · rw [if_pos hk]
        obtain ⟨r, h1, h2, S', f1, f2, w2, c2, m2⟩ := Oclear S h w hc hm
        rw [rK_0, ob_s, f1, ob_s, rK_200, ob_s]
        dsimp only
        rw [f2, ob_s]
        dsimp only
        rw [if_pos rfl]
        exact nx S' h2 w2 c2 m2
      rw [if_neg hk]
      refine by_c (fun (hk : (xs i &&& 15) = 2) => ?_) (fun hk => ?_)
      · rw [if_pos hk]
        obtain ⟨r, h1, h2, S', f1, f2, w2, c2, m2⟩ := Olet (xs (i + 1)) (((xs (i + 2)).toInt64 <<< ((32 : Int32).toInt64 &&& 63)) ||| ((xs (i + 3)).toInt64 &&& 4294967295)) S h w hc hm
        rw [e1, ob_s, e2, ob_s, e3, ob_s, rK_0, ob_s, f1, ob_s, ob_s, ob_s, ob_s, rK_200, ob_s]
        dsimp only
        rw [f2, ob_s]
        dsimp only
        rw [if_pos rfl]
        exact nx S' h2 w2 c2 m2
      rw [if_neg hk]
      refine by_c (fun (hk : (xs i &&& 15) = 3) => ?_) (fun hk => ?_)
      · rw [if_pos hk]
        obtain ⟨r, h1, h2, S', f1, f2, w2, c2, m2⟩ := Oeval S h w hc hm
        rw [rK_0, ob_s, f1, ob_s, rK_200, ob_s]
        dsimp only
        rw [f2, ob_s]
        dsimp only
        rw [if_pos (lg_same r)]
        exact nx S' h2 w2 c2 m2
      rw [if_neg hk]
      refine by_c (fun (hk : (xs i &&& 15) = 4) => ?_) (fun hk => ?_)
      · rw [if_pos hk]
        obtain ⟨r, h1, h2, S', f1, f2, w2, c2, m2⟩ := Otruth S h w hc hm
        rw [rK_0, ob_s, f1, ob_s, rK_200, ob_s]
        dsimp only
        rw [f2, ob_s]
        dsimp only
        rw [if_pos rfl]
        exact nx S' h2 w2 c2 m2
      rw [if_neg hk]
      refine by_c (fun (hk : (xs i &&& 15) = 5) => ?_) (fun hk => ?_)
      · rw [if_pos hk]
        obtain ⟨r, h1, h2, S', f1, f2, w2, c2, m2⟩ := Odefine (xs (i + 1)) (xs (i + 2)) S h w hc hm
        rw [e1, ob_s, e2, ob_s, rK_0, ob_s, f1, ob_s, ob_s, ob_s, rK_200, ob_s]
        dsimp only
        rw [f2, ob_s]
        dsimp only
        rw [if_pos rfl]
        exact nx S' h2 w2 c2 m2
      rw [if_neg hk]
      refine by_c (fun (hk : (xs i &&& 15) = 6) => ?_) (fun hk => ?_)
      · rw [if_pos hk]
        obtain ⟨r, h1, h2, S', f1, f2, w2, c2, m2⟩ := Oprove (xs (i + 1)) (xs (i + 2)) (xs (i + 3)) S h w hc hm
        rw [e1, ob_s, e2, ob_s, e3, ob_s, rK_0, ob_s, f1, ob_s, ob_s, ob_s, ob_s, rK_200, ob_s]
        dsimp only
        rw [f2, ob_s]
        dsimp only
        rw [if_pos rfl]
        exact nx S' h2 w2 c2 m2
      rw [if_neg hk]
      refine by_c (fun (hk : (xs i &&& 15) = 7) => ?_) (fun hk => ?_)
      · rw [if_pos hk]
        rw [rK_0, ob_s, c_theorems hc, ob_s, rK_200, ob_s, m_theorems hm, ob_s, if_pos rfl]
        exact nx S h w hc hm
      rw [if_neg hk]
      refine by_c (fun (hk : (xs i &&& 15) = 8) => ?_) (fun hk => ?_)
      · rw [if_pos hk]
        rw [e1, ob_s, e2, ob_s, rK_0, ob_s, c_theorem w hc, ob_s, ob_s, ob_s, rK_200, ob_s, m_theorem w hm, ob_s, if_pos rfl]
        exact nx S h w hc hm
      rw [if_neg hk]
      refine by_c (fun (hk : (xs i &&& 15) = 9) => ?_) (fun hk => ?_)
      · rw [if_pos hk]
        rw [e1, ob_s, rK_0, ob_s, c_rests w hc, ob_s, ob_s, rK_200, ob_s, m_rests w hm, ob_s, if_pos rfl]
        exact nx S h w hc hm
      rw [if_neg hk]
      refine by_c (fun (hk : (xs i &&& 15) = 10) => ?_) (fun hk => ?_)
      · rw [if_pos hk]
        obtain ⟨r, h1, h2, S', f1, f2, w2, c2, m2⟩ := Orefute (xs (i + 1)) S h w hc hm
        rw [e1, ob_s, rK_0, ob_s, f1, ob_s, ob_s, rK_200, ob_s]
        dsimp only
        rw [f2, ob_s]
        dsimp only
        rw [if_pos rfl]
        exact nx S' h2 w2 c2 m2
      rw [if_neg hk]
      refine by_c (fun (hk : (xs i &&& 15) = 11) => ?_) (fun hk => ?_)
      · rw [if_pos hk]
        obtain ⟨r, f1, f2⟩ := Osize (((xs (i + 1)).toInt64 <<< ((32 : Int32).toInt64 &&& 63)) ||| ((xs (i + 2)).toInt64 &&& 4294967295))
        rw [e1, ob_s, e2, ob_s, rK_0, ob_s, f1, ob_s, ob_s, ob_s, rK_200, ob_s, f2, ob_s, if_pos rfl]
        exact nx S h w hc hm
      rw [if_neg hk]
      refine by_c (fun (hk : (xs i &&& 15) = 12) => ?_) (fun hk => ?_)
      · rw [if_pos hk]
        obtain ⟨r, f1, f2⟩ := Orank (((xs (i + 1)).toInt64 <<< ((32 : Int32).toInt64 &&& 63)) ||| ((xs (i + 2)).toInt64 &&& 4294967295))
        rw [e1, ob_s, e2, ob_s, rK_0, ob_s, f1, ob_s, ob_s, ob_s, rK_200, ob_s, f2, ob_s, if_pos rfl]
        exact nx S h w hc hm
      rw [if_neg hk]
      exact nx S h w hc hm
