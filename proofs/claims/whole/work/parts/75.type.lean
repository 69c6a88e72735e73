/-! type: bytes, and characters behind the buffer. -/
def byt (x : Int64) (j : Nat) : Int32 := (x >>> ((8 * nI j).toInt64 &&& 63)).toInt32 &&& 255
theorem byt_m (x : Int64) (j : Nat) : ((x >>> ((8 * nI j).toInt64 &&& 63)) &&& 255).toInt32 = byt x j := by
  unfold byt
  rw [Int64.toInt32_and]
  rfl
theorem byt_q (x : Int64) (j : Nat) : ∃ q : Nat, q < 256 ∧ byt x j = nI q := by
  unfold byt
  obtain ⟨q, h1, h2⟩ := pk_andE ((x >>> ((8 * nI j).toInt64 &&& 63)).toInt32) (m := 255) 8 (by decide)
  exact ⟨q, h1, h2⟩
def app (x : TX) (c : Int32) : TX := (x.1 + 1, fun p => if p = x.1 then c else x.2.1 p, x.2.2)
/-- m bytes come behind, the highest first -/
def appN (v : Int64) : Nat → TX → TX
  | 0, x => x
  | m + 1, x => appN v m (app x (byt v m))
theorem appN_len (v : Int64) : ∀ (m : Nat) (x : TX), (appN v m x).1 = x.1 + m
  | 0, x => rfl
  | m + 1, x => by rw [appN, appN_len v m]; show x.1 + 1 + m = x.1 + (m + 1); omega
theorem p_add {h : HP} {x : TX} {q : Nat} (hq : q < 256) (hc : cT h 100 x) (hx : x.1 < 60) : ∃ h', s_Text_add 100 (nI q) h = some h' ∧ cT h' 100 (app x (nI q)) ∧ stB h h' ∧ sM h h' := by
  have hl : h.1 100 2 = nI x.1 := hc.1.2.1
  have e1 : (vp_nar .char (((nI q).toUInt32 % 65536).toInt32)) = nI q := by
    rw [pk_vc, pk_char, pk_tn (by omega), Nat.mod_eq_of_lt (by omega)]
  refine ⟨(up2 (up2 h.1 101 x.1 (nI q)) 100 2 (nI (x.1 + 1)), h.2), ?_, ?_, ?_, ?_⟩
  · unfold s_Text_add
    rw [rI_100_2, ob_s, hl, if_neg (show ¬ (60 : Int32) ≤ nI x.1 from nI_ge hx (by decide)), rR_100_0, ob_s, ob_s, e1, wA_101 hx, ob_s, rI_100_2, ob_s]
    show (pI _ 100 0 2 (up2 h.1 101 x.1 (nI q) 100 2 + 1)).bind _ = _
    rw [up2_n (by decide), hl, nI_1, wI_100_2, ob_s]
  · refine ⟨⟨isT_100, by show up2 (up2 h.1 101 x.1 (nI q)) 100 2 (nI (x.1 + 1)) 100 2 = nI (x.1 + 1); exact u2_s, hx⟩, fun p hp => ?_⟩
    show up2 (up2 h.1 101 x.1 (nI q)) 100 2 (nI (x.1 + 1)) 101 p = if p = x.1 then nI q else x.2.1 p
    rw [up2_n (by decide)]
    by_cases e : p = x.1
    · rw [if_pos e, e, u2_s]
    · rw [if_neg e, u2_i e]
      have hp : p < x.1 + 1 := hp
      exact hc.2 p (by omega)
  · exact (stB_I (n := 101) rfl).tr (stB_I (h := (up2 h.1 101 x.1 (nI q), h.2)) (n := 100) rfl)
  · exact (sM_I (n := 101) (by decide)).tr (sM_I (h := (up2 h.1 101 x.1 (nI q), h.2)) (n := 100) (by decide))
theorem c_add (v : Int64) : ∀ (k m : Nat) (x : TX) (h : HP), m < k → x.1 + m ≤ 60 → cT h 100 x → ∃ h', s_AdjoinedSets_type_74 k 0 v (nI m - 1) h = some (nI (x.1 + m), h') ∧ cT h' 100 (appN v m x) ∧ stB h h' ∧ sM h h' := by
  intro k
  induction k with
  | zero => intro m x h hm; omega
  | succ k ih =>
    intro m x h hm h6 hc
    rw [s_AdjoinedSets_type_74]
    dsimp only
    cases m with
    | zero =>
      refine ⟨h, ?_, hc, stB.rf h, sM.rf h⟩
      rw [if_pos (by decide), rR_0_1, ob_s, rK_100, ob_s, p_length hc.1, ob_s]
      rfl
    | succ m =>
      obtain ⟨q, hq, eq⟩ := byt_q v m
      obtain ⟨h1, e1, c1, b1, m1⟩ := p_add hq hc (by omega)
      rw [← eq] at e1 c1
      obtain ⟨h2, e2, c2, b2, m2⟩ := ih m (app x (byt v m)) h1 (by omega) (by show x.1 + 1 + m ≤ 60; omega) c1
      refine ⟨h2, ?_, c2, b1.tr b2, m1.tr m2⟩
      rw [nI_pred, if_neg (nI_pos (by omega)), rR_0_1, ob_s]
      unfold s_AdjoinedSets_byteAt
      rw [ob_s, rK_100, ob_s]
      show (s_Text_add 100 (byt v m) h).bind _ = _
      rw [e1, ob_s, ← Int32.sub_eq_add_neg, e2]
      show some (nI (x.1 + 1 + m), h2) = _
      rw [show x.1 + 1 + m = x.1 + (m + 1) by omega]
theorem MA_app {S : SG} {h : HP} {c : Int32} (hx : (gB S).1 < 60) (hc : MA S h) : MA (setB S (app (gB S) c)) (up2 (up2 h.1 201 (gB S).1 c) 200 1 (nI ((gB S).1 + 1)), h.2) := by
  obtain ⟨⟨h1, h1b⟩, h2, h3, h4, h5, h6⟩ := hc
  have hn : ∀ n, n ≠ 200 → n ≠ 201 → up2 (up2 h.1 201 (gB S).1 c) 200 1 (nI ((gB S).1 + 1)) n = h.1 n := fun n a b => by rw [up2_n a, up2_n b]
  have ht : ∀ j, j ≠ (gB S).1 → up2 (up2 h.1 201 (gB S).1 c) 200 1 (nI ((gB S).1 + 1)) 201 j = h.1 201 j := fun j a => by rw [up2_n (by decide), u2_i a]
  refine ⟨⟨by show up2 (up2 h.1 201 (gB S).1 c) 200 1 (nI ((gB S).1 + 1)) 200 1 = nI ((gB S).1 + 1); exact u2_s, fun p hp => ?_⟩, h2, fun f hf => ?_, ?_, fun i hi => ?_, ?_⟩
  · show up2 (up2 h.1 201 (gB S).1 c) 200 1 (nI ((gB S).1 + 1)) 201 (0 + p) = if p = (gB S).1 then c else (gB S).2.1 p
    rw [Nat.zero_add]
    by_cases e : p = (gB S).1
    · rw [if_pos e, e, up2_n (by decide), u2_s]
    · have hp : p < (gB S).1 + 1 := hp
      have := h1b p (by omega)
      rw [Nat.zero_add] at this
      rw [if_neg e, ht p e, this]
  · obtain ⟨a, b⟩ := h3 f hf
    refine ⟨?_, fun q p hp => ?_⟩
    · show up2 (up2 h.1 201 (gB S).1 c) 200 1 (nI ((gB S).1 + 1)) 203 f = _
      rw [hn 203 (by decide) (by decide)]
      exact a
    · show up2 (up2 h.1 201 (gB S).1 c) 200 1 (nI ((gB S).1 + 1)) 201 _ = _
      rw [ht _ (by omega)]
      exact b q p hp
  · show up2 (up2 h.1 201 (gB S).1 c) 200 1 (nI ((gB S).1 + 1)) 200 4 = _
    rw [u2_i (by decide), up2_n (by decide)]
    exact h4
  · obtain ⟨a, b, d⟩ := h5 i hi
    refine ⟨?_, fun p hp => ?_, ?_⟩
    · show up2 (up2 h.1 201 (gB S).1 c) 200 1 (nI ((gB S).1 + 1)) 204 i = _
      rw [hn 204 (by decide) (by decide)]
      exact a
    · show up2 (up2 h.1 201 (gB S).1 c) 200 1 (nI ((gB S).1 + 1)) 201 _ = _
      rw [ht _ (by omega)]
      exact b p hp
    · show up2 (up2 h.1 201 (gB S).1 c) 200 1 (nI ((gB S).1 + 1)) 205 i = _
      rw [hn 205 (by decide) (by decide)]
      exact d
  · show up2 (up2 h.1 201 (gB S).1 c) 200 1 (nI ((gB S).1 + 1)) 219 = _
    rw [hn 219 (by decide) (by decide)]
    exact h6
theorem m_add (v : Int64) : ∀ (k m : Nat) (S : SG) (h : HP), m < k → (gB S).1 + m ≤ 60 → MA S h → ∃ h', s_AdjoinedSetsModel_type_99 k 200 v (nI m - 1) h = some (nI ((gB S).1 + m), h') ∧ MA (setB S (appN v m (gB S))) h' ∧ sC h h' := by
  intro k
  induction k with
  | zero => intro m S h hm; omega
  | succ k ih =>
    intro m S h hm h6 hc
    rw [s_AdjoinedSetsModel_type_99]
    dsimp only
    cases m with
    | zero =>
      refine ⟨h, ?_, hc, sC.rf h⟩
      rw [if_pos (by decide), rI_200_1, ob_s, hc.1.1]
      rfl
    | succ m =>
      obtain ⟨h2, e2, c2, s2⟩ := ih m (setB S (app (gB S) (byt v m))) _ (by omega) (by show (gB S).1 + 1 + m ≤ 60; omega) (MA_app (c := byt v m) (by omega) hc)
      refine ⟨h2, ?_, c2, ((sC_I (n := 201) (by decide)).tr (sC_I (h := (up2 h.1 201 (gB S).1 (byt v m), h.2)) (n := 200) (by decide))).tr s2⟩
      rw [nI_pred, if_neg (nI_pos (by omega)), rR_200_0, ob_s, rI_200_1, ob_s, hc.1.1, byt_m, wA_201 (by omega), ob_s, rI_200_1, ob_s]
      show (pI _ 200 9 1 (up2 h.1 201 (gB S).1 (byt v m) 200 1 + 1)).bind _ = _
      rw [up2_n (by decide), hc.1.1, nI_1, wI_200_1, ob_s, ← Int32.sub_eq_add_neg, e2]
      show some (nI ((gB S).1 + 1 + m), h2) = _
      rw [show (gB S).1 + 1 + m = (gB S).1 + (m + 1) by omega]
-- the looks at the bytes
theorem c_look (v : Int64) (n : Nat) (hn : n ≤ 8) {h : HP} {x : TX} (hc : cT h 100 x) : ∀ (k j : Nat), j ≤ n → n < j + k → ((∀ i, j ≤ i → i < n → okC (byt v i)) → s_AdjoinedSets_type_16 k 0 v (nI n) (nI j) h = if x.1 + n ≤ 60 then s_AdjoinedSets_type_74 20000 0 v (nI n - 1) h else some (-2, h)) ∧ ((∃ i, j ≤ i ∧ i < n ∧ ¬ okC (byt v i)) → s_AdjoinedSets_type_16 k 0 v (nI n) (nI j) h = some (-1, h)) := by
  intro k
  induction k with
  | zero => intro j h1 h2; omega
  | succ k ih =>
    intro j h1 h2
    have h60 := hc.1.2.2
    rw [s_AdjoinedSets_type_16]
    dsimp only
    by_cases e : j = n
    · subst e
      rw [if_pos (nI_le (Nat.le_refl _) (by omega)), rR_0_1, ob_s, rK_100, ob_s, p_length hc.1, ob_s, nI_add]
      refine ⟨fun _ => ?_, fun ⟨i, a, b, _⟩ => by omega⟩
      by_cases h6 : x.1 + j ≤ 60
      · rw [if_pos h6, if_pos (show nI (x.1 + j) ≤ 60 from nI_le (b := 60) h6 (by decide))]
      · rw [if_neg h6, if_neg (show ¬ nI (x.1 + j) ≤ 60 from nI_ge (a := 60) (by omega) (by omega))]
    · rw [if_neg (nI_ge (by omega) (by omega))]
      unfold s_AdjoinedSets_byteAt
      rw [ob_s]
      obtain ⟨i1, i2⟩ := ih (j + 1) (by omega) (by omega)
      rw [← nI_1] at i1 i2
      show (_ → (if byt v j < 33 then some (-1, h) else if byt v j ≤ 126 then s_AdjoinedSets_type_16 k 0 v (nI n) (nI j + 1) h else some (-1, h)) = _) ∧ (_ → (if byt v j < 33 then some (-1, h) else if byt v j ≤ 126 then s_AdjoinedSets_type_16 k 0 v (nI n) (nI j + 1) h else some (-1, h)) = _)
      by_cases ok : okC (byt v j)
      · have a1 : ¬ byt v j < 33 := by
          have := Int32.le_iff_toInt_le.mp ok.1
          rw [Int32.lt_iff_toInt_lt]
          omega
        rw [if_neg a1, if_pos ok.2]
        refine ⟨fun q => i1 (fun i a b => q i (by omega) b), fun ⟨i, a, b, c⟩ => i2 ⟨i, ?_, b, c⟩⟩
        by_cases e2 : i = j
        · subst e2; exact absurd ok c
        · omega
      · refine ⟨fun q => absurd (q j (Nat.le_refl _) (by omega)) ok, fun _ => ?_⟩
        by_cases a1 : byt v j < 33
        · rw [if_pos a1]
        · rw [if_neg a1, if_neg (fun a2 => ok ⟨by rw [Int32.lt_iff_toInt_lt] at a1; rw [Int32.le_iff_toInt_le]; omega, a2⟩)]
theorem m_73 (v : Int64) (n : Nat) (hn : n ≤ 8) {S : SG} {h : HP} (hx : (gB S).1 ≤ 60) (hc : MA S h) : s_AdjoinedSetsModel_type_73 200 v (nI n) 1 h = if (gB S).1 + n ≤ 60 then s_AdjoinedSetsModel_type_99 20000 200 v (nI n - 1) h else some (-2, h) := by
  unfold s_AdjoinedSetsModel_type_73
  rw [if_neg (by decide), rI_200_1, ob_s, hc.1.1, nI_add]
  by_cases h6 : (gB S).1 + n ≤ 60
  · rw [if_pos h6, if_pos (show nI ((gB S).1 + n) ≤ 60 from nI_le (b := 60) h6 (by decide))]
  · rw [if_neg h6, if_neg (show ¬ nI ((gB S).1 + n) ≤ 60 from nI_ge (a := 60) (by omega) (by omega))]
theorem m_bad (v : Int64) (n j : Int32) (k : Nat) (h : HP) : s_AdjoinedSetsModel_type_21 (k + 1) 200 v n 0 j h = some (-1, h) := by
  rw [s_AdjoinedSetsModel_type_21]
  dsimp only
  unfold s_AdjoinedSetsModel_type_73
  split
  · rw [if_pos rfl]
  · rw [if_pos rfl, if_pos rfl]
theorem m_look (v : Int64) (n : Nat) (hn : n ≤ 8) {h : HP} : ∀ (k j : Nat), j ≤ n → n + 1 < j + k → ((∀ i, j ≤ i → i < n → okC (byt v i)) → s_AdjoinedSetsModel_type_21 k 200 v (nI n) 1 (nI j) h = s_AdjoinedSetsModel_type_73 200 v (nI n) 1 h) ∧ ((∃ i, j ≤ i ∧ i < n ∧ ¬ okC (byt v i)) → s_AdjoinedSetsModel_type_21 k 200 v (nI n) 1 (nI j) h = some (-1, h)) := by
  intro k
  induction k with
  | zero => intro j h1 h2; omega
  | succ k ih =>
    intro j h1 h2
    rw [s_AdjoinedSetsModel_type_21]
    dsimp only
    by_cases e : j = n
    · subst e
      rw [if_pos (nI_le (Nat.le_refl _) (by omega))]
      exact ⟨fun _ => rfl, fun ⟨i, a, b, _⟩ => by omega⟩
    · rw [if_neg (nI_ge (by omega) (by omega)), if_neg (by decide), byt_m]
      obtain ⟨i1, i2⟩ := ih (j + 1) (by omega) (by omega)
      unfold s_AdjoinedSetsModel_type_64 s_AdjoinedSetsModel_type_65
      rw [nI_1]
      by_cases ok : okC (byt v j)
      · have a1 : ¬ byt v j < 33 := by
          have := Int32.le_iff_toInt_le.mp ok.1
          rw [Int32.lt_iff_toInt_lt]
          omega
        have a2 : ¬ 126 < byt v j := by
          have := Int32.le_iff_toInt_le.mp ok.2
          rw [Int32.lt_iff_toInt_lt]
          omega
        rw [if_neg a1, if_neg a2]
        refine ⟨fun q => i1 (fun i a b => q i (by omega) b), fun ⟨i, a, b, c⟩ => i2 ⟨i, ?_, b, c⟩⟩
        by_cases e2 : i = j
        · subst e2; exact absurd ok c
        · omega
      · refine ⟨fun q => absurd (q j (Nat.le_refl _) (by omega)) ok, fun _ => ?_⟩
        obtain ⟨k', rfl⟩ : ∃ k', k = k' + 1 := ⟨k - 1, by omega⟩
        rw [m_bad]
        by_cases a1 : byt v j < 33
        · rw [if_pos a1]
        · rw [if_neg a1, if_pos]
          rw [Int32.lt_iff_toInt_lt] at a1 ⊢
          have : ¬ (33 ≤ byt v j ∧ byt v j ≤ 126) := ok
          rw [Int32.le_iff_toInt_le, Int32.le_iff_toInt_le] at this
          omega
theorem WF_appN {v : Int64} : ∀ (m : Nat) (S : SG), WF S → (gB S).1 + m ≤ 60 → (∀ i, i < m → okC (byt v i)) → WF (setB S (appN v m (gB S))) := by
  intro m
  induction m with
  | zero => intro S w _ _; exact w
  | succ m ih =>
    intro S w h6 ho
    have w1 : WF (setB S (app (gB S) (byt v m))) := by
      refine ⟨⟨by show (gB S).1 + 1 ≤ 60; omega, fun p hp => ?_⟩, w.2⟩
      show okC (if p = (gB S).1 then byt v m else (gB S).2.1 p)
      by_cases e : p = (gB S).1
      · rw [if_pos e]; exact ho m (by omega)
      · rw [if_neg e]
        have hp : p < (gB S).1 + 1 := hp
        exact w.1.2 p (by omega)
    exact ih (setB S (app (gB S) (byt v m))) w1 (by show (gB S).1 + 1 + m ≤ 60; omega) (fun i hi => ho i (by omega))
theorem op_type (v : Int64) (n : Int32) : OP2 (s_AdjoinedSets_type 0 v n) (s_AdjoinedSetsModel_type 200 v n) := by
  intro S h w hc hm
  by_cases h1 : n < 1
  · refine ⟨-1, h, h, S, ?_, ?_, w, hc, hm⟩
    · unfold s_AdjoinedSets_type
      rw [if_pos h1]
    · unfold s_AdjoinedSetsModel_type s_AdjoinedSetsModel_type_15 s_AdjoinedSetsModel_type_16
      rw [if_pos h1, m_bad]
  · have hp : ¬ n < 0 := by
      rw [Int32.lt_iff_toInt_lt] at h1 ⊢
      have a : (1 : Int32).toInt = 1 := by decide
      have b : (0 : Int32).toInt = 0 := by decide
      omega
    obtain ⟨m, hm2, rfl⟩ := nI_of hp
    by_cases h8 : m ≤ 8
    · have a1 : nI m ≤ 8 := nI_le (b := 8) h8 (by decide)
      have a2 : ¬ (8 : Int32) < nI m := nI_nlt (a := 8) h8 (by decide)
      obtain ⟨c1, c2⟩ := c_look v m h8 hc.1 20000 0 (Nat.zero_le _) (by omega)
      obtain ⟨m1, m2⟩ := m_look v m h8 (h := h) 20000 0 (Nat.zero_le _) (by omega)
      by_cases ok : ∀ i, i < m → okC (byt v i)
      · have c1 := c1 (fun i _ b => ok i b)
        by_cases h6 : (gB S).1 + m ≤ 60
        · obtain ⟨h1', e1, k1, b1, s1⟩ := c_add v 20000 m (gB S) h (by omega) h6 hc.1
          obtain ⟨m1', m2'⟩ := m_look v m h8 (h := h1') 20000 0 (Nat.zero_le _) (by omega)
          have hm1 := MA_of s1 hm
          obtain ⟨h2', e2, k2, s2⟩ := m_add v 20000 m S h1' (by omega) h6 hm1
          have w1 := WF_appN m S w h6 ok
          refine ⟨nI ((gB S).1 + m), h1', h2', setB S (appN v m (gB S)), ?_, ?_, w1, CA_of s2 w1 (CA_ofB b1 w hc k1), k2⟩
          · unfold s_AdjoinedSets_type
            rw [if_neg h1, if_pos a1]
            exact c1.trans (by rw [if_pos h6, e1])
          · unfold s_AdjoinedSetsModel_type s_AdjoinedSetsModel_type_16
            rw [if_neg h1, if_neg a2]
            exact (m1' (fun i _ b => ok i b)).trans (by rw [m_73 v m h8 w.1.1 hm1, if_pos h6, e2])
        · refine ⟨-2, h, h, S, ?_, ?_, w, hc, hm⟩
          · unfold s_AdjoinedSets_type
            rw [if_neg h1, if_pos a1]
            exact c1.trans (by rw [if_neg h6])
          · unfold s_AdjoinedSetsModel_type s_AdjoinedSetsModel_type_16
            rw [if_neg h1, if_neg a2]
            exact (m1 (fun i _ b => ok i b)).trans (by rw [m_73 v m h8 w.1.1 hm, if_neg h6])
      · have ex : ∃ i, 0 ≤ i ∧ i < m ∧ ¬ okC (byt v i) := by
          refine Classical.byContradiction fun q => ok fun i hi => Classical.byContradiction fun q2 => q ⟨i, Nat.zero_le _, hi, q2⟩
        refine ⟨-1, h, h, S, ?_, ?_, w, hc, hm⟩
        · unfold s_AdjoinedSets_type
          rw [if_neg h1, if_pos a1]
          exact c2 ex
        · unfold s_AdjoinedSetsModel_type s_AdjoinedSetsModel_type_16
          rw [if_neg h1, if_neg a2]
          exact m2 ex
    · refine ⟨-1, h, h, S, ?_, ?_, w, hc, hm⟩
      · unfold s_AdjoinedSets_type
        rw [if_neg h1, if_neg (show ¬ nI m ≤ 8 from nI_ge (a := 8) (by omega) hm2)]
      · unfold s_AdjoinedSetsModel_type s_AdjoinedSetsModel_type_15 s_AdjoinedSetsModel_type_16
        rw [if_neg h1, if_pos (show (8 : Int32) < nI m from nI_lt (a := 8) (by omega) hm2), m_bad]
