/-! theorem, clear, let. -/
theorem isT_th {j : Nat} (hj : j < 16) : isT (118 + 3 * j) := ⟨by omega, by omega, by omega⟩
theorem isT_bd {f : Nat} (hf : f < 4) : isT (106 + 3 * f) := ⟨by omega, by omega, by omega⟩
theorem isT_100 : isT 100 := ⟨by omega, by omega, by omega⟩
theorem isT_103 : isT 103 := ⟨by omega, by omega, by omega⟩
theorem c_text {h : HP} {j : Nat} (hj : j < 16) : s_Laws_text 3 (nI j) h = some (118 + 3 * j) := by
  unfold s_Laws_text
  rw [rR_3_0, ob_s, rA_7 hj, ob_s]
theorem cT_tc {h : HP} {t : Nat} {x : TX} (hc : cT h t x) (p : Nat) : tc h t x.1 p = if p < x.1 then x.2.1 p else 0 := by
  unfold tc
  split
  · rename_i hp
    exact hc.2 p hp
  · rfl
theorem c_theorem {S : SG} {h : HP} {i k : Int32} (hw : WF S) (hc : CA S h) : s_AdjoinedSets_theorem 0 i k h = some (q_theorem S i k) := by
  have h16 : gC S ≤ 16 := hw.2.2.2.1
  unfold s_AdjoinedSets_theorem q_theorem
  rw [rR_0_3, ob_s, rK_3, ob_s, c_has hc, ob_s]
  rcases pk_ix i (n := gC S) (by omega) with h1 | h1 | ⟨j, hj, rfl⟩
  · simp [h1]
  · by_cases h2 : i < 0 <;> simp [h1, h2]
  · have a := nI_pos (n := j) (by omega)
    have b := nI_ge hj (by omega)
    have hx := (hc.2.2.2.2 j hj).1
    have hx60 := hx.1.2.2
    simp only [a, b, if_false]
    rw [if_neg (by decide), nI_clamp (by omega)]
    by_cases hk : k < 0
    · rw [if_pos hk, if_pos hk]
    · rw [if_neg hk, if_neg hk, ob_s, rK_3, ob_s, c_text (by omega), ob_s, t_kd (isT_th (by omega)), ob_s, p_length hx.1, ob_s]
      obtain ⟨m, hm, rfl⟩ := nI_of hk
      by_cases hmn : m < (gT S j).1
      · rw [if_pos (nI_lt hmn (by omega)), ob_s, rK_3, ob_s, c_text (by omega), ob_s, t_kd (isT_th (by omega)), ob_s, p_at hx.1 (by omega), ob_s, if_neg (nI_ge hmn (by omega)), cT_tc hx, if_pos hmn, nI_clamp (by omega)]
      · rw [if_neg (nI_nlt (by omega) hm), if_pos (nI_le (by omega) hm)]
theorem m_theorem {S : SG} {h : HP} {i k : Int32} (hw : WF S) (hc : MA S h) : s_AdjoinedSetsModel_theorem 200 i k h = some (q_theorem S i k) := by
  have h16 : gC S ≤ 16 := hw.2.2.2.1
  unfold s_AdjoinedSetsModel_theorem q_theorem
  rw [rK_200, ob_s, m_is hc, ob_s]
  rcases pk_ix i (n := gC S) (by omega) with h1 | h1 | ⟨j, hj, rfl⟩
  · simp [h1]
  · by_cases h2 : i < 0 <;> simp [h1, h2]
  · have a := nI_pos (n := j) (by omega)
    have b := nI_ge hj (by omega)
    have hx := hc.2.2.2.2.1 j hj
    have hx60 := (hw.2.2.2.2 j hj).1
    simp only [a, b, if_false]
    rw [if_neg (by decide), nI_clamp (by omega)]
    by_cases hk : k < 0
    · rw [if_pos hk, if_pos hk]
    · rw [if_neg hk, if_neg hk, rR_200_5, ob_s, rA_204 (by omega), ob_s, hx.1]
      obtain ⟨m, hm, rfl⟩ := nI_of hk
      by_cases hmn : m < (gT S j).1
      · rw [if_neg (nI_ge hmn (by omega)), rR_200_0, ob_s, ob_s]
        unfold s_AdjoinedSetsModel_theoremAt
        have e1 : (100 + (60 * nI j)) + nI m = nI (100 + 60 * j + m) := by
          rw [show (100 : Int32) = nI 100 from rfl, show (60 : Int32) = nI 60 from rfl, pk_mul, nI_add, nI_add]
        rw [ob_s, e1, rA_201 (by omega), ob_s, if_neg (nI_ge hmn (by omega)), nI_clamp (by omega), hx.2.1 m hmn]
      · rw [if_pos (nI_le (by omega) hm), if_pos (nI_le (by omega) hm)]
-- the memory behind a write
theorem u2_s {α : Type} {f : Nat → Nat → α} {n i : Nat} {x : α} : up2 f n i x n i = x := by simp [up2]
theorem u2_i {α : Type} {f : Nat → Nat → α} {n i j : Nat} {x : α} (h : j ≠ i) : up2 f n i x n j = f n j := by simp [up2, h]
def setB (S : SG) (x : TX) : SG := (x, S.2)
theorem sM_I {h : HP} {n i : Nat} {x : Int32} (hn : n < 200) : sM h (up2 h.1 n i x, h.2) := fun m hm => ⟨up2_n (by omega), rfl⟩
theorem sC_I {h : HP} {n i : Nat} {x : Int32} (hn : 200 ≤ n) : sC h (up2 h.1 n i x, h.2) := ⟨fun m hm => ⟨up2_n (by omega), rfl⟩, rfl⟩
theorem sM_J {h : HP} {n i : Nat} {x : Int64} (hn : n < 200) : sM h (h.1, up2 h.2.1 n i x, h.2.2) := fun m hm => ⟨rfl, up2_n (by omega)⟩
theorem sC_J {h : HP} {n i : Nat} {x : Int64} (hn : 200 ≤ n) : sC h (h.1, up2 h.2.1 n i x, h.2.2) := ⟨fun m hm => ⟨rfl, up2_n (by omega)⟩, rfl⟩
theorem sM.tr {a b c : HP} (h1 : sM a b) (h2 : sM b c) : sM a c := fun n hn => ⟨(h2 n hn).1.trans (h1 n hn).1, (h2 n hn).2.trans (h1 n hn).2⟩
theorem sC.tr {a b c : HP} (h1 : sC a b) (h2 : sC b c) : sC a c := ⟨fun n hn => ⟨(h2.1 n hn).1.trans (h1.1 n hn).1, (h2.1 n hn).2.trans (h1.1 n hn).2⟩, h2.2.trans h1.2⟩
theorem sM.rf (a : HP) : sM a a := fun _ _ => ⟨rfl, rfl⟩
theorem sC.rf (a : HP) : sC a a := ⟨fun _ _ => ⟨rfl, rfl⟩, rfl⟩
/-- the class's work rows: buffer, Reader, Worker, Rules, scope, Replacement, Form, spare and their like -/
def wkN (n : Nat) : Bool := [100, 101, 102, 4, 5, 6, 9, 10, 11, 13, 14, 15, 16, 103, 104, 105].contains n
theorem wk_big {n : Nat} (h : 106 ≤ n) : wkN n = false := by
  unfold wkN
  simp
  omega
theorem wk_17 : ∀ f, f < 4 → wkN (17 + f) = false := by decide
/-- the class's memory but for its work rows stays -/
def stB (h h' : HP) : Prop := ∀ n, n < 200 → wkN n = false → h'.1 n = h.1 n ∧ h'.2.1 n = h.2.1 n
theorem stB.tr {a b c : HP} (h1 : stB a b) (h2 : stB b c) : stB a c := fun n hn hk => ⟨(h2 n hn hk).1.trans (h1 n hn hk).1, (h2 n hn hk).2.trans (h1 n hn hk).2⟩
theorem stB.rf (a : HP) : stB a a := fun _ _ _ => ⟨rfl, rfl⟩
theorem stB_I {h : HP} {n i : Nat} {x : Int32} (hn : wkN n = true) : stB h (up2 h.1 n i x, h.2) := fun m _ hk => ⟨up2_n (fun q => by rw [q, hn] at hk; cases hk), rfl⟩
theorem stB_J {h : HP} {n i : Nat} {x : Int64} (hn : wkN n = true) : stB h (h.1, up2 h.2.1 n i x, h.2.2) := fun m _ hk => ⟨rfl, up2_n (fun q => by rw [q, hn] at hk; cases hk)⟩
theorem cT_ofB {h h' : HP} {t : Nat} {x : TX} (hs : stB h h') (ht : 106 ≤ t) (h2 : t + 2 < 200) (hc : cT h t x) : cT h' t x := by
  obtain ⟨⟨a1, a2, a3⟩, a4⟩ := hc
  refine ⟨⟨a1, by rw [(hs t (by omega) (wk_big ht)).1]; exact a2, a3⟩, fun p hp => ?_⟩
  rw [(hs (t + 1) (by omega) (wk_big (by omega))).1]
  exact a4 p hp
theorem cE_ofB {h h' : HP} {t : Nat} {x : TX} (hs : stB h h') (ht : 106 ≤ t) (h2 : t + 2 < 200) (hc : cE h t x) : cE h' t x := by
  intro p hp
  rw [(hs (t + 2) (by omega) (wk_big (by omega))).1]
  exact hc p hp
/-- what a call leaves of CA, if it touched but the buffer and the work rows -/
theorem CA_ofB {S : SG} {h h' : HP} {x : TX} (hs : stB h h') (hw : WF S) (hc : CA S h) (hx : cT h' 100 x) : CA (setB S x) h' := by
  obtain ⟨h1, h2, h3, h4, h5⟩ := hc
  refine ⟨hx, fun j hj => by rw [(hs 1 (by decide) rfl).2]; exact h2 j hj, fun f hf => ?_, by rw [(hs 3 (by decide) rfl).1]; exact h4, fun i hi => ?_⟩
  · obtain ⟨a, b⟩ := h3 f hf
    exact ⟨by rw [(hs (17 + f) (by omega) (wk_17 f hf)).1]; exact a, fun q => ⟨cT_ofB hs (by omega) (by omega) (b q).1, cE_ofB hs (by omega) (by omega) (b q).2⟩⟩
  · obtain ⟨a, b, c⟩ := h5 i hi
    have hi2 : i < 16 := Nat.lt_of_lt_of_le hi hw.2.2.2.1
    exact ⟨cT_ofB hs (by omega) (by omega) a, cE_ofB hs (by omega) (by omega) b, by rw [(hs 8 (by decide) rfl).1]; exact c⟩
def e0 : TX := (0, fun _ => 0, fun _ => 0)
theorem cT_e0 {h : HP} (hl : h.1 100 2 = 0) : cT h 100 e0 := ⟨⟨isT_100, hl, by decide⟩, fun p hp => absurd hp (by show ¬ p < 0; omega)⟩
theorem WF_e0 {S : SG} (hw : WF S) : WF (setB S e0) := ⟨⟨Nat.zero_le _, fun p hp => absurd hp (by show ¬ p < 0; omega)⟩, hw.2⟩
theorem c_clear {S : SG} {h : HP} (hw : WF S) (hc : CA S h) : ∃ h', s_AdjoinedSets_clear 0 h = some (nI (gB S).1, h') ∧ CA (setB S e0) h' ∧ sM h h' := by
  refine ⟨(up2 h.1 100 2 0, h.2), ?_, CA_ofB (stB_I rfl) hw hc (cT_e0 (by show up2 h.1 100 2 0 100 2 = 0; exact u2_s)), sM_I (by decide)⟩
  unfold s_AdjoinedSets_clear
  rw [rR_0_1, ob_s, rK_100, ob_s, p_length hc.1.1, ob_s, ob_s, rK_100, ob_s, p_empty isT_100, ob_s]
theorem MA_e0 {S : SG} {h : HP} (hc : MA S h) : MA (setB S e0) (up2 h.1 200 1 0, h.2) := by
  obtain ⟨⟨h1, h1b⟩, h2, h3, h4, h5, h6⟩ := hc
  have hn : ∀ n, n ≠ 200 → up2 h.1 200 1 0 n = h.1 n := fun n hn => up2_n hn
  refine ⟨⟨by show up2 h.1 200 1 0 200 1 = 0; exact u2_s, fun p hp => absurd hp (by show ¬ p < 0; omega)⟩, h2, fun f hf => ?_, ?_, fun i hi => ?_, ?_⟩
  · obtain ⟨a, b⟩ := h3 f hf
    exact ⟨by show up2 h.1 200 1 0 203 f = _; rw [hn 203 (by decide)]; exact a, fun q p hp => by show up2 h.1 200 1 0 201 _ = _; rw [hn 201 (by decide)]; exact b q p hp⟩
  · show up2 h.1 200 1 0 200 4 = _
    rw [u2_i (by decide)]
    exact h4
  · obtain ⟨a, b, c⟩ := h5 i hi
    exact ⟨by show up2 h.1 200 1 0 204 i = _; rw [hn 204 (by decide)]; exact a, fun p hp => by show up2 h.1 200 1 0 201 _ = _; rw [hn 201 (by decide)]; exact b p hp, by show up2 h.1 200 1 0 205 i = _; rw [hn 205 (by decide)]; exact c⟩
  · show up2 h.1 200 1 0 219 = _
    rw [hn 219 (by decide)]
    exact h6
theorem m_clear {S : SG} {h : HP} (hc : MA S h) : ∃ h', s_AdjoinedSetsModel_clear 200 h = some (nI (gB S).1, h') ∧ MA (setB S e0) h' ∧ sC h h' := by
  refine ⟨(up2 h.1 200 1 0, h.2), ?_, MA_e0 hc, sC_I (by decide)⟩
  unfold s_AdjoinedSetsModel_clear
  rw [rI_200_1, ob_s, wI_200_1, ob_s, hc.1.1]
def OP2 (f g : HP → Option (Int32 × HP)) : Prop := ∀ (S : SG) (h : HP), WF S → CA S h → MA S h → ∃ (r : Int32) (h1 h2 : HP) (S' : SG), f h = some (r, h1) ∧ g h1 = some (r, h2) ∧ WF S' ∧ CA S' h2 ∧ MA S' h2
def OPL (f g : HP → Option (Int64 × HP)) : Prop := ∀ (S : SG) (h : HP), WF S → CA S h → MA S h → ∃ (r : Int64) (h1 h2 : HP) (S' : SG), f h = some (r, h1) ∧ g h1 = some (r, h2) ∧ WF S' ∧ CA S' h2 ∧ MA S' h2
/-- two calls that each keep to their own part of the memory -/
theorem OP2.of {f g : HP → Option (Int32 × HP)} (a : SG → Int32) (u : SG → SG) (hw : ∀ S, WF S → WF (u S)) (hf : ∀ (S : SG) (h : HP), WF S → CA S h → ∃ h1, f h = some (a S, h1) ∧ CA (u S) h1 ∧ sM h h1) (hg : ∀ (S : SG) (h : HP), WF S → MA S h → ∃ h1, g h = some (a S, h1) ∧ MA (u S) h1 ∧ sC h h1) : OP2 f g := by
  intro S h w hc hm
  obtain ⟨h1, e1, c1, m1⟩ := hf S h w hc
  obtain ⟨h2, e2, m2, c2⟩ := hg S h1 w (MA_of m1 hm)
  exact ⟨a S, h1, h2, u S, e1, e2, hw S w, CA_of c2 (hw S w) c1, m2⟩
