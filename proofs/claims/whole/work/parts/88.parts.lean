/-! The model's reader: the parts that it wants of a character. -/
theorem wp_n {h : HP} {w m : Nat} {P c own bo me v u : Int32} (hk : s_AdjoinedSetsModel_wantParts 200 P c own bo me h = s_AdjoinedSetsModel_wantParts_29 200 P c own bo me v h) (hb : s_AdjoinedSetsModel_isBinder c = some 0) (hp : s_AdjoinedSetsModel_partsOf 200 c h = some (nI m)) (h1 : 1 ≤ m) (h3 : m ≤ 3) (hu : u = if (65 ≤ c ∧ c < 69) ∧ c - 65 = own then 3 else v) (hw : w ≤ 120) (h7 : h.1 200 7 = nI w) : ∃ h', s_AdjoinedSetsModel_wantParts 200 P c own bo me h = some h' ∧ low w h h' ∧ h'.1 200 7 = nI (w + m) ∧ (∀ q, q < m - 1 → itm h' (w + q) v bo me (h.1 200 12)) ∧ itm h' (w + (m - 1)) u bo me (h.1 200 12) := by
  have k9 : kd 200 9 = some () := rfl
  rw [hk]
  unfold s_AdjoinedSetsModel_wantParts_29
  rw [hb, ob_s, if_pos rfl, k9, ob_s, hp, ob_s]
  obtain ⟨h', f, a1, a2, a3, a4, a5⟩ := m_187 (c := c) (own := own) (bo := bo) (me := me) h3 hu (m - 1) 1 20000 w h (by omega) (by omega) (by omega) (by omega) h7
  exact ⟨h', f, a1, by rw [a2]; congr 1; omega, a4, a5⟩
theorem wp_0 {h : HP} {P c own bo me v : Int32} (hk : s_AdjoinedSetsModel_wantParts 200 P c own bo me h = s_AdjoinedSetsModel_wantParts_29 200 P c own bo me v h) (hb : s_AdjoinedSetsModel_isBinder c = some 0) (hp : s_AdjoinedSetsModel_partsOf 200 c h = some 0) : s_AdjoinedSetsModel_wantParts 200 P c own bo me h = some h := by
  have k9 : kd 200 9 = some () := rfl
  rw [hk]
  unfold s_AdjoinedSetsModel_wantParts_29
  rw [hb, ob_s, if_pos rfl, k9, ob_s, hp, ob_s, show (20000 : Nat) = 19999 + 1 from rfl, s_AdjoinedSetsModel_wantParts_187]
  dsimp only
  rw [if_pos (by decide), if_pos (by decide)]
theorem wp_153 {h : HP} {w : Nat} {bo me a bo' me' : Int32} (hw : w ≤ 120) (h7 : h.1 200 7 = nI w) : ∃ h', s_AdjoinedSetsModel_wantParts_153 200 bo me 200 a bo' me' h = some h' ∧ low w h h' ∧ h'.1 200 7 = nI (w + 3) ∧ itm h' w a bo' me' (h.1 200 12) ∧ itm h' (w + 1) 0 bo me (h.1 200 12) ∧ itm h' (w + 2) 2 bo me (h.1 200 12) := by
  have k9 : kd 200 9 = some () := rfl
  obtain ⟨h1, f1, a1, a2, a3, a4⟩ := m_want (a := a) (b := bo') (c := me') h7 (by omega)
  obtain ⟨h2, f2, b1, b2, b3, b4⟩ := m_want (a := 0) (b := bo) (c := me) a2 (by omega)
  obtain ⟨h3, f3, c1, c2, c3, c4⟩ := m_want (a := 2) (b := bo) (c := me) b2 (by omega)
  unfold s_AdjoinedSetsModel_wantParts_153
  rw [k9, ob_s, f1, ob_s, ob_s, f2, ob_s, ob_s, f3, ob_s]
  rw [a3] at b4
  rw [b3, a3] at c4
  exact ⟨h3, rfl, (a1.tr (by omega) b1).tr (by omega) c1, c2, c1.itm (by omega) (b1.itm (by omega) a4), c1.itm (by omega) b4, c4⟩
def kB (c : Int32) : Int32 := if c = 73 then 0 else 1
theorem wp_114 {h : HP} {w : Nat} {c bo me x o : Int32} (hw : w ≤ 120) (h7 : h.1 200 7 = nI w) : ∃ h', s_AdjoinedSetsModel_wantParts_114 200 c bo me x o h = some h' ∧ low w h h' ∧ h'.1 200 7 = nI (w + 3) ∧ itm h' w (kB c) (bo ||| x) (if o = 0 then me &&& (x ^^^ (-1)) else me ||| x) (h.1 200 12) ∧ itm h' (w + 1) 0 bo me (h.1 200 12) ∧ itm h' (w + 2) 2 bo me (h.1 200 12) := by
  unfold s_AdjoinedSetsModel_wantParts_114 s_AdjoinedSetsModel_wantParts_128 kB
  by_cases c1 : c = 73
  · rw [if_pos c1, if_pos c1]
    by_cases c2 : o = 0
    · rw [if_pos c2, if_pos c2]
      exact wp_153 hw h7
    · rw [if_neg c2, if_neg c2]
      exact wp_153 hw h7
  · rw [if_neg c1, if_neg c1]
    by_cases c2 : o = 0
    · rw [if_pos c2, if_pos c2]
      exact wp_153 hw h7
    · rw [if_neg c2, if_neg c2]
      exact wp_153 hw h7
section WPB
variable {K : Nat → Nat} {n : Nat} {t : Nat → Int32}
theorem wp_77 {h : HP} {w p : Nat} {c bo me x : Int32} {sc : Nat → Nat} (hn : n ≤ 60) (hm : MR K n t h) (hr : rel sc bo me) (hp : p < n) (hw : w ≤ 120) (h7 : h.1 200 7 = nI w) : ∃ h', s_AdjoinedSetsModel_wantParts_77 200 (nI p) c bo me x h = some h' ∧ low w h h' ∧ h'.1 200 7 = nI (w + 3) ∧ itm h' w (kB c) (bo ||| x) (if chr n t (p + 2) = 97 ∧ sc 0 = 0 then me ||| x else me &&& (x ^^^ (-1))) (h.1 200 12) ∧ itm h' (w + 1) 0 bo me (h.1 200 12) ∧ itm h' (w + 2) 2 bo me (h.1 200 12) := by
  unfold s_AdjoinedSetsModel_wantParts_77 s_AdjoinedSetsModel_wantParts_113
  have e2 : nI p + 2 = nI (p + 2) := nI_add p 2
  rw [rI_200_1, ob_s, hm.1, e2]
  have g0 := wp_114 (c := c) (bo := bo) (me := me) (x := x) (o := 0) hw h7
  have g1 := wp_114 (c := c) (bo := bo) (me := me) (x := x) (o := 1) hw h7
  rw [if_pos rfl] at g0
  rw [if_neg (by decide)] at g1
  by_cases c1 : p + 2 < n
  · have ct : chr n t (p + 2) = t (p + 2) := if_pos c1
    rw [if_neg (nI_ge (by omega) (by omega)), rR_200_0, ob_s, rA_201 (by omega), ob_s, hm.2.1 _ c1, ct]
    by_cases c2 : t (p + 2) = 97
    · rw [if_pos c2]
      have hb : (bo &&& 1) = 0 ↔ sc 0 = 0 := by
        have a := tb_z bo (l := 0) (by decide)
        have b := (hr 0 (by decide)).1
        rw [show bitI 0 = 1 by decide, b] at a
        rw [a]
        simp
      by_cases c3 : sc 0 = 0
      · rw [if_pos (hb.mpr c3), if_pos ⟨c2, c3⟩]
        exact g1
      · rw [if_neg (fun q => c3 (hb.mp q)), if_neg (fun q => c3 q.2)]
        exact g0
    · rw [if_neg c2, if_neg (fun q => c2 q.1)]
      exact g0
  · have ct : chr n t (p + 2) = 0 := if_neg c1
    rw [if_pos (nI_le (by omega) (by omega)), ct, if_neg (fun q => absurd q.1 (by decide))]
    exact g0
theorem wp_b {h : HP} {w p : Nat} {c own bo me : Int32} {sc : Nat → Nat} (hk : s_AdjoinedSetsModel_wantParts 200 (nI p) c own bo me h = s_AdjoinedSetsModel_wantParts_29 200 (nI p) c own bo me 0 h) (hb : s_AdjoinedSetsModel_isBinder c = some 1) (hn : n ≤ 60) (hm : MR K n t h) (hr : rel sc bo me) (hp : p < n) (hw : w ≤ 120) (h7 : h.1 200 7 = nI w) : ∃ h' bo' me', s_AdjoinedSetsModel_wantParts 200 (nI p) c own bo me h = some h' ∧ low w h h' ∧ h'.1 200 7 = nI (w + 3) ∧ itm h' w (kB c) bo' me' (h.1 200 12) ∧ itm h' (w + 1) 0 bo me (h.1 200 12) ∧ itm h' (w + 2) 2 bo me (h.1 200 12) ∧ (97 ≤ chr n t (p + 1) ∧ chr n t (p + 1) < 105 → rel (upS sc (lwN (chr n t (p + 1))) (if chr n t (p + 2) = 97 ∧ sc 0 = 0 then 2 else 1)) bo' me') := by
  rw [hk]
  unfold s_AdjoinedSetsModel_wantParts_29 s_AdjoinedSetsModel_wantParts_76
  rw [hb, ob_s, if_neg (by decide), rI_200_1, ob_s, hm.1, nI_1]
  obtain ⟨h0, f0, q0⟩ := wp_77 (c := c) (x := 0) hn hm hr hp hw h7
  by_cases c1 : p + 1 < n
  · have ct : chr n t (p + 1) = t (p + 1) := if_pos c1
    rw [if_neg (nI_ge (by omega) (by omega)), rR_200_0, ob_s, rA_201 (by omega), ob_s, hm.2.1 _ c1, ml_low, ob_s, ct]
    by_cases c2 : 97 ≤ t (p + 1) ∧ t (p + 1) < 105
    · rw [if_pos c2, if_neg (by decide), ob_s, rA_201 (by omega), ob_s, hm.2.1 _ c1, ml_bit c2, ob_s]
      obtain ⟨h1, f1, a1, a2, a3, a4, a5⟩ := wp_77 (c := c) (x := bitI (lwN (t (p + 1)))) hn hm hr hp hw h7
      refine ⟨h1, _, _, f1, a1, a2, a3, a4, a5, fun _ => ?_⟩
      have l8 := (lw_n c2).2
      by_cases c3 : chr n t (p + 2) = 97 ∧ sc 0 = 0
      · rw [if_pos c3, if_pos c3]
        exact rel_2 hr l8
      · rw [if_neg c3, if_neg c3]
        exact rel_1 hr l8
    · rw [if_neg c2, if_pos rfl]
      exact ⟨h0, _, _, f0, q0.1, q0.2.1, q0.2.2.1, q0.2.2.2.1, q0.2.2.2.2, fun q => absurd q c2⟩
  · have ct : chr n t (p + 1) = 0 := if_neg c1
    rw [if_pos (nI_le (by omega) (by omega)), ct]
    exact ⟨h0, _, _, f0, q0.1, q0.2.1, q0.2.2.1, q0.2.2.2.1, q0.2.2.2.2, fun q => absurd q.1 (by decide)⟩
end WPB
