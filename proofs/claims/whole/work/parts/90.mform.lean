/-! The model's reader: a formula's step. -/
theorem hk_f {c : Int32} (hc : c = 33 ∨ c = 94 ∨ c = 118 ∨ c = 62) {P own bo me : Int32} {h : HP} : s_AdjoinedSetsModel_wantParts 200 P c own bo me h = s_AdjoinedSetsModel_wantParts_29 200 P c own bo me 1 h := by
  unfold s_AdjoinedSetsModel_wantParts s_AdjoinedSetsModel_wantParts_24
  rcases hc with rfl | rfl | rfl | rfl
  · rw [if_pos rfl]
  · rw [if_neg (by decide), if_pos rfl]
  · rw [if_neg (by decide), if_neg (by decide), if_pos rfl]
  · rw [if_neg (by decide), if_neg (by decide), if_neg (by decide), if_pos rfl]
theorem hk_t {c : Int32} (h1 : c ≠ 33) (h2 : c ≠ 94) (h3 : c ≠ 118) (h4 : c ≠ 62) {P own bo me : Int32} {h : HP} : s_AdjoinedSetsModel_wantParts 200 P c own bo me h = s_AdjoinedSetsModel_wantParts_29 200 P c own bo me 0 h := by
  unfold s_AdjoinedSetsModel_wantParts
  rw [if_neg h1, if_neg h2, if_neg h3, if_neg h4]
section MF
variable {k : Nat → Nat} {n : Nat} {t : Nat → Int32} {ow lm : Int32} {ok lt d : Nat}
theorem MG_f (hG : MG k n t ow lm ok lt d) (hd : d ≤ 11) (hn : n ≤ 60) (sc : Nat → Nat) (bo me : Int32) (p : Nat) (h : HP) (w r : Nat) (hr : rel sc bo me) (hp : p ≤ n) (hm : MR (kk k ow ok) n t h) (hw : w ≤ 2 * p) (h7 : h.1 200 7 = nI (w + 1)) (hi : itm h w (bI true) bo me (nI (13 - (d + 1)))) (h1 : 100 ≤ r + p) : MQ2 ow lm n (PT k n t ow ok lt (d + 1) true sc p) w p r h := by
  obtain ⟨r, rfl⟩ : ∃ r0, r = r0 + 1 := ⟨r - 1, by omega⟩
  show MQ2 ow lm n (if chr n t p = 33 then sq (PT k n t ow ok lt d true sc) 1 (p + 1) else if chr n t p = 60 ∨ chr n t p = 61 then sq (PT k n t ow ok lt d false sc) 2 (p + 1) else if chr n t p = 62 ∨ chr n t p = 94 ∨ chr n t p = 118 then sq (PT k n t ow ok lt d true sc) 2 (p + 1) else if chr n t p = 69 ∨ chr n t p = 76 then bn n t (PT k n t ow ok lt d) true sc p else .inl p) w p (r + 1) h
  by_cases hpn : p < n
  · have ct : chr n t p = t p := if_pos hpn
    obtain ⟨g, a1, a2, a3, a4⟩ := m_iter (r := r) (own := ow) (lt := lm) hn hpn hm (by omega) h7 hi
    have e12 : nI (13 - (d + 1)) + 1 = nI (13 - d) := by rw [nI_1]; congr 1; omega
    rw [e12] at a3 a4
    have hb1 : bI true = 1 := rfl
    rw [if_neg (fun q => absurd ((nI_ltI (a := 13) (by omega) (by omega)).mp q.2) (by omega)), hb1, ← ct] at a4
    have go : ∀ c, chr n t p = c → s_AdjoinedSetsModel_goesOn 200 c 1 ow lm bo me g = some 1 → s_AdjoinedSetsModel_wrong_20 (r + 1) 200 ow lm (nI p) h = (s_AdjoinedSetsModel_wantParts 200 (nI p) c ow bo me g).bind fun q => s_AdjoinedSetsModel_wrong_20 r 200 ow lm (nI (p + 1)) q := by
      intro c ec eg
      rw [a4, ec, eg, ob_s, if_neg (by decide), if_pos (Or.inr rfl)]
    by_cases c1 : chr n t p = 33
    · rw [if_pos c1]
      exact MG_n hG true sc bo me 33 hr p hpn hn h g w r 1 hm hw (a1 w) a2 a3 (go 33 c1 rfl) (hk_f (Or.inl rfl)) rfl rfl (by omega) (by omega) (fun q => absurd q.1.1 (by decide)) (by omega)
    · rw [if_neg c1]
      by_cases c2 : chr n t p = 60 ∨ chr n t p = 61
      · rw [if_pos c2]
        rcases c2 with c | c
        · exact MG_n hG false sc bo me 60 hr p hpn hn h g w r 2 hm hw (a1 w) a2 a3 (go 60 c rfl) (hk_t (by decide) (by decide) (by decide) (by decide)) rfl rfl (by omega) (by omega) (fun q => absurd q.1.1 (by decide)) (by omega)
        · exact MG_n hG false sc bo me 61 hr p hpn hn h g w r 2 hm hw (a1 w) a2 a3 (go 61 c rfl) (hk_t (by decide) (by decide) (by decide) (by decide)) rfl rfl (by omega) (by omega) (fun q => absurd q.1.1 (by decide)) (by omega)
      · rw [if_neg c2]
        by_cases c3 : chr n t p = 62 ∨ chr n t p = 94 ∨ chr n t p = 118
        · rw [if_pos c3]
          rcases c3 with c | c | c
          · exact MG_n hG true sc bo me 62 hr p hpn hn h g w r 2 hm hw (a1 w) a2 a3 (go 62 c rfl) (hk_f (by decide)) rfl rfl (by omega) (by omega) (fun q => absurd q.1.1 (by decide)) (by omega)
          · exact MG_n hG true sc bo me 94 hr p hpn hn h g w r 2 hm hw (a1 w) a2 a3 (go 94 c rfl) (hk_f (by decide)) rfl rfl (by omega) (by omega) (fun q => absurd q.1.2 (by decide)) (by omega)
          · exact MG_n hG true sc bo me 118 hr p hpn hn h g w r 2 hm hw (a1 w) a2 a3 (go 118 c rfl) (hk_f (by decide)) rfl rfl (by omega) (by omega) (fun q => absurd q.1.2 (by decide)) (by omega)
        · rw [if_neg c3]
          by_cases c4 : chr n t p = 69 ∨ chr n t p = 76
          · rw [if_pos c4]
            rcases c4 with c | c
            · exact MG_b hG true sc bo me 69 hr p hpn hn h g w r hm hw (a1 w) a2 a3 (go 69 c rfl) (hk_t (by decide) (by decide) (by decide) (by decide)) rfl rfl (by omega)
            · exact MG_b hG true sc bo me 76 hr p hpn hn h g w r hm hw (a1 w) a2 a3 (go 76 c rfl) (hk_t (by decide) (by decide) (by decide) (by decide)) rfl rfl (by omega)
          · rw [if_neg c4]
            have eg : s_AdjoinedSetsModel_goesOn 200 (chr n t p) 1 ow lm bo me g = some 0 := by
              unfold s_AdjoinedSetsModel_goesOn s_AdjoinedSetsModel_beginsFormula
              rw [if_neg (by decide), if_neg (by decide), if_pos rfl, if_neg (fun q => c2 (Or.inl q)), if_neg (fun q => c2 (Or.inr q)), if_neg c1, if_neg (fun q => c3 (Or.inr (Or.inl q))), if_neg (fun q => c3 (Or.inr (Or.inr q))), if_neg (fun q => c3 (Or.inl q)), if_neg (fun q => c4 (Or.inl q)), if_neg (fun q => c4 (Or.inr q)), ob_s]
              rfl
            rw [eg, ob_s, if_pos rfl] at a4
            exact ⟨g, a4, (a1 0).1, hp⟩
  · have e : p = n := by omega
    have c0 : chr n t p = 0 := if_neg hpn
    rw [c0, if_neg (by decide), if_neg (by decide), if_neg (by decide), if_neg (by decide)]
    have a4 := m_end (w := w) (r := r) (own := ow) (lt := lm) hn hm (by omega) h7
    rw [← e] at a4
    exact ⟨h, a4, (low.rf 0 h).1, hp⟩
theorem MG_0 (hn : n ≤ 60) : MG k n t ow lm ok lt 0 := by
  intro b sc bo me p h w r hr hp hm hw h7 hi h1
  obtain ⟨r, rfl⟩ : ∃ r0, r = r0 + 1 := ⟨r - 1, by omega⟩
  show MQ2 ow lm n (.inl p) w p (r + 1) h
  by_cases hpn : p < n
  · obtain ⟨g, a1, a2, a3, a4⟩ := m_iter (r := r) (own := ow) (lt := lm) hn hpn hm (by omega) h7 hi
    rw [if_pos ⟨by cases b <;> decide, by decide⟩] at a4
    exact ⟨g, a4, (a1 0).1, hp⟩
  · have e : p = n := by omega
    have a4 := m_end (w := w) (r := r) (own := ow) (lt := lm) hn hm (by omega) h7
    rw [← e] at a4
    exact ⟨h, a4, (low.rf 0 h).1, hp⟩
end MF
