/-! The model's reader: a term's step, and all. -/
section MT
variable {k : Nat → Nat} {n : Nat} {t : Nat → Int32} {ow lm : Int32} {ok lt d : Nat}
/-- the function whose body it is: its first part names a member -/
theorem MG_o (hG : MG k n t ow lm ok lt d) (hd : d ≤ 11) (hn : n ≤ 60) (sc : Nat → Nat) (bo me : Int32) (hr : rel sc bo me) (p : Nat) (hp : p < n) (h : HP) (w r : Nat) (hok : 1 ≤ ok ∧ ok ≤ 3) (hm : MR (kk k ow ok) n t h) (hw : w ≤ 2 * p) (h7 : h.1 200 7 = nI (w + ok)) (hi : ∀ q, q < ok - 1 → itm h (w + q) 0 bo me (nI (13 - d))) (hi2 : itm h (w + (ok - 1)) 3 bo me (nI (13 - d))) (h100 : 100 ≤ r + (p + 1)) : MQ2 ow lm n (if (97 ≤ chr n t (p + 1) ∧ chr n t (p + 1) < 105) ∧ sc (lwN (chr n t (p + 1))) = 2 then sq (PT k n t ow ok lt d false sc) ok (p + 1) else .inl (p + 1)) w (p + 1) r h := by
  obtain ⟨r, rfl⟩ : ∃ r0, r = r0 + 1 := ⟨r - 1, by omega⟩
  obtain ⟨m, rfl⟩ : ∃ m, ok = m + 1 := ⟨ok - 1, by omega⟩
  have e1 : m + 1 - 1 = m := by omega
  rw [e1] at hi hi2
  by_cases c1 : p + 1 < n
  · have ct : chr n t (p + 1) = t (p + 1) := if_pos c1
    obtain ⟨g, a1, a2, a3, a4⟩ := m_iter (w := w + m) (r := r) (own := ow) (lt := lm) hn c1 hm (by omega) h7 hi2
    rw [← ct] at a4
    by_cases d0 : d = 0
    · subst d0
      rw [if_pos ⟨by decide, by decide⟩] at a4
      have : (if (97 ≤ chr n t (p + 1) ∧ chr n t (p + 1) < 105) ∧ sc (lwN (chr n t (p + 1))) = 2 then sq (PT k n t ow (m + 1) lt 0 false sc) (m + 1) (p + 1) else .inl (p + 1)) = .inl (p + 1) := by
        split
        · rfl
        · rfl
      rw [this]
      exact ⟨g, a4, (a1 0).1, by omega⟩
    · obtain ⟨d', rfl⟩ : ∃ d', d = d' + 1 := ⟨d - 1, by omega⟩
      have e12 : nI (13 - (d' + 1)) + 1 = nI (13 - d') := by rw [nI_1]; congr 1; omega
      rw [e12, if_neg (fun q => absurd ((nI_ltI (a := 13) (by omega) (by omega)).mp q.2) (by omega)), go3 hr, ob_s] at a4
      by_cases c2 : (97 ≤ chr n t (p + 1) ∧ chr n t (p + 1) < 105) ∧ sc (lwN (chr n t (p + 1))) = 2
      · rw [if_pos c2, if_neg (by decide), if_neg (by decide)] at a4
        rw [if_pos c2]
        have hP : PT k n t ow (m + 1) lt (d' + 1) false sc (p + 1) = .inr (p + 2) := by
          rw [PT_f, if_neg, if_pos c2.1, if_pos (Or.inr (by omega))]
          intro q
          have x := Int32.le_iff_toInt_le.mp q.2
          have y := Int32.le_iff_toInt_le.mp c2.1.1
          have e1 : (57 : Int32).toInt = 57 := by decide
          have e2 : (97 : Int32).toInt = 97 := by decide
          omega
        show MQ2 ow lm n (match PT k n t ow (m + 1) lt (d' + 1) false sc (p + 1) with | .inl w => .inl w | .inr q => sq (PT k n t ow (m + 1) lt (d' + 1) false sc) m q) w (p + 1) (r + 1) h
        rw [hP]
        exact MQ2.pre a4 (a1 w) (by omega) (by omega) (MG_sq hG false sc bo me hr m (p + 2) g w r (by omega) (MR.o (a1 0).1 hm) (by omega) a2 (fun q hq => (a1 (w + m)).itm (by omega) (hi q hq)) (by omega))
      · rw [if_neg c2, if_pos rfl] at a4
        rw [if_neg c2]
        exact ⟨g, a4, (a1 0).1, by omega⟩
  · have e : p + 1 = n := by omega
    have ct : chr n t (p + 1) = 0 := if_neg c1
    rw [ct, if_neg (fun q => absurd q.1.1 (by decide))]
    have a4 := m_end (w := w + m) (r := r) (own := ow) (lt := lm) hn hm (by omega) h7
    rw [← e] at a4
    exact ⟨h, a4, (low.rf 0 h).1, by omega⟩
theorem MG_t (hG : MG k n t ow lm ok lt d) (hd : d ≤ 11) (hn : n ≤ 60) (hk : ∀ f, f < 4 → k f ≤ 3) (hok : ow = -1 ∨ (1 ≤ ok ∧ ok ≤ 3)) (hlm : (ow < 0 ∧ lt = 8) ∨ (¬ ow < 0 ∧ lm = nI lt ∧ lt ≤ 8)) (sc : Nat → Nat) (bo me : Int32) (p : Nat) (h : HP) (w r : Nat) (hr : rel sc bo me) (hp : p ≤ n) (hm : MR (kk k ow ok) n t h) (hw : w ≤ 2 * p) (h7 : h.1 200 7 = nI (w + 1)) (hi : itm h w (bI false) bo me (nI (13 - (d + 1)))) (h1 : 100 ≤ r + p) : MQ2 ow lm n (PT k n t ow ok lt (d + 1) false sc p) w p r h := by
  obtain ⟨r, rfl⟩ : ∃ r0, r = r0 + 1 := ⟨r - 1, by omega⟩
  rw [PT_f]
  by_cases hpn : p < n
  · have ct : chr n t p = t p := if_pos hpn
    obtain ⟨g, a1, a2, a3, a4⟩ := m_iter (r := r) (own := ow) (lt := lm) hn hpn hm (by omega) h7 hi
    have hmg := MR.o (a1 0).1 hm
    have e12 : nI (13 - (d + 1)) + 1 = nI (13 - d) := by rw [nI_1]; congr 1; omega
    rw [e12] at a3 a4
    have hb1 : bI false = 0 := rfl
    rw [if_neg (fun q => absurd ((nI_ltI (a := 13) (by omega) (by omega)).mp q.2) (by omega)), hb1, ← ct] at a4
    have go : ∀ c, chr n t p = c → s_AdjoinedSetsModel_goesOn 200 c 0 ow lm bo me g = some 1 → s_AdjoinedSetsModel_wrong_20 (r + 1) 200 ow lm (nI p) h = (s_AdjoinedSetsModel_wantParts 200 (nI p) c ow bo me g).bind fun q => s_AdjoinedSetsModel_wrong_20 r 200 ow lm (nI (p + 1)) q := by
      intro c ec eg
      rw [a4, ec, eg, ob_s, if_neg (by decide), if_pos (Or.inl rfl)]
    by_cases c1 : 48 ≤ chr n t p ∧ chr n t p ≤ 57
    · rw [if_pos c1]
      obtain ⟨x1, x2, x3, x4, x5, x6, x7, x8, x9, x10⟩ := cl_dig c1
      have eg : s_AdjoinedSetsModel_goesOn 200 (chr n t p) 0 ow lm bo me g = some 1 := by
        unfold s_AdjoinedSetsModel_goesOn s_AdjoinedSetsModel_goesOn_119
        rw [if_neg (by decide), if_neg (by decide), if_neg (by decide), x4, ob_s, if_pos rfl, x5, ob_s, if_pos rfl, x6, ob_s]
        rfl
      have f := go _ rfl eg
      rw [wp_0 (hk_t x7 x8 x9 x10) x3 (po_0 x1 x2 x3 x4), ob_s] at f
      exact ⟨g, r, by omega, by omega, by omega, a1 w, a2, f⟩
    · rw [if_neg c1]
      by_cases c2 : 97 ≤ chr n t p ∧ chr n t p < 105
      · rw [if_pos c2]
        obtain ⟨x1, x2, x3, x4, x5, x6, x7, x8, x9, x10⟩ := cl_low c2
        have eg := go0_l (own := ow) (lm := lm) (h := g) (lt := lt) c2 hr hlm
        by_cases c3 : lwN (chr n t p) < lt ∨ sc (lwN (chr n t p)) ≠ 0
        · rw [if_pos c3]
          rw [if_pos c3] at eg
          have f := go _ rfl eg
          rw [wp_0 (hk_t x7 x8 x9 x10) x3 (po_0 x1 x2 x3 x4), ob_s] at f
          exact ⟨g, r, by omega, by omega, by omega, a1 w, a2, f⟩
        · rw [if_neg c3]
          rw [eg, if_neg c3, ob_s, if_pos rfl] at a4
          exact ⟨g, a4, (a1 0).1, hp⟩
      · rw [if_neg c2]
        by_cases c3 : 65 ≤ chr n t p ∧ chr n t p < 69
        · rw [if_pos c3]
          obtain ⟨x1, x2, x3, x4, x7, x8, x9, x10⟩ := cl_fun c3
          obtain ⟨ef, hf4⟩ := fn_n c3
          unfold FN
          by_cases c4 : chr n t p - 65 = ow
          · rw [if_pos c4]
            have hko : kk k ow ok (fnN (chr n t p)) = ok := by unfold kk; rw [if_pos (by rw [← ef]; exact c4)]
            have hok' : 1 ≤ ok ∧ ok ≤ 3 := by
              rcases hok with q | q
              · exfalso
                rw [q, ef] at c4
                exact (show ∀ f, f < 4 → nI f ≠ -1 by decide) _ hf4 c4
              · exact q
            have eg := go0_f (own := ow) (lm := lm) (bo := bo) (me := me) hmg c3 (by rw [hko]; exact hok'.2)
            rw [hko, if_neg (by omega)] at eg
            have f := go _ rfl eg
            have hpo := po_f hmg c3
            rw [hko] at hpo
            obtain ⟨g2, f2, b1, b2, b3, b4⟩ := wp_n (u := 3) (P := nI p) (own := ow) (bo := bo) (me := me) (hk_t x7 x8 x9 x10) x3 hpo hok'.1 hok'.2 (by rw [if_pos ⟨c3, c4⟩]) (by omega) a2
            rw [f2, ob_s] at f
            rw [a3] at b3 b4
            exact MQ2.pre f ((a1 w).tr (Nat.le_refl _) b1) (by omega) (by omega) (MG_o hG hd hn sc bo me hr p hpn g2 w r hok' (MR.o b1.1 hmg) hw b2 b3 b4 (by omega))
          · rw [if_neg c4]
            have hko : kk k ow ok (fnN (chr n t p)) = k (fnN (chr n t p)) := by unfold kk; rw [if_neg (by rw [← ef]; exact c4)]
            have hk3 := hk _ hf4
            have eg := go0_f (own := ow) (lm := lm) (bo := bo) (me := me) hmg c3 (by rw [hko]; exact hk3)
            rw [hko] at eg
            by_cases k0 : k (fnN (chr n t p)) = 0
            · rw [if_pos k0]
              rw [eg, if_pos k0, ob_s, if_pos rfl] at a4
              exact ⟨g, a4, (a1 0).1, hp⟩
            · rw [if_neg k0]
              rw [if_neg k0] at eg
              have hpo := po_f hmg c3
              rw [hko] at hpo
              exact MG_n hG false sc bo me _ hr p hpn hn h g w r _ hm hw (a1 w) a2 a3 (go _ rfl eg) (hk_t x7 x8 x9 x10) x3 hpo (by omega) hk3 (fun q => c4 q.2) (by omega)
        · rw [if_neg c3]
          unfold OPN
          by_cases o1 : chr n t p = 38 ∨ chr n t p = 43 ∨ chr n t p = 45 ∨ chr n t p = 124
          · rw [if_pos o1]
            rcases o1 with c | c | c | c
            · exact MG_n hG false sc bo me 38 hr p hpn hn h g w r 2 hm hw (a1 w) a2 a3 (go 38 c rfl) (hk_t (by decide) (by decide) (by decide) (by decide)) rfl rfl (by omega) (by omega) (fun q => absurd q.1.1 (by decide)) (by omega)
            · exact MG_n hG false sc bo me 43 hr p hpn hn h g w r 2 hm hw (a1 w) a2 a3 (go 43 c rfl) (hk_t (by decide) (by decide) (by decide) (by decide)) rfl rfl (by omega) (by omega) (fun q => absurd q.1.1 (by decide)) (by omega)
            · exact MG_n hG false sc bo me 45 hr p hpn hn h g w r 2 hm hw (a1 w) a2 a3 (go 45 c rfl) (hk_t (by decide) (by decide) (by decide) (by decide)) rfl rfl (by omega) (by omega) (fun q => absurd q.1.1 (by decide)) (by omega)
            · exact MG_n hG false sc bo me 124 hr p hpn hn h g w r 2 hm hw (a1 w) a2 a3 (go 124 c rfl) (hk_t (by decide) (by decide) (by decide) (by decide)) rfl rfl (by omega) (by omega) (fun q => absurd q.1.2 (by decide)) (by omega)
          · rw [if_neg o1]
            by_cases o2 : chr n t p = 80 ∨ chr n t p = 84 ∨ chr n t p = 85
            · rw [if_pos o2]
              rcases o2 with c | c | c
              · exact MG_n hG false sc bo me 80 hr p hpn hn h g w r 1 hm hw (a1 w) a2 a3 (go 80 c rfl) (hk_t (by decide) (by decide) (by decide) (by decide)) rfl rfl (by omega) (by omega) (fun q => absurd q.1.2 (by decide)) (by omega)
              · exact MG_n hG false sc bo me 84 hr p hpn hn h g w r 1 hm hw (a1 w) a2 a3 (go 84 c rfl) (hk_t (by decide) (by decide) (by decide) (by decide)) rfl rfl (by omega) (by omega) (fun q => absurd q.1.2 (by decide)) (by omega)
              · exact MG_n hG false sc bo me 85 hr p hpn hn h g w r 1 hm hw (a1 w) a2 a3 (go 85 c rfl) (hk_t (by decide) (by decide) (by decide) (by decide)) rfl rfl (by omega) (by omega) (fun q => absurd q.1.2 (by decide)) (by omega)
            · rw [if_neg o2]
              by_cases o3 : chr n t p = 73
              · rw [if_pos o3]
                exact MG_b hG false sc bo me 73 hr p hpn hn h g w r hm hw (a1 w) a2 a3 (go 73 o3 rfl) (hk_t (by decide) (by decide) (by decide) (by decide)) rfl rfl (by omega)
              · rw [if_neg o3]
                by_cases o4 : chr n t p = 123
                · rw [if_pos o4]
                  exact MG_b hG true sc bo me 123 hr p hpn hn h g w r hm hw (a1 w) a2 a3 (go 123 o4 rfl) (hk_t (by decide) (by decide) (by decide) (by decide)) rfl rfl (by omega)
                · rw [if_neg o4]
                  have eg : s_AdjoinedSetsModel_goesOn 200 (chr n t p) 0 ow lm bo me g = some 0 := by
                    by_cases f1 : chr n t p = 60
                    · rw [f1]; rfl
                    by_cases f2 : chr n t p = 61
                    · rw [f2]; rfl
                    by_cases f3 : chr n t p = 33
                    · rw [f3]; rfl
                    by_cases f4 : chr n t p = 94
                    · rw [f4]; rfl
                    by_cases f5 : chr n t p = 118
                    · rw [f5]; rfl
                    by_cases f6 : chr n t p = 62
                    · rw [f6]; rfl
                    by_cases f7 : chr n t p = 69
                    · rw [f7]; rfl
                    by_cases f8 : chr n t p = 76
                    · rw [f8]; rfl
                    unfold s_AdjoinedSetsModel_goesOn s_AdjoinedSetsModel_goesOn_119 s_AdjoinedSetsModel_beginsTerm
                    rw [if_neg (by decide), if_neg (by decide), if_neg (by decide), ml_fun, ml_low, ml_dig, if_neg c1, if_neg c2, if_neg c3, ob_s, ob_s, if_pos rfl, if_pos rfl, ob_s, if_pos rfl, if_neg o4, if_neg o3]
                    unfold s_AdjoinedSetsModel_beginsFormula s_AdjoinedSetsModel_isPair s_AdjoinedSetsModel_isSingle
                    rw [if_neg f1, if_neg f2, if_neg f3, if_neg f4, if_neg f5, if_neg f6, if_neg f7, if_neg f8, if_neg (fun q => o1 (Or.inr (Or.inl q))), if_neg (fun q => o1 (Or.inr (Or.inr (Or.inr q)))), if_neg (fun q => o1 (Or.inl q)), if_neg (fun q => o1 (Or.inr (Or.inr (Or.inl q)))), if_neg (fun q => o2 (Or.inr (Or.inr q))), if_neg (fun q => o2 (Or.inl q)), if_neg (fun q => o2 (Or.inr (Or.inl q)))]
                    rw [if_neg f1, if_neg f2, if_neg f4, if_neg f5, if_neg f6, if_neg f3]
                    rfl
                  rw [eg, ob_s, if_pos rfl] at a4
                  exact ⟨g, a4, (a1 0).1, hp⟩
  · have e : p = n := by omega
    have c0 : chr n t p = 0 := if_neg hpn
    have hO : OPN n t (PT k n t ow ok lt d) sc p = .inl p := by
      unfold OPN
      rw [c0, if_neg (by decide), if_neg (by decide), if_neg (by decide), if_neg (by decide)]
    rw [hO, c0, if_neg (by decide), if_neg (by decide), if_neg (by decide)]
    have a4 := m_end (w := w) (r := r) (own := ow) (lt := lm) hn hm (by omega) h7
    rw [← e] at a4
    exact ⟨h, a4, (low.rf 0 h).1, hp⟩
theorem MG_all (hn : n ≤ 60) (hk : ∀ f, f < 4 → k f ≤ 3) (hok : ow = -1 ∨ (1 ≤ ok ∧ ok ≤ 3)) (hlm : (ow < 0 ∧ lt = 8) ∨ (¬ ow < 0 ∧ lm = nI lt ∧ lt ≤ 8)) : ∀ (d : Nat), d ≤ 12 → MG k n t ow lm ok lt d := by
  intro d
  induction d with
  | zero => intro _; exact MG_0 hn
  | succ d ih =>
    intro hd b sc bo me p h w r hr hp hm hw h7 hi h1
    have hG := ih (by omega)
    cases b with
    | true => exact MG_f hG (by omega) hn sc bo me p h w r hr hp hm hw h7 hi h1
    | false => exact MG_t hG (by omega) hn hk hok hlm sc bo me p h w r hr hp hm hw h7 hi h1
theorem m_wrong {S : SG} {h : HP} (hw : WF S) {ow lm : Int32} {ok lt : Nat} (hok : ow = -1 ∨ (1 ≤ ok ∧ ok ≤ 3)) (hlm : (ow < 0 ∧ lt = 8) ∨ (¬ ow < 0 ∧ lm = nI lt ∧ lt ≤ 8)) (hm : MR (kk (gK S) ow ok) (gB S).1 (gB S).2.1 h) (b : Bool) : ∃ h', s_AdjoinedSetsModel_wrong 200 (bI b) ow lm h = some (match RS (gK S) (gB S).1 (gB S).2.1 ow ok lt b with | .inl e => nI e | .inr _ => -1, h') ∧ o200 h h' := by
  have hn := hw.1.1
  have k9 : kd 200 9 = some () := rfl
  unfold s_AdjoinedSetsModel_wrong
  rw [wI_200_7, ob_s, wI_200_12, ob_s, k9, ob_s]
  have o0 : o200 h (up2 (up2 h.1 200 7 0) 200 12 1, h.2) := by
    refine ⟨fun m x _ => ?_, rfl, fun j x y => ?_⟩
    · show up2 (up2 h.1 200 7 0) 200 12 1 m = _
      rw [up2_n x, up2_n x]
    · show up2 (up2 h.1 200 7 0) 200 12 1 200 j = _
      rw [u2_i y, u2_i x]
  have v7 : (up2 (up2 h.1 200 7 0) 200 12 1, h.2).1 200 7 = nI 0 := by
    show up2 (up2 h.1 200 7 0) 200 12 1 200 7 = _
    rw [u2_i (by decide), u2_s]
    rfl
  have v12 : (up2 (up2 h.1 200 7 0) 200 12 1, h.2).1 200 12 = nI 1 := by
    show up2 (up2 h.1 200 7 0) 200 12 1 200 12 = _
    rw [u2_s]
    rfl
  obtain ⟨h1, f1, a1, a2, a3, a4⟩ := m_want (a := bI b) (b := 0) (c := 0) v7 (by omega)
  rw [v12] at a4
  show ∃ h', (Option.bind (s_AdjoinedSetsModel_want 200 (bI b) 0 0 (up2 (up2 h.1 200 7 0) 200 12 1, h.2)) _) = _ ∧ _
  rw [f1, ob_s]
  have hm1 := MR.o a1.1 (MR.o o0 hm)
  have A := MG_all (k := gK S) (n := (gB S).1) (t := (gB S).2.1) (ow := ow) (lm := lm) (ok := ok) (lt := lt) hn (fun f hf => (hw.2.2.1 f hf).1) hok hlm 12 (by omega) b (fun _ => 0) 0 0 0 h1 0 20000 rel_0 (by omega) hm1 (by omega) a2 a4 (by omega)
  unfold RS
  cases hP : PT (gK S) (gB S).1 (gB S).2.1 ow ok lt 12 b (fun _ => 0) 0 with
  | inl e =>
    rw [hP] at A
    obtain ⟨h', x, y, z⟩ := A
    exact ⟨h', x, (o0.tr a1.1).tr y⟩
  | inr e =>
    rw [hP] at A
    obtain ⟨h', r', x1, x2, x3, x4, x5, x6⟩ := A
    refine ⟨h', ?_, (o0.tr a1.1).tr x4.1⟩
    have hm2 := MR.o x4.1 hm1
    rw [show s_AdjoinedSetsModel_wrong_20 20000 200 ow lm 0 h1 = _ from x6]
    obtain ⟨r0, rfl⟩ : ∃ r0, r' = r0 + 1 := ⟨r' - 1, by omega⟩
    rw [s_AdjoinedSetsModel_wrong_20]
    dsimp only
    rw [rI_200_7, ob_s, x5, if_pos (show nI 0 ≤ 0 by decide), rI_200_1, ob_s, hm2.1]
    by_cases e1 : e = (gB S).1
    · rw [if_pos (nI_le (by omega) (by omega)), if_pos e1]
    · rw [if_neg (nI_ge (by omega) (by omega)), if_neg e1]
end MT
