/-! The class's forms. -/
def o14 (h h' : HP) : Prop := (∀ m, m ≠ 14 → h'.1 m = h.1 m) ∧ h'.2 = h.2
theorem o14.rf (h : HP) : o14 h h := ⟨fun _ _ => rfl, rfl⟩
theorem o14.tr {a b c : HP} (h1 : o14 a b) (h2 : o14 b c) : o14 a c := ⟨fun m hm => (h2.1 m hm).trans (h1.1 m hm), h2.2.trans h1.2⟩
theorem o14_kq {h h' : HP} (ho : o14 h h') : kq h h' := ⟨fun n _ _ _ h14 _ _ _ _ _ => ho.1 n h14, by rw [ho.2]⟩
theorem cT_14 {h h' : HP} {x : TX} (ho : o14 h h') (hc : cT h 100 x) : cT h' 100 x := cT_kq (o14_kq ho) (Or.inl rfl) hc
theorem cE_14 {h h' : HP} {x : TX} (ho : o14 h h') (hc : cE h 100 x) : cE h' 100 x := cE_kq (o14_kq ho) (Or.inl rfl) hc
def SA (h : HP) (hs : Nat → Nat) : Prop := ∀ c, 1 ≤ c → c ≤ 6 → h.1 14 (ixC c) = if hs c = 0 then -1 else nI (hs c - 1)
theorem ix_lt {c : Nat} (h1 : 1 ≤ c) (h6 : c ≤ 6) : ixC c < 6 := (show ∀ c, c ≤ 6 → 1 ≤ c → ixC c < 6 by decide) c h6 h1
theorem ix_ne {c c' : Nat} (h1 : 1 ≤ c) (h6 : c ≤ 6) (h1' : 1 ≤ c') (h6' : c' ≤ 6) (hne : c ≠ c') : ixC c ≠ ixC c' := fun z => hne ((show ∀ c, c < 7 → ∀ d, d < 7 → (c = 0 ∨ d = 0 ∨ c = d ∨ ¬ ixC c = ixC d) by decide) c (by omega) c' (by omega) |>.resolve_left (by omega) |>.resolve_left (by omega) |>.resolve_right (fun q => q z))
theorem okL_6 {c : Nat} (h1 : 1 ≤ c) (h6 : c ≤ 6) : okL c = true ∧ c < 127 := ⟨by unfold okL; simp [h1, h6], by omega⟩
theorem plc {h : HP} {hs : Nat → Nat} {c : Nat} (hS : SA h hs) (h1 : 1 ≤ c) (h6 : c ≤ 6) : s_Form_placeOf 12 (nI (chC c)) h = some (if hs c = 0 then -1 else nI (hs c - 1)) := by
  unfold s_Form_placeOf
  rw [show sG 0 = some () from rfl, ob_s, (str_i c (okL_6 h1 h6).2 (okL_6 h1 h6).1).1 h6, ob_s, if_pos (nI_pos' (by have := ix_lt h1 h6; omega)), rR_12_1, ob_s, rA_14 (ix_lt h1 h6), ob_s, hS c h1 h6]
theorem ch_120 {c : Nat} (h1 : 1 ≤ c) (h6 : c ≤ 6) : nI (chC c) = 120 ↔ c = 6 := (show ∀ c, c ≤ 6 → 1 ≤ c → (nI (chC c) = 120 ↔ c = 6) by decide) c h6 h1
section
variable {x : TX} {h : HP} {hs : Nat → Nat}
/-- where the part in a hole ends -/
theorem fend (hc : cT h 100 x) (hE : cE h 100 x) (hS : SA h hs) {c : Nat} (h1 : 1 ≤ c) (h6 : c ≤ 6) (hne : hs c ≠ 0) (hlt : hs c - 1 < x.1) {q : Nat} (hq : c ≠ 6 → x.2.2 (hs c - 1) = nI q ∧ q ≤ 60 ∧ hs c - 1 < q) : s_Form_endOf 12 (nI (chC c)) h = some (nI (hs c - 1 + hln x.2.2 c (hs c - 1))) := by
  have h60 := hc.1.2.2
  unfold s_Form_endOf
  by_cases hc6 : c = 6
  · rw [if_pos ((ch_120 h1 h6).mpr hc6), rK_12, ob_s, plc hS h1 h6, if_neg hne, ob_s, nI_1]
    unfold hln
    rw [if_pos hc6]
  · obtain ⟨a, b, d⟩ := hq hc6
    rw [if_neg (fun z => hc6 ((ch_120 h1 h6).mp z)), rR_12_0, ob_s, rK_12, ob_s, plc hS h1 h6, if_neg hne, ob_s, rK_100, ob_s, end_h hc hE hlt, ob_s, a]
    unfold hln
    rw [if_neg hc6, nI_cl a b]
    congr 2
    omega
theorem beh_l (hc : cT h 100 x) {c p : Nat} (hp : p < x.1) (h7 : 6 < c) (hok : okL c = true ∧ c < 127) : s_Form_behind 12 (nI (chC c)) (nI p) h = some (if x.2.1 p = nI c then nI (p + 1) else -1, h) := by
  have hch : chC c = c := by
    unfold chC
    rw [if_neg (by omega), if_neg (by omega), if_neg (by omega), if_neg (by omega), if_neg (by omega), if_neg (by omega)]
  unfold s_Form_behind
  rw [show sG 0 = some () from rfl, ob_s, (str_i c hok.2 hok.1).2 h7, ob_s, if_neg (by decide), rR_12_0, ob_s, rK_100, ob_s, at_h hc hp, ob_s, hch, nI_1]
  split <;> rfl
theorem beh_0 (hc : cT h 100 x) (hE : cE h 100 x) (hS : SA h hs) {c p : Nat} (hp : p < x.1) (h1 : 1 ≤ c) (h6 : c ≤ 6) (h0 : hs c = 0) {q : Nat} (hq : c ≠ 6 → x.2.2 p = nI q ∧ q ≤ 60 ∧ p < q) : s_Form_behind 12 (nI (chC c)) (nI p) h = some (nI (p + hln x.2.2 c p), (up2 h.1 14 (ixC c) (nI p), h.2)) ∧ SA (up2 h.1 14 (ixC c) (nI p), h.2) (hst hs c (p + 1)) ∧ o14 h (up2 h.1 14 (ixC c) (nI p), h.2) := by
  have ho : o14 h (up2 h.1 14 (ixC c) (nI p), h.2) := ⟨fun m hm => up2_n hm, rfl⟩
  have hS' : SA (up2 h.1 14 (ixC c) (nI p), h.2) (hst hs c (p + 1)) := by
    intro c' c1 c6
    show up2 h.1 14 (ixC c) (nI p) 14 (ixC c') = _
    unfold hst
    by_cases hcc : c' = c
    · rw [hcc, u2_s, if_pos rfl, if_neg (by omega), Nat.add_sub_cancel]
    · rw [u2_i (ix_ne c1 c6 h1 h6 hcc), if_neg hcc]
      exact hS c' c1 c6
  refine ⟨?_, hS', ho⟩
  have hfe := fend (cT_14 ho hc) (cE_14 ho hE) hS' h1 h6 (by unfold hst; rw [if_pos rfl]; omega) (by unfold hst; rw [if_pos rfl, Nat.add_sub_cancel]; exact hp) (q := q) (by unfold hst; rw [if_pos rfl, Nat.add_sub_cancel]; exact hq)
  have hval : hst hs c (p + 1) c - 1 = p := by unfold hst; rw [if_pos rfl, Nat.add_sub_cancel]
  rw [hval] at hfe
  unfold s_Form_behind
  rw [show sG 0 = some () from rfl, ob_s, (str_i c (okL_6 h1 h6).2 (okL_6 h1 h6).1).1 h6, ob_s, if_pos (nI_pos' (by have := ix_lt h1 h6; omega)), rR_12_1, ob_s, rA_14 (ix_lt h1 h6), ob_s, hS c h1 h6, if_pos h0, if_pos rfl, ob_s, wA_14 (ix_lt h1 h6), ob_s, rK_12, ob_s, hfe, ob_s]
theorem beh_1 (hc : cT h 100 x) (hE : cE h 100 x) (hS : SA h hs) (hok : ∀ p, p < x.1 → okC (x.2.1 p)) {c p : Nat} (hp : p < x.1) (h1 : 1 ≤ c) (h6 : c ≤ 6) (h0 : hs c ≠ 0) (hlt : hs c - 1 < x.1) {q : Nat} (hq : c ≠ 6 → x.2.2 (hs c - 1) = nI q ∧ q ≤ x.1 ∧ hs c - 1 < q) : (eqt x.1 x.2.1 p x.2.1 (hs c - 1) (hln x.2.2 c (hs c - 1)) → s_Form_behind 12 (nI (chC c)) (nI p) h = some (nI (p + hln x.2.2 c (hs c - 1)), h)) ∧ (¬ eqt x.1 x.2.1 p x.2.1 (hs c - 1) (hln x.2.2 c (hs c - 1)) → s_Form_behind 12 (nI (chC c)) (nI p) h = some (-1, h)) := by
  have h60 := hc.1.2.2
  have hfe := fend hc hE hS h1 h6 h0 hlt (q := q) (fun z => by obtain ⟨a, b, d⟩ := hq z; exact ⟨a, by omega, d⟩)
  have hle : hs c - 1 + hln x.2.2 c (hs c - 1) ≤ x.1 := by
    unfold hln
    by_cases hc6 : c = 6
    · rw [if_pos hc6]; omega
    · obtain ⟨a, b, d⟩ := hq hc6
      rw [if_neg hc6, nI_cl a (by omega)]
      omega
  have hh := c_hs hc hc hok (a := p) (f := hs c - 1) (to := hs c - 1 + hln x.2.2 c (hs c - 1)) (by omega) hle (by omega)
  rw [show hs c - 1 + hln x.2.2 c (hs c - 1) - (hs c - 1) = hln x.2.2 c (hs c - 1) by omega] at hh
  have e0 : s_Form_behind 12 (nI (chC c)) (nI p) h = (s_Text_has 100 (nI p) 100 (nI (hs c - 1)) (nI (hs c - 1 + hln x.2.2 c (hs c - 1))) h).bind fun q20 => if q20 = 0 then some (-1, h) else some (nI p + nI (hs c - 1 + hln x.2.2 c (hs c - 1)) - nI (hs c - 1), h) := by
    unfold s_Form_behind
    rw [show sG 0 = some () from rfl, ob_s, (str_i c (okL_6 h1 h6).2 (okL_6 h1 h6).1).1 h6, ob_s, if_pos (nI_pos' (by have := ix_lt h1 h6; omega)), rR_12_1, ob_s, rA_14 (ix_lt h1 h6), ob_s, hS c h1 h6, if_neg h0, if_neg (fun z => by have := nI_pos (n := hs c - 1) (by omega); rw [z] at this; exact this (by decide)), ob_s, rA_14 (ix_lt h1 h6), ob_s, hS c h1 h6, if_neg h0, rK_12, ob_s, hfe, ob_s, rR_12_0, ob_s, ob_s, rK_100, ob_s]
  rw [e0]
  refine ⟨fun z => ?_, fun z => ?_⟩
  · rw [hh.1 z, ob_s, if_neg (by decide), nI_add, pk_sub (by omega)]
    congr 3
    omega
  · rw [hh.2 z, ob_s, if_pos rfl]
end
theorem drop_c {l : List Nat} {k c : Nat} {cs : List Nat} (h : l.drop k = c :: cs) : k < l.length ∧ l.getD k 0 = c ∧ l.drop (k + 1) = cs := by
  have hl : k < l.length := by
    apply Classical.byContradiction
    intro q
    rw [List.drop_eq_nil_of_le (by omega)] at h
    cases h
  rw [List.drop_eq_getElem_cons hl] at h
  have h1 := (List.cons.inj h).1
  have h2 := (List.cons.inj h).2
  refine ⟨hl, ?_, h2⟩
  rw [List.getD_eq_getElem?_getD, List.getElem?_eq_getElem hl]
  exact h1
theorem c_fit {K : Nat → Nat} {x : TX} (hok : ∀ p, p < x.1 → okC (x.2.1 p)) {q : Nat} (hq1 : 1 ≤ q) (hq : q < 14) : ∀ (cs : List Nat) (k p r : Nat) (hs : Nat → Nat) (L : List Nat) (sx : Bool) (h : HP), (PL q).drop k = cs → k ≤ (PL q).length → tcK cs sx L = true → chn K x.2.1 x.2.2 x.1 L p → hsI K x.2.1 x.2.2 x.1 sx hs → SA h hs → cT h 100 x → cE h 100 x → cs.length < r → (∃ hs' sx' h', fitM x.2.1 x.2.2 cs p hs = some hs' ∧ s_Form_fits_12 r 12 q (nI p) (nI k) h = some (1, h') ∧ SA h' hs' ∧ hsI K x.2.1 x.2.2 x.1 sx' hs' ∧ o14 h h') ∨ (fitM x.2.1 x.2.2 cs p hs = none ∧ ∃ h', s_Form_fits_12 r 12 q (nI p) (nI k) h = some (0, h') ∧ o14 h h') := by
  obtain ⟨sl, sg, s17⟩ := str_l q hq hq1
  have e42 : ∀ (h : HP) (v : Int32), cT h 100 x → s_Form_fits_42 12 v h = if v = nI x.1 then some (1, h) else some (0, h) := by
    intro h v hc
    unfold s_Form_fits_42
    rw [rR_12_0, ob_s, rK_100, ob_s, len_t hc, ob_s]
  -- once it is out, it stays out
  have neg : ∀ (h : HP) (k r : Nat), cT h 100 x → k ≤ (PL q).length → 0 < r → s_Form_fits_12 r 12 q (-1) (nI k) h = some (0, h) := by
    intro h k r hc hk hr
    obtain ⟨r, rfl⟩ : ∃ r0, r = r0 + 1 := ⟨r - 1, by omega⟩
    have h60 := hc.1.2.2
    have hne : ¬ (-1 : Int32) = nI x.1 := fun z => by have := nI_pos (n := x.1) (by omega); rw [← z] at this; exact this (by decide)
    rw [s_Form_fits_12]
    dsimp only
    rw [sg, ob_s, sl, ob_s, e42 h _ hc, if_neg hne]
    split
    · rfl
    · rw [if_pos rfl]
  intro cs
  induction cs with
  | nil =>
    intro k p r hs L sx h hd hk htc hch hI hS hc hE hr
    obtain ⟨r, rfl⟩ : ∃ r0, r = r0 + 1 := ⟨r - 1, by omega⟩
    left
    have hL : L = [] := of_decide_eq_true htc
    subst hL
    have hp : p = x.1 := hch
    have hkl : (PL q).length ≤ k := by
      apply Classical.byContradiction
      intro z
      have := congrArg List.length hd
      rw [List.length_drop] at this
      simp at this
      omega
    refine ⟨hs, sx, h, rfl, ?_, hS, hI, o14.rf h⟩
    rw [s_Form_fits_12]
    dsimp only
    rw [sg, ob_s, sl, ob_s, if_pos (nI_le hkl (by omega)), e42 h _ hc, if_pos (by rw [hp])]
  | cons c cs ih =>
    intro k p r hs L sx h hd hk htc hch hI hS hc hE hr
    obtain ⟨r, rfl⟩ : ∃ r0, r = r0 + 1 := ⟨r - 1, by omega⟩
    have h60 := hc.1.2.2
    obtain ⟨hkl, hgc, hd2⟩ := drop_c hd
    have hok2 := str_ok q hq k hkl
    rw [hgc] at hok2
    have hcc := str_c q hq hq1 k hkl
    rw [hgc] at hcc
    have hr2 : cs.length < r := by
      have : (c :: cs).length = cs.length + 1 := rfl
      omega
    obtain ⟨k0, L', hL, hpn, st1, st2⟩ := fit_step (by omega) htc hch hI hok2.2
    have e0 : s_Form_fits_12 (r + 1) 12 q (nI p) (nI k) h = (s_Form_behind 12 (nI (chC c)) (nI p) h).bind fun q8 => s_Form_fits_12 r 12 q q8.1 (nI (k + 1)) q8.2 := by
      rw [s_Form_fits_12]
      dsimp only
      rw [sg, ob_s, sl, ob_s, if_neg (nI_ge hkl (by omega)), if_neg (fun z => by have := nI_pos (n := p) (by omega); rw [z] at this; exact this (by decide)), ob_s, hcc, ob_s, rK_12, ob_s, nI_1]
    rw [e0]
    by_cases h7 : 6 < c
    · rw [beh_l hc hpn h7 hok2, ob_s]
      dsimp only
      by_cases heq : x.2.1 p = nI c
      · rw [if_pos heq]
        obtain ⟨L2, sx2, a1, a2, a3⟩ := st1 h7 heq
        have ef : fitM x.2.1 x.2.2 (c :: cs) p hs = fitM x.2.1 x.2.2 cs (p + 1) hs := by
          rw [fitM]
          dsimp only
          rw [if_pos h7, if_pos heq]
        rw [ef]
        exact ih (k + 1) (p + 1) r hs L2 sx2 h hd2 (by omega) a1 a2 a3 hS hc hE hr2
      · rw [if_neg heq]
        right
        refine ⟨?_, h, neg h (k + 1) r hc (by omega) (by omega), o14.rf h⟩
        rw [fitM]
        dsimp only
        rw [if_pos h7, if_neg heq]
    · obtain ⟨hc1, s0, s1⟩ := st2 (by omega)
      by_cases h0 : hs c = 0
      · obtain ⟨b1, b2, L2, sx2, a1, a2, a3⟩ := s0 h0
        have hq' : ∃ qq, c ≠ 6 → x.2.2 p = nI qq ∧ qq ≤ 60 ∧ p < qq := by
          by_cases hc6 : c = 6
          · exact ⟨0, fun z => absurd hc6 z⟩
          · obtain ⟨d, qq, _, z2, z3⟩ := b1 hc6
            exact ⟨qq, fun _ => ⟨KD_end z3, by omega, KD_lt z3⟩⟩
        obtain ⟨qq, hqq⟩ := hq'
        obtain ⟨g1, g2, g3⟩ := beh_0 hc hE hS hpn hc1 (by omega) h0 hqq
        rw [g1, ob_s]
        dsimp only
        have ef : fitM x.2.1 x.2.2 (c :: cs) p hs = fitM x.2.1 x.2.2 cs (p + hln x.2.2 c p) (hst hs c (p + 1)) := by
          rw [fitM]
          dsimp only
          rw [if_neg h7, if_pos h0]
        rw [ef]
        rcases ih (k + 1) (p + hln x.2.2 c p) r (hst hs c (p + 1)) L2 sx2 _ hd2 (by omega) a1 a2 a3 g2 (cT_14 g3 hc) (cE_14 g3 hE) hr2 with ⟨hs', sx', h', z1, z2, z3, z4, z5⟩ | ⟨z1, h', z2, z3⟩
        · exact Or.inl ⟨hs', sx', h', z1, z2, z3, z4, g3.tr z5⟩
        · exact Or.inr ⟨z1, h', z2, g3.tr z3⟩
      · obtain ⟨b1, b2⟩ := s1 h0
        have hfrom : hs c - 1 < x.1 ∧ ∃ qq, c ≠ 6 → x.2.2 (hs c - 1) = nI qq ∧ qq ≤ x.1 ∧ hs c - 1 < qq := by
          by_cases hc6 : c = 6
          · subst hc6
            exact ⟨(hI.2.1 h0).2, 0, fun z => absurd rfl z⟩
          · obtain ⟨d, qq, _, z2, z3⟩ := hI.1 c hc1 (by omega) h0
            have := KD_lt z3
            exact ⟨by omega, qq, fun _ => ⟨KD_end z3, z2, KD_lt z3⟩⟩
        obtain ⟨hlt, qq, hqq⟩ := hfrom
        obtain ⟨g1, g2⟩ := beh_1 hc hE hS hok hpn hc1 (by omega) h0 hlt hqq
        by_cases hall : ∀ j, j < hln x.2.2 c (hs c - 1) → x.2.1 (hs c - 1 + j) = x.2.1 (p + j)
        · obtain ⟨c1, L2, sx2, a1, a2, a3⟩ := b2 hall
          have hple : p + hln x.2.2 c (hs c - 1) ≤ x.1 := by
            cases L2 with
            | nil => exact Nat.le_of_eq a2
            | cons k2 L2 => exact Nat.le_of_lt (chn_lt a2)
          rw [g1 (fun j hj => ⟨by omega, (hall j hj).symm⟩), ob_s]
          dsimp only
          have ef : fitM x.2.1 x.2.2 (c :: cs) p hs = fitM x.2.1 x.2.2 cs (p + hln x.2.2 c (hs c - 1)) hs := by
            rw [fitM]
            dsimp only
            rw [if_neg h7, if_neg h0, if_pos hall]
          rw [ef]
          exact ih (k + 1) _ r hs L2 sx2 h hd2 (by omega) a1 a2 a3 hS hc hE hr2
        · rw [g2 (fun z => hall (fun j hj => (z j hj).2.symm)), ob_s]
          right
          refine ⟨?_, h, neg h (k + 1) r hc (by omega) (by omega), o14.rf h⟩
          rw [fitM]
          dsimp only
          rw [if_neg h7, if_neg h0, if_neg hall]
theorem fill14 (v : Int32) : ∀ (r j : Nat) (h : HP), j ≤ 6 → 6 < j + r → ∃ h', s_Arrays_fill_5 r 14 v (nI j) (nI 6) h = some h' ∧ o14 h h' ∧ (∀ l, l < j → h'.1 14 l = h.1 14 l) ∧ ∀ l, j ≤ l → l < 6 → h'.1 14 l = v := by
  intro r
  induction r with
  | zero => intro j h h1 h2; exact absurd h2 (by omega)
  | succ r ih =>
    intro j h h1 h2
    rw [s_Arrays_fill_5]
    dsimp only
    by_cases hj : j = 6
    · rw [if_pos (nI_le (by omega) (by omega))]
      exact ⟨h, rfl, o14.rf h, fun _ _ => rfl, fun l z1 z2 => absurd z1 (by omega)⟩
    · rw [if_neg (nI_ge (by omega) (by omega)), wA_14 (by omega), ob_s, nI_1]
      obtain ⟨h', a1, a2, a3, a4⟩ := ih (j + 1) (up2 h.1 14 j v, h.2) (by omega) (by omega)
      refine ⟨h', a1, o14.tr (show o14 h (up2 h.1 14 j v, h.2) from ⟨fun m hm => up2_n hm, rfl⟩) a2, fun l hl => ?_, fun l z1 z2 => ?_⟩
      · rw [a3 l (by omega)]
        show up2 h.1 14 j v 14 l = _
        rw [u2_i (by omega)]
      · by_cases hlj : l = j
        · rw [hlj, a3 j (by omega)]
          show up2 h.1 14 j v 14 j = _
          exact u2_s
        · exact a4 l (by omega) z2
/-- the class fits the buffer to a form -/
theorem c_fits {K : Nat → Nat} {x : TX} {h : HP} (hok : ∀ p, p < x.1 → okC (x.2.1 p)) {q : Nat} (hq1 : 1 ≤ q) (hq : q < 14) (hK : KD K x.2.1 x.2.2 12 true 0 x.1) (hc : cT h 100 x) (hE : cE h 100 x) : (∃ hs' sx' h', fitM x.2.1 x.2.2 (PL q) 0 (fun _ => 0) = some hs' ∧ s_Form_fits 12 q h = some (1, h') ∧ SA h' hs' ∧ hsI K x.2.1 x.2.2 x.1 sx' hs' ∧ o14 h h') ∨ (fitM x.2.1 x.2.2 (PL q) 0 (fun _ => 0) = none ∧ ∃ h', s_Form_fits 12 q h = some (0, h') ∧ o14 h h') := by
  obtain ⟨h1, a1, a2, a3, a4⟩ := fill14 (-1) 20000 0 h (by omega) (by omega)
  have e0 : s_Form_fits 12 q h = s_Form_fits_12 20000 12 q 0 0 h1 := by
    unfold s_Form_fits s_Arrays_fill
    rw [rR_12_1, ob_s, rN_14, ob_s, show s_Arrays_fill_5 20000 14 (-1) 0 (nI 6) h = some h1 from a1, ob_s]
  rw [e0]
  obtain ⟨_, _, s17⟩ := str_l q hq hq1
  have := c_fit (K := K) hok hq1 hq (PL q) 0 0 20000 (fun _ => 0) [1] false h1 rfl (Nat.zero_le _) (tc_all q hq hq1) (by unfold chn; rw [if_neg (by decide)]; exact ⟨12, x.1, by omega, Nat.le_refl _, hK, rfl⟩) ⟨fun c _ _ z => absurd rfl z, fun z => absurd rfl z, fun z => Bool.noConfusion z⟩ (fun c c1 c6 => by rw [if_pos rfl]; exact a4 _ (Nat.zero_le _) (ix_lt c1 c6)) (cT_14 a2 hc) (cE_14 a2 hE) (by omega)
  rcases this with ⟨hs', sx', h', z1, z2, z3, z4, z5⟩ | ⟨z1, h', z2, z3⟩
  · exact Or.inl ⟨hs', sx', h', z1, z2, z3, z4, a2.tr z5⟩
  · exact Or.inr ⟨z1, h', z2, a2.tr z3⟩
