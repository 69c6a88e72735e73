/-! eval and truth. -/
/-- the class's memory but for its work rows stays, and the model's -/
def kp (h h' : HP) : Prop := stB h h' ∧ sM h h'
theorem kp.tr {a b c : HP} (h1 : kp a b) (h2 : kp b c) : kp a c := ⟨h1.1.tr h2.1, h1.2.tr h2.2⟩
theorem kp.rf (a : HP) : kp a a := ⟨stB.rf a, sM.rf a⟩
theorem kp_o3 {h h' : HP} (ho : o3 h h') : kp h h' := by
  refine ⟨fun n hn hk => ⟨ho.1 n ?_ ?_ ?_, by rw [ho.2]⟩, fun n hn => ⟨ho.1 n (by omega) (by omega) (by omega), by rw [ho.2]⟩⟩
  · intro q; rw [q] at hk; revert hk; decide
  · intro q; rw [q] at hk; revert hk; decide
  · intro q; rw [q] at hk; revert hk; decide
theorem kp_cw {h : HP} {n : Nat} {w : Nat → Int64} : kp h (cw h n w) := by
  refine ⟨fun m hm hk => ⟨cw_I ?_, ?_⟩, fun m hm => ⟨cw_I (by omega), ?_⟩⟩
  · intro q; rw [q] at hk; revert hk; decide
  · show (if m = 10 then w else h.2.1 m) = h.2.1 m
    rw [if_neg]
    intro q; rw [q] at hk; revert hk; decide
  · show (if m = 10 then w else h.2.1 m) = h.2.1 m
    rw [if_neg (by omega)]
theorem kp_I {h : HP} {n i : Nat} {x : Int32} (hn : wkN n = true) (h2 : n < 200) : kp h (up2 h.1 n i x, h.2) := ⟨stB_I hn, sM_I h2⟩
theorem CA_kp {S : SG} {h h' : HP} (hk : kp h h') (hw : WF S) (hc : CA S h) (hx : cT h' 100 (gB S)) : CA S h' := CA_ofB (x := gB S) hk.1 hw hc hx
theorem cT_o3 {S : SG} {h h' : HP} (ho : o3 h h') (hc : CA S h) : cT h' 100 (gB S) := by
  obtain ⟨⟨b1, b2, b3⟩, b4⟩ := hc.1
  exact ⟨⟨b1, by rw [ho.1 100 (by decide) (by decide) (by decide)]; exact b2, b3⟩, fun p hp => by rw [ho.1 101 (by decide) (by decide) (by decide)]; exact b4 p hp⟩
def jw (h : HP) (w : Nat → Int64) : HP := (h.1, (fun m => if m = 10 then w else h.2.1 m), h.2.2)
theorem jw_self (h : HP) : jw h (h.2.1 10) = h := by
  unfold jw
  refine Prod.ext rfl (Prod.ext ?_ rfl)
  funext m
  show (if m = 10 then h.2.1 10 else h.2.1 m) = h.2.1 m
  split
  · rename_i q; rw [q]
  · rfl
theorem jw_sw {h : HP} {j : Nat} {v : Int64} {w : Nat → Int64} : ((jw h w).1, up2 (jw h w).2.1 10 j v, (jw h w).2.2) = jw h (upR w j v) := by
  unfold jw
  refine Prod.ext rfl (Prod.ext ?_ rfl)
  funext a b
  show up2 (fun m => if m = 10 then w else h.2.1 m) 10 j v a b = (if a = 10 then upR w j v else h.2.1 a) b
  unfold up2 upR
  dsimp only
  by_cases ha : a = 10
  · by_cases hb : b = j
    · rw [if_pos ⟨ha, hb⟩, if_pos ha, if_pos hb]
    · rw [if_neg (fun q => hb q.2), if_pos ha, if_pos ha, if_neg hb]
  · rw [if_neg (fun q => ha q.1), if_neg ha, if_neg ha]
theorem c_give {h : HP} {v : Nat → Int64} (hv : ∀ j, j < 8 → h.2.1 1 j = v j) : ∀ (i c r : Nat) (w : Nat → Int64), c + i = 8 → i < r → (∀ l, l < c → w l = v l) → ∃ w', s_AdjoinedSets_giveValues_2 r 0 (nI c) (jw h w) = some (jw h w') ∧ ∀ l, l < 8 → w' l = v l := by
  intro i
  induction i with
  | zero =>
    intro c r w h1 h2 h3
    obtain ⟨r, rfl⟩ : ∃ r0, r = r0 + 1 := ⟨r - 1, by omega⟩
    rw [s_AdjoinedSets_giveValues_2]
    dsimp only
    rw [if_pos (show 8 ≤ nI c from nI_le (a := 8) (by omega) (by omega))]
    exact ⟨w, rfl, fun l hl => h3 l (by omega)⟩
  | succ i ih =>
    intro c r w h1 h2 h3
    obtain ⟨r, rfl⟩ : ∃ r0, r = r0 + 1 := ⟨r - 1, by omega⟩
    rw [s_AdjoinedSets_giveValues_2]
    dsimp only
    unfold s_Worker_give
    rw [if_neg (show ¬ 8 ≤ nI c from nI_ge (b := 8) (by omega) (by omega)), rR_0_5, ob_s, rR_0_0, ob_s, rA_1 (by omega), ob_s, rK_5, ob_s, if_neg (nI_pos (by omega)), if_neg (show ¬ 8 ≤ nI c from nI_ge (b := 8) (by omega) (by omega)), rR_5_1, ob_s, wA_10 (by omega), ob_s, ob_s, jw_sw, nI_1]
    apply ih (c + 1) r _ (by omega) (by omega)
    intro l hl
    unfold upR
    split
    · rename_i q
      show (jw h w).2.1 1 c = v l
      rw [q]
      exact hv c (by omega)
    · exact h3 l (by omega)
/-- what working out the whole answers -/
def ans (o : Option (Int64 × Nat)) : Int64 := match o with
  | none => -3
  | some q => q.1
theorem cd_WF {S : SG} (hw : WF S) : ∀ l, l < 8 → cd (gVs S l) := fun l hl => cd_of (hw.2.1 l hl).1 (hw.2.1 l hl).2
theorem fv_any {x : TX} {d p : Nat} {w a : Nat → Int64} (hw : ∀ l, l < 8 → w l = a l) : ∀ l, l < 8 → fv x.2.1 x.2.2 d p l = true → w (8 * 0 + l) = a l := fun l hl _ => by rw [Nat.mul_zero, Nat.zero_add]; exact hw l hl
/-- the Worker over a text that has been read; a: the letters' values -/
theorem c_code {S : SG} {h : HP} (hw : WF S) (hc : CA S h) {x : TX} {a w : Nat → Int64} (ht : cT h 100 x) (hE : cE h 100 x) (hK : KD (gK S) x.2.1 x.2.2 12 false 0 x.1) (ha : ∀ l, l < 8 → cd (a l)) (hwa : ∀ l, l < 8 → w l = a l) : ∃ n' w', s_Worker_codeOf 5 100 (jw h w) = some (ans (EV (gK S) (gBd S) 32 false x 0 a 0), cw h n' w') := by
  unfold s_Worker_codeOf
  rw [wI_5_2, ob_s, rK_5, ob_s]
  have e : (up2 (jw h w).1 5 2 0, (jw h w).2) = cw h 0 w := rfl
  rw [e]
  obtain ⟨rr, n', w', e1, r1⟩ := (c_work hw hc 32 (by omega) 150 (by omega)).1 100 x 12 0 x.1 0 a 0 w ⟨ht, hE, hK, Nat.le_refl _, by omega, fv_any hwa, ha, by omega⟩
  rw [show (s_grp_Worker_broughtBy 150).2.2.2.2.2.2.2 5 100 0 0 1 (cw h 0 w) = some (rr, cw h n' w') from e1, ob_s]
  have e2 : rr = ans (EV (gK S) (gBd S) 32 false x 0 a 0) := by
    cases hV : EV (gK S) (gBd S) 32 false x 0 a 0 with
    | none => rw [hV] at r1; exact r1
    | some q => rw [hV] at r1; exact r1.1
  exact ⟨n', w', by rw [← e2]⟩
theorem i64_32 (x : Int32) : x.toInt64.toInt32 = x := by
  rw [← Int32.toInt_inj, Int64.toInt_toInt32, Int32.toInt_toInt64]
  have h1 := x.toInt_lt
  have h2 := x.le_toInt
  exact Int.bmod_eq_of_le (by omega) (by omega)
theorem c_truth {S : SG} {h : HP} (hw : WF S) (hc : CA S h) {x : TX} {a w : Nat → Int64} (ht : cT h 100 x) (hE : cE h 100 x) (hK : KD (gK S) x.2.1 x.2.2 12 true 0 x.1) (ha : ∀ l, l < 8 → cd (a l)) (hwa : ∀ l, l < 8 → w l = a l) : ∃ n' w', s_Worker_truthOf 5 100 (jw h w) = some ((ans (EV (gK S) (gBd S) 32 true x 0 a 0)).toInt32, cw h n' w') ∧ ∀ l, l < 8 → EV (gK S) (gBd S) 32 true x 0 a 0 ≠ none → w' l = w l := by
  unfold s_Worker_truthOf
  rw [wI_5_2, ob_s, rK_5, ob_s]
  have e : (up2 (jw h w).1 5 2 0, (jw h w).2) = cw h 0 w := rfl
  rw [e]
  obtain ⟨rr, n', w', e1, r1⟩ := (c_work hw hc 32 (by omega) 150 (by omega)).2 100 x 12 0 x.1 0 a 0 w ⟨ht, hE, hK, Nat.le_refl _, by omega, fv_any hwa, ha, by omega⟩
  rw [show (s_grp_Worker_broughtBy 150).2.2.2.1 5 100 0 0 1 (cw h 0 w) = some (rr, cw h n' w') from e1, ob_s]
  have e2 : rr.toInt64 = ans (EV (gK S) (gBd S) 32 true x 0 a 0) := by
    cases hV : EV (gK S) (gBd S) 32 true x 0 a 0 with
    | none => rw [hV] at r1; exact r1
    | some q => rw [hV] at r1; exact r1.1
  refine ⟨n', w', by rw [← e2, i64_32], fun l hl hne => ?_⟩
  cases hV : EV (gK S) (gBd S) 32 true x 0 a 0 with
  | none => exact absurd hV hne
  | some q => rw [hV] at r1; exact r1.2.2 l (by omega)
-- the model
theorem MA_k {S : SG} {h h' : HP} (hm : MA S h) (h1 : ∀ m, m = 201 ∨ m = 203 ∨ m = 204 ∨ m = 205 ∨ m = 219 → h'.1 m = h.1 m) (h2 : h'.2.1 202 = h.2.1 202) (h3 : h'.1 200 1 = h.1 200 1) (h4 : h'.1 200 4 = h.1 200 4) : MA S h' := by
  obtain ⟨⟨a1, a1b⟩, a2, a3, a4, a5, a6⟩ := hm
  refine ⟨⟨h3.trans a1, fun p hp => by rw [h1 201 (by simp)]; exact a1b p hp⟩, fun j hj => by rw [h2]; exact a2 j hj, fun f hf => ?_, h4.trans a4, fun i hi => ?_, by rw [h1 219 (by simp)]; exact a6⟩
  · obtain ⟨b1, b2⟩ := a3 f hf
    exact ⟨by rw [h1 203 (by simp)]; exact b1, fun q p hp => by rw [h1 201 (by simp)]; exact b2 q p hp⟩
  · obtain ⟨b1, b2, b3⟩ := a5 i hi
    exact ⟨by rw [h1 204 (by simp)]; exact b1, fun p hp => by rw [h1 201 (by simp)]; exact b2 p hp, by rw [h1 205 (by simp)]; exact b3⟩
theorem MA_o200 {S : SG} {h h' : HP} (ho : o200 h h') (hm : MA S h) : MA S h' := MA_k hm (fun m hm => ho.1 m (by omega) (by omega)) (by rw [ho.2.1]) (ho.2.2 1 (by decide) (by decide)) (ho.2.2 4 (by decide) (by decide))
theorem sC_o200 {h h' : HP} (ho : o200 h h') : sC h h' := ⟨fun n hn => ⟨ho.1 n (by omega) (by omega), by rw [ho.2.1]⟩, by rw [ho.2.1]⟩
theorem MA_mw {S : SG} {h : HP} {dp n : Nat} {ot : Int32} {F : Nat → Nat → Int32} {G : Nat → Nat → Int64} {rs : Int64} (hm : MA S h) : MA S (mw h dp n ot F G rs) := MA_k hm (by rintro m (rfl | rfl | rfl | rfl | rfl) <;> rfl) rfl rfl rfl
theorem sC_mw {h : HP} {dp n : Nat} {ot : Int32} {F : Nat → Nat → Int32} {G : Nat → Nat → Int64} {rs : Int64} : sC h (mw h dp n ot F G rs) := by
  refine ⟨fun m hm => ⟨?_, ?_⟩, rfl⟩
  · funext i
    show (if m = 200 then _ else if 212 ≤ m ∧ m ≤ 215 then F m i else h.1 m i) = h.1 m i
    rw [if_neg (by omega), if_neg (by omega)]
  · funext i
    show (if m = 200 then _ else if 216 ≤ m ∧ m ≤ 218 then G m i else h.2.1 m i) = h.2.1 m i
    rw [if_neg (by omega), if_neg (by omega)]
theorem MM_MA {S : SG} {h : HP} (hm : MA S h) : MM S h := ⟨fun f hf => (hm.2.2.1 f hf).1, fun f hf hk => (hm.2.2.1 f hf).2 hk⟩
theorem MR_MA {S : SG} {h : HP} (hm : MA S h) : MR (kk (gK S) (-1) 0) (gB S).1 (gB S).2.1 h := ⟨hm.1.1, fun p hp => by have := hm.1.2 p hp; rw [Nat.zero_add] at this; exact this, fun f hf => by rw [kk_m _ f hf]; exact (hm.2.2.1 f hf).1⟩
theorem mw_0 {h : HP} : (up2 (up2 (up2 h.1 200 15 0) 200 16 0) 200 17 0, h.2) = mw h 0 0 0 h.1 h.2.1 (h.2.1 200 25) := by
  refine Prod.ext ?_ (Prod.ext ?_ rfl)
  · funext a b
    show up2 (up2 (up2 h.1 200 15 0) 200 16 0) 200 17 0 a b = (if a = 200 then (if b = 15 then nI 0 else if b = 16 then nI 0 else if b = 17 then 0 else h.1 200 b) else if 212 ≤ a ∧ a ≤ 215 then h.1 a b else h.1 a b)
    unfold up2
    by_cases ha : a = 200
    · rw [if_pos ha]
      by_cases b1 : b = 15
      · rw [if_neg (by omega), if_neg (by omega), if_pos ⟨ha, b1⟩, if_pos b1]; rfl
      · by_cases b2 : b = 16
        · rw [if_neg (by omega), if_pos ⟨ha, b2⟩, if_neg b1, if_pos b2]; rfl
        · by_cases b3 : b = 17
          · rw [if_pos ⟨ha, b3⟩, if_neg b1, if_neg b2, if_pos b3]
          · rw [if_neg (by omega), if_neg (by omega), if_neg (by omega), if_neg b1, if_neg b2, if_neg b3, ha]
    · rw [if_neg (fun q => ha q.1), if_neg (fun q => ha q.1), if_neg (fun q => ha q.1), if_neg ha]
      split <;> rfl
  · funext a b
    show h.2.1 a b = (if a = 200 then (if b = 25 then h.2.1 200 25 else h.2.1 200 b) else if 216 ≤ a ∧ a ≤ 218 then h.2.1 a b else h.2.1 a b)
    by_cases ha : a = 200
    · rw [if_pos ha, ha]
      split
      · rename_i q; rw [q]
      · rfl
    · rw [if_neg ha]
      split <;> rfl
theorem m_work {S : SG} {h : HP} (hw : WF S) (hm : MM S h) {b : Bool} {x : TX} {a : Nat → Int64} (ht : mT h 0 x) (hx : x.1 ≤ 60) (hK : KD (gK S) x.2.1 x.2.2 12 b 0 x.1) (hv : ∀ l, l < 8 → h.2.1 202 l = a l) (ha : ∀ l, l < 8 → cd (a l)) : ∃ dp n ot F G rs, s_AdjoinedSetsModel_work 200 0 h = some (ans (EV (gK S) (gBd S) 32 b x 0 a 0), mw h dp n ot F G rs) := by
  unfold s_AdjoinedSetsModel_work
  rw [wI_200_15, ob_s, wI_200_16, ob_s, wI_200_17, ob_s, rK_200, ob_s]
  dsimp only
  rw [mw_0]
  obtain ⟨dp', n', ot, F', G', h1, h2, h3, h4⟩ := m_all hw hm 32 b x 0 12 0 x.1 (-1) a 0 0 h.1 h.2.1 (h.2.1 200 25) ht (by omega) hx (by omega) hK (Nat.le_refl _) (by omega) (VR.top hv) ha (by omega)
  rw [show s_AdjoinedSetsModel_push 200 0 (-1) (mw h 0 0 0 h.1 h.2.1 (h.2.1 200 25)) = some (mw h dp' n' ot F' G' (h.2.1 200 25)) from h3, ob_s]
  cases hV : EV (gK S) (gBd S) 32 b x 0 a 0 with
  | none =>
    rw [hV] at h4
    exact h4 20000 (by omega)
  | some q =>
    rw [hV] at h4
    obtain ⟨F2, G2, j, e1, e2, e3⟩ := h4
    have e4 := e3 (20000 - j - 1 + 1)
    rw [show 20000 - j - 1 + 1 + j = 20000 by omega, w_end] at e4
    exact ⟨_, _, _, _, _, _, e4⟩
theorem sz0 {S : SG} {h : HP} (hm : MA S h) : MA (setB S e0) (up2 h.1 200 1 0, h.2) := MA_e0 hm
def xB (S : SG) (E : Nat → Int32) : TX := ((gB S).1, (gB S).2.1, E)
theorem fin100 : ∀ w, w ≤ 60 → ((-100) - nI w).toInt64 = (-100) - (nI w).toInt64 ∧ (-100) - nI w < 0 ∧ lg_cmp ((-100) - nI w).toInt64 0 < 0 := by decide
theorem op_eval : OPL (s_AdjoinedSets_eval 0) (s_AdjoinedSetsModel_eval 200) := by
  intro S h hw hc hm
  obtain ⟨h1, f1, ho, q1⟩ := c_readTerm hw hc
  have hk1 := kp_o3 ho
  have hc1 : CA S h1 := CA_kp hk1 hw hc (cT_o3 ho hc)
  have hm1 : MA S h1 := MA_of hk1.2 hm
  have h60 := hw.1.1
  unfold s_AdjoinedSets_eval
  rw [rR_0_4, ob_s, rK_4, ob_s, f1, ob_s]
  dsimp only
  have hend : ∀ (H : HP) (v : Int64), kp h H → s_AdjoinedSets_eval_31 0 v H = some (v, (up2 H.1 100 2 0, H.2)) ∧ CA (setB S e0) (up2 H.1 100 2 0, H.2) ∧ MA S (up2 H.1 100 2 0, H.2) := by
    intro H v hk
    have hk2 : kp h (up2 H.1 100 2 0, H.2) := hk.tr (kp_I rfl (by decide))
    refine ⟨?_, CA_ofB hk2.1 hw hc (cT_e0 (by show up2 H.1 100 2 0 100 2 = 0; exact u2_s)), MA_of hk2.2 hm⟩
    unfold s_AdjoinedSets_eval_31
    rw [rR_0_1, ob_s, rK_100, ob_s, p_empty isT_100, ob_s]
  cases hR : RS (gK S) (gB S).1 (gB S).2.1 (-1) 0 8 false with
  | inl w =>
    rw [hR] at q1
    have q1 : w ≤ (gB S).1 := q1
    obtain ⟨g1, g2, g3⟩ := fin100 w (by omega)
    rw [show enc (.inl w) = (-100) - nI w from rfl, if_pos g3]
    obtain ⟨k1, k2, k3⟩ := hend h1 ((-100) - nI w).toInt64 hk1
    obtain ⟨h4, f4, o4⟩ := m_wrong (S := S) (h := (up2 h1.1 100 2 0, h1.2)) hw (ow := -1) (lm := 0) (ok := 0) (lt := 8) (Or.inl rfl) (Or.inl ⟨by decide, rfl⟩) (MR_MA k3) false
    rw [hR] at f4
    refine ⟨((-100) - nI w).toInt64, _, (up2 h4.1 200 1 0, h4.2), setB S e0, k1, ?_, WF_e0 hw, CA_of (sC.tr (sC_o200 o4) (sC_I (by decide))) (WF_e0 hw) k2, sz0 (MA_o200 o4 k3)⟩
    unfold s_AdjoinedSetsModel_eval
    rw [rK_200, ob_s, show s_AdjoinedSetsModel_wrong 200 0 (-1) 0 (up2 h1.1 100 2 0, h1.2) = some (nI w, h4) from f4, ob_s]
    dsimp only
    rw [if_neg (nI_pos (by omega)), wI_200_1, ob_s, g1]
  | inr e =>
    rw [hR] at q1
    obtain ⟨q1, hK⟩ := q1
    have hx : cT h1 100 (xB S (h1.1 102)) := cT_o3 ho hc
    have hE : cE h1 100 (xB S (h1.1 102)) := fun p hp => rfl
    rw [show enc (.inr e) = nI e from rfl, if_neg (by rw [lg_cmp_lt, Int64.lt_iff_toInt_lt, nI_l (by omega), lN_toInt (by omega)]; show ¬ (e : Int) < 0; omega), rK_0, ob_s]
    obtain ⟨w', g1, g2⟩ := c_give (h := h1) (v := gVs S) (fun j hj => hc1.2.1 j hj) 8 0 20000 (h1.2.1 10) (by omega) (by omega) (fun l hl => absurd hl (by omega))
    rw [jw_self] at g1
    unfold s_AdjoinedSets_giveValues
    rw [show s_AdjoinedSets_giveValues_2 20000 0 0 h1 = some (jw h1 w') from g1, ob_s, rR_0_5, ob_s, rR_0_1, ob_s, rK_5, ob_s]
    obtain ⟨n2, w2, g3⟩ := c_code hw hc1 hx hE hK (cd_WF hw) g2
    rw [g3, ob_s]
    dsimp only
    obtain ⟨k1, k2, k3⟩ := hend (cw h1 n2 w2) (ans (EV (gK S) (gBd S) 32 false (xB S (h1.1 102)) 0 (gVs S) 0)) (hk1.tr kp_cw)
    obtain ⟨h4, f4, o4⟩ := m_wrong (S := S) (h := (up2 (cw h1 n2 w2).1 100 2 0, (cw h1 n2 w2).2)) hw (ow := -1) (lm := 0) (ok := 0) (lt := 8) (Or.inl rfl) (Or.inl ⟨by decide, rfl⟩) (MR_MA k3) false
    rw [hR] at f4
    have m4 := MA_o200 o4 k3
    obtain ⟨d5, n5, t5, F5, G5, r5, f5⟩ := m_work (S := S) (h := h4) (b := false) (x := xB S (h1.1 102)) (a := gVs S) hw (MM_MA m4) (fun p hp => m4.1.2 p hp) h60 hK (fun l hl => m4.2.1 l hl) (cd_WF hw)
    refine ⟨ans (EV (gK S) (gBd S) 32 false (xB S (h1.1 102)) 0 (gVs S) 0), _, (up2 (mw h4 d5 n5 t5 F5 G5 r5).1 200 1 0, (mw h4 d5 n5 t5 F5 G5 r5).2), setB S e0, k1, ?_, WF_e0 hw, CA_of (sC.tr (sC_o200 o4) (sC.tr sC_mw (sC_I (by decide)))) (WF_e0 hw) k2, sz0 (MA_mw m4)⟩
    unfold s_AdjoinedSetsModel_eval
    rw [rK_200, ob_s, show s_AdjoinedSetsModel_wrong 200 0 (-1) 0 (up2 (cw h1 n2 w2).1 100 2 0, (cw h1 n2 w2).2) = some (-1, h4) from f4, ob_s]
    dsimp only
    rw [if_pos (by decide), ob_s, f5, ob_s]
    dsimp only
    rw [wI_200_1, ob_s]
theorem op_truth : OP2 (s_AdjoinedSets_truth 0) (s_AdjoinedSetsModel_truth 200) := by
  intro S h hw hc hm
  obtain ⟨h1, f1, ho, q1⟩ := c_readFormula hw hc
  have hk1 := kp_o3 ho
  have hc1 : CA S h1 := CA_kp hk1 hw hc (cT_o3 ho hc)
  have hm1 : MA S h1 := MA_of hk1.2 hm
  have h60 := hw.1.1
  unfold s_AdjoinedSets_truth
  rw [rR_0_4, ob_s, rK_4, ob_s, f1, ob_s]
  dsimp only
  have hend : ∀ (H : HP) (v : Int32), kp h H → s_AdjoinedSets_truth_28 0 v H = some (v, (up2 H.1 100 2 0, H.2)) ∧ CA (setB S e0) (up2 H.1 100 2 0, H.2) ∧ MA S (up2 H.1 100 2 0, H.2) := by
    intro H v hk
    have hk2 : kp h (up2 H.1 100 2 0, H.2) := hk.tr (kp_I rfl (by decide))
    refine ⟨?_, CA_ofB hk2.1 hw hc (cT_e0 (by show up2 H.1 100 2 0 100 2 = 0; exact u2_s)), MA_of hk2.2 hm⟩
    unfold s_AdjoinedSets_truth_28
    rw [rR_0_1, ob_s, rK_100, ob_s, p_empty isT_100, ob_s]
  cases hR : RS (gK S) (gB S).1 (gB S).2.1 (-1) 0 8 true with
  | inl w =>
    rw [hR] at q1
    have q1 : w ≤ (gB S).1 := q1
    obtain ⟨g1, g2, g3⟩ := fin100 w (by omega)
    rw [show enc (.inl w) = (-100) - nI w from rfl, if_pos g2]
    obtain ⟨k1, k2, k3⟩ := hend h1 ((-100) - nI w) hk1
    obtain ⟨h4, f4, o4⟩ := m_wrong (S := S) (h := (up2 h1.1 100 2 0, h1.2)) hw (ow := -1) (lm := 0) (ok := 0) (lt := 8) (Or.inl rfl) (Or.inl ⟨by decide, rfl⟩) (MR_MA k3) true
    rw [hR] at f4
    refine ⟨((-100) - nI w), _, (up2 h4.1 200 1 0, h4.2), setB S e0, k1, ?_, WF_e0 hw, CA_of (sC.tr (sC_o200 o4) (sC_I (by decide))) (WF_e0 hw) k2, sz0 (MA_o200 o4 k3)⟩
    unfold s_AdjoinedSetsModel_truth
    rw [rK_200, ob_s, show s_AdjoinedSetsModel_wrong 200 1 (-1) 0 (up2 h1.1 100 2 0, h1.2) = some (nI w, h4) from f4, ob_s]
    dsimp only
    rw [if_neg (nI_pos (by omega)), wI_200_1, ob_s]
  | inr e =>
    rw [hR] at q1
    obtain ⟨q1, hK⟩ := q1
    have hx : cT h1 100 (xB S (h1.1 102)) := cT_o3 ho hc
    have hE : cE h1 100 (xB S (h1.1 102)) := fun p hp => rfl
    rw [show enc (.inr e) = nI e from rfl, if_neg (nI_pos (by omega)), rK_0, ob_s]
    obtain ⟨w', g1, g2⟩ := c_give (h := h1) (v := gVs S) (fun j hj => hc1.2.1 j hj) 8 0 20000 (h1.2.1 10) (by omega) (by omega) (fun l hl => absurd hl (by omega))
    rw [jw_self] at g1
    unfold s_AdjoinedSets_giveValues
    rw [show s_AdjoinedSets_giveValues_2 20000 0 0 h1 = some (jw h1 w') from g1, ob_s, rR_0_5, ob_s, rR_0_1, ob_s, rK_5, ob_s]
    obtain ⟨n2, w2, g3, _⟩ := c_truth hw hc1 hx hE hK (cd_WF hw) g2
    rw [g3, ob_s]
    dsimp only
    obtain ⟨k1, k2, k3⟩ := hend (cw h1 n2 w2) (ans (EV (gK S) (gBd S) 32 true (xB S (h1.1 102)) 0 (gVs S) 0)).toInt32 (hk1.tr kp_cw)
    obtain ⟨h4, f4, o4⟩ := m_wrong (S := S) (h := (up2 (cw h1 n2 w2).1 100 2 0, (cw h1 n2 w2).2)) hw (ow := -1) (lm := 0) (ok := 0) (lt := 8) (Or.inl rfl) (Or.inl ⟨by decide, rfl⟩) (MR_MA k3) true
    rw [hR] at f4
    have m4 := MA_o200 o4 k3
    obtain ⟨d5, n5, t5, F5, G5, r5, f5⟩ := m_work (S := S) (h := h4) (b := true) (x := xB S (h1.1 102)) (a := gVs S) hw (MM_MA m4) (fun p hp => m4.1.2 p hp) h60 hK (fun l hl => m4.2.1 l hl) (cd_WF hw)
    refine ⟨(ans (EV (gK S) (gBd S) 32 true (xB S (h1.1 102)) 0 (gVs S) 0)).toInt32, _, (up2 (mw h4 d5 n5 t5 F5 G5 r5).1 200 1 0, (mw h4 d5 n5 t5 F5 G5 r5).2), setB S e0, k1, ?_, WF_e0 hw, CA_of (sC.tr (sC_o200 o4) (sC.tr sC_mw (sC_I (by decide)))) (WF_e0 hw) k2, sz0 (MA_mw m4)⟩
    unfold s_AdjoinedSetsModel_truth
    rw [rK_200, ob_s, show s_AdjoinedSetsModel_wrong 200 1 (-1) 0 (up2 (cw h1 n2 w2).1 100 2 0, (cw h1 n2 w2).2) = some (-1, h4) from f4, ob_s]
    dsimp only
    rw [if_pos (by decide), ob_s, f5, ob_s]
    dsimp only
    rw [wI_200_1, ob_s]
