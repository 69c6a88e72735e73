/-! refute: the model's loops, and both. -/
def seV (S : SG) (V : Nat → Int64) : SG := (S.1, V, S.2.2)
theorem WF_seV {S : SG} {V : Nat → Int64} (hw : WF S) (hV : ∀ j, j < 8 → 0 ≤ V j ∧ V j ≤ 4611686018427387903) : WF (seV S V) := ⟨hw.1, hV, hw.2.2⟩
theorem MA_V {S : SG} {H : HP} {V V' : Nat → Int64} (hm : MA (seV S V) H) (hV : ∀ j, j < 8 → V j = V' j) : MA (seV S V') H := ⟨hm.1, fun j hj => (hm.2.1 j hj).trans (hV j hj), hm.2.2⟩
theorem MA_uL {S : SG} {H : HP} {V : Nat → Int64} {j : Nat} {v : Int64} (hm : MA (seV S V) H) : MA (seV S (upR V j v)) (H.1, up2 H.2.1 202 j v, H.2.2) := by
  refine ⟨hm.1, fun l hl => ?_, hm.2.2⟩
  show up2 H.2.1 202 j v 202 l = upR V j v l
  unfold upR
  by_cases hlj : l = j
  · rw [hlj, u2_s, if_pos rfl]
  · rw [u2_i hlj, if_neg hlj]
    exact hm.2.1 l hl
theorem cd_le {x : Int64} (h : cd x) : 0 ≤ x ∧ x ≤ 4611686018427387903 := by
  refine ⟨cd_nn h, ?_⟩
  rw [Int64.le_iff_toInt_le, cd_toInt h]
  have e2 : (4611686018427387903 : Int64).toInt = 4611686018427387903 := by decide
  rw [e2]
  unfold cd at h
  omega
section
variable {S : SG} {h : HP}
theorem m_rin (hw : WF S) {x : TX} (hxb : x.1 = (gB S).1 ∧ x.2.1 = (gB S).2.1) (hK : KD (gK S) x.2.1 x.2.2 12 true 0 x.1) {X Y Y' v fe se : Nat} (hX : X ≤ 8) (hY : Y ≤ 8) (hY' : Y' ≤ 9) (hYY : (8 ≤ Y' ↔ 8 ≤ Y) ∧ (Y' < 8 → Y' = Y)) (hXY : X < 8 → X ≠ Y) (hv : v < 8) (hse : se ≤ 8) (c29 : Nat → Int32 → Int32 → Int32 → Int32 → Int32 → HP → Option (Int32 × HP)) : ∀ (i w k : Nat) (V : Nat → Int64) (H : HP), w + i = se → i < k → MA (seV S V) H → sC h H → (∀ l, l < 8 → l ≠ X → l ≠ Y → V l = gVs S l) → ∃ V' H', MA (seV S V') H' ∧ sC h H' ∧ (∀ l, l < 8 → l ≠ X → l ≠ Y → V' l = gVs S l) ∧ s_AdjoinedSetsModel_refuted_39 c29 k 200 (nI X) (nI Y') (nI fe) (nI se) (nI v) (nI w) H = (match rfI (fun w => decide (ans (EV (gK S) (gBd S) 32 true x 0 (cnn (gVs S) X Y v w) 0) = 0)) v i w with | some r => some (nI r, H') | none => c29 200 (nI X) (nI Y') (nI fe) (nI se) (nI (v + 1)) H') := by
  intro i
  induction i with
  | zero =>
    intro w k V H h1 h2 hm hs hV
    obtain ⟨k, rfl⟩ : ∃ k0, k = k0 + 1 := ⟨k - 1, by omega⟩
    refine ⟨V, H, hm, hs, hV, ?_⟩
    rw [s_AdjoinedSetsModel_refuted_39]
    dsimp only
    rw [if_pos (nI_le (by omega) (by omega)), nI_1]
    rfl
  | succ i ih =>
    intro w k V H h1 h2 hm hs hV
    obtain ⟨k, rfl⟩ : ∃ k0, k = k0 + 1 := ⟨k - 1, by omega⟩
    have hcd := cnn_cd (x := X) (y := Y) (cd_WF hw) hv (show w < 8 by omega)
    -- the values set
    have hset : ∃ V1 H1, MA (seV S V1) H1 ∧ sC h H1 ∧ (∀ l, l < 8 → V1 l = cnn (gVs S) X Y v w l) ∧ s_AdjoinedSetsModel_refuted_39 c29 (k + 1) 200 (nI X) (nI Y') (nI fe) (nI se) (nI v) (nI w) H = s_AdjoinedSetsModel_refuted_76 c29 (s_AdjoinedSetsModel_refuted_39 c29 k) 200 (nI X) (nI Y') (nI fe) (nI se) (nI v) (nI w) H1 := by
      have hx1 : ∃ V1 H1, MA (seV S V1) H1 ∧ sC h H1 ∧ (∀ l, l < 8 → l ≠ Y → V1 l = if l = X then lN v else gVs S l) ∧ s_AdjoinedSetsModel_refuted_39 c29 (k + 1) 200 (nI X) (nI Y') (nI fe) (nI se) (nI v) (nI w) H = s_AdjoinedSetsModel_refuted_61 c29 (s_AdjoinedSetsModel_refuted_39 c29 k) 200 (nI X) (nI Y') (nI fe) (nI se) (nI v) (nI w) H1 := by
        rw [s_AdjoinedSetsModel_refuted_39]
        dsimp only
        rw [if_neg (nI_ge (by omega) (by omega))]
        by_cases h8 : X = 8
        · rw [if_pos (show 8 ≤ nI X by rw [h8]; decide)]
          exact ⟨V, H, hm, hs, fun l hl hne => by rw [if_neg (by omega)]; exact hV l hl (by omega) hne, rfl⟩
        · rw [if_neg (show ¬ 8 ≤ nI X from nI_ge (b := 8) (by omega) (by omega)), rR_200_2, ob_s, wA_202 (by omega), ob_s, nI_l (by omega)]
          refine ⟨upR V X (lN v), _, MA_uL hm, sC.tr hs (sC_J (by decide)), fun l hl hne => ?_, rfl⟩
          unfold upR
          split
          · rfl
          · rename_i hlx
            exact hV l hl hlx hne
      obtain ⟨V1, H1, a1, a2, a3, a4⟩ := hx1
      rw [a4]
      unfold s_AdjoinedSetsModel_refuted_61
      by_cases h8 : 8 ≤ Y'
      · rw [if_pos (show 8 ≤ nI Y' from nI_le (a := 8) h8 (by omega))]
        have := hYY.1.mp h8
        refine ⟨V1, H1, a1, a2, fun l hl => ?_, rfl⟩
        unfold cnn
        rw [if_neg (by omega)]
        exact a3 l hl (by omega)
      · have hyy := hYY.2 (by omega)
        rw [if_neg (show ¬ 8 ≤ nI Y' from nI_ge (b := 8) (by omega) (by omega)), rR_200_2, ob_s, wA_202 (by omega), ob_s, nI_l (by omega)]
        refine ⟨upR V1 Y' (lN w), _, MA_uL a1, sC.tr a2 (sC_J (by decide)), fun l hl => ?_, rfl⟩
        unfold upR cnn
        rw [hyy]
        split
        · rfl
        · rename_i hne
          exact a3 l hl hne
    obtain ⟨V1, H1, a1, a2, a3, a4⟩ := hset
    have hw1 : WF (seV S V1) := WF_seV hw (fun j hj => by rw [a3 j hj]; exact cd_le (hcd j hj))
    obtain ⟨d5, n5, t5, F5, G5, r5, f5⟩ := m_work (S := seV S V1) (h := H1) (b := true) (x := x) (a := cnn (gVs S) X Y v w) hw1 (MM_MA a1) (fun p hp => by rw [hxb.2]; exact a1.1.2 p (by rw [hxb.1] at hp; exact hp)) (by rw [hxb.1]; exact hw.1.1) hK (fun l hl => (a1.2.1 l hl).trans (a3 l hl)) hcd
    have f5 : s_AdjoinedSetsModel_work 200 0 H1 = some (ans (EV (gK S) (gBd S) 32 true x 0 (cnn (gVs S) X Y v w) 0), mw H1 d5 n5 t5 F5 G5 r5) := f5
    rw [a4]
    unfold s_AdjoinedSetsModel_refuted_76
    rw [rK_200, ob_s, f5, ob_s]
    dsimp only
    have hk1 : ∀ l, l < 8 → l ≠ X → l ≠ Y → V1 l = gVs S l := by
      intro l hl n1 n2
      rw [a3 l hl]
      unfold cnn
      rw [if_neg n2, if_neg n1]
    by_cases h0 : ans (EV (gK S) (gBd S) 32 true x 0 (cnn (gVs S) X Y v w) 0) = 0
    · rw [if_pos ((lg_cmp_eq _ _).mpr h0)]
      have er : rfI (fun w => decide (ans (EV (gK S) (gBd S) 32 true x 0 (cnn (gVs S) X Y v w) 0) = 0)) v (i + 1) w = some (64 * v + w) := by
        show (if decide (ans (EV (gK S) (gBd S) 32 true x 0 (cnn (gVs S) X Y v w) 0) = 0) = true then _ else _) = _
        rw [if_pos (decide_eq_true h0)]
      rw [er]
      refine ⟨V1, mw H1 d5 n5 t5 F5 G5 r5, MA_mw a1, sC.tr a2 sC_mw, hk1, ?_⟩
      dsimp only
      rw [show (64 : Int32) = nI 64 from rfl, pk_mul, nI_add]
    · rw [if_neg (fun q => h0 ((lg_cmp_eq _ _).mp q)), nI_1]
      have er : rfI (fun w => decide (ans (EV (gK S) (gBd S) 32 true x 0 (cnn (gVs S) X Y v w) 0) = 0)) v (i + 1) w = rfI (fun w => decide (ans (EV (gK S) (gBd S) 32 true x 0 (cnn (gVs S) X Y v w) 0) = 0)) v i (w + 1) := by
        show (if decide (ans (EV (gK S) (gBd S) 32 true x 0 (cnn (gVs S) X Y v w) 0) = 0) = true then _ else _) = _
        rw [if_neg (by rw [decide_eq_false h0]; decide)]
      rw [er]
      exact ih (w + 1) k V1 _ (by omega) (by omega) (MA_mw a1) (sC.tr a2 sC_mw) hk1
theorem m_rout (hw : WF S) {x : TX} (hxb : x.1 = (gB S).1 ∧ x.2.1 = (gB S).2.1) (hK : KD (gK S) x.2.1 x.2.2 12 true 0 x.1) {X Y Y' fe se : Nat} (hX : X ≤ 8) (hY : Y ≤ 8) (hY' : Y' ≤ 9) (hYY : (8 ≤ Y' ↔ 8 ≤ Y) ∧ (Y' < 8 → Y' = Y)) (hXY : X < 8 → X ≠ Y) (hfe : fe ≤ 8) (hse : se ≤ 8) : ∀ (i v k : Nat) (V : Nat → Int64) (H : HP), v + i = fe → i < k → MA (seV S V) H → sC h H → (∀ l, l < 8 → l ≠ X → l ≠ Y → V l = gVs S l) → ∃ V' H', MA (seV S V') H' ∧ sC h H' ∧ (∀ l, l < 8 → l ≠ X → l ≠ Y → V' l = gVs S l) ∧ s_AdjoinedSetsModel_refuted_29 k 200 (nI X) (nI Y') (nI fe) (nI se) (nI v) H = some (rfA (rfO (fun v w => decide (ans (EV (gK S) (gBd S) 32 true x 0 (cnn (gVs S) X Y v w) 0) = 0)) se i v), H') := by
  intro i
  induction i with
  | zero =>
    intro v k V H h1 h2 hm hs hV
    obtain ⟨k, rfl⟩ : ∃ k0, k = k0 + 1 := ⟨k - 1, by omega⟩
    refine ⟨V, H, hm, hs, hV, ?_⟩
    rw [s_AdjoinedSetsModel_refuted_29]
    dsimp only
    rw [if_pos (nI_le (by omega) (by omega))]
    rfl
  | succ i ih =>
    intro v k V H h1 h2 hm hs hV
    obtain ⟨k, rfl⟩ : ∃ k0, k = k0 + 1 := ⟨k - 1, by omega⟩
    obtain ⟨V1, H1, a1, a2, a3, a4⟩ := m_rin (h := h) hw hxb hK (fe := fe) hX hY hY' hYY hXY (show v < 8 by omega) hse (s_AdjoinedSetsModel_refuted_29 k) se 0 20000 V H (by omega) (by omega) hm hs hV
    rw [s_AdjoinedSetsModel_refuted_29]
    dsimp only
    rw [if_neg (nI_ge (by omega) (by omega)), show s_AdjoinedSetsModel_refuted_39 (s_AdjoinedSetsModel_refuted_29 k) 20000 200 (nI X) (nI Y') (nI fe) (nI se) (nI v) 0 H = _ from a4]
    show ∃ V' H', _ ∧ _ ∧ _ ∧ _ = some (rfA (match rfI _ v se 0 with | some r => some r | none => rfO _ se i (v + 1)), H')
    cases rfI (fun w => decide (ans (EV (gK S) (gBd S) 32 true x 0 (cnn (gVs S) X Y v w) 0) = 0)) v se 0 with
    | some r => exact ⟨V1, H1, a1, a2, a3, rfl⟩
    | none => exact ih (v + 1) k V1 H1 (by omega) (by omega) a1 a2 a3
end
theorem nI_self (v : Int32) : v = nI v.toBitVec.toNat := by
  rw [← Int32.toBitVec_inj]
  apply BitVec.eq_of_toNat_eq
  have : (nI v.toBitVec.toNat).toBitVec = BitVec.ofNat 32 v.toBitVec.toNat := rfl
  rw [this, BitVec.toNat_ofNat, Nat.mod_eq_of_lt (BitVec.isLt _)]
theorem cw_self (h : HP) : cw h (h.1 5 2).toBitVec.toNat (h.2.1 10) = h := by
  unfold cw
  rw [← nI_self]
  refine Prod.ext ?_ (Prod.ext ?_ rfl)
  · funext a b
    show up2 h.1 5 2 (h.1 5 2) a b = h.1 a b
    unfold up2
    split
    · rename_i q; rw [q.1, q.2]
    · rfl
  · funext m
    show (if m = 10 then h.2.1 10 else h.2.1 m) = h.2.1 m
    split
    · rename_i q; rw [q]
    · rfl
theorem MA_sw {S : SG} {h : HP} {w : Nat} {P : Nat → Nat → Int32} {A B : Nat → Int32} (hm : MA S h) : MA S (sw h w P A B) := MA_k hm (by rintro m (rfl | rfl | rfl | rfl | rfl) <;> rfl) rfl rfl rfl
theorem sC_sw {h : HP} {w : Nat} {P : Nat → Nat → Int32} {A B : Nat → Int32} : sC h (sw h w P A B) := by
  refine ⟨fun m hm => ⟨?_, rfl⟩, rfl⟩
  funext i
  show (if m = 200 then _ else if 206 ≤ m ∧ m ≤ 209 then P m i else if m = 210 then A i else if m = 211 then B i else h.1 m i) = h.1 m i
  rw [if_neg (by omega), if_neg (by omega), if_neg (by omega), if_neg (by omega)]
theorem op_refute : ∀ k, OP2 (s_AdjoinedSets_refute 0 k) (s_AdjoinedSetsModel_refute 200 k) := by
  intro k S h hw hc hm
  unfold s_AdjoinedSets_refute s_AdjoinedSetsModel_refute
  by_cases hk1 : k < 1
  · rw [if_pos hk1]
    exact ⟨-1, h, h, S, rfl, by rw [if_pos hk1], hw, hc, hm⟩
  rw [if_neg hk1]
  by_cases hk8 : k ≤ 8
  rotate_left
  · rw [if_neg hk8]
    exact ⟨-1, h, h, S, rfl, by rw [if_neg hk1, if_neg hk8], hw, hc, hm⟩
  rw [if_pos hk8]
  obtain ⟨kk0, hkk, rfl⟩ : ∃ j, j ≤ 8 ∧ k = nI j := by
    have h0 : ¬ k < 0 := by
      rw [Int32.lt_iff_toInt_lt] at hk1 ⊢
      have e1 : (1 : Int32).toInt = 1 := by decide
      have e0 : (0 : Int32).toInt = 0 := by decide
      omega
    exact nI_of2 (n := 8) (by decide) h0 hk8
  obtain ⟨h1, f1, ho, q1⟩ := c_readFormula hw hc
  have hk1' := kp_o3 ho
  have hc1 : CA S h1 := CA_kp hk1' hw hc (cT_o3 ho hc)
  have hm1 : MA S h1 := MA_of hk1'.2 hm
  have h60 := hw.1.1
  rw [rR_0_4, ob_s, rK_4, ob_s, f1, ob_s]
  dsimp only
  have hend : ∀ (H : HP) (v : Int32), kp h H → s_AdjoinedSets_refute_54 0 v H = some (v, (up2 H.1 100 2 0, H.2)) ∧ CA (setB S e0) (up2 H.1 100 2 0, H.2) ∧ MA S (up2 H.1 100 2 0, H.2) := by
    intro H v hk
    have hk2 : kp h (up2 H.1 100 2 0, H.2) := hk.tr (kp_I rfl (by decide))
    refine ⟨?_, CA_ofB hk2.1 hw hc (cT_e0 (by show up2 H.1 100 2 0 100 2 = 0; exact u2_s)), MA_of hk2.2 hm⟩
    unfold s_AdjoinedSets_refute_54
    rw [rR_0_1, ob_s, rK_100, ob_s, p_empty isT_100, ob_s]
  cases hR : RS (gK S) (gB S).1 (gB S).2.1 (-1) 0 8 true with
  | inl w =>
    rw [hR] at q1
    have q1 : w ≤ (gB S).1 := q1
    obtain ⟨g1, g2, g3⟩ := fin100 w (by omega)
    rw [show enc (.inl w) = (-100) - nI w from rfl, if_pos g2]
    obtain ⟨k1, k2, k3⟩ := hend h1 ((-100) - nI w) hk1'
    obtain ⟨h4, f4, o4⟩ := m_wrong (S := S) (h := (up2 h1.1 100 2 0, h1.2)) hw (ow := -1) (lm := 0) (ok := 0) (lt := 8) (Or.inl rfl) (Or.inl ⟨by decide, rfl⟩) (MR_MA k3) true
    rw [hR] at f4
    refine ⟨((-100) - nI w), _, (up2 h4.1 200 1 0, h4.2), setB S e0, k1, ?_, WF_e0 hw, CA_of (sC.tr (sC_o200 o4) (sC_I (by decide))) (WF_e0 hw) k2, sz0 (MA_o200 o4 k3)⟩
    rw [if_neg hk1, if_pos hk8, rK_200, ob_s, show s_AdjoinedSetsModel_wrong 200 1 (-1) 0 (up2 h1.1 100 2 0, h1.2) = some (nI w, h4) from f4, ob_s]
    dsimp only
    rw [if_pos (nI_pos' (by omega)), wI_200_1, ob_s]
  | inr e =>
    rw [hR] at q1
    obtain ⟨q1, hK⟩ := q1
    have hx : cT h1 100 (xB S (h1.1 102)) := cT_o3 ho hc
    have hE : cE h1 100 (xB S (h1.1 102)) := fun p hp => rfl
    have hK3 : ∀ f, f < 4 → gK S f ≤ 3 := fun f hf => (hw.2.2.1 f hf).1
    obtain ⟨y, g1, g2⟩ := c_free hK3 hx hE 12 true 0 (gB S).1 1 13 hK (Nat.le_refl _) (by omega) (by omega)
    obtain ⟨m, hm256, hym⟩ := MSK_n g2
    obtain ⟨a1, a2, a3, a4⟩ := fin_x m hm256
    obtain ⟨b1, b2, b3⟩ := fin_y m hm256
    obtain ⟨⟨c, c33, c1, c2⟩, d1, d2, d3, d4, d5⟩ := fin_z m hm256
    have d6 := fin_l m hm256
    rw [show enc (.inr e) = nI e from rfl, if_neg (nI_pos (by omega)), rR_0_1, ob_s, rK_100, ob_s, show s_grp_Text_freeIn 13 100 0 1 h1 = some y from g1, ob_s, hym, c1, ob_s]
    unfold s_AdjoinedSets_refute_53
    -- the class's answer
    have hcl : ∃ (r : Int32) (H : HP), kp h H ∧ (if nI c ≤ 2 then (kd 0 8).bind fun _ => (s_AdjoinedSets_firstRefuting 0 (nI m) (nI kk0) h1).bind fun q14 => s_AdjoinedSets_refute_54 0 q14.1 q14.2 else s_AdjoinedSets_refute_54 0 (-1) h1) = s_AdjoinedSets_refute_54 0 r H ∧ r = (if 8 ≤ mz m then rfA (rfO (fun v w => decide (ans (EV (gK S) (gBd S) 32 true (xB S (h1.1 102)) 0 (cnn (gVs S) (lx m) (ly m) v w) 0) = 0)) (if 8 ≤ ly m then 1 else kk0) (if 8 ≤ lx m then 1 else kk0) 0) else -1) := by
      by_cases hc2 : c ≤ 2
      · rw [if_pos (show nI c ≤ 2 from nI_le (b := 2) hc2 (by omega)), rK_0, ob_s, if_pos (c2.mp hc2)]
        have hfr : ∀ l, l < 8 → fv (xB S (h1.1 102)).2.1 (xB S (h1.1 102)).2.2 12 0 l = true → l = lx m ∨ l = ly m := fun l hl hf => d6 (c2.mp hc2) l hl (by rw [← hym, g2.2 l hl]; exact hf)
        obtain ⟨n', W', e1⟩ := c_rout (h := h1) hw hc1 hx hE hK (X := lx m) (Y := ly m) (fe := if 8 ≤ lx m then 1 else kk0) (se := if 8 ≤ ly m then 1 else kk0) a3 a4 d5 (by split <;> omega) (by split <;> omega) hfr (if 8 ≤ lx m then 1 else kk0) 0 20000 (h1.1 5 2).toBitVec.toNat (h1.2.1 10) (by omega) (by split <;> omega)
        rw [cw_self] at e1
        have e2 : s_AdjoinedSets_firstRefuting 0 (nI m) (nI kk0) h1 = some (rfA (rfO (fun v w => decide (ans (EV (gK S) (gBd S) 32 true (xB S (h1.1 102)) 0 (cnn (gVs S) (lx m) (ly m) v w) 0) = 0)) (if 8 ≤ ly m then 1 else kk0) (if 8 ≤ lx m then 1 else kk0) 0), cw h1 n' W') := by
          unfold s_AdjoinedSets_firstRefuting s_AdjoinedSets_firstRefuting_26 s_AdjoinedSets_firstRefuting_40
          rw [a1, ob_s, a2, ob_s]
          by_cases hX8 : 8 ≤ lx m
          · rw [if_pos (show 8 ≤ nI (lx m) from nI_le (a := 8) hX8 (by omega))]
            by_cases hY8 : 8 ≤ ly m
            · rw [if_pos (show 8 ≤ nI (ly m) from nI_le (a := 8) hY8 (by omega))]
              rw [if_pos hX8, if_pos hY8] at e1 ⊢
              exact e1
            · rw [if_neg (show ¬ 8 ≤ nI (ly m) from nI_ge (b := 8) (by omega) (by omega))]
              rw [if_pos hX8, if_neg hY8] at e1 ⊢
              exact e1
          · rw [if_neg (show ¬ 8 ≤ nI (lx m) from nI_ge (b := 8) (by omega) (by omega))]
            by_cases hY8 : 8 ≤ ly m
            · rw [if_pos (show 8 ≤ nI (ly m) from nI_le (a := 8) hY8 (by omega))]
              rw [if_neg hX8, if_pos hY8] at e1 ⊢
              exact e1
            · rw [if_neg (show ¬ 8 ≤ nI (ly m) from nI_ge (b := 8) (by omega) (by omega))]
              rw [if_neg hX8, if_neg hY8] at e1 ⊢
              exact e1
        rw [e2, ob_s]
        exact ⟨_, _, hk1'.tr kp_cw, rfl, rfl⟩
      · rw [if_neg (show ¬ nI c ≤ 2 from nI_ge (a := 2) (by omega) (by omega)), if_neg (fun q => hc2 (c2.mpr q))]
        exact ⟨-1, h1, hk1', rfl, rfl⟩
    obtain ⟨r, H, kH, eH, eR⟩ := hcl
    rw [eH]
    obtain ⟨k1, k2, k3⟩ := hend H r kH
    obtain ⟨h4, f4, o4⟩ := m_wrong (S := S) (h := (up2 H.1 100 2 0, H.2)) hw (ow := -1) (lm := 0) (ok := 0) (lt := 8) (Or.inl rfl) (Or.inl ⟨by decide, rfl⟩) (MR_MA k3) true
    rw [hR] at f4
    have m4 := MA_o200 o4 k3
    obtain ⟨y2, P, A, B, g3, g4⟩ := m_free (h := h4) (x := xB S (h1.1 102)) (o := 0) (s := 0) (K := gK S) (fun p hp => m4.1.2 p hp) (by show 0 + (gB S).1 ≤ 1490; omega) h60 (fun f hf => (m4.2.2.1 f hf).1) hK3 (d := 12) (by omega) hK (Nat.le_refl _)
    have hyy : y2 = nI m := by rw [← hym]; exact MSK_eq g4 g2
    have m5 : MA S (sw h4 0 P A B) := MA_sw m4
    have s5 : sC (up2 H.1 100 2 0, H.2) (sw h4 0 P A B) := sC.tr (sC_o200 o4) sC_sw
    -- the model's answer
    have hml : ∃ (V' : Nat → Int64) (H' : HP), MA (seV S V') H' ∧ sC (up2 H.1 100 2 0, H.2) H' ∧ (∀ l, l < 8 → l ≠ lx m → l ≠ ly m → V' l = gVs S l) ∧ ∀ (a b : Int64), s_AdjoinedSetsModel_refute_94 200 (nI kk0) (nI m) (nI (lx m)) (nI (my m)) a b (sw h4 0 P A B) = s_AdjoinedSetsModel_refute_123 200 (nI (lx m)) (nI (my m)) a b r H' := by
      by_cases hz : 8 ≤ mz m
      · obtain ⟨V1, H1, v1, v2, v3, v4⟩ := m_rout (h := (up2 H.1 100 2 0, H.2)) hw (x := xB S (h1.1 102)) ⟨rfl, rfl⟩ hK (X := lx m) (Y := ly m) (Y' := my m) (fe := if 8 ≤ lx m then 1 else kk0) (se := if 8 ≤ ly m then 1 else kk0) a3 a4 d3 ⟨d1, d2⟩ d5 (by split <;> omega) (by split <;> omega) (if 8 ≤ lx m then 1 else kk0) 0 20000 (gVs S) (sw h4 0 P A B) (by omega) (by split <;> omega) m5 s5 (fun _ _ _ _ => rfl)
        refine ⟨V1, H1, v1, v2, v3, fun a b => ?_⟩
        have e2 : s_AdjoinedSetsModel_refuted 200 (nI kk0) (nI (lx m)) (nI (my m)) (sw h4 0 P A B) = some (r, H1) := by
          rw [if_pos hz] at eR
          unfold s_AdjoinedSetsModel_refuted s_AdjoinedSetsModel_refuted_11 s_AdjoinedSetsModel_refuted_24
          rw [eR]
          by_cases hX8 : 8 ≤ lx m
          · rw [if_pos (show 8 ≤ nI (lx m) from nI_le (a := 8) hX8 (by omega))]
            by_cases hY8 : 8 ≤ ly m
            · rw [if_pos (show 8 ≤ nI (my m) from nI_le (a := 8) (d1.mpr hY8) (by omega))]
              rw [if_pos hX8, if_pos hY8] at v4 ⊢
              exact v4
            · rw [if_neg (show ¬ 8 ≤ nI (my m) from nI_ge (b := 8) (by omega) (by omega))]
              rw [if_pos hX8, if_neg hY8] at v4 ⊢
              exact v4
          · rw [if_neg (show ¬ 8 ≤ nI (lx m) from nI_ge (b := 8) (by omega) (by omega))]
            by_cases hY8 : 8 ≤ ly m
            · rw [if_pos (show 8 ≤ nI (my m) from nI_le (a := 8) (d1.mpr hY8) (by omega))]
              rw [if_neg hX8, if_pos hY8] at v4 ⊢
              exact v4
            · rw [if_neg (show ¬ 8 ≤ nI (my m) from nI_ge (b := 8) (by omega) (by omega))]
              rw [if_neg hX8, if_neg hY8] at v4 ⊢
              exact v4
        unfold s_AdjoinedSetsModel_refute_94
        rw [b3, ob_s, if_pos (show 8 ≤ nI (mz m) from nI_le (a := 8) hz (by omega)), rK_200, ob_s, e2, ob_s]
      · refine ⟨gVs S, sw h4 0 P A B, m5, s5, fun _ _ _ _ => rfl, fun a b => ?_⟩
        rw [if_neg hz] at eR
        unfold s_AdjoinedSetsModel_refute_94
        rw [b3, ob_s, if_neg (show ¬ 8 ≤ nI (mz m) from nI_ge (b := 8) (by omega) (by omega)), eR]
    obtain ⟨V', H', v1, v2, v3, v4⟩ := hml
    -- the values come back
    have hback : ∀ (a b : Int64), (lx m < 8 → a = gVs S (lx m)) → (ly m < 8 → b = gVs S (ly m)) → ∃ H2, s_AdjoinedSetsModel_refute_123 200 (nI (lx m)) (nI (my m)) a b r H' = some (r, H2) ∧ MA (setB S e0) H2 ∧ sC (up2 H.1 100 2 0, H.2) H2 := by
      intro a b ha hb
      have hst : ∃ V2 H2, MA (seV S V2) H2 ∧ sC (up2 H.1 100 2 0, H.2) H2 ∧ (∀ l, l < 8 → l ≠ ly m → V2 l = gVs S l) ∧ s_AdjoinedSetsModel_refute_123 200 (nI (lx m)) (nI (my m)) a b r H' = s_AdjoinedSetsModel_refute_140 200 r (nI (my m)) b H2 := by
        unfold s_AdjoinedSetsModel_refute_123
        by_cases hX8 : 8 ≤ lx m
        · rw [if_pos (show 8 ≤ nI (lx m) from nI_le (a := 8) hX8 (by omega))]
          exact ⟨V', H', v1, v2, fun l hl hne => v3 l hl (by omega) hne, rfl⟩
        · rw [if_neg (show ¬ 8 ≤ nI (lx m) from nI_ge (b := 8) (by omega) (by omega)), rR_200_2, ob_s, wA_202 (by omega), ob_s]
          refine ⟨upR V' (lx m) a, _, MA_uL v1, sC.tr v2 (sC_J (by decide)), fun l hl hne => ?_, rfl⟩
          unfold upR
          split
          · rename_i q
            rw [q]
            exact ha (by omega)
          · rename_i q
            exact v3 l hl q hne
      obtain ⟨V2, H2, w1, w2, w3, w4⟩ := hst
      rw [w4]
      unfold s_AdjoinedSetsModel_refute_140
      by_cases hY8 : 8 ≤ ly m
      · rw [if_pos (show 8 ≤ nI (my m) from nI_le (a := 8) (d1.mpr hY8) (by omega)), wI_200_1, ob_s]
        exact ⟨_, rfl, sz0 (MA_V (V' := gVs S) w1 (fun l hl => w3 l hl (by omega))), sC.tr w2 (sC_I (by decide))⟩
      · have hmy := d2 (by omega)
        rw [if_neg (show ¬ 8 ≤ nI (my m) from nI_ge (b := 8) (by omega) (by omega)), rR_200_2, ob_s, wA_202 (by omega), ob_s, wI_200_1, ob_s]
        refine ⟨_, rfl, sz0 (MA_V (V' := gVs S) (MA_uL w1) (fun l hl => ?_)), sC.tr w2 (sC.tr (sC_J (by decide)) (sC_I (by decide)))⟩
        unfold upR
        rw [hmy]
        split
        · rename_i q
          rw [q]
          exact hb (by omega)
        · rename_i q
          exact w3 l hl q
    have hgo : ∀ (a : Int64), (lx m < 8 → a = gVs S (lx m)) → ∃ H2, s_AdjoinedSetsModel_refute_74 200 (nI kk0) (nI m) (nI (lx m)) (nI (my m)) a (sw h4 0 P A B) = some (r, H2) ∧ MA (setB S e0) H2 ∧ sC (up2 H.1 100 2 0, H.2) H2 := by
      intro a ha
      unfold s_AdjoinedSetsModel_refute_74
      by_cases hY8 : 8 ≤ ly m
      · rw [if_pos (show 8 ≤ nI (my m) from nI_le (a := 8) (d1.mpr hY8) (by omega)), v4]
        exact hback a 0 ha (fun q => absurd q (by omega))
      · have hmy := d2 (by omega)
        rw [if_neg (show ¬ 8 ≤ nI (my m) from nI_ge (b := 8) (by omega) (by omega)), rR_200_2, ob_s, rA_202 (by omega), ob_s, v4]
        exact hback a _ ha (fun q => by rw [hmy]; exact m5.2.1 _ q)
    have hfin : ∃ H2, (if 8 ≤ nI (lx m) then s_AdjoinedSetsModel_refute_74 200 (nI kk0) (nI m) (nI (lx m)) (nI (my m)) 0 (sw h4 0 P A B) else (gR (sw h4 0 P A B) 200 9 2).bind fun v13 => (aL (sw h4 0 P A B) v13 2 (nI (lx m))).bind fun v15 => s_AdjoinedSetsModel_refute_74 200 (nI kk0) (nI m) (nI (lx m)) (nI (my m)) v15 (sw h4 0 P A B)) = some (r, H2) ∧ MA (setB S e0) H2 ∧ sC (up2 H.1 100 2 0, H.2) H2 := by
      by_cases hX8 : 8 ≤ lx m
      · rw [if_pos (show 8 ≤ nI (lx m) from nI_le (a := 8) hX8 (by omega))]
        exact hgo 0 (fun q => absurd q (by omega))
      · rw [if_neg (show ¬ 8 ≤ nI (lx m) from nI_ge (b := 8) (by omega) (by omega)), rR_200_2, ob_s, rA_202 (by omega), ob_s]
        exact hgo _ (fun q => m5.2.1 _ q)
    obtain ⟨H2, w1, w2, w3⟩ := hfin
    refine ⟨r, _, H2, setB S e0, k1, ?_, WF_e0 hw, CA_of w3 (WF_e0 hw) k2, w2⟩
    rw [if_neg hk1, if_pos hk8, rK_200, ob_s, show s_AdjoinedSetsModel_wrong 200 1 (-1) 0 (up2 H.1 100 2 0, H.2) = some (-1, h4) from f4, ob_s]
    dsimp only
    rw [if_neg (by decide), ob_s, show s_AdjoinedSetsModel_freeIn 200 0 h4 = some (y2, sw h4 0 P A B) from g3, ob_s, hyy]
    dsimp only
    rw [b1, ob_s, b2, ob_s]
    exact w1
