/-! The class's walk: formulas; and both together. -/
section
variable {S : SG} {h : HP}
theorem i_nn {x : Int32} (h1 : x < 0) : ¬ 0 ≤ x := by
  rw [Int32.lt_iff_toInt_lt] at h1
  rw [Int32.le_iff_toInt_le]
  omega
theorem c105 (gf : GT_Worker_broughtBy) (hh : HP) : s_Worker_compared_105 gf 0 hh = some (0, hh) ∧ s_Worker_compared_105 gf 1 hh = some (1, hh) ∧ s_Worker_compared_104 gf hh = some (0, hh) := ⟨rfl, rfl, rfl⟩
theorem c86 (gf : GT_Worker_broughtBy) (hh : HP) : s_Worker_quantified_86 gf 0 hh = some (0, hh) ∧ s_Worker_quantified_86 gf 1 hh = some (1, hh) := ⟨rfl, rfl⟩
theorem w_cmp {r g : Nat} (hG : ∀ g', g ≤ g' → CTr S h r g') (hr : r ≤ 31) {t : Nat} {x : TX} {d p q e row n : Nat} {a w : Nat → Int64} (ht : cT h t x) (hE : cE h t x) (he : e ≤ x.1) (hc2 : x.2.1 p = 60 ∨ x.2.1 p = 61) (hK1 : KD (gK S) x.2.1 x.2.2 d false (p + 1) q) (hK2 : KD (gK S) x.2.1 x.2.2 d false q e) (hrow : row + (r + 1) ≤ 32) (g1 : ∀ l, l < 8 → fv x.2.1 x.2.2 d (p + 1) l = true → w (8 * row + l) = a l) (g2 : ∀ l, l < 8 → fv x.2.1 x.2.2 d q l = true → w (8 * row + l) = a l) (ha : ∀ l, l < 8 → cd (a l)) (hn : n ≤ 3000) : ∃ (rr : Int32) (n' : Nat) (w' : Nat → Int64), s_Worker_compared (s_grp_Worker_broughtBy g) 5 t (nI p) (nI row) (nI (32 - r)) (cw h n w) = some (rr, cw h n' w') ∧ rs1 ((EV (gK S) (gBd S) r false x (p + 1) a n).bind fun s => (EV (gK S) (gBd S) r false x q a s.2).bind fun t => some (cpr (x.2.1 p) s.1 t.1, t.2)) (8 * (32 - r)) w rr.toInt64 n' w' := by
  have h60 := ht.1.2.2
  have a1 := KD_lt hK1
  have a2 := KD_lt hK2
  have b1 := KD_end hK1
  unfold s_Worker_compared
  obtain ⟨rr, n1, w1, e1, r1⟩ := (hG g (Nat.le_refl _)).1 t x d (p + 1) q row a n w ⟨ht, hE, hK1, by omega, by omega, g1, ha, hn⟩
  rw [rK_5, ob_s, nI_1, sup1 hr, e1, ob_s]
  dsimp only
  cases hV : EV (gK S) (gBd S) r false x (p + 1) a n with
  | none =>
    rw [hV] at r1
    rw [if_neg (lg_nn (m3_of r1))]
    exact ⟨-3, n1, w1, rfl, rfl⟩
  | some v =>
    rw [hV] at r1
    obtain ⟨k1, k2, k3⟩ := r1
    obtain ⟨hv1, hv2, hv3⟩ := EV_ok _ _ r _ _ _ _ _ v.1 v.2 ha hV
    rw [k1, k2, if_pos (lg_cd hv1), t_kd ht.1.1, ob_s, end_w ht hE (by omega), ob_s, b1, ob_s]
    obtain ⟨r2, n2, w2, e2, r2r⟩ := (hG g (Nat.le_refl _)).1 t x d q e row a v.2 w1 ⟨ht, hE, hK2, by omega, by omega, fun l hl hf => by rw [k3 _ (by omega)]; exact g2 l hl hf, ha, hv3⟩
    rw [e2]
    simp only [ob_s]
    cases hV2 : EV (gK S) (gBd S) r false x q a v.2 with
    | none =>
      rw [hV2] at r2r
      rw [if_neg (lg_nn (m3_of r2r))]
      exact ⟨-3, n2, w2, rfl, rfl⟩
    | some y =>
      rw [hV2] at r2r
      obtain ⟨l1, l2, l3⟩ := r2r
      obtain ⟨hy1, hy2, hy3⟩ := EV_ok _ _ r _ _ _ _ _ y.1 y.2 ha hV2
      have hkeep : ∀ j, j < 8 * (32 - r) → w2 j = w j := fun j hj => by rw [l3 j (by omega)]; exact k3 j (by omega)
      rw [l1, if_pos (lg_cd hy1), at_w ht (by omega)]
      simp only [ob_s]
      rcases hc2 with z | z
      · rw [z, if_neg (by decide : ¬ ((60 : Int32) = 61))]
        unfold cpr
        rw [if_neg (by decide : ¬ ((60 : Int32) = 61))]
        by_cases h62 : v.1 < 62
        · rw [if_neg (fun z => lt_nge h62 ((lg_cmp_ge _ _).mp z)), if_pos h62]
          obtain ⟨j, hj, hvj⟩ := cd_sm hv1 h62
          unfold s_AdjoinedSets_isMember
          rw [hvj, lN_i, bit64 y.1 hj]
          cases mb y.1 j with
          | true =>
            rw [if_pos rfl, if_neg (by decide), ob_s, if_neg (by decide), (c105 _ _).2.1]
            exact ⟨1, n2, w2, rfl, rfl, l2, hkeep⟩
          | false =>
            rw [if_neg (by decide : ¬ (false = true)), if_pos (by decide), ob_s, if_pos rfl, (c105 _ _).2.2]
            exact ⟨0, n2, w2, rfl, rfl, l2, hkeep⟩
        · rw [if_pos ((lg_cmp_ge _ _).mpr (nlt_ge h62)), if_neg h62, (c105 _ _).2.2]
          exact ⟨0, n2, w2, rfl, rfl, l2, hkeep⟩
      · rw [z, if_pos rfl]
        unfold cpr
        rw [if_pos rfl]
        by_cases heq : v.1 = y.1
        · rw [if_pos ((lg_cmp_eq _ _).mpr heq), if_pos heq, (c105 _ _).2.1]
          exact ⟨1, n2, w2, rfl, rfl, l2, hkeep⟩
        · rw [if_neg (fun z => heq ((lg_cmp_eq _ _).mp z)), if_neg heq, (c105 _ _).1]
          exact ⟨0, n2, w2, rfl, rfl, l2, hkeep⟩
theorem w_qua {r g : Nat} (hG : ∀ g', g ≤ g' → CTr S h r g') (hr : r ≤ 31) {t : Nat} {x : TX} {d p q e row n : Nat} {a w : Nat → Int64} (ht : cT h t x) (hE : cE h t x) (he : e ≤ x.1) (hc2 : x.2.1 p = 69 ∨ x.2.1 p = 76) (hL : 97 ≤ x.2.1 (p + 1) ∧ x.2.1 (p + 1) < 105) (hK1 : KD (gK S) x.2.1 x.2.2 d false (p + 2) q) (hK2 : KD (gK S) x.2.1 x.2.2 d true q e) (hrow : row + (r + 1) ≤ 32) (g1 : ∀ l, l < 8 → fv x.2.1 x.2.2 d (p + 2) l = true → w (8 * row + l) = a l) (g2 : ∀ l, l < 8 → fv x.2.1 x.2.2 d q l = true → l ≠ lwN (x.2.1 (p + 1)) → w (8 * row + l) = a l) (ha : ∀ l, l < 8 → cd (a l)) (hn : n ≤ 3000) : ∃ (rr : Int32) (n' : Nat) (w' : Nat → Int64), s_Worker_quantified (s_grp_Worker_broughtBy (g + 2)) 5 t (nI p) (nI row) (nI (32 - r)) (cw h n w) = some (rr, cw h n' w') ∧ rs1 ((EV (gK S) (gBd S) r false x (p + 2) a n).bind fun s => (ga (EV (gK S) (gBd S) r) x p a s.1 62 0 0 s.2).bind fun q => some (qn (x.2.1 p) s.1 q.1, q.2)) (8 * (32 - r)) w rr.toInt64 n' w' := by
  have h60 := ht.1.2.2
  have a1 := KD_lt hK1
  have a2 := KD_lt hK2
  have b1 := KD_end hK1
  have e2' : nI p + 2 = nI (p + 2) := by rw [show (2 : Int32) = nI 2 from rfl, nI_add]
  unfold s_Worker_quantified
  obtain ⟨rr, n1, w1, e1, r1⟩ := (hG (g + 2) (by omega)).1 t x d (p + 2) q row a n w ⟨ht, hE, hK1, by omega, by omega, g1, ha, hn⟩
  rw [rK_5, ob_s, e2', sup1 hr, e1, ob_s]
  dsimp only
  cases hV : EV (gK S) (gBd S) r false x (p + 2) a n with
  | none =>
    rw [hV] at r1
    rw [if_neg (lg_nn (m3_of r1))]
    exact ⟨-3, n1, w1, rfl, rfl⟩
  | some v =>
    rw [hV] at r1
    obtain ⟨k1, k2, k3⟩ := r1
    obtain ⟨hv1, hv2, hv3⟩ := EV_ok _ _ r _ _ _ _ _ v.1 v.2 ha hV
    have hKb : KD (gK S) x.2.1 x.2.2 d (if x.2.1 p = 73 then false else true) q e := by
      rw [if_neg (by rcases hc2 with z | z <;> rw [z] <;> decide)]
      exact hK2
    obtain ⟨r3', n3, w3, e3, r3r⟩ := w_gat (s := v.1) (row := row) (w := w1) (a := a) (n := v.2) (hG g (Nat.le_refl _)) hr ht hE (by omega) b1 he hKb (by omega) hL (fun l hl hf hne => by rw [k3 _ (by omega)]; exact g2 l hl hf hne) ha hv3
    rw [k1, k2, if_pos (lg_cd hv1), ob_s, e3]
    simp only [ob_s]
    cases hV2 : ga (EV (gK S) (gBd S) r) x p a v.1 62 0 0 v.2 with
    | none =>
      rw [hV2] at r3r
      rw [if_neg (lg_nn (m3_of r3r))]
      exact ⟨-3, n3, w3, rfl, rfl⟩
    | some y =>
      rw [hV2] at r3r
      obtain ⟨l1, l2, l3⟩ := r3r
      obtain ⟨hy1, hy2, hy3⟩ := ga_ok (EV_ok _ _ r) ha 62 0 0 v.2 y.1 y.2 (by decide) cd_0 hv3 hV2
      have hkeep : ∀ j, j < 8 * (32 - r) → w3 j = w j := fun j hj => by rw [l3 j (by omega)]; exact k3 j (by omega)
      rw [l1, if_pos (lg_cd hy1), t_kd ht.1.1, at_w ht (by omega)]
      simp only [ob_s]
      unfold qn
      rcases hc2 with z | z
      · rw [z, if_pos rfl, if_pos rfl]
        by_cases h0 : y.1 = 0
        · rw [if_pos ((lg_cmp_eq _ _).mpr h0), if_pos h0, (c86 _ _).1]
          exact ⟨0, n3, w3, rfl, rfl, l2, hkeep⟩
        · rw [if_neg (fun z => h0 ((lg_cmp_eq _ _).mp z)), if_neg h0, (c86 _ _).2]
          exact ⟨1, n3, w3, rfl, rfl, l2, hkeep⟩
      · rw [z, if_neg (by decide : ¬ ((76 : Int32) = 69)), if_neg (by decide : ¬ ((76 : Int32) = 69))]
        by_cases h0 : y.1 = v.1
        · rw [if_pos ((lg_cmp_eq _ _).mpr h0), if_pos h0, (c86 _ _).2]
          exact ⟨1, n3, w3, rfl, rfl, l2, hkeep⟩
        · rw [if_neg (fun z => h0 ((lg_cmp_eq _ _).mp z)), if_neg h0, (c86 _ _).1]
          exact ⟨0, n3, w3, rfl, rfl, l2, hkeep⟩
theorem w_con {r g : Nat} (hG : ∀ g', g ≤ g' → CTr S h r g') (hr : r ≤ 31) {t : Nat} {x : TX} {d p e row n : Nat} {a w : Nat → Int64} (ht : cT h t x) (hE : cE h t x) (he : e ≤ x.1) (hend : x.2.2 p = nI e) (hcase : (x.2.1 p = 33 ∧ KD (gK S) x.2.1 x.2.2 d true (p + 1) e) ∨ ((x.2.1 p = 94 ∨ x.2.1 p = 118 ∨ x.2.1 p = 62) ∧ ∃ q, KD (gK S) x.2.1 x.2.2 d true (p + 1) q ∧ KD (gK S) x.2.1 x.2.2 d true q e)) (hrow : row + (r + 1) ≤ 32) (hag : ∀ l, l < 8 → fv x.2.1 x.2.2 (d + 1) p l = true → w (8 * row + l) = a l) (ha : ∀ l, l < 8 → cd (a l)) (hn : n ≤ 3000) : ∃ (rr : Int32) (n' : Nat) (w' : Nat → Int64), s_Worker_connected (s_grp_Worker_broughtBy g) 5 t (nI p) (nI row) (nI (32 - r)) (cw h n w) = some (rr, cw h n' w') ∧ rs1 ((EV (gK S) (gBd S) r true x (p + 1) a n).bind fun f => if x.2.1 p = 33 then some (1 - f.1, f.2) else (EV (gK S) (gBd S) r true x (en x (p + 1)) a f.2).bind fun g => some (cn (x.2.1 p) f.1 g.1, g.2)) (8 * (32 - r)) w rr.toInt64 n' w' := by
  have h60 := ht.1.2.2
  have hq : ∃ q, KD (gK S) x.2.1 x.2.2 d true (p + 1) q ∧ q ≤ e := by
    rcases hcase with ⟨_, z⟩ | ⟨_, q, z, z2⟩
    · exact ⟨e, z, Nat.le_refl _⟩
    · exact ⟨q, z, Nat.le_of_lt (KD_lt z2)⟩
  obtain ⟨q, hK1, hqe⟩ := hq
  have a1 := KD_lt hK1
  have b1 := KD_end hK1
  have hcc : ¬ (97 ≤ x.2.1 p ∧ x.2.1 p < 105) ∧ ¬ (x.2.1 p = 123 ∨ x.2.1 p = 73 ∨ x.2.1 p = 69 ∨ x.2.1 p = 76) := by
    rcases hcase with ⟨z, _⟩ | ⟨z | z | z, _⟩ <;> rw [z] <;> decide
  unfold s_Worker_connected
  obtain ⟨rr, n1, w1, e1, r1⟩ := (hG g (Nat.le_refl _)).2 t x d (p + 1) q row a n w ⟨ht, hE, hK1, by omega, by omega, fun l hl8 hf => hag l hl8 (fv_p1 hcc.1 hcc.2 hend (by omega) (by omega) hf), ha, hn⟩
  rw [rK_5, ob_s, nI_1, sup1 hr, e1, ob_s]
  dsimp only
  cases hV : EV (gK S) (gBd S) r true x (p + 1) a n with
  | none =>
    rw [hV] at r1
    rw [if_neg (i_nn (i64_n (m3_of r1)))]
    exact ⟨-3, n1, w1, rfl, rfl⟩
  | some v =>
    rw [hV] at r1
    obtain ⟨k1, k2, k3⟩ := r1
    obtain ⟨hv1, hv2, hv3⟩ := EV_ok _ _ r _ _ _ _ _ v.1 v.2 ha hV
    have h01 : v.1 = 0 ∨ v.1 = 1 := hv1
    have hrr : (rr = 0 ∧ v.1 = 0) ∨ (rr = 1 ∧ v.1 = 1) := by
      rcases h01 with q0 | q0
      · exact Or.inl ⟨i64_e (y := 0) (by rw [k1, q0]; rfl), q0⟩
      · exact Or.inr ⟨i64_e (y := 1) (by rw [k1, q0]; rfl), q0⟩
    rw [k2, if_pos (by rcases hrr with z | z <;> rw [z.1] <;> decide), t_kd ht.1.1, at_w ht (by omega)]
    simp only [ob_s]
    by_cases h33 : x.2.1 p = 33
    · rw [if_pos h33, if_pos h33]
      refine ⟨1 - rr, v.2, w1, rfl, ?_, rfl, fun j hj => k3 j (by omega)⟩
      rcases hrr with z | z <;> rw [z.1, z.2] <;> rfl
    · rw [if_neg h33, if_neg h33]
      obtain ⟨hc3, q', hK1', hK2⟩ : (x.2.1 p = 94 ∨ x.2.1 p = 118 ∨ x.2.1 p = 62) ∧ ∃ q, KD (gK S) x.2.1 x.2.2 d true (p + 1) q ∧ KD (gK S) x.2.1 x.2.2 d true q e := by
        rcases hcase with ⟨z, _⟩ | z
        · exact absurd z h33
        · exact z
      have b1' := KD_end hK1'
      have a1' := KD_lt hK1'
      have a2 := KD_lt hK2
      rw [end_w ht hE (by omega)]
      simp only [ob_s]
      rw [b1', show en x (p + 1) = q' from nI_cl b1' (by omega)]
      obtain ⟨r2, n2, w2, e2, r2r⟩ := (hG g (Nat.le_refl _)).2 t x d q' e row a v.2 w1 ⟨ht, hE, hK2, by omega, by omega, fun l hl hf => by rw [k3 _ (by omega)]; exact hag l hl (fv_p2 hcc.1 hcc.2 hend (by omega) (by omega) b1' (by omega) hf), ha, hv3⟩
      rw [e2]
      simp only [ob_s]
      cases hV2 : EV (gK S) (gBd S) r true x q' a v.2 with
      | none =>
        rw [hV2] at r2r
        rw [if_neg (i_nn (i64_n (m3_of r2r)))]
        exact ⟨-3, n2, w2, rfl, rfl⟩
      | some y =>
        rw [hV2] at r2r
        obtain ⟨l1, l2, l3⟩ := r2r
        obtain ⟨hy1, hy2, hy3⟩ := EV_ok _ _ r _ _ _ _ _ y.1 y.2 ha hV2
        have h01' : y.1 = 0 ∨ y.1 = 1 := hy1
        have hrr2 : (r2 = 0 ∧ y.1 = 0) ∨ (r2 = 1 ∧ y.1 = 1) := by
          rcases h01' with q0 | q0
          · exact Or.inl ⟨i64_e (y := 0) (by rw [l1, q0]; rfl), q0⟩
          · exact Or.inr ⟨i64_e (y := 1) (by rw [l1, q0]; rfl), q0⟩
        have hkeep : ∀ j, j < 8 * (32 - r) → w2 j = w j := fun j hj => by rw [l3 j (by omega)]; exact k3 j (by omega)
        rw [if_pos (by rcases hrr2 with z | z <;> rw [z.1] <;> decide), at_w ht (by omega)]
        simp only [ob_s]
        unfold cn
        rcases hc3 with z | z | z
        · rw [z, if_pos rfl, if_pos rfl]
          refine ⟨_, n2, w2, rfl, ?_, l2, hkeep⟩
          rcases hrr with y1 | y1 <;> rcases hrr2 with y2 | y2 <;> rw [y1.1, y1.2, y2.1, y2.2] <;> rfl
        · rw [z, if_neg (by decide : ¬ ((118 : Int32) = 94)), if_neg (by decide : ¬ ((118 : Int32) = 94)), if_pos rfl, if_pos rfl]
          refine ⟨_, n2, w2, rfl, ?_, l2, hkeep⟩
          rcases hrr with y1 | y1 <;> rcases hrr2 with y2 | y2 <;> rw [y1.1, y1.2, y2.1, y2.2] <;> rfl
        · rw [z, if_neg (by decide : ¬ ((62 : Int32) = 94)), if_neg (by decide : ¬ ((62 : Int32) = 94)), if_neg (by decide : ¬ ((62 : Int32) = 118)), if_neg (by decide : ¬ ((62 : Int32) = 118))]
          refine ⟨_, n2, w2, rfl, ?_, l2, hkeep⟩
          rcases hrr with y1 | y1 <;> rcases hrr2 with y2 | y2 <;> rw [y1.1, y1.2, y2.1, y2.2] <;> rfl
theorem w_form {r g : Nat} (hG : ∀ g', g ≤ g' → CTr S h r g') (hr : r ≤ 31) : ∀ t x d p e row a n w, HY S h (r + 1) true t x d p e row a n w → ∃ (rr : Int32) (n' : Nat) (w' : Nat → Int64), s_Worker_formula (s_grp_Worker_broughtBy (g + 3)) 5 t (nI p) (nI row) (nI (33 - (r + 1))) (cw h n w) = some (rr, cw h n' w') ∧ rs1 (EV (gK S) (gBd S) (r + 1) true x p a n) (8 * (33 - (r + 1))) w rr.toInt64 n' w' := by
  intro t x d p e row a n w hy
  obtain ⟨ht, hE, hK, he, hrow, hag, ha, hn⟩ := hy
  have h60 := ht.1.2.2
  cases d with
  | zero => exact absurd hK (fun z => z)
  | succ d =>
  obtain ⟨hend, hpe, hcase⟩ := hK
  rw [show 33 - (r + 1) = 32 - r by omega]
  unfold s_Worker_formula
  rw [rK_5, ob_s]
  by_cases hn3 : n = 3000
  · subst hn3
    rw [pay_n (by omega), ob_s]
    dsimp only
    rw [if_pos rfl]
    exact ⟨-3, 3000, w, rfl, rs1_n ev_m⟩
  rw [pay_y (by omega) (by omega), ob_s, ev_s (by omega)]
  dsimp only
  rw [if_neg (by decide), t_kd ht.1.1, ob_s, at_w ht (by omega), ob_s]
  have hnx : n + 1 ≤ 3000 := by omega
  rcases hcase with ⟨hc2, q, hK1, hK2⟩ | hcon | hcon | ⟨hc2, hL, q, hK1, hK2⟩
  · have hcc : ¬ (97 ≤ x.2.1 p ∧ x.2.1 p < 105) ∧ ¬ (x.2.1 p = 123 ∨ x.2.1 p = 73 ∨ x.2.1 p = 69 ∨ x.2.1 p = 76) := by
      rcases hc2 with z | z <;> rw [z] <;> decide
    have a1 := KD_lt hK1
    have a2 := KD_lt hK2
    have b1 := KD_end hK1
    obtain ⟨g1, g2⟩ := ag_two hcc.1 hcc.2 hend (by omega) b1 a1 a2 hag
    have hfin : ∃ (rr : Int32) (n' : Nat) (w' : Nat → Int64), s_Worker_formula_60 (s_grp_Worker_broughtBy (g + 3)) 5 t (nI p) (nI row) (nI (32 - r)) (cw h (n + 1) w) = some (rr, cw h n' w') ∧ rs1 (EB (gK S) (gBd S) (EV (gK S) (gBd S) r) true x p a (n + 1)) (8 * (32 - r)) w rr.toInt64 n' w' := by
      unfold s_Worker_formula_60
      rw [rK_5, ob_s, b_eta]
      show ∃ (rr : Int32) (n' : Nat) (w' : Nat → Int64), s_Worker_compared (s_grp_Worker_broughtBy (g + 2)) 5 t (nI p) (nI row) (nI (32 - r)) (cw h (n + 1) w) = some (rr, cw h n' w') ∧ _
      unfold EB
      dsimp only
      rw [if_pos hc2, show en x (p + 1) = q from nI_cl b1 (by omega)]
      exact w_cmp (fun g' hg => hG g' (by omega)) hr ht hE he hc2 hK1 hK2 hrow g1 g2 ha hnx
    rcases hc2 with z | z
    · rw [if_pos z]
      exact hfin
    · rw [if_neg (by rw [z]; decide), if_pos z]
      exact hfin
  rotate_left
  rotate_left
  · have hL' : 97 ≤ x.2.1 (p + 1) ∧ x.2.1 (p + 1) < 105 := hL
    have d8 : x.2.1 p = 123 ∨ x.2.1 p = 73 ∨ x.2.1 p = 69 ∨ x.2.1 p = 76 := by
      rcases hc2 with z | z
      · exact Or.inr (Or.inr (Or.inl z))
      · exact Or.inr (Or.inr (Or.inr z))
    have a1 := KD_lt hK1
    have a2 := KD_lt hK2
    have b1 := KD_end hK1
    have hfin : ∃ (rr : Int32) (n' : Nat) (w' : Nat → Int64), s_Worker_formula_70 (s_grp_Worker_broughtBy (g + 3)) 5 t (nI p) (nI row) (nI (32 - r)) (cw h (n + 1) w) = some (rr, cw h n' w') ∧ rs1 (EB (gK S) (gBd S) (EV (gK S) (gBd S) r) true x p a (n + 1)) (8 * (32 - r)) w rr.toInt64 n' w' := by
      unfold s_Worker_formula_70
      rw [rK_5, ob_s, b_eta]
      show ∃ (rr : Int32) (n' : Nat) (w' : Nat → Int64), s_Worker_quantified (s_grp_Worker_broughtBy (g + 2)) 5 t (nI p) (nI row) (nI (32 - r)) (cw h (n + 1) w) = some (rr, cw h n' w') ∧ _
      unfold EB
      dsimp only
      rw [if_neg (by rcases hc2 with z | z <;> rw [z] <;> decide), if_pos hc2]
      exact w_qua hG hr ht hE he hc2 hL' hK1 hK2 hrow (fun l hl8 hf => hag l hl8 (fv_b1 d8 hend (by omega) (by omega) hf)) (fun l hl8 hf hne => hag l hl8 (fv_b2 d8 hend (by omega) (by omega) b1 a2 hne hf)) ha hnx
    rcases hc2 with z | z
    · rw [if_neg (by rw [z]; decide), if_neg (by rw [z]; decide), if_pos z]
      exact hfin
    · rw [if_neg (by rw [z]; decide), if_neg (by rw [z]; decide), if_neg (by rw [z]; decide), if_pos z]
      exact hfin
  all_goals
    have hcc : ¬ x.2.1 p = 60 ∧ ¬ x.2.1 p = 61 ∧ ¬ x.2.1 p = 69 ∧ ¬ x.2.1 p = 76 := by
      first
        | (rw [hcon.1]; decide)
        | (rcases hcon.1 with z | z | z <;> rw [z] <;> decide)
    rw [if_neg hcc.1, if_neg hcc.2.1, if_neg hcc.2.2.1, if_neg hcc.2.2.2, ob_s, b_eta]
    show ∃ (rr : Int32) (n' : Nat) (w' : Nat → Int64), s_Worker_connected (s_grp_Worker_broughtBy (g + 2)) 5 t (nI p) (nI row) (nI (32 - r)) (cw h (n + 1) w) = some (rr, cw h n' w') ∧ _
    unfold EB
    dsimp only
    rw [if_neg (by rintro (z | z); exact hcc.1 z; exact hcc.2.1 z), if_neg (by rintro (z | z); exact hcc.2.2.1 z; exact hcc.2.2.2 z)]
    exact w_con (fun g' hg => hG g' (by omega)) hr ht hE he hend (by first | exact Or.inl hcon | exact Or.inr hcon) hrow hag ha hnx
/-- the class's Worker works out EV -/
theorem c_work (hw : WF S) (hc : CA S h) : ∀ r, r ≤ 32 → ∀ g, 4 * r + 1 ≤ g → CTr S h r g := by
  intro r
  induction r with
  | zero =>
    intro _ g hg
    obtain ⟨g, rfl⟩ : ∃ g0, g = g0 + 1 := ⟨g - 1, by omega⟩
    constructor
    · intro t x d p e row a n w hy
      show ∃ rr n' w', s_Worker_term (s_grp_Worker_broughtBy g) 5 t (nI p) (nI row) (nI 33) (cw h n w) = some (rr, cw h n' w') ∧ _
      unfold s_Worker_term
      rw [rK_5, ob_s, pay_d, ob_s]
      dsimp only
      rw [if_pos rfl]
      exact ⟨-3, n, w, rfl, rfl⟩
    · intro t x d p e row a n w hy
      show ∃ (rr : Int32) (n' : Nat) (w' : Nat → Int64), s_Worker_formula (s_grp_Worker_broughtBy g) 5 t (nI p) (nI row) (nI 33) (cw h n w) = some (rr, cw h n' w') ∧ _
      unfold s_Worker_formula
      rw [rK_5, ob_s, pay_d, ob_s]
      dsimp only
      rw [if_pos rfl]
      exact ⟨-3, n, w, rfl, rfl⟩
  | succ r ih =>
    intro hr g hg
    obtain ⟨g, rfl⟩ : ∃ g0, g = g0 + 4 := ⟨g - 4, by omega⟩
    constructor
    · exact w_term (g := g + 1) hw hc (fun g' hg' => ih (by omega) g' (by omega)) (by omega)
    · exact w_form (g := g) (fun g' hg' => ih (by omega) g' (by omega)) (by omega)
end
