/-! The class's walk: terms. -/
section
variable {S : SG} {h : HP}
theorem lt_nge {x y : Int64} (h1 : x < y) : ¬ y ≤ x := by
  rw [Int64.lt_iff_toInt_lt] at h1
  rw [Int64.le_iff_toInt_le]
  omega
theorem nlt_ge {x y : Int64} (h1 : ¬ x < y) : y ≤ x := by
  rw [Int64.lt_iff_toInt_lt] at h1
  rw [Int64.le_iff_toInt_le]
  omega
theorem ev_s {K : Nat → Nat} {Bd : Nat → TX} {r : Nat} {b : Bool} {x : TX} {p n : Nat} {a : Nat → Int64} (hn : n < 3000) : EV K Bd (r + 1) b x p a n = EB K Bd (EV K Bd r) b x p a (n + 1) := by
  show (if 3000 ≤ n then none else _) = _
  rw [if_neg (by omega)]
theorem ev_m {K : Nat → Nat} {Bd : Nat → TX} {r : Nat} {b : Bool} {x : TX} {p : Nat} {a : Nat → Int64} : EV K Bd r b x p a 3000 = none := by
  cases r with
  | zero => rfl
  | succ r =>
    show (if 3000 ≤ 3000 then none else EB K Bd (EV K Bd r) b x p a (3000 + 1)) = none
    exact if_pos (Nat.le_refl _)
theorem rs1_n {o : Option (Int64 × Nat)} {J n : Nat} {w w' : Nat → Int64} (ho : o = none) : rs1 o J w (-3) n w' := by
  rw [ho]
  exact rfl
theorem jn_eq (c : Int32) (s t : Int64) (ht : cd t) : ∃ rr, s_Worker_joined c s t = some rr ∧ match jn c s t with
    | none => rr = -3
    | some v => rr = v := by
  unfold s_Worker_joined jn
  rw [if_pos (lg_cd ht)]
  by_cases h1 : c = 38
  · rw [if_pos h1, if_pos h1]; exact ⟨_, rfl, rfl⟩
  rw [if_neg h1, if_neg h1]
  by_cases h2 : c = 43
  · rw [if_pos h2, if_pos h2]
    by_cases h3 : t < 62
    · rw [if_neg (fun z => lt_nge h3 ((lg_cmp_ge _ _).mp z)), if_pos h3]; exact ⟨_, rfl, rfl⟩
    · rw [if_pos ((lg_cmp_ge _ _).mpr (nlt_ge h3)), if_neg h3]; exact ⟨_, rfl, rfl⟩
  rw [if_neg h2, if_neg h2]
  by_cases h3 : c = 124
  · rw [if_pos h3]; exact ⟨_, rfl, rfl⟩
  rw [if_neg h3]
  exact ⟨_, rfl, rfl⟩
theorem jn_neg (c : Int32) (s t : Int64) (ht : t < 0) : s_Worker_joined c s t = some (-3) := by
  unfold s_Worker_joined
  rw [if_neg (lg_nn ht)]
theorem fp_0 {t n p : Nat} {x : TX} {w : Nat → Int64} (hc : cT h t x) (hp : p < x.1) (hb : s_AdjoinedSets_isBinder (x.2.1 p) = some 0) : s_Text_firstPartOf t (nI p) (cw h n w) = some (nI (p + 1)) := by
  unfold s_Text_firstPartOf
  rw [t_kd hc.1.1, ob_s, at_w hc hp, ob_s, hb, ob_s, if_pos rfl, nI_1]
theorem fp_1 {t n p : Nat} {x : TX} {w : Nat → Int64} (hc : cT h t x) (hp : p < x.1) (hb : s_AdjoinedSets_isBinder (x.2.1 p) = some 1) : s_Text_firstPartOf t (nI p) (cw h n w) = some (nI (p + 2)) := by
  unfold s_Text_firstPartOf
  rw [t_kd hc.1.1, ob_s, at_w hc hp, ob_s, hb, ob_s, if_neg (by decide), show (2 : Int32) = nI 2 from rfl, nI_add]
theorem w_gat {r g : Nat} (hG : CTr S h r g) (hr : r ≤ 31) {t : Nat} {x : TX} {d p q e row n : Nat} {a w : Nat → Int64} {s : Int64} (ht : cT h t x) (hE : cE h t x) (hp : p + 2 < x.1) (hq : x.2.2 (p + 2) = nI q) (he : e ≤ x.1) (hK : KD (gK S) x.2.1 x.2.2 d (if x.2.1 p = 73 then false else true) q e) (hrow : row + r ≤ 31) (hL : 97 ≤ x.2.1 (p + 1) ∧ x.2.1 (p + 1) < 105) (hag : ∀ l, l < 8 → fv x.2.1 x.2.2 d q l = true → l ≠ lwN (x.2.1 (p + 1)) → w (8 * row + l) = a l) (ha : ∀ l, l < 8 → cd (a l)) (hn : n ≤ 3000) : ∃ rr n' w', (s_grp_Worker_broughtBy (g + 2)).2.2.2.2.1 5 t (nI p) s (nI row) (nI (32 - r)) (cw h n w) = some (rr, cw h n' w') ∧ rs1 (ga (EV (gK S) (gBd S) r) x p a s 62 0 0 n) (8 * (32 - r)) w rr n' w' := by
  show ∃ rr n' w', s_Worker_gathered (s_grp_Worker_broughtBy (g + 1)) 5 t (nI p) s (nI row) (nI (32 - r)) (cw h n w) = some (rr, cw h n' w') ∧ _
  unfold s_Worker_gathered s_Worker_letterBoundAt
  have h60 := ht.1.2.2
  have e8 : nI row * 8 + (x.2.1 (p + 1) - 97) = nI (8 * row + lwN (x.2.1 (p + 1))) := by
    rw [(lw_n hL).1, show (8 : Int32) = nI 8 from rfl, pk_mul, nI_add, Nat.mul_comm]
  have hl8 := (lw_n hL).2
  rw [t_kd ht.1.1, ob_s, nI_1, at_w ht (by omega), ob_s, s_let, if_pos hL, ob_s, if_neg (by decide), e8, ob_s, rR_5_1, ob_s, rA_10 (by omega), ob_s, cw_J]
  exact w_ga hG hr ht hE hp hq he hK hrow hl8 hag ha 62 0 20000 n 0 w rfl (by omega) hn cd_0 (fun _ _ _ => rfl)
theorem its_le {k : Nat → Nat} {t E : Nat → Int32} {d : Nat} {b : Bool} {i q e : Nat} (hi : its (KD k t E d b) i q e) : q ≤ e := (its_congr (R := KD k t E d b) (R' := KD k t E d b) (E := E) (E' := E) (fun _ _ _ z => z) (fun _ _ z => Nat.le_of_lt (KD_lt z)) i q e (fun _ _ _ => rfl) hi).2
theorem KD_end {k : Nat → Nat} {t E : Nat → Int32} {d : Nat} {b : Bool} {p e : Nat} (hK : KD k t E d b p e) : E p = nI e := by
  cases d with
  | zero => exact absurd hK (fun z => z)
  | succ d => exact hK.1
/-- two parts behind a character: the letters of both are known -/
theorem ag_two {x : TX} {d p q e row : Nat} {a w : Nat → Int64} (hl : ¬ (97 ≤ x.2.1 p ∧ x.2.1 p < 105)) (hb : ¬ (x.2.1 p = 123 ∨ x.2.1 p = 73 ∨ x.2.1 p = 69 ∨ x.2.1 p = 76)) (he : x.2.2 p = nI e) (h60 : e ≤ 60) (hq : x.2.2 (p + 1) = nI q) (hpq : p + 1 < q) (hqe : q < e) (hag : ∀ l, l < 8 → fv x.2.1 x.2.2 (d + 1) p l = true → w (8 * row + l) = a l) : (∀ l, l < 8 → fv x.2.1 x.2.2 d (p + 1) l = true → w (8 * row + l) = a l) ∧ (∀ l, l < 8 → fv x.2.1 x.2.2 d q l = true → w (8 * row + l) = a l) := ⟨fun l hl8 hf => hag l hl8 (fv_p1 hl hb he h60 (by omega) hf), fun l hl8 hf => hag l hl8 (fv_p2 hl hb he h60 (by omega) hq hqe hf)⟩
theorem ag_fun {x : TX} {d p e row : Nat} {a w : Nat → Int64} {k : Nat → Nat} (hl : ¬ (97 ≤ x.2.1 p ∧ x.2.1 p < 105)) (hb : ¬ (x.2.1 p = 123 ∨ x.2.1 p = 73 ∨ x.2.1 p = 69 ∨ x.2.1 p = 76)) (he : x.2.2 p = nI e) (h60 : e ≤ 60) {m : Nat} (hm : m ≤ 3) (hi : its (KD k x.2.1 x.2.2 d false) m (p + 1) e) (hag : ∀ l, l < 8 → fv x.2.1 x.2.2 (d + 1) p l = true → w (8 * row + l) = a l) : agr x d row w a m (p + 1) := by
  obtain rfl | rfl | rfl | rfl : m = 0 ∨ m = 1 ∨ m = 2 ∨ m = 3 := by omega
  · trivial
  · obtain ⟨q, h1, h2⟩ := hi
    have h2 : q = e := h2
    have a1 := KD_lt h1
    exact ⟨fun l hl8 hf => hag l hl8 (fv_p1 hl hb he h60 (by omega) hf), trivial⟩
  · obtain ⟨q, h1, q2, h2, h3⟩ := hi
    have h3 : q2 = e := h3
    have a1 := KD_lt h1
    have a2 := KD_lt h2
    have b1 := KD_end h1
    refine ⟨fun l hl8 hf => hag l hl8 (fv_p1 hl hb he h60 (by omega) hf), ?_, trivial⟩
    rw [show en x (p + 1) = q from nI_cl b1 (by omega)]
    exact fun l hl8 hf => hag l hl8 (fv_p2 hl hb he h60 (by omega) b1 (by omega) hf)
  · obtain ⟨q, h1, q2, h2, q3, h3, h4⟩ := hi
    have h4 : q3 = e := h4
    have a1 := KD_lt h1
    have a2 := KD_lt h2
    have a3 := KD_lt h3
    have b1 := KD_end h1
    have b2 := KD_end h2
    refine ⟨fun l hl8 hf => hag l hl8 (fv_p1 hl hb he h60 (by omega) hf), ?_, ?_, trivial⟩
    · rw [show en x (p + 1) = q from nI_cl b1 (by omega)]
      exact fun l hl8 hf => hag l hl8 (fv_p2 hl hb he h60 (by omega) b1 (by omega) hf)
    · rw [show en x (p + 1) = q from nI_cl b1 (by omega), show en x q = q2 from nI_cl b2 (by omega)]
      exact fun l hl8 hf => hag l hl8 (fv_p3 hl hb he h60 (by omega) b1 (by omega) b2 (by omega) hf)
theorem w_term (hw : WF S) (hc : CA S h) {r g : Nat} (hG : ∀ g', g ≤ g' → CTr S h r g') (hr : r ≤ 31) : ∀ t x d p e row a n w, HY S h (r + 1) false t x d p e row a n w → ∃ rr n' w', s_Worker_term (s_grp_Worker_broughtBy (g + 2)) 5 t (nI p) (nI row) (nI (33 - (r + 1))) (cw h n w) = some (rr, cw h n' w') ∧ rs1 (EV (gK S) (gBd S) (r + 1) false x p a n) (8 * (33 - (r + 1))) w rr n' w' := by
  intro t x d p e row a n w hy
  obtain ⟨ht, hE, hK, he, hrow, hag, ha, hn⟩ := hy
  have h60 := ht.1.2.2
  cases d with
  | zero => exact absurd hK (fun z => z)
  | succ d =>
  obtain ⟨hend, hpe, hcase⟩ := hK
  rw [show 33 - (r + 1) = 32 - r by omega]
  unfold s_Worker_term
  rw [rK_5, ob_s]
  by_cases hn3 : n = 3000
  · subst hn3
    rw [pay_n (by omega), ob_s]
    dsimp only
    rw [if_pos rfl]
    exact ⟨-3, 3000, w, rfl, rs1_n ev_m⟩
  rw [pay_y (by omega) (by omega), ob_s, ev_s (by omega)]
  dsimp only
  rw [if_neg (by decide), t_kd ht.1.1, ob_s, at_w ht (by omega), ob_s]
  have hnx : n + 1 ≤ 3000 := by omega
  -- a character that is no digit, letter or function, with a first part
  have hfirst : ∀ (c : Int32), x.2.1 p = c → s_AdjoinedSets_isDigit c = some 0 → s_AdjoinedSets_isLetter c = some 0 → s_AdjoinedSets_isFunction c = some 0 → True := fun _ _ _ _ _ => trivial
  have hsup := sup1 hr
  rcases hcase with ⟨hd, rfl⟩ | ⟨hl, rfl⟩ | ⟨hf, hk0, hi⟩ | ⟨hc4, q, hK1, hK2⟩ | ⟨hc3, hK1⟩ | ⟨hc1, hL, q, hK1, hK2⟩ | ⟨hc1, hL, q, hK1, hK2⟩
  · rw [s_dig, if_pos hd, ob_s, if_neg (by decide)]
    unfold EB
    dsimp only
    rw [if_pos hd]
    exact ⟨_, n + 1, w, rfl, rfl, rfl, fun _ _ => rfl⟩
  · have hl' : 97 ≤ x.2.1 p ∧ x.2.1 p < 105 := hl
    have hnd : ¬ (48 ≤ x.2.1 p ∧ x.2.1 p ≤ 57) := by
      obtain ⟨j, h1, h2, h3⟩ := lw_q hl'
      rw [h3]
      intro z
      have := (nI_leI (a := j) (b := 57) (by omega) (by decide)).mp z.2
      omega
    have e8 : nI row * 8 + x.2.1 p - 97 = nI (8 * row + lwN (x.2.1 p)) := by
      have : nI row * 8 + x.2.1 p - 97 = nI row * 8 + (x.2.1 p - 97) := by
        rw [Int32.sub_eq_add_neg, Int32.sub_eq_add_neg, Int32.add_assoc]
      rw [this, (lw_n hl').1, show (8 : Int32) = nI 8 from rfl, pk_mul, nI_add, Nat.mul_comm]
    have h8 := (lw_n hl').2
    rw [s_dig, if_neg hnd, ob_s, if_pos rfl, s_let, if_pos hl', ob_s, if_neg (by decide), rR_5_1, ob_s, e8, rA_10 (by omega), ob_s, cw_J]
    unfold EB
    dsimp only
    rw [if_neg hnd, if_pos hl']
    refine ⟨_, n + 1, w, rfl, ?_, rfl, fun _ _ => rfl⟩
    apply hag _ h8
    unfold fv
    rw [if_pos hl']
    simp
  · have hf' : 65 ≤ x.2.1 p ∧ x.2.1 p < 69 := hf
    have hfn := fn_n hf'
    have hd0 : ∀ j, j < 4 → s_AdjoinedSets_isDigit (nI (65 + j)) = some 0 ∧ s_AdjoinedSets_isLetter (nI (65 + j)) = some 0 ∧ s_AdjoinedSets_isFunction (nI (65 + j)) = some 1 ∧ ¬ (48 ≤ nI (65 + j) ∧ nI (65 + j) ≤ 57) ∧ ¬ (97 ≤ nI (65 + j) ∧ nI (65 + j) < 105) ∧ ¬ (nI (65 + j) = 123 ∨ nI (65 + j) = 73 ∨ nI (65 + j) = 69 ∨ nI (65 + j) = 76) := by decide
    have hj : x.2.1 p = nI (65 + fnN (x.2.1 p)) := by
      rw [← nI_add, ← hfn.1]
      show x.2.1 p = 65 + (x.2.1 p - 65)
      rw [Int32.add_comm, Int32.sub_add_cancel]
    obtain ⟨d1, d2, d3, d4, d5, d6⟩ := hd0 _ hfn.2
    rw [← hj] at d1 d2 d3 d4 d5 d6
    rw [d1, ob_s, if_pos rfl, d2, ob_s, if_pos rfl, d3, ob_s, if_neg (by decide), ob_s]
    show ∃ rr n' w', ((s_Worker_given (s_grp_Worker_broughtBy (g + 1)) 5 t (nI p) (nI row) (nI (32 - r)) (cw h (n + 1) w)).bind fun q34 => some (q34.1, q34.2)) = some (rr, cw h n' w') ∧ _
    rw [b_eta]
    unfold s_Worker_given
    rw [rR_5_0, ob_s, t_kd ht.1.1, ob_s, at_w ht (by omega), ob_s, hfn.1, rA_2 hfn.2, ob_s, nI_1, Nat.one_mul]
    unfold EB
    dsimp only
    rw [if_neg d4, if_neg d5, if_pos hf']
    have hk3 := (hw.2.2.1 _ hfn.2).1
    exact w_gv hw hc (hG (g + 1) (by omega)) hr ht hE (by omega) hfn.2 hk0 ha (gK S (fnN (x.2.1 p))) 0 (p + 1) e 20000 (n + 1) (fun _ => 0) w (by omega) (by omega) hnx he hi (ag_fun d5 d6 hend (by omega) hk3 hi hag) (fun _ => cd_0) (fun _ _ => rfl) (fun _ z => absurd z (by omega))
  · have hcc : s_AdjoinedSets_isDigit (x.2.1 p) = some 0 ∧ s_AdjoinedSets_isLetter (x.2.1 p) = some 0 ∧ s_AdjoinedSets_isFunction (x.2.1 p) = some 0 ∧ s_AdjoinedSets_isBinder (x.2.1 p) = some 0 ∧ ¬ (48 ≤ x.2.1 p ∧ x.2.1 p ≤ 57) ∧ ¬ (97 ≤ x.2.1 p ∧ x.2.1 p < 105) ∧ ¬ (65 ≤ x.2.1 p ∧ x.2.1 p < 69) ∧ ¬ (x.2.1 p = 123 ∨ x.2.1 p = 73 ∨ x.2.1 p = 69 ∨ x.2.1 p = 76) ∧ ¬ x.2.1 p = 73 ∧ ¬ x.2.1 p = 80 ∧ ¬ x.2.1 p = 84 ∧ ¬ x.2.1 p = 85 ∧ ¬ x.2.1 p = 123 := by
      rcases hc4 with z | z | z | z <;> rw [z] <;> decide
    obtain ⟨d1, d2, d3, d4, d5, d6, d7, d8, f1, f2, f3, f4, f5⟩ := hcc
    have a1 := KD_lt hK1
    have a2 := KD_lt hK2
    have b1 := KD_end hK1
    obtain ⟨g1, g2⟩ := ag_two d6 d8 hend (by omega) b1 a1 a2 hag
    rw [d1, ob_s, if_pos rfl, d2, ob_s, if_pos rfl, d3, ob_s, if_pos rfl, ob_s, fp_0 ht (by omega) d4, ob_s, ob_s, hsup]
    unfold EB
    dsimp only
    rw [if_neg d5, if_neg d6, if_neg d7, if_neg (by rintro (z | z); exact f1 z; exact f5 z), if_neg (by rintro (z | z | z); exact f2 z; exact f3 z; exact f4 z)]
    obtain ⟨rr, n1, w1, e1, r1⟩ := (hG (g + 2) (by omega)).1 t x d (p + 1) q row a (n + 1) w ⟨ht, hE, hK1, by omega, by omega, g1, ha, hnx⟩
    rw [e1, ob_s]
    dsimp only
    cases hV : EV (gK S) (gBd S) r false x (p + 1) a (n + 1) with
    | none =>
      rw [hV] at r1
      rw [if_neg (lg_nn (m3_of r1))]
      exact ⟨-3, n1, w1, rfl, rfl⟩
    | some v =>
      rw [hV] at r1
      obtain ⟨k1, k2, k3⟩ := r1
      obtain ⟨hv1, hv2, hv3⟩ := EV_ok _ _ r _ _ _ _ _ v.1 v.2 ha hV
      rw [k1, k2, if_pos (lg_cd hv1), if_neg f1, if_neg f2, if_neg f3, if_neg f4, if_neg f5, end_w ht hE (by omega), ob_s, b1, ob_s, show en x (p + 1) = q from nI_cl b1 (by omega)]
      obtain ⟨r2, n2, w2, e2, r2r⟩ := (hG (g + 2) (by omega)).1 t x d q e row a v.2 w1 ⟨ht, hE, hK2, by omega, by omega, fun l hl hf => by rw [k3 _ (by omega)]; exact g2 l hl hf, ha, hv3⟩
      rw [e2]
      simp only [ob_s]
      cases hV2 : EV (gK S) (gBd S) r false x q a v.2 with
      | none =>
        rw [hV2] at r2r
        rw [jn_neg _ _ _ (m3_of r2r)]
        exact ⟨-3, n2, w2, rfl, rfl⟩
      | some y =>
        rw [hV2] at r2r
        obtain ⟨l1, l2, l3⟩ := r2r
        obtain ⟨hy1, hy2, hy3⟩ := EV_ok _ _ r _ _ _ _ _ y.1 y.2 ha hV2
        obtain ⟨ry, ey, my⟩ := jn_eq (x.2.1 p) v.1 y.1 hy1
        rw [l1, ey]
        simp only [ob_s]
        refine ⟨ry, n2, w2, rfl, ?_⟩
        cases hJ : jn (x.2.1 p) v.1 y.1 with
        | none => rw [hJ] at my; exact my
        | some u =>
          rw [hJ] at my
          exact ⟨my, l2, fun j hj => by rw [l3 j (by omega)]; exact k3 j (by omega)⟩
  · have hcc : s_AdjoinedSets_isDigit (x.2.1 p) = some 0 ∧ s_AdjoinedSets_isLetter (x.2.1 p) = some 0 ∧ s_AdjoinedSets_isFunction (x.2.1 p) = some 0 ∧ s_AdjoinedSets_isBinder (x.2.1 p) = some 0 ∧ ¬ (48 ≤ x.2.1 p ∧ x.2.1 p ≤ 57) ∧ ¬ (97 ≤ x.2.1 p ∧ x.2.1 p < 105) ∧ ¬ (65 ≤ x.2.1 p ∧ x.2.1 p < 69) ∧ ¬ (x.2.1 p = 123 ∨ x.2.1 p = 73 ∨ x.2.1 p = 69 ∨ x.2.1 p = 76) ∧ ¬ (x.2.1 p = 73 ∨ x.2.1 p = 123) := by
      rcases hc3 with z | z | z <;> rw [z] <;> decide
    obtain ⟨d1, d2, d3, d4, d5, d6, d7, d8, f1⟩ := hcc
    have a1 := KD_lt hK1
    have g1 : ∀ l, l < 8 → fv x.2.1 x.2.2 d (p + 1) l = true → w (8 * row + l) = a l := fun l hl8 hf => hag l hl8 (fv_p1 d6 d8 hend (by omega) (by omega) hf)
    rw [d1, ob_s, if_pos rfl, d2, ob_s, if_pos rfl, d3, ob_s, if_pos rfl, ob_s, fp_0 ht (by omega) d4, ob_s, ob_s, hsup]
    unfold EB
    dsimp only
    rw [if_neg d5, if_neg d6, if_neg d7, if_neg f1, if_pos (by rcases hc3 with z | z | z <;> simp [z])]
    obtain ⟨rr, n1, w1, e1, r1⟩ := (hG (g + 2) (by omega)).1 t x d (p + 1) e row a (n + 1) w ⟨ht, hE, hK1, by omega, by omega, g1, ha, hnx⟩
    rw [e1, ob_s]
    dsimp only
    cases hV : EV (gK S) (gBd S) r false x (p + 1) a (n + 1) with
    | none =>
      rw [hV] at r1
      rw [if_neg (lg_nn (m3_of r1))]
      exact ⟨-3, n1, w1, rfl, rfl⟩
    | some v =>
      rw [hV] at r1
      obtain ⟨k1, k2, k3⟩ := r1
      obtain ⟨hv1, hv2, hv3⟩ := EV_ok _ _ r _ _ _ _ _ v.1 v.2 ha hV
      rw [k1, k2, if_pos (lg_cd hv1), ob_s]
      rcases hc3 with z | z | z
      · rw [z, if_neg (by decide), if_neg (by decide), if_neg (by decide), if_pos (by decide), (union_eq v.1).1, ob_s]
        have : sn 85 v.1 = some (unF v.1 62 0 0) := by unfold sn; rw [if_neg (by decide), if_neg (by decide)]
        rw [ob_s, this, ob_s]
        generalize unF v.1 62 0 0 = u
        exact ⟨u, v.2, w1, rfl, rfl, rfl, fun j hj => k3 j (by omega)⟩
      · rw [z, if_neg (by decide), if_pos (by decide)]
        by_cases h62 : v.1 < 62
        · rw [subsets_eq hv1 h62, ob_s]
          have : sn 80 v.1 = some (pwF v.1 62 0 0) := by unfold sn; rw [if_pos rfl, if_pos h62]
          rw [ob_s, this, ob_s]
          generalize pwF v.1 62 0 0 = u
          exact ⟨u, v.2, w1, rfl, rfl, rfl, fun j hj => k3 j (by omega)⟩
        · rw [subsets_out h62, ob_s]
          have : sn 80 v.1 = none := by unfold sn; rw [if_pos rfl, if_neg h62]
          rw [ob_s, this]
          exact ⟨-3, v.2, w1, rfl, rfl⟩
      · rw [z, if_neg (by decide), if_neg (by decide), if_pos (by decide), (below_eq v.1).1, ob_s]
        have : sn 84 v.1 = some (clF 5 v.1) := by unfold sn; rw [if_neg (by decide), if_pos rfl]
        rw [ob_s, this, ob_s]
        generalize clF 5 v.1 = u
        exact ⟨u, v.2, w1, rfl, rfl, rfl, fun j hj => k3 j (by omega)⟩
  all_goals
    have hbb : x.2.1 p = 123 ∨ x.2.1 p = 73 := by first | exact Or.inl hc1 | exact Or.inr hc1
    have hcc : s_AdjoinedSets_isDigit (x.2.1 p) = some 0 ∧ s_AdjoinedSets_isLetter (x.2.1 p) = some 0 ∧ s_AdjoinedSets_isFunction (x.2.1 p) = some 0 ∧ s_AdjoinedSets_isBinder (x.2.1 p) = some 1 ∧ ¬ (48 ≤ x.2.1 p ∧ x.2.1 p ≤ 57) ∧ ¬ (97 ≤ x.2.1 p ∧ x.2.1 p < 105) ∧ ¬ (65 ≤ x.2.1 p ∧ x.2.1 p < 69) ∧ (x.2.1 p = 123 ∨ x.2.1 p = 73 ∨ x.2.1 p = 69 ∨ x.2.1 p = 76) ∧ (x.2.1 p = 73 ∨ x.2.1 p = 123) := by
      rw [hc1]
      decide
    obtain ⟨d1, d2, d3, d4, d5, d6, d7, d8, f1⟩ := hcc
    have a1 := KD_lt hK1
    have a2 := KD_lt hK2
    have b1 := KD_end hK1
    have e2' : nI p + 2 = nI (p + 2) := by rw [show (2 : Int32) = nI 2 from rfl, nI_add]
    have hL' : 97 ≤ x.2.1 (p + 1) ∧ x.2.1 (p + 1) < 105 := hL
    have g1 : ∀ l, l < 8 → fv x.2.1 x.2.2 d (p + 2) l = true → w (8 * row + l) = a l := fun l hl8 hf => hag l hl8 (fv_b1 d8 hend (by omega) (by omega) hf)
    have g2 : ∀ l, l < 8 → fv x.2.1 x.2.2 d q l = true → l ≠ lwN (x.2.1 (p + 1)) → w (8 * row + l) = a l := fun l hl8 hf hne => hag l hl8 (fv_b2 d8 hend (by omega) (by omega) b1 a2 hne hf)
    rw [d1, ob_s, if_pos rfl, d2, ob_s, if_pos rfl, d3, ob_s, if_pos rfl, ob_s, fp_1 ht (by omega) d4, ob_s, ob_s, hsup]
    unfold EB
    dsimp only
    rw [if_neg d5, if_neg d6, if_neg d7, if_pos f1]
    obtain ⟨rr, n1, w1, e1, r1⟩ := (hG (g + 2) (by omega)).1 t x d (p + 2) q row a (n + 1) w ⟨ht, hE, hK1, by omega, by omega, g1, ha, hnx⟩
    rw [e1, ob_s]
    dsimp only
    cases hV : EV (gK S) (gBd S) r false x (p + 2) a (n + 1) with
    | none =>
      rw [hV] at r1
      rw [if_neg (lg_nn (m3_of r1))]
      exact ⟨-3, n1, w1, rfl, rfl⟩
    | some v =>
      rw [hV] at r1
      obtain ⟨k1, k2, k3⟩ := r1
      obtain ⟨hv1, hv2, hv3⟩ := EV_ok _ _ r _ _ _ _ _ v.1 v.2 ha hV
      rw [k1, k2, if_pos (lg_cd hv1), ob_s]
      have hKb : KD (gK S) x.2.1 x.2.2 d (if x.2.1 p = 73 then false else true) q e := by
        rw [hc1]
        exact hK2
      obtain ⟨r3', n3, w3, e3, r3r⟩ := w_gat (s := v.1) (row := row) (w := w1) (a := a) (n := v.2) (hG g (Nat.le_refl _)) hr ht hE (by omega) b1 he hKb (by omega) hL' (fun l hl hf hne => by rw [k3 _ (by omega)]; exact g2 l hl hf hne) ha hv3
      have hfin : ∃ rr n' w', s_Worker_term_178 (s_grp_Worker_broughtBy (g + 2)) 5 t (nI p) (nI row) (nI (32 - r)) v.1 (cw h v.2 w1) = some (rr, cw h n' w') ∧ rs1 (ga (EV (gK S) (gBd S) r) x p a v.1 62 0 0 v.2) (8 * (32 - r)) w rr n' w' := by
        unfold s_Worker_term_178
        rw [rK_5, ob_s, e3, ob_s]
        refine ⟨r3', n3, w3, rfl, ?_⟩
        cases hG2 : ga (EV (gK S) (gBd S) r) x p a v.1 62 0 0 v.2 with
        | none => rw [hG2] at r3r; exact r3r
        | some y =>
          rw [hG2] at r3r
          exact ⟨r3r.1, r3r.2.1, fun j hj => by rw [r3r.2.2 j hj]; exact k3 j (by omega)⟩
      rcases f1 with z | z
      · rw [if_pos z]
        exact hfin
      · rw [if_neg (by rw [z]; decide), if_neg (by rw [z]; decide), if_neg (by rw [z]; decide), if_neg (by rw [z]; decide), if_pos z]
        exact hfin
end
