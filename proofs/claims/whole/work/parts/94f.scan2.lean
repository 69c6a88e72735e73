/-! The whole scan. -/
section
variable {h : HP} {x : TX} {o s : Nat} {K : Nat → Nat}
theorem s_158 {bo : Int32} {m : Nat} {A B : Nat → Int32} : ∀ (i j w : Nat) (P : Nat → Nat → Int32), j + i = m → m ≤ 3 → w + i ≤ 200 → ∃ P', (∀ a q, q < w → P' a q = P a q) ∧ (∀ q, w ≤ q → q < w + i → P' 206 q = 0 ∧ P' 207 q = bo) ∧ ∀ (c14 : Nat → Int32 → Int32 → HP → Option (Int32 × HP)) (X : Int32) (Y r : Nat), i < r → s_AdjoinedSetsModel_scan_158 c14 r 200 X (nI Y) bo (nI m) (nI j) (sw h w P A B) = c14 200 X (nI (Y + 1)) (sw h (w + i) P' A B) := by
  intro i
  induction i with
  | zero =>
    intro j w P h1 h2 h4
    refine ⟨P, fun _ _ _ => rfl, fun q a b => absurd a (by omega), fun c14 X Y r h3 => ?_⟩
    obtain ⟨r, rfl⟩ : ∃ r0, r = r0 + 1 := ⟨r - 1, by omega⟩
    rw [s_AdjoinedSetsModel_scan_158]
    dsimp only
    unfold s_AdjoinedSetsModel_scan_178
    rw [if_pos (nI_le (by omega) (by omega)), nI_1]
    rfl
  | succ i ih =>
    intro j w P h1 h2 h4
    obtain ⟨P', a1, a2, a3⟩ := ih (j + 1) (w + 1) (pP h P w 0 bo 0) (by omega) h2 (by omega)
    refine ⟨P', fun a q hq => by rw [a1 a q (by omega)]; exact pP_l hq, fun q z1 z2 => ?_, fun c14 X Y r h3 => ?_⟩
    · by_cases hq : q = w
      · rw [hq, a1 206 w (by omega), a1 207 w (by omega)]
        exact pP_s 0 bo 0
      · exact a2 q (by omega) (by omega)
    · obtain ⟨r, rfl⟩ : ∃ r0, r = r0 + 1 := ⟨r - 1, by omega⟩
      rw [s_AdjoinedSetsModel_scan_158]
      dsimp only
      rw [if_neg (nI_ge (by omega) (by omega)), rK_200, ob_s, s_want (by omega), ob_s, nI_1, a3 _ _ _ _ (by omega), show w + 1 + i = w + (i + 1) by omega]
theorem s_its {R : Nat → Nat → Prop} {R2 : (Nat → Int32) → (Nat → Int32) → Nat → Nat → Prop} {bo : Int32} {M : Nat} (hlt : ∀ p e, R p e → p < e) (hlt2 : ∀ A B p e, R2 A B p e → p < e) (hcg : ∀ A B A' B' p e, s ≤ p → (∀ j, p - s ≤ j → j < e - s → A' j = A j ∧ B' j = B j) → R2 A B p e → R2 A' B' p e) (hR : ∀ p e, R p e → e ≤ x.1 → s ≤ p → ∀ w P A B, P 206 w = 0 → P 207 w = bo → w ≤ M → ∃ P' A' B', (∀ m i, i < w → P' m i = P m i) ∧ (∀ j, j < p - s ∨ e - s ≤ j → A' j = A j ∧ B' j = B j) ∧ R2 A' B' p e ∧ ∀ r, s_AdjoinedSetsModel_scan_14 (r + (e - p)) 200 (nI (o + s)) (nI (o + p)) (sw h (w + 1) P A B) = s_AdjoinedSetsModel_scan_14 r 200 (nI (o + s)) (nI (o + e)) (sw h w P' A' B')) : ∀ (m p e w : Nat) (P : Nat → Nat → Int32) (A B : Nat → Int32), its R m p e → e ≤ x.1 → s ≤ p → (∀ q, w ≤ q → q < w + m → P 206 q = 0 ∧ P 207 q = bo) → w + m ≤ M + 1 → ∃ P' A' B', p ≤ e ∧ (∀ m i, i < w → P' m i = P m i) ∧ (∀ j, j < p - s ∨ e - s ≤ j → A' j = A j ∧ B' j = B j) ∧ its (R2 A' B') m p e ∧ ∀ r, s_AdjoinedSetsModel_scan_14 (r + (e - p)) 200 (nI (o + s)) (nI (o + p)) (sw h (w + m) P A B) = s_AdjoinedSetsModel_scan_14 r 200 (nI (o + s)) (nI (o + e)) (sw h w P' A' B') := by
  intro m
  induction m with
  | zero =>
    intro p e w P A B hi he hs hP hM
    have hi : p = e := hi
    subst hi
    refine ⟨P, A, B, Nat.le_refl _, fun _ _ _ => rfl, fun _ _ => ⟨rfl, rfl⟩, rfl, fun r => ?_⟩
    rw [Nat.sub_self]
    rfl
  | succ m ih =>
    intro p e w P A B hi he hs hP hM
    obtain ⟨q, k1, hi2⟩ := hi
    have l1 := hlt _ _ k1
    have hq : q ≤ e := by
      have : ∀ m q e, its R m q e → q ≤ e := by
        intro m
        induction m with
        | zero => intro q e h; exact Nat.le_of_eq h
        | succ m ih2 =>
          intro q e h
          obtain ⟨q2, a1, a2⟩ := h
          have := hlt _ _ a1
          have := ih2 q2 e a2
          omega
      exact this m q e hi2
    obtain ⟨P1, A1, B1, c1, c2, c3, c4⟩ := hR p q k1 (by omega) hs (w + m) P A B (hP _ (by omega) (by omega)).1 (hP _ (by omega) (by omega)).2 (by omega)
    obtain ⟨P2, A2, B2, d0, d1, d2, d3, d4⟩ := ih q e w P1 A1 B1 hi2 he (by omega) (fun j z1 z2 => by rw [c1 206 j (by omega), c1 207 j (by omega)]; exact hP j z1 (by omega)) (by omega)
    refine ⟨P2, A2, B2, by omega, fun a i hi => by rw [d1 a i hi]; exact c1 a i (by omega), fun j hj => ?_, ⟨q, hcg A1 B1 A2 B2 p q hs (fun j z1 z2 => d2 j (Or.inl (by omega))) c3, d3⟩, fun r => ?_⟩
    · have e1 := d2 j (by omega)
      have e2 := c2 j (by omega)
      exact ⟨e1.1.trans e2.1, e1.2.trans e2.2⟩
    · rw [show r + (e - p) = (r + (e - q)) + (q - p) by omega, show w + (m + 1) = (w + m) + 1 from rfl, c4, d4]
theorem s_all (ht : mT h o x) (ho : o + x.1 ≤ 1490) (hx : x.1 ≤ 60) (hK : ∀ f, f < 4 → h.1 203 f = nI (K f)) (hK3 : ∀ f, f < 4 → K f ≤ 3) : ∀ (d : Nat) (b : Bool) (p e : Nat), KD K x.2.1 x.2.2 d b p e → e ≤ x.1 → s ≤ p → ∀ (bo : Int32) (w : Nat) (P : Nat → Nat → Int32) (A B : Nat → Int32), P 206 w = 0 → P 207 w = bo → w ≤ 190 - 4 * d → d ≤ 12 → ∃ P' A' B', (∀ m i, i < w → P' m i = P m i) ∧ (∀ j, j < p - s ∨ e - s ≤ j → A' j = A j ∧ B' j = B j) ∧ SP K x.2.1 x.2.2 s A' B' d bo b p e ∧ ∀ r, s_AdjoinedSetsModel_scan_14 (r + (e - p)) 200 (nI (o + s)) (nI (o + p)) (sw h (w + 1) P A B) = s_AdjoinedSetsModel_scan_14 r 200 (nI (o + s)) (nI (o + e)) (sw h w P' A' B') := by
  intro d
  induction d with
  | zero => intro b p e hk; exact absurd hk (fun q => q)
  | succ d ih =>
    intro b p e hKD he hs bo w P A B h6 h7 hw hd
    obtain ⟨hend, hpe, hcase⟩ := hKD
    have hj : o + s + (p - s) = o + p := by omega
    have h201 : h.1 201 (o + s + (p - s)) = x.2.1 p := by rw [hj]; exact ht p (by omega)
    -- no binder: m parts
    have parts : ∀ (b1 : Bool) (m : Nat), m ≤ 3 → its (KD K x.2.1 x.2.2 d b1) m (p + 1) e → s_AdjoinedSetsModel_isBinder (x.2.1 p) = some 0 → (∀ w P A B, s_AdjoinedSetsModel_partsOf 200 (x.2.1 p) (sw h w P A B) = some (nI m)) → ∃ P' A' B', (∀ m i, i < w → P' m i = P m i) ∧ (∀ j, j < p - s ∨ e - s ≤ j → A' j = A j ∧ B' j = B j) ∧ its (SP K x.2.1 x.2.2 s A' B' d bo b1) m (p + 1) e ∧ (A' (p - s) = (if 97 ≤ x.2.1 p ∧ x.2.1 p < 105 then 1 else 0) ∧ B' (p - s) = bo) ∧ ∀ r, s_AdjoinedSetsModel_scan_14 (r + (e - p)) 200 (nI (o + s)) (nI (o + p)) (sw h (w + 1) P A B) = s_AdjoinedSetsModel_scan_14 r 200 (nI (o + s)) (nI (o + e)) (sw h w P' A' B') := by
      intro b1 m hm hi hB hP
      have hP2 : ∃ P', (∀ a q, q < w → P' a q = P a q) ∧ (∀ q, w ≤ q → q < w + m → P' 206 q = 0 ∧ P' 207 q = bo) ∧ ∀ r, s_AdjoinedSetsModel_scan_14 (r + 1) 200 (nI (o + s)) (nI (o + p)) (sw h (w + 1) P A B) = s_AdjoinedSetsModel_scan_14 r 200 (nI (o + s)) (nI (o + (p + 1))) (sw h (w + m) P' (upA A (p - s) (if 97 ≤ x.2.1 p ∧ x.2.1 p < 105 then 1 else 0)) (upA B (p - s) bo)) := by
        obtain ⟨P', a1, a2, a3⟩ := s_158 (h := h) (bo := bo) (A := upA A (p - s) (if 97 ≤ x.2.1 p ∧ x.2.1 p < 105 then 1 else 0)) (B := upA B (p - s) bo) m 0 w P (by omega) hm (by omega)
        refine ⟨P', a1, a2, fun r => ?_⟩
        rw [← hj, sc_turn (by omega) (by omega) (by omega) h201 h6 h7 (Or.inl rfl), if_pos rfl, hB, ob_s, if_pos rfl, hP, ob_s, show o + (p + 1) = o + s + (p - s) + 1 by omega]
        exact a3 (s_AdjoinedSetsModel_scan_14 r) (nI (o + s)) (o + s + (p - s)) 20000 (by omega)
      obtain ⟨P1, c1, c2, c3⟩ := hP2
      obtain ⟨P2, A2, B2, d0, d1, d2, d3, d4⟩ := s_its (h := h) (x := x) (o := o) (s := s) (R := KD K x.2.1 x.2.2 d b1) (R2 := fun A B => SP K x.2.1 x.2.2 s A B d bo b1) (bo := bo) (M := 190 - 4 * d) (fun _ _ z => KD_lt z) (fun _ _ _ _ z => SP_lt z) (fun A B A' B' p e hs hab z => SP_cg d bo b1 p e hs hab z) (fun p e z he hs w P A B z1 z2 hM => ih b1 p e z he hs bo w P A B z1 z2 hM (by omega)) m (p + 1) e w P1 (upA A (p - s) (if 97 ≤ x.2.1 p ∧ x.2.1 p < 105 then 1 else 0)) (upA B (p - s) bo) hi he (by omega) c2 (by omega)
      refine ⟨P2, A2, B2, fun a i hi => by rw [d1 a i hi]; exact c1 a i hi, fun j hj => ?_, d3, ?_, fun r => ?_⟩
      · obtain ⟨z1, z2⟩ := d2 j (by omega)
        rw [z1, z2]
        unfold upA
        rw [if_neg (by omega), if_neg (by omega)]
        exact ⟨rfl, rfl⟩
      · obtain ⟨z1, z2⟩ := d2 (p - s) (Or.inl (by omega))
        rw [z1, z2]
        unfold upA
        rw [if_pos rfl, if_pos rfl]
        exact ⟨rfl, rfl⟩
      · rw [show r + (e - p) = (r + (e - (p + 1))) + 1 by omega, c3, d4]
    have bnd : ∀ (b2 : Bool) (q : Nat), KD K x.2.1 x.2.2 d false (p + 2) q → KD K x.2.1 x.2.2 d b2 q e → isLw (x.2.1 (p + 1)) → bc (x.2.1 p) → ∃ P' A' B', (∀ m i, i < w → P' m i = P m i) ∧ (∀ j, j < p - s ∨ e - s ≤ j → A' j = A j ∧ B' j = B j) ∧ (SP K x.2.1 x.2.2 s A' B' d bo false (p + 2) q ∧ SP K x.2.1 x.2.2 s A' B' d (bo ||| bitI (lwN (x.2.1 (p + 1)))) b2 q e) ∧ (A' (p - s) = (if 97 ≤ x.2.1 p ∧ x.2.1 p < 105 then 1 else 0) ∧ B' (p - s) = bo ∧ A' (p + 1 - s) = 0 ∧ B' (p + 1 - s) = bo) ∧ ∀ r, s_AdjoinedSetsModel_scan_14 (r + (e - p)) 200 (nI (o + s)) (nI (o + p)) (sw h (w + 1) P A B) = s_AdjoinedSetsModel_scan_14 r 200 (nI (o + s)) (nI (o + e)) (sw h w P' A' B') := by
      intro b2 q k1 k2 hL hb
      obtain ⟨cD, cL, cB, cF, cP⟩ := bc_all hb
      have l1 := KD_lt k1
      have l2 := KD_lt k2
      have hL' : 97 ≤ x.2.1 (p + 1) ∧ x.2.1 (p + 1) < 105 := hL
      have hj1 : o + s + (p + 1 - s) = o + (p + 1) := by omega
      have h201' : h.1 201 (o + s + (p + 1 - s)) = x.2.1 (p + 1) := by rw [hj1]; exact ht (p + 1) (by omega)
      obtain ⟨A0, hA0⟩ : ∃ A0, A0 = upA A (p - s) (if 97 ≤ x.2.1 p ∧ x.2.1 p < 105 then (1 : Int32) else 0) := ⟨_, rfl⟩
      obtain ⟨B0, hB0⟩ : ∃ B0, B0 = upA B (p - s) bo := ⟨_, rfl⟩
      obtain ⟨P1, hP1⟩ : ∃ P1, P1 = pP h P w 0 (bo ||| bitI (lwN (x.2.1 (p + 1)))) 0 := ⟨_, rfl⟩
      obtain ⟨P2, hP2⟩ : ∃ P2, P2 = pP h P1 (w + 1) 0 bo 0 := ⟨_, rfl⟩
      obtain ⟨P3, hP3⟩ : ∃ P3, P3 = pP h P2 (w + 2) 2 bo 0 := ⟨_, rfl⟩
      have t1 : ∀ r, s_AdjoinedSetsModel_scan_14 (r + 1) 200 (nI (o + s)) (nI (o + p)) (sw h (w + 1) P A B) = s_AdjoinedSetsModel_scan_14 r 200 (nI (o + s)) (nI (o + (p + 1))) (sw h (w + 3) P3 A0 B0) := by
        intro r
        rw [← hj, sc_turn (by omega) (by omega) (by omega) h201 h6 h7 (Or.inl rfl), if_pos rfl, cB, ob_s, if_neg (by decide), ← hA0, ← hB0, show o + s + (p - s) + 1 = o + (p + 1) by omega, rA_201 (by omega), ob_s, sw_201, show h.1 201 (o + (p + 1)) = x.2.1 (p + 1) from ht (p + 1) (by omega), ml_bit hL', ob_s, s_want (by omega), ob_s, ← hP1, s_want (by omega), ob_s, ← hP2, s_want (by omega), ob_s, ← hP3]
      have p3 := pP_s (h := h) (P := P2) (w := w + 2) 2 bo 0
      rw [← hP3] at p3
      have t2 : ∀ r, s_AdjoinedSetsModel_scan_14 (r + 1) 200 (nI (o + s)) (nI (o + (p + 1))) (sw h (w + 3) P3 A0 B0) = s_AdjoinedSetsModel_scan_14 r 200 (nI (o + s)) (nI (o + (p + 2))) (sw h (w + 2) P3 (upA A0 (p + 1 - s) 0) (upA B0 (p + 1 - s) bo)) := by
        intro r
        rw [← hj1, sc_turn (w := w + 2) (by omega) (by omega) (by omega) h201' p3.1 p3.2 (Or.inr rfl), if_neg (by decide), show o + s + (p + 1 - s) + 1 = o + (p + 2) by omega]
      have q1 : P3 206 (w + 1) = 0 ∧ P3 207 (w + 1) = bo := by
        rw [hP3, pP_l (by omega), pP_l (by omega), hP2]
        exact pP_s 0 bo 0
      have q0 : P3 206 w = 0 ∧ P3 207 w = (bo ||| bitI (lwN (x.2.1 (p + 1)))) := by
        rw [hP3, pP_l (by omega), pP_l (by omega), hP2, pP_l (by omega), pP_l (by omega), hP1]
        exact pP_s _ _ _
      have qz : ∀ m i, i < w → P3 m i = P m i := by
        intro m i hi
        rw [hP3, pP_l (by omega), hP2, pP_l (by omega), hP1, pP_l hi]
      obtain ⟨P4, A4, B4, c1, c2, c3, c4⟩ := ih false (p + 2) q k1 (by omega) (by omega) bo (w + 1) P3 (upA A0 (p + 1 - s) 0) (upA B0 (p + 1 - s) bo) q1.1 q1.2 (by omega) (by omega)
      obtain ⟨P5, A5, B5, d1, d2, d3, d4⟩ := ih b2 q e k2 he (by omega) (bo ||| bitI (lwN (x.2.1 (p + 1)))) w P4 A4 B4 (by rw [c1 206 w (by omega)]; exact q0.1) (by rw [c1 207 w (by omega)]; exact q0.2) (by omega) (by omega)
      have old : ∀ j, j < p + 2 - s → A5 j = upA A0 (p + 1 - s) 0 j ∧ B5 j = upA B0 (p + 1 - s) bo j := by
        intro j hj
        obtain ⟨z1, z2⟩ := d2 j (Or.inl (by omega))
        obtain ⟨z3, z4⟩ := c2 j (Or.inl (by omega))
        exact ⟨z1.trans z3, z2.trans z4⟩
      refine ⟨P5, A5, B5, fun m i hi => by rw [d1 m i hi, c1 m i (by omega), qz m i hi], fun j hj => ?_, ⟨SP_cg d bo false (p + 2) q (by omega) (fun j z1 z2 => d2 j (Or.inl (by omega))) c3, d3⟩, ?_, fun r => ?_⟩
      · rcases hj with hj | hj
        · obtain ⟨z1, z2⟩ := old j (by omega)
          rw [z1, z2, hA0, hB0]
          unfold upA
          rw [if_neg (by omega), if_neg (by omega), if_neg (by omega), if_neg (by omega)]
          exact ⟨rfl, rfl⟩
        · obtain ⟨z1, z2⟩ := d2 j (Or.inr hj)
          obtain ⟨z3, z4⟩ := c2 j (Or.inr (by omega))
          rw [z1, z2, z3, z4, hA0, hB0]
          unfold upA
          rw [if_neg (by omega), if_neg (by omega), if_neg (by omega), if_neg (by omega)]
          exact ⟨rfl, rfl⟩
      · obtain ⟨z1, z2⟩ := old (p - s) (by omega)
        obtain ⟨z3, z4⟩ := old (p + 1 - s) (by omega)
        rw [z1, z2, z3, z4, hA0, hB0]
        unfold upA
        have hne : ¬ p - s = p + 1 - s := by omega
        simp [hne]
      · rw [show r + (e - p) = ((r + (e - q)) + (q - (p + 2))) + 1 + 1 by omega, t1, t2, c4, d4]
    have pof : ∀ (m : Nat), (∀ H, s_AdjoinedSetsModel_partsOf 200 (x.2.1 p) H = some (nI m)) → (∀ w P A B, s_AdjoinedSetsModel_partsOf 200 (x.2.1 p) (sw h w P A B) = some (nI m)) := fun m z _ _ _ _ => z _
    cases b with
    | true =>
      rcases hcase with ⟨hc, q, k1, k2⟩ | ⟨hc, k1⟩ | ⟨hc, q, k1, k2⟩ | ⟨hc, hL, q, k1, k2⟩
      · have hn := nb_2 (Or.inr (Or.inl hc))
        obtain ⟨P', A', B', a1, a2, a3, a4, a5⟩ := parts false 2 (by omega) ⟨q, k1, e, k2, rfl⟩ hn.2.2.1 (pof 2 hn.2.2.2.2)
        exact ⟨P', A', B', a1, a2, ⟨hend, hpe, a4.1, a4.2, Or.inl ⟨hc, its2 a3⟩⟩, a5⟩
      · have hn := nb_1 (Or.inr hc)
        obtain ⟨P', A', B', a1, a2, a3, a4, a5⟩ := parts true 1 (by omega) ⟨e, k1, rfl⟩ hn.2.2.1 (pof 1 hn.2.2.2.2)
        exact ⟨P', A', B', a1, a2, ⟨hend, hpe, a4.1, a4.2, Or.inr (Or.inl ⟨hc, its1 a3⟩)⟩, a5⟩
      · have hn := nb_2 (Or.inr (Or.inr hc))
        obtain ⟨P', A', B', a1, a2, a3, a4, a5⟩ := parts true 2 (by omega) ⟨q, k1, e, k2, rfl⟩ hn.2.2.1 (pof 2 hn.2.2.2.2)
        exact ⟨P', A', B', a1, a2, ⟨hend, hpe, a4.1, a4.2, Or.inr (Or.inr (Or.inl ⟨hc, its2 a3⟩))⟩, a5⟩
      · obtain ⟨P', A', B', a1, a2, a3, a4, a5⟩ := bnd true q k1 k2 hL (by rcases hc with z | z; exact Or.inr (Or.inr (Or.inl z)); exact Or.inr (Or.inr (Or.inr z)))
        exact ⟨P', A', B', a1, a2, ⟨hend, hpe, a4.1, a4.2.1, Or.inr (Or.inr (Or.inr ⟨hc, hL, a4.2.2.1, a4.2.2.2, q, a3.1, a3.2⟩))⟩, a5⟩
    | false =>
      rcases hcase with ⟨hc, hx⟩ | ⟨hc, hx⟩ | ⟨hc, hk0, hi⟩ | ⟨hc, q, k1, k2⟩ | ⟨hc, k1⟩ | ⟨hc, hL, q, k1, k2⟩ | ⟨hc, hL, q, k1, k2⟩
      · obtain ⟨x1, x2, x3, x4, _⟩ := cl_dig hc
        obtain ⟨P', A', B', a1, a2, a3, a4, a5⟩ := parts false 0 (by omega) hx.symm x3 (pof 0 (fun H => po_0 x1 x2 x3 x4))
        exact ⟨P', A', B', a1, a2, ⟨hend, hpe, a4.1, a4.2, Or.inl ⟨hc, hx⟩⟩, a5⟩
      · obtain ⟨x1, x2, x3, x4, _⟩ := cl_low hc
        obtain ⟨P', A', B', a1, a2, a3, a4, a5⟩ := parts false 0 (by omega) hx.symm x3 (pof 0 (fun H => po_0 x1 x2 x3 x4))
        exact ⟨P', A', B', a1, a2, ⟨hend, hpe, a4.1, a4.2, Or.inr (Or.inl ⟨hc, hx⟩)⟩, a5⟩
      · obtain ⟨P', A', B', a1, a2, a3, a4, a5⟩ := parts false (K (x.2.1 p - 65).toNatClampNeg) (hK3 _ (fn_n hc).2) hi (cl_fun hc).2.2.1 (fun w P A B => po_fx (h := sw h w P A B) (K := K) (fun f hf => hK f hf) hc)
        exact ⟨P', A', B', a1, a2, ⟨hend, hpe, a4.1, a4.2, Or.inr (Or.inr (Or.inl ⟨hc, hk0, a3⟩))⟩, a5⟩
      · have hn := nb_2 (Or.inl hc)
        obtain ⟨P', A', B', a1, a2, a3, a4, a5⟩ := parts false 2 (by omega) ⟨q, k1, e, k2, rfl⟩ hn.2.2.1 (pof 2 hn.2.2.2.2)
        exact ⟨P', A', B', a1, a2, ⟨hend, hpe, a4.1, a4.2, Or.inr (Or.inr (Or.inr (Or.inl ⟨hc, its2 a3⟩)))⟩, a5⟩
      · have hn := nb_1 (Or.inl hc)
        obtain ⟨P', A', B', a1, a2, a3, a4, a5⟩ := parts false 1 (by omega) ⟨e, k1, rfl⟩ hn.2.2.1 (pof 1 hn.2.2.2.2)
        exact ⟨P', A', B', a1, a2, ⟨hend, hpe, a4.1, a4.2, Or.inr (Or.inr (Or.inr (Or.inr (Or.inl ⟨hc, its1 a3⟩))))⟩, a5⟩
      · obtain ⟨P', A', B', a1, a2, a3, a4, a5⟩ := bnd true q k1 k2 hL (Or.inl hc)
        exact ⟨P', A', B', a1, a2, ⟨hend, hpe, a4.1, a4.2.1, Or.inr (Or.inr (Or.inr (Or.inr (Or.inr (Or.inl ⟨hc, hL, a4.2.2.1, a4.2.2.2, q, a3.1, a3.2⟩)))))⟩, a5⟩
      · obtain ⟨P', A', B', a1, a2, a3, a4, a5⟩ := bnd false q k1 k2 hL (Or.inr (Or.inl hc))
        exact ⟨P', A', B', a1, a2, ⟨hend, hpe, a4.1, a4.2.1, Or.inr (Or.inr (Or.inr (Or.inr (Or.inr (Or.inr ⟨hc, hL, a4.2.2.1, a4.2.2.2, q, a3.1, a3.2⟩)))))⟩, a5⟩
theorem sw_self (h : HP) : (up2 h.1 200 7 0, h.2) = sw h 0 h.1 (h.1 210) (h.1 211) := by
  refine Prod.ext ?_ rfl
  funext a b
  show up2 h.1 200 7 0 a b = (if a = 200 then (if b = 7 then nI 0 else h.1 200 b) else if 206 ≤ a ∧ a ≤ 209 then h.1 a b else if a = 210 then h.1 210 b else if a = 211 then h.1 211 b else h.1 a b)
  unfold up2
  by_cases ha : a = 200
  · by_cases hb : b = 7
    · rw [if_pos ⟨ha, hb⟩, if_pos ha, if_pos hb]; rfl
    · rw [if_neg (fun q => hb q.2), if_pos ha, if_neg hb, ha]
  · rw [if_neg (fun q => ha q.1), if_neg ha]
    split
    · rfl
    · split
      · rename_i q; rw [q]
      · split
        · rename_i q; rw [q]
        · rfl
/-- the model's scan of the part at s -/
theorem m_scan (ht : mT h o x) (ho : o + x.1 ≤ 1490) (hx : x.1 ≤ 60) (hK : ∀ f, f < 4 → h.1 203 f = nI (K f)) (hK3 : ∀ f, f < 4 → K f ≤ 3) {d : Nat} {b : Bool} {e : Nat} (hd : d ≤ 12) (hKD : KD K x.2.1 x.2.2 d b s e) (he : e ≤ x.1) : ∃ P A B, s_AdjoinedSetsModel_scan 200 (nI (o + s)) h = some (nI (o + e), sw h 0 P A B) ∧ SP K x.2.1 x.2.2 s A B d 0 b s e := by
  unfold s_AdjoinedSetsModel_scan
  rw [wI_200_7, ob_s, rK_200, ob_s, sw_self, s_want (by omega), ob_s]
  have l := KD_lt hKD
  have p0 := pP_s (h := h) (P := h.1) (w := 0) 0 0 0
  obtain ⟨P', A', B', a1, a2, a3, a4⟩ := s_all (s := s) ht ho hx hK hK3 d b s e hKD he (Nat.le_refl _) 0 0 (pP h h.1 0 0 0 0) (h.1 210) (h.1 211) p0.1 p0.2 (by omega) hd
  refine ⟨P', A', B', ?_, a3⟩
  have a5 := a4 (20000 - (e - s))
  rw [show 20000 - (e - s) + (e - s) = 20000 by omega] at a5
  rw [a5, show 20000 - (e - s) = (20000 - (e - s) - 1) + 1 by omega, s_AdjoinedSetsModel_scan_14]
  dsimp only
  rw [rI_200_7, ob_s, sw_7, if_pos (by decide)]
end
