/-! Rule 12: the spare text. -/
def z0 : TX := (1, fun _ => 48, fun _ => nI 1)
def zA (x y : Nat) : TX := (3, fun p => if p = 0 then 43 else if p = 1 then nI (97 + x) else nI (97 + y), fun p => if p = 0 then nI 3 else if p = 1 then nI 2 else nI 3)
theorem KD_z0 {K : Nat → Nat} : KD K z0.2.1 z0.2.2 1 false 0 1 := ⟨rfl, by omega, Or.inl ⟨by show (48 : Int32) ≤ 48 ∧ (48 : Int32) ≤ 57; decide, rfl⟩⟩
theorem lw_97 : ∀ x, x < 8 → 97 ≤ nI (97 + x) ∧ nI (97 + x) < 105 := by decide
theorem KD_zA {K : Nat → Nat} {x y : Nat} (hx : x < 8) (hy : y < 8) : KD K (zA x y).2.1 (zA x y).2.2 2 false 0 3 := ⟨rfl, by omega, Or.inr (Or.inr (Or.inr (Or.inl ⟨Or.inl rfl, 2, ⟨rfl, by omega, Or.inr (Or.inl ⟨lw_97 x hx, rfl⟩)⟩, ⟨rfl, by omega, Or.inr (Or.inl ⟨lw_97 y hy, rfl⟩)⟩⟩)))⟩
def o3s (h h' : HP) : Prop := (∀ n, n ≠ 103 → n ≠ 104 → n ≠ 105 → h'.1 n = h.1 n) ∧ h'.2 = h.2
theorem o3s.tr {a b c : HP} (h1 : o3s a b) (h2 : o3s b c) : o3s a c := ⟨fun n a1 a2 a3 => (h2.1 n a1 a2 a3).trans (h1.1 n a1 a2 a3), h2.2.trans h1.2⟩
theorem o3s_kq {h h' : HP} (ho : o3s h h') : kq h h' := ⟨fun n _ _ _ _ _ _ a7 a8 a9 => ho.1 n a7 a8 a9, by rw [ho.2]⟩
theorem s_emp3 (h : HP) : ∃ h', s_Text_empty 103 h = some h' ∧ h'.1 103 2 = nI 0 ∧ o3s h h' := by
  refine ⟨(up2 h.1 103 2 0, h.2), p_empty isT_103, ?_, fun n a1 _ _ => up2_n a1, rfl⟩
  show up2 h.1 103 2 0 103 2 = _
  rw [u2_s]
  rfl
theorem s_add3 {h : HP} {n q : Nat} (hl : h.1 103 2 = nI n) (hn : n < 60) (hq : q < 256) : ∃ h', s_Text_add 103 (nI q) h = some h' ∧ h'.1 103 2 = nI (n + 1) ∧ h'.1 104 n = nI q ∧ (∀ p, p ≠ n → h'.1 104 p = h.1 104 p) ∧ o3s h h' := by
  have e1 : (vp_nar .char (((nI q).toUInt32 % 65536).toInt32)) = nI q := by
    rw [pk_vc, pk_char, pk_tn (by omega), Nat.mod_eq_of_lt (by omega)]
  refine ⟨(up2 (up2 h.1 104 n (nI q)) 103 2 (nI (n + 1)), h.2), ?_, ?_, ?_, ?_, ?_, rfl⟩
  · unfold s_Text_add
    rw [rI_103_2, ob_s, hl, if_neg (show ¬ (60 : Int32) ≤ nI n from nI_ge hn (by decide)), rR_103_0, ob_s, ob_s, e1, wA_104 hn, ob_s, rI_103_2, ob_s]
    show (pI _ 103 0 2 (up2 h.1 104 n (nI q) 103 2 + 1)).bind _ = _
    rw [up2_n (by decide), hl, nI_1, wI_103_2, ob_s]
  · show up2 (up2 h.1 104 n (nI q)) 103 2 (nI (n + 1)) 103 2 = _
    rw [u2_s]
  · show up2 (up2 h.1 104 n (nI q)) 103 2 (nI (n + 1)) 104 n = _
    rw [up2_n (by decide), u2_s]
  · intro p hp
    show up2 (up2 h.1 104 n (nI q)) 103 2 (nI (n + 1)) 104 p = _
    rw [up2_n (by decide), u2_i hp]
  · intro m a1 a2 _
    show up2 (up2 h.1 104 n (nI q)) 103 2 (nI (n + 1)) m = _
    rw [up2_n a1, up2_n a2]
theorem s_end3 {h : HP} {n p : Nat} {v : Int32} (hl : h.1 103 2 = nI n) (hn : n ≤ 60) (hp : p < n) : ∃ h', s_Text_setEnd 103 (nI p) v h = some h' ∧ h'.1 103 = h.1 103 ∧ h'.1 104 = h.1 104 ∧ h'.1 105 p = v ∧ (∀ r, r ≠ p → h'.1 105 r = h.1 105 r) ∧ o3s h h' := by
  refine ⟨(up2 h.1 105 p v, h.2), ?_, ?_, ?_, ?_, ?_, ?_, rfl⟩
  · rw [p_setEnd (n := n) ⟨isT_103, hl, hn⟩ (by omega), if_pos hp]
  · show up2 h.1 105 p v 103 = _
    rw [up2_n (by decide)]
  · show up2 h.1 105 p v 104 = _
    rw [up2_n (by decide)]
  · exact u2_s
  · intro r hr
    exact u2_i hr
  · intro m _ _ a3
    exact up2_n a3
theorem c_zero (h : HP) : ∃ h', s_Rules_spareBecomesZero 6 h = some h' ∧ cT h' 103 z0 ∧ cE h' 103 z0 ∧ o3s h h' := by
  obtain ⟨h1, e1, l1, o1⟩ := s_emp3 h
  obtain ⟨h2, e2, l2, a2, _, o2⟩ := s_add3 (q := 48) l1 (by omega) (by omega)
  obtain ⟨h3, e3, k1, k2, k3, _, o3⟩ := s_end3 (p := 0) (v := nI 1) l2 (by omega) (by omega)
  refine ⟨h3, ?_, ⟨⟨isT_103, by rw [k1]; exact l2, by decide⟩, fun p hp => ?_⟩, fun p hp => ?_, (o1.tr o2).tr o3⟩
  · unfold s_Rules_spareBecomesZero
    rw [rR_6_3, ob_s, rK_103, ob_s, e1, ob_s, rR_6_3, ob_s, rK_103, ob_s, show s_Text_add 103 48 h1 = some h2 from e2, ob_s, rR_6_3, ob_s, rK_103, ob_s, show s_Text_setEnd 103 0 1 h2 = some h3 from e3, ob_s]
  · have hp : p < 1 := hp
    obtain rfl : p = 0 := by omega
    rw [k2]
    exact a2
  · have hp : p < 1 := hp
    obtain rfl : p = 0 := by omega
    exact k3
theorem c_adj {x y : Nat} (hx : x < 8) (hy : y < 8) (h : HP) : ∃ h', s_Rules_spareBecomesAdjoined 6 (nI x) (nI y) h = some h' ∧ cT h' 103 (zA x y) ∧ cE h' 103 (zA x y) ∧ o3s h h' := by
  obtain ⟨h1, e1, l1, o1⟩ := s_emp3 h
  obtain ⟨h2, e2, l2, a2, _, o2⟩ := s_add3 (q := 43) l1 (by omega) (by omega)
  obtain ⟨h3, e3, l3, a3, b3, o3⟩ := s_add3 (q := 97 + x) l2 (by omega) (by omega)
  obtain ⟨h4, e4, l4, a4, b4, o4⟩ := s_add3 (q := 97 + y) l3 (by omega) (by omega)
  obtain ⟨h5, e5, k1, k2, k3, _, o5⟩ := s_end3 (p := 0) (v := nI 3) l4 (by omega) (by omega)
  obtain ⟨h6, e6, j1, j2, j3, j4, o6⟩ := s_end3 (h := h5) (p := 1) (v := nI 2) (by rw [k1]; exact l4) (by omega) (by omega)
  obtain ⟨h7, e7, i1, i2, i3, i4, o7⟩ := s_end3 (h := h6) (p := 2) (v := nI 3) (by rw [j1, k1]; exact l4) (by omega) (by omega)
  have w : ∀ z, 97 + nI z = nI (97 + z) := fun z => by rw [show (97 : Int32) = nI 97 from rfl, nI_add]
  refine ⟨h7, ?_, ⟨⟨isT_103, by rw [i1, j1, k1]; exact l4, by show 3 ≤ 60; decide⟩, fun p hp => ?_⟩, fun p hp => ?_, (((((o1.tr o2).tr o3).tr o4).tr o5).tr o6).tr o7⟩
  · unfold s_Rules_spareBecomesAdjoined
    rw [rR_6_3, ob_s, rK_103, ob_s, e1, ob_s, rR_6_3, ob_s, rK_103, ob_s, show s_Text_add 103 43 h1 = some h2 from e2, ob_s, rR_6_3, ob_s, rK_103, ob_s, w, e3, ob_s, rR_6_3, ob_s, rK_103, ob_s, w, e4, ob_s, rR_6_3, ob_s, rK_103, ob_s, show s_Text_setEnd 103 0 3 h4 = some h5 from e5, ob_s, rR_6_3, ob_s, rK_103, ob_s, show s_Text_setEnd 103 1 2 h5 = some h6 from e6, ob_s, rR_6_3, ob_s, rK_103, ob_s, show s_Text_setEnd 103 2 3 h6 = some h7 from e7, ob_s]
  · have hp : p < 3 := hp
    rw [i2, j2, k2]
    obtain rfl | rfl | rfl : p = 0 ∨ p = 1 ∨ p = 2 := by omega
    · rw [b4 0 (by omega), b3 0 (by omega)]; exact a2
    · rw [b4 1 (by omega)]; exact a3
    · exact a4
  · have hp : p < 3 := hp
    obtain rfl | rfl | rfl : p = 0 ∨ p = 1 ∨ p = 2 := by omega
    · rw [i4 0 (by omega), j4 0 (by omega)]; exact k3
    · rw [i4 1 (by omega)]; exact j3
    · exact i3
def P12 (S : SG) (E : Nat → Int32) (xt xw : TX) (x we dw q : Nat) : Prop := MT (gK S) (gB S).2.1 E xt.2.1 xt.2.2 (fun j => decide (j = x)) (fun _ => fv xw.2.1 xw.2.2 dw 0) (EQt xt xw (fun _ => 0) (fun _ => we)) 12 true (fun _ => false) 0 q
section
variable {S : SG} {E : Nat → Int32} {a b : Nat} {F : Int32}
/-- one question of the class, its terms in the spare text -/
theorem c_ask {h : HP} {xt xw : TX} {t x we dw q e2 d2 : Nat} (hw : WF S) (hK : KD (gK S) (gB S).2.1 E 12 true 0 (gB S).1) (hc : CA S h) (hE : cE h 100 (xB S E)) (ct : cT h t xt) (okt : ∀ p, p < xt.1 → okC (xt.2.1 p)) (cu : cT h 103 xw) (eu : cE h 103 xw) (hu : h.2.2 = 103) (hSR : SR h (fun j => decide (j = x)) (fun _ => 0)) (hd : dw ≤ 12) (hwe : we ≤ xw.1) (hKw : KD (gK S) xw.2.1 xw.2.2 dw false 0 we) (hKt : KD (gK S) xt.2.1 xt.2.2 d2 true q e2) (he2 : e2 ≤ xt.1) : (P12 S E xt xw x we dw q → ∃ v, s_Replacement_gives 11 100 0 t (nI q) (nI e2) h = some (1, nw h v)) ∧ (¬ P12 S E xt xw x we dw q → ∃ v, s_Replacement_gives 11 100 0 t (nI q) (nI e2) h = some (0, nw h v)) := by
  have hk3 : ∀ f, f < 4 → gK S f ≤ 3 := fun f hf => (hw.2.2.1 f hf).1
  have t1 : cT h 100 (xB S E) := hc.1
  exact c_gives (K := gK S) (h := h) (s := 100) (t := t) (u := 103) (xs := xB S E) (xt := xt) (xw := xw) (rl := fun j => decide (j = x)) (w := fun _ => 0) (we := fun _ => we) (dw := fun _ => dw) ⟨t1, hE, ct, okt, cu, eu, hu, hSR, fun l _ _ => ⟨hd, hwe, hKw⟩, hk3⟩ hK (Nat.le_refl _) (by omega) hKt he2
def Q12 (S : SG) (E : Nat → Int32) (b x y : Nat) : Prop := y ≠ x ∧ fv (gB S).2.1 E 12 0 y = false ∧ P12 S E (gT S b) (zA x y) x 3 2 (1 + (gB S).1)
theorem c_yl {c56 : Nat → Nat → Nat → Int32 → Int32 → Int32 → HP → Option (Int32 × HP)} {X1 x d2 : Nat} (hw : WF S) (hK : KD (gK S) (gB S).2.1 E 12 true 0 (gB S).1) (hb : b < gC S) (hx : x < 8) (hF : MSK F (fv (gB S).2.1 E 12 0)) (hKt : KD (gK S) (gT S b).2.1 (gT S b).2.2 d2 true (1 + (gB S).1) (gT S b).1) : ∀ (m y r : Nat) (h : HP), y + m = 8 → m < r → CA S h → cE h 100 (xB S E) → h.2.2 = 103 → SR h (fun j => decide (j = x)) (fun _ => 0) → ((∃ y', y ≤ y' ∧ y' < 8 ∧ Q12 S E b x y') → ∃ h', s_Rules_isByInduction_104 c56 r 6 X1 (118 + 3 * b) (nI (1 + (gB S).1)) F (nI x) 1 (nI y) h = some (1, h') ∧ kq h h') ∧ (¬ (∃ y', y ≤ y' ∧ y' < 8 ∧ Q12 S E b x y') → ∃ h', s_Rules_isByInduction_104 c56 r 6 X1 (118 + 3 * b) (nI (1 + (gB S).1)) F (nI x) 1 (nI y) h = c56 6 X1 (118 + 3 * b) (nI (1 + (gB S).1)) F (nI (x + 1)) h' ∧ kq h h') := by
  intro m
  induction m with
  | zero =>
    intro y r h h1 h2 hc hE hu hSR
    obtain ⟨r, rfl⟩ : ∃ r0, r = r0 + 1 := ⟨r - 1, by omega⟩
    refine ⟨fun ⟨y', z1, z2, _⟩ => absurd z1 (by omega), fun _ => ⟨h, ?_, kq.rf h⟩⟩
    rw [s_Rules_isByInduction_104]
    dsimp only
    unfold s_Rules_isByInduction_182
    rw [if_pos (show 8 ≤ nI y from nI_le (a := 8) (by omega) (by omega)), nI_1]
  | succ m ih =>
    intro y r h h1 h2 hc hE hu hSR
    obtain ⟨r, rfl⟩ : ∃ r0, r = r0 + 1 := ⟨r - 1, by omega⟩
    have hy : y < 8 := by omega
    obtain ⟨h1', e1, ct1, ce1, o1⟩ := c_adj hx hy h
    have k1 := o3s_kq o1
    have hc1 := CA_kq k1 hw hc
    have hE1 := cE_kq k1 (Or.inl rfl) hE
    have hu1 : h1'.2.2 = 103 := by rw [o1.2]; exact hu
    have hS1 : SR h1' (fun j => decide (j = x)) (fun _ => 0) := fun l hl => by rw [o1.1 13 (by decide) (by decide) (by decide)]; exact hSR l hl
    obtain ⟨ctb, _⟩ := tx_t hc1 hb
    have h60 := hw.1.1
    -- what follows where y doesn't do
    have next : ∀ h2', kq h h2' → CA S h2' → cE h2' 100 (xB S E) → h2'.2.2 = 103 → SR h2' (fun j => decide (j = x)) (fun _ => 0) → ¬ Q12 S E b x y → s_Rules_isByInduction_104 c56 (r + 1) 6 X1 (118 + 3 * b) (nI (1 + (gB S).1)) F (nI x) 1 (nI y) h = s_Rules_isByInduction_104 c56 r 6 X1 (118 + 3 * b) (nI (1 + (gB S).1)) F (nI x) 1 (nI (y + 1)) h2' → ((∃ y', y ≤ y' ∧ y' < 8 ∧ Q12 S E b x y') → ∃ h', s_Rules_isByInduction_104 c56 (r + 1) 6 X1 (118 + 3 * b) (nI (1 + (gB S).1)) F (nI x) 1 (nI y) h = some (1, h') ∧ kq h h') ∧ (¬ (∃ y', y ≤ y' ∧ y' < 8 ∧ Q12 S E b x y') → ∃ h', s_Rules_isByInduction_104 c56 (r + 1) 6 X1 (118 + 3 * b) (nI (1 + (gB S).1)) F (nI x) 1 (nI y) h = c56 6 X1 (118 + 3 * b) (nI (1 + (gB S).1)) F (nI (x + 1)) h' ∧ kq h h') := by
      intro h2' k2 hc2 hE2 hu2 hS2 hn e2
      obtain ⟨i1, i2⟩ := ih (y + 1) r h2' (by omega) (by omega) hc2 hE2 hu2 hS2
      rw [e2]
      constructor
      · intro ⟨y', z1, z2, z3⟩
        have hne : y' ≠ y := fun z => hn (by rw [← z]; exact z3)
        obtain ⟨h', a1, a2⟩ := i1 ⟨y', by omega, z2, z3⟩
        exact ⟨h', a1, k2.tr a2⟩
      · intro z
        obtain ⟨h', a1, a2⟩ := i2 (fun ⟨y', z1, z2, z3⟩ => z ⟨y', by omega, z2, z3⟩)
        exact ⟨h', a1, k2.tr a2⟩
    have e0 : s_Rules_isByInduction_104 c56 (r + 1) 6 X1 (118 + 3 * b) (nI (1 + (gB S).1)) F (nI x) 1 (nI y) h = if nI y = nI x then s_Rules_isByInduction_104 c56 r 6 X1 (118 + 3 * b) (nI (1 + (gB S).1)) F (nI x) 1 (nI (y + 1)) h1' else if ((F >>> (nI y &&& 31)) &&& 1) = 0 then (s_Replacement_gives 11 100 0 (118 + 3 * b) (nI (1 + (gB S).1)) (nI (gT S b).1) h1').bind fun q9 => (if q9.1 = 0 then s_Rules_isByInduction_104 c56 r 6 X1 (118 + 3 * b) (nI (1 + (gB S).1)) F (nI x) 1 (nI (y + 1)) q9.2 else some (1, q9.2)) else s_Rules_isByInduction_104 c56 r 6 X1 (118 + 3 * b) (nI (1 + (gB S).1)) F (nI x) 1 (nI (y + 1)) h1' := by
      rw [s_Rules_isByInduction_104]
      dsimp only
      unfold s_Rules_isByInduction_145 s_Rules_isByInduction_146 s_Rules_isByInduction_176
      rw [if_neg (show ¬ 8 ≤ nI y from nI_ge (b := 8) hy (by omega)), if_neg (show ¬ (1 : Int32) = 0 by decide), rK_6, ob_s, e1, ob_s, nI_1]
      rw [if_pos (show (0 : Int32) = 0 from rfl), if_neg (show ¬ (1 : Int32) = 0 by decide), rR_6_4, ob_s, rR_6_0, ob_s, t_kd ctb.1.1, ob_s, len_t ctb, ob_s, rK_11, ob_s]
    by_cases hyx : y = x
    · refine next h1' k1 hc1 hE1 hu1 hS1 (fun z => z.1 hyx) ?_
      rw [e0, if_pos (by rw [hyx])]
    have hyx' : ¬ nI y = nI x := fun z => hyx ((nI_inj (by omega) (by omega)).mp z)
    by_cases hfy : fv (gB S).2.1 E 12 0 y = false
    rotate_left
    · refine next h1' k1 hc1 hE1 hu1 hS1 (fun z => hfy z.2.1) ?_
      rw [e0, if_neg hyx', if_neg (fun z => hfy (by rw [← hF.2 y hy]; exact (tb_sh F hy).mp z))]
    obtain ⟨g1, g2⟩ := c_ask (x := x) (we := 3) (dw := 2) hw hK hc1 hE1 ctb (ok_t hw hb) ct1 ce1 hu1 hS1 (by omega) (Nat.le_refl _) (KD_zA hx hy) hKt (Nat.le_refl _)
    have e0 := e0
    rw [if_neg hyx', if_pos ((tb_sh F hy).mpr (by rw [hF.2 y hy]; exact hfy))] at e0
    by_cases hP : P12 S E (gT S b) (zA x y) x 3 2 (1 + (gB S).1)
    · obtain ⟨v, e2⟩ := g1 hP
      rw [e2, ob_s] at e0
      dsimp only at e0
      rw [if_neg (by decide)] at e0
      exact ⟨fun _ => ⟨nw h1' v, e0, kq_nw k1⟩, fun z => absurd ⟨y, Nat.le_refl _, hy, hyx, hfy, hP⟩ z⟩
    · obtain ⟨v, e2⟩ := g2 hP
      rw [e2, ob_s] at e0
      dsimp only at e0
      rw [if_pos rfl] at e0
      have hk2 : kq h1' (nw h1' v) := kq_nw (kq.rf _)
      refine next (nw h1' v) (kq_nw k1) (CA_kq hk2 hw hc1) (cE_kq hk2 (Or.inl rfl) hE1) hu1 (fun l hl => by rw [nw_I (by decide)]; exact hS1 l hl) (fun z => hP z.2.2) e0
theorem c_xl {d2 : Nat} (hw : WF S) (hK : KD (gK S) (gB S).2.1 E 12 true 0 (gB S).1) (ha : a < gC S) (hb : b < gC S) (hF : MSK F (fv (gB S).2.1 E 12 0)) (hKt : KD (gK S) (gT S b).2.1 (gT S b).2.2 d2 true (1 + (gB S).1) (gT S b).1) : ∀ (m x r : Nat) (h : HP), x + m = 8 → m < r → CA S h → cE h 100 (xB S E) → ((∃ x', x ≤ x' ∧ x' < 8 ∧ P12 S E (gT S a) z0 x' 1 1 0 ∧ ∃ y', y' < 8 ∧ Q12 S E b x' y') → ∃ h', s_Rules_isByInduction_56 r 6 (118 + 3 * a) (118 + 3 * b) (nI (1 + (gB S).1)) F (nI x) h = some (1, h') ∧ kq h h') ∧ (¬ (∃ x', x ≤ x' ∧ x' < 8 ∧ P12 S E (gT S a) z0 x' 1 1 0 ∧ ∃ y', y' < 8 ∧ Q12 S E b x' y') → ∃ h', s_Rules_isByInduction_56 r 6 (118 + 3 * a) (118 + 3 * b) (nI (1 + (gB S).1)) F (nI x) h = some (0, h') ∧ kq h h') := by
  intro m
  induction m with
  | zero =>
    intro x r h h1 h2 hc hE
    obtain ⟨r, rfl⟩ : ∃ r0, r = r0 + 1 := ⟨r - 1, by omega⟩
    refine ⟨fun ⟨y', z1, z2, _⟩ => absurd z1 (by omega), fun _ => ⟨h, ?_, kq.rf h⟩⟩
    rw [s_Rules_isByInduction_56]
    dsimp only
    rw [if_pos (show 8 ≤ nI x from nI_le (a := 8) (by omega) (by omega))]
  | succ m ih =>
    intro x r h h1 h2 hc hE
    obtain ⟨r, rfl⟩ : ∃ r0, r = r0 + 1 := ⟨r - 1, by omega⟩
    have hx : x < 8 := by omega
    obtain ⟨g1, e1, f1, f2, f3, f4⟩ := c_beginWith h 103 (l := x) (v := 0) hx
    have k1 : kq h g1 := ⟨fun n _ _ a3 _ _ _ _ _ _ => f2 n a3, f3⟩
    obtain ⟨g2, e2, ct2, ce2, o2⟩ := c_zero g1
    have k2 := k1.tr (o3s_kq o2)
    have hc2 := CA_kq k2 hw hc
    have hE2 := cE_kq k2 (Or.inl rfl) hE
    have hu2 : g2.2.2 = 103 := by rw [o2.2]; exact f4
    have hS2 : SR g2 (fun j => decide (j = x)) (fun _ => 0) := fun l hl => by rw [o2.1 13 (by decide) (by decide) (by decide)]; exact f1 l hl
    obtain ⟨cta, _⟩ := tx_t hc2 ha
    have hKa := (hw.2.2.2.2 a ha).2.2
    obtain ⟨q1, q2⟩ := c_ask (x := x) (we := 1) (dw := 1) hw hK hc2 hE2 cta (ok_t hw ha) ct2 ce2 hu2 hS2 (by omega) (Nat.le_refl _) KD_z0 hKa (Nat.le_refl _)
    have e0 : s_Rules_isByInduction_56 (r + 1) 6 (118 + 3 * a) (118 + 3 * b) (nI (1 + (gB S).1)) F (nI x) h = (s_Replacement_gives 11 100 0 (118 + 3 * a) 0 (nI (gT S a).1) g2).bind fun q20 => s_Rules_isByInduction_104 (s_Rules_isByInduction_56 r) 20000 6 (118 + 3 * a) (118 + 3 * b) (nI (1 + (gB S).1)) F (nI x) q20.1 0 q20.2 := by
      rw [s_Rules_isByInduction_56]
      dsimp only
      rw [if_neg (show ¬ 8 ≤ nI x from nI_ge (b := 8) hx (by omega)), rR_6_4, ob_s, rR_6_3, ob_s, rK_11, ob_s, show s_Replacement_beginWith 11 103 (nI x) 0 h = some g1 from e1, ob_s, rK_6, ob_s, e2, ob_s, rR_6_4, ob_s, rR_6_0, ob_s, t_kd cta.1.1, ob_s, len_t cta, ob_s, rK_11, ob_s]
    by_cases hP : P12 S E (gT S a) z0 x 1 1 0
    · obtain ⟨v, e3⟩ := q1 hP
      have hk3 : kq g2 (nw g2 v) := kq_nw (kq.rf _)
      have k3 := k2.tr hk3
      rw [show s_Replacement_gives 11 100 0 (118 + 3 * a) 0 (nI (gT S a).1) g2 = some (1, nw g2 v) from e3, ob_s] at e0
      dsimp only at e0
      obtain ⟨y1, y2⟩ := c_yl (c56 := s_Rules_isByInduction_56 r) (X1 := 118 + 3 * a) (x := x) hw hK hb hx hF hKt 8 0 20000 (nw g2 v) (by omega) (by omega) (CA_kq k3 hw hc) (cE_kq k3 (Or.inl rfl) hE) hu2 (fun l hl => by rw [nw_I (by decide)]; exact hS2 l hl)
      by_cases hY : ∃ y', 0 ≤ y' ∧ y' < 8 ∧ Q12 S E b x y'
      · obtain ⟨h', a1, a2⟩ := y1 hY
        obtain ⟨y', _, z2, z3⟩ := hY
        refine ⟨fun _ => ⟨h', ?_, k3.tr a2⟩, fun z => absurd ⟨x, Nat.le_refl _, hx, hP, y', z2, z3⟩ z⟩
        rw [e0]
        exact a1
      · obtain ⟨h', a1, a2⟩ := y2 hY
        have k4 := k3.tr a2
        have e5 : s_Rules_isByInduction_56 (r + 1) 6 (118 + 3 * a) (118 + 3 * b) (nI (1 + (gB S).1)) F (nI x) h = s_Rules_isByInduction_56 r 6 (118 + 3 * a) (118 + 3 * b) (nI (1 + (gB S).1)) F (nI (x + 1)) h' := by
          rw [e0]
          exact a1
        obtain ⟨i1, i2⟩ := ih (x + 1) r h' (by omega) (by omega) (CA_kq k4 hw hc) (cE_kq k4 (Or.inl rfl) hE)
        rw [e5]
        constructor
        · intro ⟨x', z1, z2, z3, y', z4, z5⟩
          have hne : x' ≠ x := fun z => hY ⟨y', Nat.zero_le _, z4, by rw [← z]; exact z5⟩
          obtain ⟨h'', b1, b2⟩ := i1 ⟨x', by omega, z2, z3, y', z4, z5⟩
          exact ⟨h'', b1, k4.tr b2⟩
        · intro z
          obtain ⟨h'', b1, b2⟩ := i2 (fun ⟨x', z1, z2, z3⟩ => z ⟨x', by omega, z2, z3⟩)
          exact ⟨h'', b1, k4.tr b2⟩
    · obtain ⟨v, e3⟩ := q2 hP
      have hk3 : kq g2 (nw g2 v) := kq_nw (kq.rf _)
      have k4 := k2.tr hk3
      rw [show s_Replacement_gives 11 100 0 (118 + 3 * a) 0 (nI (gT S a).1) g2 = some (0, nw g2 v) from e3, ob_s] at e0
      dsimp only at e0
      have e5 : s_Rules_isByInduction_56 (r + 1) 6 (118 + 3 * a) (118 + 3 * b) (nI (1 + (gB S).1)) F (nI x) h = s_Rules_isByInduction_56 r 6 (118 + 3 * a) (118 + 3 * b) (nI (1 + (gB S).1)) F (nI (x + 1)) (nw g2 v) := by
        rw [e0, show (20000 : Nat) = 19999 + 1 from rfl, s_Rules_isByInduction_104]
        dsimp only
        unfold s_Rules_isByInduction_182
        rw [if_neg (show ¬ (8 : Int32) ≤ 0 by decide), if_pos rfl, nI_1]
      obtain ⟨i1, i2⟩ := ih (x + 1) r (nw g2 v) (by omega) (by omega) (CA_kq k4 hw hc) (cE_kq k4 (Or.inl rfl) hE)
      rw [e5]
      constructor
      · intro ⟨x', z1, z2, z3, z4⟩
        have hne : x' ≠ x := fun z => hP (by rw [← z]; exact z3)
        obtain ⟨h'', b1, b2⟩ := i1 ⟨x', by omega, z2, z3, z4⟩
        exact ⟨h'', b1, k4.tr b2⟩
      · intro z
        obtain ⟨h'', b1, b2⟩ := i2 (fun ⟨x', z1, z2, z3⟩ => z ⟨x', by omega, z2, z3⟩)
        exact ⟨h'', b1, k4.tr b2⟩
end
