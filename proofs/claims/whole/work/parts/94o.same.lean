/-! The same characters at two places; one way to read. -/
/-- m characters of the second text from f on stand in the first at a -/
def eqt (n1 : Nat) (t1 : Nat → Int32) (a : Nat) (t2 : Nat → Int32) (f m : Nat) : Prop := ∀ j, j < m → a + j < n1 ∧ t1 (a + j) = t2 (f + j)
theorem ok_0 {c : Int32} (h : okC c) : c ≠ 0 := by
  intro q
  rw [q] at h
  exact absurd h.1 (by decide)
theorem hs_loop {h : HP} {t1 t2 : Nat} {x1 x2 : TX} (c1 : cT h t1 x1) (c2 : cT h t2 x2) (ok1 : ∀ p, p < x1.1 → okC (x1.2.1 p)) {a f m : Nat} (hf : f + m ≤ x2.1) (ha : a < 1000) : ∀ (i k r : Nat), k + i = m → i < r → ((∀ j, k ≤ j → j < m → a + j < x1.1 ∧ x1.2.1 (a + j) = x2.2.1 (f + j)) → s_Text_has_3 r t1 (nI a) t2 (nI f) (nI (f + m)) (nI k) h = some 1) ∧ (¬ (∀ j, k ≤ j → j < m → a + j < x1.1 ∧ x1.2.1 (a + j) = x2.2.1 (f + j)) → s_Text_has_3 r t1 (nI a) t2 (nI f) (nI (f + m)) (nI k) h = some 0) := by
  have h60 := c1.1.2.2
  have h60' := c2.1.2.2
  intro i
  induction i with
  | zero =>
    intro k r h1 h2
    obtain ⟨r, rfl⟩ : ∃ r0, r = r0 + 1 := ⟨r - 1, by omega⟩
    refine ⟨fun _ => ?_, fun q => absurd (fun j z1 z2 => absurd z1 (by omega)) q⟩
    rw [s_Text_has_3]
    dsimp only
    by_cases h60k : 60 ≤ k
    · rw [if_pos (show 60 ≤ nI k from nI_le (a := 60) h60k (by omega))]
    · rw [if_neg (show ¬ 60 ≤ nI k from nI_ge (b := 60) (by omega) (by omega)), nI_add, if_pos (nI_le (by omega) (by omega))]
  | succ i ih =>
    intro k r h1 h2
    obtain ⟨r, rfl⟩ : ∃ r0, r = r0 + 1 := ⟨r - 1, by omega⟩
    obtain ⟨i1, i2⟩ := ih (k + 1) r (by omega) (by omega)
    have e0 : s_Text_has_3 (r + 1) t1 (nI a) t2 (nI f) (nI (f + m)) (nI k) h = if (if a + k < x1.1 then x1.2.1 (a + k) else 0) = 0 then some 0 else if (if a + k < x1.1 then x1.2.1 (a + k) else 0) = x2.2.1 (f + k) then s_Text_has_3 r t1 (nI a) t2 (nI f) (nI (f + m)) (nI (k + 1)) h else some 0 := by
      rw [s_Text_has_3]
      dsimp only
      rw [if_neg (show ¬ 60 ≤ nI k from nI_ge (b := 60) (by omega) (by omega)), nI_add, if_neg (nI_ge (by omega) (by omega)), t_kd c1.1.1, ob_s, nI_add, p_at c1.1 (by omega), ob_s, cT_tc c1, t_kd c2.1.1, ob_s, p_at c2.1 (by omega), ob_s, cT_tc c2, if_pos (show f + k < x2.1 by omega), nI_1]
    rw [e0]
    by_cases hin : a + k < x1.1
    · rw [if_pos hin, if_neg (ok_0 (ok1 _ hin))]
      by_cases heq : x1.2.1 (a + k) = x2.2.1 (f + k)
      · rw [if_pos heq]
        refine ⟨fun q => i1 (fun j z1 z2 => q j (by omega) z2), fun q => i2 (fun z => q (fun j z1 z2 => ?_))⟩
        by_cases hjk : j = k
        · rw [hjk]; exact ⟨hin, heq⟩
        · exact z j (by omega) z2
      · rw [if_neg heq]
        exact ⟨fun q => absurd (q k (Nat.le_refl _) (by omega)).2 heq, fun _ => rfl⟩
    · rw [if_neg hin, if_pos rfl]
      exact ⟨fun q => absurd (q k (Nat.le_refl _) (by omega)).1 hin, fun _ => rfl⟩
theorem c_hs {h : HP} {t1 t2 : Nat} {x1 x2 : TX} (c1 : cT h t1 x1) (c2 : cT h t2 x2) (ok1 : ∀ p, p < x1.1 → okC (x1.2.1 p)) {a f to : Nat} (hft : f ≤ to) (hf : to ≤ x2.1) (ha : a < 1000) : (eqt x1.1 x1.2.1 a x2.2.1 f (to - f) → s_Text_has t1 (nI a) t2 (nI f) (nI to) h = some 1) ∧ (¬ eqt x1.1 x1.2.1 a x2.2.1 f (to - f) → s_Text_has t1 (nI a) t2 (nI f) (nI to) h = some 0) := by
  have h60' := c2.1.2.2
  have := hs_loop c1 c2 ok1 (a := a) (f := f) (m := to - f) (by omega) ha (to - f) 0 20000 (by omega) (by omega)
  rw [show f + (to - f) = to by omega] at this
  unfold s_Text_has
  exact ⟨fun q => this.1 (fun j _ z => q j z), fun q => this.2 (fun z => q (fun j y => z j (Nat.zero_le _) y))⟩
theorem sm_0 {H : HP} {a b m : Nat} : ∀ (i k r : Nat), k + i = m → i < r → m < 2 ^ 30 → s_AdjoinedSetsModel_isSame_6 r 200 (nI a) (nI b) (nI m) 0 (nI k) H = some 0 := by
  intro i
  induction i with
  | zero =>
    intro k r h1 h2 h3
    obtain ⟨r, rfl⟩ : ∃ r0, r = r0 + 1 := ⟨r - 1, by omega⟩
    rw [s_AdjoinedSetsModel_isSame_6]
    dsimp only
    rw [if_pos (nI_le (by omega) (by omega))]
    rfl
  | succ i ih =>
    intro k r h1 h2 h3
    obtain ⟨r, rfl⟩ : ∃ r0, r = r0 + 1 := ⟨r - 1, by omega⟩
    rw [s_AdjoinedSetsModel_isSame_6]
    dsimp only
    unfold s_AdjoinedSetsModel_isSame_42 s_AdjoinedSetsModel_isSame_43
    rw [if_neg (nI_ge (by omega) (by omega)), if_pos rfl, nI_1]
    exact ih (k + 1) r (by omega) (by omega) h3
theorem sm_loop {H : HP} {a b m : Nat} (ha : a + m ≤ 1500) (hb : b + m ≤ 1500) : ∀ (i k r : Nat), k + i = m → i < r → ((∀ j, k ≤ j → j < m → H.1 201 (a + j) = H.1 201 (b + j)) → s_AdjoinedSetsModel_isSame_6 r 200 (nI a) (nI b) (nI m) 1 (nI k) H = some 1) ∧ (¬ (∀ j, k ≤ j → j < m → H.1 201 (a + j) = H.1 201 (b + j)) → s_AdjoinedSetsModel_isSame_6 r 200 (nI a) (nI b) (nI m) 1 (nI k) H = some 0) := by
  intro i
  induction i with
  | zero =>
    intro k r h1 h2
    obtain ⟨r, rfl⟩ : ∃ r0, r = r0 + 1 := ⟨r - 1, by omega⟩
    refine ⟨fun _ => ?_, fun q => absurd (fun j z1 z2 => absurd z1 (by omega)) q⟩
    rw [s_AdjoinedSetsModel_isSame_6]
    dsimp only
    rw [if_pos (nI_le (by omega) (by omega))]
    rfl
  | succ i ih =>
    intro k r h1 h2
    obtain ⟨r, rfl⟩ : ∃ r0, r = r0 + 1 := ⟨r - 1, by omega⟩
    obtain ⟨i1, i2⟩ := ih (k + 1) r (by omega) (by omega)
    rw [s_AdjoinedSetsModel_isSame_6]
    dsimp only
    unfold s_AdjoinedSetsModel_isSame_42 s_AdjoinedSetsModel_isSame_43
    rw [if_neg (nI_ge (by omega) (by omega)), if_neg (by decide), rR_200_0, ob_s, nI_add, rA_201 (by omega), ob_s, ob_s, nI_add, rA_201 (by omega), ob_s, nI_1]
    by_cases heq : H.1 201 (a + k) = H.1 201 (b + k)
    · rw [if_pos heq]
      refine ⟨fun q => i1 (fun j z1 z2 => q j (by omega) z2), fun q => i2 (fun z => q (fun j z1 z2 => ?_))⟩
      by_cases hjk : j = k
      · rw [hjk]; exact heq
      · exact z j (by omega) z2
    · rw [if_neg heq]
      exact ⟨fun q => absurd (q k (Nat.le_refl _) (by omega)) heq, fun _ => sm_0 i (k + 1) r (by omega) (by omega) (by omega)⟩
theorem m_sm {H : HP} {a b m : Nat} (ha : a + m ≤ 1500) (hb : b + m ≤ 1500) : ((∀ j, j < m → H.1 201 (a + j) = H.1 201 (b + j)) → s_AdjoinedSetsModel_isSame 200 (nI a) (nI b) (nI m) H = some 1) ∧ (¬ (∀ j, j < m → H.1 201 (a + j) = H.1 201 (b + j)) → s_AdjoinedSetsModel_isSame 200 (nI a) (nI b) (nI m) H = some 0) := by
  have := sm_loop (H := H) ha hb m 0 20000 (by omega) (by omega)
  unfold s_AdjoinedSetsModel_isSame
  exact ⟨fun q => this.1 (fun j _ z => q j z), fun q => this.2 (fun z => q (fun j y => z j (Nat.zero_le _) y))⟩
/-- the same, as texts -/
theorem m_sm2 {H : HP} {x1 x2 : TX} {o1 o2 a f m : Nat} (t1 : mT H o1 x1) (t2 : mT H o2 x2) (ha : a + m ≤ x1.1) (hf : f + m ≤ x2.1) (h1 : o1 + x1.1 ≤ 1500) (h2 : o2 + x2.1 ≤ 1500) : (eqt x1.1 x1.2.1 a x2.2.1 f m → s_AdjoinedSetsModel_isSame 200 (nI (o1 + a)) (nI (o2 + f)) (nI m) H = some 1) ∧ (¬ eqt x1.1 x1.2.1 a x2.2.1 f m → s_AdjoinedSetsModel_isSame 200 (nI (o1 + a)) (nI (o2 + f)) (nI m) H = some 0) := by
  have e : (∀ j, j < m → H.1 201 (o1 + a + j) = H.1 201 (o2 + f + j)) ↔ eqt x1.1 x1.2.1 a x2.2.1 f m := by
    constructor
    · intro q j hj
      refine ⟨by omega, ?_⟩
      have := q j hj
      rw [Nat.add_assoc, Nat.add_assoc, t1 (a + j) (by omega), t2 (f + j) (by omega)] at this
      exact this
    · intro q j hj
      rw [Nat.add_assoc, Nat.add_assoc, t1 (a + j) (by omega), t2 (f + j) (by omega)]
      exact (q j hj).2
  have := m_sm (H := H) (a := o1 + a) (b := o2 + f) (m := m) (by omega) (by omega)
  exact ⟨fun q => this.1 (e.mpr q), fun q => this.2 (fun z => q (e.mp z))⟩
-- KD as one shape: a head, and parts whose number and kinds hang on the head
def bn4 (c : Int32) : Prop := c = 123 ∨ c = 73 ∨ c = 69 ∨ c = 76
def arN (K : Nat → Nat) (b : Bool) (c : Int32) : Nat := match b with
  | true => if c = 33 then 1 else 2
  | false => if 48 ≤ c ∧ c ≤ 57 then 0 else if 97 ≤ c ∧ c < 105 then 0 else if 65 ≤ c ∧ c < 69 then K (fnN c) else if c = 85 ∨ c = 80 ∨ c = 84 then 1 else 2
def kdB (b : Bool) (c : Int32) (i : Nat) : Bool := match b with
  | true => if c = 60 ∨ c = 61 then false else if c = 69 ∨ c = 76 then decide (i = 1) else true
  | false => if c = 123 then decide (i = 1) else false
def fsN (c : Int32) : Nat := if c = 123 ∨ c = 73 ∨ c = 69 ∨ c = 76 then 2 else 1
def pc (R : Bool → Nat → Nat → Prop) (bs : Nat → Bool) : Nat → Nat → Nat → Nat → Prop
  | 0 => fun _ p e => p = e
  | m + 1 => fun i p e => ∃ q, R (bs i) p q ∧ pc R bs m (i + 1) q e
theorem pc_its {R : Bool → Nat → Nat → Prop} {bs : Nat → Bool} : ∀ (m i p e : Nat), (∀ j, i ≤ j → j < i + m → bs j = false) → its (R false) m p e → pc R bs m i p e := by
  intro m
  induction m with
  | zero => intro i p e _ h; exact h
  | succ m ih =>
    intro i p e hb h
    obtain ⟨q, a, b⟩ := h
    refine ⟨q, by rw [hb i (Nat.le_refl _) (by omega)]; exact a, ih (i + 1) q e (fun j z1 z2 => hb j (by omega) (by omega)) b⟩
theorem KD_v {K : Nat → Nat} {t E : Nat → Int32} {d : Nat} {b : Bool} {p e : Nat} (h : KD K t E (d + 1) b p e) : E p = nI e ∧ p < e ∧ (bn4 (t p) → isLw (t (p + 1))) ∧ pc (KD K t E d) (kdB b (t p)) (arN K b (t p)) 0 (p + fsN (t p)) e := by
  obtain ⟨h1, h2, h3⟩ := h
  refine ⟨h1, h2, ?_⟩
  cases b with
  | true =>
    rcases h3 with ⟨hc, q, k1, k2⟩ | ⟨hc, k1⟩ | ⟨hc, q, k1, k2⟩ | ⟨hc, hL, q, k1, k2⟩
    · rcases hc with z | z <;> rw [z] <;> exact ⟨fun q => absurd q (by unfold bn4; decide), q, k1, e, k2, rfl⟩
    · rw [hc]; exact ⟨fun q => absurd q (by unfold bn4; decide), e, k1, rfl⟩
    · rcases hc with z | z | z <;> rw [z] <;> exact ⟨fun q => absurd q (by unfold bn4; decide), q, k1, e, k2, rfl⟩
    · rcases hc with z | z <;> rw [z] <;> exact ⟨fun _ => hL, q, k1, e, k2, rfl⟩
  | false =>
    rcases h3 with ⟨hc, hx⟩ | ⟨hc, hx⟩ | ⟨hc, hk0, hi⟩ | ⟨hc, q, k1, k2⟩ | ⟨hc, k1⟩ | ⟨hc, hL, q, k1, k2⟩ | ⟨hc, hL, q, k1, k2⟩
    · obtain ⟨j, hj, hcj⟩ := dg_j hc
      have hall : ∀ j, j < 10 → ¬ (nI (48 + j) = 123 ∨ nI (48 + j) = 73 ∨ nI (48 + j) = 69 ∨ nI (48 + j) = 76) := by decide
      have z3 := hall j hj
      rw [← hcj] at z3
      refine ⟨fun q => absurd q z3, ?_⟩
      unfold arN fsN
      dsimp only
      rw [if_pos hc, if_neg z3]
      exact hx.symm
    · obtain ⟨j, j1, j2, hcj⟩ := lw_q hc
      have hall : ∀ j, j < 105 → 97 ≤ j → ¬ (48 ≤ nI j ∧ nI j ≤ 57) ∧ ¬ (nI j = 123 ∨ nI j = 73 ∨ nI j = 69 ∨ nI j = 76) := by decide
      obtain ⟨z1, z3⟩ := hall j j2 j1
      rw [← hcj] at z1 z3
      refine ⟨fun q => absurd q z3, ?_⟩
      unfold arN fsN
      dsimp only
      rw [if_neg z1, if_pos (show 97 ≤ t p ∧ t p < 105 from hc), if_neg z3]
      exact hx.symm
    · have hfn := fn_n hc
      have hj : t p = nI (65 + fnN (t p)) := by
        rw [← nI_add, ← hfn.1]
        show t p = 65 + (t p - 65)
        rw [Int32.add_comm, Int32.sub_add_cancel]
      have hall : ∀ j, j < 4 → ¬ (48 ≤ nI (65 + j) ∧ nI (65 + j) ≤ 57) ∧ ¬ (97 ≤ nI (65 + j) ∧ nI (65 + j) < 105) ∧ ¬ (nI (65 + j) = 123 ∨ nI (65 + j) = 73 ∨ nI (65 + j) = 69 ∨ nI (65 + j) = 76) := by decide
      obtain ⟨z1, z2, z3⟩ := hall _ hfn.2
      rw [← hj] at z1 z2 z3
      refine ⟨fun q => absurd q z3, ?_⟩
      unfold arN fsN
      dsimp only
      rw [if_neg z1, if_neg z2, if_pos hc, if_neg z3]
      refine pc_its _ _ _ _ (fun j _ _ => ?_) hi
      unfold kdB
      dsimp only
      rw [if_neg (fun q => z3 (Or.inl q))]
    · rcases hc with z | z | z | z <;> rw [z] <;> exact ⟨fun q => absurd q (by unfold bn4; decide), q, k1, e, k2, rfl⟩
    · rcases hc with z | z | z <;> rw [z] <;> exact ⟨fun q => absurd q (by unfold bn4; decide), e, k1, rfl⟩
    · rw [hc]; exact ⟨fun _ => hL, q, k1, e, k2, rfl⟩
    · rw [hc]; exact ⟨fun _ => hL, q, k1, e, k2, rfl⟩
theorem pc_le {K : Nat → Nat} {t E : Nat → Int32} {d : Nat} {bs : Nat → Bool} : ∀ (m i p e : Nat), pc (KD K t E d) bs m i p e → p ≤ e := by
  intro m
  induction m with
  | zero => intro i p e h; exact Nat.le_of_eq h
  | succ m ih =>
    intro i p e h
    obtain ⟨q, a, b⟩ := h
    have := KD_lt a
    have := ih _ _ _ b
    omega
/-- one way to read: the same characters end alike -/
theorem KD_pre {K : Nat → Nat} {t E t' E' : Nat → Int32} : ∀ (d d' : Nat) (b : Bool) (p e p' e' : Nat), KD K t E d b p e → KD K t' E' d' b p' e' → (∀ k, k < e - p → k < e' - p' → t (p + k) = t' (p' + k)) → e - p = e' - p' := by
  intro d
  induction d with
  | zero => intro d' b p e p' e' h; exact absurd h (fun z => z)
  | succ d ih =>
    intro d' b p e p' e' h h' hag
    cases d' with
    | zero => exact absurd h' (fun z => z)
    | succ d' =>
      obtain ⟨_, a2, _, a4⟩ := KD_v h
      obtain ⟨_, b2, _, b4⟩ := KD_v h'
      have e0 : t p = t' p' := hag 0 (by omega) (by omega)
      rw [← e0] at b4
      have sub : ∀ (m i q q' : Nat), pc (KD K t E d) (kdB b (t p)) m i q e → pc (KD K t' E' d') (kdB b (t p)) m i q' e' → p ≤ q → p' ≤ q' → q - p = q' - p' → e - q = e' - q' := by
        intro m
        induction m with
        | zero =>
          intro i q q' z z' _ _ _
          have z : q = e := z
          have z' : q' = e' := z'
          omega
        | succ m ih2 =>
          intro i q q' z z' h1 h2 h3
          obtain ⟨r, c1, c2⟩ := z
          obtain ⟨r', c1', c2'⟩ := z'
          have l1 := KD_lt c1
          have l1' := KD_lt c1'
          have l2 := pc_le _ _ _ _ c2
          have l2' := pc_le _ _ _ _ c2'
          have er := ih d' _ q r q' r' c1 c1' (fun k z1 z2 => by
            have := hag (q - p + k) (by omega) (by omega)
            rw [show p + (q - p + k) = q + k by omega, show p' + (q - p + k) = q' + k by omega] at this
            exact this)
          have := ih2 (i + 1) r r' c2 c2' (by omega) (by omega) (by omega)
          omega
      have hs : ∀ c, 1 ≤ fsN c := by
        intro c
        unfold fsN
        split <;> omega
      have := sub _ _ _ _ a4 b4 (by omega) (by omega) (by omega)
      have l2 := pc_le _ _ _ _ a4
      have l2' := pc_le _ _ _ _ b4
      omega
