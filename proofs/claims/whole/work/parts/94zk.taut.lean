/-! Rule 0: the parts of a formula and its truth, as mathematics. -/
abbrev ST : Type := Nat × (Nat → Nat) × (Nat → Nat)
def smP (t E : Nat → Int32) (a p : Nat) : Prop := (E a).toNatClampNeg - a = (E p).toNatClampNeg - p ∧ ∀ j, j < (E a).toNatClampNeg - a → t (a + j) = t (p + j)
def smB (t E : Nat → Int32) (a p : Nat) : Bool := decide ((E a).toNatClampNeg - a = (E p).toNatClampNeg - p ∧ ∀ j, j < (E a).toNatClampNeg - a → t (a + j) = t (p + j))
theorem smB_P {t E : Nat → Int32} {a p : Nat} : smB t E a p = true ↔ smP t E a p := by
  unfold smB smP
  exact decide_eq_true_iff
theorem smP_sym {t E : Nat → Int32} {a p : Nat} (h : smP t E a p) : smP t E p a := ⟨h.1.symm, fun j hj => (h.2 j (by rw [h.1]; exact hj)).symm⟩
theorem smP_tr {t E : Nat → Int32} {a b c : Nat} (h1 : smP t E a b) (h2 : smP t E b c) : smP t E a c := ⟨h1.1.trans h2.1, fun j hj => (h1.2 j hj).trans (h2.2 j (by rw [← h1.1]; exact hj))⟩
/-- the first part, from k on, that is the same -/
def fndF (t E : Nat → Int32) (pl : Nat → Nat) (p : Nat) : Nat → Nat → Nat
  | 0 => fun k => k
  | m + 1 => fun k => if smB t E (pl k) p = true then k else fndF t E pl p m (k + 1)
theorem fnd_v {t E : Nat → Int32} {pl : Nat → Nat} {p : Nat} : ∀ (m k : Nat), k ≤ fndF t E pl p m k ∧ fndF t E pl p m k ≤ k + m ∧ (fndF t E pl p m k < k + m → smP t E (pl (fndF t E pl p m k)) p) ∧ ∀ i, k ≤ i → i < fndF t E pl p m k → ¬ smP t E (pl i) p := by
  intro m
  induction m with
  | zero =>
    intro k
    rw [fndF]
    dsimp only
    exact ⟨Nat.le_refl _, Nat.le_refl _, fun h => absurd h (by omega), fun i h1 h2 => absurd h1 (by omega)⟩
  | succ m ih =>
    intro k
    rw [fndF]
    dsimp only
    by_cases h : smB t E (pl k) p = true
    · rw [if_pos h]
      exact ⟨Nat.le_refl _, by omega, fun _ => smB_P.mp h, fun i h1 h2 => absurd h1 (by omega)⟩
    · rw [if_neg h]
      obtain ⟨a1, a2, a3, a4⟩ := ih (k + 1)
      refine ⟨by omega, by omega, fun h2 => a3 (by omega), fun i h1 h2 => ?_⟩
      by_cases hik : i = k
      · rw [hik]
        exact fun z => h (smB_P.mpr z)
      · exact a4 i (by omega) h2
def upN (f : Nat → Nat) (i v : Nat) : Nat → Nat := fun q => if q = i then v else f q
def cntP (t E : Nat → Int32) (p : Nat) (s : ST) : Option ST := if 6 ≤ fndF t E s.2.1 p s.1 0 then none else some (if fndF t E s.2.1 p s.1 0 = s.1 then s.1 + 1 else s.1, if fndF t E s.2.1 p s.1 0 = s.1 then upN s.2.1 s.1 p else s.2.1, upN s.2.2 p (fndF t E s.2.1 p s.1 0))
def WK (t E : Nat → Int32) : Nat → Nat → ST → Option ST
  | 0 => fun _ _ => none
  | d + 1 => fun p s => if t p = 33 then WK t E d (p + 1) s else if t p = 94 ∨ t p = 118 ∨ t p = 62 then (WK t E d (p + 1) s).bind (WK t E d (E (p + 1)).toNatClampNeg) else cntP t E p s
def bop (c : Int32) (a b : Bool) : Bool := if c = 94 then a && b else if c = 118 then a || b else !a || b
def TV (t E : Nat → Int32) (at' : Nat → Nat) (v : Nat → Bool) : Nat → Nat → Bool
  | 0 => fun _ => false
  | d + 1 => fun p => if t p = 33 then !(TV t E at' v d (p + 1)) else if t p = 94 ∨ t p = 118 ∨ t p = 62 then bop (t p) (TV t E at' v d (p + 1)) (TV t E at' v d (E (p + 1)).toNatClampNeg) else v (at' p)
/-- every part has a number below c -/
def AS (t E : Nat → Int32) (at' : Nat → Nat) (c : Nat) : Nat → Nat → Prop
  | 0 => fun _ => False
  | d + 1 => fun p => (t p = 33 → AS t E at' c d (p + 1)) ∧ ((t p = 94 ∨ t p = 118 ∨ t p = 62) → AS t E at' c d (p + 1) ∧ AS t E at' c d (E (p + 1)).toNatClampNeg) ∧ (¬ (t p = 33 ∨ t p = 94 ∨ t p = 118 ∨ t p = 62) → at' p < c)
section
variable {K : Nat → Nat} {t E : Nat → Int32}
/-- a formula: not, two, or a part -/
theorem KD_f {d p e : Nat} (h : KD K t E (d + 1) true p e) : (t p = 33 ∧ KD K t E d true (p + 1) e) ∨ ((t p = 94 ∨ t p = 118 ∨ t p = 62) ∧ ∃ q, KD K t E d true (p + 1) q ∧ KD K t E d true q e) ∨ ¬ (t p = 33 ∨ t p = 94 ∨ t p = 118 ∨ t p = 62) := by
  rcases h.2.2 with ⟨z, _⟩ | ⟨z, k⟩ | ⟨z, q, k1, k2⟩ | ⟨z, _⟩
  · exact Or.inr (Or.inr (by rcases z with z | z <;> rw [z] <;> decide))
  · exact Or.inl ⟨z, k⟩
  · exact Or.inr (Or.inl ⟨z, q, k1, k2⟩)
  · exact Or.inr (Or.inr (by rcases z with z | z <;> rw [z] <;> decide))
theorem WK_n {d p : Nat} {s : ST} (h : t p = 33) : WK t E (d + 1) p s = WK t E d (p + 1) s := if_pos h
theorem WK_b {d p : Nat} {s : ST} (h : t p = 94 ∨ t p = 118 ∨ t p = 62) : WK t E (d + 1) p s = (WK t E d (p + 1) s).bind (WK t E d (E (p + 1)).toNatClampNeg) := by
  have hn : ¬ t p = 33 := by rcases h with z | z | z <;> rw [z] <;> decide
  rw [WK]
  dsimp only
  rw [if_neg hn, if_pos h]
theorem WK_a {d p : Nat} {s : ST} (h : ¬ (t p = 33 ∨ t p = 94 ∨ t p = 118 ∨ t p = 62)) : WK t E (d + 1) p s = cntP t E p s := by
  rw [WK]
  dsimp only
  rw [if_neg (fun z => h (Or.inl z)), if_neg (fun z => h (Or.inr z))]
theorem TV_n {d p : Nat} {a : Nat → Nat} {v : Nat → Bool} (h : t p = 33) : TV t E a v (d + 1) p = !(TV t E a v d (p + 1)) := if_pos h
theorem TV_b {d p : Nat} {a : Nat → Nat} {v : Nat → Bool} (h : t p = 94 ∨ t p = 118 ∨ t p = 62) : TV t E a v (d + 1) p = bop (t p) (TV t E a v d (p + 1)) (TV t E a v d (E (p + 1)).toNatClampNeg) := by
  have hn : ¬ t p = 33 := by rcases h with z | z | z <;> rw [z] <;> decide
  rw [TV]
  dsimp only
  rw [if_neg hn, if_pos h]
theorem TV_a {d p : Nat} {a : Nat → Nat} {v : Nat → Bool} (h : ¬ (t p = 33 ∨ t p = 94 ∨ t p = 118 ∨ t p = 62)) : TV t E a v (d + 1) p = v (a p) := by
  rw [TV]
  dsimp only
  rw [if_neg (fun z => h (Or.inl z)), if_neg (fun z => h (Or.inr z))]
theorem AS_m {a a' : Nat → Nat} {c c' : Nat} (hc : c ≤ c') : ∀ (d p e : Nat), KD K t E d true p e → e ≤ 60 → (∀ q, p ≤ q → q < e → a' q = a q) → AS t E a c d p → AS t E a' c' d p := by
  intro d
  induction d with
  | zero => intro p e h; exact absurd h (fun z => z)
  | succ d ih =>
    intro p e h he ha hA
    have hpe := KD_lt h
    rcases KD_f h with ⟨hc1, k⟩ | ⟨hc2, q, k1, k2⟩ | hn
    · have hn2 : ¬ (t p = 94 ∨ t p = 118 ∨ t p = 62) := by rw [hc1]; decide
      exact ⟨fun _ => ih _ _ k he (fun q h1 h2 => ha q (by omega) h2) (hA.1 hc1), fun z => absurd z hn2, fun z => absurd (Or.inl hc1) z⟩
    · have l1 := KD_lt k1
      have l2 := KD_lt k2
      have hn2 : ¬ t p = 33 := by rcases hc2 with z | z | z <;> rw [z] <;> decide
      have hcl : (E (p + 1)).toNatClampNeg = q := nI_cl (KD_end k1) (by omega)
      obtain ⟨a1, a2⟩ := hA.2.1 hc2
      rw [hcl] at a2
      refine ⟨fun z => absurd z hn2, fun _ => ⟨ih _ _ k1 (by omega) (fun q h1 h2 => ha q (by omega) (by omega)) a1, ?_⟩, fun z => absurd (Or.inr hc2) z⟩
      rw [hcl]
      exact ih _ _ k2 he (fun q h1 h2 => ha q (by omega) h2) a2
    · refine ⟨fun z => absurd (Or.inl z) hn, fun z => absurd (Or.inr z) hn, fun _ => ?_⟩
      rw [ha p (Nat.le_refl _) hpe]
      have := hA.2.2 hn
      omega
theorem TV_cg {a a' : Nat → Nat} {v v' : Nat → Bool} {c : Nat} (hv : ∀ l, l < c → v' l = v l) : ∀ (d p e : Nat), KD K t E d true p e → e ≤ 60 → (∀ q, p ≤ q → q < e → a' q = a q) → AS t E a c d p → TV t E a' v' d p = TV t E a v d p := by
  intro d
  induction d with
  | zero => intro p e h; exact absurd h (fun z => z)
  | succ d ih =>
    intro p e h he ha hA
    have hpe := KD_lt h
    rcases KD_f h with ⟨hc1, k⟩ | ⟨hc2, q, k1, k2⟩ | hn
    · rw [TV_n hc1, TV_n hc1, ih _ _ k he (fun q h1 h2 => ha q (by omega) h2) (hA.1 hc1)]
    · have l1 := KD_lt k1
      have l2 := KD_lt k2
      have hcl : (E (p + 1)).toNatClampNeg = q := nI_cl (KD_end k1) (by omega)
      obtain ⟨a1, a2⟩ := hA.2.1 hc2
      rw [hcl] at a2
      rw [TV_b hc2, TV_b hc2, hcl, ih _ _ k1 (by omega) (fun q h1 h2 => ha q (by omega) (by omega)) a1, ih _ _ k2 he (fun q h1 h2 => ha q (by omega) h2) a2]
    · rw [TV_a hn, TV_a hn, ha p (Nat.le_refl _) hpe, hv _ (hA.2.2 hn)]
/-- the parts so far: formulas, and no two the same -/
def GD (K : Nat → Nat) (t E : Nat → Int32) (n : Nat) (s : ST) : Prop := s.1 ≤ 6 ∧ (∀ k, k < s.1 → ∃ d e, KD K t E d true (s.2.1 k) e ∧ e ≤ n) ∧ ∀ k k', k < s.1 → k' < s.1 → smP t E (s.2.1 k) (s.2.1 k') → k = k'
theorem cnt_f {n d p e : Nat} {s s' : ST} (hG : GD K t E n s) (hK : KD K t E d true p e) (he : e ≤ n) (h : cntP t E p s = some s') : GD K t E n s' ∧ s.1 ≤ s'.1 ∧ (∀ q, q ≠ p → s'.2.2 q = s.2.2 q) ∧ s'.2.2 p < s'.1 := by
  obtain ⟨g1, g2, g3⟩ := hG
  obtain ⟨_, f2, f3, f4⟩ := fnd_v (t := t) (E := E) (pl := s.2.1) (p := p) s.1 0
  rw [Nat.zero_add] at f2 f3
  unfold cntP at h
  generalize hk : fndF t E s.2.1 p s.1 0 = k at h f2 f3 f4
  by_cases h6 : 6 ≤ k
  · rw [if_pos h6] at h; cases h
  rw [if_neg h6] at h
  have h := Option.some.inj h
  subst h
  by_cases hks : k = s.1
  · rw [if_pos hks, if_pos hks]
    refine ⟨⟨by show s.1 + 1 ≤ 6; omega, fun i hi => ?_, fun i i' hi hi' hsm => ?_⟩, by show s.1 ≤ s.1 + 1; omega, fun q hq => if_neg hq, ?_⟩
    · have hi : i < s.1 + 1 := hi
      show ∃ d e, KD K t E d true (upN s.2.1 s.1 p i) e ∧ e ≤ n
      unfold upN
      by_cases his : i = s.1
      · rw [if_pos his]; exact ⟨d, e, hK, he⟩
      · rw [if_neg his]; exact g2 i (by omega)
    · have hi : i < s.1 + 1 := hi
      have hi' : i' < s.1 + 1 := hi'
      have hsm : smP t E (upN s.2.1 s.1 p i) (upN s.2.1 s.1 p i') := hsm
      unfold upN at hsm
      by_cases his : i = s.1
      · by_cases his' : i' = s.1
        · omega
        · rw [if_pos his, if_neg his'] at hsm
          exact absurd (smP_sym hsm) (f4 i' (Nat.zero_le _) (by omega))
      · by_cases his' : i' = s.1
        · rw [if_neg his, if_pos his'] at hsm
          exact absurd hsm (f4 i (Nat.zero_le _) (by omega))
        · rw [if_neg his, if_neg his'] at hsm
          exact g3 i i' (by omega) (by omega) hsm
    · show upN s.2.2 p k p < s.1 + 1
      unfold upN
      rw [if_pos rfl]
      omega
  · rw [if_neg hks, if_neg hks]
    refine ⟨⟨g1, g2, g3⟩, Nat.le_refl _, fun q hq => if_neg hq, ?_⟩
    show upN s.2.2 p k p < s.1
    unfold upN
    rw [if_pos rfl]
    omega
theorem WK_f {n : Nat} (hn : n ≤ 60) : ∀ (d p e : Nat) (s s' : ST), KD K t E d true p e → e ≤ n → GD K t E n s → WK t E d p s = some s' → GD K t E n s' ∧ s.1 ≤ s'.1 ∧ (∀ q, q < p ∨ e ≤ q → s'.2.2 q = s.2.2 q) ∧ AS t E s'.2.2 s'.1 d p := by
  intro d
  induction d with
  | zero => intro p e s s' h; exact absurd h (fun z => z)
  | succ d ih =>
    intro p e s s' h he hG hW
    have hpe := KD_lt h
    rcases KD_f h with ⟨hc1, k⟩ | ⟨hc2, q, k1, k2⟩ | hna
    · rw [WK_n hc1] at hW
      obtain ⟨a1, a2, a3, a4⟩ := ih _ _ _ _ k he hG hW
      have hn2 : ¬ (t p = 94 ∨ t p = 118 ∨ t p = 62) := by rw [hc1]; decide
      exact ⟨a1, a2, fun q hq => a3 q (by omega), fun _ => a4, fun z => absurd z hn2, fun z => absurd (Or.inl hc1) z⟩
    · have l1 := KD_lt k1
      have l2 := KD_lt k2
      have hn2 : ¬ t p = 33 := by rcases hc2 with z | z | z <;> rw [z] <;> decide
      have hcl : (E (p + 1)).toNatClampNeg = q := nI_cl (KD_end k1) (by omega)
      rw [WK_b hc2, hcl] at hW
      cases h1 : WK t E d (p + 1) s with
      | none => rw [h1] at hW; cases hW
      | some s1 =>
        rw [h1, ob_s] at hW
        obtain ⟨a1, a2, a3, a4⟩ := ih _ _ _ _ k1 (by omega) hG h1
        obtain ⟨b1, b2, b3, b4⟩ := ih _ _ _ _ k2 he a1 hW
        refine ⟨b1, by omega, fun r hr => (b3 r (by omega)).trans (a3 r (by omega)), fun z => absurd z hn2, fun _ => ⟨AS_m b2 _ _ _ k1 (by omega) (fun r h1 h2 => b3 r (by omega)) a4, ?_⟩, fun z => absurd (Or.inr hc2) z⟩
        rw [hcl]
        exact b4
    · rw [WK_a hna] at hW
      obtain ⟨a1, a2, a3, a4⟩ := cnt_f hG h he hW
      exact ⟨a1, a2, fun q hq => a3 q (by omega), fun z => absurd (Or.inl z) hna, fun z => absurd (Or.inr z) hna, fun _ => a4⟩
end
