/-! A body that has been read has no other letters free than it may have. -/
theorem KD_m {k k' : Nat → Nat} {t E : Nat → Int32} (hk : ∀ f, f < 4 → 0 < k f → k' f = k f) : ∀ (d : Nat) (b : Bool) (p e : Nat), KD k t E d b p e → KD k' t E d b p e := by
  intro d
  induction d with
  | zero => intro b p e h; exact absurd h (fun q => q)
  | succ d ih =>
    intro b p e h
    obtain ⟨h1, h2, h3⟩ := h
    have two : ∀ (b1 b2 : Bool) (s : Nat), (∃ q, KD k t E d b1 s q ∧ KD k t E d b2 q e) → ∃ q, KD k' t E d b1 s q ∧ KD k' t E d b2 q e := by
      intro b1 b2 s ⟨q, a, b⟩
      exact ⟨q, ih _ _ _ a, ih _ _ _ b⟩
    refine ⟨h1, h2, ?_⟩
    cases b with
    | true =>
      rcases h3 with ⟨a, b⟩ | ⟨a, b⟩ | ⟨a, b⟩ | ⟨a, a2, b⟩
      · exact Or.inl ⟨a, two _ _ _ b⟩
      · exact Or.inr (Or.inl ⟨a, ih _ _ _ b⟩)
      · exact Or.inr (Or.inr (Or.inl ⟨a, two _ _ _ b⟩))
      · exact Or.inr (Or.inr (Or.inr ⟨a, a2, two _ _ _ b⟩))
    | false =>
      rcases h3 with a | a | ⟨a, a2, b⟩ | ⟨a, b⟩ | ⟨a, b⟩ | ⟨a, a2, b⟩ | ⟨a, a2, b⟩
      · exact Or.inl a
      · exact Or.inr (Or.inl a)
      · have e := hk _ (fn_n a).2 a2
        unfold fnN at e
        refine Or.inr (Or.inr (Or.inl ⟨a, by rw [e]; exact a2, ?_⟩))
        rw [e]
        exact its_imp (fun p e r => ih false p e r) _ _ _ b
      · exact Or.inr (Or.inr (Or.inr (Or.inl ⟨a, two _ _ _ b⟩)))
      · exact Or.inr (Or.inr (Or.inr (Or.inr (Or.inl ⟨a, ih _ _ _ b⟩))))
      · exact Or.inr (Or.inr (Or.inr (Or.inr (Or.inr (Or.inl ⟨a, a2, two _ _ _ b⟩)))))
      · exact Or.inr (Or.inr (Or.inr (Or.inr (Or.inr (Or.inr ⟨a, a2, two _ _ _ b⟩)))))
theorem sq_its {R : Nat → Nat ⊕ Nat} {Q : Nat → Nat → Prop} {F : Nat → Prop} (hR : ∀ p e e', R p = .inr e → Q p e' → e = e' ∧ F p) : ∀ (m p e e' : Nat), sq R m p = .inr e → its Q m p e' → e = e' ∧ its (fun p e => Q p e ∧ F p) m p e' := by
  intro m
  induction m with
  | zero =>
    intro p e e' h1 h2
    have h2 : p = e' := h2
    rw [sq] at h1
    have : p = e := Sum.inr.inj h1
    exact ⟨by omega, h2⟩
  | succ m ih =>
    intro p e e' h1 h2
    obtain ⟨q, q1, q2⟩ := h2
    rw [sq] at h1
    cases hr : R p with
    | inl w => rw [hr] at h1; cases h1
    | inr q' =>
      rw [hr] at h1
      obtain ⟨a, b⟩ := hR p q' q hr q1
      subst a
      obtain ⟨c, d⟩ := ih q' e e' h1 q2
      exact ⟨c, q', ⟨q1, b⟩, d⟩
section
variable {k kx : Nat → Nat} {n : Nat} {t E : Nat → Int32} {ow : Int32} {ok lt : Nat}
theorem PT_fv (hn : n ≤ 60) (hlt : lt ≤ 8) (hkx : ∀ f, f < 4 → kx f = kk k ow ok f) (hk3 : ∀ f, f < 4 → kx f ≤ 3) : ∀ (d : Nat) (b : Bool) (sc : Nat → Nat) (p e e' : Nat), PT k n t ow ok lt d b sc p = .inr e → KD kx t E d b p e' → e' ≤ n → e = e' ∧ ∀ l, l < 8 → fv t E d p l = true → l < lt ∨ sc l ≠ 0 := by
  intro d
  induction d with
  | zero => intro b sc p e e' _ hK; exact absurd hK (fun z => z)
  | succ d ih =>
    intro b sc p e e' hP hK he
    obtain ⟨hend, hpe, hcase⟩ := hK
    have hch : chr n t p = t p := by unfold chr; rw [if_pos (by omega)]
    have parts : ∀ (b1 : Bool) (m : Nat), m ≤ 3 → sq (PT k n t ow ok lt d b1 sc) m (p + 1) = .inr e → its (KD kx t E d b1) m (p + 1) e' → ¬ (97 ≤ t p ∧ t p < 105) → ¬ (t p = 123 ∨ t p = 73 ∨ t p = 69 ∨ t p = 76) → e = e' ∧ ∀ l, l < 8 → fv t E (d + 1) p l = true → l < lt ∨ sc l ≠ 0 := by
      intro b1 m hm hsq hi hl hb
      have hle : ∀ m q, its (KD kx t E d b1) m q e' → q ≤ e' := fun m q z => its_le z
      obtain ⟨c, dd⟩ := sq_its (R := PT k n t ow ok lt d b1 sc) (Q := fun p e => KD kx t E d b1 p e ∧ e ≤ n) (F := fun p => ∀ l, l < 8 → fv t E d p l = true → l < lt ∨ sc l ≠ 0) (fun p e e' h1 h2 => ih b1 sc p e e' h1 h2.1 h2.2) m (p + 1) e e' hsq (by
        have : ∀ m q, its (KD kx t E d b1) m q e' → its (fun p e => KD kx t E d b1 p e ∧ e ≤ n) m q e' := by
          intro m
          induction m with
          | zero => intro q h; exact h
          | succ m ih2 =>
            intro q h
            obtain ⟨q2, z1, z2⟩ := h
            exact ⟨q2, ⟨z1, by have := hle m q2 z2; omega⟩, ih2 q2 z2⟩
        exact this m (p + 1) hi)
      refine ⟨c, fun l hl8 hf => ?_⟩
      obtain rfl | rfl | rfl | rfl : m = 0 ∨ m = 1 ∨ m = 2 ∨ m = 3 := by omega
      · have dd : p + 1 = e' := dd
        rw [fv_0 hl hb (by rw [hend, dd]) (by omega)] at hf
        cases hf
      · obtain ⟨q, ⟨⟨z1, _⟩, z2⟩, z3⟩ := dd
        have z3 : q = e' := z3
        subst z3
        rw [fv_1 hl hb hend (by omega) (KD_lt z1) (KD_end z1)] at hf
        exact z2 l hl8 hf
      · obtain ⟨q, ⟨⟨z1, _⟩, z2⟩, q2, ⟨⟨y1, _⟩, y2⟩, z3⟩ := dd
        have z3 : q2 = e' := z3
        subst z3
        rw [fv_2 hl hb hend (by omega) (KD_lt z1) (KD_end z1) (KD_lt y1) (KD_end y1), Bool.or_eq_true] at hf
        rcases hf with hf | hf
        · exact z2 l hl8 hf
        · exact y2 l hl8 hf
      · obtain ⟨q, ⟨⟨z1, _⟩, z2⟩, q2, ⟨⟨y1, _⟩, y2⟩, q3, ⟨⟨x1, _⟩, x2⟩, z3⟩ := dd
        have z3 : q3 = e' := z3
        subst z3
        rw [fv_3 hl hb hend (by omega) (KD_lt z1) (KD_end z1) (KD_lt y1) (KD_end y1) (KD_lt x1), Bool.or_eq_true, Bool.or_eq_true] at hf
        rcases hf with hf | hf | hf
        · exact z2 l hl8 hf
        · exact y2 l hl8 hf
        · exact x2 l hl8 hf
    have bnd : ∀ (b2 : Bool), bn n t (PT k n t ow ok lt d) b2 sc p = .inr e → (∃ q, KD kx t E d false (p + 2) q ∧ KD kx t E d b2 q e') → (t p = 123 ∨ t p = 73 ∨ t p = 69 ∨ t p = 76) → e = e' ∧ ∀ l, l < 8 → fv t E (d + 1) p l = true → l < lt ∨ sc l ≠ 0 := by
      intro b2 hbn hq hb
      obtain ⟨q, k1, k2⟩ := hq
      have l1 := KD_lt k1
      have l2 := KD_lt k2
      have hc1 : chr n t (p + 1) = t (p + 1) := by unfold chr; rw [if_pos (by omega)]
      unfold bn at hbn
      split at hbn
      · rename_i hL
        rw [hc1] at hL
        cases hr : PT k n t ow ok lt d false sc (p + 2) with
        | inl w => rw [hr] at hbn; cases hbn
        | inr q' =>
          rw [hr] at hbn
          obtain ⟨a1, a2⟩ := ih false sc (p + 2) q' q hr k1 (by omega)
          subst a1
          obtain ⟨c1, c2⟩ := ih b2 _ q' e e' hbn k2 he
          refine ⟨c1, fun l hl8 hf => ?_⟩
          rw [fv_b hb hend (by omega) l1 (KD_end k1) l2 (KD_end k2), Bool.or_eq_true, Bool.and_eq_true] at hf
          rcases hf with hf | ⟨hf, hne⟩
          · exact a2 l hl8 hf
          · have hne : l ≠ lwN (t (p + 1)) := by
              intro z
              rw [decide_eq_true z] at hne
              cases hne
            have := c2 l hl8 hf
            unfold upS at this
            rw [hc1, if_neg hne] at this
            exact this
      · cases hbn
    cases b with
    | true =>
      rw [PT] at hP
      dsimp only at hP
      rw [hch] at hP
      rcases hcase with ⟨hc, q, k1, k2⟩ | ⟨hc, k1⟩ | ⟨hc, q, k1, k2⟩ | ⟨hc, hL, q, k1, k2⟩
      · rw [if_neg (by rcases hc with z | z <;> rw [z] <;> decide), if_pos hc] at hP
        exact parts false 2 (by omega) hP ⟨q, k1, e', k2, rfl⟩ (by rcases hc with z | z <;> rw [z] <;> decide) (by rcases hc with z | z <;> rw [z] <;> decide)
      · rw [if_pos hc] at hP
        exact parts true 1 (by omega) hP ⟨e', k1, rfl⟩ (by rw [hc]; decide) (by rw [hc]; decide)
      · rw [if_neg (by rcases hc with z | z | z <;> rw [z] <;> decide), if_neg (by rcases hc with z | z | z <;> rw [z] <;> decide), if_pos (by rcases hc with z | z | z <;> simp [z])] at hP
        exact parts true 2 (by omega) hP ⟨q, k1, e', k2, rfl⟩ (by rcases hc with z | z | z <;> rw [z] <;> decide) (by rcases hc with z | z | z <;> rw [z] <;> decide)
      · rw [if_neg (by rcases hc with z | z <;> rw [z] <;> decide), if_neg (by rcases hc with z | z <;> rw [z] <;> decide), if_neg (by rcases hc with z | z <;> rw [z] <;> decide), if_pos hc] at hP
        exact bnd true hP ⟨q, k1, k2⟩ (by rcases hc with z | z <;> simp [z])
    | false =>
      rw [PT] at hP
      dsimp only at hP
      rw [hch] at hP
      rcases hcase with ⟨hc, hx⟩ | ⟨hc, hx⟩ | ⟨hc, hk0, hi⟩ | ⟨hc, q, k1, k2⟩ | ⟨hc, k1⟩ | ⟨hc, hL, q, k1, k2⟩ | ⟨hc, hL, q, k1, k2⟩
      · rw [if_pos hc] at hP
        have : p + 1 = e := Sum.inr.inj hP
        refine ⟨by omega, fun l hl8 hf => ?_⟩
        obtain ⟨j, hj, hcj⟩ := dg_j hc
        have hall : ∀ j, j < 10 → ¬ (97 ≤ nI (48 + j) ∧ nI (48 + j) < 105) ∧ ¬ (nI (48 + j) = 123 ∨ nI (48 + j) = 73 ∨ nI (48 + j) = 69 ∨ nI (48 + j) = 76) := by decide
        obtain ⟨z1, z3⟩ := hall j hj
        rw [← hcj] at z1 z3
        rw [fv_0 z1 z3 (by rw [hend, hx]) (by omega)] at hf
        cases hf
      · have hc' : 97 ≤ t p ∧ t p < 105 := hc
        have hnd : ¬ (48 ≤ t p ∧ t p ≤ 57) := by
          obtain ⟨j, h1, h2, h3⟩ := lw_q hc'
          rw [h3]
          intro z
          have := (nI_leI (a := j) (b := 57) (by omega) (by decide)).mp z.2
          omega
        rw [if_neg hnd, if_pos hc'] at hP
        split at hP
        · rename_i hok
          have : p + 1 = e := Sum.inr.inj hP
          refine ⟨by omega, fun l hl8 hf => ?_⟩
          rw [fv_l hc'] at hf
          rw [of_decide_eq_true hf]
          exact hok
        · cases hP
      · have hf' : 65 ≤ t p ∧ t p < 69 := hc
        have hfn := fn_n hf'
        have hj : t p = nI (65 + fnN (t p)) := by
          rw [← nI_add, ← hfn.1]
          show t p = 65 + (t p - 65)
          rw [Int32.add_comm, Int32.sub_add_cancel]
        have hall : ∀ j, j < 4 → ¬ (48 ≤ nI (65 + j) ∧ nI (65 + j) ≤ 57) ∧ ¬ (97 ≤ nI (65 + j) ∧ nI (65 + j) < 105) ∧ ¬ (nI (65 + j) = 123 ∨ nI (65 + j) = 73 ∨ nI (65 + j) = 69 ∨ nI (65 + j) = 76) := by decide
        obtain ⟨z0, z1, z3⟩ := hall _ hfn.2
        rw [← hj] at z0 z1 z3
        rw [if_neg z0, if_neg z1, if_pos hf'] at hP
        have hkk : kx (t p - 65).toNatClampNeg = kk k ow ok (fnN (t p)) := hkx _ hfn.2
        have hm3 : kx (t p - 65).toNatClampNeg ≤ 3 := hk3 _ hfn.2
        unfold kk at hkk
        split at hP
        · rename_i hown
          rw [hfn.1] at hown
          rw [if_pos hown] at hkk
          split at hP
          · exact parts false _ hm3 (by rw [hkk]; exact hP) hi z1 z3
          · cases hP
        · rename_i hown
          rw [hfn.1] at hown
          rw [if_neg hown] at hkk
          split at hP
          · cases hP
          · exact parts false _ hm3 (by rw [hkk]; exact hP) hi z1 z3
      · rw [if_neg (by rcases hc with z | z | z | z <;> rw [z] <;> decide), if_neg (by rcases hc with z | z | z | z <;> rw [z] <;> decide), if_neg (by rcases hc with z | z | z | z <;> rw [z] <;> decide), if_pos (by rcases hc with z | z | z | z <;> simp [z])] at hP
        exact parts false 2 (by omega) hP ⟨q, k1, e', k2, rfl⟩ (by rcases hc with z | z | z | z <;> rw [z] <;> decide) (by rcases hc with z | z | z | z <;> rw [z] <;> decide)
      · rw [if_neg (by rcases hc with z | z | z <;> rw [z] <;> decide), if_neg (by rcases hc with z | z | z <;> rw [z] <;> decide), if_neg (by rcases hc with z | z | z <;> rw [z] <;> decide), if_neg (by rcases hc with z | z | z <;> rw [z] <;> decide), if_pos (by rcases hc with z | z | z <;> simp [z])] at hP
        exact parts false 1 (by omega) hP ⟨e', k1, rfl⟩ (by rcases hc with z | z | z <;> rw [z] <;> decide) (by rcases hc with z | z | z <;> rw [z] <;> decide)
      · rw [hc, if_neg (by decide), if_neg (by decide), if_neg (by decide), if_neg (by decide), if_neg (by decide), if_neg (by decide), if_pos rfl] at hP
        exact bnd true hP ⟨q, k1, k2⟩ (by simp [hc])
      · rw [hc, if_neg (by decide), if_neg (by decide), if_neg (by decide), if_neg (by decide), if_neg (by decide), if_pos rfl] at hP
        exact bnd false hP ⟨q, k1, k2⟩ (by simp [hc])
end
