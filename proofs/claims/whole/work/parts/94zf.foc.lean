/-! Rule 10: the first place where a letter is free. -/
def focP (R : Bool → (Nat → Bool) → Nat → Option Nat) (E : Nat → Int32) (bs : Nat → Bool) (bo b1 : Nat → Bool) : Nat → Nat → Nat → Option Nat
  | 0 => fun _ _ => none
  | m + 1 => fun i p => match R (bs i) (if i = 1 then b1 else bo) p with
    | some x => some x
    | none => focP R E bs bo b1 m (i + 1) (E p).toNatClampNeg
def foc (K : Nat → Nat) (t E : Nat → Int32) (l0 : Nat) : Nat → Bool → (Nat → Bool) → Nat → Option Nat
  | 0 => fun _ _ _ => none
  | d + 1 => fun b bo p => if (97 ≤ t p ∧ t p < 105) ∧ bo (lwN (t p)) = false ∧ decide (lwN (t p) = l0) = true then some p else focP (foc K t E l0 d) E (kdB b (t p)) bo (bo1 t bo p) (arN K b (t p)) 0 (p + fsN (t p))
abbrev rlS (l0 : Nat) : Nat → Bool := fun j => decide (j = l0)
section
variable {K : Nat → Nat} {t E : Nat → Int32} {l0 : Nat}
theorem foc_1 {d : Nat} {b : Bool} {bo : Nat → Bool} {p : Nat} (h : rpl t (rlS l0) bo p) : foc K t E l0 (d + 1) b bo p = some p := if_pos h
theorem foc_0 {d : Nat} {b : Bool} {bo : Nat → Bool} {p : Nat} (h : ¬ rpl t (rlS l0) bo p) : foc K t E l0 (d + 1) b bo p = focP (foc K t E l0 d) E (kdB b (t p)) bo (bo1 t bo p) (arN K b (t p)) 0 (p + fsN (t p)) := if_neg h
theorem foc_rg : ∀ (d : Nat) (b : Bool) (bo : Nat → Bool) (p e x : Nat), KD K t E d b p e → e ≤ 60 → foc K t E l0 d b bo p = some x → p ≤ x ∧ x < e := by
  intro d
  induction d with
  | zero => intro b bo p e x h; exact absurd h (fun z => z)
  | succ d ih =>
    intro b bo p e x h he hx
    obtain ⟨_, h2, _, h4⟩ := KD_v h
    by_cases hr : rpl t (rlS l0) bo p
    · rw [foc_1 hr] at hx
      have := Option.some.inj hx
      omega
    · rw [foc_0 hr] at hx
      have hfs := fs_1 (t p)
      have parts : ∀ (m i p' : Nat), pc (KD K t E d) (kdB b (t p)) m i p' e → focP (foc K t E l0 d) E (kdB b (t p)) bo (bo1 t bo p) m i p' = some x → p' ≤ x ∧ x < e := by
        intro m
        induction m with
        | zero => intro i p' _ z; rw [focP] at z; cases z
        | succ m ih2 =>
          intro i p' z1 z2
          obtain ⟨q, k1, k2⟩ := z1
          have l1 := KD_lt k1
          have l2 := pc_le _ _ _ _ k2
          rw [focP] at z2
          dsimp only at z2
          cases hf : foc K t E l0 d (kdB b (t p) i) (if i = 1 then bo1 t bo p else bo) p' with
          | some y =>
            rw [hf] at z2
            have hy := Option.some.inj z2
            have := ih _ _ _ _ _ k1 (by omega) hf
            omega
          | none =>
            rw [hf] at z2
            dsimp only at z2
            rw [nI_cl (KD_end k1) (by omega)] at z2
            have := ih2 (i + 1) q k2 z2
            omega
      have := parts _ _ _ h4 hx
      omega
theorem MT_none {tt Et : Nat → Int32} {ff ff' : Nat → Nat → Bool} {EQ EQ' : Nat → Nat → Prop} : ∀ (d : Nat) (b : Bool) (bo : Nat → Bool) (p q : Nat), foc K t E l0 d b bo p = none → (MT K t E tt Et (rlS l0) ff EQ d b bo p q ↔ MT K t E tt Et (fun _ => false) ff' EQ' d b bo p q) := by
  intro d
  induction d with
  | zero => intro b bo p q _; exact Iff.rfl
  | succ d ih =>
    intro b bo p q hx
    have hr : ¬ rpl t (rlS l0) bo p := fun z => by rw [foc_1 z] at hx; cases hx
    have hr2 : ¬ rpl t (fun _ => false) bo p := fun z => Bool.noConfusion z.2.2
    rw [foc_0 hr] at hx
    have parts : ∀ (m i p' q' : Nat), focP (foc K t E l0 d) E (kdB b (t p)) bo (bo1 t bo p) m i p' = none → (MTP (MT K t E tt Et (rlS l0) ff EQ d) E Et (kdB b (t p)) bo (bo1 t bo p) m i p' q' ↔ MTP (MT K t E tt Et (fun _ => false) ff' EQ' d) E Et (kdB b (t p)) bo (bo1 t bo p) m i p' q') := by
      intro m
      induction m with
      | zero => intro i p' q' _; exact Iff.rfl
      | succ m ih2 =>
        intro i p' q' z
        rw [focP] at z
        dsimp only at z
        cases hf : foc K t E l0 d (kdB b (t p) i) (if i = 1 then bo1 t bo p else bo) p' with
        | some y => rw [hf] at z; cases z
        | none =>
          rw [hf] at z
          dsimp only at z
          exact and_congr (ih _ _ _ _ hf) (ih2 _ _ _ z)
    have hp := parts _ _ _ (q + fsN (t p)) hx
    constructor
    · intro z
      obtain ⟨y1, y2, y3⟩ := z.2 hr
      exact ⟨fun y => absurd y hr2, fun _ => ⟨y1, y2, hp.mp y3⟩⟩
    · intro z
      obtain ⟨y1, y2, y3⟩ := z.2 hr2
      exact ⟨fun y => absurd y hr, fun _ => ⟨y1, y2, hp.mpr y3⟩⟩
theorem MT_same {tt Et : Nat → Int32} {ff : Nat → Nat → Bool} {EQ : Nat → Nat → Prop} : ∀ (d d2 : Nat) (b : Bool) (bo : Nat → Bool) (p e q e2 : Nat), KD K t E d b p e → e ≤ 60 → KD K tt Et d2 b q e2 → e2 ≤ 60 → (MT K t E tt Et (fun _ => false) ff EQ d b bo p q → e - p = e2 - q ∧ ∀ j, j < e - p → t (p + j) = tt (q + j)) ∧ ((∀ j, j < e - p → t (p + j) = tt (q + j)) → MT K t E tt Et (fun _ => false) ff EQ d b bo p q) := by
  intro d
  induction d with
  | zero => intro d2 b bo p e q e2 h; exact absurd h (fun z => z)
  | succ d ih =>
    intro d2 b bo p e q e2 h he ht het
    cases d2 with
    | zero => exact absurd ht (fun z => z)
    | succ d2 =>
      obtain ⟨_, h2, _, h4⟩ := KD_v h
      obtain ⟨_, t2, _, t4⟩ := KD_v ht
      have hfs := fs_1 (t p)
      have hple := pc_le _ _ _ _ h4
      have hr2 : ¬ rpl t (fun _ => false) bo p := fun z => Bool.noConfusion z.2.2
      have parts : ∀ (m i p' q' : Nat), pc (KD K t E d) (kdB b (t p)) m i p' e → pc (KD K tt Et d2) (kdB b (t p)) m i q' e2 → (MTP (MT K t E tt Et (fun _ => false) ff EQ d) E Et (kdB b (t p)) bo (bo1 t bo p) m i p' q' → e - p' = e2 - q' ∧ ∀ j, j < e - p' → t (p' + j) = tt (q' + j)) ∧ ((∀ j, j < e - p' → t (p' + j) = tt (q' + j)) → MTP (MT K t E tt Et (fun _ => false) ff EQ d) E Et (kdB b (t p)) bo (bo1 t bo p) m i p' q') := by
        intro m
        induction m with
        | zero =>
          intro i p' q' z1 z2
          have z1 : p' = e := z1
          have z2 : q' = e2 := z2
          exact ⟨fun _ => ⟨by omega, fun j hj => absurd hj (by omega)⟩, fun _ => trivial⟩
        | succ m ih2 =>
          intro i p' q' z1 z2
          obtain ⟨r1, k1, k2⟩ := z1
          obtain ⟨r2, k3, k4⟩ := z2
          have l1 := KD_lt k1
          have l2 := pc_le _ _ _ _ k2
          have l3 := KD_lt k3
          have l4 := pc_le _ _ _ _ k4
          have he1 : (E p').toNatClampNeg = r1 := nI_cl (KD_end k1) (by omega)
          have he2 : (Et q').toNatClampNeg = r2 := nI_cl (KD_end k3) (by omega)
          obtain ⟨i1, i2⟩ := ih d2 (kdB b (t p) i) (if i = 1 then bo1 t bo p else bo) p' r1 q' r2 k1 (by omega) k3 (by omega)
          obtain ⟨j1, j2⟩ := ih2 (i + 1) r1 r2 k2 k4
          constructor
          · intro z
            obtain ⟨a1, a2⟩ := z
            rw [he1, he2] at a2
            obtain ⟨b1, b2⟩ := i1 a1
            obtain ⟨c1, c2⟩ := j1 a2
            refine ⟨by omega, fun j hj => ?_⟩
            by_cases hj1 : j < r1 - p'
            · exact b2 j hj1
            · have := c2 (j - (r1 - p')) (by omega)
              rw [show r1 + (j - (r1 - p')) = p' + j by omega, show r2 + (j - (r1 - p')) = q' + j by omega] at this
              exact this
          · intro z
            have y1 := i2 (fun j hj => z j (by omega))
            have hlen := (i1 y1).1
            refine ⟨y1, ?_⟩
            rw [he1, he2]
            refine j2 (fun j hj => ?_)
            have := z (r1 - p' + j) (by omega)
            rw [show p' + (r1 - p' + j) = r1 + j by omega, show q' + (r1 - p' + j) = r2 + j by omega] at this
            exact this
      constructor
      · intro z
        obtain ⟨y1, y2, y3⟩ := z.2 hr2
        rw [← y1] at t4
        obtain ⟨a1, a2⟩ := (parts _ _ _ _ h4 t4).1 y3
        have tple := pc_le _ _ _ _ t4
        refine ⟨by omega, fun j hj => ?_⟩
        by_cases hj1 : j < fsN (t p)
        · by_cases hj0 : j = 0
          · rw [hj0]; exact y1
          · have h4 : bn4 (t p) := Classical.byContradiction (fun h4 => by have := fs_n h4; omega)
            have hj1 : j = 1 := by have := fs_b h4; omega
            rw [hj1]
            exact y2 h4
        · have := a2 (j - fsN (t p)) (by omega)
          rw [show p + fsN (t p) + (j - fsN (t p)) = p + j by omega, show q + fsN (t p) + (j - fsN (t p)) = q + j by omega] at this
          exact this
      · intro z
        have y1 : t p = tt q := z 0 (by omega)
        rw [← y1] at t4
        refine ⟨fun y => absurd y hr2, fun _ => ⟨y1, fun h4 => ?_, (parts _ _ _ _ h4 t4).2 (fun j hj => ?_)⟩⟩
        · have := fs_b h4
          exact z 1 (by omega)
        · have := z (fsN (t p) + j) (by omega)
          rw [← Nat.add_assoc, ← Nat.add_assoc] at this
          exact this
/-- where the letter is first free, the other text has a term, if all before is the same -/
theorem foc_KD {tt Et : Nat → Int32} : ∀ (d d2 : Nat) (b : Bool) (bo : Nat → Bool) (p e q e2 x : Nat), KD K t E d b p e → e ≤ 60 → KD K tt Et d2 b q e2 → e2 ≤ 60 → foc K t E l0 d b bo p = some x → (∀ j, j < x - p → t (p + j) = tt (q + j)) → ∃ d3 e0, d3 ≤ d2 ∧ KD K tt Et d3 false (q + (x - p)) e0 ∧ e0 ≤ e2 := by
  intro d
  induction d with
  | zero => intro d2 b bo p e q e2 x h; exact absurd h (fun z => z)
  | succ d ih =>
    intro d2 b bo p e q e2 x h he ht het hx hpre
    cases d2 with
    | zero => exact absurd ht (fun z => z)
    | succ d2 =>
      obtain ⟨_, h2, _, h4⟩ := KD_v h
      obtain ⟨_, t2, _, t4⟩ := KD_v ht
      have hfs := fs_1 (t p)
      by_cases hr : rpl t (rlS l0) bo p
      · rw [foc_1 hr] at hx
        have hx := Option.some.inj hx
        subst hx
        have hb : b = false := by
          cases b with
          | false => rfl
          | true =>
            exfalso
            obtain ⟨j, j1, j2, hcj⟩ := lw_q hr.1
            have hall : ∀ j, j < 105 → 97 ≤ j → ¬ (nI j = 60 ∨ nI j = 61) ∧ ¬ nI j = 33 ∧ ¬ (nI j = 94 ∨ nI j = 118 ∨ nI j = 62) ∧ ¬ (nI j = 69 ∨ nI j = 76) := by decide
            obtain ⟨y1, y2, y3, y4⟩ := hall j j2 j1
            rw [← hcj] at y1 y2 y3 y4
            rcases h.2.2 with z | z | z | z
            · exact y1 z.1
            · exact y2 z.1
            · exact y3 z.1
            · exact y4 z.1
        subst hb
        rw [Nat.sub_self, Nat.add_zero]
        exact ⟨d2 + 1, e2, Nat.le_refl _, ht, Nat.le_refl _⟩
      · rw [foc_0 hr] at hx
        have parts : ∀ (m i p' q' : Nat), pc (KD K t E d) (kdB b (t p)) m i p' e → pc (KD K tt Et d2) (kdB b (t p)) m i q' e2 → focP (foc K t E l0 d) E (kdB b (t p)) bo (bo1 t bo p) m i p' = some x → p' ≤ x ∧ ((∀ j, j < x - p' → t (p' + j) = tt (q' + j)) → ∃ d3 e0, d3 ≤ d2 ∧ KD K tt Et d3 false (q' + (x - p')) e0 ∧ e0 ≤ e2) := by
          intro m
          induction m with
          | zero => intro i p' q' _ _ z; rw [focP] at z; cases z
          | succ m ih2 =>
            intro i p' q' z1 z2 z3
            obtain ⟨r1, k1, k2⟩ := z1
            obtain ⟨r2, k3, k4⟩ := z2
            have l1 := KD_lt k1
            have l2 := pc_le _ _ _ _ k2
            have l3 := KD_lt k3
            have l4 := pc_le _ _ _ _ k4
            have he1 : (E p').toNatClampNeg = r1 := nI_cl (KD_end k1) (by omega)
            rw [focP] at z3
            dsimp only at z3
            cases hf : foc K t E l0 d (kdB b (t p) i) (if i = 1 then bo1 t bo p else bo) p' with
            | some y =>
              rw [hf] at z3
              have hy := Option.some.inj z3
              subst hy
              refine ⟨(foc_rg _ _ _ _ _ _ k1 (by omega) hf).1, fun hpr => ?_⟩
              obtain ⟨d3, e0, a1, a2, a3⟩ := ih d2 _ _ _ _ _ _ _ k1 (by omega) k3 (by omega) hf hpr
              exact ⟨d3, e0, a1, a2, by omega⟩
            | none =>
              rw [hf] at z3
              dsimp only at z3
              rw [he1] at z3
              obtain ⟨c1, c2⟩ := ih2 (i + 1) r1 r2 k2 k4 z3
              refine ⟨by omega, fun hpr => ?_⟩
              have hlen := KD_pre _ _ _ _ _ _ _ k1 k3 (fun k z1 z2 => hpr k (by omega))
              have := c2 (fun j hj => by
                have := hpr (r1 - p' + j) (by omega)
                rw [show p' + (r1 - p' + j) = r1 + j by omega, show q' + (r1 - p' + j) = r2 + j by omega] at this
                exact this)
              rw [show q' + (x - p') = r2 + (x - r1) by omega]
              exact this
        have hxr : p + fsN (t p) ≤ x := by
          have : ∀ (m i p' : Nat), pc (KD K t E d) (kdB b (t p)) m i p' e → focP (foc K t E l0 d) E (kdB b (t p)) bo (bo1 t bo p) m i p' = some x → p' ≤ x := by
            intro m
            induction m with
            | zero => intro i p' _ z; rw [focP] at z; cases z
            | succ m ih2 =>
              intro i p' z1 z3
              obtain ⟨r1, k1, k2⟩ := z1
              have l1 := KD_lt k1
              have l2 := pc_le _ _ _ _ k2
              rw [focP] at z3
              dsimp only at z3
              cases hf : foc K t E l0 d (kdB b (t p) i) (if i = 1 then bo1 t bo p else bo) p' with
              | some y =>
                rw [hf] at z3
                have hy := Option.some.inj z3
                subst hy
                exact (foc_rg _ _ _ _ _ _ k1 (by omega) hf).1
              | none =>
                rw [hf] at z3
                dsimp only at z3
                rw [nI_cl (KD_end k1) (by omega)] at z3
                have := ih2 (i + 1) r1 k2 z3
                omega
          exact this _ _ _ h4 hx
        have y1 : t p = tt q := hpre 0 (by omega)
        rw [← y1] at t4
        obtain ⟨_, c2⟩ := parts _ _ _ _ h4 t4 hx
        obtain ⟨d3, e0, a1, a2, a3⟩ := c2 (fun j hj => by
          have := hpre (fsN (t p) + j) (by omega)
          rw [← Nat.add_assoc, ← Nat.add_assoc] at this
          exact this)
        rw [show q + fsN (t p) + (x - (p + fsN (t p))) = q + (x - p) by omega] at a2
        exact ⟨d3, e0, by omega, a2, a3⟩
end
