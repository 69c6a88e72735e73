/-! A term, a formula: the step of the reader. -/
/-- the end is set at p -/
theorem p_set {h1 : HP} {n p : Nat} {v : Int32} (ht : tN h1 100 n) (hp : p < n) : s_Text_setEnd 100 (nI p) v h1 = some (up2 h1.1 102 p v, h1.2) := by
  have hn := ht.2.2
  rw [p_setEnd ht (by omega), if_pos hp]
theorem o102_set {h h1 : HP} {p : Nat} {v : Int32} (o : o102 (p + 1) h h1) : o102 p h (up2 h1.1 102 p v, h1.2) := by
  refine ⟨fun m hm => ?_, o.2.1, fun q hq => ?_⟩
  · show up2 h1.1 102 p v m = _
    rw [up2_n hm]
    exact o.1 m hm
  · show up2 h1.1 102 p v 102 q = _
    rw [u2_i (by omega)]
    exact o.2.2 q (by omega)
theorem e_set {h1 : HP} {p : Nat} {v : Int32} (q : Nat) (hq : q ≠ p) : (up2 h1.1 102 p v, h1.2).1 102 q = h1.1 102 q := by
  show up2 h1.1 102 p v 102 q = _
  rw [u2_i hq]
theorem KD_set {k : Nat → Nat} {t : Nat → Int32} {h1 : HP} {p : Nat} {v : Int32} {d s e : Nat} {b : Bool} (hs : p < s) (hK : KD k t (h1.1 102) d b s e) : KD k t ((up2 h1.1 102 p v, h1.2).1 102) d b s e := KD_congr d b s e (fun q a _ => (e_set q (by omega)).symm) hK
theorem its_set {k : Nat → Nat} {t : Nat → Int32} {h1 : HP} {p : Nat} {v : Int32} {d m s e : Nat} {b : Bool} (hs : p < s) (hK : its (KD k t (h1.1 102) d b) m s e) : its (KD k t ((up2 h1.1 102 p v, h1.2).1 102) d b) m s e := (its_congr (E := h1.1 102) (E' := (up2 h1.1 102 p v, h1.2).1 102) (fun p e q r => KD_congr d b p e q r) (fun p e r => Nat.le_of_lt (KD_lt r)) m s e (fun q a _ => (e_set q (by omega)).symm) hK).1
theorem E_set {h1 : HP} {p : Nat} {v : Int32} : (up2 h1.1 102 p v, h1.2).1 102 p = v := by
  show up2 h1.1 102 p v 102 p = _
  rw [u2_s]
theorem its1 {R : Nat → Nat → Prop} {p e : Nat} (h : its R 1 p e) : R p e := by
  obtain ⟨q, a, b⟩ := h
  have b : q = e := b
  rw [← b]
  exact a
theorem its2 {R : Nat → Nat → Prop} {p e : Nat} (h : its R 2 p e) : ∃ q, R p q ∧ R q e := by
  obtain ⟨q, a, b⟩ := h
  exact ⟨q, a, its1 b⟩
section STEP
variable {k : Nat → Nat} {n : Nat} {t : Nat → Int32} {ow : Int32} {ok lt d B : Nat}
/-- parts in a row, from fuel g on -/
theorem rd_row (hd : d ≤ 11) (hG : ∀ g, B ≤ g → GoodR k n t ow ok lt d g) (hn : n ≤ 60) (b : Bool) (sc : Nat → Nat) (hsc : ∀ l, sc l ≤ 2) (m : Nat) (hm : m ≤ 3) (p : Nat) (hp : p < n) (h : HP) (hr : RC k n t ow ok lt h sc) (g : Nat) (hg : B + 2 ≤ g) :
    ∃ h', (s_grp_Reader_binder g).2.2.2.2.2.1 4 (nI p) (nI m) (bI b) (nI (12 - d)) h = some (enc (sq (PT k n t ow ok lt d b sc) m (p + 1)), h') ∧ Psq k n t ow ok d b m (p + 1) h h' (sq (PT k n t ow ok lt d b sc) m (p + 1)) := by
  obtain ⟨g0, rfl⟩ : ∃ g0, g = g0 + 2 := ⟨g - 2, by omega⟩
  show ∃ h', s_Reader_parts (s_grp_Reader_binder (g0 + 1)) 4 (nI p) (nI m) (bI b) (nI (12 - d)) h = _ ∧ _
  unfold s_Reader_parts
  rw [nI_1]
  exact rd_parts hd (hG g0 (by omega)) hn b sc hsc m hm 20000 0 (p + 1) h (Nat.zero_le _) (by omega) hr (by omega)
/-- what a formula or a term ends with: the end is set, and handed on -/
theorem fin_w {b : Bool} {p w : Nat} {h h1 : HP} (o : o102 (p + 1) h h1) (hw : w ≤ n) : Pst k n t ow ok (d + 1) b p h (up2 h1.1 102 p (enc (.inl w)), h1.2) (.inl w) := ⟨o102_set o, hw⟩
theorem formula_step (hd : d ≤ 11) (hG : ∀ g, B ≤ g → GoodR k n t ow ok lt d g) (hn : n ≤ 60) (sc : Nat → Nat) (hsc : ∀ l, sc l ≤ 2) (p : Nat) (hp : p ≤ n) (h : HP) (hr : RC k n t ow ok lt h sc) (g : Nat) (hg : B + 3 ≤ g) :
    ∃ h', (s_grp_Reader_binder g).2.1 4 (nI p) (nI (12 - d)) h = some (enc (PT k n t ow ok lt (d + 1) true sc p), h') ∧ Pst k n t ow ok (d + 1) true p h h' (PT k n t ow ok lt (d + 1) true sc p) := by
  obtain ⟨g0, rfl⟩ : ∃ g0, g = g0 + 1 := ⟨g - 1, by omega⟩
  show ∃ h', s_Reader_formula (s_grp_Reader_binder g0) 4 (nI p) (nI (12 - d)) h = some (enc (if chr n t p = 33 then sq (PT k n t ow ok lt d true sc) 1 (p + 1) else if chr n t p = 60 ∨ chr n t p = 61 then sq (PT k n t ow ok lt d false sc) 2 (p + 1) else if chr n t p = 62 ∨ chr n t p = 94 ∨ chr n t p = 118 then sq (PT k n t ow ok lt d true sc) 2 (p + 1) else if chr n t p = 69 ∨ chr n t p = 76 then bn n t (PT k n t ow ok lt d) true sc p else .inl p), h') ∧ Pst k n t ow ok (d + 1) true p h h' (if chr n t p = 33 then sq (PT k n t ow ok lt d true sc) 1 (p + 1) else if chr n t p = 60 ∨ chr n t p = 61 then sq (PT k n t ow ok lt d false sc) 2 (p + 1) else if chr n t p = 62 ∨ chr n t p = 94 ∨ chr n t p = 118 then sq (PT k n t ow ok lt d true sc) 2 (p + 1) else if chr n t p = 69 ∨ chr n t p = 76 then bn n t (PT k n t ow ok lt d) true sc p else .inl p)
  unfold s_Reader_formula
  rw [if_pos (show nI (12 - d) ≤ 12 from nI_le (b := 12) (by omega) (by decide)), rR_4_0, ob_s, rK_100, ob_s, hr.at (by omega), ob_s]
  have row := fun (b : Bool) (m : Nat) (hm : m ≤ 3) (hp : p < n) => rd_row hd hG hn b sc hsc m hm p hp h hr g0 (by omega)
  have bnd := fun (hp : p < n) => rd_binder hd hG hn true sc hsc p hp h hr g0 (by omega)
  have set144 : ∀ (v : Int32) (h1 : HP), o102 (p + 1) h h1 → p < n → s_Reader_formula_144 (s_grp_Reader_binder g0) 4 (nI p) v h1 = some (v, (up2 h1.1 102 p v, h1.2)) := by
    intro v h1 o hp
    unfold s_Reader_formula_144
    rw [rR_4_0, ob_s, rK_100, ob_s, p_set (RC.o o hr).1.1 hp, ob_s]
  by_cases c1 : chr n t p = 33
  · obtain ⟨hpn, ct⟩ := chr_lt (n := n) (t := t) (p := p) (by rw [c1]; decide)
    rw [if_pos c1, if_pos c1, rK_4, ob_s]
    obtain ⟨h1, f1, o1, q1⟩ := row true 1 (by omega) hpn
    rw [show (s_grp_Reader_binder g0).2.2.2.2.2.1 4 (nI p) 1 1 (nI (12 - d)) h = _ from f1, ob_s]
    dsimp only
    rw [set144 _ h1 o1 hpn]
    refine ⟨_, rfl, o102_set o1, ?_⟩
    cases hS : sq (PT k n t ow ok lt d true sc) 1 (p + 1) with
    | inl w => rw [hS] at q1; exact q1
    | inr e =>
      rw [hS] at q1
      obtain ⟨a1, a2, a3⟩ := q1
      exact ⟨a2, E_set, by omega, Or.inr (Or.inl ⟨by rw [← ct]; exact c1, KD_set (by omega) (its1 a3)⟩)⟩
  · rw [if_neg c1, if_neg c1]
    by_cases c2 : chr n t p = 60 ∨ chr n t p = 61
    · obtain ⟨hpn, ct⟩ := chr_lt (n := n) (t := t) (p := p) (by rcases c2 with c | c <;> rw [c] <;> decide)
      obtain ⟨h1, f1, o1, q1⟩ := row false 2 (by omega) hpn
      have f92 : s_Reader_formula_92 (s_grp_Reader_binder g0) 4 (nI p) (nI (12 - d)) h = some (enc (sq (PT k n t ow ok lt d false sc) 2 (p + 1)), (up2 h1.1 102 p (enc (sq (PT k n t ow ok lt d false sc) 2 (p + 1))), h1.2)) := by
        unfold s_Reader_formula_92
        rw [rK_4, ob_s, show (s_grp_Reader_binder g0).2.2.2.2.2.1 4 (nI p) 2 0 (nI (12 - d)) h = _ from f1, ob_s]
        exact set144 _ h1 o1 hpn
      rw [if_pos c2, f92]
      have : ∀ X : Option (Int32 × HP), (if chr n t p = 60 then some (enc (sq (PT k n t ow ok lt d false sc) 2 (p + 1)), (up2 h1.1 102 p (enc (sq (PT k n t ow ok lt d false sc) 2 (p + 1))), h1.2)) else if chr n t p = 61 then some (enc (sq (PT k n t ow ok lt d false sc) 2 (p + 1)), (up2 h1.1 102 p (enc (sq (PT k n t ow ok lt d false sc) 2 (p + 1))), h1.2)) else X) = some (enc (sq (PT k n t ow ok lt d false sc) 2 (p + 1)), (up2 h1.1 102 p (enc (sq (PT k n t ow ok lt d false sc) 2 (p + 1))), h1.2)) := by
        intro X
        rcases c2 with c | c
        · rw [if_pos c]
        · by_cases c' : chr n t p = 60
          · rw [if_pos c']
          · rw [if_neg c', if_pos c]
      rw [this]
      refine ⟨_, rfl, o102_set o1, ?_⟩
      cases hS : sq (PT k n t ow ok lt d false sc) 2 (p + 1) with
      | inl w => rw [hS] at q1; exact q1
      | inr e =>
        rw [hS] at q1
        obtain ⟨a1, a2, a3⟩ := q1
        obtain ⟨q, k1, k2⟩ := its2 a3
        have l1 := KD_lt k1
        exact ⟨a2, E_set, by omega, Or.inl ⟨by rw [← ct]; exact c2, q, KD_set (by omega) k1, KD_set (by omega) k2⟩⟩
    · have n60 : ¬ chr n t p = 60 := fun c => c2 (Or.inl c)
      have n61 : ¬ chr n t p = 61 := fun c => c2 (Or.inr c)
      rw [if_neg c2, if_neg n60, if_neg n61]
      by_cases c3 : chr n t p = 62 ∨ chr n t p = 94 ∨ chr n t p = 118
      · obtain ⟨hpn, ct⟩ := chr_lt (n := n) (t := t) (p := p) (by rcases c3 with c | c | c <;> rw [c] <;> decide)
        obtain ⟨h1, f1, o1, q1⟩ := row true 2 (by omega) hpn
        have f116 : s_Reader_formula_116 (s_grp_Reader_binder g0) 4 (nI p) (nI (12 - d)) h = some (enc (sq (PT k n t ow ok lt d true sc) 2 (p + 1)), (up2 h1.1 102 p (enc (sq (PT k n t ow ok lt d true sc) 2 (p + 1))), h1.2)) := by
          unfold s_Reader_formula_116
          rw [rK_4, ob_s, show (s_grp_Reader_binder g0).2.2.2.2.2.1 4 (nI p) 2 1 (nI (12 - d)) h = _ from f1, ob_s]
          exact set144 _ h1 o1 hpn
        rw [if_pos c3, f116]
        have e1 : (if chr n t p = 62 then some (enc (sq (PT k n t ow ok lt d true sc) 2 (p + 1)), (up2 h1.1 102 p (enc (sq (PT k n t ow ok lt d true sc) 2 (p + 1))), h1.2)) else if chr n t p = 69 then s_Reader_formula_128 (s_grp_Reader_binder g0) 4 (nI p) (nI (12 - d)) h else if chr n t p = 76 then s_Reader_formula_128 (s_grp_Reader_binder g0) 4 (nI p) (nI (12 - d)) h else if chr n t p = 94 then some (enc (sq (PT k n t ow ok lt d true sc) 2 (p + 1)), (up2 h1.1 102 p (enc (sq (PT k n t ow ok lt d true sc) 2 (p + 1))), h1.2)) else if chr n t p = 118 then some (enc (sq (PT k n t ow ok lt d true sc) 2 (p + 1)), (up2 h1.1 102 p (enc (sq (PT k n t ow ok lt d true sc) 2 (p + 1))), h1.2)) else (s_Reader_wrong (nI p)).bind fun q9 => s_Reader_formula_144 (s_grp_Reader_binder g0) 4 (nI p) q9 h) = some (enc (sq (PT k n t ow ok lt d true sc) 2 (p + 1)), (up2 h1.1 102 p (enc (sq (PT k n t ow ok lt d true sc) 2 (p + 1))), h1.2)) := by
          rcases c3 with c | c | c <;> rw [c] <;> simp
        rw [e1]
        refine ⟨_, rfl, o102_set o1, ?_⟩
        cases hS : sq (PT k n t ow ok lt d true sc) 2 (p + 1) with
        | inl w => rw [hS] at q1; exact q1
        | inr e =>
          rw [hS] at q1
          obtain ⟨a1, a2, a3⟩ := q1
          obtain ⟨q, k1, k2⟩ := its2 a3
          have l1 := KD_lt k1
          refine ⟨a2, E_set, by omega, Or.inr (Or.inr (Or.inl ⟨?_, q, KD_set (by omega) k1, KD_set (by omega) k2⟩))⟩
          rw [← ct]
          rcases c3 with c | c | c
          · exact Or.inr (Or.inr c)
          · exact Or.inl c
          · exact Or.inr (Or.inl c)
      · have n62 : ¬ chr n t p = 62 := fun c => c3 (Or.inl c)
        have n94 : ¬ chr n t p = 94 := fun c => c3 (Or.inr (Or.inl c))
        have n118 : ¬ chr n t p = 118 := fun c => c3 (Or.inr (Or.inr c))
        rw [if_neg c3, if_neg n62]
        by_cases c4 : chr n t p = 69 ∨ chr n t p = 76
        · obtain ⟨hpn, ct⟩ := chr_lt (n := n) (t := t) (p := p) (by rcases c4 with c | c <;> rw [c] <;> decide)
          obtain ⟨h1, f1, o1, q1⟩ := bnd hpn
          have f128 : s_Reader_formula_128 (s_grp_Reader_binder g0) 4 (nI p) (nI (12 - d)) h = some (enc (bn n t (PT k n t ow ok lt d) true sc p), (up2 h1.1 102 p (enc (bn n t (PT k n t ow ok lt d) true sc p)), h1.2)) := by
            unfold s_Reader_formula_128
            rw [rK_4, ob_s, show (s_grp_Reader_binder g0).1 4 (nI p) 1 (nI (12 - d)) h = _ from f1, ob_s]
            exact set144 _ h1 o1 hpn
          rw [if_pos c4, f128]
          have e1 : (if chr n t p = 69 then some (enc (bn n t (PT k n t ow ok lt d) true sc p), (up2 h1.1 102 p (enc (bn n t (PT k n t ow ok lt d) true sc p)), h1.2)) else if chr n t p = 76 then some (enc (bn n t (PT k n t ow ok lt d) true sc p), (up2 h1.1 102 p (enc (bn n t (PT k n t ow ok lt d) true sc p)), h1.2)) else if chr n t p = 94 then s_Reader_formula_116 (s_grp_Reader_binder g0) 4 (nI p) (nI (12 - d)) h else if chr n t p = 118 then s_Reader_formula_116 (s_grp_Reader_binder g0) 4 (nI p) (nI (12 - d)) h else (s_Reader_wrong (nI p)).bind fun q9 => s_Reader_formula_144 (s_grp_Reader_binder g0) 4 (nI p) q9 h) = some (enc (bn n t (PT k n t ow ok lt d) true sc p), (up2 h1.1 102 p (enc (bn n t (PT k n t ow ok lt d) true sc p)), h1.2)) := by
            rcases c4 with c | c <;> rw [c] <;> simp
          rw [e1]
          refine ⟨_, rfl, o102_set o1, ?_⟩
          cases hS : bn n t (PT k n t ow ok lt d) true sc p with
          | inl w => rw [hS] at q1; exact q1
          | inr e =>
            rw [hS] at q1
            obtain ⟨a1, a2, q, k1, k2⟩ := q1
            have l1 := KD_lt k1
            have l2 := KD_lt k2
            exact ⟨a1, E_set, by omega, Or.inr (Or.inr (Or.inr ⟨by rw [← ct]; exact c4, a2, q, KD_set (by omega) k1, KD_set (by omega) k2⟩))⟩
        · have n69 : ¬ chr n t p = 69 := fun c => c4 (Or.inl c)
          have n76 : ¬ chr n t p = 76 := fun c => c4 (Or.inr c)
          rw [if_neg c4, if_neg n69, if_neg n76, if_neg n94, if_neg n118]
          unfold s_Reader_wrong s_Reader_formula_144
          rw [ob_s, rR_4_0, ob_s, rK_100, ob_s, p_setEnd hr.1.1 (by omega), ob_s]
          refine ⟨_, rfl, ?_, hp⟩
          split
          · exact o102_set (o102.rf _ h)
          · exact o102.rf _ h
end STEP
