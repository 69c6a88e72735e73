/-! A term: the step of the reader. -/
theorem fn_n {c : Int32} (h : 65 ≤ c ∧ c < 69) : c - 65 = nI (fnN c) ∧ fnN c < 4 := by
  have h0 : ¬ c < 0 := by
    have := Int32.le_iff_toInt_le.mp h.1
    have a : (65 : Int32).toInt = 65 := by decide
    rw [Int32.lt_iff_toInt_lt]
    have b : (0 : Int32).toInt = 0 := by decide
    omega
  obtain ⟨j, hj, rfl⟩ := nI_of h0
  have h1 : 65 ≤ j := (nI_leI (a := 65) (by decide) hj).mp h.1
  have h2 : j < 69 := (nI_ltI (b := 69) hj (by decide)).mp h.2
  have e : nI j - 65 = nI (j - 65) := pk_sub (b := 65) h1
  unfold fnN
  rw [e, nI_clamp (by omega)]
  exact ⟨rfl, by omega⟩
theorem ne_0f {c : Int32} (h : 65 ≤ c ∧ c < 69) : c ≠ 0 := by
  intro e
  rw [e] at h
  exact absurd h.1 (by decide)
theorem ne_0d {c : Int32} (h : 48 ≤ c ∧ c ≤ 57) : c ≠ 0 := by
  intro e
  rw [e] at h
  exact absurd h.1 (by decide)
theorem rd_takes {f : Nat} (hf : f < 4) (h : HP) : kd (17 + 1 * f) 1 = some () ∧ s_Function_takes (17 + 1 * f) h = some (h.1 (17 + f) 1) := by
  have : f = 0 ∨ f = 1 ∨ f = 2 ∨ f = 3 := by omega
  rcases this with rfl | rfl | rfl | rfl <;> exact ⟨rfl, rfl⟩
section STEP2
variable {k : Nat → Nat} {n : Nat} {t : Nat → Int32} {ow : Int32} {ok lt d B : Nat}
def FN (k : Nat → Nat) (n : Nat) (t : Nat → Int32) (ow : Int32) (ok : Nat) (R : Nat → Nat ⊕ Nat) (sc : Nat → Nat) (p : Nat) : Nat ⊕ Nat := if chr n t p - 65 = ow then (if (97 ≤ chr n t (p + 1) ∧ chr n t (p + 1) < 105) ∧ sc (lwN (chr n t (p + 1))) = 2 then sq R ok (p + 1) else .inl (p + 1)) else if k (fnN (chr n t p)) = 0 then .inl p else sq R (k (fnN (chr n t p))) (p + 1)
theorem rd_fn (hd : d ≤ 11) (hG : ∀ g, B ≤ g → GoodR k n t ow ok lt d g) (hn : n ≤ 60) (hk : ∀ f, f < 4 → k f ≤ 3) (hok : ow = -1 ∨ (1 ≤ ok ∧ ok ≤ 3)) (sc : Nat → Nat) (hsc : ∀ l, sc l ≤ 2) (p : Nat) (hp : p < n) (h : HP) (hr : RC k n t ow ok lt h sc) (hc : 65 ≤ chr n t p ∧ chr n t p < 69) (g : Nat) (hg : B + 3 ≤ g) :
    ∃ h', (s_grp_Reader_binder g).2.2.1 4 (nI p) (nI (12 - d)) h = some (enc (FN k n t ow ok (PT k n t ow ok lt d false sc) sc p), h') ∧ o102 (p + 1) h h' ∧ (match FN k n t ow ok (PT k n t ow ok lt d false sc) sc p with
      | .inl w => w ≤ n
      | .inr e => p + 1 ≤ e ∧ e ≤ n ∧ 0 < kk k ow ok (fnN (chr n t p)) ∧ its (KD (kk k ow ok) t (h'.1 102) d false) (kk k ow ok (fnN (chr n t p))) (p + 1) e) := by
  obtain ⟨g0, rfl⟩ : ∃ g0, g = g0 + 1 := ⟨g - 1, by omega⟩
  obtain ⟨ef, hf4⟩ := fn_n hc
  show ∃ h', s_Reader_functionTerm (s_grp_Reader_binder g0) 4 (nI p) (nI (12 - d)) h = _ ∧ _
  unfold s_Reader_functionTerm FN
  rw [rR_4_0, ob_s, rK_100, ob_s, hr.at (by omega), ob_s, rI_4_3, ob_s, hr.2.2.1.1]
  have row := fun (m : Nat) (hm : m ≤ 3) => rd_row hd hG hn false sc hsc m hm p hp h hr g0 (by omega)
  by_cases c1 : chr n t p - 65 = ow
  · have hko : kk k ow ok (fnN (chr n t p)) = ok := by unfold kk; rw [if_pos (by rw [← ef]; exact c1)]
    have hok' : 1 ≤ ok ∧ ok ≤ 3 := by
      rcases hok with q | q
      · exfalso
        rw [q, ef] at c1
        exact (show ∀ f, f < 4 → nI f ≠ -1 by decide) _ hf4 c1
      · exact q
    rw [if_pos c1, if_pos c1, ob_s, rK_100, ob_s, nI_1, hr.at (by omega), ob_s, s_let, ob_s]
    by_cases hl : 97 ≤ chr n t (p + 1) ∧ chr n t (p + 1) < 105
    · obtain ⟨el, hl8⟩ := lw_n hl
      rw [if_pos hl, if_neg (by decide), rR_4_2, ob_s, el, rA_9 hl8, ob_s, hr.2.2.2 _ hl8]
      by_cases s2 : sc (lwN (chr n t (p + 1))) = 2
      · rw [if_pos (by rw [s2]; rfl), if_pos ⟨hl, s2⟩, rI_4_4, ob_s, rK_4, ob_s, hr.2.2.1.2.1]
        obtain ⟨h1, f1, o1, q1⟩ := row ok hok'.2
        rw [show (s_grp_Reader_binder g0).2.2.2.2.2.1 4 (nI p) (nI ok) 0 (nI (12 - d)) h = _ from f1, ob_s]
        refine ⟨h1, rfl, o1, ?_⟩
        cases hS : sq (PT k n t ow ok lt d false sc) ok (p + 1) with
        | inl w => rw [hS] at q1; exact q1
        | inr e => rw [hS] at q1; rw [hko]; exact ⟨q1.1, q1.2.1, hok'.1, q1.2.2⟩
      · have hs := hsc (lwN (chr n t (p + 1)))
        rw [if_neg (fun q => s2 ((show ∀ x, x ≤ 2 → nI x = 2 → x = 2 by decide) _ hs q)), if_neg (fun q => s2 q.2)]
        unfold s_Reader_functionTerm_87 s_Reader_wrong
        rw [ob_s, nI_1]
        exact ⟨h, rfl, o102.rf _ h, by omega⟩
    · rw [if_neg hl, if_pos rfl, if_neg (fun q => hl q.1)]
      unfold s_Reader_functionTerm_87 s_Reader_wrong
      rw [ob_s, nI_1]
      exact ⟨h, rfl, o102.rf _ h, by omega⟩
  · have hko : kk k ow ok (fnN (chr n t p)) = k (fnN (chr n t p)) := by unfold kk; rw [if_neg (by rw [← ef]; exact c1)]
    have hk3 := hk _ hf4
    obtain ⟨u1, u2⟩ := rd_takes hf4 h
    rw [if_neg c1, if_neg c1, rR_4_1, ob_s, ef, rA_2 hf4, ob_s, u1, ob_s, u2, ob_s, hr.2.1 _ hf4]
    by_cases k0 : k (fnN (chr n t p)) = 0
    · rw [if_pos (by rw [k0]; rfl), if_pos k0]
      unfold s_Reader_wrong
      rw [ob_s]
      exact ⟨h, rfl, o102.rf _ h, by omega⟩
    · rw [if_neg (nI_ne0 (by omega) (by omega)), if_neg k0, rK_4, ob_s]
      obtain ⟨h1, f1, o1, q1⟩ := row _ hk3
      rw [show (s_grp_Reader_binder g0).2.2.2.2.2.1 4 (nI p) (nI (k (fnN (chr n t p)))) 0 (nI (12 - d)) h = _ from f1, ob_s]
      refine ⟨h1, rfl, o1, ?_⟩
      cases hS : sq (PT k n t ow ok lt d false sc) (k (fnN (chr n t p))) (p + 1) with
      | inl w => rw [hS] at q1; exact q1
      | inr e => rw [hS] at q1; rw [hko]; exact ⟨q1.1, q1.2.1, by omega, q1.2.2⟩
def OPN (n : Nat) (t : Nat → Int32) (R : Bool → (Nat → Nat) → Nat → Nat ⊕ Nat) (sc : Nat → Nat) (p : Nat) : Nat ⊕ Nat := if chr n t p = 38 ∨ chr n t p = 43 ∨ chr n t p = 45 ∨ chr n t p = 124 then sq (R false sc) 2 (p + 1)
        else if chr n t p = 80 ∨ chr n t p = 84 ∨ chr n t p = 85 then sq (R false sc) 1 (p + 1)
        else if chr n t p = 73 then bn n t R false sc p
        else if chr n t p = 123 then bn n t R true sc p else .inl p
def OPQ (k : Nat → Nat) (t E : Nat → Int32) (d p e : Nat) : Prop := ((t p = 43 ∨ t p = 124 ∨ t p = 38 ∨ t p = 45) ∧ ∃ q, KD k t E d false (p + 1) q ∧ KD k t E d false q e) ∨ ((t p = 85 ∨ t p = 80 ∨ t p = 84) ∧ KD k t E d false (p + 1) e) ∨ (t p = 123 ∧ isLw (t (p + 1)) ∧ ∃ q, KD k t E d false (p + 2) q ∧ KD k t E d true q e) ∨ (t p = 73 ∧ isLw (t (p + 1)) ∧ ∃ q, KD k t E d false (p + 2) q ∧ KD k t E d false q e)
theorem rd_op (hd : d ≤ 11) (hG : ∀ g, B ≤ g → GoodR k n t ow ok lt d g) (hn : n ≤ 60) (sc : Nat → Nat) (hsc : ∀ l, sc l ≤ 2) (p : Nat) (hp : p < n) (h : HP) (hr : RC k n t ow ok lt h sc) (g : Nat) (hg : B + 3 ≤ g) :
    ∃ h', (s_grp_Reader_binder g).2.2.2.1 4 (nI p) (nI (12 - d)) h = some (enc (OPN n t (PT k n t ow ok lt d) sc p), h') ∧ o102 (p + 1) h h' ∧ (match OPN n t (PT k n t ow ok lt d) sc p with
      | .inl w => w ≤ n
      | .inr e => p < e ∧ e ≤ n ∧ OPQ (kk k ow ok) t (h'.1 102) d p e) := by
  obtain ⟨g0, rfl⟩ : ∃ g0, g = g0 + 1 := ⟨g - 1, by omega⟩
  show ∃ h', s_Reader_operation (s_grp_Reader_binder g0) 4 (nI p) (nI (12 - d)) h = _ ∧ _
  have ct : chr n t p = t p := if_pos hp
  unfold s_Reader_operation OPN
  rw [rR_4_0, ob_s, rK_100, ob_s, hr.at (by omega), ob_s]
  have row := fun (m : Nat) (hm : m ≤ 3) => rd_row hd hG hn false sc hsc m hm p hp h hr g0 (by omega)
  have bnd := fun (b : Bool) => rd_binder hd hG hn b sc hsc p hp h hr g0 (by omega)
  by_cases c1 : chr n t p = 38 ∨ chr n t p = 43 ∨ chr n t p = 45 ∨ chr n t p = 124
  · obtain ⟨h1, f1, o1, q1⟩ := row 2 (by omega)
    have f92 : s_Reader_operation_92 (s_grp_Reader_binder g0) 4 (nI p) (nI (12 - d)) h = some (enc (sq (PT k n t ow ok lt d false sc) 2 (p + 1)), h1) := by
      unfold s_Reader_operation_92
      rw [rK_4, ob_s, show (s_grp_Reader_binder g0).2.2.2.2.2.1 4 (nI p) 2 0 (nI (12 - d)) h = _ from f1, ob_s]
    rw [if_pos c1, f92]
    refine ⟨h1, ?_, o1, ?_⟩
    · rcases c1 with c | c | c | c <;> rw [c] <;> simp
    · cases hS : sq (PT k n t ow ok lt d false sc) 2 (p + 1) with
      | inl w => rw [hS] at q1; exact q1
      | inr e =>
        rw [hS] at q1
        obtain ⟨q, k1, k2⟩ := its2 q1.2.2
        have l1 := KD_lt k1
        refine ⟨by have := q1.1; omega, q1.2.1, Or.inl ⟨?_, q, k1, k2⟩⟩
        rw [← ct]
        rcases c1 with c | c | c | c
        · exact Or.inr (Or.inr (Or.inl c))
        · exact Or.inl c
        · exact Or.inr (Or.inr (Or.inr c))
        · exact Or.inr (Or.inl c)
  · have n38 : ¬ chr n t p = 38 := fun c => c1 (Or.inl c)
    have n43 : ¬ chr n t p = 43 := fun c => c1 (Or.inr (Or.inl c))
    have n45 : ¬ chr n t p = 45 := fun c => c1 (Or.inr (Or.inr (Or.inl c)))
    have n124 : ¬ chr n t p = 124 := fun c => c1 (Or.inr (Or.inr (Or.inr c)))
    rw [if_neg c1, if_neg n38, if_neg n43, if_neg n45]
    by_cases c2 : chr n t p = 80 ∨ chr n t p = 84 ∨ chr n t p = 85
    · obtain ⟨h1, f1, o1, q1⟩ := row 1 (by omega)
      have f101 : s_Reader_operation_101 (s_grp_Reader_binder g0) 4 (nI p) (nI (12 - d)) h = some (enc (sq (PT k n t ow ok lt d false sc) 1 (p + 1)), h1) := by
        unfold s_Reader_operation_101
        rw [rK_4, ob_s, show (s_grp_Reader_binder g0).2.2.2.2.2.1 4 (nI p) 1 0 (nI (12 - d)) h = _ from f1, ob_s]
      rw [if_pos c2, f101]
      refine ⟨h1, ?_, o1, ?_⟩
      · rcases c2 with c | c | c <;> rw [c] <;> simp
      · cases hS : sq (PT k n t ow ok lt d false sc) 1 (p + 1) with
        | inl w => rw [hS] at q1; exact q1
        | inr e =>
          rw [hS] at q1
          have k1 := its1 q1.2.2
          have l1 := KD_lt k1
          refine ⟨by omega, q1.2.1, Or.inr (Or.inl ⟨?_, k1⟩)⟩
          rw [← ct]
          rcases c2 with c | c | c
          · exact Or.inr (Or.inl c)
          · exact Or.inr (Or.inr c)
          · exact Or.inl c
    · have n80 : ¬ chr n t p = 80 := fun c => c2 (Or.inl c)
      have n84 : ¬ chr n t p = 84 := fun c => c2 (Or.inr (Or.inl c))
      have n85 : ¬ chr n t p = 85 := fun c => c2 (Or.inr (Or.inr c))
      rw [if_neg c2]
      by_cases c3 : chr n t p = 73
      · obtain ⟨h1, f1, o1, q1⟩ := bnd false
        rw [if_pos c3, if_pos c3, rK_4, ob_s, show (s_grp_Reader_binder g0).1 4 (nI p) 0 (nI (12 - d)) h = _ from f1, ob_s]
        refine ⟨h1, rfl, o1, ?_⟩
        cases hS : bn n t (PT k n t ow ok lt d) false sc p with
        | inl w => rw [hS] at q1; exact q1
        | inr e =>
          rw [hS] at q1
          obtain ⟨a1, a2, q, k1, k2⟩ := q1
          have l1 := KD_lt k1
          have l2 := KD_lt k2
          exact ⟨by omega, a1, Or.inr (Or.inr (Or.inr ⟨by rw [← ct]; exact c3, a2, q, k1, k2⟩))⟩
      · rw [if_neg c3, if_neg c3, if_neg n80, if_neg n84, if_neg n85]
        by_cases c4 : chr n t p = 123
        · obtain ⟨h1, f1, o1, q1⟩ := bnd true
          rw [if_pos c4, if_pos c4, rK_4, ob_s, show (s_grp_Reader_binder g0).1 4 (nI p) 1 (nI (12 - d)) h = _ from f1, ob_s]
          refine ⟨h1, rfl, o1, ?_⟩
          cases hS : bn n t (PT k n t ow ok lt d) true sc p with
          | inl w => rw [hS] at q1; exact q1
          | inr e =>
            rw [hS] at q1
            obtain ⟨a1, a2, q, k1, k2⟩ := q1
            have l1 := KD_lt k1
            have l2 := KD_lt k2
            exact ⟨by omega, a1, Or.inr (Or.inr (Or.inl ⟨by rw [← ct]; exact c4, a2, q, k1, k2⟩))⟩
        · rw [if_neg c4, if_neg c4, if_neg n124]
          unfold s_Reader_wrong
          rw [ob_s]
          exact ⟨h, rfl, o102.rf _ h, by omega⟩
theorem rd_stand (sc : Nat → Nat) (hsc : ∀ l, sc l ≤ 2) (hlt : lt ≤ 8) (h : HP) (hr : RC k n t ow ok lt h sc) {l : Nat} (hl : l < 8) : s_Reader_mayStand 4 (nI l) h = some (if l < lt ∨ sc l ≠ 0 then 1 else 0) := by
  unfold s_Reader_mayStand
  rw [rI_4_5, ob_s, hr.2.2.1.2.2]
  by_cases c1 : l < lt
  · rw [if_pos (nI_lt c1 (by omega)), if_pos (Or.inl c1)]
  · rw [if_neg (fun q => c1 ((nI_ltI (by omega) (by omega)).mp q)), rR_4_2, ob_s, rA_9 hl, ob_s, hr.2.2.2 l hl]
    have hs := hsc l
    by_cases c2 : sc l = 0
    · rw [if_pos (by rw [c2]; rfl), if_neg (fun q => q.elim c1 (fun q => q c2))]
    · rw [if_neg (nI_ne0 (by omega) (by omega)), if_pos (Or.inr c2)]
theorem PT_f (p : Nat) (sc : Nat → Nat) : PT k n t ow ok lt (d + 1) false sc p = (if 48 ≤ chr n t p ∧ chr n t p ≤ 57 then .inr (p + 1)
        else if 97 ≤ chr n t p ∧ chr n t p < 105 then (if lwN (chr n t p) < lt ∨ sc (lwN (chr n t p)) ≠ 0 then .inr (p + 1) else .inl p)
        else if 65 ≤ chr n t p ∧ chr n t p < 69 then FN k n t ow ok (PT k n t ow ok lt d false sc) sc p else OPN n t (PT k n t ow ok lt d) sc p) := rfl
theorem term_step (hd : d ≤ 11) (hG : ∀ g, B ≤ g → GoodR k n t ow ok lt d g) (hn : n ≤ 60) (hk : ∀ f, f < 4 → k f ≤ 3) (hok : ow = -1 ∨ (1 ≤ ok ∧ ok ≤ 3)) (hlt : lt ≤ 8) (sc : Nat → Nat) (hsc : ∀ l, sc l ≤ 2) (p : Nat) (hp : p ≤ n) (h : HP) (hr : RC k n t ow ok lt h sc) (g : Nat) (hg : B + 4 ≤ g) :
    ∃ h', (s_grp_Reader_binder g).2.2.2.2.2.2 4 (nI p) (nI (12 - d)) h = some (enc (PT k n t ow ok lt (d + 1) false sc p), h') ∧ Pst k n t ow ok (d + 1) false p h h' (PT k n t ow ok lt (d + 1) false sc p) := by
  obtain ⟨g0, rfl⟩ : ∃ g0, g = g0 + 1 := ⟨g - 1, by omega⟩
  rw [PT_f]
  show ∃ h', s_Reader_term (s_grp_Reader_binder g0) 4 (nI p) (nI (12 - d)) h = _ ∧ _
  have set94 : ∀ (v : Int32) (h1 : HP), o102 (p + 1) h h1 → p < n → s_Reader_term_94 (s_grp_Reader_binder g0) 4 (nI p) v h1 = some (v, (up2 h1.1 102 p v, h1.2)) := by
    intro v h1 o hp
    unfold s_Reader_term_94
    rw [rR_4_0, ob_s, rK_100, ob_s, p_set (RC.o o hr).1.1 hp, ob_s]
  by_cases hpn : p < n
  · have ct : chr n t p = t p := if_pos hpn
    unfold s_Reader_term
    rw [if_pos (show nI (12 - d) ≤ 12 from nI_le (b := 12) (by omega) (by decide)), rR_4_0, ob_s, rK_100, ob_s, hr.at (by omega), ob_s, s_dig, ob_s, nI_1]
    by_cases c1 : 48 ≤ chr n t p ∧ chr n t p ≤ 57
    · rw [if_pos c1, if_neg (by decide), if_pos c1, set94 _ h (o102.rf _ h) hpn]
      exact ⟨_, rfl, o102_set (o102.rf _ h), by omega, E_set, by omega, Or.inl ⟨by rw [← ct]; exact c1, rfl⟩⟩
    · rw [if_neg c1, if_pos rfl, if_neg c1, s_let, ob_s]
      by_cases c2 : 97 ≤ chr n t p ∧ chr n t p < 105
      · obtain ⟨el, hl8⟩ := lw_n c2
        rw [if_pos c2, if_neg (by decide), if_pos c2, rK_4, ob_s, el, rd_stand sc hsc hlt h hr hl8, ob_s]
        unfold s_Reader_term_63
        by_cases c3 : lwN (chr n t p) < lt ∨ sc (lwN (chr n t p)) ≠ 0
        · rw [if_pos c3, if_neg (by decide), if_pos c3, set94 _ h (o102.rf _ h) hpn]
          exact ⟨_, rfl, o102_set (o102.rf _ h), by omega, E_set, by omega, Or.inr (Or.inl ⟨by unfold isLw; rw [← ct]; exact c2, rfl⟩)⟩
        · rw [if_neg c3, if_pos rfl, if_neg c3]
          unfold s_Reader_wrong
          rw [ob_s, set94 _ h (o102.rf _ h) hpn]
          exact ⟨_, rfl, o102_set (o102.rf _ h), by omega⟩
      · rw [if_neg c2, if_pos rfl, if_neg c2, s_fun, ob_s]
        by_cases c3 : 65 ≤ chr n t p ∧ chr n t p < 69
        · obtain ⟨h1, f1, o1, q1⟩ := rd_fn hd hG hn hk hok sc hsc p hpn h hr c3 g0 (by omega)
          rw [if_pos c3, if_neg (by decide), if_pos c3, rK_4, ob_s, f1, ob_s]
          dsimp only
          rw [set94 _ h1 o1 hpn]
          refine ⟨_, rfl, o102_set o1, ?_⟩
          cases hS : FN k n t ow ok (PT k n t ow ok lt d false sc) sc p with
          | inl w => rw [hS] at q1; exact q1
          | inr e =>
            rw [hS] at q1
            obtain ⟨a1, a2, a3, a4⟩ := q1
            rw [ct] at a3 a4
            exact ⟨a2, E_set, by omega, Or.inr (Or.inr (Or.inl ⟨by rw [← ct]; exact c3, a3, its_set (by omega) a4⟩))⟩
        · obtain ⟨h1, f1, o1, q1⟩ := rd_op hd hG hn sc hsc p hpn h hr g0 (by omega)
          rw [if_neg c3, if_pos rfl, if_neg c3, rK_4, ob_s, f1, ob_s]
          dsimp only
          rw [set94 _ h1 o1 hpn]
          refine ⟨_, rfl, o102_set o1, ?_⟩
          cases hS : OPN n t (PT k n t ow ok lt d) sc p with
          | inl w => rw [hS] at q1; exact q1
          | inr e =>
            rw [hS] at q1
            obtain ⟨a1, a2, a3⟩ := q1
            refine ⟨a2, E_set, by omega, Or.inr (Or.inr (Or.inr ?_))⟩
            rcases a3 with ⟨x, q, k1, k2⟩ | ⟨x, k1⟩ | ⟨x, y, q, k1, k2⟩ | ⟨x, y, q, k1, k2⟩
            · have l1 := KD_lt k1
              exact Or.inl ⟨x, q, KD_set (by omega) k1, KD_set (by omega) k2⟩
            · exact Or.inr (Or.inl ⟨x, KD_set (by omega) k1⟩)
            · have l1 := KD_lt k1
              exact Or.inr (Or.inr (Or.inl ⟨x, y, q, KD_set (by omega) k1, KD_set (by omega) k2⟩))
            · have l1 := KD_lt k1
              exact Or.inr (Or.inr (Or.inr ⟨x, y, q, KD_set (by omega) k1, KD_set (by omega) k2⟩))
  · have ep : p = n := by omega
    have c0 : chr n t p = 0 := if_neg hpn
    obtain ⟨g1, rfl⟩ : ∃ g1, g0 = g1 + 1 := ⟨g0 - 1, by omega⟩
    have fo : (s_grp_Reader_binder (g1 + 1)).2.2.2.1 4 (nI p) (nI (12 - d)) h = some (-100 - nI p, h) := by
      show s_Reader_operation (s_grp_Reader_binder g1) 4 (nI p) (nI (12 - d)) h = _
      unfold s_Reader_operation
      rw [rR_4_0, ob_s, rK_100, ob_s, hr.at (by omega), ob_s, c0]
      rw [if_neg (by decide), if_neg (by decide), if_neg (by decide), if_neg (by decide), if_neg (by decide), if_neg (by decide), if_neg (by decide), if_neg (by decide), if_neg (by decide)]
      rfl
    unfold s_Reader_term
    rw [if_pos (show nI (12 - d) ≤ 12 from nI_le (b := 12) (by omega) (by decide)), rR_4_0, ob_s, rK_100, ob_s, hr.at (by omega), ob_s, s_dig, ob_s, c0]
    rw [if_neg (show ¬ ((48 : Int32) ≤ 0 ∧ (0 : Int32) ≤ 57) by decide), if_pos rfl, s_let, ob_s, if_neg (show ¬ ((97 : Int32) ≤ 0 ∧ (0 : Int32) < 105) by decide), if_pos rfl, s_fun, ob_s, if_neg (show ¬ ((65 : Int32) ≤ 0 ∧ (0 : Int32) < 69) by decide), if_pos rfl, rK_4, ob_s, fo, ob_s]
    have hO : OPN n t (PT k n t ow ok lt d) sc p = .inl p := by
      unfold OPN
      rw [c0, if_neg (by decide), if_neg (by decide), if_neg (by decide), if_neg (by decide)]
    rw [hO, if_neg (by decide), if_neg (by decide), if_neg (by decide)]
    unfold s_Reader_term_94
    rw [rR_4_0, ob_s, rK_100, ob_s, p_setEnd hr.1.1 (by omega), if_neg hpn, ob_s]
    exact ⟨h, rfl, o102.rf _ h, hp⟩
end STEP2
