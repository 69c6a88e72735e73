/-! Codes: less than 2^62; closure, power and the one-member set, as both sides have them. -/
def cd (x : Int64) : Prop := x.toBitVec.toNat < 2 ^ 62
theorem cd_toInt {x : Int64} (h : cd x) : x.toInt = (x.toBitVec.toNat : Int) := by
  unfold cd at h
  show x.toBitVec.toInt = _
  rw [BitVec.toInt_eq_toNat_of_lt (by omega)]
theorem cd_nn {x : Int64} (h : cd x) : (0 : Int64) ≤ x := by
  rw [Int64.le_iff_toInt_le, cd_toInt h]
  show (0 : Int) ≤ _
  omega
theorem cd_of {x : Int64} (h1 : 0 ≤ x) (h2 : x ≤ 4611686018427387903) : cd x := by
  rw [Int64.le_iff_toInt_le] at h1 h2
  have e1 : (0 : Int64).toInt = 0 := by decide
  have e2 : (4611686018427387903 : Int64).toInt = 4611686018427387903 := by decide
  rw [e1] at h1
  rw [e2] at h2
  unfold cd
  have e3 : x.toInt = x.toBitVec.toInt := rfl
  rw [e3, BitVec.toInt_eq_toNat_cond] at h1 h2
  have := x.toBitVec.isLt
  split at h1 <;> omega
theorem cd_or {x y : Int64} (hx : cd x) (hy : cd y) : cd (x ||| y) := by
  unfold cd
  rw [Int64.toBitVec_or, BitVec.toNat_or]
  exact Nat.or_lt_two_pow hx hy
theorem cd_and {x y : Int64} (hx : cd x) : cd (x &&& y) := by
  unfold cd at *
  rw [Int64.toBitVec_and, BitVec.toNat_and]
  exact Nat.lt_of_le_of_lt Nat.and_le_left hx
theorem cd_n {n : Nat} (h : n < 2 ^ 62) : cd (lN n) := by
  unfold cd lN
  have : (Int64.ofNat n).toBitVec = BitVec.ofNat 64 n := rfl
  rw [this, BitVec.toNat_ofNat, Nat.mod_eq_of_lt (by omega)]
  exact h
theorem cd_0 : cd 0 := cd_n (n := 0) (by decide)
theorem cd_1 : cd 1 := cd_n (n := 1) (by decide)
/-- a code less than 62 is a small number -/
theorem cd_sm {x : Int64} (h : cd x) (h2 : x < 62) : ∃ j, j < 62 ∧ x = lN j := by
  rw [Int64.lt_iff_toInt_lt, cd_toInt h] at h2
  have e2 : (62 : Int64).toInt = 62 := by decide
  rw [e2] at h2
  refine ⟨x.toBitVec.toNat, by omega, ?_⟩
  rw [← Int64.toBitVec_inj]
  apply BitVec.eq_of_toNat_eq
  have : (lN x.toBitVec.toNat).toBitVec = BitVec.ofNat 64 x.toBitVec.toNat := rfl
  rw [this, BitVec.toNat_ofNat, Nat.mod_eq_of_lt x.toBitVec.isLt]
theorem le61 {x : Int64} : x ≤ 61 ↔ x < 62 := by
  rw [Int64.le_iff_toInt_le, Int64.lt_iff_toInt_lt]
  have e1 : (61 : Int64).toInt = 61 := by decide
  have e2 : (62 : Int64).toInt = 62 := by decide
  rw [e1, e2]
  omega
theorem mb_ext {x y : Int64} (h : ∀ j, j < 64 → mb x j = mb y j) : x = y := by
  rw [← Int64.toBitVec_inj]
  exact BitVec.eq_of_getLsbD_eq h
theorem mb_or (x y : Int64) (j : Nat) : mb (x ||| y) j = (mb x j || mb y j) := by
  unfold mb
  rw [Int64.toBitVec_or, BitVec.getLsbD_or]
theorem mb_and (x y : Int64) (j : Nat) : mb (x &&& y) j = (mb x j && mb y j) := by
  unfold mb
  rw [Int64.toBitVec_and, BitVec.getLsbD_and]
theorem mb_hi {x : Int64} (h : cd x) {j : Nat} (hj : 62 ≤ j) : mb x j = false := by
  unfold mb
  rw [← BitVec.testBit_toNat]
  exact Nat.testBit_lt_two_pow (Nat.lt_of_lt_of_le h (Nat.pow_le_pow_right (by decide) hj))
/-- the set of one member -/
def sg (c : Nat) : Int64 := (1 : Int64) <<< ((nI c).toInt64 &&& 63)
theorem cd_sg {c : Nat} (h : c < 62) : cd (sg c) := (show ∀ c, c < 62 → (sg c).toBitVec.toNat < 2 ^ 62 by decide +kernel) c h
theorem mb_sg {c j : Nat} (h : c < 62) (hj : j < 62) : mb (sg c) j = decide (j = c) := (show ∀ c, c < 62 → ∀ j, j < 62 → mb (sg c) j = decide (j = c) by decide +kernel) c h j hj
theorem unF_lt (x : Int64) (k : Nat) (hk : 6 ≤ k) : ∀ (i c : Nat) (a : Int64), c + i ≤ 62 → a.toBitVec.toNat < 2 ^ k → (unF x i c a).toBitVec.toNat < 2 ^ k := by
  intro i
  induction i with
  | zero => intro c a _ h; exact h
  | succ i ih =>
    intro c a hc h
    show (unF x i (c + 1) (if mb x c then a ||| (nI c).toInt64 else a)).toBitVec.toNat < 2 ^ k
    apply ih (c + 1) _ (by omega)
    split
    · rw [Int64.toBitVec_or, BitVec.toNat_or]
      apply Nat.or_lt_two_pow h
      have := (show ∀ c, c < 62 → (nI c).toInt64.toBitVec.toNat < 2 ^ 6 by decide +kernel) c (by omega)
      exact Nat.lt_of_lt_of_le this (Nat.pow_le_pow_right (by decide) hk)
    · exact h
theorem cd_un (x : Int64) : cd (unF x 62 0 0) := unF_lt x 62 (by decide) 62 0 0 (by decide) cd_0
theorem or_4 (a b c : Int64) : a ||| b ||| c = a ||| c ||| b := by
  rw [Int64.or_assoc, Int64.or_assoc, Int64.or_comm b c]
theorem unF_or (x y : Int64) : ∀ (i c : Nat) (a b : Int64), unF (x ||| y) i c (a ||| b) = unF x i c a ||| unF y i c b := by
  intro i
  induction i with
  | zero => intro c a b; rfl
  | succ i ih =>
    intro c a b
    show unF (x ||| y) i (c + 1) (if mb (x ||| y) c then a ||| b ||| (nI c).toInt64 else a ||| b) = unF x i (c + 1) (if mb x c then a ||| (nI c).toInt64 else a) ||| unF y i (c + 1) (if mb y c then b ||| (nI c).toInt64 else b)
    rw [← ih, mb_or]
    congr 1
    generalize (nI c).toInt64 = z
    have e : ∀ p q : Bool, (if (p || q) = true then a ||| b ||| z else a ||| b) = (if p = true then a ||| z else a) ||| (if q = true then b ||| z else b) := by
      intro p q
      cases p <;> cases q <;> simp only [Bool.or_self, Bool.or_true, Bool.or_false, Bool.false_or, if_true, if_false, reduceIte, Bool.false_eq_true]
      · rw [Int64.or_assoc]
      · rw [or_4]
      · rw [← Int64.or_assoc (a ||| z) b z, or_4 a z b, Int64.or_assoc (a ||| b) z z, Int64.or_self]
    exact e _ _
theorem un_or (x y : Int64) : unF (x ||| y) 62 0 0 = unF x 62 0 0 ||| unF y 62 0 0 := unF_or x y 62 0 0 0
theorem clF_u (i : Nat) (a : Int64) : clF (i + 1) a = clF i (a ||| unF a 62 0 0) := by rw [clF]
theorem clF_or : ∀ (i : Nat) (x y : Int64), clF i (x ||| y) = clF i x ||| clF i y := by
  intro i
  induction i with
  | zero => intro x y; rw [clF]
  | succ i ih =>
    intro x y
    rw [clF_u, clF_u, clF_u, ← ih, un_or, ← Int64.or_assoc, ← Int64.or_assoc, or_4 x y]
theorem clF_s : ∀ (i : Nat) (x : Int64), clF (i + 1) x = x ||| clF i (unF x 62 0 0) := by
  intro i
  induction i with
  | zero => intro x; rw [clF_u]; rw [clF]
  | succ i ih =>
    intro x
    have e : clF (i + 1) (unF x 62 0 0) = clF i (unF x 62 0 0) ||| clF i (unF (unF x 62 0 0) 62 0 0) := by
      rw [clF_u, clF_or]
    have e2 : unF x 62 0 0 ||| clF (i + 1) (unF x 62 0 0) = clF (i + 1) (unF x 62 0 0) := by
      rw [ih, ← Int64.or_assoc, Int64.or_self]
    rw [clF_u (i + 1) x, clF_or, ih x, Int64.or_assoc]
    rw [e, ← Int64.or_assoc (clF i (unF x 62 0 0)) (clF i (unF x 62 0 0)), Int64.or_self]
theorem lN_self (x : Int64) : x = lN x.toBitVec.toNat := by
  rw [← Int64.toBitVec_inj]
  apply BitVec.eq_of_toNat_eq
  have : (lN x.toBitVec.toNat).toBitVec = BitVec.ofNat 64 x.toBitVec.toNat := rfl
  rw [this, BitVec.toNat_ofNat, Nat.mod_eq_of_lt (BitVec.isLt _)]
theorem un_64 : ∀ b, b < 64 → (unF (lN b) 62 0 0).toBitVec.toNat < 8 := by decide +kernel
theorem un_8 : ∀ b, b < 8 → (unF (lN b) 62 0 0).toBitVec.toNat < 4 := by decide +kernel
theorem un_4 : ∀ b, b < 4 → (unF (lN b) 62 0 0).toBitVec.toNat < 2 := by decide +kernel
theorem un_2 : ∀ b, b < 2 → unF (lN b) 62 0 0 = 0 := by decide +kernel
theorem un_0 : unF 0 62 0 0 = 0 := un_2 0 (by decide)
theorem cz_0 : ∀ i, clF i 0 = 0 := by
  intro i
  induction i with
  | zero => rfl
  | succ i ih =>
    rw [clF_s, un_0, ih]
    decide
/-- four unions and nothing is left of what is less than 64 -/
theorem un_x4 {x : Int64} (h : x.toBitVec.toNat < 64) : unF (unF (unF (unF x 62 0 0) 62 0 0) 62 0 0) 62 0 0 = 0 := by
  have h1 := un_64 _ h
  rw [← lN_self] at h1
  have h2 := un_8 _ h1
  rw [← lN_self] at h2
  have h3 := un_4 _ h2
  rw [← lN_self] at h3
  have h4 := un_2 _ h3
  rw [← lN_self] at h4
  exact h4
theorem cl_eq (x : Int64) : clF 8 x = clF 5 x := by
  have h := unF_lt x 6 (by decide) 62 0 0 (by decide) (by decide)
  have h4 := un_x4 h
  have e8 : clF 8 x = x ||| (unF x 62 0 0 ||| (unF (unF x 62 0 0) 62 0 0 ||| (unF (unF (unF x 62 0 0) 62 0 0) 62 0 0 ||| (unF (unF (unF (unF x 62 0 0) 62 0 0) 62 0 0) 62 0 0 ||| 0)))) := by
    rw [clF_s 7 x, clF_s 6, clF_s 5, clF_s 4, clF_s 3, h4, cz_0]
  have e5 : clF 5 x = x ||| (unF x 62 0 0 ||| (unF (unF x 62 0 0) 62 0 0 ||| (unF (unF (unF x 62 0 0) 62 0 0) 62 0 0 ||| (unF (unF (unF (unF x 62 0 0) 62 0 0) 62 0 0) 62 0 0 ||| 0)))) := by
    rw [clF_s 4 x, clF_s 3, clF_s 2, clF_s 1, clF_s 0, h4, cz_0]
  rw [e8, e5]
theorem cd_cl {x : Int64} (h : cd x) : ∀ i, cd (clF i x) := by
  intro i
  induction i generalizing x with
  | zero => exact h
  | succ i ih => exact ih (cd_or h (cd_un x))
theorem below_eq (x : Int64) : s_Worker_allBelow x = some (clF 5 x) ∧ s_AdjoinedSetsModel_closure x = some (clF 5 x) := ⟨c_closure 5 0 20000 x rfl (by omega), by rw [← cl_eq]; exact m_closure 8 0 20000 x rfl (by omega)⟩
def pwF (x : Int64) : Nat → Nat → Int64 → Int64
  | 0 => fun _ a => a
  | i + 1 => fun c a => pwF x i (c + 1) (if (nI c).toInt64 &&& (x ^^^ (-1)) = 0 then a ||| sg c else a)
theorem m_power (x : Int64) (h : HP) : ∀ (i c r : Nat) (a : Int64), c + i = 62 → i < r → s_AdjoinedSetsModel_power_20 r x a (nI c) h = some (pwF x i c a, h) := by
  intro i
  induction i with
  | zero =>
    intro c r a h1 h2
    obtain ⟨r, rfl⟩ : ∃ r0, r = r0 + 1 := ⟨r - 1, by omega⟩
    rw [s_AdjoinedSetsModel_power_20]
    dsimp only
    rw [if_pos (show 62 ≤ nI c from nI_le (a := 62) (by omega) (by omega))]
    rfl
  | succ i ih =>
    intro c r a h1 h2
    obtain ⟨r, rfl⟩ : ∃ r0, r = r0 + 1 := ⟨r - 1, by omega⟩
    rw [s_AdjoinedSetsModel_power_20]
    dsimp only
    rw [if_neg (show ¬ 62 ≤ nI c from nI_ge (b := 62) (by omega) (by omega))]
    unfold s_AdjoinedSetsModel_power_51
    rw [nI_1, ih (c + 1) r _ (by omega) (by omega), ih (c + 1) r _ (by omega) (by omega)]
    show _ = some (pwF x i (c + 1) (if (nI c).toInt64 &&& (x ^^^ (-1)) = 0 then a ||| sg c else a), h)
    by_cases hc : (nI c).toInt64 &&& (x ^^^ (-1)) = 0
    · rw [if_pos ((lg_0 _ _).mpr hc), if_pos hc]
      rfl
    · rw [if_neg (fun q => hc ((lg_0 _ _).mp q)), if_neg hc]
theorem c_power {j : Nat} (hj : j < 62) : ∀ (i c r : Nat) (a : Int64), c + i = j + 1 → i < r → s_Worker_subsetsOf_17 r (lN j) a (nI c) = some (pwF (lN j) i c a) := by
  intro i
  induction i with
  | zero =>
    intro c r a h1 h2
    obtain ⟨r, rfl⟩ : ∃ r0, r = r0 + 1 := ⟨r - 1, by omega⟩
    rw [s_Worker_subsetsOf_17]
    dsimp only
    rw [if_pos (by rw [lg_cmp_gt, nI_l (by omega)]; exact (lN_lt (by omega) (by omega)).mpr (by omega))]
    rfl
  | succ i ih =>
    intro c r a h1 h2
    obtain ⟨r, rfl⟩ : ∃ r0, r = r0 + 1 := ⟨r - 1, by omega⟩
    rw [s_Worker_subsetsOf_17]
    dsimp only
    rw [if_neg (by rw [lg_cmp_gt, nI_l (by omega), lN_lt (by omega) (by omega)]; omega)]
    unfold s_Worker_subsetsOf_46
    rw [nI_1, ih (c + 1) r _ (by omega) (by omega), ih (c + 1) r _ (by omega) (by omega)]
    show _ = some (pwF (lN j) i (c + 1) (if (nI c).toInt64 &&& (lN j ^^^ (-1)) = 0 then a ||| sg c else a))
    by_cases hc : (nI c).toInt64 &&& (lN j ^^^ (-1)) = 0
    · rw [if_pos ((lg_0 _ _).mpr hc), if_pos hc]
      rfl
    · rw [if_neg (fun q => hc ((lg_0 _ _).mp q)), if_neg hc]
theorem pw_fin : ∀ j, j < 62 → pwF (lN j) (j + 1) 0 0 = pwF (lN j) 62 0 0 ∧ (pwF (lN j) 62 0 0).toBitVec.toNat < 2 ^ 62 := by decide +kernel
theorem subsets_eq {x : Int64} (h : cd x) (h2 : x < 62) : s_Worker_subsetsOf x = some (pwF x 62 0 0) := by
  obtain ⟨j, hj, rfl⟩ := cd_sm h h2
  unfold s_Worker_subsetsOf
  rw [if_pos ((lg_cmp_lt _ _).mpr h2), ← (pw_fin j hj).1]
  exact c_power hj (j + 1) 0 20000 0 (by omega) (by omega)
theorem subsets_out {x : Int64} (h2 : ¬ x < 62) : s_Worker_subsetsOf x = some (-3) := by
  unfold s_Worker_subsetsOf
  rw [if_neg (fun q => h2 ((lg_cmp_lt _ _).mp q))]
theorem cd_pw {x : Int64} (h : cd x) (h2 : x < 62) : cd (pwF x 62 0 0) := by
  obtain ⟨j, hj, rfl⟩ := cd_sm h h2
  exact (pw_fin j hj).2
theorem power_eq {x : Int64} (h2 : x < 62) (h : HP) : s_AdjoinedSetsModel_power 200 x h = some (pwF x 62 0 0, h) := by
  unfold s_AdjoinedSetsModel_power
  rw [if_pos ((lg_cmp_le _ _).mpr (le61.mpr h2))]
  exact m_power x h 62 0 20000 0 rfl (by omega)
theorem power_out {x : Int64} (h2 : ¬ x < 62) (h : HP) : s_AdjoinedSetsModel_power 200 x h = some (0, (up2 h.1 200 17 1, h.2)) := by
  unfold s_AdjoinedSetsModel_power
  rw [if_neg (fun q => h2 (le61.mp ((lg_cmp_le _ _).mp q))), wI_200_17, ob_s]
theorem only_eq {j : Nat} (hj : j < 62) (h : HP) : s_AdjoinedSetsModel_only 200 (lN j) h = some (sg j, h) := by
  unfold s_AdjoinedSetsModel_only
  rw [if_pos (show lg_cmp (lN j) 61 ≤ 0 from (lg_cmp_le _ _).mpr (show lN j ≤ lN 61 from (lN_le (by omega) (by omega)).mpr (by omega))), lN_i]
  rfl
theorem only_out {x : Int64} (h2 : ¬ x < 62) (h : HP) : s_AdjoinedSetsModel_only 200 x h = some (0, (up2 h.1 200 17 1, h.2)) := by
  unfold s_AdjoinedSetsModel_only
  rw [if_neg (fun q => h2 (le61.mp ((lg_cmp_le _ _).mp q))), wI_200_17, ob_s]
