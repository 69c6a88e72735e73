/-! A set's members are its code's bits. -/
def mb (x : Int64) (c : Nat) : Bool := x.toBitVec.getLsbD c
theorem sh_c {c : Nat} (hc : c < 62) : (((nI c).toInt64 &&& 63).toBitVec.smod 64).toNat = c := (show ∀ c, c < 62 → (((nI c).toInt64 &&& 63).toBitVec.smod 64).toNat = c by decide) c hc
theorem bit64 (x : Int64) {c : Nat} (hc : c < 62) : ((x >>> ((nI c).toInt64 &&& 63)) &&& 1) = if mb x c then 1 else 0 := by
  rw [← Int64.toBitVec_inj, Int64.toBitVec_and, Int64.toBitVec_shiftRight, BitVec.sshiftRight_eq', sh_c hc]
  have e1 : (1 : Int64).toBitVec = BitVec.twoPow 64 0 := by decide
  rw [e1, BitVec.and_twoPow, BitVec.getLsbD_sshiftRight]
  unfold mb
  have e2 : (decide (64 ≤ 0)) = false := by decide
  have e3 : c + 0 < 64 := by omega
  rw [e2, if_pos e3, Nat.add_zero]
  cases x.toBitVec.getLsbD c with
  | true => decide
  | false => decide
theorem lg_0 (x y : Int64) : lg_cmp x y = 0 ↔ x = y := by
  unfold lg_cmp
  constructor
  · intro h
    by_cases c1 : x = y
    · exact c1
    · exfalso
      revert h
      (repeat' split) <;> first | decide | (intro _; exact c1 (by assumption)) | skip
  · intro h
    subst h
    simp
theorem sh_z {x : Int64} {c : Nat} (hc : c < 62) (h : (x >>> ((nI c).toInt64 &&& 63)) = 0) : ∀ j, c ≤ j → j < 62 → mb x j = false := by
  intro j h1 h2
  rw [← Int64.toBitVec_inj, Int64.toBitVec_shiftRight, BitVec.sshiftRight_eq', sh_c hc] at h
  have := congrArg (fun z : BitVec 64 => z.getLsbD (j - c)) h
  have e2 : (decide (64 ≤ j - c)) = false := by rw [decide_eq_false]; omega
  rw [BitVec.getLsbD_sshiftRight, e2, if_pos (by omega), show c + (j - c) = j by omega] at this
  unfold mb
  have z : (0 : Int64).toBitVec.getLsbD (j - c) = false := by simp
  rw [z] at this
  simpa using this
def unF (x : Int64) : Nat → Nat → Int64 → Int64
  | 0 => fun _ a => a
  | i + 1 => fun c a => unF x i (c + 1) (if mb x c then a ||| (nI c).toInt64 else a)
theorem unF_z (x : Int64) : ∀ (i c : Nat) (a : Int64), (∀ j, c ≤ j → j < c + i → mb x j = false) → unF x i c a = a := by
  intro i
  induction i with
  | zero => intro c a _; rfl
  | succ i ih =>
    intro c a h
    show unF x i (c + 1) (if mb x c then a ||| (nI c).toInt64 else a) = a
    rw [h c (Nat.le_refl _) (by omega), if_neg (by decide)]
    exact ih (c + 1) a (fun j h1 h2 => h j (by omega) (by omega))
theorem m_union (x : Int64) : ∀ (i c r : Nat) (a : Int64), c + i = 62 → i < r → s_AdjoinedSetsModel_union_5 r x a (nI c) = some (unF x i c a) := by
  intro i
  induction i with
  | zero =>
    intro c r a h1 h2
    obtain ⟨r, rfl⟩ : ∃ r0, r = r0 + 1 := ⟨r - 1, by omega⟩
    rw [s_AdjoinedSetsModel_union_5]
    dsimp only
    rw [if_pos (show 62 ≤ nI c from nI_le (a := 62) (by omega) (by omega))]
    rfl
  | succ i ih =>
    intro c r a h1 h2
    obtain ⟨r, rfl⟩ : ∃ r0, r = r0 + 1 := ⟨r - 1, by omega⟩
    rw [s_AdjoinedSetsModel_union_5]
    dsimp only
    rw [if_neg (show ¬ 62 ≤ nI c from nI_ge (b := 62) (by omega) (by omega)), bit64 x (by omega)]
    unfold s_AdjoinedSetsModel_union_32
    rw [nI_1, ih (c + 1) r _ (by omega) (by omega), ih (c + 1) r _ (by omega) (by omega)]
    show _ = some (unF x i (c + 1) (if mb x c then a ||| (nI c).toInt64 else a))
    cases mb x c with
    | true => rw [if_pos (by decide)]; rfl
    | false => rw [if_neg (by decide)]; rfl
theorem c_union (x : Int64) : ∀ (i c r : Nat) (a : Int64), c + i = 62 → i < r → s_Worker_unionOf_5 r x a (nI c) = some (unF x i c a) := by
  intro i
  induction i with
  | zero =>
    intro c r a h1 h2
    obtain ⟨r, rfl⟩ : ∃ r0, r = r0 + 1 := ⟨r - 1, by omega⟩
    rw [s_Worker_unionOf_5]
    dsimp only
    rw [if_pos (show 62 ≤ nI c from nI_le (a := 62) (by omega) (by omega))]
    rfl
  | succ i ih =>
    intro c r a h1 h2
    obtain ⟨r, rfl⟩ : ∃ r0, r = r0 + 1 := ⟨r - 1, by omega⟩
    rw [s_Worker_unionOf_5]
    dsimp only
    rw [if_neg (show ¬ 62 ≤ nI c from nI_ge (b := 62) (by omega) (by omega))]
    by_cases c1 : lg_cmp (x >>> ((nI c).toInt64 &&& 63)) 0 = 0
    · rw [if_pos c1]
      have := sh_z (by omega) ((lg_0 _ _).mp c1)
      rw [unF_z x (i + 1) c a (fun j h1 h2 => this j h1 (by omega))]
    · rw [if_neg c1]
      unfold s_AdjoinedSets_isMember s_Worker_unionOf_36
      rw [bit64 x (by omega), nI_1, ih (c + 1) r _ (by omega) (by omega), ih (c + 1) r _ (by omega) (by omega)]
      show _ = some (unF x i (c + 1) (if mb x c then a ||| (nI c).toInt64 else a))
      cases mb x c with
      | true => rw [if_neg (by decide), ob_s, if_neg (by decide)]; rfl
      | false => rw [if_pos (by decide), ob_s, if_pos rfl]; rfl
theorem union_eq (x : Int64) : s_Worker_unionOf x = some (unF x 62 0 0) ∧ s_AdjoinedSetsModel_union x = some (unF x 62 0 0) := ⟨c_union x 62 0 20000 0 rfl (by omega), m_union x 62 0 20000 0 rfl (by omega)⟩
