/-! Closure, as both sides count it. -/
def clF : Nat → Int64 → Int64
  | 0 => fun a => a
  | i + 1 => fun a => clF i (a ||| unF a 62 0 0)
theorem m_closure : ∀ (i c r : Nat) (a : Int64), c + i = 8 → i < r → s_AdjoinedSetsModel_closure_5 r a (nI c) = some (clF i a) := by
  intro i
  induction i with
  | zero =>
    intro c r a h1 h2
    obtain ⟨r, rfl⟩ : ∃ r0, r = r0 + 1 := ⟨r - 1, by omega⟩
    rw [s_AdjoinedSetsModel_closure_5]
    dsimp only
    rw [if_pos (show 8 ≤ nI c from nI_le (a := 8) (by omega) (by omega))]
    rfl
  | succ i ih =>
    intro c r a h1 h2
    obtain ⟨r, rfl⟩ : ∃ r0, r = r0 + 1 := ⟨r - 1, by omega⟩
    rw [s_AdjoinedSetsModel_closure_5]
    dsimp only
    rw [if_neg (show ¬ 8 ≤ nI c from nI_ge (b := 8) (by omega) (by omega)), (union_eq a).2, ob_s, nI_1, ih (c + 1) r _ (by omega) (by omega)]
    rfl
theorem c_closure : ∀ (i c r : Nat) (a : Int64), c + i = 5 → i < r → s_Worker_allBelow_5 r a (nI c) = some (clF i a) := by
  intro i
  induction i with
  | zero =>
    intro c r a h1 h2
    obtain ⟨r, rfl⟩ : ∃ r0, r = r0 + 1 := ⟨r - 1, by omega⟩
    rw [s_Worker_allBelow_5]
    dsimp only
    rw [if_pos (show 5 ≤ nI c from nI_le (a := 5) (by omega) (by omega))]
    rfl
  | succ i ih =>
    intro c r a h1 h2
    obtain ⟨r, rfl⟩ : ∃ r0, r = r0 + 1 := ⟨r - 1, by omega⟩
    rw [s_Worker_allBelow_5]
    dsimp only
    rw [if_neg (show ¬ 5 ≤ nI c from nI_ge (b := 5) (by omega) (by omega)), (union_eq a).1, ob_s, nI_1, ih (c + 1) r _ (by omega) (by omega)]
    rfl
