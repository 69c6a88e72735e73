/-! rank. -/
def tbl (c : Nat) : Nat := if c = 0 then 0 else if c = 1 then 1 else if c < 4 then 2 else if c < 16 then 3 else 4
theorem rk_in : ∀ c, c < 62 → (s_grp_AdjoinedSets_rankOf 6) (nI c).toInt64 1 = some (nI (tbl c)) := by decide +kernel
def mxF (x : Int64) : Nat → Nat → Nat → Nat
  | 0 => fun _ m => m
  | i + 1 => fun c m => mxF x i (c + 1) (if mb x c then max m (tbl c + 1) else m)
theorem mxF_z (x : Int64) : ∀ (i c m : Nat), (∀ j, c ≤ j → j < c + i → mb x j = false) → mxF x i c m = m := by
  intro i
  induction i with
  | zero => intro c m _; rfl
  | succ i ih =>
    intro c m h
    show mxF x i (c + 1) (if mb x c then max m (tbl c + 1) else m) = m
    rw [h c (Nat.le_refl _) (by omega), if_neg (by decide)]
    exact ih (c + 1) m (fun j h1 h2 => h j (by omega) (by omega))
theorem tbl_4 (c : Nat) : tbl c ≤ 4 := by
  unfold tbl
  (repeat' split) <;> omega
theorem c_rk (x : Int64) : ∀ (i c r m : Nat), c + i = 62 → i < r → m ≤ 5 → s_AdjoinedSets_rankOf_10 (s_grp_AdjoinedSets_rankOf 6) r x 0 (nI m) (nI c) = some (nI (mxF x i c m)) := by
  intro i
  induction i with
  | zero =>
    intro c r m h1 h2 _
    obtain ⟨r, rfl⟩ : ∃ r0, r = r0 + 1 := ⟨r - 1, by omega⟩
    rw [s_AdjoinedSets_rankOf_10]
    dsimp only
    rw [if_pos (show 62 ≤ nI c from nI_le (a := 62) (by omega) (by omega))]
    rfl
  | succ i ih =>
    intro c r m h1 h2 hm
    obtain ⟨r, rfl⟩ : ∃ r0, r = r0 + 1 := ⟨r - 1, by omega⟩
    rw [s_AdjoinedSets_rankOf_10]
    dsimp only
    rw [if_neg (show ¬ 62 ≤ nI c from nI_ge (b := 62) (by omega) (by omega))]
    by_cases c1 : lg_cmp (x >>> ((nI c).toInt64 &&& 63)) 0 = 0
    · rw [if_pos c1]
      have := sh_z (by omega) ((lg_0 _ _).mp c1)
      rw [mxF_z x (i + 1) c m (fun j h1 h2 => this j h1 (by omega))]
    · rw [if_neg c1]
      have t4 := tbl_4 c
      unfold s_AdjoinedSets_isMember s_AdjoinedSets_rankOf_51
      rw [bit64 x (by omega), nI_1]
      show _ = some (nI (mxF x i (c + 1) (if mb x c then max m (tbl c + 1) else m)))
      cases mb x c with
      | false =>
        rw [if_neg (by decide : ¬ (false = true)), if_pos (by decide), ob_s, if_pos rfl, if_neg (by decide : ¬ (false = true)), ih (c + 1) r m (by omega) (by omega) hm]
      | true =>
        rw [if_pos rfl, if_neg (by decide), ob_s, if_neg (by decide), show (0 : Int32) + 1 = 1 from by decide, rk_in c (by omega), ob_s, nI_1, if_pos rfl]
        have e : (if nI m < nI (tbl c + 1) then nI (tbl c + 1) else nI m) = nI (max m (tbl c + 1)) := by
          by_cases hlt : m < tbl c + 1
          · rw [if_pos (nI_lt hlt (by omega)), Nat.max_eq_right (by omega)]
          · rw [if_neg (nI_nlt (by omega) (by omega)), Nat.max_eq_left (by omega)]
        rw [e, ih (c + 1) r _ (by omega) (by omega) (by omega)]
theorem tbl_or : ∀ a, a < 64 → ∀ c, c < 62 → tbl (a ||| c) = max (tbl a) (tbl c) := by decide +kernel
theorem tn_c : ∀ c, c < 62 → (nI c).toInt64.toBitVec.toNat = c := by decide +kernel
theorem mx_un (x : Int64) : ∀ (i c m : Nat) (a : Int64) (e : Bool), c + i ≤ 62 → a.toBitVec.toNat < 64 → m = (if e then 1 + tbl a.toBitVec.toNat else 0) → (e = false → a = 0) → (e = true ∨ ∃ j, c ≤ j ∧ j < c + i ∧ mb x j = true) → mxF x i c m = 1 + tbl (unF x i c a).toBitVec.toNat := by
  intro i
  induction i with
  | zero =>
    intro c m a e hc ha hm he hex
    show m = _
    rw [hm]
    rcases hex with q | ⟨j, h1, h2, _⟩
    · rw [if_pos q]; rfl
    · omega
  | succ i ih =>
    intro c m a e hc ha hm he hex
    show mxF x i (c + 1) (if mb x c then max m (tbl c + 1) else m) = 1 + tbl (unF x i (c + 1) (if mb x c then a ||| (nI c).toInt64 else a)).toBitVec.toNat
    cases hb : mb x c with
    | true =>
      rw [if_pos rfl, if_pos rfl]
      apply ih (c + 1) _ (a ||| (nI c).toInt64) true (by omega) ?_ ?_ (by intro q; cases q) (Or.inl rfl)
      · rw [Int64.toBitVec_or, BitVec.toNat_or, tn_c c (by omega)]
        exact Nat.or_lt_two_pow (n := 6) ha (by omega)
      · rw [if_pos rfl, Int64.toBitVec_or, BitVec.toNat_or, tn_c c (by omega), tbl_or _ ha c (by omega), hm]
        cases e with
        | true => rw [if_pos rfl]; omega
        | false =>
          rw [if_neg (by decide), he rfl]
          have : tbl (0 : Int64).toBitVec.toNat = 0 := by decide
          rw [this]
          omega
    | false =>
      rw [if_neg (by decide : ¬ (false = true)), if_neg (by decide : ¬ (false = true))]
      apply ih (c + 1) m a e (by omega) ha hm he
      rcases hex with q | ⟨j, h1, h2, h3⟩
      · exact Or.inl q
      · refine Or.inr ⟨j, ?_, by omega, h3⟩
        by_cases hj : j = c
        · rw [hj, hb] at h3; cases h3
        · omega
theorem tbl_un : ∀ y, y < 64 → y ≠ 0 → tbl y = 1 + tbl (unF (lN y) 62 0 0).toBitVec.toNat := by decide +kernel
theorem m_rk : ∀ (t y m r : Nat), y < 64 → tbl y = t → t < r → s_AdjoinedSetsModel_rank_14 r (nI m) (lN y) = some (nI (m + t)) := by
  intro t
  induction t with
  | zero =>
    intro y m r hy ht hr
    obtain ⟨r, rfl⟩ : ∃ r0, r = r0 + 1 := ⟨r - 1, by omega⟩
    have hy0 : y = 0 := by
      unfold tbl at ht
      revert ht
      (repeat' split) <;> omega
    rw [s_AdjoinedSetsModel_rank_14]
    dsimp only
    rw [if_pos (by rw [hy0]; decide)]
    rfl
  | succ t ih =>
    intro y m r hy ht hr
    obtain ⟨r, rfl⟩ : ∃ r0, r = r0 + 1 := ⟨r - 1, by omega⟩
    have hy0 : y ≠ 0 := by
      intro q
      rw [q] at ht
      cases ht
    rw [s_AdjoinedSetsModel_rank_14]
    dsimp only
    rw [if_neg (by rw [lg_cmp_eq]; exact fun q => hy0 ((lN_eq (a := y) (b := 0) (by omega) (by omega)).mp q)), (union_eq (lN y)).2, ob_s, nI_1, lN_self (unF (lN y) 62 0 0), ih _ (m + 1) r (by have := un_64 y hy; omega) (by have := tbl_un y hy hy0; omega) (by omega)]
    congr 2
    omega
theorem isC_cd {x : Int64} (h : isC x) : cd x := cd_of h.1 h.2
theorem op_rank : ∀ x, ∃ r, s_AdjoinedSets_rank 0 x = some r ∧ s_AdjoinedSetsModel_rank 200 x = some r := by
  intro x
  unfold s_AdjoinedSets_rank s_AdjoinedSetsModel_rank
  rcases c_isCode x with ⟨a, e1⟩ | ⟨a, e1⟩
  · have e2 : s_AdjoinedSetsModel_isCode x = some 1 := by
      rcases m_isCode x with ⟨_, e⟩ | ⟨b, _⟩
      · exact e
      · exact absurd a b
    rw [e1, e2, ob_s, ob_s, if_neg (by decide), if_neg (by decide)]
    have hc : (s_grp_AdjoinedSets_rankOf 7) x 0 = some (nI (mxF x 62 0 0)) := by
      show s_AdjoinedSets_rankOf (s_grp_AdjoinedSets_rankOf 6) x 0 = _
      unfold s_AdjoinedSets_rankOf
      rw [if_neg (by decide)]
      exact c_rk x 62 0 20000 0 rfl (by omega) (by omega)
    refine ⟨nI (mxF x 62 0 0), by rw [hc, ob_s], ?_⟩
    rw [show (20000 : Nat) = 19999 + 1 from rfl, s_AdjoinedSetsModel_rank_14]
    dsimp only
    by_cases hx : x = 0
    · rw [if_pos (by rw [hx]; decide), mxF_z x 62 0 0 (fun j _ _ => by rw [hx]; exact mb_z0 j)]
      rfl
    · have hex : ∃ j, 0 ≤ j ∧ j < 0 + 62 ∧ mb x j = true := by
        apply Classical.byContradiction
        intro hn
        apply hx
        apply mb_ext
        intro j hj
        rw [mb_z0]
        by_cases hj2 : j < 62
        · cases hb : mb x j with
          | false => rfl
          | true => exact absurd ⟨j, Nat.zero_le _, by omega, hb⟩ hn
        · exact mb_hi (isC_cd a) (by omega)
      rw [if_neg (by rw [lg_cmp_eq]; exact hx), mx_un x 62 0 0 0 false (by omega) (by decide) rfl (fun _ => rfl) (Or.inr hex), (union_eq x).2, ob_s, show (0 : Int32) + 1 = nI 1 from by decide]
      have h64 := unF_lt x 6 (by decide) 62 0 0 (by decide) (by decide)
      have := m_rk (tbl (unF x 62 0 0).toBitVec.toNat) (unF x 62 0 0).toBitVec.toNat 1 19999 h64 rfl (by have := tbl_4 (unF x 62 0 0).toBitVec.toNat; omega)
      rw [← lN_self] at this
      exact this
  · have e2 : s_AdjoinedSetsModel_isCode x = some 0 := by
      rcases m_isCode x with ⟨b, _⟩ | ⟨_, e⟩
      · exact absurd b a
      · exact e
    rw [e1, e2, ob_s, ob_s, if_pos rfl, if_pos rfl]
    exact ⟨-1, rfl, rfl⟩
