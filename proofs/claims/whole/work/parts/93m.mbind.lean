/-! The model's machine: binders. -/
/-- what the machine has gathered in two[] when the members less than c0 are through -/
def tw (c : Int32) (s z : Int64) (c0 : Nat) : Int64 := if c = 69 then (if z = 0 then 0 else 1) else if c = 76 then (if ∀ j, j < c0 → mb s j = true → mb z j = true then 1 else 0) else z
def fin1 (c : Int32) (s z : Int64) : Int64 := if c = 69 ∨ c = 76 then qn c s z else z
theorem tw_fin {c : Int32} {s z : Int64} (hs : cd s) (hz : cd z) (hi : c = 76 → ∀ j, mb z j = true → mb s j = true) : tw c s z 62 = fin1 c s z := by
  unfold tw fin1 qn
  by_cases h1 : c = 69
  · rw [if_pos h1, if_pos (Or.inl h1), if_pos h1]
  · rw [if_neg h1]
    by_cases h2 : c = 76
    · rw [if_pos h2, if_pos (Or.inr h2), if_neg h1]
      by_cases h3 : z = s
      · rw [if_pos h3, if_pos (fun j _ q => by rw [h3]; exact q)]
      · rw [if_neg h3, if_neg]
        intro hall
        apply h3
        apply mb_ext
        intro j hj
        by_cases hj2 : j < 62
        · cases hb : mb z j with
          | true => exact (hi h2 j hb).symm
          | false =>
            cases hb2 : mb s j with
            | true => rw [hall j hj2 hb2] at hb; exact hb.symm
            | false => rfl
        · rw [mb_hi hz (by omega), mb_hi hs (by omega)]
    · rw [if_neg h2, if_neg (by rintro (q | q); exact h1 q; exact h2 q)]
theorem tw_skip {c : Int32} {s z : Int64} {c0 : Nat} (hb : mb s c0 = false) : tw c s z (c0 + 1) = tw c s z c0 := by
  unfold tw
  by_cases h1 : c = 69
  · rw [if_pos h1, if_pos h1]
  · rw [if_neg h1, if_neg h1]
    by_cases h2 : c = 76
    · rw [if_pos h2, if_pos h2]
      have : (∀ j, j < c0 + 1 → mb s j = true → mb z j = true) ↔ (∀ j, j < c0 → mb s j = true → mb z j = true) := by
        constructor
        · intro q j hj
          exact q j (by omega)
        · intro q j hj hm
          by_cases hjc : j = c0
          · rw [hjc, hb] at hm; cases hm
          · exact q j (by omega) hm
      simp only [this]
    · rw [if_neg h2, if_neg h2]
theorem or_0 (z : Int64) : z ||| 0 = z := by
  apply mb_ext
  intro j _
  rw [mb_or]
  have : mb 0 j = false := by unfold mb; simp
  rw [this, Bool.or_false]
theorem mb_z0 (j : Nat) : mb 0 j = false := by unfold mb; simp
theorem or_ne {z : Int64} {c0 : Nat} (hc : c0 < 62) : z ||| sg c0 ≠ 0 := by
  intro q
  have := congrArg (fun y => mb y c0) q
  simp only [mb_or, mb_z0, mb_sg hc hc] at this
  simp at this
theorem tw_69 {s z : Int64} {c0 : Nat} (hc : c0 < 62) {v : Int64} (hv : v = 0 ∨ v = 1) : tw 69 s z c0 ||| v = tw 69 s (z ||| (if v = 0 then 0 else sg c0)) (c0 + 1) := by
  unfold tw
  rw [if_pos rfl, if_pos rfl]
  rcases hv with rfl | rfl
  · rw [if_pos rfl, or_0, or_0]
  · rw [if_neg (by decide : ¬ ((1 : Int64) = 0)), if_neg (or_ne hc)]
    split <;> decide
theorem tw_76 {s z : Int64} {c0 : Nat} (hc : c0 < 62) (hm : mb s c0 = true) (hi : ∀ j, mb z j = true → j < c0 ∧ mb s j = true) {v : Int64} (hv : v = 0 ∨ v = 1) : tw 76 s z c0 &&& v = tw 76 s (z ||| (if v = 0 then 0 else sg c0)) (c0 + 1) := by
  unfold tw
  rw [if_neg (by decide : ¬ ((76 : Int32) = 69)), if_neg (by decide : ¬ ((76 : Int32) = 69)), if_pos rfl, if_pos rfl]
  rcases hv with rfl | rfl
  · rw [if_pos rfl, or_0, if_neg (c := ∀ j, j < c0 + 1 → mb s j = true → mb z j = true)]
    · split <;> decide
    · intro q
      have := hi c0 (q c0 (by omega) hm)
      omega
  · rw [if_neg (by decide : ¬ ((1 : Int64) = 0))]
    have : (∀ j, j < c0 + 1 → mb s j = true → mb (z ||| sg c0) j = true) ↔ (∀ j, j < c0 → mb s j = true → mb z j = true) := by
      constructor
      · intro q j hj hmj
        have := q j (by omega) hmj
        rw [mb_or, mb_sg hc (by omega)] at this
        have hne : ¬ j = c0 := by omega
        simpa [hne] using this
      · intro q j hj hmj
        rw [mb_or, mb_sg hc (by omega)]
        by_cases hjc : j = c0
        · simp [hjc]
        · rw [q j (by omega) hmj]
          rfl
    simp only [this]
    split <;> decide
section
variable {h : HP} {dp n : Nat} {F : Nat → Nat → Int32} {G : Nat → Nat → Int64} {rs : Int64}
theorem tk_b0 (hd : dp < 32) {c : Int32} (hb : s_AdjoinedSetsModel_isBinder c = some 1) (hF : F 214 dp = 0) : s_AdjoinedSetsModel_take 200 (nI dp) c (mw h (dp + 1) n 0 F G rs) = some (mw h (dp + 1) n 0 (up2 F 214 dp 1) (up2 (up2 (up2 G 216 dp rs) 217 dp (if c = 76 then 1 else 0)) 218 dp (-1)) rs) := by
  unfold s_AdjoinedSetsModel_take
  rw [hb, ob_s, if_neg (by decide), rR_200_20, ob_s, rA_214 hd, ob_s, mw_214, hF, if_pos rfl, rR_200_22, ob_s, rL_200_25, ob_s, mw_25, wA_216 hd, ob_s, mw_sG (by omega), rR_200_23, ob_s]
  unfold s_AdjoinedSetsModel_take_42
  by_cases h76 : c = 76
  · rw [if_pos h76, if_pos h76, wA_217 hd, ob_s, mw_sG (by omega), rR_200_24, ob_s, wA_218 hd, ob_s, mw_sG (by omega), rR_200_20, ob_s, wA_214 hd, ob_s, mw_sF (by omega)]
  · rw [if_neg h76, if_neg h76, wA_217 hd, ob_s, mw_sG (by omega), rR_200_24, ob_s, wA_218 hd, ob_s, mw_sG (by omega), rR_200_20, ob_s, wA_214 hd, ob_s, mw_sF (by omega)]
/-- the machine takes what a member brought -/
theorem tk_b1 (hd : dp < 32) {c : Int32} (hc : c = 123 ∨ c = 69 ∨ c = 76) {s z : Int64} {c0 : Nat} (hc0 : c0 < 62) (hF : F 214 dp = 1) (hG2 : G 217 dp = tw c s z c0) (hG3 : G 218 dp = lN c0) (hm : mb s c0 = true) (hi : c = 76 → ∀ j, mb z j = true → j < c0 ∧ mb s j = true) (hr : rs = 0 ∨ rs = 1) : s_AdjoinedSetsModel_take 200 (nI dp) c (mw h (dp + 1) n 0 F G rs) = some (mw h (dp + 1) n 0 (up2 F 214 dp 1) (up2 G 217 dp (tw c s (z ||| (if rs = 0 then 0 else sg c0)) (c0 + 1))) rs) := by
  unfold s_AdjoinedSetsModel_take
  have hb : s_AdjoinedSetsModel_isBinder c = some 1 := by rcases hc with rfl | rfl | rfl <;> rfl
  rw [hb, ob_s, if_neg (by decide), rR_200_20, ob_s, rA_214 hd, ob_s, mw_214, hF, if_neg (by decide)]
  rcases hc with rfl | rfl | rfl
  · rw [if_pos rfl, rR_200_23, ob_s, rL_200_25, ob_s, mw_25]
    unfold s_AdjoinedSetsModel_take_101
    have e123 : ∀ z c0, tw 123 s z c0 = z := by
      intro z c0
      unfold tw
      rw [if_neg (by decide), if_neg (by decide)]
    rw [e123] at hG2
    rw [e123]
    rcases hr with rfl | rfl
    · rw [if_neg (by decide), ob_s, rA_217 hd, ob_s, mw_217, hG2, if_pos rfl, or_0, wA_217 hd, ob_s, mw_sG (by omega), rR_200_20, ob_s, wA_214 hd, ob_s, mw_sF (by omega)]
    · rw [if_pos (by decide), ob_s, rA_217 hd, ob_s, mw_217, hG2, rR_200_24, ob_s, rA_218 hd, ob_s, mw_218, hG3, rK_200, ob_s, only_eq hc0, ob_s]
      dsimp only
      rw [wA_217 hd, ob_s, mw_sG (by omega), rR_200_20, ob_s, wA_214 hd, ob_s, mw_sF (by omega), if_neg (by decide)]
  · rw [if_neg (by decide), rR_200_23, ob_s, if_neg (by decide), if_pos rfl, ob_s, rA_217 hd, ob_s, mw_217, hG2, rL_200_25, ob_s, mw_25]
    unfold s_AdjoinedSetsModel_take_165
    rw [wA_217 hd, ob_s, mw_sG (by omega), rR_200_20, ob_s, wA_214 hd, ob_s, mw_sF (by omega), tw_69 hc0 hr]
  · rw [if_neg (by decide), rR_200_23, ob_s, if_neg (by decide), if_neg (by decide), ob_s, rA_217 hd, ob_s, mw_217, hG2, rL_200_25, ob_s, mw_25]
    unfold s_AdjoinedSetsModel_take_165
    rw [wA_217 hd, ob_s, mw_sG (by omega), rR_200_20, ob_s, wA_214 hd, ob_s, mw_sF (by omega), tw_76 hc0 hm (hi rfl) hr]
theorem tk_b2 (hd : dp < 32) {z : Int64} (hF : F 214 dp = 1) (hG2 : G 217 dp = z) : (∀ j, j < 62 → rs = lN j → s_AdjoinedSetsModel_take 200 (nI dp) 73 (mw h (dp + 1) n 0 F G rs) = some (mw h (dp + 1) n 0 (up2 F 214 dp 1) (up2 G 217 dp (z ||| sg j)) rs)) ∧ (¬ rs < 62 → s_AdjoinedSetsModel_take 200 (nI dp) 73 (mw h (dp + 1) n 0 F G rs) = some (mw h (dp + 1) n 1 (up2 F 214 dp 1) (up2 G 217 dp (z ||| 0)) rs)) := by
  have hb : s_AdjoinedSetsModel_isBinder 73 = some 1 := rfl
  constructor
  · intro j hj hr
    unfold s_AdjoinedSetsModel_take s_AdjoinedSetsModel_take_165
    rw [hb, ob_s, if_neg (by decide), rR_200_20, ob_s, rA_214 hd, ob_s, mw_214, hF, if_neg (by decide), if_neg (by decide), rR_200_23, ob_s, if_pos rfl, ob_s, rA_217 hd, ob_s, mw_217, hG2, rL_200_25, ob_s, mw_25, rK_200, ob_s, hr, only_eq hj, ob_s]
    dsimp only
    rw [wA_217 hd, ob_s, mw_sG (by omega), rR_200_20, ob_s, wA_214 hd, ob_s, mw_sF (by omega)]
  · intro hr
    unfold s_AdjoinedSetsModel_take s_AdjoinedSetsModel_take_165
    rw [hb, ob_s, if_neg (by decide), rR_200_20, ob_s, rA_214 hd, ob_s, mw_214, hF, if_neg (by decide), if_neg (by decide), rR_200_23, ob_s, if_pos rfl, ob_s, rA_217 hd, ob_s, mw_217, hG2, rL_200_25, ob_s, mw_25, rK_200, ob_s, only_out hr, ob_s]
    dsimp only
    rw [mw_s17, wA_217 hd, ob_s, mw_sG (by omega), rR_200_20, ob_s, wA_214 hd, ob_s, mw_sF (by omega)]
theorem push_o {a env : Int32} (hd : dp ≤ 32) (hn : n ≤ 3000) : ∃ dp' n' F' G', s_AdjoinedSetsModel_push 200 a env (mw h dp n 1 F G rs) = some (mw h dp' n' 1 F' G' rs) := by
  unfold s_AdjoinedSetsModel_push
  rw [rI_200_16, ob_s, mw_16, nI_1, wI_200_16, ob_s, mw_s16, rI_200_16, ob_s, mw_16]
  by_cases h3 : n = 3000
  · rw [if_pos (show 3000 < nI (n + 1) from nI_lt (a := 3000) (b := n + 1) (by omega) (by omega)), wI_200_17, ob_s, mw_s17]
    exact ⟨_, _, _, _, rfl⟩
  · rw [if_neg (show ¬ 3000 < nI (n + 1) from nI_nlt (a := 3000) (b := n + 1) (by omega) (by omega)), rI_200_15, ob_s, mw_15]
    by_cases h32 : dp = 32
    · rw [if_pos (show nI dp = 32 by rw [h32]; rfl), wI_200_17, ob_s, mw_s17]
      exact ⟨_, _, _, _, rfl⟩
    · have hd : dp < 32 := by omega
      rw [if_neg (show ¬ nI dp = 32 from fun q => h32 ((nI_eq (a := dp) (b := 32) (by omega) (by decide)).mp q))]
      rw [rR_200_18, ob_s, ob_s, wA_212 hd, ob_s, mw_sF (by omega), rR_200_19, ob_s, rI_200_15, ob_s, mw_15, wA_213 hd, ob_s, mw_sF (by omega), rR_200_20, ob_s, rI_200_15, ob_s, mw_15, wA_214 hd, ob_s, mw_sF (by omega), rR_200_21, ob_s, rI_200_15, ob_s, mw_15, wA_215 hd, ob_s, mw_sF (by omega)]
      rw [rR_200_22, ob_s, rI_200_15, ob_s, mw_15, wA_216 hd, ob_s, mw_sG (by omega), rR_200_23, ob_s, rI_200_15, ob_s, mw_15, wA_217 hd, ob_s, mw_sG (by omega), rR_200_24, ob_s, rI_200_15, ob_s, mw_15, wA_218 hd, ob_s, mw_sG (by omega), rI_200_15, ob_s, mw_15, nI_1, wI_200_15, ob_s, mw_s15]
      exact ⟨_, _, _, _, rfl⟩
/-- bind, once it has taken: it looks from the next member on -/
theorem bd_1 (hd : dp < 32) {ot : Int32} {c0 : Nat} (hc : c0 ≤ 62) (hF : F 214 dp = 1) (hG : (G 218 dp).toInt32 + 1 = nI c0) : s_AdjoinedSetsModel_bind 200 (nI dp) (mw h (dp + 1) n ot F G rs) = s_AdjoinedSetsModel_bind_38 20000 200 (nI dp) (nI c0) (mw h (dp + 1) n ot F G rs) := by
  unfold s_AdjoinedSetsModel_bind
  rw [rR_200_20, ob_s, rA_214 hd, ob_s, mw_214, hF, if_neg (by decide), rR_200_24, ob_s, rA_218 hd, ob_s, mw_218, hG]
theorem b38_e (hd : dp < 32) {ot : Int32} (k : Nat) : s_AdjoinedSetsModel_bind_38 (k + 1) 200 (nI dp) (nI 62) (mw h (dp + 1) n ot F G rs) = some (mw h dp n ot F (up2 G 218 dp (lN 62)) (G 217 dp)) := by
  rw [s_AdjoinedSetsModel_bind_38]
  dsimp only
  unfold s_AdjoinedSetsModel_bind_65
  rw [if_pos (by decide), rR_200_24, ob_s, wA_218 hd, ob_s, mw_sG (by omega), if_pos (by decide), rR_200_23, ob_s, rA_217 hd, ob_s, mw_217, up2_n (by decide), rK_200, ob_s, m_finish, ob_s, nI_l (by omega)]
theorem b38_s (hd : dp < 32) {ot : Int32} {c0 : Nat} (hc : c0 < 62) (hb : mb (G 216 dp) c0 = false) (k : Nat) : s_AdjoinedSetsModel_bind_38 (k + 1) 200 (nI dp) (nI c0) (mw h (dp + 1) n ot F G rs) = s_AdjoinedSetsModel_bind_38 k 200 (nI dp) (nI (c0 + 1)) (mw h (dp + 1) n ot F G rs) := by
  rw [s_AdjoinedSetsModel_bind_38]
  dsimp only
  rw [if_neg (show ¬ 62 ≤ nI c0 from nI_ge (b := 62) (by omega) (by omega)), rR_200_22, ob_s, rA_216 hd, ob_s, mw_216, bit64 _ hc, hb, if_neg (by decide : ¬ (false = true)), if_pos (by decide), nI_1]
theorem b38_m (hd : dp < 32) {ot : Int32} {c0 q : Nat} (hc : c0 < 62) (hb : mb (G 216 dp) c0 = true) (hE : ∀ G', s_AdjoinedSetsModel_endOf 200 (F 212 dp + 2) (mw h (dp + 1) n ot F G' rs) = some (nI q)) (k : Nat) : s_AdjoinedSetsModel_bind_38 (k + 1) 200 (nI dp) (nI c0) (mw h (dp + 1) n ot F G rs) = s_AdjoinedSetsModel_push 200 (nI q) (nI dp) (mw h (dp + 1) n ot F (up2 G 218 dp (lN c0)) rs) := by
  rw [s_AdjoinedSetsModel_bind_38]
  dsimp only
  unfold s_AdjoinedSetsModel_bind_65
  rw [if_neg (show ¬ 62 ≤ nI c0 from nI_ge (b := 62) (by omega) (by omega)), rR_200_22, ob_s, rA_216 hd, ob_s, mw_216, bit64 _ hc, hb, if_pos rfl, if_neg (by decide), rR_200_24, ob_s, nI_l (by omega), wA_218 hd, ob_s, mw_sG (by omega), if_neg (show ¬ nI c0 = 62 from fun q => by have := (nI_eq (a := c0) (b := 62) (by omega) (by decide)).mp q; omega), rR_200_18, ob_s, rA_212 hd, ob_s, mw_212, rK_200, ob_s, hE, ob_s, ob_s, ob_e]
theorem b38_o (hd : dp < 32) (hn : n ≤ 3000) {q : Nat} (hE : ∀ G', s_AdjoinedSetsModel_endOf 200 (F 212 dp + 2) (mw h (dp + 1) n 1 F G' rs) = some (nI q)) : ∀ (i c0 k : Nat), c0 + i = 62 → i < k → ∃ dp' n' F' G' rs', s_AdjoinedSetsModel_bind_38 k 200 (nI dp) (nI c0) (mw h (dp + 1) n 1 F G rs) = some (mw h dp' n' 1 F' G' rs') := by
  intro i
  induction i with
  | zero =>
    intro c0 k h1 h2
    obtain ⟨k, rfl⟩ : ∃ k0, k = k0 + 1 := ⟨k - 1, by omega⟩
    rw [show c0 = 62 by omega, b38_e hd]
    exact ⟨_, _, _, _, _, rfl⟩
  | succ i ih =>
    intro c0 k h1 h2
    obtain ⟨k, rfl⟩ : ∃ k0, k = k0 + 1 := ⟨k - 1, by omega⟩
    cases hb : mb (G 216 dp) c0 with
    | false =>
      rw [b38_s hd (by omega) hb]
      exact ih (c0 + 1) k (by omega) (by omega)
    | true =>
      rw [b38_m hd (by omega) hb hE]
      obtain ⟨a1, a2, a3, a4, a5⟩ := push_o (h := h) (dp := dp + 1) (n := n) (F := F) (G := up2 G 218 dp (lN c0)) (rs := rs) (a := nI q) (env := nI dp) (by omega) hn
      exact ⟨_, _, _, _, _, a5⟩
end
