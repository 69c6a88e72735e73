/-! The model's machine: frames, push, the loop's turns. -/
def mw (h : HP) (dp n : Nat) (ot : Int32) (F : Nat → Nat → Int32) (G : Nat → Nat → Int64) (rs : Int64) : HP := (fun m i => if m = 200 then (if i = 15 then nI dp else if i = 16 then nI n else if i = 17 then ot else h.1 200 i) else if 212 ≤ m ∧ m ≤ 215 then F m i else h.1 m i, fun m i => if m = 200 then (if i = 25 then rs else h.2.1 200 i) else if 216 ≤ m ∧ m ≤ 218 then G m i else h.2.1 m i, h.2.2)
section
variable {h : HP} {dp n : Nat} {ot : Int32} {F : Nat → Nat → Int32} {G : Nat → Nat → Int64} {rs : Int64}
theorem mw_15 : (mw h dp n ot F G rs).1 200 15 = nI dp := rfl
theorem mw_16 : (mw h dp n ot F G rs).1 200 16 = nI n := rfl
theorem mw_17 : (mw h dp n ot F G rs).1 200 17 = ot := rfl
theorem mw_25 : (mw h dp n ot F G rs).2.1 200 25 = rs := rfl
theorem mw_212 : (mw h dp n ot F G rs).1 212 = F 212 := rfl
theorem mw_213 : (mw h dp n ot F G rs).1 213 = F 213 := rfl
theorem mw_214 : (mw h dp n ot F G rs).1 214 = F 214 := rfl
theorem mw_215 : (mw h dp n ot F G rs).1 215 = F 215 := rfl
theorem mw_216 : (mw h dp n ot F G rs).2.1 216 = G 216 := rfl
theorem mw_217 : (mw h dp n ot F G rs).2.1 217 = G 217 := rfl
theorem mw_218 : (mw h dp n ot F G rs).2.1 218 = G 218 := rfl
theorem mw_201 : (mw h dp n ot F G rs).1 201 = h.1 201 := rfl
theorem mw_203 : (mw h dp n ot F G rs).1 203 = h.1 203 := rfl
theorem mw_202 : (mw h dp n ot F G rs).2.1 202 = h.2.1 202 := rfl
theorem mw_s15 {d' : Nat} : (up2 (mw h dp n ot F G rs).1 200 15 (nI d'), (mw h dp n ot F G rs).2) = mw h d' n ot F G rs := by
  refine Prod.ext ?_ rfl
  funext a b
  show up2 (mw h dp n ot F G rs).1 200 15 (nI d') a b = (mw h d' n ot F G rs).1 a b
  unfold up2 mw
  dsimp only
  by_cases c1 : a = 200
  · by_cases c2 : b = 15
    · simp [c1, c2]
    · simp [c1, c2]
  · simp [c1]
theorem mw_s16 {d' : Nat} : (up2 (mw h dp n ot F G rs).1 200 16 (nI d'), (mw h dp n ot F G rs).2) = mw h dp d' ot F G rs := by
  refine Prod.ext ?_ rfl
  funext a b
  show up2 (mw h dp n ot F G rs).1 200 16 (nI d') a b = (mw h dp d' ot F G rs).1 a b
  unfold up2 mw
  dsimp only
  by_cases c1 : a = 200
  · by_cases c2 : b = 16
    · simp [c1, c2]
    · simp [c1, c2]
  · simp [c1]
theorem mw_s17 {d' : Int32} : (up2 (mw h dp n ot F G rs).1 200 17 d', (mw h dp n ot F G rs).2) = mw h dp n d' F G rs := by
  refine Prod.ext ?_ rfl
  funext a b
  show up2 (mw h dp n ot F G rs).1 200 17 d' a b = (mw h dp n d' F G rs).1 a b
  unfold up2 mw
  dsimp only
  by_cases c1 : a = 200
  · by_cases c2 : b = 17
    · simp [c1, c2]
    · simp [c1, c2]
  · simp [c1]
theorem mw_s25 {v : Int64} : ((mw h dp n ot F G rs).1, up2 (mw h dp n ot F G rs).2.1 200 25 v, (mw h dp n ot F G rs).2.2) = mw h dp n ot F G v := by
  refine Prod.ext rfl (Prod.ext ?_ rfl)
  funext a b
  show up2 (mw h dp n ot F G rs).2.1 200 25 v a b = (mw h dp n ot F G v).2.1 a b
  unfold up2 mw
  dsimp only
  by_cases c1 : a = 200
  · by_cases c2 : b = 25
    · simp [c1, c2]
    · simp [c1, c2]
  · simp [c1]
theorem mw_sF {m i : Nat} {x : Int32} (hm : 212 ≤ m ∧ m ≤ 215) : (up2 (mw h dp n ot F G rs).1 m i x, (mw h dp n ot F G rs).2) = mw h dp n ot (up2 F m i x) G rs := by
  refine Prod.ext ?_ rfl
  funext a b
  show up2 (mw h dp n ot F G rs).1 m i x a b = (mw h dp n ot (up2 F m i x) G rs).1 a b
  unfold mw
  dsimp only
  by_cases c : a = m ∧ b = i
  · rw [if_neg (by omega), if_pos (by omega)]
    unfold up2
    rw [if_pos c, if_pos c]
  · unfold up2
    rw [if_neg c, if_neg c]
theorem mw_sG {m i : Nat} {x : Int64} (hm : 216 ≤ m ∧ m ≤ 218) : ((mw h dp n ot F G rs).1, up2 (mw h dp n ot F G rs).2.1 m i x, (mw h dp n ot F G rs).2.2) = mw h dp n ot F (up2 G m i x) rs := by
  refine Prod.ext rfl (Prod.ext ?_ rfl)
  funext a b
  show up2 (mw h dp n ot F G rs).2.1 m i x a b = (mw h dp n ot F (up2 G m i x) rs).2.1 a b
  unfold mw
  dsimp only
  by_cases c : a = m ∧ b = i
  · rw [if_neg (by omega), if_pos (by omega)]
    unfold up2
    rw [if_pos c, if_pos c]
  · unfold up2
    rw [if_neg c, if_neg c]
end
def pF (F : Nat → Nat → Int32) (dp : Nat) (a env : Int32) : Nat → Nat → Int32 := up2 (up2 (up2 (up2 F 212 dp a) 213 dp env) 214 dp 0) 215 dp (a + 1)
def pG (G : Nat → Nat → Int64) (dp : Nat) : Nat → Nat → Int64 := up2 (up2 (up2 G 216 dp 0) 217 dp 0) 218 dp 0
section
variable {h : HP} {dp n : Nat} {F : Nat → Nat → Int32} {G : Nat → Nat → Int64} {rs : Int64}
theorem m_push (hd : dp < 32) (hn : n < 3000) (a env : Int32) : s_AdjoinedSetsModel_push 200 a env (mw h dp n 0 F G rs) = some (mw h (dp + 1) (n + 1) 0 (pF F dp a env) (pG G dp) rs) := by
  unfold s_AdjoinedSetsModel_push
  rw [rI_200_16, ob_s, mw_16, nI_1, wI_200_16, ob_s, mw_s16, rI_200_16, ob_s, mw_16, if_neg (show ¬ 3000 < nI (n + 1) from nI_nlt (a := 3000) (b := n + 1) (by omega) (by omega)), rI_200_15, ob_s, mw_15, if_neg (fun q => by have := (nI_eq (a := dp) (b := 32) (by omega) (by decide)).mp q; omega)]
  rw [rR_200_18, ob_s, ob_s, wA_212 hd, ob_s, mw_sF (by omega), rR_200_19, ob_s, rI_200_15, ob_s, mw_15, wA_213 hd, ob_s, mw_sF (by omega), rR_200_20, ob_s, rI_200_15, ob_s, mw_15, wA_214 hd, ob_s, mw_sF (by omega), rR_200_21, ob_s, rI_200_15, ob_s, mw_15, wA_215 hd, ob_s, mw_sF (by omega)]
  rw [rR_200_22, ob_s, rI_200_15, ob_s, mw_15, wA_216 hd, ob_s, mw_sG (by omega), rR_200_23, ob_s, rI_200_15, ob_s, mw_15, wA_217 hd, ob_s, mw_sG (by omega), rR_200_24, ob_s, rI_200_15, ob_s, mw_15, wA_218 hd, ob_s, mw_sG (by omega), rI_200_15, ob_s, mw_15, nI_1, wI_200_15, ob_s, mw_s15]
  rfl
theorem m_pusho (hd : dp ≤ 32) (hn : n ≤ 3000) (ho : dp = 32 ∨ n = 3000) (a env : Int32) : s_AdjoinedSetsModel_push 200 a env (mw h dp n 0 F G rs) = some (mw h dp (n + 1) 1 F G rs) := by
  unfold s_AdjoinedSetsModel_push
  rw [rI_200_16, ob_s, mw_16, nI_1, wI_200_16, ob_s, mw_s16, rI_200_16, ob_s, mw_16]
  by_cases h3 : n = 3000
  · rw [if_pos (show 3000 < nI (n + 1) from nI_lt (a := 3000) (b := n + 1) (by omega) (by omega)), wI_200_17, ob_s, mw_s17]
  · rw [if_neg (show ¬ 3000 < nI (n + 1) from nI_nlt (a := 3000) (b := n + 1) (by omega) (by omega)), rI_200_15, ob_s, mw_15, if_pos (show nI dp = 32 by rw [show dp = 32 by omega]; rfl), wI_200_17, ob_s, mw_s17]
theorem w_out (k : Nat) (c : Int32) : s_AdjoinedSetsModel_work_23 (k + 1) 200 c (mw h dp n 1 F G rs) = some (-3, mw h dp n 1 F G rs) := by
  rw [s_AdjoinedSetsModel_work_23]
  dsimp only
  have e : s_AdjoinedSetsModel_work_136 200 (mw h dp n 1 F G rs) = some (-3, mw h dp n 1 F G rs) := by
    unfold s_AdjoinedSetsModel_work_136
    rw [rI_200_17, ob_s, mw_17, if_neg (by decide)]
  rw [rI_200_15, ob_s, e, rI_200_17]
  split
  · rfl
  · rw [ob_s, mw_17, if_neg (by decide)]
theorem w_end (k : Nat) (c : Int32) : s_AdjoinedSetsModel_work_23 (k + 1) 200 c (mw h 0 n 0 F G rs) = some (rs, mw h 0 n 0 F G rs) := by
  rw [s_AdjoinedSetsModel_work_23]
  dsimp only
  unfold s_AdjoinedSetsModel_work_136
  rw [rI_200_15, ob_s, mw_15, if_pos (by decide), rI_200_17, ob_s, mw_17, if_pos rfl, rL_200_25, ob_s, mw_25]
theorem w_0 (hd : dp < 32) {p : Nat} {c : Int32} (hp : p < 1500) (hF : F 212 dp = nI p) (hc : h.1 201 p = c) (k : Nat) : s_AdjoinedSetsModel_work_23 (k + 1) 200 0 (mw h (dp + 1) n 0 F G rs) = (s_AdjoinedSetsModel_goOn 200 (nI dp) c (mw h (dp + 1) n 0 F G rs)).bind fun q => s_AdjoinedSetsModel_work_119 (s_AdjoinedSetsModel_work_23 k) 200 (nI dp) q := by
  rw [s_AdjoinedSetsModel_work_23]
  dsimp only
  unfold s_AdjoinedSetsModel_work_101 s_AdjoinedSetsModel_work_112
  rw [rI_200_15, ob_s, mw_15, if_neg (show ¬ nI (dp + 1) ≤ 0 from nI_ge (a := 0) (by omega) (by omega)), rI_200_17, ob_s, mw_17, if_pos rfl, ob_s, rR_200_0, ob_s, rR_200_18, ob_s, nI_pred, rA_212 hd, ob_s, mw_212, hF, rA_201 hp, ob_s, mw_201, hc, if_pos rfl, if_pos rfl, rK_200, ob_s]
theorem w_1 (hd : dp < 32) {p : Nat} {c : Int32} (hp : p < 1500) (hF : F 212 dp = nI p) (hc : h.1 201 p = c) (hf : s_AdjoinedSetsModel_isFunction c = some 0) (k : Nat) : s_AdjoinedSetsModel_work_23 (k + 1) 200 1 (mw h (dp + 1) n 0 F G rs) = (s_AdjoinedSetsModel_take 200 (nI dp) c (mw h (dp + 1) n 0 F G rs)).bind fun q0 => (s_AdjoinedSetsModel_goOn 200 (nI dp) c q0).bind fun q => s_AdjoinedSetsModel_work_119 (s_AdjoinedSetsModel_work_23 k) 200 (nI dp) q := by
  rw [s_AdjoinedSetsModel_work_23]
  dsimp only
  unfold s_AdjoinedSetsModel_work_101 s_AdjoinedSetsModel_work_112
  rw [rI_200_15, ob_s, mw_15, if_neg (show ¬ nI (dp + 1) ≤ 0 from nI_ge (a := 0) (by omega) (by omega)), rI_200_17, ob_s, mw_17, if_pos rfl, ob_s, rR_200_0, ob_s, rR_200_18, ob_s, nI_pred, rA_212 hd, ob_s, mw_212, hF, rA_201 hp, ob_s, mw_201, hc, if_neg (by decide), hf, ob_s, if_pos rfl, if_neg (by decide), rK_200, ob_s]
  rfl
theorem w_1f (hd : dp < 32) {p s m : Nat} {c : Int32} (hp : p < 1500) (hF : F 212 dp = nI p) (hc : h.1 201 p = c) (hf : 65 ≤ c ∧ c < 69) (hs : F 214 dp = nI s) (hm : h.1 203 (fnN c) = nI m) (h3 : s < m) (h4 : m ≤ 3) (k : Nat) : s_AdjoinedSetsModel_work_23 (k + 1) 200 1 (mw h (dp + 1) n 0 F G rs) = (s_AdjoinedSetsModel_take 200 (nI dp) c (mw h (dp + 1) n 0 F G rs)).bind fun q0 => (s_AdjoinedSetsModel_goOn 200 (nI dp) c q0).bind fun q => s_AdjoinedSetsModel_work_119 (s_AdjoinedSetsModel_work_23 k) 200 (nI dp) q := by
  have hfn := fn_n hf
  rw [s_AdjoinedSetsModel_work_23]
  dsimp only
  unfold s_AdjoinedSetsModel_work_101 s_AdjoinedSetsModel_work_112
  rw [rI_200_15, ob_s, mw_15, if_neg (show ¬ nI (dp + 1) ≤ 0 from nI_ge (a := 0) (by omega) (by omega)), rI_200_17, ob_s, mw_17, if_pos rfl, ob_s, rR_200_0, ob_s, rR_200_18, ob_s, nI_pred, rA_212 hd, ob_s, mw_212, hF, rA_201 hp, ob_s, mw_201, hc, if_neg (by decide), ml_fun, if_pos hf, ob_s, if_neg (by decide), rR_200_20, ob_s, rA_214 hd, ob_s, mw_214, hs, rR_200_3, ob_s, hfn.1, rA_203 hfn.2, ob_s, mw_203, hm, if_neg (fun q => by have := (nI_eq (a := s) (b := m) (by omega) (by omega)).mp q; omega), if_neg (by decide), rK_200, ob_s]
  rfl
theorem w_119d (hd : dp < 32) {ot : Int32} (c23 : Nat → Int32 → HP → Option (Int64 × HP)) : s_AdjoinedSetsModel_work_119 c23 200 (nI dp) (mw h dp n ot F G rs) = c23 200 1 (mw h dp n ot F G rs) := by
  unfold s_AdjoinedSetsModel_work_119 s_AdjoinedSetsModel_work_132
  rw [rI_200_15, ob_s, mw_15, if_neg (nI_nlt (Nat.le_refl _) (by omega))]
theorem w_119u (hd : dp < 32) {ot : Int32} {dp' : Nat} (h1 : dp < dp') (h2 : dp' ≤ 40) (c23 : Nat → Int32 → HP → Option (Int64 × HP)) : s_AdjoinedSetsModel_work_119 c23 200 (nI dp) (mw h dp' n ot F G rs) = c23 200 0 (mw h dp' n ot F G rs) := by
  unfold s_AdjoinedSetsModel_work_119 s_AdjoinedSetsModel_work_132
  rw [rI_200_15, ob_s, mw_15, if_pos (nI_lt h1 (by omega))]
theorem w_1p (hd : dp < 32) {p m : Nat} {c : Int32} (hp : p < 1500) (hF : F 212 dp = nI p) (hc : h.1 201 p = c) (hf : 65 ≤ c ∧ c < 69) (hs : F 214 dp = nI m) (hm : h.1 203 (fnN c) = nI m) (k : Nat) : s_AdjoinedSetsModel_work_23 (k + 1) 200 1 (mw h (dp + 1) n 0 F G rs) = s_AdjoinedSetsModel_work_23 k 200 1 (mw h dp n 0 F G rs) := by
  have hfn := fn_n hf
  rw [s_AdjoinedSetsModel_work_23]
  dsimp only
  rw [rI_200_15, ob_s, mw_15, if_neg (show ¬ nI (dp + 1) ≤ 0 from nI_ge (a := 0) (by omega) (by omega)), rI_200_17, ob_s, mw_17, if_pos rfl, ob_s, rR_200_0, ob_s, rR_200_18, ob_s, nI_pred, rA_212 hd, ob_s, mw_212, hF, rA_201 hp, ob_s, mw_201, hc, if_neg (by decide), ml_fun, if_pos hf, ob_s, if_neg (by decide), rR_200_20, ob_s, rA_214 hd, ob_s, mw_214, hs, rR_200_3, ob_s, hfn.1, rA_203 hfn.2, ob_s, mw_203, hm, if_pos rfl, ob_s, nI_pred, wI_200_15, ob_s, mw_s15, w_119d hd]
theorem m_finish {ot : Int32} (v : Int64) : s_AdjoinedSetsModel_finish 200 v (mw h (dp + 1) n ot F G rs) = some (mw h dp n ot F G v) := by
  unfold s_AdjoinedSetsModel_finish
  rw [wL_200_25, ob_s, mw_s25, rI_200_15, ob_s, mw_15, nI_pred, wI_200_15, ob_s, mw_s15]
/-- what the machine comes to from a state: out, or back at the frame below with a result -/
def MO (h : HP) (dp : Nat) (F : Nat → Nat → Int32) (G : Nat → Nat → Int64) (B : Nat) (o : Option (Int64 × Nat)) (c : Int32) (H : HP) : Prop := match o with
  | none => ∀ k, B ≤ k → ∃ dp' n' ot F' G' rs', s_AdjoinedSetsModel_work_23 k 200 c H = some (-3, mw h dp' n' ot F' G' rs')
  | some q => ∃ F' G' j, j + 1 + 2 * (3001 - q.2) ≤ B ∧ (∀ m i, i < dp → F' m i = F m i ∧ G' m i = G m i) ∧ ∀ k, s_AdjoinedSetsModel_work_23 (k + j) 200 c H = s_AdjoinedSetsModel_work_23 k 200 1 (mw h dp q.2 0 F' G' q.1)
def Qb (n : Nat) : Nat := 2 * (3001 - n) + 2
theorem MO_pop {F' : Nat → Nat → Int32} {G' : Nat → Nat → Int64} {v : Int64} {c : Int32} {H : HP} (hn : n ≤ 3000) (hs : ∀ k, s_AdjoinedSetsModel_work_23 (k + 1) 200 c H = s_AdjoinedSetsModel_work_23 k 200 1 (mw h dp n 0 F' G' v)) (ha : ∀ m i, i < dp → F' m i = F m i ∧ G' m i = G m i) : MO h dp F G (Qb n) (some (v, n)) c H := ⟨F', G', 1, by unfold Qb; dsimp only; omega, ha, hs⟩
theorem MO_out {dp' n' : Nat} {F' : Nat → Nat → Int32} {G' : Nat → Nat → Int64} {rs' : Int64} {c c' : Int32} {H : HP} (hn : n ≤ 3000) (hs : ∀ k, s_AdjoinedSetsModel_work_23 (k + 1) 200 c H = s_AdjoinedSetsModel_work_23 k 200 c' (mw h dp' n' 1 F' G' rs')) : MO h dp F G (Qb n) none c H := by
  intro k hk
  unfold Qb at hk
  obtain ⟨k, rfl⟩ : ∃ k0, k = k0 + 2 := ⟨k - 2, by omega⟩
  rw [show k + 2 = (k + 1) + 1 from rfl, hs, w_out]
  exact ⟨_, _, _, _, _, _, rfl⟩
theorem MO_child {F1 : Nat → Nat → Int32} {G1 : Nat → Nat → Int64} {c : Int32} {H H1 : HP} {oc : Option (Int64 × Nat)} {cont : Int64 × Nat → Option (Int64 × Nat)} (hs : ∀ k, s_AdjoinedSetsModel_work_23 (k + 1) 200 c H = s_AdjoinedSetsModel_work_23 k 200 0 H1) (hc : MO h (dp + 1) F1 G1 (2 * (3001 - n)) oc 0 H1) (hk : ∀ q, oc = some q → ∀ F' G', (∀ m i, i < dp + 1 → F' m i = F1 m i ∧ G' m i = G1 m i) → MO h dp F G (Qb q.2) (cont q) 1 (mw h (dp + 1) q.2 0 F' G' q.1)) : MO h dp F G (Qb n) (oc.bind cont) c H := by
  cases oc with
  | none =>
    intro k hk2
    unfold Qb at hk2
    obtain ⟨k, rfl⟩ : ∃ k0, k = k0 + 1 := ⟨k - 1, by omega⟩
    rw [hs]
    exact hc k (by omega)
  | some q =>
    obtain ⟨F', G', j, h1, h2, h3⟩ := hc
    have h4 := hk q rfl F' G' h2
    show MO h dp F G (Qb n) (cont q) c H
    unfold Qb at *
    cases hcq : cont q with
    | none =>
      rw [hcq] at h4
      intro k hk2
      obtain ⟨k, rfl⟩ : ∃ k0, k = k0 + j + 1 := ⟨k - j - 1, by omega⟩
      rw [hs, h3]
      exact h4 k (by omega)
    | some y =>
      rw [hcq] at h4
      obtain ⟨F2, G2, j2, e1, e2, e3⟩ := h4
      refine ⟨F2, G2, j2 + j + 1, by omega, e2, fun k => ?_⟩
      rw [show k + (j2 + j + 1) = (k + j2) + j + 1 by omega, hs, h3, e3]
end
