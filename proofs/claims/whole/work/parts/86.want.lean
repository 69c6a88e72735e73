/-! The model's reader: what it wants, in a pile. -/
theorem ml_low (c : Int32) : s_AdjoinedSetsModel_isLow c = some (if 97 ≤ c ∧ c < 105 then 1 else 0) := by
  unfold s_AdjoinedSetsModel_isLow
  have e1 : (97 : Int32).toInt = 97 := by decide
  have e2 : (104 : Int32).toInt = 104 := by decide
  have e3 : (105 : Int32).toInt = 105 := by decide
  simp only [Int32.lt_iff_toInt_lt, Int32.le_iff_toInt_le, e1, e2, e3]
  (repeat' split) <;> first | rfl | (exfalso; omega)
theorem ml_fun (c : Int32) : s_AdjoinedSetsModel_isFunction c = some (if 65 ≤ c ∧ c < 69 then 1 else 0) := by
  unfold s_AdjoinedSetsModel_isFunction
  have e1 : (65 : Int32).toInt = 65 := by decide
  have e2 : (68 : Int32).toInt = 68 := by decide
  have e3 : (69 : Int32).toInt = 69 := by decide
  simp only [Int32.lt_iff_toInt_lt, Int32.le_iff_toInt_le, e1, e2, e3]
  (repeat' split) <;> first | rfl | (exfalso; omega)
theorem ml_dig (c : Int32) : s_AdjoinedSetsModel_isDigit c = some (if 48 ≤ c ∧ c ≤ 57 then 1 else 0) := by
  unfold s_AdjoinedSetsModel_isDigit
  have e1 : (48 : Int32).toInt = 48 := by decide
  have e2 : (57 : Int32).toInt = 57 := by decide
  simp only [Int32.lt_iff_toInt_lt, Int32.le_iff_toInt_le, e1, e2]
  (repeat' split) <;> first | rfl | (exfalso; omega)
def tb (x : Int32) (l : Nat) : Bool := x.toBitVec.getLsbD l
theorem tb_or (a b : Int32) (l : Nat) : tb (a ||| b) l = (tb a l || tb b l) := by
  unfold tb
  rw [Int32.toBitVec_or, BitVec.getLsbD_or]
theorem tb_and (a b : Int32) (l : Nat) : tb (a &&& b) l = (tb a l && tb b l) := by
  unfold tb
  rw [Int32.toBitVec_and, BitVec.getLsbD_and]
theorem tb_not (b : Int32) {l : Nat} (hl : l < 8) : tb (b ^^^ (-1)) l = !tb b l := by
  unfold tb
  rw [Int32.toBitVec_xor, BitVec.getLsbD_xor]
  have : (-1 : Int32).toBitVec.getLsbD l = true := (show ∀ l, l < 8 → (-1 : Int32).toBitVec.getLsbD l = true by decide) l hl
  rw [this, Bool.xor_true]
def bitI (l : Nat) : Int32 := (1 : Int32) <<< (nI l &&& 31)
theorem tb_bit {l j : Nat} (hl : l < 8) (hj : j < 8) : tb (bitI l) j = decide (j = l) := (show ∀ l, l < 8 → ∀ j, j < 8 → tb (bitI l) j = decide (j = l) by decide) l hl j hj
theorem tb_z (x : Int32) {l : Nat} (hl : l < 8) : (x &&& bitI l) = 0 ↔ tb x l = false := by
  have e : (bitI l).toBitVec = BitVec.twoPow 32 l := (show ∀ l, l < 8 → (bitI l).toBitVec = BitVec.twoPow 32 l by decide) l hl
  rw [← Int32.toBitVec_inj, Int32.toBitVec_and, e, BitVec.and_twoPow]
  unfold tb
  cases h : x.toBitVec.getLsbD l with
  | false => exact ⟨fun _ => rfl, fun _ => rfl⟩
  | true =>
    refine ⟨fun q => ?_, fun q => Bool.noConfusion q⟩
    exfalso
    exact (show ∀ l, l < 8 → ¬ BitVec.twoPow 32 l = (0 : Int32).toBitVec by decide) l hl q
theorem ml_bit {c : Int32} (h : 97 ≤ c ∧ c < 105) : s_AdjoinedSetsModel_bit c = some (bitI (lwN c)) := by
  unfold s_AdjoinedSetsModel_bit bitI
  rw [(lw_n h).1]
/-- the letters bound, and bound over a, as bits -/
def rel (sc : Nat → Nat) (bo me : Int32) : Prop := ∀ l, l < 8 → tb bo l = decide (sc l ≠ 0) ∧ tb me l = decide (sc l = 2)
theorem rel_0 : rel (fun _ => 0) 0 0 := by
  intro l hl
  exact (show ∀ l, l < 8 → tb 0 l = decide ((0 : Nat) ≠ 0) ∧ tb 0 l = decide ((0 : Nat) = 2) by decide) l hl
theorem rel_2 {sc : Nat → Nat} {bo me : Int32} (h : rel sc bo me) {l : Nat} (hl : l < 8) : rel (upS sc l 2) (bo ||| bitI l) (me ||| bitI l) := by
  intro j hj
  obtain ⟨a, b⟩ := h j hj
  rw [tb_or, tb_or, tb_bit hl hj, a, b]
  unfold upS
  by_cases e : j = l
  · rw [if_pos e, decide_eq_true e]
    exact ⟨by simp, by simp⟩
  · rw [if_neg e, decide_eq_false e]
    exact ⟨by simp, by simp⟩
theorem rel_1 {sc : Nat → Nat} {bo me : Int32} (h : rel sc bo me) {l : Nat} (hl : l < 8) : rel (upS sc l 1) (bo ||| bitI l) (me &&& (bitI l ^^^ (-1))) := by
  intro j hj
  obtain ⟨a, b⟩ := h j hj
  rw [tb_or, tb_and, tb_not _ hj, tb_bit hl hj, a, b]
  unfold upS
  by_cases e : j = l
  · rw [if_pos e, decide_eq_true e]
    exact ⟨by simp, by simp⟩
  · rw [if_neg e, decide_eq_false e]
    exact ⟨by simp, by simp⟩
/-- only the pile differs -/
def o200 (h h' : HP) : Prop := (∀ m, m ≠ 200 → (m < 206 ∨ 209 < m) → h'.1 m = h.1 m) ∧ h'.2 = h.2 ∧ ∀ j, j ≠ 7 → j ≠ 12 → h'.1 200 j = h.1 200 j
def low (w : Nat) (h h' : HP) : Prop := o200 h h' ∧ ∀ m, 206 ≤ m → m ≤ 209 → ∀ j, j < w → h'.1 m j = h.1 m j
def itm (h : HP) (j : Nat) (a b c D : Int32) : Prop := h.1 206 j = a ∧ h.1 207 j = b ∧ h.1 208 j = c ∧ h.1 209 j = D
theorem low.rf (w : Nat) (h : HP) : low w h h := ⟨⟨fun _ _ _ => rfl, rfl, fun _ _ _ => rfl⟩, fun _ _ _ _ _ => rfl⟩
theorem low.tr {w w' : Nat} {a b c : HP} (hw : w ≤ w') (h1 : low w a b) (h2 : low w' b c) : low w a c := ⟨⟨fun m x y => (h2.1.1 m x y).trans (h1.1.1 m x y), h2.1.2.1.trans h1.1.2.1, fun j x y => (h2.1.2.2 j x y).trans (h1.1.2.2 j x y)⟩, fun m x y j z => (h2.2 m x y j (by omega)).trans (h1.2 m x y j z)⟩
theorem low.itm {w j : Nat} {h h' : HP} {a b c D : Int32} (hl : low w h h') (hj : j < w) (hi : itm h j a b c D) : itm h' j a b c D := ⟨by rw [hl.2 206 (by decide) (by decide) j hj]; exact hi.1, by rw [hl.2 207 (by decide) (by decide) j hj]; exact hi.2.1, by rw [hl.2 208 (by decide) (by decide) j hj]; exact hi.2.2.1, by rw [hl.2 209 (by decide) (by decide) j hj]; exact hi.2.2.2⟩
theorem low.le {w w' : Nat} {h h' : HP} (hw : w ≤ w') (hl : low w' h h') : low w h h' := ⟨hl.1, fun m x y j z => hl.2 m x y j (by omega)⟩
theorem m_want {h : HP} {w : Nat} {a b c : Int32} (hw : h.1 200 7 = nI w) (h2 : w < 200) : ∃ h', s_AdjoinedSetsModel_want 200 a b c h = some h' ∧ low w h h' ∧ h'.1 200 7 = nI (w + 1) ∧ h'.1 200 12 = h.1 200 12 ∧ itm h' w a b c (h.1 200 12) := by
  unfold s_AdjoinedSetsModel_want
  rw [rR_200_8, ob_s, rI_200_7, ob_s, hw, wA_206 h2, ob_s, rR_200_9, ob_s, rI_200_7, ob_s]
  have e1 : (up2 h.1 206 w a, h.2).1 200 = h.1 200 := by
    show up2 h.1 206 w a 200 = _
    rw [up2_n (by decide)]
  rw [e1, hw, wA_207 h2, ob_s, rR_200_10, ob_s, rI_200_7, ob_s]
  have e2 : (up2 (up2 h.1 206 w a, h.2).1 207 w b, (up2 h.1 206 w a, h.2).2).1 200 = h.1 200 := by
    show up2 (up2 h.1 206 w a) 207 w b 200 = _
    rw [up2_n (by decide), up2_n (by decide)]
  rw [e2, hw, wA_208 h2, ob_s, rR_200_11, ob_s, rI_200_7, ob_s, rI_200_12, ob_s]
  have e3 : (up2 (up2 (up2 h.1 206 w a, h.2).1 207 w b, (up2 h.1 206 w a, h.2).2).1 208 w c, (up2 (up2 h.1 206 w a, h.2).1 207 w b, (up2 h.1 206 w a, h.2).2).2).1 200 = h.1 200 := by
    show up2 (up2 (up2 h.1 206 w a) 207 w b) 208 w c 200 = _
    rw [up2_n (by decide), up2_n (by decide), up2_n (by decide)]
  rw [e3, hw, wA_209 h2, ob_s, rI_200_7, ob_s, wI_200_7, ob_s]
  refine ⟨_, rfl, ⟨⟨fun m x y => ?_, rfl, fun j x y => ?_⟩, fun m x y j z => ?_⟩, ?_, ?_, ?_, ?_, ?_, ?_⟩
  · show up2 (up2 (up2 (up2 (up2 h.1 206 w a) 207 w b) 208 w c) 209 w (h.1 200 12)) 200 7 (up2 (up2 (up2 (up2 h.1 206 w a) 207 w b) 208 w c) 209 w (h.1 200 12) 200 7 + 1) m = h.1 m
    rw [up2_n x, up2_n (by omega), up2_n (by omega), up2_n (by omega), up2_n (by omega)]
  · show up2 (up2 (up2 (up2 (up2 h.1 206 w a) 207 w b) 208 w c) 209 w (h.1 200 12)) 200 7 (up2 (up2 (up2 (up2 h.1 206 w a) 207 w b) 208 w c) 209 w (h.1 200 12) 200 7 + 1) 200 j = h.1 200 j
    rw [u2_i x, up2_n (by decide), up2_n (by decide), up2_n (by decide), up2_n (by decide)]
  · show up2 (up2 (up2 (up2 (up2 h.1 206 w a) 207 w b) 208 w c) 209 w (h.1 200 12)) 200 7 (up2 (up2 (up2 (up2 h.1 206 w a) 207 w b) 208 w c) 209 w (h.1 200 12) 200 7 + 1) m j = h.1 m j
    have hj : j ≠ w := by omega
    have : m = 206 ∨ m = 207 ∨ m = 208 ∨ m = 209 := by omega
    rw [up2_n (by omega)]
    rcases this with rfl | rfl | rfl | rfl
    · rw [up2_n (by decide), up2_n (by decide), up2_n (by decide), u2_i hj]
    · rw [up2_n (by decide), up2_n (by decide), u2_i hj, up2_n (by decide)]
    · rw [up2_n (by decide), u2_i hj, up2_n (by decide), up2_n (by decide)]
    · rw [u2_i hj, up2_n (by decide), up2_n (by decide), up2_n (by decide)]
  · show up2 (up2 (up2 (up2 (up2 h.1 206 w a) 207 w b) 208 w c) 209 w (h.1 200 12)) 200 7 (up2 (up2 (up2 (up2 h.1 206 w a) 207 w b) 208 w c) 209 w (h.1 200 12) 200 7 + 1) 200 7 = nI (w + 1)
    rw [u2_s, up2_n (by decide), up2_n (by decide), up2_n (by decide), up2_n (by decide), hw, nI_1]
  · show up2 (up2 (up2 (up2 (up2 h.1 206 w a) 207 w b) 208 w c) 209 w (h.1 200 12)) 200 7 (up2 (up2 (up2 (up2 h.1 206 w a) 207 w b) 208 w c) 209 w (h.1 200 12) 200 7 + 1) 200 12 = h.1 200 12
    rw [u2_i (by decide), up2_n (by decide), up2_n (by decide), up2_n (by decide), up2_n (by decide)]
  · show up2 (up2 (up2 (up2 (up2 h.1 206 w a) 207 w b) 208 w c) 209 w (h.1 200 12)) 200 7 (up2 (up2 (up2 (up2 h.1 206 w a) 207 w b) 208 w c) 209 w (h.1 200 12) 200 7 + 1) 206 w = a
    rw [up2_n (by decide), up2_n (by decide), up2_n (by decide), up2_n (by decide), u2_s]
  · show up2 (up2 (up2 (up2 (up2 h.1 206 w a) 207 w b) 208 w c) 209 w (h.1 200 12)) 200 7 (up2 (up2 (up2 (up2 h.1 206 w a) 207 w b) 208 w c) 209 w (h.1 200 12) 200 7 + 1) 207 w = b
    rw [up2_n (by decide), up2_n (by decide), up2_n (by decide), u2_s]
  · show up2 (up2 (up2 (up2 (up2 h.1 206 w a) 207 w b) 208 w c) 209 w (h.1 200 12)) 200 7 (up2 (up2 (up2 (up2 h.1 206 w a) 207 w b) 208 w c) 209 w (h.1 200 12) 200 7 + 1) 208 w = c
    rw [up2_n (by decide), up2_n (by decide), u2_s]
  · show up2 (up2 (up2 (up2 (up2 h.1 206 w a) 207 w b) 208 w c) 209 w (h.1 200 12)) 200 7 (up2 (up2 (up2 (up2 h.1 206 w a) 207 w b) 208 w c) 209 w (h.1 200 12) 200 7 + 1) 209 w = h.1 200 12
    rw [up2_n (by decide), u2_s]
