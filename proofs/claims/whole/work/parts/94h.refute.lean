/-! refute. -/
def fl (m : Nat) : Nat → Nat → Nat
  | 0 => fun l => l
  | i + 1 => fun l => if m / 2 ^ l % 2 = 1 then l else fl m i (l + 1)
def lx (m : Nat) : Nat := fl m 8 0
def ly (m : Nat) : Nat := if lx m = 8 then 8 else fl m (7 - lx m) (lx m + 1)
def my (m : Nat) : Nat := if lx m = 8 then 9 else ly m
def mz (m : Nat) : Nat := if 8 ≤ my m then my m + 1 else fl m (7 - my m) (my m + 1)
theorem fin_x : ∀ m, m < 256 → s_AdjoinedSets_lowestLetter (nI m) = some (nI (lx m)) ∧ s_AdjoinedSets_lowestLetter (nI m &&& (nI m - 1)) = some (nI (ly m)) ∧ lx m ≤ 8 ∧ ly m ≤ 8 := by decide +kernel
theorem fin_y : ∀ m, m < 256 → s_AdjoinedSetsModel_letterFrom (nI m) 0 = some (nI (lx m)) ∧ s_AdjoinedSetsModel_letterFrom (nI m) (nI (lx m) + 1) = some (nI (my m)) ∧ s_AdjoinedSetsModel_letterFrom (nI m) (nI (my m) + 1) = some (nI (mz m)) := by decide +kernel
theorem fin_z : ∀ m, m < 256 → (∃ c, c < 33 ∧ s_Integer_bitCount (nI m) = some (nI c) ∧ (c ≤ 2 ↔ 8 ≤ mz m)) ∧ (8 ≤ my m ↔ 8 ≤ ly m) ∧ (my m < 8 → my m = ly m) ∧ my m ≤ 9 ∧ mz m ≤ 10 ∧ (lx m < 8 → lx m ≠ ly m) := by decide +kernel
theorem fin_l : ∀ m, m < 256 → 8 ≤ mz m → ∀ l, l < 8 → tb (nI m) l = true → l = lx m ∨ l = ly m := by decide +kernel
/-- is the formula false at v, w? -/
def cnn (V : Nat → Int64) (x y v w : Nat) : Nat → Int64 := fun l => if l = y then lN w else if l = x then lN v else V l
def rfI (e : Nat → Bool) (v : Nat) : Nat → Nat → Option Nat
  | 0 => fun _ => none
  | i + 1 => fun w => if e w then some (64 * v + w) else rfI e v i (w + 1)
def rfO (e : Nat → Nat → Bool) (se : Nat) : Nat → Nat → Option Nat
  | 0 => fun _ => none
  | i + 1 => fun v => match rfI (e v) v se 0 with
    | some r => some r
    | none => rfO e se i (v + 1)
def rfA (o : Option Nat) : Int32 := match o with
  | some r => nI r
  | none => -4
theorem cnn_cd {V : Nat → Int64} {x y v w : Nat} (hV : ∀ l, l < 8 → cd (V l)) (hv : v < 8) (hw : w < 8) : ∀ l, l < 8 → cd (cnn V x y v w l) := by
  intro l hl
  unfold cnn
  split
  · exact cd_n (by omega)
  · split
    · exact cd_n (by omega)
    · exact hV l hl
theorem ans_3 {K : Nat → Nat} {Bd : Nat → TX} {x : TX} {a : Nat → Int64} (ha : ∀ l, l < 8 → cd (a l)) : ans (EV K Bd 32 true x 0 a 0) = -3 ∨ ans (EV K Bd 32 true x 0 a 0) = 0 ∨ ans (EV K Bd 32 true x 0 a 0) = 1 := by
  cases hV : EV K Bd 32 true x 0 a 0 with
  | none => left; rfl
  | some q =>
    right
    have := (EV_ok K Bd 32 true x 0 a 0 q.1 q.2 ha hV).1
    exact this
section
variable {S : SG} {h : HP}
theorem c_truth2 (hw : WF S) (hc : CA S h) {x : TX} {a w : Nat → Int64} {n : Nat} (ht : cT h 100 x) (hE : cE h 100 x) (hK : KD (gK S) x.2.1 x.2.2 12 true 0 x.1) (ha : ∀ l, l < 8 → cd (a l)) (hwa : ∀ l, l < 8 → fv x.2.1 x.2.2 12 0 l = true → w l = a l) : ∃ n' w', s_Worker_truthOf 5 100 (cw h n w) = some ((ans (EV (gK S) (gBd S) 32 true x 0 a 0)).toInt32, cw h n' w') := by
  unfold s_Worker_truthOf
  rw [wI_5_2, ob_s, rK_5, ob_s, show (0 : Int32) = nI 0 from rfl, cw_sn]
  obtain ⟨rr, n', w', e1, r1⟩ := (c_work hw hc 32 (by omega) 150 (by omega)).2 100 x 12 0 x.1 0 a 0 w ⟨ht, hE, hK, Nat.le_refl _, by omega, (fun l hl hf => by rw [Nat.mul_zero, Nat.zero_add]; exact hwa l hl hf), ha, by omega⟩
  rw [show (s_grp_Worker_broughtBy 150).2.2.2.1 5 100 (nI 0) (nI 0) 1 (cw h 0 w) = some (rr, cw h n' w') from e1, ob_s]
  have e2 : rr.toInt64 = ans (EV (gK S) (gBd S) 32 true x 0 a 0) := by
    cases hV : EV (gK S) (gBd S) 32 true x 0 a 0 with
    | none => rw [hV] at r1; exact r1
    | some q => rw [hV] at r1; exact r1.1
  exact ⟨n', w', by rw [← e2, i64_32]⟩
theorem give_w {x n : Nat} {v : Int64} {w : Nat → Int64} (hx : x ≤ 8) : ∃ w', s_Worker_give 5 (nI x) v (cw h n w) = some (cw h n w') ∧ (∀ l, l < 8 → w' l = if l = x then v else w l) := by
  unfold s_Worker_give
  rw [if_neg (nI_pos (by omega))]
  by_cases h8 : x = 8
  · rw [if_pos (show 8 ≤ nI x by rw [h8]; decide)]
    exact ⟨w, rfl, fun l hl => by rw [if_neg (by omega)]⟩
  · rw [if_neg (show ¬ 8 ≤ nI x from nI_ge (b := 8) (by omega) (by omega)), rR_5_1, ob_s, wA_10 (by omega), ob_s, cw_sw]
    exact ⟨_, rfl, fun l hl => rfl⟩
theorem c_rin (hw : WF S) (hc : CA S h) {x : TX} (ht : cT h 100 x) (hE : cE h 100 x) (hK : KD (gK S) x.2.1 x.2.2 12 true 0 x.1) {X Y v fe se : Nat} (hX : X ≤ 8) (hY : Y ≤ 8) (hXY : X < 8 → X ≠ Y) (hv : v < 8) (hse : se ≤ 8) (hfr : ∀ l, l < 8 → fv x.2.1 x.2.2 12 0 l = true → l = X ∨ l = Y) (c45 : Nat → Int32 → Int32 → Int32 → Int32 → Int32 → HP → Option (Int32 × HP)) : ∀ (i w k n : Nat) (W : Nat → Int64), w + i = se → i < k → ∃ n' W', s_AdjoinedSets_firstRefuting_55 c45 k 0 (nI X) (nI Y) (nI fe) (nI se) (nI v) (nI w) (cw h n W) = (match rfI (fun w => decide (ans (EV (gK S) (gBd S) 32 true x 0 (cnn (gVs S) X Y v w) 0) = 0)) v i w with | some r => some (nI r, cw h n' W') | none => c45 0 (nI X) (nI Y) (nI fe) (nI se) (nI (v + 1)) (cw h n' W')) := by
  intro i
  induction i with
  | zero =>
    intro w k n W h1 h2
    obtain ⟨k, rfl⟩ : ∃ k0, k = k0 + 1 := ⟨k - 1, by omega⟩
    rw [s_AdjoinedSets_firstRefuting_55]
    dsimp only
    rw [if_pos (nI_le (by omega) (by omega)), nI_1]
    exact ⟨n, W, rfl⟩
  | succ i ih =>
    intro w k n W h1 h2
    obtain ⟨k, rfl⟩ : ∃ k0, k = k0 + 1 := ⟨k - 1, by omega⟩
    rw [s_AdjoinedSets_firstRefuting_55]
    dsimp only
    obtain ⟨W1, g1, g2⟩ := give_w (h := h) (n := n) (v := (nI v).toInt64) (w := W) hX
    obtain ⟨W2, g3, g4⟩ := give_w (h := h) (n := n) (v := (nI w).toInt64) (w := W1) hY
    have hcd := cnn_cd (x := X) (y := Y) (cd_WF hw) hv (show w < 8 by omega)
    obtain ⟨n3, W3, g5⟩ := c_truth2 (n := n) (w := W2) hw hc ht hE hK hcd (fun l hl hf => by
      rw [g4 l hl, g2 l hl, nI_l (by omega), nI_l (by omega)]
      unfold cnn
      split
      · rfl
      · rename_i hne
        rw [if_pos (by rcases hfr l hl hf with q | q; exact q; exact absurd q hne), if_pos (by rcases hfr l hl hf with q | q; exact q; exact absurd q hne)])
    rw [if_neg (nI_ge (by omega) (by omega)), rR_0_5, ob_s, rK_5, ob_s, g1, ob_s, rR_0_5, ob_s, rK_5, ob_s, g3, ob_s, rR_0_5, ob_s, rR_0_1, ob_s, rK_5, ob_s, g5, ob_s]
    dsimp only
    have hz : (ans (EV (gK S) (gBd S) 32 true x 0 (cnn (gVs S) X Y v w) 0)).toInt32 = 0 ↔ ans (EV (gK S) (gBd S) 32 true x 0 (cnn (gVs S) X Y v w) 0) = 0 := by
      rcases ans_3 (K := gK S) (Bd := gBd S) (x := x) hcd with q | q | q <;> rw [q] <;> decide
    by_cases h0 : ans (EV (gK S) (gBd S) 32 true x 0 (cnn (gVs S) X Y v w) 0) = 0
    · rw [if_pos (hz.mpr h0)]
      have er : rfI (fun w => decide (ans (EV (gK S) (gBd S) 32 true x 0 (cnn (gVs S) X Y v w) 0) = 0)) v (i + 1) w = some (64 * v + w) := by
        show (if decide (ans (EV (gK S) (gBd S) 32 true x 0 (cnn (gVs S) X Y v w) 0) = 0) = true then _ else _) = _
        rw [if_pos (decide_eq_true h0)]
      rw [er]
      refine ⟨n3, W3, ?_⟩
      dsimp only
      rw [show (64 : Int32) = nI 64 from rfl, pk_mul, nI_add]
    · rw [if_neg (fun q => h0 (hz.mp q)), nI_1]
      have er : rfI (fun w => decide (ans (EV (gK S) (gBd S) 32 true x 0 (cnn (gVs S) X Y v w) 0) = 0)) v (i + 1) w = rfI (fun w => decide (ans (EV (gK S) (gBd S) 32 true x 0 (cnn (gVs S) X Y v w) 0) = 0)) v i (w + 1) := by
        show (if decide (ans (EV (gK S) (gBd S) 32 true x 0 (cnn (gVs S) X Y v w) 0) = 0) = true then _ else _) = _
        rw [if_neg (by rw [decide_eq_false h0]; decide)]
      rw [er]
      exact ih (w + 1) k n3 W3 (by omega) (by omega)
theorem c_rout (hw : WF S) (hc : CA S h) {x : TX} (ht : cT h 100 x) (hE : cE h 100 x) (hK : KD (gK S) x.2.1 x.2.2 12 true 0 x.1) {X Y fe se : Nat} (hX : X ≤ 8) (hY : Y ≤ 8) (hXY : X < 8 → X ≠ Y) (hfe : fe ≤ 8) (hse : se ≤ 8) (hfr : ∀ l, l < 8 → fv x.2.1 x.2.2 12 0 l = true → l = X ∨ l = Y) : ∀ (i v k n : Nat) (W : Nat → Int64), v + i = fe → i < k → ∃ n' W', s_AdjoinedSets_firstRefuting_45 k 0 (nI X) (nI Y) (nI fe) (nI se) (nI v) (cw h n W) = some (rfA (rfO (fun v w => decide (ans (EV (gK S) (gBd S) 32 true x 0 (cnn (gVs S) X Y v w) 0) = 0)) se i v), cw h n' W') := by
  intro i
  induction i with
  | zero =>
    intro v k n W h1 h2
    obtain ⟨k, rfl⟩ : ∃ k0, k = k0 + 1 := ⟨k - 1, by omega⟩
    rw [s_AdjoinedSets_firstRefuting_45]
    dsimp only
    rw [if_pos (nI_le (by omega) (by omega))]
    exact ⟨n, W, rfl⟩
  | succ i ih =>
    intro v k n W h1 h2
    obtain ⟨k, rfl⟩ : ∃ k0, k = k0 + 1 := ⟨k - 1, by omega⟩
    rw [s_AdjoinedSets_firstRefuting_45]
    dsimp only
    rw [if_neg (nI_ge (by omega) (by omega))]
    obtain ⟨n1, W1, e1⟩ := c_rin hw hc ht hE hK (fe := fe) hX hY hXY (show v < 8 by omega) hse hfr (s_AdjoinedSets_firstRefuting_45 k) se 0 20000 n W (by omega) (by omega)
    rw [show s_AdjoinedSets_firstRefuting_55 (s_AdjoinedSets_firstRefuting_45 k) 20000 0 (nI X) (nI Y) (nI fe) (nI se) (nI v) 0 (cw h n W) = _ from e1]
    show ∃ n' W', _ = some (rfA (match rfI _ v se 0 with | some r => some r | none => rfO _ se i (v + 1)), cw h n' W')
    cases rfI (fun w => decide (ans (EV (gK S) (gBd S) 32 true x 0 (cnn (gVs S) X Y v w) 0) = 0)) v se 0 with
    | some r => exact ⟨n1, W1, rfl⟩
    | none => exact ih (v + 1) k n1 W1 (by omega) (by omega)
end
