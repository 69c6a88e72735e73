/-! The class works out EV: memory but for the Worker's own stays. -/
def cw (h : HP) (n : Nat) (w : Nat → Int64) : HP := (up2 h.1 5 2 (nI n), (fun m => if m = 10 then w else h.2.1 m), h.2.2)
theorem cw_I {h : HP} {n : Nat} {w : Nat → Int64} {m : Nat} (hm : m ≠ 5) : (cw h n w).1 m = h.1 m := up2_n hm
theorem cw_n {h : HP} {n : Nat} {w : Nat → Int64} : (cw h n w).1 5 2 = nI n := by
  show up2 h.1 5 2 (nI n) 5 2 = nI n
  exact u2_s
theorem cw_J {h : HP} {n : Nat} {w : Nat → Int64} : (cw h n w).2.1 10 = w := rfl
theorem cw_sn {h : HP} {n m : Nat} {w : Nat → Int64} : (up2 (cw h n w).1 5 2 (nI m), (cw h n w).2) = cw h m w := by
  unfold cw
  dsimp only
  refine Prod.ext ?_ rfl
  funext a b
  show up2 (up2 h.1 5 2 (nI n)) 5 2 (nI m) a b = up2 h.1 5 2 (nI m) a b
  unfold up2
  split <;> rfl
theorem cw_sw {h : HP} {n j : Nat} {v : Int64} {w : Nat → Int64} : ((cw h n w).1, up2 (cw h n w).2.1 10 j v, (cw h n w).2.2) = cw h n (upR w j v) := by
  unfold cw
  dsimp only
  refine Prod.ext rfl (Prod.ext ?_ rfl)
  funext a b
  unfold up2 upR
  dsimp only
  by_cases ha : a = 10
  · by_cases hb : b = j
    · rw [if_pos ⟨ha, hb⟩, if_pos ha, if_pos hb]
    · rw [if_neg (fun q => hb q.2), if_pos ha, if_pos ha, if_neg hb]
  · rw [if_neg (fun q => ha q.1), if_neg ha, if_neg ha]
theorem cT_w {h : HP} {t n : Nat} {x : TX} {w : Nat → Int64} (hc : cT h t x) : cT (cw h n w) t x := by
  obtain ⟨⟨a1, a2, a3⟩, a4⟩ := hc
  have ht : 100 ≤ t := a1.1
  refine ⟨⟨a1, by rw [cw_I (by omega)]; exact a2, a3⟩, fun p hp => ?_⟩
  rw [cw_I (by omega)]
  exact a4 p hp
theorem at_w {h : HP} {t n p : Nat} {x : TX} {w : Nat → Int64} (hc : cT h t x) (hp : p < x.1) : s_Text_at t (nI p) (cw h n w) = some (x.2.1 p) := by
  have h1 := cT_w (n := n) (w := w) hc
  have h60 := h1.1.2.2
  rw [p_at h1.1 (by omega), cT_tc h1, if_pos hp]
theorem end_w {h : HP} {t n p : Nat} {x : TX} {w : Nat → Int64} (hc : cT h t x) (he : cE h t x) (hp : p < x.1) : s_Text_endOf t (nI p) (cw h n w) = some (x.2.2 p) := by
  have h1 := cT_w (n := n) (w := w) hc
  have h60 := h1.1.2.2
  have ht : 100 ≤ t := hc.1.1.1
  rw [p_endOf h1.1 (by omega)]
  unfold te
  rw [if_pos hp, cw_I (by omega), he p hp]
theorem pay_y {h : HP} {n D : Nat} {w : Nat → Int64} (hD : D ≤ 32) (hn : n < 3000) : s_Worker_pay 5 (nI D) (cw h n w) = some (1, cw h (n + 1) w) := by
  unfold s_Worker_pay
  rw [if_neg (show ¬ 32 < nI D from nI_nlt (a := 32) (b := D) (by omega) (by omega)), rI_5_2, ob_s, cw_n, if_pos (show nI n < 3000 from nI_lt (b := 3000) hn (by omega)), ob_s, wI_5_2, ob_s, nI_1, cw_sn]
theorem pay_d {h : HP} {n : Nat} {w : Nat → Int64} : s_Worker_pay 5 (nI 33) (cw h n w) = some (0, cw h n w) := by
  unfold s_Worker_pay
  rw [if_pos (by decide)]
theorem pay_n {h : HP} {D : Nat} {w : Nat → Int64} (hD : D ≤ 32) : s_Worker_pay 5 (nI D) (cw h 3000 w) = some (0, cw h 3000 w) := by
  unfold s_Worker_pay
  rw [if_neg (show ¬ 32 < nI D from nI_nlt (a := 32) (b := D) (by omega) (by omega)), rI_5_2, ob_s, cw_n, if_neg (by decide)]
theorem nI_cl {v : Int32} {e : Nat} (h : v = nI e) (he : e ≤ 60) : v.toNatClampNeg = e := by rw [h, nI_clamp (by omega)]
theorem fv_b1 {t E : Nat → Int32} {d p e l : Nat} (hl : t p = 123 ∨ t p = 73 ∨ t p = 69 ∨ t p = 76) (he : E p = nI e) (h60 : e ≤ 60) (hp : p + 2 < e) (h : fv t E d (p + 2) l = true) : fv t E (d + 1) p l = true := by
  unfold fv
  rw [if_neg (by rcases hl with q | q | q | q <;> rw [q] <;> decide), if_pos hl, nI_cl he h60, h]
  simp [hp]
theorem fv_b2 {t E : Nat → Int32} {d p e q l : Nat} (hl : t p = 123 ∨ t p = 73 ∨ t p = 69 ∨ t p = 76) (he : E p = nI e) (h60 : e ≤ 60) (hp : p + 2 < e) (hq : E (p + 2) = nI q) (hqe : q < e) (hne : l ≠ lwN (t (p + 1))) (h : fv t E d q l = true) : fv t E (d + 1) p l = true := by
  unfold fv
  rw [if_neg (by rcases hl with q | q | q | q <;> rw [q] <;> decide), if_pos hl, nI_cl he h60, nI_cl hq (by omega), h]
  simp [hp, hqe, hne]
theorem fv_p1 {t E : Nat → Int32} {d p e l : Nat} (hl : ¬ (97 ≤ t p ∧ t p < 105)) (hb : ¬ (t p = 123 ∨ t p = 73 ∨ t p = 69 ∨ t p = 76)) (he : E p = nI e) (h60 : e ≤ 60) (hp : p + 1 < e) (h : fv t E d (p + 1) l = true) : fv t E (d + 1) p l = true := by
  unfold fv
  rw [if_neg hl, if_neg hb, nI_cl he h60, h]
  simp [hp]
theorem fv_p2 {t E : Nat → Int32} {d p e q l : Nat} (hl : ¬ (97 ≤ t p ∧ t p < 105)) (hb : ¬ (t p = 123 ∨ t p = 73 ∨ t p = 69 ∨ t p = 76)) (he : E p = nI e) (h60 : e ≤ 60) (hp : p + 1 < e) (hq : E (p + 1) = nI q) (hqe : q < e) (h : fv t E d q l = true) : fv t E (d + 1) p l = true := by
  unfold fv
  rw [if_neg hl, if_neg hb, nI_cl he h60, nI_cl hq (by omega), h]
  simp [hp, hqe]
theorem fv_p3 {t E : Nat → Int32} {d p e q q2 l : Nat} (hl : ¬ (97 ≤ t p ∧ t p < 105)) (hb : ¬ (t p = 123 ∨ t p = 73 ∨ t p = 69 ∨ t p = 76)) (he : E p = nI e) (h60 : e ≤ 60) (hp : p + 1 < e) (hq : E (p + 1) = nI q) (hqe : q < e) (hq2 : E q = nI q2) (hqe2 : q2 < e) (h : fv t E d q2 l = true) : fv t E (d + 1) p l = true := by
  unfold fv
  rw [if_neg hl, if_neg hb, nI_cl he h60, nI_cl hq (by omega), nI_cl hq2 (by omega), h]
  simp [hp, hqe, hqe2]
/-- what a call of the Worker's answers and leaves -/
def rs1 (o : Option (Int64 × Nat)) (J : Nat) (w : Nat → Int64) (rr : Int64) (n' : Nat) (w' : Nat → Int64) : Prop := match o with
  | none => rr = -3
  | some q => rr = q.1 ∧ n' = q.2 ∧ ∀ j, j < J → w' j = w j
def HY (S : SG) (h : HP) (r : Nat) (b : Bool) (t : Nat) (x : TX) (d p e row : Nat) (a : Nat → Int64) (n : Nat) (w : Nat → Int64) : Prop := cT h t x ∧ cE h t x ∧ KD (gK S) x.2.1 x.2.2 d b p e ∧ e ≤ x.1 ∧ row + r ≤ 32 ∧ (∀ l, l < 8 → fv x.2.1 x.2.2 d p l = true → w (8 * row + l) = a l) ∧ (∀ l, l < 8 → cd (a l)) ∧ n ≤ 3000
def CTr (S : SG) (h : HP) (r g : Nat) : Prop := (∀ t x d p e row a n w, HY S h r false t x d p e row a n w → ∃ rr n' w', (s_grp_Worker_broughtBy g).2.2.2.2.2.2.2 5 t (nI p) (nI row) (nI (33 - r)) (cw h n w) = some (rr, cw h n' w') ∧ rs1 (EV (gK S) (gBd S) r false x p a n) (8 * (33 - r)) w rr n' w') ∧ (∀ t x d p e row a n w, HY S h r true t x d p e row a n w → ∃ (rr : Int32) (n' : Nat) (w' : Nat → Int64), (s_grp_Worker_broughtBy g).2.2.2.1 5 t (nI p) (nI row) (nI (33 - r)) (cw h n w) = some (rr, cw h n' w') ∧ rs1 (EV (gK S) (gBd S) r true x p a n) (8 * (33 - r)) w rr.toInt64 n' w')
theorem i64_n {x : Int32} (h : x.toInt64 < 0) : x < 0 := by
  rw [Int64.lt_iff_toInt_lt, Int32.toInt_toInt64] at h
  rw [Int32.lt_iff_toInt_lt]
  exact h
theorem i64_e {x y : Int32} (h : x.toInt64 = y.toInt64) : x = y := by
  rw [← Int64.toInt_inj, Int32.toInt_toInt64, Int32.toInt_toInt64] at h
  exact Int32.toInt_inj.mp h
theorem lg_nn {x : Int64} (h : x < 0) : ¬ 0 ≤ lg_cmp x 0 := by
  rw [lg_cmp_ge]
  intro q
  rw [Int64.lt_iff_toInt_lt] at h
  rw [Int64.le_iff_toInt_le] at q
  omega
theorem lg_cd {x : Int64} (h : cd x) : 0 ≤ lg_cmp x 0 := (lg_cmp_ge _ _).mpr (cd_nn h)
theorem m3_lt : ((-3 : Int64)) < 0 := by decide
theorem m3_of {x : Int64} (h : x = -3) : x < 0 := by rw [h]; exact m3_lt
