/-! Text: what its methods answer, at any text t. -/
def isT (t : Nat) : Prop := 100 ≤ t ∧ t < 166 ∧ (t - 100) % 3 = 0
theorem kO_t {t : Nat} (h : isT t) : kO t = 0 := by
  obtain ⟨h1, h2, h3⟩ := h
  unfold kO
  rw [if_pos ⟨h1, h2⟩, if_pos h3]
theorem fO_t {t : Nat} (h : isT t) : fO t = [t + 4, t + 5, 0] := by
  obtain ⟨h1, h2, h3⟩ := h
  unfold fO
  rw [if_pos ⟨h1, h2⟩]
theorem kA_t1 {t : Nat} (h : isT t) : kA (t + 1) = 1 := by
  obtain ⟨h1, h2, h3⟩ := h
  unfold kA
  rw [if_pos (by omega), if_pos (by omega)]
theorem kA_t2 {t : Nat} (h : isT t) : kA (t + 2) = 0 := by
  obtain ⟨h1, h2, h3⟩ := h
  unfold kA
  rw [if_pos (by omega), if_neg (by omega), if_pos (by omega)]
theorem lA_t1 {t : Nat} (h : isT t) : lA (t + 1) = 60 := by
  obtain ⟨h1, h2, h3⟩ := h
  unfold lA
  rw [if_pos (by omega)]
theorem lA_t2 {t : Nat} (h : isT t) : lA (t + 2) = 60 := by
  obtain ⟨h1, h2, h3⟩ := h
  unfold lA
  rw [if_pos (by omega)]
theorem t_kd {t : Nat} (h : isT t) : kd t 0 = some () := by
  unfold kd
  rw [if_pos ⟨kO_t h, by decide⟩]
theorem t_gI {h : HP} {t : Nat} (ht : isT t) : gI h t 0 2 = some (h.1 t 2) := by
  unfold gI
  rw [if_pos ⟨kO_t ht, by rw [fO_t ht]; rfl⟩]
theorem t_pI {h : HP} {t : Nat} {x : Int32} (ht : isT t) : pI h t 0 2 x = some (up2 h.1 t 2 x, h.2) := by
  unfold pI
  rw [if_pos ⟨kO_t ht, by rw [fO_t ht]; rfl⟩]
theorem t_g0 {h : HP} {t : Nat} (ht : isT t) : gR h t 0 0 = some (t + 1) := by
  unfold gR
  rw [if_pos (kO_t ht), fO_t ht]
  rfl
theorem t_g1 {h : HP} {t : Nat} (ht : isT t) : gR h t 0 1 = some (t + 2) := by
  unfold gR
  rw [if_pos (kO_t ht), fO_t ht]
  rfl
theorem t_aC {h : HP} {t j : Nat} (ht : isT t) (hj : j < 60) : aI h (t + 1) 1 (nI j) = some (h.1 (t + 1) j) := aI_nI (kA_t1 ht) (by decide) (by rw [lA_t1 ht]; exact hj) (by rw [lA_t1 ht]; decide)
theorem t_aE {h : HP} {t j : Nat} (ht : isT t) (hj : j < 60) : aI h (t + 2) 0 (nI j) = some (h.1 (t + 2) j) := aI_nI (kA_t2 ht) (by decide) (by rw [lA_t2 ht]; exact hj) (by rw [lA_t2 ht]; decide)
theorem t_uC {h : HP} {t j : Nat} {x : Int32} (ht : isT t) (hj : j < 60) : uI h (t + 1) 1 (nI j) x = some (up2 h.1 (t + 1) j x, h.2) := uI_nI (kA_t1 ht) (by decide) (by rw [lA_t1 ht]; exact hj) (by rw [lA_t1 ht]; decide)
theorem t_uE {h : HP} {t j : Nat} {x : Int32} (ht : isT t) (hj : j < 60) : uI h (t + 2) 0 (nI j) x = some (up2 h.1 (t + 2) j x, h.2) := uI_nI (kA_t2 ht) (by decide) (by rw [lA_t2 ht]; exact hj) (by rw [lA_t2 ht]; decide)
/-- the text t has n characters -/
def tN (h : HP) (t n : Nat) : Prop := isT t ∧ h.1 t 2 = nI n ∧ n ≤ 60
/-- its character at p; 0 behind its end -/
def tc (h : HP) (t n p : Nat) : Int32 := if p < n then h.1 (t + 1) p else 0
def te (h : HP) (t n p : Nat) : Int32 := if p < n then h.1 (t + 2) p else nI n
theorem p_length {h : HP} {t n : Nat} (ht : tN h t n) : s_Text_length t h = some (nI n) := by
  unfold s_Text_length
  rw [t_gI ht.1, ob_s, ht.2.1]
theorem p_at {h : HP} {t n p : Nat} (ht : tN h t n) (hp : p < 2 ^ 30) : s_Text_at t (nI p) h = some (tc h t n p) := by
  obtain ⟨hT, hl, hn⟩ := ht
  unfold s_Text_at tc
  rw [if_neg (nI_pos (by omega)), t_gI hT, ob_s, hl]
  by_cases hpn : p < n
  · rw [if_neg (nI_ge hpn (by omega)), t_g0 hT, ob_s, t_aC hT (by omega), ob_s, if_pos hpn]
  · rw [if_pos (nI_le (by omega) (by omega)), if_neg hpn]
theorem p_endOf {h : HP} {t n p : Nat} (ht : tN h t n) (hp : p < 2 ^ 30) : s_Text_endOf t (nI p) h = some (te h t n p) := by
  obtain ⟨hT, hl, hn⟩ := ht
  unfold s_Text_endOf te
  rw [if_neg (nI_pos (by omega)), t_gI hT, ob_s, hl]
  by_cases hpn : p < n
  · rw [if_neg (nI_ge hpn (by omega)), t_g1 hT, ob_s, t_aE hT (by omega), ob_s, if_pos hpn]
  · rw [if_pos (nI_le (by omega) (by omega)), if_neg hpn, ob_s]
theorem p_empty {h : HP} {t : Nat} (hT : isT t) : s_Text_empty t h = some (up2 h.1 t 2 0, h.2) := by
  unfold s_Text_empty
  rw [t_pI hT, ob_s]
theorem p_setEnd {h : HP} {t n p : Nat} {v : Int32} (ht : tN h t n) (hp : p < 2 ^ 30) : s_Text_setEnd t (nI p) v h = some (if p < n then (up2 h.1 (t + 2) p v, h.2) else h) := by
  obtain ⟨hT, hl, hn⟩ := ht
  unfold s_Text_setEnd
  rw [if_neg (nI_pos (by omega)), t_gI hT, ob_s, hl]
  by_cases hpn : p < n
  · rw [if_neg (nI_ge hpn (by omega)), t_g1 hT, ob_s, t_uE hT (by omega), ob_s, if_pos hpn]
  · rw [if_pos (nI_le (by omega) (by omega)), if_neg hpn]
