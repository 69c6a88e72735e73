/-! Forms: as numbers, with holes 1 to 6 for s, t, u, F, G, x. -/
def PLs : List (List Nat) := [[], [61, 2, 2], [62, 61, 1, 2, 62, 60, 1, 3, 60, 2, 3], [62, 61, 1, 2, 62, 60, 3, 1, 60, 3, 2], [33, 60, 2, 48], [62, 60, 3, 43, 1, 2, 118, 60, 3, 1, 61, 3, 2], [62, 118, 60, 3, 1, 61, 3, 2, 60, 3, 43, 1, 2], [62, 94, 76, 6, 1, 60, 6, 2, 76, 6, 2, 60, 6, 1, 61, 1, 2], [62, 76, 6, 1, 4, 62, 60, 2, 1, 5], [76, 6, 1, 4], [62, 60, 3, 123, 6, 1, 4, 94, 60, 3, 1, 5], [62, 94, 60, 3, 1, 5, 60, 3, 123, 6, 1, 4], [62, 69, 6, 1, 4, 33, 76, 6, 1, 33, 4], [62, 33, 76, 6, 1, 33, 4, 69, 6, 1, 4]]
def PL (q : Nat) : List Nat := PLs.getD q []
def chC (c : Nat) : Nat := if c = 1 then 115 else if c = 2 then 116 else if c = 3 then 117 else if c = 4 then 70 else if c = 5 then 71 else if c = 6 then 120 else c
def ixC (c : Nat) : Nat := if c = 1 then 0 else if c = 2 then 1 else if c = 3 then 2 else if c = 6 then 3 else if c = 4 then 4 else 5
theorem str_l : ∀ q, q < 14 → 1 ≤ q → s_String_length q = some (nI (PL q).length) ∧ sG q = some () ∧ (PL q).length ≤ 17 := by decide
theorem str_c : ∀ q, q < 14 → 1 ≤ q → ∀ k, k < (PL q).length → s_String_charAt q (nI k) = some (nI (chC ((PL q).getD k 0))) := by decide
def okL (c : Nat) : Bool := decide (1 ≤ c ∧ c ≤ 6) || decide (c = 33 ∨ c = 43 ∨ c = 48 ∨ c = 60 ∨ c = 61 ∨ c = 62 ∨ c = 69 ∨ c = 76 ∨ c = 94 ∨ c = 118 ∨ c = 123)
theorem str_i : ∀ c, c < 127 → okL c = true → (c ≤ 6 → s_String_indexOf_0 0 (nI (chC c)) = some (nI (ixC c))) ∧ (6 < c → s_String_indexOf_0 0 (nI (chC c)) = some (-1)) := by decide +kernel
theorem str_ok : ∀ q, q < 14 → ∀ k, k < (PL q).length → okL ((PL q).getD k 0) = true ∧ (PL q).getD k 0 < 127 := by decide
def hst (hs : Nat → Nat) (c v : Nat) : Nat → Nat := fun q => if q = c then v else hs q
def hln (E : Nat → Int32) (c p : Nat) : Nat := if c = 6 then 1 else (E p).toNatClampNeg - p
def fitM (t E : Nat → Int32) : List Nat → Nat → (Nat → Nat) → Option (Nat → Nat)
  | [] => fun _ hs => some hs
  | c :: cs => fun p hs => if 6 < c then (if t p = nI c then fitM t E cs (p + 1) hs else none)
      else if hs c = 0 then fitM t E cs (p + hln E c p) (hst hs c (p + 1))
      else if (∀ j, j < hln E c (hs c - 1) → t (hs c - 1 + j) = t (p + j)) then fitM t E cs (p + hln E c (hs c - 1)) hs else none
/-- the kinds of the parts behind a character: 0 term, 1 formula, 2 a letter that is bound -/
def expK (k c : Nat) : List Nat := if k = 1 then (if c = 33 then [1] else if c = 60 ∨ c = 61 then [0, 0] else if c = 94 ∨ c = 118 ∨ c = 62 then [1, 1] else if c = 69 ∨ c = 76 then [2, 0, 1] else [9]) else (if c = 43 then [0, 0] else if c = 48 then [] else if c = 123 then [2, 0, 1] else [9])
def tcK : List Nat → Bool → List Nat → Bool
  | [] => fun _ L => decide (L = [])
  | c :: cs => fun sx L => match L with
    | [] => false
    | k :: L => if 6 < c then (decide (k < 2) && decide (expK k c ≠ [9]) && tcK cs sx (expK k c ++ L)) else if c = 6 then (if k = 2 then tcK cs true L else (decide (k = 0) && sx && tcK cs sx L)) else (decide (k = if 4 ≤ c then 1 else 0) && decide (1 ≤ c) && tcK cs sx L)
theorem tc_all : ∀ q, q < 14 → 1 ≤ q → tcK (PL q) false [1] = true := by decide
section
variable {K : Nat → Nat} {t E : Nat → Int32} {n : Nat}
def chn (K : Nat → Nat) (t E : Nat → Int32) (n : Nat) : List Nat → Nat → Prop
  | [] => fun p => p = n
  | k :: L => fun p => if k = 2 then (isLw (t p) ∧ p < n ∧ chn K t E n L (p + 1)) else ∃ d q, d ≤ 12 ∧ q ≤ n ∧ KD K t E d (decide (k = 1)) p q ∧ chn K t E n L q
def hsI (K : Nat → Nat) (t E : Nat → Int32) (n : Nat) (sx : Bool) (hs : Nat → Nat) : Prop := (∀ c, 1 ≤ c → c ≤ 5 → hs c ≠ 0 → ∃ d q, d ≤ 12 ∧ q ≤ n ∧ KD K t E d (decide (4 ≤ c)) (hs c - 1) q) ∧ (hs 6 ≠ 0 → isLw (t (hs 6 - 1)) ∧ hs 6 - 1 < n) ∧ (sx = true → hs 6 ≠ 0)
theorem chn_lt {k : Nat} {L : List Nat} {p : Nat} (h : chn K t E n (k :: L) p) : p < n := by
  unfold chn at h
  split at h
  · exact h.2.1
  · obtain ⟨d, q, _, h2, h3, _⟩ := h
    have := KD_lt h3
    omega
theorem chn_lit {k c : Nat} {L : List Nat} {p : Nat} (h : chn K t E n (k :: L) p) (hk : k < 2) (hc : t p = nI c) (he : expK k c ≠ [9]) (hc7 : c < 127) : chn K t E n (expK k c ++ L) (p + 1) := by
  unfold chn at h
  rw [if_neg (by omega)] at h
  obtain ⟨d, q, hd, hq, hK, hL⟩ := h
  cases d with
  | zero => exact absurd hK (fun z => z)
  | succ d =>
    obtain ⟨_, h2, h3, h4⟩ := KD_v hK
    have hd' : d ≤ 12 := by omega
    have mk2 : ∀ (k1 k2 : Nat) (s : Nat), k1 < 2 → k2 < 2 → (∃ r, KD K t E d (decide (k1 = 1)) s r ∧ ∃ r', KD K t E d (decide (k2 = 1)) r r' ∧ r' = q) → chn K t E n (k1 :: k2 :: L) s := by
      intro k1 k2 s a b ⟨r, z1, r', z2, z3⟩
      subst z3
      have := KD_lt z2
      unfold chn
      rw [if_neg (by omega)]
      refine ⟨d, r, hd', by omega, z1, ?_⟩
      unfold chn
      rw [if_neg (by omega)]
      exact ⟨d, r', hd', hq, z2, hL⟩
    have mk3 : bn4 (t p) → (∃ r, KD K t E d false (p + 2) r ∧ ∃ r', KD K t E d true r r' ∧ r' = q) → chn K t E n (2 :: 0 :: 1 :: L) (p + 1) := by
      intro hb hh
      have h2' := mk2 0 1 (p + 2) (by omega) (by omega) hh
      have := chn_lt h2'
      unfold chn
      rw [if_pos rfl]
      exact ⟨h3 hb, by omega, h2'⟩
    rw [hc] at h4
    obtain rfl | rfl : k = 0 ∨ k = 1 := by omega
    · unfold expK at he ⊢
      rw [if_neg (by decide)] at he ⊢
      by_cases e1 : c = 43
      · subst e1
        rw [if_pos rfl]
        exact mk2 0 0 (p + 1) (by omega) (by omega) h4
      rw [if_neg e1] at he ⊢
      by_cases e2 : c = 48
      · subst e2
        rw [if_pos rfl]
        have h4 : p + 1 = q := h4
        rw [h4]
        exact hL
      rw [if_neg e2] at he ⊢
      by_cases e3 : c = 123
      · subst e3
        rw [if_pos rfl]
        exact mk3 (by rw [hc]; exact Or.inl rfl) h4
      rw [if_neg e3] at he
      exact absurd rfl he
    · unfold expK at he ⊢
      rw [if_pos rfl] at he ⊢
      by_cases e1 : c = 33
      · subst e1
        rw [if_pos rfl]
        obtain ⟨r, z1, z2⟩ := h4
        have z2 : r = q := z2
        subst z2
        show chn K t E n (1 :: L) (p + 1)
        unfold chn
        rw [if_neg (by omega)]
        exact ⟨d, r, hd', hq, z1, hL⟩
      rw [if_neg e1] at he ⊢
      by_cases e2 : c = 60 ∨ c = 61
      · rw [if_pos e2]
        rcases e2 with rfl | rfl <;> exact mk2 0 0 (p + 1) (by omega) (by omega) h4
      rw [if_neg e2] at he ⊢
      by_cases e3 : c = 94 ∨ c = 118 ∨ c = 62
      · rw [if_pos e3]
        rcases e3 with rfl | rfl | rfl <;> exact mk2 1 1 (p + 1) (by omega) (by omega) h4
      rw [if_neg e3] at he ⊢
      by_cases e4 : c = 69 ∨ c = 76
      · rw [if_pos e4]
        rcases e4 with rfl | rfl
        · exact mk3 (by rw [hc]; exact Or.inr (Or.inr (Or.inl rfl))) h4
        · exact mk3 (by rw [hc]; exact Or.inr (Or.inr (Or.inr rfl))) h4
      rw [if_neg e4] at he
      exact absurd rfl he
/-- what one number of a form does to the place and the holes, and that all stays in order -/
theorem fit_step {c : Nat} {cs L : List Nat} {sx : Bool} {p : Nat} {hs : Nat → Nat} (hn : n ≤ 60) (htc : tcK (c :: cs) sx L = true) (hch : chn K t E n L p) (hI : hsI K t E n sx hs) (hc7 : c < 127) : ∃ k L', L = k :: L' ∧ p < n ∧ (6 < c → t p = nI c → ∃ L2 sx2, tcK cs sx2 L2 = true ∧ chn K t E n L2 (p + 1) ∧ hsI K t E n sx2 hs) ∧ (c ≤ 6 → 1 ≤ c ∧ ((hs c = 0 → (c ≠ 6 → ∃ d q, d ≤ 12 ∧ q ≤ n ∧ KD K t E d (decide (4 ≤ c)) p q) ∧ (c = 6 → isLw (t p)) ∧ ∃ L2 sx2, tcK cs sx2 L2 = true ∧ chn K t E n L2 (p + hln E c p) ∧ hsI K t E n sx2 (hst hs c (p + 1))) ∧ (hs c ≠ 0 → (c ≠ 6 → ∃ d q, d ≤ 12 ∧ q ≤ n ∧ KD K t E d (decide (4 ≤ c)) p q) ∧ ((∀ j, j < hln E c (hs c - 1) → t (hs c - 1 + j) = t (p + j)) → (c ≠ 6 → hln E c p = hln E c (hs c - 1)) ∧ ∃ L2 sx2, tcK cs sx2 L2 = true ∧ chn K t E n L2 (p + hln E c (hs c - 1)) ∧ hsI K t E n sx2 hs)))) := by
  cases L with
  | nil => exact absurd htc (by simp [tcK])
  | cons k L =>
    have hpn := chn_lt hch
    refine ⟨k, L, rfl, hpn, fun h6 hc => ?_, fun h6 => ?_⟩
    · rw [tcK] at htc
      dsimp only at htc
      rw [if_pos h6, Bool.and_eq_true, Bool.and_eq_true] at htc
      exact ⟨_, sx, htc.2, chn_lit hch (of_decide_eq_true htc.1.1) hc (of_decide_eq_true htc.1.2) hc7, hI⟩
    · rw [tcK] at htc
      dsimp only at htc
      rw [if_neg (by omega)] at htc
      by_cases hc6 : c = 6
      · subst hc6
        rw [if_pos rfl] at htc
        have l1 : ∀ p, hln E 6 p = 1 := fun p => by unfold hln; rw [if_pos rfl]
        refine ⟨by omega, fun h0 => ⟨fun q => absurd rfl q, ?_⟩, fun h0 => ⟨fun q => absurd rfl q, fun hall => ⟨fun q => absurd rfl q, ?_⟩⟩⟩
        · by_cases hk2 : k = 2
          · subst hk2
            unfold chn at hch
            rw [if_pos rfl] at hch
            rw [if_pos rfl] at htc
            refine ⟨fun _ => hch.1, L, true, htc, by rw [l1]; exact hch.2.2, ?_⟩
            obtain ⟨i1, i2, i3⟩ := hI
            refine ⟨fun c c1 c5 hne => ?_, fun _ => ?_, fun _ => ?_⟩
            · unfold hst at hne ⊢
              rw [if_neg (by omega)] at hne ⊢
              exact i1 c c1 c5 hne
            · unfold hst
              rw [if_pos rfl]
              exact ⟨hch.1, by omega⟩
            · unfold hst
              rw [if_pos rfl]
              omega
          · rw [if_neg hk2, Bool.and_eq_true, Bool.and_eq_true] at htc
            exact absurd h0 (hI.2.2 htc.1.2)
        · rw [l1]
          have hx := hI.2.1 h0
          have hpe : t (hs 6 - 1) = t p := by
            have := hall 0 (by rw [l1]; omega)
            rw [Nat.add_zero, Nat.add_zero] at this
            exact this
          by_cases hk2 : k = 2
          · subst hk2
            unfold chn at hch
            rw [if_pos rfl] at hch
            rw [if_pos rfl] at htc
            exact ⟨L, true, htc, hch.2.2, hI.1, hI.2.1, fun _ => h0⟩
          · rw [if_neg hk2, Bool.and_eq_true, Bool.and_eq_true] at htc
            have hk0 := of_decide_eq_true htc.1.1
            subst hk0
            unfold chn at hch
            rw [if_neg (by omega)] at hch
            obtain ⟨d, q, hd, hq, hK, hL⟩ := hch
            have hqp : q = p + 1 := by
              cases d with
              | zero => exact absurd hK (fun z => z)
              | succ d =>
                obtain ⟨_, h2, h3, h4⟩ := KD_v hK
                have hl : isLw (t p) := by rw [← hpe]; exact hx.1
                have hl' : 97 ≤ t p ∧ t p < 105 := hl
                obtain ⟨j, j1, j2, hcj⟩ := lw_q hl'
                have hall : ∀ j, j < 105 → 97 ≤ j → ¬ (48 ≤ nI j ∧ nI j ≤ 57) ∧ ¬ (nI j = 123 ∨ nI j = 73 ∨ nI j = 69 ∨ nI j = 76) := by decide
                obtain ⟨z1, z3⟩ := hall j j2 j1
                rw [← hcj] at z1 z3
                unfold arN fsN at h4
                try dsimp only at h4
                rw [show (decide ((0 : Nat) = 1)) = false from rfl] at h4
                try dsimp only at h4
                rw [if_neg z1, if_pos hl', if_neg z3] at h4
                exact (show p + 1 = q from h4).symm
            rw [hqp] at hL
            exact ⟨L, sx, htc.2, hL, hI⟩
      · rw [if_neg hc6, Bool.and_eq_true, Bool.and_eq_true] at htc
        have hk := of_decide_eq_true htc.1.1
        have hc1 := of_decide_eq_true htc.1.2
        have hkk : decide (k = 1) = decide (4 ≤ c) := by
          rw [hk]
          by_cases h4 : 4 ≤ c
          · rw [if_pos h4, decide_eq_true h4]; rfl
          · rw [if_neg h4, decide_eq_false h4]; rfl
        unfold chn at hch
        rw [if_neg (by rw [hk]; split <;> omega), hkk] at hch
        obtain ⟨d, q, hd, hq, hK, hL⟩ := hch
        have hln1 : hln E c p = q - p := by
          unfold hln
          rw [if_neg hc6, nI_cl (KD_end hK) (by omega)]
        have hlt := KD_lt hK
        refine ⟨hc1, fun h0 => ⟨fun _ => ⟨d, q, hd, hq, hK⟩, fun z => absurd z hc6, L, sx, htc.2, by rw [hln1, show p + (q - p) = q by omega]; exact hL, ?_⟩, fun h0 => ⟨fun _ => ⟨d, q, hd, hq, hK⟩, fun hall => ?_⟩⟩
        · obtain ⟨i1, i2, i3⟩ := hI
          refine ⟨fun c' c1 c5 hne => ?_, fun hne => ?_, fun hs' => ?_⟩
          · unfold hst at hne ⊢
            by_cases hcc : c' = c
            · rw [if_pos hcc, hcc, Nat.add_sub_cancel]
              exact ⟨d, q, hd, hq, hK⟩
            · rw [if_neg hcc] at hne ⊢
              exact i1 c' c1 c5 hne
          · unfold hst at hne ⊢
            rw [if_neg (by omega)] at hne ⊢
            exact i2 hne
          · unfold hst
            rw [if_neg (by omega)]
            exact i3 hs'
        · obtain ⟨d', q', hd', hq', hK'⟩ := hI.1 c hc1 (by omega) h0
          have hlt' := KD_lt hK'
          have hln2 : hln E c (hs c - 1) = q' - (hs c - 1) := by
            unfold hln
            rw [if_neg hc6, nI_cl (KD_end hK') (by omega)]
          rw [hln2] at hall
          have hpre := KD_pre d' d _ _ _ _ _ hK' hK (fun k z1 z2 => hall k z1)
          refine ⟨fun _ => by rw [hln1, hln2]; omega, L, sx, htc.2, by rw [hln2, hpre, show p + (q - p) = q by omega]; exact hL, hI⟩
end
