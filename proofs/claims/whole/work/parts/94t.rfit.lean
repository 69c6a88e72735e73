/-! Rules 1 to 6, 16, 17: the form alone; 7: and the letter is not free. -/
theorem xB_b {S : SG} {E : Nat → Int32} : (xB S E).1 = (gB S).1 ∧ (xB S E).2.1 = (gB S).2.1 := ⟨rfl, rfl⟩
def frm (k : Nat) : Nat := if k ≤ 8 then k else k - 4
theorem fo_k : ∀ k, k < 18 → ((1 ≤ k ∧ k ≤ 8) ∨ 14 ≤ k) → s_Rules_formOf (nI k) = some (frm k) ∧ 1 ≤ frm k ∧ frm k < 14 ∧ frm k ≠ 9 ∧ rlN (frm k) = k := by decide
def prs (k : Nat) : Bool := decide ((1 ≤ k ∧ k ≤ 6) ∨ k = 16 ∨ k = 17)
theorem al_c : ∀ (k : Nat) (i j : Int32) (h : HP), k < 18 → prs k = true → s_Rules_allow 6 (nI k) i j h = s_Rules_allow_261 6 (nI k) h := by
  intro k i j h hk hp
  obtain rfl | rfl | rfl | rfl | rfl | rfl | rfl | rfl : k = 1 ∨ k = 2 ∨ k = 3 ∨ k = 4 ∨ k = 5 ∨ k = 6 ∨ k = 16 ∨ k = 17 := by
    have := of_decide_eq_true hp
    omega
  all_goals rfl
theorem al_m : ∀ (k : Nat) (i j : Int32) (h : HP), k < 18 → ((1 ≤ k ∧ k ≤ 8) ∨ 14 ≤ k) → s_AdjoinedSetsModel_allows 200 (nI k) i j h = s_AdjoinedSetsModel_allows_109 200 (nI k) h := by
  intro k i j h hk hp
  obtain rfl | rfl | rfl | rfl | rfl | rfl | rfl | rfl | rfl | rfl | rfl | rfl : k = 1 ∨ k = 2 ∨ k = 3 ∨ k = 4 ∨ k = 5 ∨ k = 6 ∨ k = 7 ∨ k = 8 ∨ k = 14 ∨ k = 15 ∨ k = 16 ∨ k = 17 := by omega
  all_goals rfl
theorem al_f {S : SG} {E : Nat → Int32} {k : Nat} {i j : Int32} (hw : WF S) (hK : KD (gK S) (gB S).2.1 E 12 true 0 (gB S).1) (hk : k < 18) (hp : prs k = true) : ALR S E (nI k) i j := by
  have hk2 : (1 ≤ k ∧ k ≤ 6) ∨ k = 16 ∨ k = 17 := of_decide_eq_true hp
  have hk3 : (1 ≤ k ∧ k ≤ 8) ∨ 14 ≤ k := by omega
  obtain ⟨f1, f2, f3, f4, f5⟩ := fo_k k hk hk3
  have cl : ∀ h, CA S h → cE h 100 (xB S E) → (∃ h', fitM (gB S).2.1 E (PL (frm k)) 0 (fun _ => 0) ≠ none ∧ s_Rules_allow 6 (nI k) i j h = some (1, h') ∧ kq h h') ∨ (fitM (gB S).2.1 E (PL (frm k)) 0 (fun _ => 0) = none ∧ ∃ h', s_Rules_allow 6 (nI k) i j h = some (0, h') ∧ kq h h') := by
    intro h hc hE
    have e0 : ∀ v h', s_Form_fits 12 (frm k) h = some (v, h') → (v = 0 ∨ v = 1) → s_Rules_allow 6 (nI k) i j h = some (v, h') := by
      intro v h' hf hv
      have hz : zr v = some () := by rcases hv with rfl | rfl <;> rfl
      rw [al_c k i j h hk hp]
      unfold s_Rules_allow_261
      rw [rR_6_5, ob_s, f1, ob_s, rK_12, ob_s, hf, ob_s]
      dsimp only
      rw [hz, ob_s]
    rcases c_fits (K := gK S) (x := xB S E) (h := h) (fun p hp => hw.1.2 p hp) f2 f3 hK hc.1 hE with ⟨hs', sx', h', z1, z2, z3, z4, z5⟩ | ⟨z1, h', z2, z3⟩
    · exact Or.inl ⟨h', by rw [show fitM (gB S).2.1 E (PL (frm k)) 0 (fun _ => 0) = some hs' from z1]; simp, e0 1 h' z2 (Or.inr rfl), o14_kq z5⟩
    · exact Or.inr ⟨z1, h', e0 0 h' z2 (Or.inl rfl), o14_kq z3⟩
  have ml : ∀ H, MA S H → (∃ H', fitM (gB S).2.1 E (PL (frm k)) 0 (fun _ => 0) ≠ none ∧ s_AdjoinedSetsModel_allows 200 (nI k) i j H = some (1, H') ∧ o22 H H') ∨ (fitM (gB S).2.1 E (PL (frm k)) 0 (fun _ => 0) = none ∧ ∃ H', s_AdjoinedSetsModel_allows 200 (nI k) i j H = some (0, H') ∧ o22 H H') := by
    intro H hm
    have e0 : ∀ v H', s_AdjoinedSetsModel_fits 200 (nI k) H = some (v, H') → (v = 0 ∨ v = 1) → s_AdjoinedSetsModel_allows 200 (nI k) i j H = some (v, H') := by
      intro v H' hf hv
      rw [al_m k i j H hk hk3]
      unfold s_AdjoinedSetsModel_allows_109 s_AdjoinedSetsModel_isPattern
      rw [rK_200, ob_s, ob_s, hf, ob_s]
      dsimp only
      rcases hv with rfl | rfl
      · rw [if_pos rfl]
        rfl
      · rw [if_neg (by decide), if_neg (show ¬ nI k = 7 from nk (m := 7) hk (by omega) (by omega)), if_neg (show ¬ nI k = 8 from nk (m := 8) hk (by omega) (by omega)), if_neg (show ¬ nI k = 14 from nk (m := 14) hk (by omega) (by omega)), if_neg (show ¬ nI k = 15 from nk (m := 15) hk (by omega) (by omega))]
        rfl
    have := m_fits (x := xB S E) hw xB_b f2 f3 f4 hK hm
    rw [f5] at this
    rcases this with ⟨hs', H', z1, z2, z3, z5⟩ | ⟨z1, H', z2, z3⟩
    · exact Or.inl ⟨H', by rw [show fitM (gB S).2.1 E (PL (frm k)) 0 (fun _ => 0) = some hs' from z1]; simp, e0 1 H' z2 (Or.inr rfl), z5⟩
    · exact Or.inr ⟨z1, H', e0 0 H' z2 (Or.inl rfl), z3⟩
  by_cases hP : fitM (gB S).2.1 E (PL (frm k)) 0 (fun _ => 0) = none
  · refine ⟨0, Or.inl rfl, fun h hc hE => ?_, fun H hm => ?_⟩
    · rcases cl h hc hE with ⟨h', z1, _⟩ | ⟨_, h', z2, z3⟩
      · exact absurd hP z1
      · exact ⟨h', z2, z3⟩
    · rcases ml H hm with ⟨h', z1, _⟩ | ⟨_, H', z2, z3⟩
      · exact absurd hP z1
      · exact ⟨H', z2, MA_22 z3 hm, sC_22 z3⟩
  · refine ⟨1, Or.inr rfl, fun h hc hE => ?_, fun H hm => ?_⟩
    · rcases cl h hc hE with ⟨h', _, z2, z3⟩ | ⟨z1, _⟩
      · exact ⟨h', z2, z3⟩
      · exact absurd z1 hP
    · rcases ml H hm with ⟨H', _, z2, z3⟩ | ⟨z1, _⟩
      · exact ⟨H', z2, MA_22 z3 hm, sC_22 z3⟩
      · exact absurd z1 hP
-- bits of a mask
theorem tb_sh (x : Int32) {l : Nat} (hl : l < 8) : ((x >>> (nI l &&& 31)) &&& 1) = 0 ↔ tb x l = false := by
  have hs : ((nI l &&& 31).toBitVec.smod 32).toNat = l := (show ∀ l, l < 8 → ((nI l &&& 31).toBitVec.smod 32).toNat = l by decide) l hl
  rw [← Int32.toBitVec_inj, Int32.toBitVec_and, Int32.toBitVec_shiftRight, BitVec.sshiftRight_eq', hs]
  have e1 : (1 : Int32).toBitVec = BitVec.twoPow 32 0 := by decide
  rw [e1, BitVec.and_twoPow, BitVec.getLsbD_sshiftRight]
  have e2 : (decide (32 ≤ 0)) = false := by decide
  have e3 : l + 0 < 32 := by omega
  rw [e2, if_pos e3, Nat.add_zero]
  unfold tb
  cases x.toBitVec.getLsbD l with
  | true => exact ⟨fun q => absurd q (by decide), fun q => Bool.noConfusion q⟩
  | false => exact ⟨fun _ => rfl, fun _ => rfl⟩
/-- after a form has fitted: its letter, and whether it is free in a hole -/
theorem f_letter {x : TX} {h : HP} {hs : Nat → Nat} (hc : cT h 100 x) (hS : SA h hs) (h6 : hs 6 ≠ 0) (hL : isLw (x.2.1 (hs 6 - 1))) (hlt : hs 6 - 1 < x.1) : s_Form_letter 12 h = some (nI (lwN (x.2.1 (hs 6 - 1)))) := by
  unfold s_Form_letter
  have hp := plc hS (c := 6) (by omega) (by omega)
  rw [if_neg h6] at hp
  rw [rR_12_0, ob_s, rK_12, ob_s, show s_Form_placeOf 12 120 h = some (nI (hs 6 - 1)) from hp, ob_s, rK_100, ob_s, at_h hc hlt, ob_s, (lw_n hL).1]
theorem f_free {K : Nat → Nat} {x : TX} {h : HP} {hs : Nat → Nat} (hk3 : ∀ f, f < 4 → K f ≤ 3) (hc : cT h 100 x) (hE : cE h 100 x) (hS : SA h hs) (h6 : hs 6 ≠ 0) (hL : isLw (x.2.1 (hs 6 - 1))) (hlt : hs 6 - 1 < x.1) {c d q : Nat} {b : Bool} (c1 : 1 ≤ c) (c6 : c ≤ 5) (hne : hs c ≠ 0) (hd : d ≤ 12) (hq : q ≤ x.1) (hK : KD K x.2.1 x.2.2 d b (hs c - 1) q) : s_Form_letterIsFreeIn 12 (nI (chC c)) h = some (if fv x.2.1 x.2.2 d (hs c - 1) (lwN (x.2.1 (hs 6 - 1))) = true then 1 else 0) := by
  obtain ⟨y, g1, g2⟩ := c_free hk3 hc hE d b (hs c - 1) q 1 13 hK hq (by omega) (by omega)
  have hl8 := (lw_n hL).2
  unfold s_Form_letterIsFreeIn
  have hp := plc hS (c := c) c1 (by omega)
  rw [if_neg hne] at hp
  rw [rR_12_0, ob_s, rK_12, ob_s, hp, ob_s, rK_100, ob_s, show s_grp_Text_freeIn 13 100 (nI (hs c - 1)) 1 h = some y from g1, ob_s, ob_s, f_letter hc hS h6 hL hlt, ob_s]
  by_cases hf : fv x.2.1 x.2.2 d (hs c - 1) (lwN (x.2.1 (hs 6 - 1))) = true
  · rw [if_pos hf, if_neg]
    rw [tb_sh y hl8, g2.2 _ hl8, hf]
    decide
  · rw [if_neg hf, if_pos]
    rw [tb_sh y hl8, g2.2 _ hl8]
    cases hq : fv x.2.1 x.2.2 d (hs c - 1) (lwN (x.2.1 (hs 6 - 1))) with
    | true => exact absurd hq hf
    | false => rfl
/-- the holes that a form has filled -/
def hld (t E : Nat → Int32) : Nat → Nat → Prop := fun q c => ∀ hs', fitM t E (PL q) 0 (fun _ => 0) = some hs' → hs' c ≠ 0
theorem fit_mono {t E : Nat → Int32} : ∀ (cs : List Nat) (p : Nat) (hs hs' : Nat → Nat), fitM t E cs p hs = some hs' → ∀ c, hs c ≠ 0 → hs' c = hs c := by
  intro cs
  induction cs with
  | nil =>
    intro p hs hs' h c hc
    rw [fitM] at h
    rw [Option.some.inj h]
  | cons c0 cs ih =>
    intro p hs hs' h c hc
    rw [fitM] at h
    dsimp only at h
    split at h
    · split at h
      · exact ih _ _ _ h c hc
      · cases h
    · split at h
      · rename_i h0
        have hne : c ≠ c0 := fun z => hc (by rw [z]; exact h0)
        have := ih _ _ _ h c (by unfold hst; rw [if_neg hne]; exact hc)
        rw [this]
        unfold hst
        rw [if_neg hne]
      · split at h
        · exact ih _ _ _ h c hc
        · cases h
theorem fit_has {t E : Nat → Int32} : ∀ (cs : List Nat) (p : Nat) (hs hs' : Nat → Nat), fitM t E cs p hs = some hs' → ∀ c, c ≤ 6 → c ∈ cs → hs' c ≠ 0 := by
  intro cs
  induction cs with
  | nil => intro p hs hs' _ c _ hc; exact absurd hc (by simp)
  | cons c0 cs ih =>
    intro p hs hs' h c h6 hc
    rw [fitM] at h
    dsimp only at h
    rcases List.mem_cons.mp hc with rfl | hc
    · rw [if_neg (by omega)] at h
      split at h
      · have := fit_mono cs _ _ _ h c (by unfold hst; rw [if_pos rfl]; omega)
        rw [this]
        unfold hst
        rw [if_pos rfl]
        omega
      · rename_i h0
        split at h
        · rw [fit_mono cs _ _ _ h c h0]
          exact h0
        · cases h
    · split at h
      · split at h
        · exact ih _ _ _ h c h6 hc
        · cases h
      · split at h
        · exact ih _ _ _ h c h6 hc
        · split at h
          · exact ih _ _ _ h c h6 hc
          · cases h
