/-! A binder: its letter, its term, its part. -/
theorem lw_q {c : Int32} (h : 97 ≤ c ∧ c < 105) : ∃ j, 97 ≤ j ∧ j < 105 ∧ c = nI j := by
  have h0 : ¬ c < 0 := by
    have := Int32.le_iff_toInt_le.mp h.1
    have a : (97 : Int32).toInt = 97 := by decide
    rw [Int32.lt_iff_toInt_lt]
    have b : (0 : Int32).toInt = 0 := by decide
    omega
  obtain ⟨j, hj, rfl⟩ := nI_of h0
  refine ⟨j, ?_, ?_, rfl⟩
  · exact (nI_leI (a := 97) (by decide) hj).mp h.1
  · exact (nI_ltI (b := 105) hj (by decide)).mp h.2
theorem lw_n {c : Int32} (h : 97 ≤ c ∧ c < 105) : c - 97 = nI (lwN c) ∧ lwN c < 8 := by
  obtain ⟨j, h1, h2, rfl⟩ := lw_q h
  have e : nI j - 97 = nI (j - 97) := pk_sub (b := 97) h1
  unfold lwN
  rw [e, nI_clamp (by omega)]
  exact ⟨rfl, by omega⟩
theorem chr_lt {n p : Nat} {t : Nat → Int32} (h : chr n t p ≠ 0) : p < n ∧ chr n t p = t p := by
  unfold chr at *
  by_cases e : p < n
  · exact ⟨e, if_pos e⟩
  · rw [if_neg e] at h
    exact absurd rfl h
theorem ne_0 {c : Int32} (h : 97 ≤ c ∧ c < 105) : c ≠ 0 := by
  intro e
  rw [e] at h
  exact absurd h.1 (by decide)
theorem o102_back {p l : Nat} {v w : Int32} {h h1 h2 : HP} (o1 : o102 p h h1) (o2 : o102 p (up2 h1.1 9 l v, h1.2) h2) (hw : h.1 9 l = w) : o102 p h (up2 h2.1 9 l w, h2.2) := by
  refine ⟨fun m hm => ?_, by rw [o2.2.1]; exact o1.2.1, fun q hq => ?_⟩
  · show up2 h2.1 9 l w m = h.1 m
    by_cases e : m = 9
    · subst e
      have a : h2.1 9 = up2 h1.1 9 l v 9 := o2.1 9 (by decide)
      have b : h1.1 9 = h.1 9 := o1.1 9 (by decide)
      funext j
      by_cases ej : j = l
      · subst ej
        rw [u2_s, hw]
      · rw [u2_i ej, a, u2_i ej, b]
    · rw [up2_n e, o2.1 m hm]
      show up2 h1.1 9 l v m = _
      rw [up2_n e]
      exact o1.1 m hm
  · show up2 h2.1 9 l w 102 q = _
    rw [up2_n (by decide), o2.2.2 q hq]
    show up2 h1.1 9 l v 102 q = _
    rw [up2_n (by decide)]
    exact o1.2.2 q hq
theorem enc_r {e : Nat} (he : e ≤ 60) : 0 ≤ enc (.inr e) := nI_pos' (by omega)
theorem rd_binder {k : Nat → Nat} {n : Nat} {t : Nat → Int32} {ow : Int32} {ok lt d B : Nat} (hd : d ≤ 11) (hG : ∀ g, B ≤ g → GoodR k n t ow ok lt d g) (hn : n ≤ 60) (b : Bool) (sc : Nat → Nat) (hsc : ∀ l, sc l ≤ 2) (p : Nat) (hp : p < n) (h : HP) (hr : RC k n t ow ok lt h sc) (g : Nat) (hg : B + 2 ≤ g) :
    ∃ h', (s_grp_Reader_binder g).1 4 (nI p) (bI b) (nI (12 - d)) h = some (enc (bn n t (PT k n t ow ok lt d) b sc p), h') ∧ o102 (p + 1) h h' ∧ (match bn n t (PT k n t ow ok lt d) b sc p with
      | .inl w => w ≤ n
      | .inr e => e ≤ n ∧ isLw (t (p + 1)) ∧ ∃ q, KD (kk k ow ok) t (h'.1 102) d false (p + 2) q ∧ KD (kk k ow ok) t (h'.1 102) d b q e) := by
  obtain ⟨g0, rfl⟩ : ∃ g0, g = g0 + 2 := ⟨g - 2, by omega⟩
  have eD : nI (12 - d) + 1 = nI (13 - d) := by rw [nI_1]; congr 1; omega
  have e2 : nI p + 2 = nI (p + 2) := nI_add p 2
  show ∃ h', s_Reader_binder (s_grp_Reader_binder (g0 + 1)) 4 (nI p) (bI b) (nI (12 - d)) h = _ ∧ _
  unfold s_Reader_binder bn
  rw [rR_4_0, ob_s, rK_100, ob_s, nI_1, hr.at (by omega), ob_s, s_let, ob_s]
  by_cases hl : 97 ≤ chr n t (p + 1) ∧ chr n t (p + 1) < 105
  · obtain ⟨hlt, hct⟩ := chr_lt (ne_0 hl)
    obtain ⟨el, hl8⟩ := lw_n hl
    rw [if_pos hl, if_pos hl, if_neg (by decide), rK_4, ob_s, e2, eD]
    obtain ⟨h1, f1, q1⟩ := hG (g0 + 1) (by omega) false sc (p + 2) h hr hsc (by omega)
    have f1 : (s_grp_Reader_binder (g0 + 1)).2.2.2.2.2.2 4 (nI (p + 2)) (nI (13 - d)) h = _ := f1
    rw [f1, ob_s]
    cases hP : PT k n t ow ok lt d false sc (p + 2) with
    | inl w =>
      rw [hP] at q1
      have hw : w ≤ n := q1.2
      refine ⟨h1, ?_, q1.1.le (by omega), hw⟩
      have := enc_l (w := w) (by omega)
      rw [if_neg]
      intro q
      have a := Int32.lt_iff_toInt_lt.mp this
      have b := Int32.le_iff_toInt_le.mp q
      have c : (0 : Int32).toInt = 0 := by decide
      dsimp only at b
      omega
    | inr q =>
      rw [hP] at q1
      obtain ⟨o1, hqn, hK1⟩ := q1
      have hr1 := RC.o o1 hr
      dsimp only
      rw [if_pos (enc_r (by omega)), rR_4_2, ob_s, el, rA_9 hl8, ob_s, rR_4_0, ob_s, rK_100, ob_s, hr1.at (by omega), ob_s]
      have hs9 : h1.1 9 (lwN (chr n t (p + 1))) = nI (sc (lwN (chr n t (p + 1)))) := hr1.2.2.2 _ hl8
      have z9 : aI h1 9 0 0 = some (nI (sc 0)) := by
        have a : aI h1 9 0 (nI 0) = some (h1.1 9 0) := rA_9 (by decide)
        rw [hr1.2.2.2 0 (by decide)] at a
        exact a
      have go : ∀ v : Nat, (v = 1 ∨ v = 2) → ∃ h', s_Reader_binder_110 (s_grp_Reader_binder (g0 + 1)) 4 (bI b) (nI (12 - d)) (enc (.inr q)) (nI (lwN (chr n t (p + 1)))) (h1.1 9 (lwN (chr n t (p + 1)))) 9 (nI (lwN (chr n t (p + 1)))) (nI v) h1 = some (enc (PT k n t ow ok lt d b (upS sc (lwN (chr n t (p + 1))) v) q), h') ∧ o102 (p + 1) h h' ∧ (match PT k n t ow ok lt d b (upS sc (lwN (chr n t (p + 1))) v) q with
          | .inl w => w ≤ n
          | .inr e => e ≤ n ∧ isLw (t (p + 1)) ∧ ∃ q, KD (kk k ow ok) t (h'.1 102) d false (p + 2) q ∧ KD (kk k ow ok) t (h'.1 102) d b q e) := by
        intro v hv
        obtain ⟨h2, f2, q2⟩ := hG g0 (by omega) b (upS sc (lwN (chr n t (p + 1))) v) q _ (RC.sc (l := lwN (chr n t (p + 1))) (x := v) hr1) (fun l => by unfold upS; split <;> first | omega | exact hsc l) hqn
        unfold s_Reader_binder_110
        rw [wA_9 hl8, ob_s, rK_4, ob_s, rd_part, eD]
        show ∃ h', (Option.bind (rd g0 b 4 (nI q) (nI (13 - d)) (up2 h1.1 9 (lwN (chr n t (p + 1))) (nI v), h1.2)) _) = _ ∧ _
        rw [f2, ob_s, rR_4_2, ob_s, wA_9 hl8, ob_s]
        have hK1lt := KD_lt hK1
        have ob := o102_back (p := p + 1) (w := h1.1 9 (lwN (chr n t (p + 1)))) (o1.le (by omega)) (q2.1.le (by omega)) (by rw [o1.1 9 (by decide)])
        refine ⟨_, rfl, ob, ?_⟩
        cases hP2 : PT k n t ow ok lt d b (upS sc (lwN (chr n t (p + 1))) v) q with
        | inl w =>
          rw [hP2] at q2
          exact q2.2
        | inr e =>
          rw [hP2] at q2
          obtain ⟨o2, hen, hK2⟩ := q2
          have e102 : (up2 h2.1 9 (lwN (chr n t (p + 1))) (h1.1 9 (lwN (chr n t (p + 1)))), h2.2).1 102 = h2.1 102 := by
            show up2 h2.1 9 (lwN (chr n t (p + 1))) (h1.1 9 (lwN (chr n t (p + 1)))) 102 = h2.1 102
            exact up2_n (by decide)
          refine ⟨hen, by rw [← hct]; exact hl, q, ?_, ?_⟩
          · rw [e102]
            refine KD_congr d false (p + 2) q (fun y _ hy => ?_) hK1
            rw [o2.2.2 y hy]
            show _ = up2 h1.1 9 (lwN (chr n t (p + 1))) (nI v) 102 y
            rw [up2_n (by decide)]
          · rw [e102]
            exact hK2
      by_cases c97 : chr n t (p + 2) = 97
      · rw [if_pos c97, ob_s, z9, ob_s]
        by_cases s0 : sc 0 = 0
        · rw [if_pos (by rw [s0]; rfl), if_pos ⟨c97, s0⟩]
          unfold s_Reader_binder_92
          rw [rR_4_2, ob_s, if_neg (by decide)]
          exact go 2 (Or.inr rfl)
        · have n0 : ¬ nI (sc 0) = 0 := nI_ne0 (by omega) (by have := hsc 0; omega)
          rw [if_neg n0, if_neg (fun q => s0 q.2)]
          unfold s_Reader_binder_91 s_Reader_binder_92
          rw [rR_4_2, ob_s, if_pos rfl]
          exact go 1 (Or.inl rfl)
      · rw [if_neg c97, if_neg (fun q => c97 q.1)]
        unfold s_Reader_binder_91 s_Reader_binder_92
        rw [rR_4_2, ob_s, if_pos rfl]
        exact go 1 (Or.inl rfl)
  · rw [if_neg hl, if_neg hl, if_pos rfl]
    unfold s_Reader_wrong
    exact ⟨h, rfl, o102.rf _ h, by omega⟩
