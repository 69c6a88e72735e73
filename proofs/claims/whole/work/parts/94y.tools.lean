/-! Beginning a replacement, on both sides. -/
theorem fill_b {v : Int32} : ∀ (i c r : Nat) (h : HP), c + i = 8 → i < r → ∃ h', s_Arrays_fill_5 r 13 v (nI c) (nI 8) h = some h' ∧ (∀ l, l < 8 → h'.1 13 l = if c ≤ l then v else h.1 13 l) ∧ (∀ n, n ≠ 13 → h'.1 n = h.1 n) ∧ h'.2 = h.2 := by
  intro i
  induction i with
  | zero =>
    intro c r h h1 h2
    obtain ⟨r, rfl⟩ : ∃ r0, r = r0 + 1 := ⟨r - 1, by omega⟩
    refine ⟨h, ?_, fun l hl => by rw [if_neg (by omega)], fun _ _ => rfl, rfl⟩
    rw [s_Arrays_fill_5]
    dsimp only
    rw [if_pos (nI_le (by omega) (by omega))]
  | succ i ih =>
    intro c r h h1 h2
    obtain ⟨r, rfl⟩ : ∃ r0, r = r0 + 1 := ⟨r - 1, by omega⟩
    obtain ⟨h', a1, a2, a3, a4⟩ := ih (c + 1) r (up2 h.1 13 c v, h.2) (by omega) (by omega)
    refine ⟨h', ?_, fun l hl => ?_, fun n hn => ?_, a4⟩
    · rw [s_Arrays_fill_5]
      dsimp only
      rw [if_neg (nI_ge (by omega) (by omega)), wA_13 (by omega), ob_s, nI_1, a1]
    · rw [a2 l hl]
      by_cases hlc : l = c
      · rw [hlc, if_neg (by omega), if_pos (Nat.le_refl _)]
        exact u2_s
      · by_cases hcl : c ≤ l
        · rw [if_pos (by omega), if_pos hcl]
        · rw [if_neg (by omega), if_neg hcl]
          exact u2_i hlc
    · rw [a3 n hn]
      exact up2_n hn
theorem c_begin (h : HP) (u : Nat) : ∃ h', s_Replacement_begin 11 u h = some h' ∧ (∀ l, l < 8 → h'.1 13 l = -1) ∧ (∀ n, n ≠ 13 → h'.1 n = h.1 n) ∧ h'.2.1 = h.2.1 ∧ h'.2.2 = u := by
  obtain ⟨h', a1, a2, a3, a4⟩ := fill_b (v := -1) 8 0 20000 (h.1, h.2.1, u) (by omega) (by omega)
  refine ⟨h', ?_, fun l hl => by rw [a2 l hl, if_pos (Nat.zero_le _)], a3, by rw [a4], by rw [a4]⟩
  unfold s_Replacement_begin s_Arrays_fill
  rw [wR_11_1, ob_s, rR_11_0, ob_s, rN_13, ob_s, show s_Arrays_fill_5 20000 13 (-1) 0 (nI 8) (h.1, h.2.1, u) = some h' from a1, ob_s]
theorem c_put {h : HP} {l : Nat} {v : Int32} (hl : l < 8) : s_Replacement_put 11 (nI l) v h = some (up2 h.1 13 l v, h.2) := by
  unfold s_Replacement_put
  rw [if_neg (nI_pos (by omega)), if_neg (show ¬ 8 ≤ nI l from nI_ge (b := 8) hl (by omega)), rR_11_0, ob_s, wA_13 hl, ob_s]
theorem c_beginWith (h : HP) (u : Nat) {l v : Nat} (hl : l < 8) : ∃ h', s_Replacement_beginWith 11 u (nI l) (nI v) h = some h' ∧ SR h' (fun j => decide (j = l)) (fun _ => v) ∧ (∀ n, n ≠ 13 → h'.1 n = h.1 n) ∧ h'.2.1 = h.2.1 ∧ h'.2.2 = u := by
  obtain ⟨h1, a1, a2, a3, a4, a5⟩ := c_begin h u
  refine ⟨(up2 h1.1 13 l (nI v), h1.2), ?_, fun j hj => ?_, fun n hn => ?_, a4, a5⟩
  · unfold s_Replacement_beginWith
    rw [rK_11, ob_s, a1, ob_s, ob_s, c_put hl, ob_s]
  · show up2 h1.1 13 l (nI v) 13 j = _
    by_cases hjl : j = l
    · rw [hjl, u2_s, if_pos (by simp)]
    · rw [u2_i hjl, a2 j hj, if_neg (by simp [hjl])]
  · exact (up2_n hn).trans (a3 n hn)
section
variable {K : Nat → Nat} {h : HP} {s t u : Nat} {xs xt xw : TX} {rl : Nat → Bool} {w we : Nat → Nat} {dw : Nat → Nat}
theorem c_gives (hR : RC2 K h s t u xs xt xw rl w we dw) {d d2 p e q e2 : Nat} {b : Bool} (hK : KD K xs.2.1 xs.2.2 d b p e) (he : e ≤ xs.1) (hd : d ≤ 12) (hKt : KD K xt.2.1 xt.2.2 d2 b q e2) (het : e2 ≤ xt.1) : (MT K xs.2.1 xs.2.2 xt.2.1 xt.2.2 rl (fun l => fv xw.2.1 xw.2.2 (dw l) (w l)) (EQt xt xw w we) d b (fun _ => false) p q → ∃ v, s_Replacement_gives 11 s (nI p) t (nI q) (nI e2) h = some (1, nw h v)) ∧ (¬ MT K xs.2.1 xs.2.2 xt.2.1 xt.2.2 rl (fun l => fv xw.2.1 xw.2.2 (dw l) (w l)) (EQt xt xw w we) d b (fun _ => false) p q → ∃ v, s_Replacement_gives 11 s (nI p) t (nI q) (nI e2) h = some (0, nw h v)) := by
  obtain ⟨g1, g2⟩ := c_go hR d b p e 1 14 q e2 d2 0 (fun _ => false) hK he hKt het (by omega) (by omega) (by omega) MSK_0
  unfold s_Replacement_gives
  rw [wI_11_2, ob_s, rK_11, ob_s]
  constructor
  · intro z
    refine ⟨nI e2, ?_⟩
    rw [show s_grp_Replacement_goesOn 14 11 s (nI p) t 0 1 (up2 h.1 11 2 (nI q), h.2) = some (1, nw h (nI e2)) from g1 z, ob_s]
    dsimp only
    rw [if_neg (by decide), rI_11_2, ob_s, nw_2, if_pos rfl]
  · intro z
    obtain ⟨v, e1⟩ := g2 z
    refine ⟨v, ?_⟩
    rw [show s_grp_Replacement_goesOn 14 11 s (nI p) t 0 1 (up2 h.1 11 2 (nI q), h.2) = some (0, nw h v) from e1, ob_s]
    dsimp only
    rw [if_pos rfl]
end
theorem kq_nw {h h' : HP} {v : Int32} (hk : kq h h') : kq h (nw h' v) := ⟨fun n a1 a2 a3 a4 a5 a6 a7 a8 a9 => (nw_I a2).trans (hk.1 n a1 a2 a3 a4 a5 a6 a7 a8 a9), hk.2⟩
/-- what the model's replacing leaves -/
def o24 (H H' : HP) : Prop := (∀ n, n ≠ 200 → ¬ (206 ≤ n ∧ n ≤ 211) → n ≠ 222 → n ≠ 223 → n ≠ 224 → H'.1 n = H.1 n) ∧ (∀ i, i ≠ 7 → H'.1 200 i = H.1 200 i) ∧ H'.2 = H.2
theorem o24.rf (H : HP) : o24 H H := ⟨fun _ _ _ _ _ _ => rfl, fun _ _ => rfl, rfl⟩
theorem o24.tr {a b c : HP} (h1 : o24 a b) (h2 : o24 b c) : o24 a c := ⟨fun n a1 a2 a3 a4 a5 => (h2.1 n a1 a2 a3 a4 a5).trans (h1.1 n a1 a2 a3 a4 a5), fun i hi => (h2.2.1 i hi).trans (h1.2.1 i hi), h2.2.2.trans h1.2.2⟩
theorem MA_24 {S : SG} {h h' : HP} (ho : o24 h h') (hm : MA S h) : MA S h' := MA_k hm (fun m hm => ho.1 m (by omega) (by omega) (by omega) (by omega) (by omega)) (by rw [ho.2.2]) (ho.2.1 1 (by decide)) (ho.2.1 4 (by decide))
theorem sC_24 {h h' : HP} (ho : o24 h h') : sC h h' := ⟨fun n hn => ⟨ho.1 n (by omega) (by omega) (by omega) (by omega) (by omega), by rw [ho.2.2]⟩, by rw [ho.2.2]⟩
theorem o24_sw {h : HP} {w : Nat} {P : Nat → Nat → Int32} {A B : Nat → Int32} : o24 h (sw h w P A B) := by
  refine ⟨fun n a1 a2 a3 a4 a5 => ?_, fun i hi => ?_, rfl⟩
  · funext i
    show (if n = 200 then _ else if 206 ≤ n ∧ n ≤ 209 then _ else if n = 210 then _ else if n = 211 then _ else h.1 n i) = h.1 n i
    rw [if_neg a1, if_neg (by omega), if_neg (by omega), if_neg (by omega)]
  · show (if i = 7 then _ else h.1 200 i) = h.1 200 i
    rw [if_neg hi]
theorem mT_24 {h h' : HP} {o : Nat} {x : TX} (ho : o24 h h') (hc : mT h o x) : mT h' o x := fun p hp => by rw [ho.1 201 (by omega) (by omega) (by omega) (by omega) (by omega)]; exact hc p hp
theorem up2_ne (f : Nat → Nat → Int32) (n i m : Nat) (x : Int32) (j : Nat) (h : m ≠ n) : up2 f n i x m j = f m j := congrFun (up2_n h) j
theorem m_noR_loop : ∀ (i c r : Nat) (h : HP), c + i = 8 → i < r → ∃ h', s_AdjoinedSetsModel_noReplacing_2 r 200 (nI c) h = some h' ∧ (∀ l, l < 8 → h'.1 223 l = if c ≤ l then 0 else h.1 223 l) ∧ (∀ n, n ≠ 223 → h'.1 n = h.1 n) ∧ h'.2 = h.2 := by
  intro i
  induction i with
  | zero =>
    intro c r h h1 h2
    obtain ⟨r, rfl⟩ : ∃ r0, r = r0 + 1 := ⟨r - 1, by omega⟩
    refine ⟨h, ?_, fun l hl => by rw [if_neg (by omega)], fun _ _ => rfl, rfl⟩
    rw [s_AdjoinedSetsModel_noReplacing_2]
    dsimp only
    rw [if_pos (show 8 ≤ nI c from nI_le (a := 8) (by omega) (by omega))]
  | succ i ih =>
    intro c r h h1 h2
    obtain ⟨r, rfl⟩ : ∃ r0, r = r0 + 1 := ⟨r - 1, by omega⟩
    obtain ⟨h', a1, a2, a3, a4⟩ := ih (c + 1) r (up2 h.1 223 c 0, h.2) (by omega) (by omega)
    refine ⟨h', ?_, fun l hl => ?_, fun n hn => ?_, a4⟩
    · rw [s_AdjoinedSetsModel_noReplacing_2]
      dsimp only
      rw [if_neg (show ¬ 8 ≤ nI c from nI_ge (b := 8) (by omega) (by omega)), rR_200_30, ob_s, wA_223 (by omega), ob_s, nI_1, a1]
    · rw [a2 l hl]
      by_cases hlc : l = c
      · rw [hlc, if_neg (by omega), if_pos (Nat.le_refl _)]
        exact u2_s
      · by_cases hcl : c ≤ l
        · rw [if_pos (by omega), if_pos hcl]
        · rw [if_neg (by omega), if_neg hcl]
          exact u2_i hlc
    · rw [a3 n hn]
      exact up2_n hn
theorem m_noR (H : HP) : ∃ H', s_AdjoinedSetsModel_noReplacing 200 H = some H' ∧ (∀ l, l < 8 → H'.1 223 l = 0) ∧ o24 H H' := by
  obtain ⟨h', a1, a2, a3, a4⟩ := m_noR_loop 8 0 20000 H (by omega) (by omega)
  refine ⟨h', ?_, fun l hl => by rw [a2 l hl, if_pos (Nat.zero_le _)], fun n _ _ _ b4 _ => a3 n b4, fun i _ => by rw [a3 200 (by decide)], a4⟩
  unfold s_AdjoinedSetsModel_noReplacing
  exact a1
theorem m_rep {K : Nat → Nat} {H : HP} {ow l w we dw : Nat} {xw : TX} (hl : l < 8) (ht : mT H ow xw) (ho : ow ≤ 1430) (hx : xw.1 ≤ 60) (hKm : ∀ f, f < 4 → H.1 203 f = nI (K f)) (hK3 : ∀ f, f < 4 → K f ≤ 3) (hd : dw ≤ 12) (hK : KD K xw.2.1 xw.2.2 dw false w we) (he : we ≤ xw.1) : ∃ H', s_AdjoinedSetsModel_replace 200 (nI l) (nI (ow + w)) H = some H' ∧ H'.1 222 l = nI (ow + w) ∧ H'.1 223 l = nI (we - w) ∧ MSK (H'.1 224 l) (fv xw.2.1 xw.2.2 dw w) ∧ (∀ m, m ≠ l → H'.1 222 m = H.1 222 m ∧ H'.1 223 m = H.1 223 m ∧ H'.1 224 m = H.1 224 m) ∧ o24 H H' := by
  have hlt := KD_lt hK
  have o1 : o24 H (up2 H.1 222 l (nI (ow + w)), H.2) := ⟨fun n a1 a2 a3 a4 a5 => up2_n a3, fun i _ => up2_ne H.1 222 l 200 (nI (ow + w)) i (by decide), rfl⟩
  have o2 : ∀ (H : HP) (v : Int32), o24 H (up2 H.1 223 l v, H.2) := fun H v => ⟨fun n a1 a2 a3 a4 a5 => up2_n a4, fun i _ => up2_ne H.1 223 l 200 v i (by decide), rfl⟩
  have o3 : ∀ (H : HP) (v : Int32), o24 H (up2 H.1 224 l v, H.2) := fun H v => ⟨fun n a1 a2 a3 a4 a5 => up2_n a5, fun i _ => up2_ne H.1 224 l 200 v i (by decide), rfl⟩
  have oa := o1.tr (o2 _ (nI (we - w)))
  have k203 : ∀ H', o24 H H' → ∀ f, f < 4 → H'.1 203 f = nI (K f) := fun H' ho f hf => by rw [ho.1 203 (by omega) (by omega) (by omega) (by omega) (by omega)]; exact hKm f hf
  have e1 := m_endOf (h := (up2 H.1 222 l (nI (ow + w)), H.2)) (k203 _ o1) (mT_24 o1 ht) (by omega) hx hK3 hd hK he
  have e0 : s_AdjoinedSetsModel_replace 200 (nI l) (nI (ow + w)) H = (s_AdjoinedSetsModel_freeIn 200 (nI (ow + w)) (up2 (up2 H.1 222 l (nI (ow + w)), H.2).1 223 l (nI (we - w)), (up2 H.1 222 l (nI (ow + w)), H.2).2)).bind fun q15 => (uI q15.2 224 0 (nI l) q15.1).bind fun h17 => some h17 := by
    unfold s_AdjoinedSetsModel_replace
    rw [rR_200_29, ob_s, wA_222 hl, ob_s, rR_200_30, ob_s, rK_200, ob_s, e1, ob_s, pk_sub (by omega), show ow + we - (ow + w) = we - w by omega, wA_223 hl, ob_s, rR_200_31, ob_s, ob_s]
  rw [e0]
  have q2 : (up2 (up2 H.1 222 l (nI (ow + w)), H.2).1 223 l (nI (we - w))) 222 = up2 H.1 222 l (nI (ow + w)) 222 := up2_n (by decide)
  have q3 : ∀ m, (up2 (up2 H.1 222 l (nI (ow + w)), H.2).1 223 l (nI (we - w))) 223 m = if m = l then nI (we - w) else H.1 223 m := by
    intro m
    by_cases hm : m = l
    · rw [hm, u2_s, if_pos rfl]
    · rw [u2_i hm, if_neg hm]
      exact up2_ne H.1 222 l 223 (nI (ow + w)) m (by decide)
  have q4 : (up2 (up2 H.1 222 l (nI (ow + w)), H.2).1 223 l (nI (we - w))) 224 = H.1 224 := by
    rw [up2_n (by decide)]
    funext m
    exact up2_ne H.1 222 l 224 (nI (ow + w)) m (by decide)
  generalize hHb : ((up2 (up2 H.1 222 l (nI (ow + w)), H.2).1 223 l (nI (we - w)), (up2 H.1 222 l (nI (ow + w)), H.2).2) : HP) = Hb at oa e0 ⊢
  have q2 : Hb.1 222 = up2 H.1 222 l (nI (ow + w)) 222 := by rw [← hHb]; exact q2
  have q3 : ∀ m, Hb.1 223 m = if m = l then nI (we - w) else H.1 223 m := by rw [← hHb]; exact q3
  have q4 : Hb.1 224 = H.1 224 := by rw [← hHb]; exact q4
  obtain ⟨y, P, A, B, e2, my⟩ := m_free (h := Hb) (mT_24 oa ht) (by omega) hx (k203 _ oa) hK3 hd hK he
  refine ⟨(up2 (sw Hb 0 P A B).1 224 l y, (sw Hb 0 P A B).2), ?_, ?_, ?_, ?_, ?_, oa.tr (o24_sw.tr (o3 _ y))⟩
  · rw [e2, ob_s]
    dsimp only
    rw [wA_224 hl, ob_s]
  · show up2 (sw Hb 0 P A B).1 224 l y 222 l = _
    rw [up2_n (by decide)]
    show Hb.1 222 l = _
    rw [q2, u2_s]
  · show up2 (sw Hb 0 P A B).1 224 l y 223 l = _
    rw [up2_n (by decide)]
    show Hb.1 223 l = _
    rw [q3, if_pos rfl]
  · show MSK (up2 (sw Hb 0 P A B).1 224 l y 224 l) _
    rw [u2_s]
    exact my
  · intro m hm
    refine ⟨?_, ?_, ?_⟩
    · show up2 (sw Hb 0 P A B).1 224 l y 222 m = _
      rw [up2_n (by decide)]
      show Hb.1 222 m = _
      rw [q2, u2_i hm]
    · show up2 (sw Hb 0 P A B).1 224 l y 223 m = _
      rw [up2_n (by decide)]
      show Hb.1 223 m = _
      rw [q3, if_neg hm]
    · show up2 (sw Hb 0 P A B).1 224 l y 224 m = _
      rw [u2_i hm]
      show Hb.1 224 m = _
      rw [q4]
