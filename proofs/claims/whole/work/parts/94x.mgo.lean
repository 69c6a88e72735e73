/-! The model's walk is MT. -/
def RM (K : Nat → Nat) (h : HP) (os ot ow : Nat) (xs xt xw : TX) (rl : Nat → Bool) (w we dw : Nat → Nat) : Prop := mT h os xs ∧ mT h ot xt ∧ mT h ow xw ∧ xs.1 ≤ 60 ∧ xt.1 ≤ 60 ∧ xw.1 ≤ 60 ∧ os ≤ 1430 ∧ ot ≤ 1360 ∧ ow ≤ 1430 ∧ (∀ l, l < 8 → rl l = true → h.1 222 l = nI (ow + w l) ∧ h.1 223 l = nI (we l - w l) ∧ MSK (h.1 224 l) (fv xw.2.1 xw.2.2 (dw l) (w l)) ∧ we l ≤ xw.1 ∧ KD K xw.2.1 xw.2.2 (dw l) false (w l) (we l)) ∧ (∀ l, l < 8 → rl l = false → h.1 223 l = 0) ∧ ∀ f, f < 4 → K f ≤ 3
section
variable {K : Nat → Nat} {h : HP} {os ot ow : Nat} {xs xt xw : TX} {rl : Nat → Bool} {w we dw : Nat → Nat} {s w0 : Nat} {P : Nat → Nat → Int32} {A B : Nat → Int32}
theorem m_go (hR : RM K h os ot ow xs xt xw rl w we dw) {EE : Nat} (hEE : EE < 2 ^ 30) : ∀ (d : Nat) (bo : Int32) (b : Bool) (p e q e2 d2 : Nat) (bof : Nat → Bool), SP K xs.2.1 xs.2.2 s A B d bo b p e → e ≤ xs.1 → s ≤ p → os + e ≤ EE → KD K xt.2.1 xt.2.2 d2 b q e2 → e2 ≤ xt.1 → MSK bo bof → (MT K xs.2.1 xs.2.2 xt.2.1 xt.2.2 rl (fun l => fv xw.2.1 xw.2.2 (dw l) (w l)) (EQt xt xw w we) d b bof p q → ∀ r, s_AdjoinedSetsModel_replaced_12 (r + (e - p)) 200 (nI (os + s)) (nI EE) (nI (ot + q)) (nI (os + p)) (sw h w0 P A B) = s_AdjoinedSetsModel_replaced_12 r 200 (nI (os + s)) (nI EE) (nI (ot + e2)) (nI (os + e)) (sw h w0 P A B)) ∧ (¬ MT K xs.2.1 xs.2.2 xt.2.1 xt.2.2 rl (fun l => fv xw.2.1 xw.2.2 (dw l) (w l)) (EQt xt xw w we) d b bof p q → ∀ r, s_AdjoinedSetsModel_replaced_12 (r + (e - p)) 200 (nI (os + s)) (nI EE) (nI (ot + q)) (nI (os + p)) (sw h w0 P A B) = some (-1, sw h w0 P A B)) := by
  obtain ⟨ms, mt, mw, s60, t60, u60, o1, o2, o3, hW, hN, hK3⟩ := hR
  intro d
  induction d with
  | zero => intro bo b p e q e2 d2 bof hK; exact absurd hK (fun z => z)
  | succ d ih =>
    intro bo b p e q e2 d2 bof hSP he hsp hee hKt het hM
    have hpe := SP_lt hSP
    have hqe := KD_lt hKt
    have hSP0 := hSP
    obtain ⟨hA, hB, hbn, hpc⟩ := SP_v hSP
    have hfs := fs_1 (xs.2.1 p)
    have hple := spc_le _ _ _ _ hpc
    have hmp : h.1 201 (os + p) = xs.2.1 p := ms p (by omega)
    have hmq : h.1 201 (ot + q) = xt.2.1 q := mt q (by omega)
    show ((rpl xs.2.1 rl bof p → _) ∧ (¬ rpl xs.2.1 rl bof p → _) → _) ∧ (¬ ((rpl xs.2.1 rl bof p → _) ∧ (¬ rpl xs.2.1 rl bof p → _)) → _)
    by_cases hr : rpl xs.2.1 rl bof p
    · obtain ⟨hlet, hbo, hrl⟩ := hr
      have hl8 := (lw_n hlet).2
      have hb : b = false := by
        cases b with
        | false => rfl
        | true =>
          exfalso
          obtain ⟨j, j1, j2, hcj⟩ := lw_q hlet
          have hall : ∀ j, j < 105 → 97 ≤ j → ¬ (nI j = 60 ∨ nI j = 61) ∧ ¬ nI j = 33 ∧ ¬ (nI j = 94 ∨ nI j = 118 ∨ nI j = 62) ∧ ¬ (nI j = 69 ∨ nI j = 76) := by decide
          obtain ⟨y1, y2, y3, y4⟩ := hall j j2 j1
          rw [← hcj] at y1 y2 y3 y4
          rcases hSP0.2.2.2.2 with z | z | z | z
          · exact y1 z.1
          · exact y2 z.1
          · exact y3 z.1
          · exact y4 z.1
      subst hb
      have hep : e = p + 1 := by
        obtain ⟨j, j1, j2, hcj⟩ := lw_q hlet
        have hall : ∀ j, j < 105 → 97 ≤ j → arN K false (nI j) = 0 ∧ fsN (nI j) = 1 := by
          intro j z1 z2
          have hall : ∀ j, j < 105 → 97 ≤ j → ¬ (48 ≤ nI j ∧ nI j ≤ 57) ∧ (97 ≤ nI j ∧ nI j < 105) ∧ fsN (nI j) = 1 := by decide
          obtain ⟨y1, y2, y3⟩ := hall j z1 z2
          refine ⟨?_, y3⟩
          unfold arN
          dsimp only
          rw [if_neg y1, if_pos y2]
        obtain ⟨y1, y2⟩ := hall j j2 j1
        rw [← hcj] at y1 y2
        rw [y1, y2] at hpc
        have hpc : p + 1 = e := hpc
        omega
      subst hep
      rw [if_pos hlet] at hA
      obtain ⟨w1, w2, w3, w4, w5⟩ := hW _ hl8 hrl
      have wlt := KD_lt w5
      have hr : rpl xs.2.1 rl bof p := ⟨hlet, hbo, hrl⟩
      have hbo' : tb bo (lwN (h.1 201 (os + p))) = false := by rw [hmp, hM.2 _ hl8]; exact hbo
      have hlet' : 97 ≤ h.1 201 (os + p) ∧ h.1 201 (os + p) < 105 := by rw [hmp]; exact hlet
      have hst := fun r => rp_2 (h := h) (s := s) (w0 := w0) (P := P) (A := A) (B := B) (Q := ot + q) (o := os) (p := p) (EE := EE) (r := r) (n := we (lwN (xs.2.1 p)) - w (lwN (xs.2.1 p))) (wp := ow + w (lwN (xs.2.1 p))) (bo := bo) hsp (by omega) (by omega) (by omega) hEE hA hB hlet' hbo' (by rw [hmp]; exact w2) (by omega) (by omega) (by rw [hmp]; exact w1) (by omega) (by omega)
      rw [hmp] at hst
      have hand := MSK_and0 w3 hM
      have hlen : (∀ j, j < we (lwN (xs.2.1 p)) - w (lwN (xs.2.1 p)) → h.1 201 (ot + q + j) = h.1 201 (ow + w (lwN (xs.2.1 p)) + j)) → we (lwN (xs.2.1 p)) - w (lwN (xs.2.1 p)) = e2 - q := by
        intro y
        refine KD_pre _ _ _ _ _ _ _ w5 hKt (fun k z1 z2 => ?_)
        have := y k z1
        rw [Nat.add_assoc, Nat.add_assoc, mt (q + k) (by omega), mw (w (lwN (xs.2.1 p)) + k) (by omega)] at this
        exact this.symm
      have heqv : (∀ j, j < we (lwN (xs.2.1 p)) - w (lwN (xs.2.1 p)) → h.1 201 (ot + q + j) = h.1 201 (ow + w (lwN (xs.2.1 p)) + j)) ↔ EQt xt xw w we (lwN (xs.2.1 p)) q := by
        constructor
        · intro y j hj
          have hl := hlen y
          refine ⟨by omega, ?_⟩
          have := y j hj
          rw [Nat.add_assoc, Nat.add_assoc, mt (q + j) (by omega), mw (w (lwN (xs.2.1 p)) + j) (by omega)] at this
          exact this
        · intro y j hj
          obtain ⟨y1, y2⟩ := y j hj
          rw [Nat.add_assoc, Nat.add_assoc, mt (q + j) (by omega), mw (w (lwN (xs.2.1 p)) + j) (by omega)]
          exact y2
      rw [show p + 1 - p = 1 by omega]
      constructor
      · intro z r
        obtain ⟨z1, z2⟩ := z.1 hr
        have z3 := heqv.mpr z2
        rw [(hst r).1 ⟨by rw [Int32.and_comm]; exact hand.mpr z1, z3⟩, hlen z3, show ot + q + (e2 - q) = ot + e2 by omega]
      · intro z r
        refine (hst r).2 (fun y => z ⟨fun _ => ⟨hand.mp (by rw [Int32.and_comm]; exact y.1), heqv.mp y.2⟩, fun y => absurd hr y⟩)
    -- a head that stays
    have hd : ∀ r, s_AdjoinedSetsModel_replaced_12 (r + 1) 200 (nI (os + s)) (nI EE) (nI (ot + q)) (nI (os + p)) (sw h w0 P A B) = if xt.2.1 q = xs.2.1 p then s_AdjoinedSetsModel_replaced_12 r 200 (nI (os + s)) (nI EE) (nI (ot + (q + 1))) (nI (os + (p + 1))) (sw h w0 P A B) else some (-1, sw h w0 P A B) := by
      intro r
      rw [← hmq, ← hmp]
      by_cases hlet : 97 ≤ xs.2.1 p ∧ xs.2.1 p < 105
      · rw [if_pos hlet] at hA
        have hl8 := (lw_n hlet).2
        refine rp_1 (bo := bo) hsp (by omega) (by omega) (by omega) hEE (by omega) hA hB (by rw [hmp]; exact hlet) ?_
        rw [hmp]
        by_cases hbo : bof (lwN (xs.2.1 p)) = true
        · exact Or.inl (by rw [hM.2 _ hl8]; exact hbo)
        · refine Or.inr (hN _ hl8 ?_)
          cases hq : rl (lwN (xs.2.1 p)) with
          | false => rfl
          | true =>
            refine absurd ⟨hlet, ?_, hq⟩ hr
            cases hq2 : bof (lwN (xs.2.1 p)) with
            | false => rfl
            | true => exact absurd hq2 hbo
      · rw [if_neg hlet] at hA
        exact rp_0 hsp (by omega) (by omega) (by omega) hEE (by omega) hA
    by_cases hq0 : xt.2.1 q = xs.2.1 p
    rotate_left
    · refine ⟨fun z => absurd (z.2 hr).1.symm hq0, fun _ r => ?_⟩
      rw [show r + (e - p) = (r + (e - p) - 1) + 1 by omega, hd, if_neg hq0]
    have hpt : ∃ d3, pc (KD K xt.2.1 xt.2.2 d3) (kdB b (xs.2.1 p)) (arN K b (xs.2.1 p)) 0 (q + fsN (xs.2.1 p)) e2 := by
      cases d2 with
      | zero => exact absurd hKt (fun z => z)
      | succ d2 =>
        obtain ⟨_, _, _, hpc2⟩ := KD_v hKt
        rw [hq0] at hpc2
        exact ⟨d2, hpc2⟩
    have hqle : q + fsN (xs.2.1 p) ≤ e2 := by
      obtain ⟨d3, z⟩ := hpt
      exact pc_le _ _ _ _ z
    -- the whole head
    have hd2 : (bn4 (xs.2.1 p) → xs.2.1 (p + 1) = xt.2.1 (q + 1)) → ∀ r, s_AdjoinedSetsModel_replaced_12 (r + fsN (xs.2.1 p)) 200 (nI (os + s)) (nI EE) (nI (ot + q)) (nI (os + p)) (sw h w0 P A B) = s_AdjoinedSetsModel_replaced_12 r 200 (nI (os + s)) (nI EE) (nI (ot + (q + fsN (xs.2.1 p)))) (nI (os + (p + fsN (xs.2.1 p)))) (sw h w0 P A B) := by
      intro hb2 r
      by_cases h4 : bn4 (xs.2.1 p)
      · obtain ⟨_, a1⟩ := hbn h4
        have hf2 := fs_b h4
        rw [hf2, show r + 2 = (r + 1) + 1 from rfl, hd, if_pos hq0, rp_0 (p := p + 1) (by omega) (by omega) (by omega) (by omega) hEE (by omega) a1, mt (q + 1) (by omega), ms (p + 1) (by omega), if_pos (hb2 h4).symm]
        rfl
      · rw [fs_n h4, hd, if_pos hq0]
    by_cases hb2 : bn4 (xs.2.1 p) → xs.2.1 (p + 1) = xt.2.1 (q + 1)
    rotate_left
    · refine ⟨fun z => absurd (z.2 hr).2.1 hb2, fun _ r => ?_⟩
      have h4 : bn4 (xs.2.1 p) := Classical.byContradiction (fun h4 => hb2 (fun z => absurd z h4))
      have hne : ¬ xt.2.1 (q + 1) = xs.2.1 (p + 1) := fun z => hb2 (fun _ => z.symm)
      obtain ⟨_, a1⟩ := hbn h4
      have hf2 := fs_b h4
      rw [show r + (e - p) = ((r + (e - p) - 2) + 1) + 1 by omega, hd, if_pos hq0, rp_0 (p := p + 1) (by omega) (by omega) (by omega) (by omega) hEE (by omega) a1, mt (q + 1) (by omega), ms (p + 1) (by omega), if_neg hne]
    have hM1 : MSK (bI1 xs.2.1 bo p) (bo1 xs.2.1 bof p) := by
      unfold bI1 bo1
      by_cases h4 : xs.2.1 p = 123 ∨ xs.2.1 p = 73 ∨ xs.2.1 p = 69 ∨ xs.2.1 p = 76
      · rw [if_pos h4]
        refine MSK_c (MSK_or hM (MSK_bit (lw_n (hbn h4).1).2)) (fun l _ => ?_)
        rw [if_pos h4]
      · rw [if_neg h4]
        refine MSK_c hM (fun l _ => ?_)
        rw [if_neg h4, Bool.or_false]
    have parts : ∀ (m i p' q' : Nat), spc (SP K xs.2.1 xs.2.2 s A B d) (kdB b (xs.2.1 p)) bo (bI1 xs.2.1 bo p) m i p' e → (∃ d3, pc (KD K xt.2.1 xt.2.2 d3) (kdB b (xs.2.1 p)) m i q' e2) → p < p' → (MTP (MT K xs.2.1 xs.2.2 xt.2.1 xt.2.2 rl (fun l => fv xw.2.1 xw.2.2 (dw l) (w l)) (EQt xt xw w we) d) xs.2.2 xt.2.2 (kdB b (xs.2.1 p)) bof (bo1 xs.2.1 bof p) m i p' q' → ∀ r, s_AdjoinedSetsModel_replaced_12 (r + (e - p')) 200 (nI (os + s)) (nI EE) (nI (ot + q')) (nI (os + p')) (sw h w0 P A B) = s_AdjoinedSetsModel_replaced_12 r 200 (nI (os + s)) (nI EE) (nI (ot + e2)) (nI (os + e)) (sw h w0 P A B)) ∧ (¬ MTP (MT K xs.2.1 xs.2.2 xt.2.1 xt.2.2 rl (fun l => fv xw.2.1 xw.2.2 (dw l) (w l)) (EQt xt xw w we) d) xs.2.2 xt.2.2 (kdB b (xs.2.1 p)) bof (bo1 xs.2.1 bof p) m i p' q' → ∀ r, s_AdjoinedSetsModel_replaced_12 (r + (e - p')) 200 (nI (os + s)) (nI EE) (nI (ot + q')) (nI (os + p')) (sw h w0 P A B) = some (-1, sw h w0 P A B)) := by
      intro m
      induction m with
      | zero =>
        intro i p' q' z1 z2 hpp
        have z1 : p' = e := z1
        obtain ⟨d3, z2⟩ := z2
        have z2 : q' = e2 := z2
        subst z1
        subst z2
        refine ⟨fun _ r => ?_, fun z => absurd trivial z⟩
        rw [Nat.sub_self]
        rfl
      | succ m ih2 =>
        intro i p' q' z1 z2 hpp
        obtain ⟨r1, k1, k2⟩ := z1
        obtain ⟨d3, r2, k3, k4⟩ := z2
        have l1 := SP_lt k1
        have l2 := spc_le _ _ _ _ k2
        have l3 := KD_lt k3
        have l4 := pc_le _ _ _ _ k4
        have hMi : MSK (if i = 1 then bI1 xs.2.1 bo p else bo) (if i = 1 then bo1 xs.2.1 bof p else bof) := by
          by_cases hi1 : i = 1
          · rw [if_pos hi1, if_pos hi1]; exact hM1
          · rw [if_neg hi1, if_neg hi1]; exact hM
        obtain ⟨g1, g2⟩ := ih (if i = 1 then bI1 xs.2.1 bo p else bo) (kdB b (xs.2.1 p) i) p' r1 q' r2 d3 (if i = 1 then bo1 xs.2.1 bof p else bof) k1 (by omega) (by omega) (by omega) k3 (by omega) hMi
        obtain ⟨i1, i2⟩ := ih2 (i + 1) r1 r2 k2 ⟨d3, k4⟩ (by omega)
        have he1 : (xs.2.2 p').toNatClampNeg = r1 := nI_cl (SP_end k1) (by omega)
        have he2 : (xt.2.2 q').toNatClampNeg = r2 := nI_cl (KD_end k3) (by omega)
        have hsp : ∀ r, r + (e - p') = (r + (e - r1)) + (r1 - p') := fun r => by omega
        by_cases hm : MT K xs.2.1 xs.2.2 xt.2.1 xt.2.2 rl (fun l => fv xw.2.1 xw.2.2 (dw l) (w l)) (EQt xt xw w we) d (kdB b (xs.2.1 p) i) (if i = 1 then bo1 xs.2.1 bof p else bof) p' q'
        · refine ⟨fun z r => ?_, fun z r => ?_⟩
          · have z2 := z.2
            rw [he1, he2] at z2
            rw [hsp, g1 hm, i1 z2]
          · rw [hsp, g1 hm, i2 (fun y => z ⟨hm, by rw [he1, he2]; exact y⟩)]
        · refine ⟨fun z => absurd z.1 hm, fun z r => ?_⟩
          rw [hsp, g2 hm]
    obtain ⟨p1, p2⟩ := parts _ 0 _ _ hpc hpt (by omega)
    have hsp2 : ∀ r, r + (e - p) = (r + (e - (p + fsN (xs.2.1 p)))) + fsN (xs.2.1 p) := fun r => by omega
    refine ⟨fun z r => ?_, fun z r => ?_⟩
    · rw [hsp2, hd2 hb2, p1 (z.2 hr).2.2]
    · rw [hsp2, hd2 hb2, p2 (fun y => z ⟨fun x => absurd x hr, fun _ => ⟨hq0.symm, hb2, y⟩⟩)]
/-- what replaced answers -/
theorem m_replaced (hR : RM K h os ot ow xs xt xw rl w we dw) (hKm : ∀ f, f < 4 → h.1 203 f = nI (K f)) {d d2 : Nat} {b : Bool} {p e q e2 : Nat} (hd : d ≤ 12) (hK : KD K xs.2.1 xs.2.2 d b p e) (he : e ≤ xs.1) (hKt : KD K xt.2.1 xt.2.2 d2 b q e2) (het : e2 ≤ xt.1) : ∃ P A B, (MT K xs.2.1 xs.2.2 xt.2.1 xt.2.2 rl (fun l => fv xw.2.1 xw.2.2 (dw l) (w l)) (EQt xt xw w we) d b (fun _ => false) p q → s_AdjoinedSetsModel_replaced 200 (nI (os + p)) (nI (ot + q)) h = some (nI (ot + e2), sw h 0 P A B)) ∧ (¬ MT K xs.2.1 xs.2.2 xt.2.1 xt.2.2 rl (fun l => fv xw.2.1 xw.2.2 (dw l) (w l)) (EQt xt xw w we) d b (fun _ => false) p q → s_AdjoinedSetsModel_replaced 200 (nI (os + p)) (nI (ot + q)) h = some (-1, sw h 0 P A B)) := by
  obtain ⟨ms, mt, mw, s60, t60, u60, o1, o2, o3, hW, hN, hK3⟩ := hR
  obtain ⟨P, A, B, e1, sp⟩ := m_scan ms (by omega) s60 hKm hK3 hd hK he
  have l := KD_lt hK
  have hgo := m_go (w0 := 0) (P := P) ⟨ms, mt, mw, s60, t60, u60, o1, o2, o3, hW, hN, hK3⟩ (EE := os + e) (by omega) d 0 b p e q e2 d2 (fun _ => false) sp he (Nat.le_refl _) (Nat.le_refl _) hKt het MSK_0
  refine ⟨P, A, B, ?_⟩
  unfold s_AdjoinedSetsModel_replaced
  rw [rK_200, ob_s, e1, ob_s]
  dsimp only
  refine ⟨fun z => ?_, fun z => ?_⟩
  · have e3 := hgo.1 z (20000 - (e - p))
    rw [show 20000 - (e - p) + (e - p) = 20000 by omega] at e3
    rw [e3, show 20000 - (e - p) = (20000 - (e - p) - 1) + 1 by omega, s_AdjoinedSetsModel_replaced_12]
    dsimp only
    rw [if_pos (nI_le (Nat.le_refl _) (by omega))]
  · have e3 := hgo.2 z (20000 - (e - p))
    rw [show 20000 - (e - p) + (e - p) = 20000 by omega] at e3
    exact e3
end
