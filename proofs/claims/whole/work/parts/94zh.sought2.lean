/-! Rule 10: the class's walk with a letter that is sought. -/
section
variable {K : Nat → Nat} {h : HP} {s t : Nat} {xs xt : TX} {l0 : Nat}
theorem c_sk (hR : RCs K h s t xs xt l0) : ∀ (d : Nat) (b : Bool) (p e D g q e2 d2 : Nat) (M : Int32) (bo : Nat → Bool), KD K xs.2.1 xs.2.2 d b p e → e ≤ xs.1 → KD K xt.2.1 xt.2.2 d2 b q e2 → e2 ≤ xt.1 → d2 ≤ 12 → d + D ≤ 13 → d ≤ g → 1 ≤ D → MSK M bo → (foc K xs.2.1 xs.2.2 l0 d b bo p = none → (MTn K xs xt d b bo p q → s_grp_Replacement_goesOn g 11 s (nI p) t M (nI D) (nw h (nI q)) = some (1, nw h (nI e2))) ∧ (¬ MTn K xs xt d b bo p q → ∃ h', s_grp_Replacement_goesOn g 11 s (nI p) t M (nI D) (nw h (nI q)) = some (0, h') ∧ kq h h')) ∧ (∀ x, foc K xs.2.1 xs.2.2 l0 d b bo p = some x → ((∀ j, j < x - p → xs.2.1 (p + j) = xt.2.1 (q + j)) → (MTw K xs xt l0 (q + (x - p)) d b bo p q → s_grp_Replacement_goesOn g 11 s (nI p) t M (nI D) (nw h (nI q)) = some (1, nw (hw13 h l0 (q + (x - p))) (nI e2))) ∧ (¬ MTw K xs xt l0 (q + (x - p)) d b bo p q → ∃ h', s_grp_Replacement_goesOn g 11 s (nI p) t M (nI D) (nw h (nI q)) = some (0, h') ∧ kq h h')) ∧ (¬ (∀ j, j < x - p → xs.2.1 (p + j) = xt.2.1 (q + j)) → ∃ h', s_grp_Replacement_goesOn g 11 s (nI p) t M (nI D) (nw h (nI q)) = some (0, h') ∧ kq h h')) := by
  have hR0 := hR
  obtain ⟨cs, es, ct, et, okt, hu, hst, hK3, hl0⟩ := hR
  have s60 := cs.1.2.2
  have t60 := ct.1.2.2
  have hs100 : 100 ≤ s := cs.1.1.1
  have ht100 : 100 ≤ t := ct.1.1.1
  intro d
  induction d with
  | zero => intro b p e D g q e2 d2 M bo hK; exact absurd hK (fun z => z)
  | succ d ih =>
    intro b p e D g q e2 d2 M bo hK he hKt het hd2 hD hg hD1 hM
    obtain ⟨g, rfl⟩ : ∃ g0, g = g0 + 1 := ⟨g - 1, by omega⟩
    have hpe := KD_lt hK
    have hqe := KD_lt hKt
    obtain ⟨hend, _, hL, hpc⟩ := KD_v hK
    have hfs := fs_1 (xs.2.1 p)
    have hple := pc_le _ _ _ _ hpc
    have e0 : s_grp_Replacement_goesOn (g + 1) 11 s (nI p) t M (nI D) (nw h (nI q)) = s_Replacement_goesOn (s_grp_Replacement_goesOn g) 11 s (nI p) t M (nI D) (nw h (nI q)) := rfl
    rw [e0]
    have kn : ∀ v, kq h (nw h v) := fun v => kq_nw (kq.rf h)
    have kh : ∀ w0 v, kq h (nw (hw13 h l0 w0) v) := fun w0 v => kq_nw kq_13
    unfold s_Replacement_goesOn
    rw [if_pos (show nI D ≤ 12 from nI_le (b := 12) (by omega) (by omega)), t_kd cs.1.1, ob_s, at_h (cT_nw cs) (by omega), ob_s, s_let]
    by_cases hr : rpl xs.2.1 (rlS l0) bo p
    · -- here it is
      have hr0 := hr
      obtain ⟨hlet, hbo, hrl⟩ := hr
      have hl8 := (lw_n hlet).2
      have hll : lwN (xs.2.1 p) = l0 := of_decide_eq_true hrl
      rw [foc_1 hr0]
      refine ⟨fun z => (by cases z), fun x hx => ?_⟩
      have hx := Option.some.inj hx
      subst hx
      rw [Nat.sub_self, Nat.add_zero]
      refine ⟨fun _ => ?_, fun z => absurd (fun j hj => absurd hj (by omega)) z⟩
      have hb : b = false := by
        cases b with
        | false => rfl
        | true =>
          exfalso
          obtain ⟨j, j1, j2, hcj⟩ := lw_q hlet
          have hall : ∀ j, j < 105 → 97 ≤ j → ¬ (nI j = 60 ∨ nI j = 61) ∧ ¬ nI j = 33 ∧ ¬ (nI j = 94 ∨ nI j = 118 ∨ nI j = 62) ∧ ¬ (nI j = 69 ∨ nI j = 76) := by decide
          obtain ⟨y1, y2, y3, y4⟩ := hall j j2 j1
          rw [← hcj] at y1 y2 y3 y4
          rcases hK.2.2 with z | z | z | z
          · exact y1 z.1
          · exact y2 z.1
          · exact y3 z.1
          · exact y4 z.1
      subst hb
      have hKt12 : KD K xt.2.1 xt.2.2 12 false q e2 := KD_up hd2 hKt
      have hR2 := RC_13 (w0 := q) hR0 hKt12 het
      have cu := hR2.2.2.2.2.1
      have eu := hR2.2.2.2.2.2.1
      have hwE : (xt.2.2 q).toNatClampNeg = e2 := nI_cl (KD_end hKt) (by omega)
      have hset : (up2 (nw h (nI q)).1 13 l0 (nI q), (nw h (nI q)).2) = nw (hw13 h l0 q) (nI q) := by
        refine Prod.ext ?_ rfl
        funext a c
        show up2 (up2 h.1 11 2 (nI q)) 13 l0 (nI q) a c = up2 (up2 h.1 13 l0 (nI q)) 11 2 (nI q) a c
        unfold up2
        by_cases c1 : a = 13
        · have : ¬ a = 11 := by omega
          simp [c1]
        · simp [c1]
      have h13 : (hw13 h l0 q).1 13 l0 = nI q := by
        show up2 h.1 13 l0 (nI q) 13 l0 = _
        exact u2_s
      obtain ⟨yf, f1, f2⟩ := c_free hK3 (cT_nw (v := nI q) cu) (cE_nw ht100 eu) 12 false q e2 1 13 hKt12 het (by omega) (by omega)
      have hterms : gR (nw (hw13 h l0 q) (nI q)) 11 5 1 = some t := by rw [rR_11_1]; exact congrArg some hu
      have hh := c_hs (cT_nw (v := nI q) cu) (cT_nw (v := nI q) cu) okt (a := q) (f := q) (to := e2) (by omega) het (by omega)
      have hre : eqt xt.1 xt.2.1 q xt.2.1 q (e2 - q) := fun j hj => ⟨by omega, rfl⟩
      have hand := MSK_and0 f2 hM
      have n2 : ¬ ((-2 : Int32) = -1) := by decide
      rw [if_pos hlet, ob_s, if_neg (by decide), (lw_n hlet).1, if_pos ((tb_sh M hl8).mpr (by rw [hM.2 _ hl8]; exact hbo)), rR_11_0, ob_s, rA_13 hl8, ob_s, nw_I (by decide), hst _ hl8, if_pos hll, if_neg n2, rK_11, ob_s]
      unfold s_Replacement_termComes s_Replacement_termComes_21
      rw [rR_11_0, ob_s, rA_13 hl8, ob_s, nw_I (by decide), hst _ hl8, if_pos hll, if_pos rfl, ob_s, rI_11_2, ob_s, nw_2, wA_13 hl8, ob_s, hll, hset, rR_11_0, ob_s, rA_13 hl0, ob_s, nw_I (by decide), h13, hterms, ob_s, t_kd cu.1.1, ob_s, end_h (cT_nw cu) (cE_nw ht100 eu) (by omega), ob_s, KD_end hKt, ob_s, t_kd cu.1.1, ob_s, show s_grp_Text_freeIn 13 t (nI q) 1 (nw (hw13 h l0 q) (nI q)) = some yf from f1, ob_s]
      have hMTw : MTw K xs xt l0 q (d + 1) false bo p q ↔ ∀ l, l < 8 → fv xt.2.1 xt.2.2 12 q l = true → bo l = false := by
        constructor
        · intro z
          exact (z.1 hr0).1
        · intro z
          refine ⟨fun _ => ⟨z, ?_⟩, fun y => absurd hr0 y⟩
          show eqt xt.1 xt.2.1 q xt.2.1 q ((xt.2.2 q).toNatClampNeg - q)
          rw [hwE]
          exact hre
      by_cases hfree : ∀ l, l < 8 → fv xt.2.1 xt.2.2 12 q l = true → bo l = false
      · rw [if_pos (hand.mpr hfree), rI_11_2, ob_s, nw_2, ob_s, ob_s, hh.1 hre, ob_s, if_neg (by decide), ob_s, pk_sub (by omega), nI_add, wI_11_2, ob_s, nw_s, ob_s, show q + (e2 - q) = e2 by omega]
        exact ⟨fun _ => rfl, fun z => absurd (hMTw.mpr hfree) z⟩
      · rw [if_neg (fun z => hfree (hand.mp z)), ob_s]
        exact ⟨fun z => absurd (hMTw.mp z) hfree, fun _ => ⟨_, rfl, kh _ _⟩⟩
    -- a head that stays
    have hr2 : ¬ rpl xs.2.1 (fun _ => false) bo p := fun z => Bool.noConfusion z.2.2
    rw [foc_0 hr]
    have hxr : ∀ x, focP (foc K xs.2.1 xs.2.2 l0 d) xs.2.2 (kdB b (xs.2.1 p)) bo (bo1 xs.2.1 bo p) (arN K b (xs.2.1 p)) 0 (p + fsN (xs.2.1 p)) = some x → p + fsN (xs.2.1 p) ≤ x := by
      intro x hx
      have : ∀ (m i p' : Nat), pc (KD K xs.2.1 xs.2.2 d) (kdB b (xs.2.1 p)) m i p' e → focP (foc K xs.2.1 xs.2.2 l0 d) xs.2.2 (kdB b (xs.2.1 p)) bo (bo1 xs.2.1 bo p) m i p' = some x → p' ≤ x := by
        intro m
        induction m with
        | zero => intro i p' _ z; rw [focP] at z; cases z
        | succ m ih2 =>
          intro i p' z1 z3
          obtain ⟨r1, k1, k2⟩ := z1
          have l1 := KD_lt k1
          have l2 := pc_le _ _ _ _ k2
          rw [focP] at z3
          dsimp only at z3
          cases hf : foc K xs.2.1 xs.2.2 l0 d (kdB b (xs.2.1 p) i) (if i = 1 then bo1 xs.2.1 bo p else bo) p' with
          | some y =>
            rw [hf] at z3
            have hy := Option.some.inj z3
            subst hy
            exact (foc_rg _ _ _ _ _ _ k1 (by omega) hf).1
          | none =>
            rw [hf] at z3
            dsimp only at z3
            rw [nI_cl (KD_end k1) (by omega)] at z3
            have := ih2 (i + 1) r1 k2 z3
            omega
      exact this _ _ _ hpc hx
    -- it is asked of _64
    have h64 : (some (if 97 ≤ xs.2.1 p ∧ xs.2.1 p < 105 then (1 : Int32) else 0)).bind (fun q4 => if q4 = 0 then s_Replacement_goesOn_64 (s_grp_Replacement_goesOn g) 11 s (nI p) t M (nI D) (nw h (nI q)) else (if ((M >>> ((xs.2.1 p - 97) &&& 31)) &&& 1) = 0 then (gR (nw h (nI q)) 11 5 0).bind fun v7 => (aI (nw h (nI q)) v7 0 (xs.2.1 p - 97)).bind fun v9 => if v9 = -1 then s_Replacement_goesOn_64 (s_grp_Replacement_goesOn g) 11 s (nI p) t M (nI D) (nw h (nI q)) else (kd 11 5).bind fun _ => (s_Replacement_termComes 11 (xs.2.1 p - 97) t M (nw h (nI q))).bind fun q12 => (zr q12.1).bind fun _ => some (q12.1, q12.2) else s_Replacement_goesOn_64 (s_grp_Replacement_goesOn g) 11 s (nI p) t M (nI D) (nw h (nI q)))) = s_Replacement_goesOn_64 (s_grp_Replacement_goesOn g) 11 s (nI p) t M (nI D) (nw h (nI q)) := by
      by_cases hlet : 97 ≤ xs.2.1 p ∧ xs.2.1 p < 105
      rotate_left
      · rw [if_neg hlet, ob_s, if_pos rfl]
      have hl8 := (lw_n hlet).2
      rw [if_pos hlet, ob_s, if_neg (by decide), (lw_n hlet).1]
      by_cases hbo : bo (lwN (xs.2.1 p)) = false
      rotate_left
      · rw [if_neg (fun z => hbo (by rw [← hM.2 _ hl8]; exact (tb_sh M hl8).mp z))]
      have hne : ¬ lwN (xs.2.1 p) = l0 := fun z => hr ⟨hlet, hbo, decide_eq_true z⟩
      rw [if_pos ((tb_sh M hl8).mpr (by rw [hM.2 _ hl8]; exact hbo)), rR_11_0, ob_s, rA_13 hl8, ob_s, nw_I (by decide), hst _ hl8, if_neg hne, if_pos rfl]
    rw [h64]
    unfold s_Replacement_goesOn_64
    have hh := c_hs (cT_nw (v := nI q) ct) (cT_nw (v := nI q) cs) okt (a := q) (f := p) (to := p + fsN (xs.2.1 p)) (by omega) (by omega) (by omega)
    rw [show p + fsN (xs.2.1 p) - p = fsN (xs.2.1 p) by omega] at hh
    rw [t_kd cs.1.1, ob_s, fp_v (cT_nw cs) (by omega), ob_s, rI_11_2, ob_s, nw_2, t_kd ct.1.1, ob_s]
    by_cases hhd : eqt xt.1 xt.2.1 q xs.2.1 p (fsN (xs.2.1 p))
    rotate_left
    · -- another head
      rw [hh.2 hhd, ob_s, if_pos rfl]
      have nohead : ¬ (xs.2.1 p = xt.2.1 q ∧ (bn4 (xs.2.1 p) → xs.2.1 (p + 1) = xt.2.1 (q + 1))) := by
        intro z
        refine hhd (fun j hj => ?_)
        by_cases hj0 : j = 0
        · subst hj0
          exact ⟨by omega, z.1.symm⟩
        · have h4 : bn4 (xs.2.1 p) := by
            apply Classical.byContradiction
            intro h4
            have : fsN (xs.2.1 p) = 1 := fs_n h4
            omega
          have hj1 : j = 1 := by omega
          subst hj1
          refine ⟨?_, (z.2 h4).symm⟩
          cases d2 with
          | zero => exact absurd hKt (fun z => z)
          | succ d2 =>
            obtain ⟨_, _, _, hpc2⟩ := KD_v hKt
            rw [← z.1] at hpc2
            have := pc_le _ _ _ _ hpc2
            have : fsN (xs.2.1 p) = 2 := fs_b h4
            omega
      have no : ∃ h', (some ((0 : Int32), nw h (nI q)) : Option (Int32 × HP)) = some (0, h') ∧ kq h h' := ⟨_, rfl, kn _⟩
      refine ⟨fun _ => ⟨fun z => absurd ⟨(z.2 hr2).1, (z.2 hr2).2.1⟩ nohead, fun _ => no⟩, fun x hx => ⟨fun hpre => ?_, fun _ => no⟩⟩
      have := hxr x hx
      refine absurd ⟨hpre 0 (by omega), fun h4 => ?_⟩ nohead
      have := fs_b h4
      exact hpre 1 (by omega)
    have hq0 : xs.2.1 p = xt.2.1 q := (hhd 0 (by omega)).2.symm
    have hq1 : bn4 (xs.2.1 p) → xs.2.1 (p + 1) = xt.2.1 (q + 1) := by
      intro h4
      have : fsN (xs.2.1 p) = 2 := fs_b h4
      exact (hhd 1 (by omega)).2.symm
    rw [hh.1 hhd, ob_s, if_neg (by decide), ob_s, pk_sub (by omega), nI_add, wI_11_2, ob_s, nw_s, ob_s, end_h (cT_nw cs) (cE_nw hs100 es) (by omega), ob_s, hend, show q + (p + fsN (xs.2.1 p) - p) = q + fsN (xs.2.1 p) by omega]
    obtain ⟨y, hy1, hy2⟩ := bb_v (h := h) cs (p := p) (by omega) hL
    have hyn : ∀ v, s_Text_boundBy s (nI p) (nw h v) = some y := by
      intro v
      obtain ⟨y', z1, z2⟩ := bb_v (h := nw h v) (cT_nw cs) (p := p) (by omega) hL
      rw [z1, MSK_eq z2 hy2]
    have hyn2 : ∀ w0 v, s_Text_boundBy s (nI p) (nw (hw13 h l0 w0) v) = some y := by
      intro w0 v
      obtain ⟨y', z1, z2⟩ := bb_v (h := nw (hw13 h l0 w0) v) (cT_nw (cT_13 cs)) (p := p) (by omega) hL
      rw [z1, MSK_eq z2 hy2]
    have hM1 : MSK (M ||| y) (bo1 xs.2.1 bo p) := MSK_or hM hy2
    have har : arN K b (xs.2.1 p) ≤ 3 := by
      unfold arN
      cases b with
      | true => dsimp only; split <;> omega
      | false =>
        dsimp only
        split
        · omega
        · split
          · omega
          · split
            · rename_i hf
              exact hK3 _ (fn_n hf).2
            · split <;> omega
    have hpt : ∃ d3, d3 ≤ 12 ∧ pc (KD K xt.2.1 xt.2.2 d3) (kdB b (xs.2.1 p)) (arN K b (xs.2.1 p)) 0 (q + fsN (xs.2.1 p)) e2 := by
      cases d2 with
      | zero => exact absurd hKt (fun z => z)
      | succ d2 =>
        obtain ⟨_, _, _, hpc2⟩ := KD_v hKt
        rw [← hq0] at hpc2
        exact ⟨d2, by omega, hpc2⟩
    -- the parts
    have parts : ∀ (m i p' q' r : Nat), pc (KD K xs.2.1 xs.2.2 d) (kdB b (xs.2.1 p)) m i p' e → (∃ d3, d3 ≤ 12 ∧ pc (KD K xt.2.1 xt.2.2 d3) (kdB b (xs.2.1 p)) m i q' e2) → i + m ≤ 3 → m < r → p < p' → (focP (foc K xs.2.1 xs.2.2 l0 d) xs.2.2 (kdB b (xs.2.1 p)) bo (bo1 xs.2.1 bo p) m i p' = none → (MTP (MTn K xs xt d) xs.2.2 xt.2.2 (kdB b (xs.2.1 p)) bo (bo1 xs.2.1 bo p) m i p' q' → s_Replacement_goesOn_111 (s_grp_Replacement_goesOn g) r 11 s (nI p) t M (nI D) (nI p') (nI e) (nI i) (nw h (nI q')) = some (1, nw h (nI e2))) ∧ (¬ MTP (MTn K xs xt d) xs.2.2 xt.2.2 (kdB b (xs.2.1 p)) bo (bo1 xs.2.1 bo p) m i p' q' → ∃ h', s_Replacement_goesOn_111 (s_grp_Replacement_goesOn g) r 11 s (nI p) t M (nI D) (nI p') (nI e) (nI i) (nw h (nI q')) = some (0, h') ∧ kq h h')) ∧ (∀ x, focP (foc K xs.2.1 xs.2.2 l0 d) xs.2.2 (kdB b (xs.2.1 p)) bo (bo1 xs.2.1 bo p) m i p' = some x → p' ≤ x ∧ ((∀ j, j < x - p' → xs.2.1 (p' + j) = xt.2.1 (q' + j)) → (MTP (MTw K xs xt l0 (q' + (x - p')) d) xs.2.2 xt.2.2 (kdB b (xs.2.1 p)) bo (bo1 xs.2.1 bo p) m i p' q' → s_Replacement_goesOn_111 (s_grp_Replacement_goesOn g) r 11 s (nI p) t M (nI D) (nI p') (nI e) (nI i) (nw h (nI q')) = some (1, nw (hw13 h l0 (q' + (x - p'))) (nI e2))) ∧ (¬ MTP (MTw K xs xt l0 (q' + (x - p')) d) xs.2.2 xt.2.2 (kdB b (xs.2.1 p)) bo (bo1 xs.2.1 bo p) m i p' q' → ∃ h', s_Replacement_goesOn_111 (s_grp_Replacement_goesOn g) r 11 s (nI p) t M (nI D) (nI p') (nI e) (nI i) (nw h (nI q')) = some (0, h') ∧ kq h h')) ∧ (¬ (∀ j, j < x - p' → xs.2.1 (p' + j) = xt.2.1 (q' + j)) → ∃ h', s_Replacement_goesOn_111 (s_grp_Replacement_goesOn g) r 11 s (nI p) t M (nI D) (nI p') (nI e) (nI i) (nw h (nI q')) = some (0, h') ∧ kq h h')) := by
      intro m
      induction m with
      | zero =>
        intro i p' q' r z1 z2 h3 hr3 hpp
        obtain ⟨r, rfl⟩ : ∃ r0, r = r0 + 1 := ⟨r - 1, by omega⟩
        have z1 : p' = e := z1
        obtain ⟨d3, _, z2⟩ := z2
        have z2 : q' = e2 := z2
        subst z1
        subst z2
        refine ⟨fun _ => ⟨fun _ => g111_0 (by omega) (by omega), fun z => absurd trivial z⟩, fun x hx => ?_⟩
        rw [focP] at hx
        cases hx
      | succ m ih2 =>
        intro i p' q' r z1 z2 h3 hr3 hpp
        obtain ⟨r, rfl⟩ : ∃ r0, r = r0 + 1 := ⟨r - 1, by omega⟩
        obtain ⟨r1, k1, k2⟩ := z1
        obtain ⟨d3, hd3, r2, k3, k4⟩ := z2
        have l1 := KD_lt k1
        have l2 := pc_le _ _ _ _ k2
        have l3 := KD_lt k3
        have l4 := pc_le _ _ _ _ k4
        have hMi : MSK (if i = 1 then M ||| y else M) (if i = 1 then bo1 xs.2.1 bo p else bo) := by
          by_cases hi1 : i = 1
          · rw [if_pos hi1, if_pos hi1]; exact hM1
          · rw [if_neg hi1, if_neg hi1]; exact hM
        have he1 : (xs.2.2 p').toNatClampNeg = r1 := nI_cl (KD_end k1) (by omega)
        have he2 : (xt.2.2 q').toNatClampNeg = r2 := nI_cl (KD_end k3) (by omega)
        obtain ⟨ga, gb⟩ := ih (kdB b (xs.2.1 p) i) p' r1 (D + 1) g q' r2 d3 (if i = 1 then M ||| y else M) (if i = 1 then bo1 xs.2.1 bo p else bo) k1 (by omega) k3 (by omega) hd3 (by omega) (by omega) (by omega) hMi
        rw [g111_1 cs.1.1 (by omega) (by omega) (by omega) (hyn _)]
        rw [focP]
        dsimp only
        cases hf : foc K xs.2.1 xs.2.2 l0 d (kdB b (xs.2.1 p) i) (if i = 1 then bo1 xs.2.1 bo p else bo) p' with
        | none =>
          dsimp only
          rw [he1]
          obtain ⟨g1, g2⟩ := ga hf
          obtain ⟨ia, ib⟩ := ih2 (i + 1) r1 r2 r k2 ⟨d3, hd3, k4⟩ (by omega) (by omega) (by omega)
          obtain ⟨sm1, sm2⟩ := MT_same (K := K) (ff := fun _ _ => false) (EQ := fun _ _ => False) d d3 (kdB b (xs.2.1 p) i) (if i = 1 then bo1 xs.2.1 bo p else bo) p' r1 q' r2 k1 (by omega) k3 (by omega)
          by_cases hm : MTn K xs xt d (kdB b (xs.2.1 p) i) (if i = 1 then bo1 xs.2.1 bo p else bo) p' q'
          · obtain ⟨hlen, hsame⟩ := sm1 hm
            rw [g1 hm, ob_s]
            dsimp only
            rw [if_neg (by decide), end_h (cT_nw cs) (cE_nw hs100 es) (by omega), ob_s, KD_end k1]
            refine ⟨fun hn => ?_, fun x hx => ?_⟩
            · obtain ⟨j1, j2⟩ := ia hn
              refine ⟨fun z => j1 ?_, fun z => j2 (fun y => z ⟨hm, ?_⟩)⟩
              · have := z.2
                rw [he1, he2] at this
                exact this
              · rw [he1, he2]
                exact y
            · obtain ⟨c1, c2, c3⟩ := ib x hx
              have hw0 : q' + (x - p') = r2 + (x - r1) := by omega
              refine ⟨by omega, fun hpre => ?_, fun hnp => ?_⟩
              · obtain ⟨j1, j2⟩ := c2 (pre_sub (p := p') (q := q') (p' := r1) (q' := r2) (by omega) c1 (by omega) hpre)
                rw [hw0]
                have hmw : MTw K xs xt l0 (r2 + (x - r1)) d (kdB b (xs.2.1 p) i) (if i = 1 then bo1 xs.2.1 bo p else bo) p' q' := (MT_none (K := K) d _ _ _ _ hf).mpr hm
                refine ⟨fun z => j1 ?_, fun z => j2 (fun y => z ⟨hmw, ?_⟩)⟩
                · have := z.2
                  rw [he1, he2] at this
                  exact this
                · rw [he1, he2]
                  exact y
              · refine c3 (fun hpre => hnp (fun j hj => ?_))
                by_cases hj1 : j < r1 - p'
                · exact hsame j hj1
                · have := hpre (j - (r1 - p')) (by omega)
                  rw [show r1 + (j - (r1 - p')) = p' + j by omega, show r2 + (j - (r1 - p')) = q' + j by omega] at this
                  exact this
          · obtain ⟨h', e1, kk⟩ := g2 hm
            rw [e1, ob_s]
            dsimp only
            rw [if_pos rfl]
            have no : ∃ h'', (some ((0 : Int32), h') : Option (Int32 × HP)) = some (0, h'') ∧ kq h h'' := ⟨_, rfl, kk⟩
            refine ⟨fun _ => ⟨fun z => absurd z.1 hm, fun _ => no⟩, fun x hx => ?_⟩
            obtain ⟨c1, _, _⟩ := ib x hx
            exact ⟨by omega, fun hpre => absurd (sm2 (fun j hj => hpre j (by omega))) hm, fun _ => no⟩
        | some x0 =>
          dsimp only
          refine ⟨fun z => (by cases z), fun x hx => ?_⟩
          have hx := Option.some.inj hx
          subst hx
          obtain ⟨c1, c2⟩ := foc_rg _ _ _ _ _ _ k1 (by omega) hf
          obtain ⟨g1, g2⟩ := gb x0 hf
          refine ⟨c1, fun hpre => ?_, fun hnp => ?_⟩
          · obtain ⟨g3, g4⟩ := g1 hpre
            obtain ⟨dd, e00, dle, hKw, hle⟩ := foc_KD (K := K) d d3 _ _ _ _ _ _ _ k1 (by omega) k3 (by omega) hf hpre
            have hR2 := RC_13 (w0 := q' + (x0 - p')) hR0 (KD_up (by omega) hKw) (by omega)
            by_cases hm : MTw K xs xt l0 (q' + (x0 - p')) d (kdB b (xs.2.1 p) i) (if i = 1 then bo1 xs.2.1 bo p else bo) p' q'
            · rw [g3 hm, ob_s]
              dsimp only
              rw [if_neg (by decide), end_h (cT_nw (cT_13 cs)) (cE_nw hs100 (cE_13 hs100 es)) (by omega), ob_s, KD_end k1]
              obtain ⟨j1, j2⟩ := c_parts hR2 (p := p) (D := D) (g := g) (bs := kdB b (xs.2.1 p)) he het (by omega) (by omega) hM hM1 (hyn2 _) m (i + 1) r1 r2 r k2 ⟨d3, k4⟩ (by omega) (by omega)
              refine ⟨fun z => j1 ?_, fun z => ?_⟩
              · have := z.2
                rw [he1, he2] at this
                exact this
              · obtain ⟨v, e5⟩ := j2 (fun y => z ⟨hm, by rw [he1, he2]; exact y⟩)
                exact ⟨_, e5, kh _ _⟩
            · obtain ⟨h', e1, kk⟩ := g4 hm
              rw [e1, ob_s]
              dsimp only
              rw [if_pos rfl]
              exact ⟨fun z => absurd z.1 hm, fun _ => ⟨_, rfl, kk⟩⟩
          · obtain ⟨h', e1, kk⟩ := g2 hnp
            rw [e1, ob_s]
            dsimp only
            rw [if_pos rfl]
            exact ⟨_, rfl, kk⟩
    obtain ⟨pa, pb⟩ := parts (arN K b (xs.2.1 p)) 0 (p + fsN (xs.2.1 p)) (q + fsN (xs.2.1 p)) 20000 hpc hpt (by omega) (by omega) (by omega)
    refine ⟨fun hn => ?_, fun x hx => ?_⟩
    · obtain ⟨j1, j2⟩ := pa hn
      exact ⟨fun z => j1 (z.2 hr2).2.2, fun z => j2 (fun y => z ⟨fun y => absurd y hr2, fun _ => ⟨hq0, hq1, y⟩⟩)⟩
    · obtain ⟨c1, c2, c3⟩ := pb x hx
      have hw0 : q + fsN (xs.2.1 p) + (x - (p + fsN (xs.2.1 p))) = q + (x - p) := by omega
      rw [hw0] at c2
      refine ⟨fun hpre => ?_, fun hnp => ?_⟩
      · obtain ⟨j1, j2⟩ := c2 (pre_sub (p := p) (q := q) (by omega) c1 (by omega) hpre)
        exact ⟨fun z => j1 (z.2 hr).2.2, fun z => j2 (fun y => z ⟨fun y => absurd y hr, fun _ => ⟨hq0, hq1, y⟩⟩)⟩
      · refine c3 (fun hpre => hnp (fun j hj => ?_))
        by_cases hj1 : j < fsN (xs.2.1 p)
        · exact (hhd j hj1).2.symm
        · have := hpre (j - fsN (xs.2.1 p)) (by omega)
          rw [show p + fsN (xs.2.1 p) + (j - fsN (xs.2.1 p)) = p + j by omega, show q + fsN (xs.2.1 p) + (j - fsN (xs.2.1 p)) = q + j by omega] at this
          exact this
end
