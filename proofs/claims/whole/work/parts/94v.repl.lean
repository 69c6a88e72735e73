/-! Terms come for letters: what that is, and the class's walk. -/
def MTP (R : Bool → (Nat → Bool) → Nat → Nat → Prop) (Es Et : Nat → Int32) (bs : Nat → Bool) (bo b1 : Nat → Bool) : Nat → Nat → Nat → Nat → Prop
  | 0 => fun _ _ _ => True
  | m + 1 => fun i p q => R (bs i) (if i = 1 then b1 else bo) p q ∧ MTP R Es Et bs bo b1 m (i + 1) (Es p).toNatClampNeg (Et q).toNatClampNeg
def rpl (ts : Nat → Int32) (rl : Nat → Bool) (bo : Nat → Bool) (p : Nat) : Prop := (97 ≤ ts p ∧ ts p < 105) ∧ bo (lwN (ts p)) = false ∧ rl (lwN (ts p)) = true
def bo1 (ts : Nat → Int32) (bo : Nat → Bool) (p : Nat) : Nat → Bool := fun l => bo l || (if ts p = 123 ∨ ts p = 73 ∨ ts p = 69 ∨ ts p = 76 then decide (l = lwN (ts (p + 1))) else false)
/-- rl: the letters that go; ff: what is free in their terms; EQ l q: the term of l stands at q in the target -/
def MT (K : Nat → Nat) (ts Es tt Et : Nat → Int32) (rl : Nat → Bool) (ff : Nat → Nat → Bool) (EQ : Nat → Nat → Prop) : Nat → Bool → (Nat → Bool) → Nat → Nat → Prop
  | 0 => fun _ _ _ _ => False
  | d + 1 => fun b bo p q => (rpl ts rl bo p → (∀ l, l < 8 → ff (lwN (ts p)) l = true → bo l = false) ∧ EQ (lwN (ts p)) q) ∧ (¬ rpl ts rl bo p → ts p = tt q ∧ (bn4 (ts p) → ts (p + 1) = tt (q + 1)) ∧ MTP (MT K ts Es tt Et rl ff EQ d) Es Et (kdB b (ts p)) bo (bo1 ts bo p) (arN K b (ts p)) 0 (p + fsN (ts p)) (q + fsN (ts p)))
theorem MSK_and0 {x y : Int32} {f g : Nat → Bool} (h1 : MSK x f) (h2 : MSK y g) : (x &&& y) = 0 ↔ ∀ l, l < 8 → f l = true → g l = false := by
  have hm : MSK (x &&& y) (fun l => f l && g l) := by
    refine ⟨?_, fun l hl => by rw [tb_and, h1.2 l hl, h2.2 l hl]⟩
    rw [Int32.toBitVec_and, BitVec.toNat_and]
    exact Nat.lt_of_le_of_lt Nat.and_le_left h1.1
  constructor
  · intro q l hl hf
    rw [q] at hm
    have : false = (f l && g l) := (MSK_0.2 l hl).symm.trans (hm.2 l hl)
    rw [hf] at this
    cases hg : g l with
    | false => rfl
    | true => rw [hg] at this; cases this
  · intro q
    refine MSK_eq hm (MSK_c MSK_0 (fun l hl => ?_))
    cases hf : f l with
    | false => rfl
    | true => rw [q l hl hf]; rfl
def nw (h : HP) (v : Int32) : HP := (up2 h.1 11 2 v, h.2)
theorem nw_I {h : HP} {v : Int32} {m : Nat} (hm : m ≠ 11) : (nw h v).1 m = h.1 m := up2_n hm
theorem nw_2 {h : HP} {v : Int32} : (nw h v).1 11 2 = v := by
  show up2 h.1 11 2 v 11 2 = v
  exact u2_s
theorem nw_s {h : HP} {v w : Int32} : (up2 (nw h v).1 11 2 w, (nw h v).2) = nw h w := by
  refine Prod.ext ?_ rfl
  funext a b
  show up2 (up2 h.1 11 2 v) 11 2 w a b = up2 h.1 11 2 w a b
  unfold up2
  split <;> rfl
theorem cT_nw {h : HP} {v : Int32} {t : Nat} {x : TX} (hc : cT h t x) : cT (nw h v) t x := by
  obtain ⟨⟨a1, a2, a3⟩, a4⟩ := hc
  have ht : 100 ≤ t := a1.1
  exact ⟨⟨a1, by rw [nw_I (by omega)]; exact a2, a3⟩, fun p hp => by rw [nw_I (by omega)]; exact a4 p hp⟩
theorem cE_nw {h : HP} {v : Int32} {t : Nat} {x : TX} (ht : 100 ≤ t) (hc : cE h t x) : cE (nw h v) t x := fun p hp => by rw [nw_I (by omega)]; exact hc p hp
/-- the class's Replacement: the terms' text tw; start -/
def SR (h : HP) (rl : Nat → Bool) (w : Nat → Nat) : Prop := ∀ l, l < 8 → h.1 13 l = if rl l = true then nI (w l) else -1
theorem fs_1 (c : Int32) : 1 ≤ fsN c ∧ fsN c ≤ 2 := by
  unfold fsN
  split <;> omega
theorem fs_b {c : Int32} (h : bn4 c) : fsN c = 2 := by
  unfold fsN
  exact if_pos h
theorem fs_n {c : Int32} (h : ¬ bn4 c) : fsN c = 1 := by
  unfold fsN
  exact if_neg h
theorem fp_v {h : HP} {t : Nat} {x : TX} {p : Nat} (hc : cT h t x) (hp : p < x.1) : s_Text_firstPartOf t (nI p) h = some (nI (p + fsN (x.2.1 p))) := by
  have hb : ∀ c, s_AdjoinedSets_isBinder c = some (if c = 123 ∨ c = 73 ∨ c = 69 ∨ c = 76 then 1 else 0) := by
    intro c
    unfold s_AdjoinedSets_isBinder
    by_cases a : c = 123
    · simp [a]
    · by_cases b : c = 73
      · simp [b]
      · by_cases d : c = 69
        · simp [d]
        · by_cases e : c = 76
          · simp [e]
          · simp [a, b, d, e]
  unfold s_Text_firstPartOf fsN
  rw [t_kd hc.1.1, ob_s, at_h hc hp, ob_s, hb, ob_s]
  by_cases h4 : x.2.1 p = 123 ∨ x.2.1 p = 73 ∨ x.2.1 p = 69 ∨ x.2.1 p = 76
  · rw [if_pos h4, if_pos h4, if_neg (by decide), show (2 : Int32) = nI 2 from rfl, nI_add]
  · rw [if_neg h4, if_neg h4, if_pos rfl, nI_1]
theorem bb_v {h : HP} {t : Nat} {x : TX} {p : Nat} (hc : cT h t x) (hp : p + fsN (x.2.1 p) ≤ x.1) (hL : bn4 (x.2.1 p) → isLw (x.2.1 (p + 1))) : ∃ y, s_Text_boundBy t (nI p) h = some y ∧ MSK y (fun l => if x.2.1 p = 123 ∨ x.2.1 p = 73 ∨ x.2.1 p = 69 ∨ x.2.1 p = 76 then decide (l = lwN (x.2.1 (p + 1))) else false) := by
  have hf := fs_1 (x.2.1 p)
  by_cases h4 : x.2.1 p = 123 ∨ x.2.1 p = 73 ∨ x.2.1 p = 69 ∨ x.2.1 p = 76
  · have hfs : fsN (x.2.1 p) = 2 := by unfold fsN; rw [if_pos h4]
    have hB : s_AdjoinedSets_isBinder (x.2.1 p) = some 1 := by rcases h4 with z | z | z | z <;> rw [z] <;> rfl
    refine ⟨_, bb_1 hc (by omega) hB (hL h4), MSK_c (MSK_bit (lw_n (hL h4)).2) (fun l _ => ?_)⟩
    rw [if_pos h4]
  · have hB : s_AdjoinedSets_isBinder (x.2.1 p) = some 0 := by
      unfold s_AdjoinedSets_isBinder
      rw [if_neg (fun z => h4 (Or.inl z)), if_neg (fun z => h4 (Or.inr (Or.inl z))), if_neg (fun z => h4 (Or.inr (Or.inr (Or.inl z)))), if_neg (fun z => h4 (Or.inr (Or.inr (Or.inr z))))]
    refine ⟨0, bb_0 hc (by omega) h4 hB, MSK_c MSK_0 (fun l _ => ?_)⟩
    rw [if_neg h4]
section
variable {K : Nat → Nat} {h : HP} {s t u : Nat} {xs xt xw : TX} {rl : Nat → Bool} {w we : Nat → Nat} {dw : Nat → Nat}
def EQt (xt xw : TX) (w we : Nat → Nat) : Nat → Nat → Prop := fun l q => eqt xt.1 xt.2.1 q xw.2.1 (w l) (we l - w l)
/-- all that the walk needs: source s, target t, terms' text u -/
def RC2 (K : Nat → Nat) (h : HP) (s t u : Nat) (xs xt xw : TX) (rl : Nat → Bool) (w we dw : Nat → Nat) : Prop := cT h s xs ∧ cE h s xs ∧ cT h t xt ∧ (∀ p, p < xt.1 → okC (xt.2.1 p)) ∧ cT h u xw ∧ cE h u xw ∧ h.2.2 = u ∧ SR h rl w ∧ (∀ l, l < 8 → rl l = true → dw l ≤ 12 ∧ we l ≤ xw.1 ∧ KD K xw.2.1 xw.2.2 (dw l) false (w l) (we l)) ∧ ∀ f, f < 4 → K f ≤ 3
theorem c_go (hR : RC2 K h s t u xs xt xw rl w we dw) : ∀ (d : Nat) (b : Bool) (p e D g q e2 d2 : Nat) (M : Int32) (bo : Nat → Bool), KD K xs.2.1 xs.2.2 d b p e → e ≤ xs.1 → KD K xt.2.1 xt.2.2 d2 b q e2 → e2 ≤ xt.1 → d + D ≤ 13 → d ≤ g → 1 ≤ D → MSK M bo → (MT K xs.2.1 xs.2.2 xt.2.1 xt.2.2 rl (fun l => fv xw.2.1 xw.2.2 (dw l) (w l)) (EQt xt xw w we) d b bo p q → s_grp_Replacement_goesOn g 11 s (nI p) t M (nI D) (nw h (nI q)) = some (1, nw h (nI e2))) ∧ (¬ MT K xs.2.1 xs.2.2 xt.2.1 xt.2.2 rl (fun l => fv xw.2.1 xw.2.2 (dw l) (w l)) (EQt xt xw w we) d b bo p q → ∃ v, s_grp_Replacement_goesOn g 11 s (nI p) t M (nI D) (nw h (nI q)) = some (0, nw h v)) := by
  obtain ⟨cs, es, ct, okt, cu, eu, hu, hSR, hW, hK3⟩ := hR
  have s60 := cs.1.2.2
  have t60 := ct.1.2.2
  have u60 := cu.1.2.2
  have hs100 : 100 ≤ s := cs.1.1.1
  have hu100 : 100 ≤ u := cu.1.1.1
  intro d
  induction d with
  | zero => intro b p e D g q e2 d2 M bo hK; exact absurd hK (fun z => z)
  | succ d ih =>
    intro b p e D g q e2 d2 M bo hK he hKt het hD hg hD1 hM
    obtain ⟨g, rfl⟩ : ∃ g0, g = g0 + 1 := ⟨g - 1, by omega⟩
    have hpe := KD_lt hK
    have hqe := KD_lt hKt
    obtain ⟨hend, _, hL, hpc⟩ := KD_v hK
    have hfs := fs_1 (xs.2.1 p)
    have hple := pc_le _ _ _ _ hpc
    have e0 : s_grp_Replacement_goesOn (g + 1) 11 s (nI p) t M (nI D) (nw h (nI q)) = s_Replacement_goesOn (s_grp_Replacement_goesOn g) 11 s (nI p) t M (nI D) (nw h (nI q)) := rfl
    rw [e0]
    -- a head that stays
    have stay : ¬ rpl xs.2.1 rl bo p → ((xs.2.1 p = xt.2.1 q ∧ (bn4 (xs.2.1 p) → xs.2.1 (p + 1) = xt.2.1 (q + 1)) ∧ MTP (MT K xs.2.1 xs.2.2 xt.2.1 xt.2.2 rl (fun l => fv xw.2.1 xw.2.2 (dw l) (w l)) (EQt xt xw w we) d) xs.2.2 xt.2.2 (kdB b (xs.2.1 p)) bo (bo1 xs.2.1 bo p) (arN K b (xs.2.1 p)) 0 (p + fsN (xs.2.1 p)) (q + fsN (xs.2.1 p))) → s_Replacement_goesOn_64 (s_grp_Replacement_goesOn g) 11 s (nI p) t M (nI D) (nw h (nI q)) = some (1, nw h (nI e2))) ∧ (¬ (xs.2.1 p = xt.2.1 q ∧ (bn4 (xs.2.1 p) → xs.2.1 (p + 1) = xt.2.1 (q + 1)) ∧ MTP (MT K xs.2.1 xs.2.2 xt.2.1 xt.2.2 rl (fun l => fv xw.2.1 xw.2.2 (dw l) (w l)) (EQt xt xw w we) d) xs.2.2 xt.2.2 (kdB b (xs.2.1 p)) bo (bo1 xs.2.1 bo p) (arN K b (xs.2.1 p)) 0 (p + fsN (xs.2.1 p)) (q + fsN (xs.2.1 p))) → ∃ v, s_Replacement_goesOn_64 (s_grp_Replacement_goesOn g) 11 s (nI p) t M (nI D) (nw h (nI q)) = some (0, nw h v)) := by
      intro _
      unfold s_Replacement_goesOn_64
      have hh := c_hs (cT_nw (v := nI q) ct) (cT_nw (v := nI q) cs) okt (a := q) (f := p) (to := p + fsN (xs.2.1 p)) (by omega) (by omega) (by omega)
      rw [show p + fsN (xs.2.1 p) - p = fsN (xs.2.1 p) by omega] at hh
      rw [t_kd cs.1.1, ob_s, fp_v (cT_nw cs) (by omega), ob_s, rI_11_2, ob_s, nw_2, t_kd ct.1.1, ob_s]
      by_cases hhd : eqt xt.1 xt.2.1 q xs.2.1 p (fsN (xs.2.1 p))
      rotate_left
      · rw [hh.2 hhd, ob_s, if_pos rfl]
        refine ⟨fun z => absurd (fun j hj => ?_) hhd, fun _ => ⟨_, rfl⟩⟩
        by_cases hj0 : j = 0
        · subst hj0
          exact ⟨by omega, z.1.symm⟩
        · have h4 : bn4 (xs.2.1 p) := by
            apply Classical.byContradiction
            intro h4
            have : fsN (xs.2.1 p) = 1 := fs_n h4
            omega
          have hj1 : j = 1 := by omega
          subst hj1
          refine ⟨?_, (z.2.1 h4).symm⟩
          cases d2 with
          | zero => exact absurd hKt (fun z => z)
          | succ d2 =>
            obtain ⟨_, _, _, hpc2⟩ := KD_v hKt
            rw [← z.1] at hpc2
            have := pc_le _ _ _ _ hpc2
            have : fsN (xs.2.1 p) = 2 := fs_b h4
            omega
      have hq0 : xs.2.1 p = xt.2.1 q := (hhd 0 (by omega)).2.symm
      have hq1 : bn4 (xs.2.1 p) → xs.2.1 (p + 1) = xt.2.1 (q + 1) := by
        intro h4
        have : fsN (xs.2.1 p) = 2 := fs_b h4
        exact (hhd 1 (by omega)).2.symm
      rw [hh.1 hhd, ob_s, if_neg (by decide), ob_s, pk_sub (by omega), nI_add, wI_11_2, ob_s, nw_s, ob_s, end_h (cT_nw cs) (cE_nw hs100 es) (by omega), ob_s, hend, show q + (p + fsN (xs.2.1 p) - p) = q + fsN (xs.2.1 p) by omega]
      obtain ⟨y, hy1, hy2⟩ := bb_v (h := h) cs (p := p) (by omega) hL
      have hyn : ∀ v, s_Text_boundBy s (nI p) (nw h v) = some y := by
        intro v
        obtain ⟨y', z1, z2⟩ := bb_v (h := nw h v) (cT_nw cs) (p := p) (by omega) hL
        rw [z1, MSK_eq z2 hy2]
      have hM1 : MSK (M ||| y) (bo1 xs.2.1 bo p) := MSK_or hM hy2
      -- the parts
      have parts : ∀ (m i p' q' r : Nat), pc (KD K xs.2.1 xs.2.2 d) (kdB b (xs.2.1 p)) m i p' e → (∃ d3, pc (KD K xt.2.1 xt.2.2 d3) (kdB b (xs.2.1 p)) m i q' e2) → i + m ≤ 3 → m < r → p < p' → (MTP (MT K xs.2.1 xs.2.2 xt.2.1 xt.2.2 rl (fun l => fv xw.2.1 xw.2.2 (dw l) (w l)) (EQt xt xw w we) d) xs.2.2 xt.2.2 (kdB b (xs.2.1 p)) bo (bo1 xs.2.1 bo p) m i p' q' → s_Replacement_goesOn_111 (s_grp_Replacement_goesOn g) r 11 s (nI p) t M (nI D) (nI p') (nI e) (nI i) (nw h (nI q')) = some (1, nw h (nI e2))) ∧ (¬ MTP (MT K xs.2.1 xs.2.2 xt.2.1 xt.2.2 rl (fun l => fv xw.2.1 xw.2.2 (dw l) (w l)) (EQt xt xw w we) d) xs.2.2 xt.2.2 (kdB b (xs.2.1 p)) bo (bo1 xs.2.1 bo p) m i p' q' → ∃ v, s_Replacement_goesOn_111 (s_grp_Replacement_goesOn g) r 11 s (nI p) t M (nI D) (nI p') (nI e) (nI i) (nw h (nI q')) = some (0, nw h v)) := by
        intro m
        induction m with
        | zero =>
          intro i p' q' r z1 z2 h3 hr hpp
          obtain ⟨r, rfl⟩ : ∃ r0, r = r0 + 1 := ⟨r - 1, by omega⟩
          have z1 : p' = e := z1
          obtain ⟨d3, z2⟩ := z2
          have z2 : q' = e2 := z2
          subst z1
          subst z2
          refine ⟨fun _ => ?_, fun z => absurd trivial z⟩
          rw [s_Replacement_goesOn_111]
          dsimp only
          by_cases hi3 : 3 ≤ i
          · rw [if_pos (show 3 ≤ nI i from nI_le (a := 3) hi3 (by omega))]
          · rw [if_neg (show ¬ 3 ≤ nI i from nI_ge (b := 3) (by omega) (by omega)), if_pos (nI_le (Nat.le_refl _) (by omega))]
        | succ m ih2 =>
          intro i p' q' r z1 z2 h3 hr hpp
          obtain ⟨r, rfl⟩ : ∃ r0, r = r0 + 1 := ⟨r - 1, by omega⟩
          obtain ⟨r1, k1, k2⟩ := z1
          obtain ⟨d3, r2, k3, k4⟩ := z2
          have l1 := KD_lt k1
          have l2 := pc_le _ _ _ _ k2
          have l3 := KD_lt k3
          have l4 := pc_le _ _ _ _ k4
          have hMi : MSK (if i = 1 then M ||| y else M) (if i = 1 then bo1 xs.2.1 bo p else bo) := by
            by_cases hi1 : i = 1
            · rw [if_pos hi1, if_pos hi1]; exact hM1
            · rw [if_neg hi1, if_neg hi1]; exact hM
          obtain ⟨g1, g2⟩ := ih (kdB b (xs.2.1 p) i) p' r1 (D + 1) g q' r2 d3 (if i = 1 then M ||| y else M) (if i = 1 then bo1 xs.2.1 bo p else bo) k1 (by omega) k3 (by omega) (by omega) (by omega) (by omega) hMi
          obtain ⟨i1, i2⟩ := ih2 (i + 1) r1 r2 r k2 ⟨d3, k4⟩ (by omega) (by omega) (by omega)
          have e1 : s_Replacement_goesOn_111 (s_grp_Replacement_goesOn g) (r + 1) 11 s (nI p) t M (nI D) (nI p') (nI e) (nI i) (nw h (nI q')) = (s_grp_Replacement_goesOn g 11 s (nI p') t (if i = 1 then M ||| y else M) (nI (D + 1)) (nw h (nI q'))).bind fun q2 => if q2.1 = 0 then some (0, q2.2) else (s_Text_endOf s (nI p') q2.2).bind fun q5 => s_Replacement_goesOn_111 (s_grp_Replacement_goesOn g) r 11 s (nI p) t M (nI D) q5 (nI e) (nI (i + 1)) q2.2 := by
            rw [s_Replacement_goesOn_111]
            dsimp only
            unfold s_Replacement_goesOn_143
            rw [if_neg (show ¬ 3 ≤ nI i from nI_ge (b := 3) (by omega) (by omega)), if_neg (nI_ge (by omega) (by omega)), t_kd cs.1.1, ob_s, hyn, ob_s, rK_11, ob_s, ob_s, nI_1, nI_1]
            by_cases hi1 : i = 1
            · rw [if_pos (show nI i = 1 by rw [hi1]; rfl), if_pos hi1]
              simp only [ob_s]
            · rw [if_neg (show ¬ nI i = 1 from fun z => hi1 ((nI_inj (b := 1) (by omega) (by omega)).mp z)), if_neg hi1]
              simp only [ob_s]
          rw [e1]
          have he1 : (xs.2.2 p').toNatClampNeg = r1 := nI_cl (KD_end k1) (by omega)
          have he2 : (xt.2.2 q').toNatClampNeg = r2 := nI_cl (KD_end k3) (by omega)
          by_cases hm : MT K xs.2.1 xs.2.2 xt.2.1 xt.2.2 rl (fun l => fv xw.2.1 xw.2.2 (dw l) (w l)) (EQt xt xw w we) d (kdB b (xs.2.1 p) i) (if i = 1 then bo1 xs.2.1 bo p else bo) p' q'
          · rw [g1 hm, ob_s]
            dsimp only
            rw [if_neg (by decide), end_h (cT_nw cs) (cE_nw hs100 es) (by omega), ob_s, KD_end k1]
            refine ⟨fun z => i1 ?_, fun z => i2 (fun y => z ⟨hm, ?_⟩)⟩
            · have := z.2
              rw [he1, he2] at this
              exact this
            · rw [he1, he2]
              exact y
          · obtain ⟨v, e2⟩ := g2 hm
            rw [e2, ob_s]
            dsimp only
            rw [if_pos rfl]
            exact ⟨fun z => absurd z.1 hm, fun _ => ⟨v, rfl⟩⟩
      have har : arN K b (xs.2.1 p) ≤ 3 := by
        unfold arN
        cases b with
        | true => dsimp only; split <;> omega
        | false =>
          dsimp only
          split
          · omega
          · split
            · omega
            · split
              · rename_i hf
                exact hK3 _ (fn_n hf).2
              · split <;> omega
      have hpt : ∃ d3, pc (KD K xt.2.1 xt.2.2 d3) (kdB b (xs.2.1 p)) (arN K b (xs.2.1 p)) 0 (q + fsN (xs.2.1 p)) e2 := by
        cases d2 with
        | zero => exact absurd hKt (fun z => z)
        | succ d2 =>
          obtain ⟨_, _, _, hpc2⟩ := KD_v hKt
          rw [← hq0] at hpc2
          exact ⟨d2, hpc2⟩
      obtain ⟨p1, p2⟩ := parts (arN K b (xs.2.1 p)) 0 (p + fsN (xs.2.1 p)) (q + fsN (xs.2.1 p)) 20000 hpc hpt (by omega) (by omega) (by omega)
      exact ⟨fun z => p1 z.2.2, fun z => p2 (fun y => z ⟨hq0, hq1, y⟩)⟩
    unfold s_Replacement_goesOn
    rw [if_pos (show nI D ≤ 12 from nI_le (b := 12) (by omega) (by omega)), t_kd cs.1.1, ob_s, at_h (cT_nw cs) (by omega), ob_s, s_let]
    show ((rpl xs.2.1 rl bo p → _) ∧ (¬ rpl xs.2.1 rl bo p → _) → _) ∧ (¬ ((rpl xs.2.1 rl bo p → _) ∧ (¬ rpl xs.2.1 rl bo p → _)) → _)
    by_cases hlet : 97 ≤ xs.2.1 p ∧ xs.2.1 p < 105
    rotate_left
    · have hn : ¬ rpl xs.2.1 rl bo p := fun z => hlet z.1
      rw [if_neg hlet, ob_s, if_pos rfl]
      obtain ⟨s1, s2⟩ := stay hn
      exact ⟨fun z => s1 (z.2 hn), fun z => s2 (fun y => z ⟨fun x => absurd x hn, fun _ => y⟩)⟩
    have hl8 := (lw_n hlet).2
    rw [if_pos hlet, ob_s, if_neg (by decide), (lw_n hlet).1]
    by_cases hbo : bo (lwN (xs.2.1 p)) = false
    rotate_left
    · have hn : ¬ rpl xs.2.1 rl bo p := fun z => hbo z.2.1
      rw [if_neg (fun z => hbo (by rw [← hM.2 _ hl8]; exact (tb_sh M hl8).mp z))]
      obtain ⟨s1, s2⟩ := stay hn
      exact ⟨fun z => s1 (z.2 hn), fun z => s2 (fun y => z ⟨fun x => absurd x hn, fun _ => y⟩)⟩
    rw [if_pos ((tb_sh M hl8).mpr (by rw [hM.2 _ hl8]; exact hbo)), rR_11_0, ob_s, rA_13 hl8, ob_s, nw_I (by decide), hSR _ hl8]
    by_cases hrl : rl (lwN (xs.2.1 p)) = true
    rotate_left
    · have hn : ¬ rpl xs.2.1 rl bo p := fun z => hrl z.2.2
      rw [if_neg hrl, if_pos rfl]
      obtain ⟨s1, s2⟩ := stay hn
      exact ⟨fun z => s1 (z.2 hn), fun z => s2 (fun y => z ⟨fun x => absurd x hn, fun _ => y⟩)⟩
    have hy : rpl xs.2.1 rl bo p := ⟨hlet, hbo, hrl⟩
    obtain ⟨w1, w2, w3⟩ := hW _ hl8 hrl
    have wlt := KD_lt w3
    have hb : b = false := by
      cases b with
      | false => rfl
      | true =>
        exfalso
        have hj := lw_q hlet
        obtain ⟨j, j1, j2, hcj⟩ := hj
        have hall : ∀ j, j < 105 → 97 ≤ j → ¬ (nI j = 60 ∨ nI j = 61) ∧ ¬ nI j = 33 ∧ ¬ (nI j = 94 ∨ nI j = 118 ∨ nI j = 62) ∧ ¬ (nI j = 69 ∨ nI j = 76) := by decide
        obtain ⟨y1, y2, y3, y4⟩ := hall j j2 j1
        rw [← hcj] at y1 y2 y3 y4
        rcases hK.2.2 with z | z | z | z
        · exact y1 z.1
        · exact y2 z.1
        · exact y3 z.1
        · exact y4 z.1
    subst hb
    rw [if_pos hrl, if_neg (fun z => by have := nI_pos (n := w (lwN (xs.2.1 p))) (by omega); rw [z] at this; exact this (by decide)), rK_11, ob_s]
    unfold s_Replacement_termComes s_Replacement_termComes_21
    obtain ⟨yf, f1, f2⟩ := c_free hK3 (cT_nw (v := nI q) cu) (cE_nw hu100 eu) (dw (lwN (xs.2.1 p))) false (w (lwN (xs.2.1 p))) (we (lwN (xs.2.1 p))) 1 13 w3 w2 (by omega) (by omega)
    have hterms : gR (nw h (nI q)) 11 5 1 = some u := by rw [rR_11_1]; exact congrArg some hu
    have hh := c_hs (cT_nw (v := nI q) ct) (cT_nw (v := nI q) cu) okt (a := q) (f := w (lwN (xs.2.1 p))) (to := we (lwN (xs.2.1 p))) (by omega) w2 (by omega)
    rw [rR_11_0, ob_s, rA_13 hl8, ob_s, nw_I (by decide), hSR _ hl8, if_pos hrl, if_neg (fun z => by have := nI_pos (n := w (lwN (xs.2.1 p))) (by omega); rw [z] at this; exact this (by decide)), ob_s, rA_13 hl8, ob_s, nw_I (by decide), hSR _ hl8, if_pos hrl, hterms, ob_s, t_kd cu.1.1, ob_s, end_h (cT_nw cu) (cE_nw hu100 eu) (by omega), ob_s, KD_end w3, ob_s, t_kd cu.1.1, ob_s, show s_grp_Text_freeIn 13 u (nI (w (lwN (xs.2.1 p)))) 1 (nw h (nI q)) = some yf from f1, ob_s]
    have hand := MSK_and0 f2 hM
    by_cases hfree : ∀ l, l < 8 → fv xw.2.1 xw.2.2 (dw (lwN (xs.2.1 p))) (w (lwN (xs.2.1 p))) l = true → bo l = false
    rotate_left
    · rw [if_neg (fun z => hfree (hand.mp z)), ob_s]
      exact ⟨fun z => absurd (z.1 hy).1 hfree, fun _ => ⟨nI q, rfl⟩⟩
    rw [if_pos (hand.mpr hfree), rI_11_2, ob_s, nw_2, ob_s, t_kd ct.1.1, ob_s]
    by_cases heq : EQt xt xw w we (lwN (xs.2.1 p)) q
    · have hlen : we (lwN (xs.2.1 p)) - w (lwN (xs.2.1 p)) = e2 - q := KD_pre _ _ _ _ _ _ _ w3 hKt (fun k z1 z2 => (heq k z1).2.symm)
      rw [hh.1 heq, ob_s, if_neg (by decide), ob_s, pk_sub (by omega), nI_add, wI_11_2, ob_s, nw_s, ob_s, show q + (we (lwN (xs.2.1 p)) - w (lwN (xs.2.1 p))) = e2 by omega]
      exact ⟨fun _ => rfl, fun z => absurd ⟨fun _ => ⟨hfree, heq⟩, fun y => absurd hy y⟩ z⟩
    · rw [hh.2 heq, ob_s, if_pos rfl, ob_s]
      exact ⟨fun z => absurd (z.1 hy).2 heq, fun _ => ⟨nI q, rfl⟩⟩
end
