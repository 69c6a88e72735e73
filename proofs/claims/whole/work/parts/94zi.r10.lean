/-! Rule 10. -/
def lo (oc : Nat → Bool) : Nat → Nat → Option Nat
  | 0 => fun _ => none
  | m + 1 => fun c => if oc c = true then some c else lo oc m (c + 1)
theorem lo_app (oc : Nat → Bool) : ∀ (m1 m2 c : Nat), lo oc (m1 + m2) c = match lo oc m1 c with
    | some x => some x
    | none => lo oc m2 (c + m1) := by
  intro m1
  induction m1 with
  | zero => intro m2 c; rw [Nat.zero_add]; rfl
  | succ m1 ih =>
    intro m2 c
    rw [show m1 + 1 + m2 = (m1 + m2) + 1 by omega, lo, lo]
    dsimp only
    by_cases h : oc c = true
    · rw [if_pos h, if_pos h]
    · rw [if_neg h, if_neg h, ih, show c + 1 + m1 = c + (m1 + 1) by omega]
def ocF (t : Nat → Int32) (A B : Nat → Int32) (l0 : Nat) (y : Nat) : Bool := !decide (A y = 0) && (decide (t y - 97 = nI l0) && !tb (B y) l0)
section
variable {K : Nat → Nat} {t E : Nat → Int32} {A B : Nat → Int32} {l0 : Nat}
theorem lo_foc (hl0 : l0 < 8) : ∀ (d : Nat) (bo : Int32) (b : Bool) (p e : Nat) (bof : Nat → Bool), SP K t E 0 A B d bo b p e → e ≤ 60 → MSK bo bof → lo (ocF t A B l0) (e - p) p = foc K t E l0 d b bof p := by
  intro d
  induction d with
  | zero => intro bo b p e bof h; exact absurd h (fun z => z)
  | succ d ih =>
    intro bo b p e bof hSP he hM
    have hpe := SP_lt hSP
    have hSP0 := hSP
    obtain ⟨hA, hB, hbn, hpc⟩ := SP_v hSP
    rw [Nat.sub_zero] at hA hB
    have hfs := fs_1 (t p)
    have hple := spc_le _ _ _ _ hpc
    by_cases hr : rpl t (rlS l0) bof p
    · rw [foc_1 hr]
      obtain ⟨hlet, hbo, hrl⟩ := hr
      have hll : lwN (t p) = l0 := of_decide_eq_true hrl
      rw [if_pos hlet] at hA
      have hoc : ocF t A B l0 p = true := by
        unfold ocF
        rw [hA, hB, (lw_n hlet).1, hll, hM.2 _ hl0]
        rw [hll] at hbo
        rw [hbo]
        simp
      obtain ⟨m, hm⟩ : ∃ m, e - p = m + 1 := ⟨e - p - 1, by omega⟩
      rw [hm, lo]
      dsimp only
      rw [if_pos hoc]
    rw [foc_0 hr]
    have hoc : ¬ ocF t A B l0 p = true := by
      intro z
      unfold ocF at z
      rw [Bool.and_eq_true, Bool.and_eq_true] at z
      obtain ⟨z1, z2, z3⟩ := z
      have z2 := of_decide_eq_true z2
      by_cases hlet : 97 ≤ t p ∧ t p < 105
      · rw [(lw_n hlet).1] at z2
        have hll : lwN (t p) = l0 := (nI_inj (by have := (lw_n hlet).2; omega) (by omega)).mp z2
        rw [hB, hM.2 _ hl0] at z3
        refine hr ⟨hlet, ?_, decide_eq_true hll⟩
        rw [hll]
        cases hq : bof l0 with
        | false => rfl
        | true => rw [hq] at z3; cases z3
      · rw [if_neg hlet] at hA
        rw [hA] at z1
        exact absurd z1 (by decide)
    have hM1 : MSK (bI1 t bo p) (bo1 t bof p) := by
      unfold bI1 bo1
      by_cases h4 : t p = 123 ∨ t p = 73 ∨ t p = 69 ∨ t p = 76
      · rw [if_pos h4]
        refine MSK_c (MSK_or hM (MSK_bit (lw_n (hbn h4).1).2)) (fun l _ => ?_)
        rw [if_pos h4]
      · rw [if_neg h4]
        refine MSK_c hM (fun l _ => ?_)
        rw [if_neg h4, Bool.or_false]
    have parts : ∀ (m i p' : Nat), spc (SP K t E 0 A B d) (kdB b (t p)) bo (bI1 t bo p) m i p' e → lo (ocF t A B l0) (e - p') p' = focP (foc K t E l0 d) E (kdB b (t p)) bof (bo1 t bof p) m i p' := by
      intro m
      induction m with
      | zero =>
        intro i p' z
        have z : p' = e := z
        rw [z, Nat.sub_self]
        rfl
      | succ m ih2 =>
        intro i p' z
        obtain ⟨r1, k1, k2⟩ := z
        have l1 := SP_lt k1
        have l2 := spc_le _ _ _ _ k2
        have he1 : (E p').toNatClampNeg = r1 := nI_cl (SP_end k1) (by omega)
        have hMi : MSK (if i = 1 then bI1 t bo p else bo) (if i = 1 then bo1 t bof p else bof) := by
          by_cases hi1 : i = 1
          · rw [if_pos hi1, if_pos hi1]; exact hM1
          · rw [if_neg hi1, if_neg hi1]; exact hM
        rw [show e - p' = (r1 - p') + (e - r1) by omega, lo_app, ih _ _ _ _ _ k1 (by omega) hMi, show p' + (r1 - p') = r1 by omega, ih2 (i + 1) r1 k2, focP]
        dsimp only
        rw [he1]
        generalize foc K t E l0 d (kdB b (t p) i) (if i = 1 then bo1 t bof p else bof) p' = of
        cases of <;> rfl
    have hp := parts _ _ _ hpc
    rw [← hp]
    obtain ⟨m, hm⟩ : ∃ m, e - p = m + 1 := ⟨e - p - 1, by omega⟩
    rw [hm, lo]
    dsimp only
    rw [if_neg hoc]
    by_cases h4 : bn4 (t p)
    · have hf2 := fs_b h4
      have hoc2 : ¬ ocF t A B l0 (p + 1) = true := by
        intro z
        unfold ocF at z
        rw [Bool.and_eq_true] at z
        have := (hbn h4).2
        rw [Nat.sub_zero] at this
        have z1 := z.1
        rw [this] at z1
        exact absurd z1 (by decide)
      obtain ⟨m2, hm2⟩ : ∃ m2, m = m2 + 1 := ⟨m - 1, by omega⟩
      rw [hm2, lo]
      dsimp only
      rw [if_neg hoc2, hf2, show e - (p + 2) = m2 by omega]
    · have hf1 := fs_n h4
      rw [hf1, show e - (p + 1) = m by omega]
end
def fx (o : Option Nat) : Int32 := match o with
  | none => -1
  | some x => nI x
theorem bit_sh : ∀ l, l < 8 → (1 : Int32) <<< (nI l &&& 31) = bitI l := by decide
/-- behind the search -/
def aft (L : Int32) (T first : Int32) (H : HP) : Option (Int32 × HP) := (s_AdjoinedSetsModel_noReplacing 200 H).bind fun q2 => (gI q2 200 9 1).bind fun v4 => if first < v4 then (if first < 0 then s_AdjoinedSetsModel_isInstance_139 200 T q2 else (s_AdjoinedSetsModel_isSame 200 T 0 first q2).bind fun q7 => if q7 = 0 then some (0, q2) else (s_AdjoinedSetsModel_replace 200 L first q2).bind fun q10 => s_AdjoinedSetsModel_isInstance_139 200 T q10) else some (0, q2)
section
variable {S : SG} {E : Nat → Int32} {a l0 : Nat}
theorem m_fst {h : HP} {P : Nat → Nat → Int32} {A B : Nat → Int32} {x : TX} {o : Nat} (ht : mT h o x) (h60 : x.1 ≤ 60) (ho : 1 ≤ o) (ho2 : o ≤ 1400) (hl0 : l0 < 8) : ∀ (c r : Nat), c ≤ x.1 → c < r → s_AdjoinedSetsModel_isInstance_22 r 200 (nI l0) (nI o) (fx (lo (ocF x.2.1 A B l0) (x.1 - c) c)) (nI (o + c - 1)) (sw h 0 P A B) = aft (nI l0) (nI o) (fx (lo (ocF x.2.1 A B l0) x.1 0)) (sw h 0 P A B) := by
  intro c
  induction c with
  | zero =>
    intro r h1 h2
    obtain ⟨r, rfl⟩ : ∃ r0, r = r0 + 1 := ⟨r - 1, by omega⟩
    rw [s_AdjoinedSetsModel_isInstance_22]
    dsimp only
    rw [if_pos (show nI (o + 0 - 1) < nI o from nI_lt (by omega) (by omega)), rK_200, ob_s, Nat.sub_zero]
    rfl
  | succ c ih =>
    intro r h1 h2
    obtain ⟨r, rfl⟩ : ∃ r0, r = r0 + 1 := ⟨r - 1, by omega⟩
    rw [← ih r (by omega) (by omega)]
    have e1 : lo (ocF x.2.1 A B l0) (x.1 - c) c = if ocF x.2.1 A B l0 c = true then some c else lo (ocF x.2.1 A B l0) (x.1 - (c + 1)) (c + 1) := by
      rw [show x.1 - c = (x.1 - (c + 1)) + 1 by omega, lo]
    have e2 : nI (o + (c + 1) - 1) - nI o = nI c := by rw [pk_sub (by omega)]; congr 1; omega
    have e3 : nI (o + (c + 1) - 1) + (-1) = nI (o + c - 1) := by
      have : nI (o + (c + 1) - 1) - 1 = nI (o + c - 1) := by rw [show (1 : Int32) = nI 1 from rfl, pk_sub (by omega)]; congr 1
      rw [← this, Int32.sub_eq_add_neg]
    have e4 : h.1 201 (o + (c + 1) - 1) = x.2.1 c := by rw [show o + (c + 1) - 1 = o + c by omega]; exact ht c (by omega)
    rw [e1, s_AdjoinedSetsModel_isInstance_22]
    dsimp only
    unfold s_AdjoinedSetsModel_isInstance_74 s_AdjoinedSetsModel_isInstance_75 s_AdjoinedSetsModel_isInstance_91
    rw [if_neg (show ¬ nI (o + (c + 1) - 1) < nI o from nI_nlt (by omega) (by omega)), rR_200_13, ob_s, e2, rA_210 (by omega), ob_s, sw_210, if_pos (show (0 : Int32) = 0 from rfl), if_neg (show ¬ (1 : Int32) = 0 by decide), e3]
    by_cases hA : A c = 0
    · have hoc : ¬ ocF x.2.1 A B l0 c = true := fun z => by unfold ocF at z; rw [Bool.and_eq_true, hA] at z; exact absurd z.1 (by decide)
      rw [if_neg hoc, if_pos hA]
    rw [if_neg hA, rR_200_0, ob_s, rA_201 (by omega), ob_s, sw_201, e4]
    by_cases hL : x.2.1 c - 97 = nI l0
    rotate_left
    · have hoc : ¬ ocF x.2.1 A B l0 c = true := fun z => by unfold ocF at z; rw [Bool.and_eq_true, Bool.and_eq_true] at z; exact hL (of_decide_eq_true z.2.1)
      rw [if_neg hoc, if_neg hL]
    rw [if_pos hL, rR_200_14, ob_s, rA_211 (by omega), ob_s, sw_211, bit_sh l0 hl0]
    by_cases hb : tb (B c) l0 = false
    · have hoc : ocF x.2.1 A B l0 c = true := by unfold ocF; rw [hL, hb]; simp [hA]
      rw [if_pos hoc, if_pos ((tb_z _ hl0).mpr hb)]
      rfl
    · have hoc : ¬ ocF x.2.1 A B l0 c = true := fun z => by
        unfold ocF at z
        rw [Bool.and_eq_true, Bool.and_eq_true] at z
        cases hq : tb (B c) l0 with
        | false => exact hb hq
        | true => rw [hq] at z; exact absurd z.2.2 (by decide)
      rw [if_neg hoc, if_neg (fun z => hb ((tb_z _ hl0).mp z))]
end
