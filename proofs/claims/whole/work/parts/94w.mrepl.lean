/-! Terms come for letters: the model's walk. -/
def spc (R : Int32 → Bool → Nat → Nat → Prop) (bs : Nat → Bool) (b0 b1 : Int32) : Nat → Nat → Nat → Nat → Prop
  | 0 => fun _ p e => p = e
  | m + 1 => fun i p e => ∃ q, R (if i = 1 then b1 else b0) (bs i) p q ∧ spc R bs b0 b1 m (i + 1) q e
def bI1 (t : Nat → Int32) (bo : Int32) (p : Nat) : Int32 := if t p = 123 ∨ t p = 73 ∨ t p = 69 ∨ t p = 76 then bo ||| bitI (lwN (t (p + 1))) else bo
theorem spc_its {R : Int32 → Bool → Nat → Nat → Prop} {bs : Nat → Bool} {b0 : Int32} : ∀ (m i p e : Nat), (∀ j, i ≤ j → j < i + m → bs j = false) → its (R b0 false) m p e → spc R bs b0 b0 m i p e := by
  intro m
  induction m with
  | zero => intro i p e _ h; exact h
  | succ m ih =>
    intro i p e hb h
    obtain ⟨q, a, b⟩ := h
    refine ⟨q, by rw [hb i (Nat.le_refl _) (by omega), ite_self]; exact a, ih (i + 1) q e (fun j z1 z2 => hb j (by omega) (by omega)) b⟩
theorem bI1_n {t : Nat → Int32} {bo : Int32} {p : Nat} (h : ¬ (t p = 123 ∨ t p = 73 ∨ t p = 69 ∨ t p = 76)) : bI1 t bo p = bo := if_neg h
theorem bI1_b {t : Nat → Int32} {bo : Int32} {p : Nat} (h : t p = 123 ∨ t p = 73 ∨ t p = 69 ∨ t p = 76) : bI1 t bo p = bo ||| bitI (lwN (t (p + 1))) := if_pos h
theorem SP_v {K : Nat → Nat} {t E : Nat → Int32} {s : Nat} {A B : Nat → Int32} {d : Nat} {bo : Int32} {b : Bool} {p e : Nat} (h : SP K t E s A B (d + 1) bo b p e) : A (p - s) = (if 97 ≤ t p ∧ t p < 105 then 1 else 0) ∧ B (p - s) = bo ∧ (bn4 (t p) → isLw (t (p + 1)) ∧ A (p + 1 - s) = 0) ∧ spc (SP K t E s A B d) (kdB b (t p)) bo (bI1 t bo p) (arN K b (t p)) 0 (p + fsN (t p)) e := by
  obtain ⟨_, _, h1, h2, h3⟩ := h
  refine ⟨h1, h2, ?_⟩
  cases b with
  | true =>
    rcases h3 with ⟨hc, q, k1, k2⟩ | ⟨hc, k1⟩ | ⟨hc, q, k1, k2⟩ | ⟨hc, hL, a3, _, q, k1, k2⟩
    · rw [bI1_n (by rcases hc with z | z <;> rw [z] <;> decide)]
      rcases hc with z | z <;> rw [z] <;> exact ⟨fun q => absurd q (by unfold bn4; decide), q, k1, e, k2, rfl⟩
    · rw [bI1_n (by rw [hc]; decide), hc]; exact ⟨fun q => absurd q (by unfold bn4; decide), e, k1, rfl⟩
    · rw [bI1_n (by rcases hc with z | z | z <;> rw [z] <;> decide)]
      rcases hc with z | z | z <;> rw [z] <;> exact ⟨fun q => absurd q (by unfold bn4; decide), q, k1, e, k2, rfl⟩
    · rw [bI1_b (by rcases hc with z | z <;> rw [z] <;> decide)]
      rcases hc with z | z <;> rw [z] <;> exact ⟨fun _ => ⟨hL, a3⟩, q, k1, e, k2, rfl⟩
  | false =>
    rcases h3 with ⟨hc, hx⟩ | ⟨hc, hx⟩ | ⟨hc, hk0, hi⟩ | ⟨hc, q, k1, k2⟩ | ⟨hc, k1⟩ | ⟨hc, hL, a3, _, q, k1, k2⟩ | ⟨hc, hL, a3, _, q, k1, k2⟩
    · obtain ⟨j, hj, hcj⟩ := dg_j hc
      have hall : ∀ j, j < 10 → ¬ (nI (48 + j) = 123 ∨ nI (48 + j) = 73 ∨ nI (48 + j) = 69 ∨ nI (48 + j) = 76) := by decide
      have z3 := hall j hj
      rw [← hcj] at z3
      refine ⟨fun q => absurd q z3, ?_⟩
      rw [bI1_n z3]
      unfold arN fsN
      dsimp only
      rw [if_pos hc, if_neg z3]
      exact hx.symm
    · obtain ⟨j, j1, j2, hcj⟩ := lw_q hc
      have hall : ∀ j, j < 105 → 97 ≤ j → ¬ (48 ≤ nI j ∧ nI j ≤ 57) ∧ ¬ (nI j = 123 ∨ nI j = 73 ∨ nI j = 69 ∨ nI j = 76) := by decide
      obtain ⟨z1, z3⟩ := hall j j2 j1
      rw [← hcj] at z1 z3
      refine ⟨fun q => absurd q z3, ?_⟩
      rw [bI1_n z3]
      unfold arN fsN
      dsimp only
      rw [if_neg z1, if_pos (show 97 ≤ t p ∧ t p < 105 from hc), if_neg z3]
      exact hx.symm
    · have hfn := fn_n hc
      have hj : t p = nI (65 + fnN (t p)) := by
        rw [← nI_add, ← hfn.1]
        show t p = 65 + (t p - 65)
        rw [Int32.add_comm, Int32.sub_add_cancel]
      have hall : ∀ j, j < 4 → ¬ (48 ≤ nI (65 + j) ∧ nI (65 + j) ≤ 57) ∧ ¬ (97 ≤ nI (65 + j) ∧ nI (65 + j) < 105) ∧ ¬ (nI (65 + j) = 123 ∨ nI (65 + j) = 73 ∨ nI (65 + j) = 69 ∨ nI (65 + j) = 76) := by decide
      obtain ⟨z1, z2, z3⟩ := hall _ hfn.2
      rw [← hj] at z1 z2 z3
      refine ⟨fun q => absurd q z3, ?_⟩
      rw [bI1_n z3]
      unfold arN fsN
      dsimp only
      rw [if_neg z1, if_neg z2, if_pos hc, if_neg z3]
      refine spc_its _ _ _ _ (fun j _ _ => ?_) hi
      unfold kdB
      dsimp only
      rw [if_neg (fun q => z3 (Or.inl q))]
    · rw [bI1_n (by rcases hc with z | z | z | z <;> rw [z] <;> decide)]
      rcases hc with z | z | z | z <;> rw [z] <;> exact ⟨fun q => absurd q (by unfold bn4; decide), q, k1, e, k2, rfl⟩
    · rw [bI1_n (by rcases hc with z | z | z <;> rw [z] <;> decide)]
      rcases hc with z | z | z <;> rw [z] <;> exact ⟨fun q => absurd q (by unfold bn4; decide), e, k1, rfl⟩
    · rw [bI1_b (by rw [hc]; decide), hc]; exact ⟨fun _ => ⟨hL, a3⟩, q, k1, e, k2, rfl⟩
    · rw [bI1_b (by rw [hc]; decide), hc]; exact ⟨fun _ => ⟨hL, a3⟩, q, k1, e, k2, rfl⟩
theorem spc_le {K : Nat → Nat} {t E : Nat → Int32} {s : Nat} {A B : Nat → Int32} {d : Nat} {bs : Nat → Bool} {b0 b1 : Int32} : ∀ (m i p e : Nat), spc (SP K t E s A B d) bs b0 b1 m i p e → p ≤ e := by
  intro m
  induction m with
  | zero => intro i p e h; exact Nat.le_of_eq h
  | succ m ih =>
    intro i p e h
    obtain ⟨q, a, b⟩ := h
    have := SP_lt a
    have := ih _ _ _ b
    omega
section
variable {h : HP} {s w0 : Nat} {P : Nat → Nat → Int32} {A B : Nat → Int32}
theorem rp_147 {Q p EE : Nat} {X : Int32} {c12 : Nat → Int32 → Int32 → Int32 → Int32 → HP → Option (Int32 × HP)} (hQ : Q < 1500) (hp : p < 1500) : s_AdjoinedSetsModel_replaced_147 c12 200 X (nI EE) (nI Q) (nI p) (sw h w0 P A B) = if h.1 201 Q = h.1 201 p then c12 200 X (nI EE) (nI (Q + 1)) (nI (p + 1)) (sw h w0 P A B) else some (-1, sw h w0 P A B) := by
  unfold s_AdjoinedSetsModel_replaced_147 s_AdjoinedSetsModel_replaced_169
  rw [rR_200_0, ob_s, rA_201 hQ, ob_s, sw_201, ob_s, rA_201 hp, ob_s, sw_201, nI_1, nI_1]
theorem rp_0 {Q o p EE r : Nat} (hs : s ≤ p) (h60 : p < 60) (ho : o ≤ 1440) (hE : o + p < EE) (hEE : EE < 2 ^ 30) (hQ : Q < 1500) (hA : A (p - s) = 0) : s_AdjoinedSetsModel_replaced_12 (r + 1) 200 (nI (o + s)) (nI EE) (nI Q) (nI (o + p)) (sw h w0 P A B) = if h.1 201 Q = h.1 201 (o + p) then s_AdjoinedSetsModel_replaced_12 r 200 (nI (o + s)) (nI EE) (nI (Q + 1)) (nI (o + (p + 1))) (sw h w0 P A B) else some (-1, sw h w0 P A B) := by
  have e : nI (o + p) - nI (o + s) = nI (p - s) := by rw [pk_sub (by omega)]; congr 1; omega
  rw [s_AdjoinedSetsModel_replaced_12]
  dsimp only
  unfold s_AdjoinedSetsModel_replaced_69 s_AdjoinedSetsModel_replaced_70
  rw [if_neg (nI_ge hE (by omega)), rR_200_0, ob_s, rA_201 (by omega), ob_s, rR_200_13, ob_s, e, rA_210 (by omega), ob_s, sw_210, hA, if_pos rfl, if_pos rfl, rp_147 hQ (by omega)]
  rfl
theorem rp_1 {Q o p EE r : Nat} {bo : Int32} (hs : s ≤ p) (h60 : p < 60) (ho : o ≤ 1440) (hE : o + p < EE) (hEE : EE < 2 ^ 30) (hQ : Q < 1500) (hA : A (p - s) = 1) (hB : B (p - s) = bo) (hL : 97 ≤ h.1 201 (o + p) ∧ h.1 201 (o + p) < 105) (hn : tb bo (lwN (h.1 201 (o + p))) = true ∨ h.1 223 (lwN (h.1 201 (o + p))) = 0) : s_AdjoinedSetsModel_replaced_12 (r + 1) 200 (nI (o + s)) (nI EE) (nI Q) (nI (o + p)) (sw h w0 P A B) = if h.1 201 Q = h.1 201 (o + p) then s_AdjoinedSetsModel_replaced_12 r 200 (nI (o + s)) (nI EE) (nI (Q + 1)) (nI (o + (p + 1))) (sw h w0 P A B) else some (-1, sw h w0 P A B) := by
  have e : nI (o + p) - nI (o + s) = nI (p - s) := by rw [pk_sub (by omega)]; congr 1; omega
  have hl8 := (lw_n hL).2
  rw [s_AdjoinedSetsModel_replaced_12]
  dsimp only
  unfold s_AdjoinedSetsModel_replaced_69
  rw [if_neg (nI_ge hE (by omega)), rR_200_0, ob_s, rA_201 (by omega), ob_s, rR_200_13, ob_s, e, rA_210 (by omega), ob_s, sw_210, hA, if_neg (by decide), rR_200_14, ob_s, rA_211 (by omega), ob_s, sw_211, hB, sw_201, ob_s, rA_201 (by omega), ob_s, sw_201, ml_bit hL, ob_s, (lw_n hL).1]
  by_cases hb : tb bo (lwN (h.1 201 (o + p))) = true
  · rw [if_neg (fun q => by rw [(tb_z bo hl8).mp q] at hb; cases hb)]
    unfold s_AdjoinedSetsModel_replaced_70
    rw [if_pos rfl, rp_147 hQ (by omega)]
    rfl
  · have h0 : h.1 223 (lwN (h.1 201 (o + p))) = 0 := by
      rcases hn with z | z
      · exact absurd z hb
      · exact z
    rw [if_pos ((tb_z bo hl8).mpr (by cases hq : tb bo (lwN (h.1 201 (o + p))) with | true => exact absurd hq hb | false => rfl))]
    unfold s_AdjoinedSetsModel_replaced_70
    rw [if_neg (by decide), rR_200_30, ob_s, rA_223 hl8, ob_s, show (sw h w0 P A B).1 223 = h.1 223 from rfl, h0, if_pos (by decide), rp_147 hQ (by omega)]
    rfl
theorem rp_2 {Q o p EE r n wp : Nat} {bo : Int32} (hs : s ≤ p) (h60 : p < 60) (ho : o ≤ 1440) (hE : o + p < EE) (hEE : EE < 2 ^ 30) (hA : A (p - s) = 1) (hB : B (p - s) = bo) (hL : 97 ≤ h.1 201 (o + p) ∧ h.1 201 (o + p) < 105) (hb : tb bo (lwN (h.1 201 (o + p))) = false) (hl : h.1 223 (lwN (h.1 201 (o + p))) = nI n) (hn0 : 0 < n) (hn60 : n ≤ 60) (hw : h.1 222 (lwN (h.1 201 (o + p))) = nI wp) (hwp : wp + n ≤ 1500) (hQ : Q + n ≤ 1500) : (((bo &&& h.1 224 (lwN (h.1 201 (o + p)))) = 0 ∧ ∀ j, j < n → h.1 201 (Q + j) = h.1 201 (wp + j)) → s_AdjoinedSetsModel_replaced_12 (r + 1) 200 (nI (o + s)) (nI EE) (nI Q) (nI (o + p)) (sw h w0 P A B) = s_AdjoinedSetsModel_replaced_12 r 200 (nI (o + s)) (nI EE) (nI (Q + n)) (nI (o + (p + 1))) (sw h w0 P A B)) ∧ (¬ ((bo &&& h.1 224 (lwN (h.1 201 (o + p)))) = 0 ∧ ∀ j, j < n → h.1 201 (Q + j) = h.1 201 (wp + j)) → s_AdjoinedSetsModel_replaced_12 (r + 1) 200 (nI (o + s)) (nI EE) (nI Q) (nI (o + p)) (sw h w0 P A B) = some (-1, sw h w0 P A B)) := by
  have e : nI (o + p) - nI (o + s) = nI (p - s) := by rw [pk_sub (by omega)]; congr 1; omega
  have hl8 := (lw_n hL).2
  have hsm := m_sm (H := sw h w0 P A B) (a := Q) (b := wp) (m := n) hQ hwp
  rw [s_AdjoinedSetsModel_replaced_12]
  dsimp only
  unfold s_AdjoinedSetsModel_replaced_70 s_AdjoinedSetsModel_replaced_169
  rw [if_neg (nI_ge hE (by omega)), rR_200_0, ob_s, rA_201 (by omega), ob_s, rR_200_13, ob_s, e, rA_210 (by omega), ob_s, sw_210, hA, if_neg (by decide), rR_200_14, ob_s, rA_211 (by omega), ob_s, sw_211, hB, sw_201, ob_s, rA_201 (by omega), ob_s, sw_201, ml_bit hL, ob_s, (lw_n hL).1, if_pos ((tb_z bo hl8).mpr hb), if_neg (by decide), rR_200_30, ob_s, rA_223 hl8, ob_s, show (sw h w0 P A B).1 223 = h.1 223 from rfl, hl, if_neg (show ¬ nI n ≤ 0 from nI_ge (a := 0) hn0 (by omega)), ob_s, rA_211 (by omega), ob_s, sw_211, hB, rR_200_31, ob_s, rA_224 hl8, ob_s, show (sw h w0 P A B).1 224 = h.1 224 from rfl]
  by_cases hf : (bo &&& h.1 224 (lwN (h.1 201 (o + p)))) = 0
  rotate_left
  · rw [if_neg hf]
    exact ⟨fun z => absurd z.1 hf, fun _ => rfl⟩
  rw [if_pos hf, rR_200_29, ob_s, rA_222 hl8, ob_s, show (sw h w0 P A B).1 222 = h.1 222 from rfl, hw, ob_s, rA_223 hl8, ob_s, show (sw h w0 P A B).1 223 = h.1 223 from rfl, hl, rK_200, ob_s]
  by_cases hq : ∀ j, j < n → h.1 201 (Q + j) = h.1 201 (wp + j)
  · rw [hsm.1 hq, ob_s, if_neg (by decide)]
    rw [ob_s, rA_223 hl8, ob_s, show (sw h w0 P A B).1 223 = h.1 223 from rfl, hl, nI_add, nI_1]
    exact ⟨fun _ => rfl, fun z => absurd ⟨hf, hq⟩ z⟩
  · rw [hsm.2 hq, ob_s, if_pos rfl]
    exact ⟨fun z => absurd z.2 hq, fun _ => rfl⟩
end
