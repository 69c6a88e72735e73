/-! The model's freeIn. -/
section
variable {h : HP} {x : TX} {o s : Nat} {K : Nat → Nat} {w : Nat} {P : Nat → Nat → Int32} {A B : Nat → Int32}
theorem SP_end {k : Nat → Nat} {t E : Nat → Int32} {s : Nat} {A B : Nat → Int32} {d : Nat} {bo : Int32} {b : Bool} {p e : Nat} (h : SP k t E s A B d bo b p e) : E p = nI e := by
  cases d with
  | zero => exact absurd h (fun z => z)
  | succ d => exact h.1
theorem f11_0 {p EE r : Nat} {f : Int32} (hp : s ≤ p) (h60 : p < 60) (hE : o + p < EE) (hEE : EE < 2 ^ 30) (hA : A (p - s) = 0) : s_AdjoinedSetsModel_freeIn_11 (r + 1) 200 (nI (o + s)) (nI EE) f (nI (o + p)) (sw h w P A B) = s_AdjoinedSetsModel_freeIn_11 r 200 (nI (o + s)) (nI EE) f (nI (o + (p + 1))) (sw h w P A B) := by
  have e : nI (o + p) - nI (o + s) = nI (p - s) := by rw [pk_sub (by omega)]; congr 1; omega
  rw [s_AdjoinedSetsModel_freeIn_11]
  dsimp only
  unfold s_AdjoinedSetsModel_freeIn_65
  rw [if_neg (nI_ge hE (by omega)), rR_200_13, ob_s, e, rA_210 (by omega), ob_s, sw_210, hA, if_pos rfl, nI_1]
  rfl
theorem f11_1 (ht : mT h o x) (ho : o + x.1 ≤ 1490) {p EE r : Nat} {f bo : Int32} (hp : s ≤ p) (hpx : p < x.1) (h60 : p < 60) (hE : o + p < EE) (hEE : EE < 2 ^ 30) (hA : A (p - s) = 1) (hB : B (p - s) = bo) (hL : 97 ≤ x.2.1 p ∧ x.2.1 p < 105) : s_AdjoinedSetsModel_freeIn_11 (r + 1) 200 (nI (o + s)) (nI EE) f (nI (o + p)) (sw h w P A B) = s_AdjoinedSetsModel_freeIn_11 r 200 (nI (o + s)) (nI EE) (if tb bo (lwN (x.2.1 p)) = true then f else f ||| bitI (lwN (x.2.1 p))) (nI (o + (p + 1))) (sw h w P A B) := by
  have e : nI (o + p) - nI (o + s) = nI (p - s) := by rw [pk_sub (by omega)]; congr 1; omega
  rw [s_AdjoinedSetsModel_freeIn_11]
  dsimp only
  unfold s_AdjoinedSetsModel_freeIn_65
  rw [if_neg (nI_ge hE (by omega)), rR_200_13, ob_s, e, rA_210 (by omega), ob_s, sw_210, hA, if_neg (by decide), rR_200_14, ob_s, rA_211 (by omega), ob_s, sw_211, hB, rR_200_0, ob_s, rA_201 (by omega), ob_s, sw_201, ht p hpx, ml_bit hL, ob_s, nI_1]
  by_cases hb : tb bo (lwN (x.2.1 p)) = true
  · rw [if_neg (fun q => by rw [(tb_z bo (lw_n hL).2).mp q] at hb; cases hb), if_pos hb]
    rfl
  · rw [if_pos ((tb_z bo (lw_n hL).2).mpr (by cases hq : tb bo (lwN (x.2.1 p)) with | true => exact absurd hq hb | false => rfl)), if_neg hb, ob_s, rA_201 (by omega), ob_s, sw_201, ht p hpx, ml_bit hL, ob_s]
    rfl
theorem f11_all (ht : mT h o x) (ho : o + x.1 ≤ 1490) (hx : x.1 ≤ 60) (hK3 : ∀ f, f < 4 → K f ≤ 3) {EE : Nat} (hEE : EE < 2 ^ 30) : ∀ (d : Nat) (bo : Int32) (b : Bool) (p e : Nat), SP K x.2.1 x.2.2 s A B d bo b p e → e ≤ x.1 → s ≤ p → o + e ≤ EE → ∀ (f : Int32) (g : Nat → Bool), MSK f g → ∃ f', MSK f' (fun l => g l || (fv x.2.1 x.2.2 d p l && !tb bo l)) ∧ ∀ r, s_AdjoinedSetsModel_freeIn_11 (r + (e - p)) 200 (nI (o + s)) (nI EE) f (nI (o + p)) (sw h w P A B) = s_AdjoinedSetsModel_freeIn_11 r 200 (nI (o + s)) (nI EE) f' (nI (o + e)) (sw h w P A B) := by
  intro d
  induction d with
  | zero => intro bo b p e hk; exact absurd hk (fun q => q)
  | succ d ih =>
    intro bo b p e hSP he hs hEe f g hf
    obtain ⟨hend, hpe, hA, hB, hcase⟩ := hSP
    have parts : ∀ (b1 : Bool) (m : Nat), m ≤ 3 → its (SP K x.2.1 x.2.2 s A B d bo b1) m (p + 1) e → ¬ (97 ≤ x.2.1 p ∧ x.2.1 p < 105) → ¬ (x.2.1 p = 123 ∨ x.2.1 p = 73 ∨ x.2.1 p = 69 ∨ x.2.1 p = 76) → ∃ f', MSK f' (fun l => g l || (fv x.2.1 x.2.2 (d + 1) p l && !tb bo l)) ∧ ∀ r, s_AdjoinedSetsModel_freeIn_11 (r + (e - p)) 200 (nI (o + s)) (nI EE) f (nI (o + p)) (sw h w P A B) = s_AdjoinedSetsModel_freeIn_11 r 200 (nI (o + s)) (nI EE) f' (nI (o + e)) (sw h w P A B) := by
      intro b1 m hm hi hl hb
      rw [if_neg hl] at hA
      have st : ∀ r, s_AdjoinedSetsModel_freeIn_11 (r + 1) 200 (nI (o + s)) (nI EE) f (nI (o + p)) (sw h w P A B) = s_AdjoinedSetsModel_freeIn_11 r 200 (nI (o + s)) (nI EE) f (nI (o + (p + 1))) (sw h w P A B) := fun r => f11_0 hs (by omega) (by omega) hEE hA
      obtain rfl | rfl | rfl | rfl : m = 0 ∨ m = 1 ∨ m = 2 ∨ m = 3 := by omega
      · have hi : p + 1 = e := hi
        refine ⟨f, MSK_c hf (fun l _ => ?_), fun r => ?_⟩
        · rw [fv_0 hl hb (by rw [hend, hi]) (by omega)]
          simp
        · rw [show r + (e - p) = r + 1 by omega, st, hi]
      · obtain ⟨q, k1, hi2⟩ := hi
        have hi2 : q = e := hi2
        subst hi2
        have c1 := SP_lt k1
        obtain ⟨f1, m1, e1⟩ := ih bo b1 (p + 1) q k1 he (by omega) hEe f g hf
        refine ⟨f1, MSK_c m1 (fun l _ => ?_), fun r => ?_⟩
        · rw [fv_1 hl hb hend (by omega) c1 (SP_end k1)]
        · rw [show r + (q - p) = (r + (q - (p + 1))) + 1 by omega, st, e1]
      · obtain ⟨q, k1, q2, k2, hi2⟩ := hi
        have hi2 : q2 = e := hi2
        subst hi2
        have c1 := SP_lt k1
        have c2 := SP_lt k2
        obtain ⟨f1, m1, e1⟩ := ih bo b1 (p + 1) q k1 (by omega) (by omega) (by omega) f g hf
        obtain ⟨f2, m2, e2⟩ := ih bo b1 q q2 k2 he (by omega) hEe f1 _ m1
        refine ⟨f2, MSK_c m2 (fun l _ => ?_), fun r => ?_⟩
        · rw [fv_2 hl hb hend (by omega) c1 (SP_end k1) c2 (SP_end k2)]
          cases g l <;> cases fv x.2.1 x.2.2 d (p + 1) l <;> cases fv x.2.1 x.2.2 d q l <;> cases tb bo l <;> rfl
        · rw [show r + (q2 - p) = ((r + (q2 - q)) + (q - (p + 1))) + 1 by omega, st, e1, e2]
      · obtain ⟨q, k1, q2, k2, q3, k3, hi2⟩ := hi
        have hi2 : q3 = e := hi2
        subst hi2
        have c1 := SP_lt k1
        have c2 := SP_lt k2
        have c3 := SP_lt k3
        obtain ⟨f1, m1, e1⟩ := ih bo b1 (p + 1) q k1 (by omega) (by omega) (by omega) f g hf
        obtain ⟨f2, m2, e2⟩ := ih bo b1 q q2 k2 (by omega) (by omega) (by omega) f1 _ m1
        obtain ⟨f3, m3, e3⟩ := ih bo b1 q2 q3 k3 he (by omega) hEe f2 _ m2
        refine ⟨f3, MSK_c m3 (fun l _ => ?_), fun r => ?_⟩
        · rw [fv_3 hl hb hend (by omega) c1 (SP_end k1) c2 (SP_end k2) c3]
          cases g l <;> cases fv x.2.1 x.2.2 d (p + 1) l <;> cases fv x.2.1 x.2.2 d q l <;> cases fv x.2.1 x.2.2 d q2 l <;> cases tb bo l <;> rfl
        · rw [show r + (q3 - p) = (((r + (q3 - q2)) + (q2 - q)) + (q - (p + 1))) + 1 by omega, st, e1, e2, e3]
    have bnd : ∀ (b2 : Bool) (q : Nat), SP K x.2.1 x.2.2 s A B d bo false (p + 2) q → SP K x.2.1 x.2.2 s A B d (bo ||| bitI (lwN (x.2.1 (p + 1)))) b2 q e → isLw (x.2.1 (p + 1)) → (x.2.1 p = 123 ∨ x.2.1 p = 73 ∨ x.2.1 p = 69 ∨ x.2.1 p = 76) → A (p + 1 - s) = 0 → ∃ f', MSK f' (fun l => g l || (fv x.2.1 x.2.2 (d + 1) p l && !tb bo l)) ∧ ∀ r, s_AdjoinedSetsModel_freeIn_11 (r + (e - p)) 200 (nI (o + s)) (nI EE) f (nI (o + p)) (sw h w P A B) = s_AdjoinedSetsModel_freeIn_11 r 200 (nI (o + s)) (nI EE) f' (nI (o + e)) (sw h w P A B) := by
      intro b2 q k1 k2 hL hb hA1
      have hl : ¬ (97 ≤ x.2.1 p ∧ x.2.1 p < 105) := by rcases hb with z | z | z | z <;> rw [z] <;> decide
      rw [if_neg hl] at hA
      have c1 := SP_lt k1
      have c2 := SP_lt k2
      obtain ⟨f1, m1, e1⟩ := ih bo false (p + 2) q k1 (by omega) (by omega) (by omega) f g hf
      obtain ⟨f2, m2, e2⟩ := ih _ b2 q e k2 he (by omega) hEe f1 _ m1
      refine ⟨f2, MSK_c m2 (fun l hl8 => ?_), fun r => ?_⟩
      · rw [fv_b hb hend (by omega) c1 (SP_end k1) c2 (SP_end k2), tb_or, tb_bit (lw_n hL).2 hl8]
        cases g l <;> cases fv x.2.1 x.2.2 d (p + 2) l <;> cases fv x.2.1 x.2.2 d q l <;> cases tb bo l <;> cases decide (l = lwN (x.2.1 (p + 1))) <;> rfl
      · rw [show r + (e - p) = (((r + (e - q)) + (q - (p + 2))) + 1) + 1 by omega, f11_0 hs (by omega) (by omega) hEE hA, f11_0 (p := p + 1) (by omega) (by omega) (by omega) hEE hA1, e1, e2]
    cases b with
    | true =>
      rcases hcase with ⟨hc, q, k1, k2⟩ | ⟨hc, k1⟩ | ⟨hc, q, k1, k2⟩ | ⟨hc, hL, a3, a4, q, k1, k2⟩
      · exact parts false 2 (by omega) ⟨q, k1, e, k2, rfl⟩ (by rcases hc with z | z <;> rw [z] <;> decide) (by rcases hc with z | z <;> rw [z] <;> decide)
      · exact parts true 1 (by omega) ⟨e, k1, rfl⟩ (by rw [hc]; decide) (by rw [hc]; decide)
      · exact parts true 2 (by omega) ⟨q, k1, e, k2, rfl⟩ (by rcases hc with z | z | z <;> rw [z] <;> decide) (by rcases hc with z | z | z <;> rw [z] <;> decide)
      · exact bnd true q k1 k2 hL (by rcases hc with z | z <;> simp [z]) a3
    | false =>
      rcases hcase with ⟨hc, hx⟩ | ⟨hc, hx⟩ | ⟨hc, hk0, hi⟩ | ⟨hc, q, k1, k2⟩ | ⟨hc, k1⟩ | ⟨hc, hL, a3, a4, q, k1, k2⟩ | ⟨hc, hL, a3, a4, q, k1, k2⟩
      · obtain ⟨j, hj, hcj⟩ := dg_j hc
        have hall : ∀ j, j < 10 → ¬ (97 ≤ nI (48 + j) ∧ nI (48 + j) < 105) ∧ ¬ (nI (48 + j) = 123 ∨ nI (48 + j) = 73 ∨ nI (48 + j) = 69 ∨ nI (48 + j) = 76) := by decide
        obtain ⟨z1, z3⟩ := hall j hj
        rw [← hcj] at z1 z3
        exact parts false 0 (by omega) hx.symm z1 z3
      · have hc' : 97 ≤ x.2.1 p ∧ x.2.1 p < 105 := hc
        rw [if_pos hc'] at hA
        refine ⟨if tb bo (lwN (x.2.1 p)) = true then f else f ||| bitI (lwN (x.2.1 p)), ?_, fun r => ?_⟩
        · by_cases hb : tb bo (lwN (x.2.1 p)) = true
          · rw [if_pos hb]
            refine MSK_c hf (fun l _ => ?_)
            rw [fv_l hc']
            by_cases hle : l = lwN (x.2.1 p)
            · rw [hle, hb]; simp
            · simp [hle]
          · rw [if_neg hb]
            refine MSK_c (MSK_or hf (MSK_bit (lw_n hc').2)) (fun l _ => ?_)
            rw [fv_l hc']
            by_cases hle : l = lwN (x.2.1 p)
            · rw [hle]; simp [hb]
            · simp [hle]
        · rw [show r + (e - p) = r + 1 by omega, f11_1 ht ho hs (by omega) (by omega) (by omega) hEE hA hB hc', hx]
      · have hf' : 65 ≤ x.2.1 p ∧ x.2.1 p < 69 := hc
        have hfn := fn_n hf'
        have hj : x.2.1 p = nI (65 + fnN (x.2.1 p)) := by
          rw [← nI_add, ← hfn.1]
          show x.2.1 p = 65 + (x.2.1 p - 65)
          rw [Int32.add_comm, Int32.sub_add_cancel]
        have hall : ∀ j, j < 4 → ¬ (97 ≤ nI (65 + j) ∧ nI (65 + j) < 105) ∧ ¬ (nI (65 + j) = 123 ∨ nI (65 + j) = 73 ∨ nI (65 + j) = 69 ∨ nI (65 + j) = 76) := by decide
        obtain ⟨z1, z3⟩ := hall _ hfn.2
        rw [← hj] at z1 z3
        exact parts false _ (hK3 _ hfn.2) hi z1 z3
      · exact parts false 2 (by omega) ⟨q, k1, e, k2, rfl⟩ (by rcases hc with z | z | z | z <;> rw [z] <;> decide) (by rcases hc with z | z | z | z <;> rw [z] <;> decide)
      · exact parts false 1 (by omega) ⟨e, k1, rfl⟩ (by rcases hc with z | z | z <;> rw [z] <;> decide) (by rcases hc with z | z | z <;> rw [z] <;> decide)
      · exact bnd true q k1 k2 hL (by simp [hc]) a3
      · exact bnd false q k1 k2 hL (by simp [hc]) a3
theorem m_free (ht : mT h o x) (ho : o + x.1 ≤ 1490) (hx : x.1 ≤ 60) (hK : ∀ f, f < 4 → h.1 203 f = nI (K f)) (hK3 : ∀ f, f < 4 → K f ≤ 3) {d : Nat} {b : Bool} {e : Nat} (hd : d ≤ 12) (hKD : KD K x.2.1 x.2.2 d b s e) (he : e ≤ x.1) : ∃ y P A B, s_AdjoinedSetsModel_freeIn 200 (nI (o + s)) h = some (y, sw h 0 P A B) ∧ MSK y (fv x.2.1 x.2.2 d s) := by
  obtain ⟨P, A, B, e1, sp⟩ := m_scan ht ho hx hK hK3 hd hKD he
  have l := KD_lt hKD
  obtain ⟨f, m1, e2⟩ := f11_all (w := 0) (P := P) ht ho hx hK3 (EE := o + e) (by omega) d 0 b s e sp he (Nat.le_refl _) (Nat.le_refl _) 0 _ MSK_0
  refine ⟨f, P, A, B, ?_, MSK_c m1 (fun l hl => ?_)⟩
  · unfold s_AdjoinedSetsModel_freeIn
    rw [rK_200, ob_s, e1, ob_s]
    dsimp only
    have e3 := e2 (20000 - (e - s))
    rw [show 20000 - (e - s) + (e - s) = 20000 by omega] at e3
    rw [e3, show 20000 - (e - s) = (20000 - (e - s) - 1) + 1 by omega, s_AdjoinedSetsModel_freeIn_11]
    dsimp only
    rw [if_pos (nI_le (Nat.le_refl _) (by omega))]
  · rw [MSK_0.2 l hl]
    simp
end
