/-! Free letters as a set of bits; the class's freeIn. -/
def MSK (x : Int32) (f : Nat → Bool) : Prop := x.toBitVec.toNat < 256 ∧ ∀ l, l < 8 → tb x l = f l
theorem MSK_or {x y : Int32} {f g : Nat → Bool} (h1 : MSK x f) (h2 : MSK y g) : MSK (x ||| y) (fun l => f l || g l) := by
  refine ⟨?_, fun l hl => by rw [tb_or, h1.2 l hl, h2.2 l hl]⟩
  rw [Int32.toBitVec_or, BitVec.toNat_or]
  exact Nat.or_lt_two_pow (n := 8) h1.1 h2.1
theorem MSK_an {x y : Int32} {f g : Nat → Bool} (h1 : MSK x f) (h2 : ∀ l, l < 8 → tb y l = g l) : MSK (x &&& (y ^^^ (-1))) (fun l => f l && !g l) := by
  refine ⟨?_, fun l hl => by rw [tb_and, tb_not _ hl, h1.2 l hl, h2 l hl]⟩
  rw [Int32.toBitVec_and, BitVec.toNat_and]
  exact Nat.lt_of_le_of_lt Nat.and_le_left h1.1
theorem MSK_0 : MSK 0 (fun _ => false) := ⟨by decide, fun l hl => (show ∀ l, l < 8 → tb 0 l = false by decide) l hl⟩
theorem MSK_bit {l : Nat} (hl : l < 8) : MSK (bitI l) (fun j => decide (j = l)) := ⟨(show ∀ l, l < 8 → (bitI l).toBitVec.toNat < 256 by decide) l hl, fun j hj => tb_bit hl hj⟩
theorem MSK_c {x : Int32} {f g : Nat → Bool} (h : MSK x f) (hfg : ∀ l, l < 8 → f l = g l) : MSK x g := ⟨h.1, fun l hl => by rw [h.2 l hl, hfg l hl]⟩
theorem MSK_eq {x y : Int32} {f : Nat → Bool} (h1 : MSK x f) (h2 : MSK y f) : x = y := by
  rw [← Int32.toBitVec_inj]
  apply BitVec.eq_of_getLsbD_eq
  intro i hi
  by_cases h8 : i < 8
  · have a := h1.2 i h8
    have b := h2.2 i h8
    unfold tb at a b
    rw [a, b]
  · have hp : 2 ^ 8 ≤ 2 ^ i := Nat.pow_le_pow_right (by decide) (by omega)
    rw [← BitVec.testBit_toNat, ← BitVec.testBit_toNat, Nat.testBit_lt_two_pow (Nat.lt_of_lt_of_le h1.1 hp), Nat.testBit_lt_two_pow (Nat.lt_of_lt_of_le h2.1 hp)]
theorem MSK_n {x : Int32} {f : Nat → Bool} (h : MSK x f) : ∃ m, m < 256 ∧ x = nI m := by
  refine ⟨x.toBitVec.toNat, h.1, ?_⟩
  rw [← Int32.toBitVec_inj]
  apply BitVec.eq_of_toNat_eq
  have : (nI x.toBitVec.toNat).toBitVec = BitVec.ofNat 32 x.toBitVec.toNat := rfl
  rw [this, BitVec.toNat_ofNat, Nat.mod_eq_of_lt (BitVec.isLt _)]
-- fv, where the parts are known
section
variable {t E : Nat → Int32} {d p e l : Nat}
theorem fv_0 (hl : ¬ (97 ≤ t p ∧ t p < 105)) (hb : ¬ (t p = 123 ∨ t p = 73 ∨ t p = 69 ∨ t p = 76)) (he : E p = nI (p + 1)) (h60 : p < 60) : fv t E (d + 1) p l = false := by
  unfold fv
  rw [if_neg hl, if_neg hb, nI_cl he (by omega)]
  simp
theorem fv_1 (hl : ¬ (97 ≤ t p ∧ t p < 105)) (hb : ¬ (t p = 123 ∨ t p = 73 ∨ t p = 69 ∨ t p = 76)) (he : E p = nI e) (h60 : e ≤ 60) (h1 : p + 1 < e) (hq : E (p + 1) = nI e) : fv t E (d + 1) p l = fv t E d (p + 1) l := by
  unfold fv
  rw [if_neg hl, if_neg hb, nI_cl he h60, nI_cl hq h60]
  simp [h1]
  cases d <;> rfl
theorem fv_2 {q : Nat} (hl : ¬ (97 ≤ t p ∧ t p < 105)) (hb : ¬ (t p = 123 ∨ t p = 73 ∨ t p = 69 ∨ t p = 76)) (he : E p = nI e) (h60 : e ≤ 60) (h1 : p + 1 < q) (hq : E (p + 1) = nI q) (h2 : q < e) (hq2 : E q = nI e) : fv t E (d + 1) p l = (fv t E d (p + 1) l || fv t E d q l) := by
  rw [fv]
  dsimp only
  rw [if_neg hl, if_neg hb, nI_cl he h60, nI_cl hq (by omega), nI_cl hq2 h60]
  have h3 : p + 1 < e := by omega
  simp [h2, h3]
theorem fv_3 {q q2 : Nat} (hl : ¬ (97 ≤ t p ∧ t p < 105)) (hb : ¬ (t p = 123 ∨ t p = 73 ∨ t p = 69 ∨ t p = 76)) (he : E p = nI e) (h60 : e ≤ 60) (h1 : p + 1 < q) (hq : E (p + 1) = nI q) (h2 : q < q2) (hq2 : E q = nI q2) (h3 : q2 < e) : fv t E (d + 1) p l = (fv t E d (p + 1) l || (fv t E d q l || fv t E d q2 l)) := by
  rw [fv]
  dsimp only
  rw [if_neg hl, if_neg hb, nI_cl he h60, nI_cl hq (by omega), nI_cl hq2 (by omega)]
  have h4 : p + 1 < e := by omega
  have h5 : q < e := by omega
  simp [h3, h4, h5]
theorem fv_b {q : Nat} (hb : t p = 123 ∨ t p = 73 ∨ t p = 69 ∨ t p = 76) (he : E p = nI e) (h60 : e ≤ 60) (h1 : p + 2 < q) (hq : E (p + 2) = nI q) (h2 : q < e) (hq2 : E q = nI e) : fv t E (d + 1) p l = (fv t E d (p + 2) l || (fv t E d q l && !decide (l = lwN (t (p + 1))))) := by
  rw [fv]
  dsimp only
  rw [if_neg (by rcases hb with z | z | z | z <;> rw [z] <;> decide), if_pos hb, nI_cl he h60, nI_cl hq (by omega), nI_cl hq2 h60]
  have h3 : p + 2 < e := by omega
  simp [h2, h3]
theorem fv_l (hl : 97 ≤ t p ∧ t p < 105) : fv t E (d + 1) p l = decide (l = lwN (t p)) := by
  rw [fv]
  dsimp only
  rw [if_pos hl]
end
section
variable {S : SG} {h : HP} {t : Nat} {x : TX}
theorem at_h {p : Nat} (hc : cT h t x) (hp : p < x.1) : s_Text_at t (nI p) h = some (x.2.1 p) := by
  have h60 := hc.1.2.2
  rw [p_at hc.1 (by omega), cT_tc hc, if_pos hp]
theorem end_h {p : Nat} (hc : cT h t x) (he : cE h t x) (hp : p < x.1) : s_Text_endOf t (nI p) h = some (x.2.2 p) := by
  have h60 := hc.1.2.2
  rw [p_endOf hc.1 (by omega)]
  unfold te
  rw [if_pos hp, he p hp]
theorem bb_0 {p : Nat} (hc : cT h t x) (hp : p < x.1) (hb : ¬ (x.2.1 p = 123 ∨ x.2.1 p = 73 ∨ x.2.1 p = 69 ∨ x.2.1 p = 76)) (hB : s_AdjoinedSets_isBinder (x.2.1 p) = some 0) : s_Text_boundBy t (nI p) h = some 0 := by
  unfold s_Text_boundBy
  rw [t_kd hc.1.1, ob_s, at_h hc hp, ob_s, hB, ob_s, if_pos rfl]
theorem bb_1 {p : Nat} (hc : cT h t x) (hp : p + 1 < x.1) (hB : s_AdjoinedSets_isBinder (x.2.1 p) = some 1) (hL : 97 ≤ x.2.1 (p + 1) ∧ x.2.1 (p + 1) < 105) : s_Text_boundBy t (nI p) h = some (bitI (lwN (x.2.1 (p + 1)))) := by
  unfold s_Text_boundBy
  rw [t_kd hc.1.1, ob_s, at_h hc (by omega), ob_s, hB, ob_s, if_neg (by decide), nI_1, ob_s, at_h hc hp, ob_s, s_let, if_pos hL, ob_s, if_neg (by decide), ob_s, ob_s, (lw_n hL).1]
  rfl
theorem fp_h0 {p : Nat} (hc : cT h t x) (hp : p < x.1) (hb : s_AdjoinedSets_isBinder (x.2.1 p) = some 0) : s_Text_firstPartOf t (nI p) h = some (nI (p + 1)) := by
  unfold s_Text_firstPartOf
  rw [t_kd hc.1.1, ob_s, at_h hc hp, ob_s, hb, ob_s, if_pos rfl, nI_1]
theorem fp_h1 {p : Nat} (hc : cT h t x) (hp : p < x.1) (hb : s_AdjoinedSets_isBinder (x.2.1 p) = some 1) : s_Text_firstPartOf t (nI p) h = some (nI (p + 2)) := by
  unfold s_Text_firstPartOf
  rw [t_kd hc.1.1, ob_s, at_h hc hp, ob_s, hb, ob_s, if_neg (by decide), show (2 : Int32) = nI 2 from rfl, nI_add]
theorem fr_end {gf : GT_Text_freeIn} {p D q e k r : Nat} {f : Int32} (hk : k < 2 ^ 30) (hq : q < 2 ^ 30) (hx : 3 ≤ k ∨ e ≤ q) : s_Text_freeIn_40 gf (r + 1) t (nI p) (nI D) f (nI q) (nI e) (nI k) h = some f := by
  rw [s_Text_freeIn_40]
  dsimp only
  by_cases h3 : 3 ≤ k
  · rw [if_pos (show 3 ≤ nI k from nI_le (a := 3) h3 (by omega))]
  · rw [if_neg (show ¬ 3 ≤ nI k from nI_ge (b := 3) (by omega) (by omega)), if_pos (nI_le (by omega) (by omega))]
theorem fr_step {gf : GT_Text_freeIn} {p D q e q' k r : Nat} {f y : Int32} (ht : cT h t x) (hE : cE h t x) (hk : k < 3) (hk1 : k ≠ 1) (hD : D < 12) (hq : q < e) (he : e ≤ x.1) (hy : gf t (nI q) (nI (D + 1)) h = some y) (hq' : x.2.2 q = nI q') : s_Text_freeIn_40 gf (r + 1) t (nI p) (nI D) f (nI q) (nI e) (nI k) h = s_Text_freeIn_40 gf r t (nI p) (nI D) (f ||| y) (nI q') (nI e) (nI (k + 1)) h := by
  have h60 := ht.1.2.2
  rw [s_Text_freeIn_40]
  dsimp only
  unfold s_Text_freeIn_93
  rw [if_neg (show ¬ 3 ≤ nI k from nI_ge (b := 3) (by omega) (by omega)), if_neg (nI_ge hq (by omega)), if_neg (show ¬ 12 ≤ nI D from nI_ge (b := 12) (by omega) (by omega)), t_kd ht.1.1, ob_s, nI_1, hy, ob_s, if_neg (show ¬ nI k = 1 from fun z => hk1 ((nI_eq (a := k) (b := 1) (by omega) (by omega)).mp z)), ob_s, end_h ht hE (by omega), ob_s, hq', nI_1]
theorem fr_step1 {gf : GT_Text_freeIn} {p D q e q' r : Nat} {f y b : Int32} (ht : cT h t x) (hE : cE h t x) (hD : D < 12) (hq : q < e) (he : e ≤ x.1) (hy : gf t (nI q) (nI (D + 1)) h = some y) (hb : s_Text_boundBy t (nI p) h = some b) (hq' : x.2.2 q = nI q') : s_Text_freeIn_40 gf (r + 1) t (nI p) (nI D) f (nI q) (nI e) (nI 1) h = s_Text_freeIn_40 gf r t (nI p) (nI D) (f ||| (y &&& (b ^^^ (-1)))) (nI q') (nI e) (nI 2) h := by
  have h60 := ht.1.2.2
  rw [s_Text_freeIn_40]
  dsimp only
  unfold s_Text_freeIn_93
  rw [if_neg (by decide), if_neg (nI_ge hq (by omega)), if_neg (show ¬ 12 ≤ nI D from nI_ge (b := 12) (by omega) (by omega)), t_kd ht.1.1, ob_s, nI_1, hy, ob_s, if_pos (show nI 1 = 1 from rfl), ob_s, hb, ob_s, ob_s, end_h ht hE (by omega), ob_s, hq', nI_1]
theorem KD_pos {k : Nat → Nat} {T E : Nat → Int32} {d : Nat} {b : Bool} {p e : Nat} (hK : KD k T E d b p e) : 0 < d := by
  cases d with
  | zero => exact absurd hK (fun z => z)
  | succ d => omega
theorem c_free {k : Nat → Nat} (hk3 : ∀ f, f < 4 → k f ≤ 3) (ht : cT h t x) (hE : cE h t x) : ∀ (d : Nat) (b : Bool) (p e D g : Nat), KD k x.2.1 x.2.2 d b p e → e ≤ x.1 → d + D ≤ 13 → d ≤ g → ∃ y, s_grp_Text_freeIn g t (nI p) (nI D) h = some y ∧ MSK y (fv x.2.1 x.2.2 d p) := by
  have h60 := ht.1.2.2
  intro d
  induction d with
  | zero => intro b p e D g hK; exact absurd hK (fun z => z)
  | succ d ih =>
    intro b p e D g hK he hD hg
    obtain ⟨g, rfl⟩ : ∃ g0, g = g0 + 1 := ⟨g - 1, by omega⟩
    obtain ⟨hend, hpe, hcase⟩ := hK
    show ∃ y, s_Text_freeIn (s_grp_Text_freeIn g) t (nI p) (nI D) h = some y ∧ _
    unfold s_Text_freeIn
    rw [t_kd ht.1.1, ob_s, at_h ht (by omega), ob_s, s_let]
    -- a character that is no letter and no binder, with m parts
    have parts : ∀ (b1 : Bool) (m : Nat), m ≤ 3 → its (KD k x.2.1 x.2.2 d b1) m (p + 1) e → ¬ (97 ≤ x.2.1 p ∧ x.2.1 p < 105) → s_AdjoinedSets_isBinder (x.2.1 p) = some 0 → ¬ (x.2.1 p = 123 ∨ x.2.1 p = 73 ∨ x.2.1 p = 69 ∨ x.2.1 p = 76) → ∃ y, ((some (if 97 ≤ x.2.1 p ∧ x.2.1 p < 105 then (1 : Int32) else 0)).bind fun q4 => if q4 = 0 then ((some ()).bind fun _ => (s_Text_firstPartOf t (nI p) h).bind fun q7 => (some ()).bind fun _ => (s_Text_endOf t (nI p) h).bind fun q10 => s_Text_freeIn_40 (s_grp_Text_freeIn g) 20000 t (nI p) (nI D) 0 q7 q10 0 h) else some ((1 : Int32) <<< ((x.2.1 p - 97) &&& 31))) = some y ∧ MSK y (fv x.2.1 x.2.2 (d + 1) p) := by
      intro b1 m hm hi hl hB hb
      rw [if_neg hl, ob_s, if_pos rfl, ob_s, fp_h0 ht (by omega) hB, ob_s, ob_s, end_h ht hE (by omega), ob_s, hend, show (0 : Int32) = nI 0 from rfl]
      obtain rfl | rfl | rfl | rfl : m = 0 ∨ m = 1 ∨ m = 2 ∨ m = 3 := by omega
      · have hi : p + 1 = e := hi
        rw [show (20000 : Nat) = 19999 + 1 from rfl, fr_end (by omega) (by omega) (Or.inr (by omega))]
        refine ⟨0, rfl, MSK_c MSK_0 (fun l _ => ?_)⟩
        rw [fv_0 hl hb (by rw [hend, hi]) (by omega)]
      · obtain ⟨q, k1, hi2⟩ := hi
        have hi2 : q = e := hi2
        subst hi2
        obtain ⟨y1, e1, m1⟩ := ih b1 (p + 1) q (D + 1) g k1 he (by omega) (by omega)
        have dp := KD_pos k1
        have c1 := KD_lt k1
        rw [show (20000 : Nat) = 19998 + 1 + 1 from rfl, fr_step ht hE (by omega) (by omega) (by omega) (KD_lt k1) he e1 (KD_end k1), fr_end (by omega) (by omega) (Or.inr (Nat.le_refl _))]
        refine ⟨_, rfl, MSK_c (MSK_or MSK_0 m1) (fun l _ => ?_)⟩
        rw [fv_1 hl hb hend (by omega) c1 (KD_end k1), Bool.false_or]
      · obtain ⟨q, k1, q2, k2, hi2⟩ := hi
        have hi2 : q2 = e := hi2
        subst hi2
        have c1 := KD_lt k1
        have c2 := KD_lt k2
        have dp := KD_pos k1
        obtain ⟨y1, e1, m1⟩ := ih b1 (p + 1) q (D + 1) g k1 (by omega) (by omega) (by omega)
        obtain ⟨y2, e2, m2⟩ := ih b1 q q2 (D + 1) g k2 he (by omega) (by omega)
        rw [show (20000 : Nat) = 19997 + 1 + 1 + 1 from rfl, fr_step ht hE (by omega) (by omega) (by omega) (by omega) he e1 (KD_end k1), fr_step1 ht hE (by omega) c2 he e2 (bb_0 ht (by omega) hb hB) (KD_end k2), fr_end (by omega) (by omega) (Or.inr (Nat.le_refl _))]
        refine ⟨_, rfl, MSK_c (MSK_or (MSK_or MSK_0 m1) (MSK_an m2 (g := fun _ => false) MSK_0.2)) (fun l _ => ?_)⟩
        rw [fv_2 hl hb hend (by omega) c1 (KD_end k1) c2 (KD_end k2)]
        simp
      · obtain ⟨q, k1, q2, k2, q3, k3, hi2⟩ := hi
        have hi2 : q3 = e := hi2
        subst hi2
        have c1 := KD_lt k1
        have c2 := KD_lt k2
        have c3 := KD_lt k3
        have dp := KD_pos k1
        obtain ⟨y1, e1, m1⟩ := ih b1 (p + 1) q (D + 1) g k1 (by omega) (by omega) (by omega)
        obtain ⟨y2, e2, m2⟩ := ih b1 q q2 (D + 1) g k2 (by omega) (by omega) (by omega)
        obtain ⟨y3, e3, m3⟩ := ih b1 q2 q3 (D + 1) g k3 he (by omega) (by omega)
        rw [show (20000 : Nat) = 19996 + 1 + 1 + 1 + 1 from rfl, fr_step ht hE (by omega) (by omega) (by omega) (by omega) he e1 (KD_end k1), fr_step1 ht hE (by omega) (by omega) he e2 (bb_0 ht (by omega) hb hB) (KD_end k2), fr_step ht hE (by omega) (by omega) (by omega) (by omega) he e3 (KD_end k3), fr_end (by omega) (by omega) (Or.inl (by omega))]
        refine ⟨_, rfl, MSK_c (MSK_or (MSK_or (MSK_or MSK_0 m1) (MSK_an m2 (g := fun _ => false) MSK_0.2)) m3) (fun l _ => ?_)⟩
        rw [fv_3 hl hb hend (by omega) c1 (KD_end k1) c2 (KD_end k2) c3]
        simp [Bool.or_assoc]
    have bnd : ∀ (b2 : Bool) (q : Nat), KD k x.2.1 x.2.2 d false (p + 2) q → KD k x.2.1 x.2.2 d b2 q e → (97 ≤ x.2.1 (p + 1) ∧ x.2.1 (p + 1) < 105) → (x.2.1 p = 123 ∨ x.2.1 p = 73 ∨ x.2.1 p = 69 ∨ x.2.1 p = 76) → ∃ y, ((some (if 97 ≤ x.2.1 p ∧ x.2.1 p < 105 then (1 : Int32) else 0)).bind fun q4 => if q4 = 0 then ((some ()).bind fun _ => (s_Text_firstPartOf t (nI p) h).bind fun q7 => (some ()).bind fun _ => (s_Text_endOf t (nI p) h).bind fun q10 => s_Text_freeIn_40 (s_grp_Text_freeIn g) 20000 t (nI p) (nI D) 0 q7 q10 0 h) else some ((1 : Int32) <<< ((x.2.1 p - 97) &&& 31))) = some y ∧ MSK y (fv x.2.1 x.2.2 (d + 1) p) := by
      intro b2 q k1 k2 hL hb
      have hB : s_AdjoinedSets_isBinder (x.2.1 p) = some 1 := by rcases hb with z | z | z | z <;> rw [z] <;> rfl
      have hl : ¬ (97 ≤ x.2.1 p ∧ x.2.1 p < 105) := by rcases hb with z | z | z | z <;> rw [z] <;> decide
      have c1 := KD_lt k1
      have c2 := KD_lt k2
      have dp := KD_pos k1
      obtain ⟨y1, e1, m1⟩ := ih false (p + 2) q (D + 1) g k1 (by omega) (by omega) (by omega)
      obtain ⟨y2, e2, m2⟩ := ih b2 q e (D + 1) g k2 he (by omega) (by omega)
      rw [if_neg hl, ob_s, if_pos rfl, ob_s, fp_h1 ht (by omega) hB, ob_s, ob_s, end_h ht hE (by omega), ob_s, hend, show (0 : Int32) = nI 0 from rfl]
      rw [show (20000 : Nat) = 19997 + 1 + 1 + 1 from rfl, fr_step ht hE (by omega) (by omega) (by omega) (by omega) he e1 (KD_end k1), fr_step1 ht hE (by omega) c2 he e2 (bb_1 ht (by omega) hB hL) (KD_end k2), fr_end (by omega) (by omega) (Or.inr (Nat.le_refl _))]
      refine ⟨_, rfl, MSK_c (MSK_or (MSK_or MSK_0 m1) (MSK_an m2 (g := fun j => decide (j = lwN (x.2.1 (p + 1)))) (fun j hj => tb_bit (lw_n hL).2 hj))) (fun l _ => ?_)⟩
      rw [fv_b hb hend (by omega) c1 (KD_end k1) c2 (KD_end k2), Bool.false_or]
    cases b with
    | true =>
      rcases hcase with ⟨hc, q, k1, k2⟩ | ⟨hc, k1⟩ | ⟨hc, q, k1, k2⟩ | ⟨hc, hL, q, k1, k2⟩
      · exact parts false 2 (by omega) ⟨q, k1, e, k2, rfl⟩ (by rcases hc with z | z <;> rw [z] <;> decide) (by rcases hc with z | z <;> rw [z] <;> rfl) (by rcases hc with z | z <;> rw [z] <;> decide)
      · exact parts true 1 (by omega) ⟨e, k1, rfl⟩ (by rw [hc]; decide) (by rw [hc]; rfl) (by rw [hc]; decide)
      · exact parts true 2 (by omega) ⟨q, k1, e, k2, rfl⟩ (by rcases hc with z | z | z <;> rw [z] <;> decide) (by rcases hc with z | z | z <;> rw [z] <;> rfl) (by rcases hc with z | z | z <;> rw [z] <;> decide)
      · exact bnd true q k1 k2 hL (by rcases hc with z | z <;> simp [z])
    | false =>
      rcases hcase with ⟨hc, hx⟩ | ⟨hc, hx⟩ | ⟨hc, hk0, hi⟩ | ⟨hc, q, k1, k2⟩ | ⟨hc, k1⟩ | ⟨hc, hL, q, k1, k2⟩ | ⟨hc, hL, q, k1, k2⟩
      · obtain ⟨j, hj, hcj⟩ := dg_j hc
        have hall : ∀ j, j < 10 → ¬ (97 ≤ nI (48 + j) ∧ nI (48 + j) < 105) ∧ s_AdjoinedSets_isBinder (nI (48 + j)) = some 0 ∧ ¬ (nI (48 + j) = 123 ∨ nI (48 + j) = 73 ∨ nI (48 + j) = 69 ∨ nI (48 + j) = 76) := by decide
        obtain ⟨z1, z2, z3⟩ := hall j hj
        rw [← hcj] at z1 z2 z3
        exact parts false 0 (by omega) hx.symm z1 z2 z3
      · have hc' : 97 ≤ x.2.1 p ∧ x.2.1 p < 105 := hc
        rw [if_pos hc', ob_s, if_neg (by decide), (lw_n hc').1]
        refine ⟨_, rfl, MSK_c (MSK_bit (lw_n hc').2) (fun l _ => ?_)⟩
        rw [fv_l hc']
      · have hf' : 65 ≤ x.2.1 p ∧ x.2.1 p < 69 := hc
        have hfn := fn_n hf'
        have hj : x.2.1 p = nI (65 + fnN (x.2.1 p)) := by
          rw [← nI_add, ← hfn.1]
          show x.2.1 p = 65 + (x.2.1 p - 65)
          rw [Int32.add_comm, Int32.sub_add_cancel]
        have hall : ∀ j, j < 4 → ¬ (97 ≤ nI (65 + j) ∧ nI (65 + j) < 105) ∧ s_AdjoinedSets_isBinder (nI (65 + j)) = some 0 ∧ ¬ (nI (65 + j) = 123 ∨ nI (65 + j) = 73 ∨ nI (65 + j) = 69 ∨ nI (65 + j) = 76) := by decide
        obtain ⟨z1, z2, z3⟩ := hall _ hfn.2
        rw [← hj] at z1 z2 z3
        exact parts false _ (hk3 _ hfn.2) hi z1 z2 z3
      · exact parts false 2 (by omega) ⟨q, k1, e, k2, rfl⟩ (by rcases hc with z | z | z | z <;> rw [z] <;> decide) (by rcases hc with z | z | z | z <;> rw [z] <;> rfl) (by rcases hc with z | z | z | z <;> rw [z] <;> decide)
      · exact parts false 1 (by omega) ⟨e, k1, rfl⟩ (by rcases hc with z | z | z <;> rw [z] <;> decide) (by rcases hc with z | z | z <;> rw [z] <;> rfl) (by rcases hc with z | z | z <;> rw [z] <;> decide)
      · exact bnd true q k1 k2 hL (by simp [hc])
      · exact bnd false q k1 k2 hL (by simp [hc])
end
