/-! The model's machine: environments, take, goOn. -/
theorem ob_e {α : Type} (x : Option α) : (x.bind fun q => some q) = x := by cases x <;> rfl
/-- the letters' values as the machine finds them from env, whatever lies at f and above -/
def VR (h : HP) (f : Nat) (env : Int32) (a : Nat → Int64) (F : Nat → Nat → Int32) (G : Nat → Nat → Int64) : Prop := ∀ dp n ot F' G' rs, (∀ m i, i < f → F' m i = F m i ∧ G' m i = G m i) → ∀ l, l < 8 → ∀ k, f < k → s_AdjoinedSetsModel_valueOf_2 k 200 (nI l) env (mw h dp n ot F' G' rs) = some (a l)
theorem VR.mono {h : HP} {f f' : Nat} {env : Int32} {a : Nat → Int64} {F F' : Nat → Nat → Int32} {G G' : Nat → Nat → Int64} (hv : VR h f env a F G) (hf : f ≤ f') (ha : ∀ m i, i < f → F' m i = F m i ∧ G' m i = G m i) : VR h f' env a F' G' := fun dp n ot F2 G2 rs hag l hl k hk => hv dp n ot F2 G2 rs (fun m i hi => ⟨(hag m i (by omega)).1.trans (ha m i hi).1, (hag m i (by omega)).2.trans (ha m i hi).2⟩) l hl k (by omega)
theorem VR.top {h : HP} {a : Nat → Int64} {F : Nat → Nat → Int32} {G : Nat → Nat → Int64} (hv : ∀ l, l < 8 → h.2.1 202 l = a l) : VR h 0 (-1) a F G := by
  intro dp n ot F' G' rs _ l hl k hk
  obtain ⟨k, rfl⟩ : ∃ k0, k = k0 + 1 := ⟨k - 1, by omega⟩
  rw [s_AdjoinedSetsModel_valueOf_2]
  dsimp only
  rw [if_pos (by decide), rR_200_2, ob_s, rA_202 hl, ob_s, mw_202, hv l hl]
theorem VR.bind {h : HP} {f p : Nat} {env c c1 : Int32} {v : Int64} {a : Nat → Int64} {F : Nat → Nat → Int32} {G : Nat → Nat → Int64} (hv : VR h f env a F G) (hf : f < 32) (hp : p + 1 < 1500) (h1 : F 212 f = nI p) (h2 : h.1 201 p = c) (h3 : s_AdjoinedSetsModel_isFunction c = some 0) (h4 : h.1 201 (p + 1) = c1) (h5 : 97 ≤ c1 ∧ c1 < 105) (h6 : F 213 f = env) (h7 : G 218 f = v) : VR h (f + 1) (nI f) (upR a (lwN c1) v) F G := by
  intro dp n ot F' G' rs hag l hl k hk
  obtain ⟨k, rfl⟩ : ∃ k0, k = k0 + 1 := ⟨k - 1, by omega⟩
  rw [s_AdjoinedSetsModel_valueOf_2]
  dsimp only
  have hl8 := lw_n h5
  rw [if_neg (nI_pos (by omega)), rR_200_0, ob_s, rR_200_18, ob_s, rA_212 hf, ob_s, mw_212, (hag 212 f (by omega)).1, h1, rA_201 (by omega), ob_s, mw_201, h2, h3, ob_s, if_pos rfl, ob_s, ob_s, rA_212 hf, ob_s, mw_212, (hag 212 f (by omega)).1, h1, nI_1, rA_201 hp, ob_s, mw_201, h4, hl8.1]
  unfold upR
  by_cases hle : l = lwN c1
  · rw [if_pos (by rw [hle]), rR_200_24, ob_s, rA_218 hf, ob_s, mw_218, (hag 218 f (by omega)).2, h7, if_pos hle]
  · rw [if_neg (fun q => hle ((nI_eq (a := lwN c1) (b := l) (by omega) (by omega)).mp q).symm), rR_200_19, ob_s, rA_213 hf, ob_s, mw_213, (hag 213 f (by omega)).1, h6, if_neg hle]
    exact hv dp n ot F' G' rs (fun m i hi => hag m i (by omega)) l hl k (by omega)
theorem VR.fn {h : HP} {f p : Nat} {c : Int32} {z : Nat → Int64} {F : Nat → Nat → Int32} {G : Nat → Nat → Int64} (hf : f < 32) (hp : p < 1500) (h1 : F 212 f = nI p) (h2 : h.1 201 p = c) (h3 : s_AdjoinedSetsModel_isFunction c = some 1) (g1 : G 216 f = z 0) (g2 : G 217 f = z 1) (g3 : G 218 f = z 2) : VR h (f + 1) (nI f) (r3 z) F G := by
  intro dp n ot F' G' rs hag l hl k hk
  obtain ⟨k, rfl⟩ : ∃ k0, k = k0 + 1 := ⟨k - 1, by omega⟩
  rw [s_AdjoinedSetsModel_valueOf_2]
  dsimp only
  rw [if_neg (nI_pos (by omega)), rR_200_0, ob_s, rR_200_18, ob_s, rA_212 hf, ob_s, mw_212, (hag 212 f (by omega)).1, h1, rA_201 hp, ob_s, mw_201, h2, h3, ob_s, if_neg (by decide)]
  unfold r3
  by_cases l0 : l = 0
  · rw [if_pos (by rw [l0]; rfl), rR_200_22, ob_s, rA_216 hf, ob_s, mw_216, (hag 216 f (by omega)).2, g1, if_pos l0]
  · rw [if_neg (show ¬ nI l = 0 from fun q => l0 ((nI_eq (a := l) (b := 0) (by omega) (by omega)).mp q)), if_neg l0]
    by_cases l1 : l = 1
    · rw [if_pos (by rw [l1]; rfl), rR_200_23, ob_s, rA_217 hf, ob_s, mw_217, (hag 217 f (by omega)).2, g2, if_pos l1]
    · rw [if_neg (show ¬ nI l = 1 from fun q => l1 ((nI_eq (a := l) (b := 1) (by omega) (by omega)).mp q)), if_neg l1, rR_200_24, ob_s, rA_218 hf, ob_s, mw_218, (hag 218 f (by omega)).2, g3]
/-- what the machine needs of the memory -/
def MM (S : SG) (h : HP) : Prop := (∀ f, f < 4 → h.1 203 f = nI (gK S f)) ∧ (∀ f, f < 4 → gK S f ≠ 0 → mT h (1100 + 60 * f) (gBd S f))
theorem e_mw {S : SG} {h : HP} (hw : WF S) (hm : MM S h) {x : TX} {o d p e : Nat} {b : Bool} (ht : mT h o x) (ho : o + x.1 ≤ 1490) (hx : x.1 ≤ 60) (hd : d ≤ 12) (hk : KD (gK S) x.2.1 x.2.2 d b p e) (he : e ≤ x.1) (dp n : Nat) (ot : Int32) (F : Nat → Nat → Int32) (G : Nat → Nat → Int64) (rs : Int64) : s_AdjoinedSetsModel_endOf 200 (nI (o + p)) (mw h dp n ot F G rs) = some (nI (o + e)) := m_endOf (h := mw h dp n ot F G rs) (K := gK S) (n := x.1) (t := x.2.1) (E := x.2.2) (fun f hf => hm.1 f hf) (fun p hp => ht p hp) ho hx (fun f hf => (hw.2.2.1 f hf).1) hd hk he
section
variable {h : HP} {dp n : Nat} {F : Nat → Nat → Int32} {G : Nat → Nat → Int64} {rs : Int64}
theorem tk_n (hd : dp < 32) {c : Int32} (hb : s_AdjoinedSetsModel_isBinder c = some 0) {s q : Nat} (hs : s ≤ 2) (hF : F 214 dp = nI s) (hE : ∀ F' G', s_AdjoinedSetsModel_endOf 200 (F 215 dp) (mw h (dp + 1) n 0 F' G' rs) = some (nI q)) : s_AdjoinedSetsModel_take 200 (nI dp) c (mw h (dp + 1) n 0 F G rs) = some (mw h (dp + 1) n 0 (up2 (up2 F 214 dp (nI (s + 1))) 215 dp (nI q)) (up2 G (216 + s) dp rs) rs) := by
  have e233 : ∀ G', s_AdjoinedSetsModel_take_233 200 (nI dp) (mw h (dp + 1) n 0 F G' rs) = some (mw h (dp + 1) n 0 (up2 (up2 F 214 dp (nI (s + 1))) 215 dp (nI q)) G' rs) := by
    intro G'
    unfold s_AdjoinedSetsModel_take_233
    rw [rR_200_20, ob_s, rA_214 hd, ob_s, mw_214, hF, nI_1, wA_214 hd, ob_s, mw_sF (by omega), rR_200_21, ob_s, ob_s, rA_215 hd, ob_s, mw_215, up2_n (by decide), rK_200, ob_s, hE, ob_s, wA_215 hd, ob_s, mw_sF (by omega)]
  unfold s_AdjoinedSetsModel_take
  rw [hb, ob_s, if_pos rfl, rR_200_20, ob_s, rA_214 hd, ob_s, mw_214, hF]
  obtain rfl | rfl | rfl : s = 0 ∨ s = 1 ∨ s = 2 := by omega
  · rw [if_pos (show nI 0 = 0 from rfl), rR_200_22, ob_s, rL_200_25, ob_s, mw_25, wA_216 hd, ob_s, mw_sG (by omega)]
    unfold s_AdjoinedSetsModel_take_193
    rw [rR_200_20, ob_s, rA_214 hd, ob_s, mw_214, hF, if_neg (by decide)]
    unfold s_AdjoinedSetsModel_take_213
    rw [rR_200_20, ob_s, rA_214 hd, ob_s, mw_214, hF, if_neg (by decide), e233]
  · rw [if_neg (by decide)]
    unfold s_AdjoinedSetsModel_take_193
    rw [rR_200_20, ob_s, rA_214 hd, ob_s, mw_214, hF, if_pos (show nI 1 = 1 from rfl), rR_200_23, ob_s, rL_200_25, ob_s, mw_25, wA_217 hd, ob_s, mw_sG (by omega)]
    unfold s_AdjoinedSetsModel_take_213
    rw [rR_200_20, ob_s, rA_214 hd, ob_s, mw_214, hF, if_neg (by decide), e233]
  · rw [if_neg (by decide)]
    unfold s_AdjoinedSetsModel_take_193
    rw [rR_200_20, ob_s, rA_214 hd, ob_s, mw_214, hF, if_neg (by decide)]
    unfold s_AdjoinedSetsModel_take_213
    rw [rR_200_20, ob_s, rA_214 hd, ob_s, mw_214, hF, if_pos (show nI 2 = 2 from rfl), rR_200_24, ob_s, rL_200_25, ob_s, mw_25, wA_218 hd, ob_s, mw_sG (by omega), e233]
theorem go_p (hd : dp < 32) {c : Int32} (hD : s_AdjoinedSetsModel_isDigit c = some 0) (hL : s_AdjoinedSetsModel_isLow c = some 0) (hB : s_AdjoinedSetsModel_isBinder c = some 0) {m s : Nat} (hP : s_AdjoinedSetsModel_partsOf 200 c (mw h (dp + 1) n 0 F G rs) = some (nI m)) (hs : F 214 dp = nI s) (hsm : s < m) (hm : m ≤ 3) : s_AdjoinedSetsModel_goOn 200 (nI dp) c (mw h (dp + 1) n 0 F G rs) = s_AdjoinedSetsModel_push 200 (F 215 dp) (F 213 dp) (mw h (dp + 1) n 0 F G rs) := by
  unfold s_AdjoinedSetsModel_goOn
  rw [rK_200, ob_s, hP, ob_s, hD, ob_s, if_pos rfl, hL, ob_s, if_pos rfl, hB, ob_s, if_pos rfl, rR_200_20, ob_s, rA_214 hd, ob_s, mw_214, hs, if_neg (nI_ge hsm (by omega)), rR_200_21, ob_s, rA_215 hd, ob_s, mw_215, rR_200_19, ob_s, rA_213 hd, ob_s, mw_213, ob_s, ob_e]
theorem go_c (hd : dp < 32) {c : Int32} (hD : s_AdjoinedSetsModel_isDigit c = some 0) (hL : s_AdjoinedSetsModel_isLow c = some 0) (hB : s_AdjoinedSetsModel_isBinder c = some 0) (hF : s_AdjoinedSetsModel_isFunction c = some 0) {m : Nat} (hP : s_AdjoinedSetsModel_partsOf 200 c (mw h (dp + 1) n 0 F G rs) = some (nI m)) (hs : F 214 dp = nI m) (hm : m ≤ 3) : s_AdjoinedSetsModel_goOn 200 (nI dp) c (mw h (dp + 1) n 0 F G rs) = (s_AdjoinedSetsModel_combine 200 c (G 216 dp) (G 217 dp) (mw h (dp + 1) n 0 F G rs)).bind fun q => s_AdjoinedSetsModel_finish 200 q.1 q.2 := by
  unfold s_AdjoinedSetsModel_goOn
  rw [rK_200, ob_s, hP, ob_s, hD, ob_s, if_pos rfl, hL, ob_s, if_pos rfl, hB, ob_s, if_pos rfl, rR_200_20, ob_s, rA_214 hd, ob_s, mw_214, hs, if_pos (nI_le (Nat.le_refl _) (by omega)), hF, ob_s, if_pos rfl, rR_200_22, ob_s, rA_216 hd, ob_s, mw_216, rR_200_23, ob_s, rA_217 hd, ob_s, mw_217, ob_s]
  congr 1
theorem go_f (hd : dp < 32) {c : Int32} (hD : s_AdjoinedSetsModel_isDigit c = some 0) (hL : s_AdjoinedSetsModel_isLow c = some 0) (hB : s_AdjoinedSetsModel_isBinder c = some 0) (hF : 65 ≤ c ∧ c < 69) {m : Nat} (hP : s_AdjoinedSetsModel_partsOf 200 c (mw h (dp + 1) n 0 F G rs) = some (nI m)) (hs : F 214 dp = nI m) (hm : m ≤ 3) : s_AdjoinedSetsModel_goOn 200 (nI dp) c (mw h (dp + 1) n 0 F G rs) = s_AdjoinedSetsModel_push 200 (nI (1100 + 60 * fnN c)) (nI dp) (mw h (dp + 1) n 0 F G rs) := by
  unfold s_AdjoinedSetsModel_goOn
  have hfn := fn_n hF
  have e1 : 1100 + 60 * nI (fnN c) = nI (1100 + 60 * fnN c) := by
    rw [show (60 : Int32) = nI 60 from rfl, show (1100 : Int32) = nI 1100 from rfl, pk_mul, nI_add]
  rw [rK_200, ob_s, hP, ob_s, hD, ob_s, if_pos rfl, hL, ob_s, if_pos rfl, hB, ob_s, if_pos rfl, rR_200_20, ob_s, rA_214 hd, ob_s, mw_214, hs, if_pos (nI_le (Nat.le_refl _) (by omega)), ml_fun, if_pos hF, ob_s, if_neg (by decide), ob_s, ob_e, hfn.1, e1]
theorem go_b {c : Int32} (hD : s_AdjoinedSetsModel_isDigit c = some 0) (hL : s_AdjoinedSetsModel_isLow c = some 0) (hB : s_AdjoinedSetsModel_isBinder c = some 1) {ot : Int32} (hP : s_AdjoinedSetsModel_partsOf 200 c (mw h (dp + 1) n ot F G rs) = some 3) : s_AdjoinedSetsModel_goOn 200 (nI dp) c (mw h (dp + 1) n ot F G rs) = s_AdjoinedSetsModel_bind 200 (nI dp) (mw h (dp + 1) n ot F G rs) := by
  unfold s_AdjoinedSetsModel_goOn
  rw [rK_200, ob_s, hP, ob_s, hD, ob_s, if_pos rfl, hL, ob_s, if_pos rfl, hB, ob_s, if_neg (by decide), ob_s, ob_e]
theorem go_d {c : Int32} (hc : 48 ≤ c ∧ c ≤ 57) : s_AdjoinedSetsModel_goOn 200 (nI dp) c (mw h (dp + 1) n 0 F G rs) = some (mw h dp n 0 F G (c - 48).toInt64) := by
  obtain ⟨a, b, b2, d, _⟩ := cl_dig hc
  unfold s_AdjoinedSetsModel_goOn
  rw [rK_200, ob_s, po_0 a b b2 d, ob_s, ml_dig, if_pos hc, ob_s, if_neg (by decide), ob_s, m_finish, ob_s]
theorem go_l (hd : dp < 32) {c : Int32} (hc : 97 ≤ c ∧ c < 105) {v : Int64} (hv : s_AdjoinedSetsModel_valueOf_2 20000 200 (nI (lwN c)) (F 213 dp) (mw h (dp + 1) n 0 F G rs) = some v) : s_AdjoinedSetsModel_goOn 200 (nI dp) c (mw h (dp + 1) n 0 F G rs) = some (mw h dp n 0 F G v) := by
  obtain ⟨a, b, b2, d, e, _⟩ := cl_low hc
  have hnd : s_AdjoinedSetsModel_isDigit c = some 0 := by
    obtain ⟨j, h1, h2, rfl⟩ := lw_q hc
    exact (show ∀ j, j < 105 → 97 ≤ j → s_AdjoinedSetsModel_isDigit (nI j) = some 0 by decide) j h2 h1
  unfold s_AdjoinedSetsModel_goOn s_AdjoinedSetsModel_valueOf
  rw [rK_200, ob_s, po_0 a b b2 d, ob_s, hnd, ob_s, if_pos rfl, e, ob_s, if_neg (by decide), rR_200_19, ob_s, rA_213 hd, ob_s, mw_213, ob_s, (lw_n hc).1, hv, ob_s, ob_s, m_finish, ob_s]
end
/-- a frame at dp works out what EV says -/
def MC (S : SG) (h : HP) (r : Nat) : Prop := ∀ (b : Bool) (x : TX) (o d p e : Nat) (env : Int32) (a : Nat → Int64) (n dp : Nat) (F : Nat → Nat → Int32) (G : Nat → Nat → Int64) (rs : Int64), mT h o x → o + x.1 ≤ 1490 → x.1 ≤ 60 → d ≤ 12 → KD (gK S) x.2.1 x.2.2 d b p e → e ≤ x.1 → dp + r = 32 → VR h dp env a F G → (∀ l, l < 8 → cd (a l)) → n ≤ 3000 → ∃ dp' n' ot F' G', dp ≤ dp' ∧ dp' ≤ 40 ∧ s_AdjoinedSetsModel_push 200 (nI (o + p)) env (mw h dp n 0 F G rs) = some (mw h dp' n' ot F' G' rs) ∧ MO h dp F G (2 * (3001 - n)) (EV (gK S) (gBd S) r b x p a n) 0 (mw h dp' n' ot F' G' rs)
section
variable {S : SG} {h : HP} {r : Nat} {F0 : Nat → Nat → Int32} {G0 : Nat → Nat → Int64}
theorem MO_ch (hMC : MC S h r) {b : Bool} {x : TX} {o d p e n dp : Nat} {env c : Int32} {a : Nat → Int64} {F1 : Nat → Nat → Int32} {G1 : Nat → Nat → Int64} {rs : Int64} {H : HP} {cont : Int64 × Nat → Option (Int64 × Nat)} (ht : mT h o x) (ho : o + x.1 ≤ 1490) (hx : x.1 ≤ 60) (hd : d ≤ 12) (hK : KD (gK S) x.2.1 x.2.2 d b p e) (he : e ≤ x.1) (hdp : dp + 1 + r = 32) (hV : VR h (dp + 1) env a F1 G1) (ha : ∀ l, l < 8 → cd (a l)) (hn : n ≤ 3000) (hs : ∀ k, s_AdjoinedSetsModel_work_23 (k + 1) 200 c H = (s_AdjoinedSetsModel_push 200 (nI (o + p)) env (mw h (dp + 1) n 0 F1 G1 rs)).bind fun q => s_AdjoinedSetsModel_work_119 (s_AdjoinedSetsModel_work_23 k) 200 (nI dp) q) (hk : ∀ q, EV (gK S) (gBd S) r b x p a n = some q → ∀ F' G', (∀ m i, i < dp + 1 → F' m i = F1 m i ∧ G' m i = G1 m i) → MO h dp F0 G0 (Qb q.2) (cont q) 1 (mw h (dp + 1) q.2 0 F' G' q.1)) : MO h dp F0 G0 (Qb n) ((EV (gK S) (gBd S) r b x p a n).bind cont) c H := by
  obtain ⟨dp', n', ot, F', G', h1, h2, h3, h4⟩ := hMC b x o d p e env a n (dp + 1) F1 G1 rs ht ho hx hd hK he hdp hV ha hn
  refine MO_child (fun k => ?_) h4 hk
  rw [hs, h3, ob_s, w_119u (by omega) (by omega) h2]
end
