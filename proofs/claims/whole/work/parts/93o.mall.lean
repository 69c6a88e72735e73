/-! The model's machine works out EV. -/
section
variable {S : SG} {h : HP} {r : Nat} {F0 : Nat → Nat → Int32} {G0 : Nat → Nat → Int64}
theorem cb_jn {dp : Nat} {c : Int32} (hc : c = 43 ∨ c = 124 ∨ c = 38 ∨ c = 45) (s t : Int64) (ht : cd t) : CB h dp c s t (jn c s t) := by
  intro n F G rs
  unfold s_AdjoinedSetsModel_combine jn
  rcases hc with rfl | rfl | rfl | rfl
  · rw [if_neg (by decide), if_neg (by decide), if_pos rfl, if_neg (by decide : ¬ ((43 : Int32) = 38)), if_pos rfl, rK_200, ob_s]
    by_cases h62 : t < 62
    · obtain ⟨j, hj, rfl⟩ := cd_sm ht h62
      rw [only_eq hj, ob_s, if_pos h62]
      refine ⟨_, 0, rfl, ?_, rfl⟩
      dsimp only
      rw [lN_i]
      rfl
    · rw [only_out h62, ob_s, if_neg h62]
      dsimp only
      rw [mw_s17]
      exact ⟨_, 1, rfl, rfl⟩
  · exact ⟨_, 0, rfl, rfl, rfl⟩
  · exact ⟨_, 0, rfl, rfl, rfl⟩
  · exact ⟨_, 0, rfl, rfl, rfl⟩
theorem cb_sn {dp : Nat} {c : Int32} (hc : c = 85 ∨ c = 80 ∨ c = 84) (s t : Int64) : CB h dp c s t (sn c s) := by
  intro n F G rs
  unfold s_AdjoinedSetsModel_combine
  rcases hc with rfl | rfl | rfl
  · have e : sn 85 s = some (unF s 62 0 0) := by unfold sn; rw [if_neg (by decide), if_neg (by decide)]
    rw [e, if_neg (by decide), if_neg (by decide), if_neg (by decide), if_neg (by decide), if_neg (by decide), if_neg (by decide), if_neg (by decide), if_neg (by decide), if_pos rfl, (union_eq s).2, ob_s]
    generalize unF s 62 0 0 = u
    exact ⟨u, 0, rfl, rfl, rfl⟩
  · rw [if_neg (by decide), if_neg (by decide), if_neg (by decide), if_neg (by decide), if_neg (by decide), if_neg (by decide), if_pos rfl, rK_200, ob_s]
    by_cases h62 : s < 62
    · have e : sn 80 s = some (pwF s 62 0 0) := by unfold sn; rw [if_pos rfl, if_pos h62]
      rw [e, power_eq h62, ob_s]
      generalize pwF s 62 0 0 = u
      exact ⟨u, 0, rfl, rfl, rfl⟩
    · have e : sn 80 s = none := by unfold sn; rw [if_pos rfl, if_neg h62]
      rw [e, power_out h62, ob_s]
      dsimp only
      rw [mw_s17]
      exact ⟨_, 1, rfl, rfl⟩
  · have e : sn 84 s = some (clF 5 s) := by unfold sn; rw [if_neg (by decide), if_pos rfl]
    rw [e, if_neg (by decide), if_neg (by decide), if_neg (by decide), if_neg (by decide), if_neg (by decide), if_neg (by decide), if_neg (by decide), if_pos rfl, (below_eq s).2, ob_s]
    generalize clF 5 s = u
    exact ⟨u, 0, rfl, rfl, rfl⟩
theorem cb_cp {dp : Nat} {c : Int32} (hc : c = 60 ∨ c = 61) (s t : Int64) (hs : cd s) : CB h dp c s t (some (cpr c s t)) := by
  intro n F G rs
  unfold s_AdjoinedSetsModel_combine cpr
  rcases hc with rfl | rfl
  · rw [if_neg (by decide), if_neg (by decide), if_neg (by decide), if_neg (by decide), if_pos rfl, if_neg (by decide : ¬ ((60 : Int32) = 61))]
    unfold s_AdjoinedSetsModel_isIn
    by_cases h62 : s < 62
    · rw [if_neg (fun z => lt_nge h62 ((lg_cmp_ge _ _).mp z)), if_pos h62]
      obtain ⟨j, hj, rfl⟩ := cd_sm hs h62
      rw [lN_i, bit64 t hj]
      cases mb t j with
      | true =>
        rw [if_pos rfl, if_pos (by decide), ob_s, if_neg (by decide)]
        exact ⟨_, 0, rfl, rfl, rfl⟩
      | false =>
        rw [if_neg (by decide : ¬ (false = true)), if_neg (by decide), ob_s, if_pos rfl]
        exact ⟨_, 0, rfl, rfl, rfl⟩
    · rw [if_pos ((lg_cmp_ge _ _).mpr (nlt_ge h62)), if_neg h62, ob_s, if_pos rfl]
      exact ⟨_, 0, rfl, rfl, rfl⟩
  · rw [if_neg (by decide), if_neg (by decide), if_neg (by decide), if_neg (by decide), if_neg (by decide), if_pos rfl, if_pos rfl]
    by_cases heq : s = t
    · rw [if_pos ((lg_cmp_eq _ _).mpr heq), if_pos heq]
      exact ⟨_, 0, rfl, rfl, rfl⟩
    · rw [if_neg (fun z => heq ((lg_cmp_eq _ _).mp z)), if_neg heq]
      exact ⟨_, 0, rfl, rfl, rfl⟩
theorem cb_cn {dp : Nat} {c : Int32} (hc : c = 94 ∨ c = 118 ∨ c = 62) (s t : Int64) : CB h dp c s t (some (cn c s t)) := by
  intro n F G rs
  rcases hc with rfl | rfl | rfl
  · exact ⟨_, 0, rfl, rfl, rfl⟩
  · exact ⟨_, 0, rfl, rfl, rfl⟩
  · exact ⟨_, 0, rfl, rfl, rfl⟩
theorem cb_33 {dp : Nat} (s t : Int64) : CB h dp 33 s t (some (1 - s)) := fun n F G rs => ⟨_, 0, rfl, rfl, rfl⟩
theorem nb_2 {c : Int32} (hc : (c = 43 ∨ c = 124 ∨ c = 38 ∨ c = 45) ∨ (c = 60 ∨ c = 61) ∨ (c = 94 ∨ c = 118 ∨ c = 62)) : nb c 2 := by
  rcases hc with (rfl | rfl | rfl | rfl) | (rfl | rfl) | (rfl | rfl | rfl) <;> exact ⟨rfl, rfl, rfl, rfl, fun _ => rfl⟩
theorem nb_1 {c : Int32} (hc : (c = 85 ∨ c = 80 ∨ c = 84) ∨ c = 33) : nb c 1 := by
  rcases hc with (rfl | rfl | rfl) | rfl <;> exact ⟨rfl, rfl, rfl, rfl, fun _ => rfl⟩
theorem m_frame (hw : WF S) (hm : MM S h) (hMC : MC S h r) {b : Bool} {x : TX} {o d p e n dp : Nat} {env : Int32} {a : Nat → Int64} {F : Nat → Nat → Int32} {G : Nat → Nat → Int64} {rs : Int64} (ht : mT h o x) (ho : o + x.1 ≤ 1490) (hx : x.1 ≤ 60) (hd : d ≤ 12) (hK : KD (gK S) x.2.1 x.2.2 d b p e) (he : e ≤ x.1) (hdp : dp + 1 + r = 32) (hV : VR h dp env a F0 G0) (ha : ∀ l, l < 8 → cd (a l)) (hn : n ≤ 3000) (hA : agb F F0 G G0 dp) (f1 : F 212 dp = nI (o + p)) (f2 : F 213 dp = env) (f3 : F 214 dp = 0) (f4 : F 215 dp = nI (o + (p + 1))) (hG : ∀ q, q < 3 → G (216 + q) dp = 0) : MO h dp F0 G0 (Qb n) (EB (gK S) (gBd S) (EV (gK S) (gBd S) r) b x p a n) 0 (mw h (dp + 1) n 0 F G rs) := by
  cases d with
  | zero => exact absurd hK (fun z => z)
  | succ d =>
  obtain ⟨hend, hpe, hcase⟩ := hK
  have h201 : h.1 201 (o + p) = x.2.1 p := ht p (by omega)
  have hd' : d ≤ 12 := by omega
  cases b with
  | true =>
    unfold EB
    dsimp only
    rcases hcase with ⟨hc2, q, hK1, hK2⟩ | ⟨hc1, hK1⟩ | ⟨hc3, q, hK1, hK2⟩ | ⟨hc2, hL, q, hK1, hK2⟩
    · have a1 := KD_lt hK1
      have a2 := KD_lt hK2
      rw [if_pos hc2, show en x (p + 1) = q from nI_cl (KD_end hK1) (by omega)]
      exact m_two (cb := fun s t => some (cpr (x.2.1 p) s t)) hw hm hMC ht ho hx hd' hK1 hK2 he hdp hV ha hn hA f1 f2 f3 f4 (nb_2 (Or.inr (Or.inl hc2))) (fun s t hs ht => cb_cp hc2 s t hs)
    · rw [if_neg (by rw [hc1]; decide), if_neg (by rw [hc1]; decide)]
      have e0 : ((EV (gK S) (gBd S) r true x (p + 1) a n).bind fun f => if x.2.1 p = 33 then some (1 - f.1, f.2) else (EV (gK S) (gBd S) r true x (en x (p + 1)) a f.2).bind fun g => some (cn (x.2.1 p) f.1 g.1, g.2)) = (EV (gK S) (gBd S) r true x (p + 1) a n).bind fun s => (some (1 - s.1)).bind fun v => some (v, s.2) := by
        congr 1
        funext f
        rw [if_pos hc1]
        rfl
      rw [e0]
      exact m_one (cb := fun s => some (1 - s)) hw hm hMC ht ho hx hd' hK1 he hdp hV ha hn hA f1 f2 f3 f4 (nb_1 (Or.inr hc1)) (fun s t hs => by rw [hc1]; exact cb_33 s t)
    · have a1 := KD_lt hK1
      have a2 := KD_lt hK2
      have h33 : ¬ x.2.1 p = 33 := by rcases hc3 with z | z | z <;> rw [z] <;> decide
      rw [if_neg (by rcases hc3 with z | z | z <;> rw [z] <;> decide), if_neg (by rcases hc3 with z | z | z <;> rw [z] <;> decide), show en x (p + 1) = q from nI_cl (KD_end hK1) (by omega)]
      have e0 : ((EV (gK S) (gBd S) r true x (p + 1) a n).bind fun f => if x.2.1 p = 33 then some (1 - f.1, f.2) else (EV (gK S) (gBd S) r true x q a f.2).bind fun g => some (cn (x.2.1 p) f.1 g.1, g.2)) = (EV (gK S) (gBd S) r true x (p + 1) a n).bind fun s => (EV (gK S) (gBd S) r true x q a s.2).bind fun t => (some (cn (x.2.1 p) s.1 t.1)).bind fun v => some (v, t.2) := by
        congr 1
        funext f
        rw [if_neg h33]
        rfl
      rw [e0]
      exact m_two (cb := fun s t => some (cn (x.2.1 p) s t)) hw hm hMC ht ho hx hd' hK1 hK2 he hdp hV ha hn hA f1 f2 f3 f4 (nb_2 (Or.inr (Or.inr hc3))) (fun s t hs ht => cb_cn hc3 s t)
    · have h73 : ¬ x.2.1 p = 73 := by rcases hc2 with z | z <;> rw [z] <;> decide
      rw [if_neg (by rcases hc2 with z | z <;> rw [z] <;> decide), if_pos hc2]
      have e0 : ((EV (gK S) (gBd S) r false x (p + 2) a n).bind fun s => (ga (EV (gK S) (gBd S) r) x p a s.1 62 0 0 s.2).bind fun q => some (qn (x.2.1 p) s.1 q.1, q.2)) = (EV (gK S) (gBd S) r false x (p + 2) a n).bind fun s => (ga (EV (gK S) (gBd S) r) x p a s.1 62 0 0 s.2).bind fun q => some (fin1 (x.2.1 p) s.1 q.1, q.2) := by
        congr 1
        funext s
        congr 1
        funext q
        unfold fin1
        rw [if_pos hc2]
      rw [e0]
      refine m_bnd hw hm hMC ht ho hx hd' ?_ hL hK1 (by rw [if_neg h73]; exact hK2) he hdp hV ha hn hA f1 f2 f3
      rcases hc2 with z | z
      · exact Or.inr (Or.inr (Or.inl z))
      · exact Or.inr (Or.inr (Or.inr z))
  | false =>
    unfold EB
    dsimp only
    rcases hcase with ⟨hdg, rfl⟩ | ⟨hl, rfl⟩ | ⟨hf, hk0, hi⟩ | ⟨hc4, q, hK1, hK2⟩ | ⟨hc3, hK1⟩ | ⟨hc1, hL, q, hK1, hK2⟩ | ⟨hc1, hL, q, hK1, hK2⟩
    · rw [if_pos hdg]
      exact MO_pop hn (fun k => by rw [w_0 (by omega) (by omega) f1 h201, go_d hdg, ob_s, w_119d (by omega)]) hA
    · have hl' : 97 ≤ x.2.1 p ∧ x.2.1 p < 105 := hl
      have hnd : ¬ (48 ≤ x.2.1 p ∧ x.2.1 p ≤ 57) := by
        obtain ⟨j, h1, h2, h3⟩ := lw_q hl'
        rw [h3]
        intro z
        have := (nI_leI (a := j) (b := 57) (by omega) (by decide)).mp z.2
        omega
      rw [if_neg hnd, if_pos hl']
      refine MO_pop hn (fun k => ?_) hA
      rw [w_0 (by omega) (by omega) f1 h201, go_l (by omega) hl' (v := a (lwN (x.2.1 p))) (by rw [f2]; exact hV _ _ _ _ _ _ hA _ (lw_n hl').2 20000 (by omega)), ob_s, w_119d (by omega)]
    · have hf' : 65 ≤ x.2.1 p ∧ x.2.1 p < 69 := hf
      have hfn := fn_n hf'
      have hd0 : ∀ j, j < 4 → ¬ (48 ≤ nI (65 + j) ∧ nI (65 + j) ≤ 57) ∧ ¬ (97 ≤ nI (65 + j) ∧ nI (65 + j) < 105) := by decide
      have hj : x.2.1 p = nI (65 + fnN (x.2.1 p)) := by
        rw [← nI_add, ← hfn.1]
        show x.2.1 p = 65 + (x.2.1 p - 65)
        rw [Int32.add_comm, Int32.sub_add_cancel]
      obtain ⟨d4, d5⟩ := hd0 _ hfn.2
      rw [← hj] at d4 d5
      rw [if_neg d4, if_neg d5, if_pos hf']
      exact m_args hw hm hMC ht ho hx hd' (by omega) he hdp hV ha hf' rfl hk0 (gK S (fnN (x.2.1 p))) 0 (p + 1) n F G rs (fun _ => 0) 0 _ (by omega) hn hA f1 f2 f3 f4 hG (fun _ => cd_0) hi (fun k => w_0 (by omega) (by omega) f1 h201 k)
    · have a1 := KD_lt hK1
      have a2 := KD_lt hK2
      rw [if_neg (by rcases hc4 with z | z | z | z <;> rw [z] <;> decide), if_neg (by rcases hc4 with z | z | z | z <;> rw [z] <;> decide), if_neg (by rcases hc4 with z | z | z | z <;> rw [z] <;> decide), if_neg (by rcases hc4 with z | z | z | z <;> rw [z] <;> decide), if_neg (by rcases hc4 with z | z | z | z <;> rw [z] <;> decide), show en x (p + 1) = q from nI_cl (KD_end hK1) (by omega)]
      exact m_two (cb := fun s t => jn (x.2.1 p) s t) hw hm hMC ht ho hx hd' hK1 hK2 he hdp hV ha hn hA f1 f2 f3 f4 (nb_2 (Or.inl hc4)) (fun s t hs ht => cb_jn hc4 s t ht)
    · rw [if_neg (by rcases hc3 with z | z | z <;> rw [z] <;> decide), if_neg (by rcases hc3 with z | z | z <;> rw [z] <;> decide), if_neg (by rcases hc3 with z | z | z <;> rw [z] <;> decide), if_neg (by rcases hc3 with z | z | z <;> rw [z] <;> decide), if_pos (by rcases hc3 with z | z | z <;> simp [z])]
      exact m_one (cb := fun s => sn (x.2.1 p) s) hw hm hMC ht ho hx hd' hK1 he hdp hV ha hn hA f1 f2 f3 f4 (nb_1 (Or.inl hc3)) (fun s t hs => cb_sn hc3 s t)
    all_goals
      have hb : bc (x.2.1 p) := by first | exact Or.inl hc1 | exact Or.inr (Or.inl hc1)
      have hbb : x.2.1 p = 73 ∨ x.2.1 p = 123 := by first | exact Or.inl hc1 | exact Or.inr hc1
      rw [if_neg (by rw [hc1]; decide), if_neg (by rw [hc1]; decide), if_neg (by rw [hc1]; decide), if_pos hbb]
      have e0 : ((EV (gK S) (gBd S) r false x (p + 2) a n).bind fun s => ga (EV (gK S) (gBd S) r) x p a s.1 62 0 0 s.2) = (EV (gK S) (gBd S) r false x (p + 2) a n).bind fun s => (ga (EV (gK S) (gBd S) r) x p a s.1 62 0 0 s.2).bind fun q => some (fin1 (x.2.1 p) s.1 q.1, q.2) := by
        congr 1
        funext s
        have : ∀ z : Int64, fin1 (x.2.1 p) s.1 z = z := by
          intro z
          unfold fin1
          rw [if_neg (by rw [hc1]; decide)]
        simp only [this]
        rw [b_eta]
      rw [e0]
      exact m_bnd hw hm hMC ht ho hx hd' hb hL hK1 (by rw [hc1]; exact hK2) he hdp hV ha hn hA f1 f2 f3
theorem m_all (hw : WF S) (hm : MM S h) : ∀ r, MC S h r := by
  intro r
  have hout : ∀ (b : Bool) (x : TX) (p n dp r : Nat) (env : Int32) (a : Nat → Int64) (F : Nat → Nat → Int32) (G : Nat → Nat → Int64) (rs : Int64) (A : Int32), dp ≤ 32 → n ≤ 3000 → (dp = 32 ∨ n = 3000) → EV (gK S) (gBd S) r b x p a n = none → ∃ dp' n' ot F' G', dp ≤ dp' ∧ dp' ≤ 40 ∧ s_AdjoinedSetsModel_push 200 A env (mw h dp n 0 F G rs) = some (mw h dp' n' ot F' G' rs) ∧ MO h dp F G (2 * (3001 - n)) (EV (gK S) (gBd S) r b x p a n) 0 (mw h dp' n' ot F' G' rs) := by
    intro b x p n dp r env a F G rs A h1 h2 h3 h4
    refine ⟨dp, n + 1, 1, F, G, Nat.le_refl _, by omega, m_pusho h1 h2 h3 A env, ?_⟩
    rw [h4]
    intro k hk
    obtain ⟨k, rfl⟩ : ∃ k0, k = k0 + 1 := ⟨k - 1, by omega⟩
    exact ⟨_, _, _, _, _, _, w_out k 0⟩
  induction r with
  | zero =>
    intro b x o d p e env a n dp F G rs ht ho hx hd hK he hdp hV ha hn
    exact hout b x p n dp 0 env a F G rs _ (by omega) hn (Or.inl (by omega)) rfl
  | succ r ih =>
    intro b x o d p e env a n dp F G rs ht ho hx hd hK he hdp hV ha hn
    by_cases h3 : n = 3000
    · exact hout b x p n dp (r + 1) env a F G rs _ (by omega) hn (Or.inr h3) (by rw [h3]; exact ev_m)
    · refine ⟨dp + 1, n + 1, 0, pF F dp (nI (o + p)) env, pG G dp, by omega, by omega, m_push (by omega) (by omega) _ _, ?_⟩
      rw [ev_s (by omega), show 2 * (3001 - n) = Qb (n + 1) by unfold Qb; omega]
      refine m_frame hw hm ih ht ho hx hd hK he (by omega) hV ha (by omega) ?_ ?_ ?_ ?_ ?_ ?_
      · intro m i hi
        unfold pF pG
        exact ⟨by rw [u2_j (by omega), u2_j (by omega), u2_j (by omega), u2_j (by omega)], by rw [u2_j (by omega), u2_j (by omega), u2_j (by omega)]⟩
      · unfold pF
        rw [up2_n (by decide), up2_n (by decide), up2_n (by decide), u2_s]
      · unfold pF
        rw [up2_n (by decide), up2_n (by decide), u2_s]
      · unfold pF
        rw [up2_n (by decide), u2_s]
      · unfold pF
        rw [u2_s, nI_1]
        rfl
      · intro q hq
        unfold pG
        obtain rfl | rfl | rfl : q = 0 ∨ q = 1 ∨ q = 2 := by omega
        · rw [up2_n (by decide), up2_n (by decide), u2_s]
        · rw [up2_n (by decide), u2_s]
        · rw [u2_s]
end
