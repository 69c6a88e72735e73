/-! The model's machine: binders' loop, all frames. -/
theorem w_119a {h : HP} {dp dp' n : Nat} {ot : Int32} {F : Nat → Nat → Int32} {G : Nat → Nat → Int64} {rs : Int64} : ∃ c' : Int32, ∀ c23 : Nat → Int32 → HP → Option (Int64 × HP), s_AdjoinedSetsModel_work_119 c23 200 (nI dp) (mw h dp' n ot F G rs) = c23 200 c' (mw h dp' n ot F G rs) := by
  by_cases hc : nI dp < nI dp'
  · refine ⟨0, fun c23 => ?_⟩
    unfold s_AdjoinedSetsModel_work_119 s_AdjoinedSetsModel_work_132
    rw [rI_200_15, ob_s, mw_15, if_pos hc]
  · refine ⟨1, fun c23 => ?_⟩
    unfold s_AdjoinedSetsModel_work_119 s_AdjoinedSetsModel_work_132
    rw [rI_200_15, ob_s, mw_15, if_neg hc]
theorem bd_0 {h : HP} {dp n : Nat} {F : Nat → Nat → Int32} {G : Nat → Nat → Int64} {rs : Int64} (hd : dp < 32) {ot : Int32} (hF : F 214 dp = 0) : s_AdjoinedSetsModel_bind 200 (nI dp) (mw h (dp + 1) n ot F G rs) = s_AdjoinedSetsModel_push 200 (F 212 dp + 2) (F 213 dp) (mw h (dp + 1) n ot F G rs) := by
  unfold s_AdjoinedSetsModel_bind
  rw [rR_200_20, ob_s, rA_214 hd, ob_s, mw_214, hF, if_pos rfl, rR_200_18, ob_s, rA_212 hd, ob_s, mw_212, rR_200_19, ob_s, rA_213 hd, ob_s, mw_213, rK_200, ob_s, ob_e]
def bc (c : Int32) : Prop := c = 123 ∨ c = 73 ∨ c = 69 ∨ c = 76
theorem bc_all {c : Int32} (hc : bc c) : s_AdjoinedSetsModel_isDigit c = some 0 ∧ s_AdjoinedSetsModel_isLow c = some 0 ∧ s_AdjoinedSetsModel_isBinder c = some 1 ∧ s_AdjoinedSetsModel_isFunction c = some 0 ∧ ∀ H, s_AdjoinedSetsModel_partsOf 200 c H = some 3 := by
  rcases hc with rfl | rfl | rfl | rfl
  · exact ⟨rfl, rfl, rfl, rfl, fun _ => rfl⟩
  · exact ⟨rfl, rfl, rfl, rfl, fun _ => rfl⟩
  · exact ⟨rfl, rfl, rfl, rfl, fun _ => rfl⟩
  · exact ⟨rfl, rfl, rfl, rfl, fun _ => rfl⟩
theorem agb.u1 {F F0 : Nat → Nat → Int32} {G G0 : Nat → Nat → Int64} {dp a c : Nat} {x : Int32} {z : Int64} (h1 : agb F F0 G G0 dp) : agb (up2 F a dp x) F0 (up2 G c dp z) G0 dp := fun m i hi => ⟨by rw [u2_j (by omega)]; exact (h1 m i hi).1, by rw [u2_j (by omega)]; exact (h1 m i hi).2⟩
theorem agb.u0 {F F0 : Nat → Nat → Int32} {G G0 : Nat → Nat → Int64} {dp c : Nat} {z : Int64} (h1 : agb F F0 G G0 dp) : agb F F0 (up2 G c dp z) G0 dp := fun m i hi => ⟨(h1 m i hi).1, by rw [u2_j (by omega)]; exact (h1 m i hi).2⟩
section
variable {S : SG} {h : HP} {r : Nat} {F0 : Nat → Nat → Int32} {G0 : Nat → Nat → Int64}
theorem m_loop (hw : WF S) (hm : MM S h) (hMC : MC S h r) {x : TX} {o d p q e dp : Nat} {env : Int32} {a : Nat → Int64} {s : Int64} (ht : mT h o x) (ho : o + x.1 ≤ 1490) (hx : x.1 ≤ 60) (hd : d ≤ 12) (hb : bc (x.2.1 p)) (hL : 97 ≤ x.2.1 (p + 1) ∧ x.2.1 (p + 1) < 105) (hK1 : KD (gK S) x.2.1 x.2.2 d false (p + 2) q) (hK2 : KD (gK S) x.2.1 x.2.2 d (if x.2.1 p = 73 then false else true) q e) (he : e ≤ x.1) (hdp : dp + 1 + r = 32) (hV : VR h dp env a F0 G0) (ha : ∀ l, l < 8 → cd (a l)) (hs : cd s) : ∀ (i c0 n K : Nat) (F : Nat → Nat → Int32) (G : Nat → Nat → Int64) (rs z : Int64) (cm : Int32) (H : HP), c0 + i = 62 → i < K → n ≤ 3000 → cd z → agb F F0 G G0 dp → F 212 dp = nI (o + p) → F 213 dp = env → F 214 dp = 1 → G 216 dp = s → G 217 dp = tw (x.2.1 p) s z c0 → (x.2.1 p = 76 → ∀ j, mb z j = true → j < c0 ∧ mb s j = true) → (∀ k, s_AdjoinedSetsModel_work_23 (k + 1) 200 cm H = (s_AdjoinedSetsModel_bind_38 K 200 (nI dp) (nI c0) (mw h (dp + 1) n 0 F G rs)).bind fun q => s_AdjoinedSetsModel_work_119 (s_AdjoinedSetsModel_work_23 k) 200 (nI dp) q) → MO h dp F0 G0 (Qb n) ((ga (EV (gK S) (gBd S) r) x p a s i c0 z n).bind fun q => some (fin1 (x.2.1 p) s q.1, q.2)) cm H := by
  have l1 := KD_lt hK1
  have l2 := KD_lt hK2
  have b1 := KD_end hK1
  have h201 : h.1 201 (o + p) = x.2.1 p := ht p (by omega)
  have h201' : h.1 201 (o + p + 1) = x.2.1 (p + 1) := ht (p + 1) (by omega)
  obtain ⟨cD, cL, cB, cF, cP⟩ := bc_all hb
  have hq2 : en x (p + 2) = q := nI_cl b1 (by omega)
  have e2 : nI (o + p) + 2 = nI (o + (p + 2)) := by rw [show (2 : Int32) = nI 2 from rfl, nI_add]; rfl
  intro i
  induction i with
  | zero =>
    intro c0 n K F G rs z cm H h1 h2 hn hz hA f1 f2 f3 g1 g2 hi hs0
    obtain ⟨K, rfl⟩ : ∃ k0, K = k0 + 1 := ⟨K - 1, by omega⟩
    have hc : c0 = 62 := by omega
    subst hc
    show MO h dp F0 G0 (Qb n) (some (fin1 (x.2.1 p) s z, n)) cm H
    rw [← tw_fin hs hz (fun q j hj => (hi q j hj).2), ← g2]
    exact MO_pop hn (fun k => by rw [hs0, b38_e (by omega), ob_s, w_119d (by omega)]) (agb.u0 hA)
  | succ i ih =>
    intro c0 n K F G rs z cm H h1 h2 hn hz hA f1 f2 f3 g1 g2 hi hs0
    obtain ⟨K, rfl⟩ : ∃ k0, K = k0 + 1 := ⟨K - 1, by omega⟩
    cases hmb : mb s c0 with
    | false =>
      have e0 : ga (EV (gK S) (gBd S) r) x p a s (i + 1) c0 z n = ga (EV (gK S) (gBd S) r) x p a s i (c0 + 1) z n := by
        show (if mb s c0 then _ else _) = _
        rw [hmb, if_neg (by decide)]
      rw [e0]
      exact ih (c0 + 1) n K F G rs z cm H (by omega) (by omega) hn hz hA f1 f2 f3 g1 (by rw [tw_skip hmb]; exact g2) (fun q j hj => ⟨by have := (hi q j hj).1; omega, (hi q j hj).2⟩) (fun k => by rw [hs0, b38_s (by omega) (by omega) (by rw [g1]; exact hmb)])
    | true =>
      have e0 : ga (EV (gK S) (gBd S) r) x p a s (i + 1) c0 z n = (br (EV (gK S) (gBd S) r) x p a c0 n).bind fun y => ga (EV (gK S) (gBd S) r) x p a s i (c0 + 1) (z ||| y.1) y.2 := by
        show (if mb s c0 then _ else _) = _
        rw [hmb, if_pos rfl]
      rw [e0]
      have hu := upR_cd (l := lwN (x.2.1 (p + 1))) ha (cd_n (n := c0) (by omega))
      have hV2 : VR h (dp + 1) (nI dp) (upR a (lwN (x.2.1 (p + 1))) (lN c0)) F (up2 G 218 dp (lN c0)) := VR.bind (p := o + p) (hV.mono (Nat.le_refl _) (agb.u0 hA)) (by omega) (by omega) f1 h201 cF h201' hL f2 u2_s
      have hpush : ∀ k, s_AdjoinedSetsModel_work_23 (k + 1) 200 cm H = (s_AdjoinedSetsModel_push 200 (nI (o + q)) (nI dp) (mw h (dp + 1) n 0 F (up2 G 218 dp (lN c0)) rs)).bind fun q => s_AdjoinedSetsModel_work_119 (s_AdjoinedSetsModel_work_23 k) 200 (nI dp) q := by
        intro k
        rw [hs0, b38_m (q := o + q) (by omega) (by omega) (by rw [g1]; exact hmb) (fun G' => by rw [f1, e2]; exact e_mw hw hm ht ho hx hd hK1 (by omega) _ _ _ _ _ _)]
      have h3n : (lN c0).toInt32 + 1 = nI (c0 + 1) := by rw [lN_i, nI_1]
      by_cases h73 : x.2.1 p = 73
      · have ebr : ∀ g : Int64 × Nat → Option (Int64 × Nat), ((br (EV (gK S) (gBd S) r) x p a c0 n).bind g) = (EV (gK S) (gBd S) r false x q (upR a (lwN (x.2.1 (p + 1))) (lN c0)) n).bind fun v => (if v.1 < 62 then some ((1 : Int64) <<< (v.1.toInt32.toInt64 &&& 63), v.2) else none).bind g := by
          intro g
          unfold br
          rw [if_pos h73, hq2]
          cases EV (gK S) (gBd S) r false x q (upR a (lwN (x.2.1 (p + 1))) (lN c0)) n <;> rfl
        rw [ebr]
        have eas : ∀ (o1 : Option (Int64 × Nat)) (g1 : Int64 × Nat → Option (Int64 × Nat)) (g2 : Int64 × Nat → Option (Int64 × Nat)), (o1.bind g1).bind g2 = o1.bind fun v => (g1 v).bind g2 := by
          intro o1 g1 g2
          cases o1 <;> rfl
        rw [eas]
        rw [h73, if_pos rfl] at hK2
        refine MO_ch (F1 := F) (G1 := up2 G 218 dp (lN c0)) (rs := rs) (env := nI dp) hMC ht ho hx hd hK2 he hdp hV2 hu hn hpush (fun v hv F' G' hag => ?_)
        obtain ⟨v1, v2, v3⟩ := EV_ok _ _ r _ _ _ _ _ v.1 v.2 hu hv
        have k1 : F' 212 dp = nI (o + p) := by rw [(hag 212 dp (by omega)).1]; exact f1
        have k2 : F' 213 dp = env := by rw [(hag 213 dp (by omega)).1]; exact f2
        have k3 : F' 214 dp = 1 := by rw [(hag 214 dp (by omega)).1]; exact f3
        have j1 : G' 216 dp = s := by rw [(hag 216 dp (by omega)).2, up2_n (by decide)]; exact g1
        have j2 : G' 217 dp = z := by
          rw [(hag 217 dp (by omega)).2, up2_n (by decide), g2, h73]
          unfold tw
          rw [if_neg (by decide), if_neg (by decide)]
        have j3 : G' 218 dp = lN c0 := by rw [(hag 218 dp (by omega)).2, u2_s]
        have hA1 : agb F' F0 G' G0 dp := agb.tr hag (agb.u0 hA) (by omega)
        by_cases h62 : v.1 < 62
        · obtain ⟨j, hj, hvj⟩ := cd_sm v1 h62
          rw [if_pos h62, ob_s]
          have esg : (1 : Int64) <<< (v.1.toInt32.toInt64 &&& 63) = sg j := by rw [hvj, lN_i]; rfl
          dsimp only
          rw [esg]
          refine ih (c0 + 1) v.2 20000 (up2 F' 214 dp 1) (up2 G' 217 dp (z ||| sg j)) v.1 (z ||| sg j) 1 _ (by omega) (by omega) v3 (cd_or hz (cd_sg hj)) (agb.u1 hA1) (by rw [up2_n (by decide)]; exact k1) (by rw [up2_n (by decide)]; exact k2) u2_s (by rw [up2_n (by decide)]; exact j1) ?_ (fun q => absurd (h73.symm.trans q) (by decide)) (fun k => ?_)
          · rw [u2_s, h73]
            unfold tw
            rw [if_neg (by decide), if_neg (by decide)]
          · rw [w_1 (by omega) (by omega) k1 h201 cF, h73, (tk_b2 (by omega) k3 j2).1 j hj hvj, ob_s, ← h73, go_b cD cL cB (cP _), bd_1 (c0 := c0 + 1) (by omega) (by omega) u2_s (by rw [up2_n (by decide), j3]; exact h3n)]
        · rw [if_neg h62]
          show MO h dp F0 G0 (Qb v.2) none 1 _
          obtain ⟨dp', n', F2, G2, rs', ho2⟩ := b38_o (h := h) (dp := dp) (n := v.2) (F := up2 F' 214 dp 1) (G := up2 G' 217 dp (z ||| 0)) (rs := v.1) (q := o + q) (by omega) v3 (fun G' => by rw [up2_n (by decide), k1, e2]; exact e_mw hw hm ht ho hx hd hK1 (by omega) _ _ _ _ _ _) (62 - (c0 + 1)) (c0 + 1) 20000 (by omega) (by omega)
          obtain ⟨c', hc'⟩ := w_119a (h := h) (dp := dp) (dp' := dp') (n := n') (ot := 1) (F := F2) (G := G2) (rs := rs')
          refine MO_out (c' := c') (dp' := dp') (n' := n') (F' := F2) (G' := G2) (rs' := rs') v3 (fun k => ?_)
          rw [w_1 (by omega) (by omega) k1 h201 cF, h73, (tk_b2 (by omega) k3 j2).2 h62, ob_s, ← h73, go_b cD cL cB (cP _), bd_1 (c0 := c0 + 1) (by omega) (by omega) u2_s (by rw [up2_n (by decide), j3]; exact h3n), ho2, ob_s, hc']
      · have ebr : ∀ g : Int64 × Nat → Option (Int64 × Nat), ((br (EV (gK S) (gBd S) r) x p a c0 n).bind g) = (EV (gK S) (gBd S) r true x q (upR a (lwN (x.2.1 (p + 1))) (lN c0)) n).bind fun v => g (if v.1 = 0 then 0 else sg c0, v.2) := by
          intro g
          unfold br
          rw [if_neg h73, hq2]
          cases EV (gK S) (gBd S) r true x q (upR a (lwN (x.2.1 (p + 1))) (lN c0)) n <;> rfl
        rw [ebr]
        have eas : ∀ (o1 : Option (Int64 × Nat)) (g1 : Int64 × Nat → Option (Int64 × Nat)) (g2 : Int64 × Nat → Option (Int64 × Nat)), (o1.bind g1).bind g2 = o1.bind fun v => (g1 v).bind g2 := by
          intro o1 g1 g2
          cases o1 <;> rfl
        rw [eas]
        rw [if_neg h73] at hK2
        have hb3 : x.2.1 p = 123 ∨ x.2.1 p = 69 ∨ x.2.1 p = 76 := by
          rcases hb with q | q | q | q
          · exact Or.inl q
          · exact absurd q h73
          · exact Or.inr (Or.inl q)
          · exact Or.inr (Or.inr q)
        refine MO_ch (F1 := F) (G1 := up2 G 218 dp (lN c0)) (rs := rs) (env := nI dp) hMC ht ho hx hd hK2 he hdp hV2 hu hn hpush (fun v hv F' G' hag => ?_)
        obtain ⟨v1, v2, v3⟩ := EV_ok _ _ r _ _ _ _ _ v.1 v.2 hu hv
        have v1 : v.1 = 0 ∨ v.1 = 1 := v1
        have k1 : F' 212 dp = nI (o + p) := by rw [(hag 212 dp (by omega)).1]; exact f1
        have k2 : F' 213 dp = env := by rw [(hag 213 dp (by omega)).1]; exact f2
        have k3 : F' 214 dp = 1 := by rw [(hag 214 dp (by omega)).1]; exact f3
        have j1 : G' 216 dp = s := by rw [(hag 216 dp (by omega)).2, up2_n (by decide)]; exact g1
        have j2 : G' 217 dp = tw (x.2.1 p) s z c0 := by rw [(hag 217 dp (by omega)).2, up2_n (by decide)]; exact g2
        have j3 : G' 218 dp = lN c0 := by rw [(hag 218 dp (by omega)).2, u2_s]
        have hA1 : agb F' F0 G' G0 dp := agb.tr hag (agb.u0 hA) (by omega)
        dsimp only
        refine ih (c0 + 1) v.2 20000 (up2 F' 214 dp 1) (up2 G' 217 dp (tw (x.2.1 p) s (z ||| (if v.1 = 0 then 0 else sg c0)) (c0 + 1))) v.1 (z ||| (if v.1 = 0 then 0 else sg c0)) 1 _ (by omega) (by omega) v3 (cd_or hz (by split; exact cd_0; exact cd_sg (by omega))) (agb.u1 hA1) (by rw [up2_n (by decide)]; exact k1) (by rw [up2_n (by decide)]; exact k2) u2_s (by rw [up2_n (by decide)]; exact j1) u2_s ?_ (fun k => ?_)
        · intro h76 j hj
          rw [mb_or] at hj
          have hjz : mb z j = true ∨ j = c0 := by
            rcases v1 with q | q
            · rw [if_pos q, mb_z0, Bool.or_false] at hj
              exact Or.inl hj
            · rw [if_neg (by rw [q]; decide)] at hj
              cases hzj : mb z j with
              | true => exact Or.inl rfl
              | false =>
                rw [hzj, Bool.false_or] at hj
                by_cases hj62 : j < 62
                · rw [mb_sg (by omega) hj62] at hj
                  exact Or.inr (of_decide_eq_true hj)
                · rw [mb_hi (cd_sg (by omega)) (by omega)] at hj
                  cases hj
          rcases hjz with q | q
          · have := hi h76 j q
            exact ⟨by omega, this.2⟩
          · rw [q]
            exact ⟨by omega, hmb⟩
        · rw [w_1 (by omega) (by omega) k1 h201 cF, tk_b1 (by omega) hb3 (by omega) k3 j2 j3 hmb hi v1, ob_s, go_b cD cL cB (cP _), bd_1 (c0 := c0 + 1) (by omega) (by omega) u2_s (by rw [up2_n (by decide), j3]; exact h3n)]
theorem m_bnd (hw : WF S) (hm : MM S h) (hMC : MC S h r) {x : TX} {o d p q e n dp : Nat} {env : Int32} {a : Nat → Int64} {F : Nat → Nat → Int32} {G : Nat → Nat → Int64} {rs : Int64} (ht : mT h o x) (ho : o + x.1 ≤ 1490) (hx : x.1 ≤ 60) (hd : d ≤ 12) (hb : bc (x.2.1 p)) (hL : 97 ≤ x.2.1 (p + 1) ∧ x.2.1 (p + 1) < 105) (hK1 : KD (gK S) x.2.1 x.2.2 d false (p + 2) q) (hK2 : KD (gK S) x.2.1 x.2.2 d (if x.2.1 p = 73 then false else true) q e) (he : e ≤ x.1) (hdp : dp + 1 + r = 32) (hV : VR h dp env a F0 G0) (ha : ∀ l, l < 8 → cd (a l)) (hn : n ≤ 3000) (hA : agb F F0 G G0 dp) (f1 : F 212 dp = nI (o + p)) (f2 : F 213 dp = env) (f3 : F 214 dp = 0) : MO h dp F0 G0 (Qb n) ((EV (gK S) (gBd S) r false x (p + 2) a n).bind fun s => (ga (EV (gK S) (gBd S) r) x p a s.1 62 0 0 s.2).bind fun q => some (fin1 (x.2.1 p) s.1 q.1, q.2)) 0 (mw h (dp + 1) n 0 F G rs) := by
  have l1 := KD_lt hK1
  have l2 := KD_lt hK2
  have h201 : h.1 201 (o + p) = x.2.1 p := ht p (by omega)
  obtain ⟨cD, cL, cB, cF, cP⟩ := bc_all hb
  have e2 : nI (o + p) + 2 = nI (o + (p + 2)) := by rw [show (2 : Int32) = nI 2 from rfl, nI_add]; rfl
  refine MO_ch (F1 := F) (G1 := G) (rs := rs) (env := env) hMC ht ho hx hd hK1 (by omega) hdp (hV.mono (by omega) hA) ha hn (fun k => ?_) (fun s hs F' G' hag => ?_)
  · rw [w_0 (by omega) (by omega) f1 h201, go_b cD cL cB (cP _), bd_0 (by omega) f3, f1, f2, e2]
  · obtain ⟨v1, v2, v3⟩ := EV_ok _ _ r _ _ _ _ _ s.1 s.2 ha hs
    have k1 : F' 212 dp = nI (o + p) := by rw [(hag 212 dp (by omega)).1]; exact f1
    have k2 : F' 213 dp = env := by rw [(hag 213 dp (by omega)).1]; exact f2
    have k3 : F' 214 dp = 0 := by rw [(hag 214 dp (by omega)).1]; exact f3
    have hA1 : agb F' F0 G' G0 dp := agb.tr hag hA (by omega)
    refine m_loop hw hm hMC ht ho hx hd hb hL hK1 hK2 he hdp hV ha v1 62 0 s.2 20000 (up2 F' 214 dp 1) (up2 (up2 (up2 G' 216 dp s.1) 217 dp (if x.2.1 p = 76 then 1 else 0)) 218 dp (-1)) s.1 0 1 _ (by omega) (by omega) v3 cd_0 (agb.u0 (agb.u0 (agb.u1 hA1))) (by rw [up2_n (by decide)]; exact k1) (by rw [up2_n (by decide)]; exact k2) u2_s (by rw [up2_n (by decide), up2_n (by decide), u2_s]) ?_ (fun _ j hj => by rw [mb_z0] at hj; cases hj) (fun k => ?_)
    · rw [up2_n (by decide), u2_s]
      unfold tw
      by_cases h69 : x.2.1 p = 69
      · rw [if_pos h69, if_neg (by rw [h69]; decide), if_pos rfl]
      · rw [if_neg h69]
        by_cases h76 : x.2.1 p = 76
        · rw [if_pos h76, if_pos h76, if_pos (fun j hj => absurd hj (by omega))]
        · rw [if_neg h76, if_neg h76]
    · rw [w_1 (by omega) (by omega) k1 h201 cF, tk_b0 (by omega) cB k3, ob_s, go_b cD cL cB (cP _), bd_1 (c0 := 0) (by omega) (by omega) u2_s (by rw [u2_s]; decide)]
end
