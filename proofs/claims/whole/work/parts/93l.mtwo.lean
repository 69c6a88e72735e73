/-! The model's machine: one part, two parts, a function's parts. -/
theorem u2_j {α : Type} {f : Nat → Nat → α} {n i m j : Nat} {x : α} (h : j ≠ i) : up2 f n i x m j = f m j := by
  unfold up2
  rw [if_neg (fun q => h q.2)]
def agb (F F0 : Nat → Nat → Int32) (G G0 : Nat → Nat → Int64) (f : Nat) : Prop := ∀ m i, i < f → F m i = F0 m i ∧ G m i = G0 m i
theorem agb.tr {F F1 F0 : Nat → Nat → Int32} {G G1 G0 : Nat → Nat → Int64} {f f1 : Nat} (h1 : agb F F1 G G1 f1) (h2 : agb F1 F0 G1 G0 f) (hf : f ≤ f1) : agb F F0 G G0 f := fun m i hi => ⟨(h1 m i (by omega)).1.trans (h2 m i hi).1, (h1 m i (by omega)).2.trans (h2 m i hi).2⟩
theorem agb.tk {F F0 : Nat → Nat → Int32} {G G0 : Nat → Nat → Int64} {dp a b c : Nat} {x y : Int32} {z : Int64} (h1 : agb F F0 G G0 dp) : agb (up2 (up2 F a dp x) b dp y) F0 (up2 G c dp z) G0 dp := fun m i hi => ⟨by rw [u2_j (by omega), u2_j (by omega)]; exact (h1 m i hi).1, by rw [u2_j (by omega)]; exact (h1 m i hi).2⟩
/-- what is to be said of combine at a character -/
def CB (h : HP) (dp : Nat) (c : Int32) (s t : Int64) (o : Option Int64) : Prop := ∀ n F G rs, ∃ v ot, s_AdjoinedSetsModel_combine 200 c s t (mw h (dp + 1) n 0 F G rs) = some (v, mw h (dp + 1) n ot F G rs) ∧ match o with
  | some u => v = u ∧ ot = 0
  | none => ot = 1
/-- a character with m parts in front of it -/
def nb (c : Int32) (m : Nat) : Prop := s_AdjoinedSetsModel_isDigit c = some 0 ∧ s_AdjoinedSetsModel_isLow c = some 0 ∧ s_AdjoinedSetsModel_isBinder c = some 0 ∧ s_AdjoinedSetsModel_isFunction c = some 0 ∧ ∀ H, s_AdjoinedSetsModel_partsOf 200 c H = some (nI m)
section
variable {S : SG} {h : HP} {r : Nat} {F0 : Nat → Nat → Int32} {G0 : Nat → Nat → Int64}
theorem m_last {c : Int32} {P m n dp : Nat} {s t : Int64} {F : Nat → Nat → Int32} {G : Nat → Nat → Int64} {rs : Int64} {cm : Int32} {H : HP} {o : Option Int64} (hd : dp < 32) (hn : n ≤ 3000) (hnb : nb c m) (hm : m ≤ 3) (hF : F 214 dp = nI m) (g1 : G 216 dp = s) (g2 : G 217 dp = t) (hA : agb F F0 G G0 dp) (hC : CB h dp c s t o) (hs : ∀ k, s_AdjoinedSetsModel_work_23 (k + 1) 200 cm H = (s_AdjoinedSetsModel_goOn 200 (nI dp) c (mw h (dp + 1) n 0 F G rs)).bind fun q => s_AdjoinedSetsModel_work_119 (s_AdjoinedSetsModel_work_23 k) 200 (nI dp) q) : MO h dp F0 G0 (Qb n) (o.bind fun v => some (v, n)) cm H := by
  obtain ⟨v, ot, e1, e2⟩ := hC n F G rs
  have hs2 : ∀ k, s_AdjoinedSetsModel_work_23 (k + 1) 200 cm H = s_AdjoinedSetsModel_work_23 k 200 1 (mw h dp n ot F G v) := by
    intro k
    rw [hs, go_c hd hnb.1 hnb.2.1 hnb.2.2.1 hnb.2.2.2.1 (hnb.2.2.2.2 _) hF hm, g1, g2, e1, ob_s]
    dsimp only
    rw [m_finish, ob_s, w_119d hd]
  cases o with
  | none =>
    have e2 : ot = 1 := e2
    subst e2
    exact MO_out hn hs2
  | some u =>
    obtain ⟨e2, e3⟩ := e2
    subst e2
    subst e3
    exact MO_pop hn hs2 hA
theorem m_two (hw : WF S) (hm : MM S h) (hMC : MC S h r) {b1 : Bool} {x : TX} {o d p q e n dp : Nat} {env : Int32} {a : Nat → Int64} {F : Nat → Nat → Int32} {G : Nat → Nat → Int64} {rs : Int64} {cb : Int64 → Int64 → Option Int64} (ht : mT h o x) (ho : o + x.1 ≤ 1490) (hx : x.1 ≤ 60) (hd : d ≤ 12) (hK1 : KD (gK S) x.2.1 x.2.2 d b1 (p + 1) q) (hK2 : KD (gK S) x.2.1 x.2.2 d b1 q e) (he : e ≤ x.1) (hdp : dp + 1 + r = 32) (hV : VR h dp env a F0 G0) (ha : ∀ l, l < 8 → cd (a l)) (hn : n ≤ 3000) (hA : agb F F0 G G0 dp) (f1 : F 212 dp = nI (o + p)) (f2 : F 213 dp = env) (f3 : F 214 dp = 0) (f4 : F 215 dp = nI (o + (p + 1))) (hnb : nb (x.2.1 p) 2) (hC : ∀ s t, okv b1 s → okv b1 t → CB h dp (x.2.1 p) s t (cb s t)) : MO h dp F0 G0 (Qb n) ((EV (gK S) (gBd S) r b1 x (p + 1) a n).bind fun s => (EV (gK S) (gBd S) r b1 x q a s.2).bind fun t => (cb s.1 t.1).bind fun v => some (v, t.2)) 0 (mw h (dp + 1) n 0 F G rs) := by
  have l1 := KD_lt hK1
  have l2 := KD_lt hK2
  have h201 : h.1 201 (o + p) = x.2.1 p := ht p (by omega)
  refine MO_ch (F1 := F) (G1 := G) (rs := rs) (env := env) hMC ht ho hx hd hK1 (by omega) hdp (hV.mono (by omega) hA) ha hn (fun k => ?_) (fun s hs F' G' hag => ?_)
  · rw [w_0 (by omega) (by omega) f1 h201, go_p (s := 0) (by omega) hnb.1 hnb.2.1 hnb.2.2.1 (hnb.2.2.2.2 _) f3 (by omega) (by omega), f4, f2]
  · obtain ⟨v1, v2, v3⟩ := EV_ok _ _ r _ _ _ _ _ s.1 s.2 ha hs
    have k1 : F' 212 dp = nI (o + p) := by rw [(hag 212 dp (by omega)).1]; exact f1
    have k2 : F' 213 dp = env := by rw [(hag 213 dp (by omega)).1]; exact f2
    have k3 : F' 214 dp = nI 0 := by rw [(hag 214 dp (by omega)).1]; exact f3
    have k4 : F' 215 dp = nI (o + (p + 1)) := by rw [(hag 215 dp (by omega)).1]; exact f4
    have hA1 : agb (up2 (up2 F' 214 dp (nI (0 + 1))) 215 dp (nI (o + q))) F0 (up2 G' (216 + 0) dp s.1) G0 dp := agb.tk (agb.tr hag hA (by omega))
    refine MO_ch (F1 := up2 (up2 F' 214 dp (nI (0 + 1))) 215 dp (nI (o + q))) (G1 := up2 G' (216 + 0) dp s.1) (rs := s.1) (env := env) hMC ht ho hx hd hK2 he hdp (hV.mono (by omega) hA1) ha v3 (fun k => ?_) (fun t ht' F2 G2 hag2 => ?_)
    · rw [w_1 (by omega) (by omega) k1 h201 hnb.2.2.2.1, tk_n (s := 0) (q := o + q) (by omega) hnb.2.2.1 (by omega) k3 (fun F' G' => by rw [k4]; exact e_mw hw hm ht ho hx hd hK1 (by omega) _ _ _ _ _ _), ob_s, go_p (s := 1) (m := 2) (by omega) hnb.1 hnb.2.1 hnb.2.2.1 (hnb.2.2.2.2 _) (by rw [up2_n (by decide), u2_s]) (by omega) (by omega), u2_s, up2_n (by decide), up2_n (by decide), k2]
    · obtain ⟨y1, y2, y3⟩ := EV_ok _ _ r _ _ _ _ _ t.1 t.2 ha ht'
      have j1 : F2 212 dp = nI (o + p) := by rw [(hag2 212 dp (by omega)).1, up2_n (by decide), up2_n (by decide)]; exact k1
      have j3 : F2 214 dp = nI 1 := by rw [(hag2 214 dp (by omega)).1, up2_n (by decide), u2_s]
      have j4 : F2 215 dp = nI (o + q) := by rw [(hag2 215 dp (by omega)).1, u2_s]
      have g1 : G2 216 dp = s.1 := by rw [(hag2 216 dp (by omega)).2]; exact u2_s
      refine m_last (F := up2 (up2 F2 214 dp (nI (1 + 1))) 215 dp (nI (o + e))) (G := up2 G2 (216 + 1) dp t.1) (rs := t.1) (s := s.1) (t := t.1) (m := 2) (P := 0) (by omega) y3 hnb (by omega) (by rw [up2_n (by decide), u2_s]) (by rw [up2_n (by decide)]; exact g1) u2_s (agb.tk (agb.tr hag2 hA1 (by omega))) (hC s.1 t.1 v1 y1) (fun k => ?_)
      rw [w_1 (by omega) (by omega) j1 h201 hnb.2.2.2.1, tk_n (s := 1) (q := o + e) (by omega) hnb.2.2.1 (by omega) j3 (fun F' G' => by rw [j4]; exact e_mw hw hm ht ho hx hd hK2 he _ _ _ _ _ _), ob_s]
theorem m_one (hw : WF S) (hm : MM S h) (hMC : MC S h r) {b1 : Bool} {x : TX} {o d p e n dp : Nat} {env : Int32} {a : Nat → Int64} {F : Nat → Nat → Int32} {G : Nat → Nat → Int64} {rs : Int64} {cb : Int64 → Option Int64} (ht : mT h o x) (ho : o + x.1 ≤ 1490) (hx : x.1 ≤ 60) (hd : d ≤ 12) (hK1 : KD (gK S) x.2.1 x.2.2 d b1 (p + 1) e) (he : e ≤ x.1) (hdp : dp + 1 + r = 32) (hV : VR h dp env a F0 G0) (ha : ∀ l, l < 8 → cd (a l)) (hn : n ≤ 3000) (hA : agb F F0 G G0 dp) (f1 : F 212 dp = nI (o + p)) (f2 : F 213 dp = env) (f3 : F 214 dp = 0) (f4 : F 215 dp = nI (o + (p + 1))) (hnb : nb (x.2.1 p) 1) (hC : ∀ s t, okv b1 s → CB h dp (x.2.1 p) s t (cb s)) : MO h dp F0 G0 (Qb n) ((EV (gK S) (gBd S) r b1 x (p + 1) a n).bind fun s => (cb s.1).bind fun v => some (v, s.2)) 0 (mw h (dp + 1) n 0 F G rs) := by
  have l1 := KD_lt hK1
  have h201 : h.1 201 (o + p) = x.2.1 p := ht p (by omega)
  refine MO_ch (F1 := F) (G1 := G) (rs := rs) (env := env) hMC ht ho hx hd hK1 (by omega) hdp (hV.mono (by omega) hA) ha hn (fun k => ?_) (fun s hs F' G' hag => ?_)
  · rw [w_0 (by omega) (by omega) f1 h201, go_p (s := 0) (by omega) hnb.1 hnb.2.1 hnb.2.2.1 (hnb.2.2.2.2 _) f3 (by omega) (by omega), f4, f2]
  · obtain ⟨v1, v2, v3⟩ := EV_ok _ _ r _ _ _ _ _ s.1 s.2 ha hs
    have k1 : F' 212 dp = nI (o + p) := by rw [(hag 212 dp (by omega)).1]; exact f1
    have k3 : F' 214 dp = nI 0 := by rw [(hag 214 dp (by omega)).1]; exact f3
    have k4 : F' 215 dp = nI (o + (p + 1)) := by rw [(hag 215 dp (by omega)).1]; exact f4
    have hA1 : agb (up2 (up2 F' 214 dp (nI (0 + 1))) 215 dp (nI (o + e))) F0 (up2 G' (216 + 0) dp s.1) G0 dp := agb.tk (agb.tr hag hA (by omega))
    refine m_last (F := up2 (up2 F' 214 dp (nI (0 + 1))) 215 dp (nI (o + e))) (G := up2 G' (216 + 0) dp s.1) (rs := s.1) (s := s.1) (t := (up2 G' (216 + 0) dp s.1) 217 dp) (m := 1) (P := 0) (by omega) v3 hnb (by omega) (by rw [up2_n (by decide), u2_s]) u2_s rfl hA1 (hC s.1 _ v1) (fun k => ?_)
    rw [w_1 (by omega) (by omega) k1 h201 hnb.2.2.2.1, tk_n (s := 0) (q := o + e) (by omega) hnb.2.2.1 (by omega) k3 (fun F' G' => by rw [k4]; exact e_mw hw hm ht ho hx hd hK1 he _ _ _ _ _ _), ob_s]
theorem m_args (hw : WF S) (hm : MM S h) (hMC : MC S h r) {x : TX} {o d p e dp f : Nat} {env : Int32} {a : Nat → Int64} (ht : mT h o x) (ho : o + x.1 ≤ 1490) (hx : x.1 ≤ 60) (hd : d ≤ 12) (hp : p < x.1) (he : e ≤ x.1) (hdp : dp + 1 + r = 32) (hV : VR h dp env a F0 G0) (ha : ∀ l, l < 8 → cd (a l)) (hf : 65 ≤ x.2.1 p ∧ x.2.1 p < 69) (hff : fnN (x.2.1 p) = f) (hk0 : 0 < gK S f) : ∀ (i j p' n : Nat) (F : Nat → Nat → Int32) (G : Nat → Nat → Int64) (rs : Int64) (z : Nat → Int64) (cm : Int32) (H : HP), j + i = gK S f → n ≤ 3000 → agb F F0 G G0 dp → F 212 dp = nI (o + p) → F 213 dp = env → F 214 dp = nI j → F 215 dp = nI (o + p') → (∀ q, q < 3 → G (216 + q) dp = z q) → (∀ l, cd (z l)) → its (KD (gK S) x.2.1 x.2.2 d false) i p' e → (∀ k, s_AdjoinedSetsModel_work_23 (k + 1) 200 cm H = (s_AdjoinedSetsModel_goOn 200 (nI dp) (x.2.1 p) (mw h (dp + 1) n 0 F G rs)).bind fun q => s_AdjoinedSetsModel_work_119 (s_AdjoinedSetsModel_work_23 k) 200 (nI dp) q) → MO h dp F0 G0 (Qb n) ((ag (EV (gK S) (gBd S) r) x a i j p' z n).bind fun q => EV (gK S) (gBd S) r false (gBd S f) 0 (r3 q.1) q.2) cm H := by
  have hfn := fn_n hf
  rw [hff] at hfn
  have h3 := (hw.2.2.1 f hfn.2).1
  have h201 : h.1 201 (o + p) = x.2.1 p := ht p (by omega)
  have hD : s_AdjoinedSetsModel_isDigit (x.2.1 p) = some 0 ∧ s_AdjoinedSetsModel_isLow (x.2.1 p) = some 0 := by
    have hj : x.2.1 p = nI (65 + f) := by
      rw [← nI_add, ← hfn.1]
      show x.2.1 p = 65 + (x.2.1 p - 65)
      rw [Int32.add_comm, Int32.sub_add_cancel]
    rw [hj]
    exact (show ∀ f, f < 4 → s_AdjoinedSetsModel_isDigit (nI (65 + f)) = some 0 ∧ s_AdjoinedSetsModel_isLow (nI (65 + f)) = some 0 by decide) f hfn.2
  have hB := (cl_fun hf).2.2.1
  have hP : ∀ n F G rs, s_AdjoinedSetsModel_partsOf 200 (x.2.1 p) (mw h (dp + 1) n 0 F G rs) = some (nI (gK S f)) := by
    intro n F G rs
    have := po_fx (h := mw h (dp + 1) n 0 F G rs) (K := gK S) (fun f hf => hm.1 f hf) hf
    rw [hff] at this
    exact this
  have hm3 : h.1 203 (fnN (x.2.1 p)) = nI (gK S f) := by
    rw [hff]
    exact hm.1 f hfn.2
  intro i
  induction i with
  | zero =>
    intro j p' n F G rs z cm H hj hn hA f1 f2 f3 f4 hG hz hi hs
    have hj : j = gK S f := by omega
    rw [hj] at f3
    have e0 : ((ag (EV (gK S) (gBd S) r) x a 0 j p' z n).bind fun q => EV (gK S) (gBd S) r false (gBd S f) 0 (r3 q.1) q.2) = (EV (gK S) (gBd S) r false (gBd S f) 0 (r3 z) n).bind fun q => some q := by
      rw [ob_e]
      rfl
    rw [e0]
    obtain ⟨b1, b2, b3, b4⟩ := (hw.2.2.1 f hfn.2).2 (by omega)
    refine MO_ch (F1 := F) (G1 := G) (rs := rs) (env := nI dp) (o := 1100 + 60 * f) (x := gBd S f) (p := 0) (d := 12) (e := (gBd S f).1) hMC (hm.2 f hfn.2 (by omega)) (by omega) b1 (by omega) b3 (Nat.le_refl _) hdp (VR.fn (p := o + p) (c := x.2.1 p) (by omega) (by omega) f1 h201 (cl_fun hf).2.2.2.1 (hG 0 (by omega)) (hG 1 (by omega)) (hG 2 (by omega))) (by intro l _; unfold r3; (repeat' split) <;> exact hz _) hn (fun k => ?_) (fun s hs2 F' G' hag => ?_)
    · rw [hs, go_f (by omega) hD.1 hD.2 hB hf (hP _ _ _ _) f3 (by omega), hff]
      rfl
    · obtain ⟨v1, v2, v3⟩ := EV_ok _ _ r _ _ _ _ _ s.1 s.2 (by intro l _; unfold r3; (repeat' split) <;> exact hz _) hs2
      have k1 : F' 212 dp = nI (o + p) := by rw [(hag 212 dp (by omega)).1]; exact f1
      have k3 : F' 214 dp = nI (gK S f) := by rw [(hag 214 dp (by omega)).1]; exact f3
      exact MO_pop v3 (fun k => w_1p (by omega) (by omega) k1 h201 hf k3 hm3 k) (agb.tr hag hA (by omega))
  | succ i ih =>
    intro j p' n F G rs z cm H hj hn hA f1 f2 f3 f4 hG hz hi hs
    obtain ⟨q, hKq, hi2⟩ := hi
    have l1 := KD_lt hKq
    have l2 := its_le hi2
    have hend := KD_end hKq
    have e0 : ((ag (EV (gK S) (gBd S) r) x a (i + 1) j p' z n).bind fun q => EV (gK S) (gBd S) r false (gBd S f) 0 (r3 q.1) q.2) = (EV (gK S) (gBd S) r false x p' a n).bind fun s => (ag (EV (gK S) (gBd S) r) x a i (j + 1) q (upR z j s.1) s.2).bind fun q => EV (gK S) (gBd S) r false (gBd S f) 0 (r3 q.1) q.2 := by
      show (((EV (gK S) (gBd S) r false x p' a n).bind fun s => ag (EV (gK S) (gBd S) r) x a i (j + 1) (en x p') (upR z j s.1) s.2).bind fun q => EV (gK S) (gBd S) r false (gBd S f) 0 (r3 q.1) q.2) = _
      rw [show en x p' = q from nI_cl hend (by omega)]
      cases EV (gK S) (gBd S) r false x p' a n <;> rfl
    rw [e0]
    refine MO_ch (F1 := F) (G1 := G) (rs := rs) (env := env) hMC ht ho hx hd hKq (by omega) hdp (hV.mono (by omega) hA) ha hn (fun k => ?_) (fun s hs2 F' G' hag => ?_)
    · rw [hs, go_p (s := j) (m := gK S f) (by omega) hD.1 hD.2 hB (hP _ _ _ _) f3 (by omega) (by omega), f4, f2]
    · obtain ⟨v1, v2, v3⟩ := EV_ok _ _ r _ _ _ _ _ s.1 s.2 ha hs2
      have k1 : F' 212 dp = nI (o + p) := by rw [(hag 212 dp (by omega)).1]; exact f1
      have k2 : F' 213 dp = env := by rw [(hag 213 dp (by omega)).1]; exact f2
      have k3 : F' 214 dp = nI j := by rw [(hag 214 dp (by omega)).1]; exact f3
      have k4 : F' 215 dp = nI (o + p') := by rw [(hag 215 dp (by omega)).1]; exact f4
      refine ih (j + 1) q s.2 (up2 (up2 F' 214 dp (nI (j + 1))) 215 dp (nI (o + q))) (up2 G' (216 + j) dp s.1) s.1 (upR z j s.1) 1 _ (by omega) v3 (agb.tk (agb.tr hag hA (by omega))) (by rw [up2_n (by decide), up2_n (by decide)]; exact k1) (by rw [up2_n (by decide), up2_n (by decide)]; exact k2) (by rw [up2_n (by decide), u2_s]) u2_s ?_ ?_ hi2 (fun k => ?_)
      · intro q' hq'
        unfold upR
        by_cases hqj : q' = j
        · rw [if_pos hqj, hqj, u2_s]
        · rw [if_neg hqj, up2_n (by omega), (hag (216 + q') dp (by omega)).2]
          exact hG q' hq'
      · intro l
        unfold upR
        split
        · exact v1
        · exact hz l
      · rw [w_1f (by omega) (by omega) k1 h201 hf k3 hm3 (by omega) h3, tk_n (s := j) (q := o + q) (by omega) hB (by omega) k3 (fun F' G' => by rw [k4]; exact e_mw hw hm ht ho hx hd hKq (by omega) _ _ _ _ _ _), ob_s]
end
