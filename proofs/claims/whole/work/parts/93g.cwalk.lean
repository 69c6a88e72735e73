/-! The class's walk: broughtBy, gathered, given. -/
section
variable {S : SG} {h : HP}
theorem sup1 {r : Nat} (hr : r ≤ 31) : nI (32 - r) + 1 = nI (33 - r) := by
  rw [nI_1]
  congr 1
  omega
theorem w_br {r g : Nat} (hG : CTr S h r g) (hr : r ≤ 31) {t : Nat} {x : TX} {d p q e row c n : Nat} {a w : Nat → Int64} (ht : cT h t x) (hE : cE h t x) (hp : p + 2 < x.1) (hq : x.2.2 (p + 2) = nI q) (he : e ≤ x.1) (hK : KD (gK S) x.2.1 x.2.2 d (if x.2.1 p = 73 then false else true) q e) (hrow : row + r ≤ 32) (hag : ∀ l, l < 8 → fv x.2.1 x.2.2 d q l = true → w (8 * row + l) = upR a (lwN (x.2.1 (p + 1))) (lN c) l) (ha : ∀ l, l < 8 → cd (a l)) (hn : n ≤ 3000) (hc : c < 62) : ∃ rr n' w', s_Worker_broughtBy (s_grp_Worker_broughtBy g) 5 (nI c) t (nI p) (nI row) (nI (32 - r)) (cw h n w) = some (rr, cw h n' w') ∧ rs1 (br (EV (gK S) (gBd S) r) x p a c n) (8 * (33 - r)) w rr n' w' := by
  have h60 := ht.1.2.2
  have hqx : q < e := KD_lt hK
  have e2 : nI p + 2 = nI (p + 2) := by rw [show (2 : Int32) = nI 2 from rfl, nI_add]
  have hq2 : en x (p + 2) = q := nI_cl hq (by omega)
  have hu := upR_cd (l := lwN (x.2.1 (p + 1))) ha (cd_n (n := c) (by omega))
  unfold s_Worker_broughtBy br
  rw [t_kd ht.1.1, ob_s, e2, end_w ht hE hp, ob_s, ob_s, at_w ht (by omega), ob_s, rK_5, hq, sup1 hr, hq2]
  by_cases h73 : x.2.1 p = 73
  · rw [if_pos h73, if_pos h73, ob_s]
    rw [if_pos h73] at hK
    obtain ⟨rr, n1, w1, e1, r1⟩ := hG.1 t x d q e row _ n w ⟨ht, hE, hK, he, hrow, hag, hu, hn⟩
    rw [e1, ob_s]
    dsimp only
    cases hV : EV (gK S) (gBd S) r false x q (upR a (lwN (x.2.1 (p + 1))) (lN c)) n with
    | none =>
      rw [hV] at r1
      rw [if_pos ((lg_cmp_lt _ _).mpr (m3_of r1))]
      exact ⟨-3, n1, w1, rfl, rfl⟩
    | some v =>
      rw [hV] at r1
      obtain ⟨k1, k2, k3⟩ := r1
      have hcd : cd v.1 := (EV_ok _ _ r _ _ _ _ _ v.1 v.2 hu hV).1
      rw [k1, if_neg (fun z => lg_nn ((lg_cmp_lt _ _).mp z) (lg_cd hcd)), ob_s]
      by_cases h62 : v.1 < 62
      · rw [if_neg (fun z => by rw [lg_cmp_ge] at z; rw [Int64.lt_iff_toInt_lt] at h62; rw [Int64.le_iff_toInt_le] at z; omega), if_pos h62]
        exact ⟨_, n1, w1, rfl, rfl, k2, k3⟩
      · rw [if_pos (by rw [lg_cmp_ge]; rw [Int64.lt_iff_toInt_lt] at h62; rw [Int64.le_iff_toInt_le]; omega), if_neg h62]
        exact ⟨-3, n1, w1, rfl, rfl⟩
  · rw [if_neg h73, if_neg h73, ob_s]
    rw [if_neg h73] at hK
    obtain ⟨rr, n1, w1, e1, r1⟩ := hG.2 t x d q e row _ n w ⟨ht, hE, hK, he, hrow, hag, hu, hn⟩
    rw [e1, ob_s]
    dsimp only
    cases hV : EV (gK S) (gBd S) r true x q (upR a (lwN (x.2.1 (p + 1))) (lN c)) n with
    | none =>
      rw [hV] at r1
      rw [if_pos (i64_n (m3_of r1))]
      exact ⟨-3, n1, w1, rfl, rfl⟩
    | some v =>
      rw [hV] at r1
      obtain ⟨k1, k2, k3⟩ := r1
      have h01 : v.1 = 0 ∨ v.1 = 1 := (EV_ok _ _ r _ _ _ _ _ v.1 v.2 hu hV).1
      rw [ob_s]
      rcases h01 with q0 | q0
      · have : rr = 0 := i64_e (y := 0) (by rw [k1, q0]; rfl)
        rw [this, if_neg (by decide), if_pos q0]
        refine ⟨_, n1, w1, rfl, ?_, k2, k3⟩
        exact (show ∀ c, c < 62 → (0 : Int32).toInt64 <<< ((nI c).toInt64 &&& 63) = 0 by decide +kernel) c hc
      · have : rr = 1 := i64_e (y := 1) (by rw [k1, q0]; rfl)
        rw [this, if_neg (by decide), if_neg (by rw [q0]; decide)]
        exact ⟨_, n1, w1, rfl, rfl, k2, k3⟩
theorem ga_z {R : EVT} {x : TX} {p : Nat} {a : Nat → Int64} {s : Int64} : ∀ (i c : Nat) (z : Int64) (n : Nat), (∀ j, c ≤ j → j < c + i → mb s j = false) → ga R x p a s i c z n = some (z, n) := by
  intro i
  induction i with
  | zero => intro c z n _; rfl
  | succ i ih =>
    intro c z n hz
    show (if mb s c then (br R x p a c n).bind fun q => ga R x p a s i (c + 1) (z ||| q.1) q.2 else ga R x p a s i (c + 1) z n) = _
    rw [hz c (Nat.le_refl _) (by omega), if_neg (by decide)]
    exact ih (c + 1) z n (fun j a b => hz j (by omega) (by omega))
theorem w_97 {r : Nat} {row L n : Nat} {z : Int64} {w w0 : Nat → Int64} (gf : GT_Worker_broughtBy) (hrow : row + r ≤ 31) (hL : L < 8) (hw : ∀ j, j < 8 * (32 - r) → j ≠ 8 * row + L → w j = w0 j) : ∃ rr n' w', s_Worker_gathered_97 gf 5 (nI (8 * row + L)) (w0 (8 * row + L)) z (cw h n w) = some (rr, cw h n' w') ∧ rs1 (some (z, n)) (8 * (32 - r)) w0 rr n' w' := by
  unfold s_Worker_gathered_97
  rw [rR_5_1, ob_s, wA_10 (by omega), ob_s, cw_sw]
  refine ⟨z, n, _, rfl, rfl, rfl, fun j hj => ?_⟩
  unfold upR
  split
  · rename_i q
    rw [q]
  · rename_i q
    exact hw j hj q
theorem w_ga {r g : Nat} (hG : CTr S h r g) (hr : r ≤ 31) {t : Nat} {x : TX} {d p q e row : Nat} {a w0 : Nat → Int64} {s : Int64} (ht : cT h t x) (hE : cE h t x) (hp : p + 2 < x.1) (hq : x.2.2 (p + 2) = nI q) (he : e ≤ x.1) (hK : KD (gK S) x.2.1 x.2.2 d (if x.2.1 p = 73 then false else true) q e) (hrow : row + r ≤ 31) (hL : lwN (x.2.1 (p + 1)) < 8) (hag : ∀ l, l < 8 → fv x.2.1 x.2.2 d q l = true → l ≠ lwN (x.2.1 (p + 1)) → w0 (8 * row + l) = a l) (ha : ∀ l, l < 8 → cd (a l)) : ∀ (i c k n : Nat) (z : Int64) (w : Nat → Int64), c + i = 62 → i < k → n ≤ 3000 → cd z → (∀ j, j < 8 * (32 - r) → j ≠ 8 * row + lwN (x.2.1 (p + 1)) → w j = w0 j) → ∃ rr n' w', s_Worker_gathered_24 (s_grp_Worker_broughtBy (g + 1)) k 5 t (nI p) s (nI row) (nI (32 - r)) (nI (8 * row + lwN (x.2.1 (p + 1)))) (w0 (8 * row + lwN (x.2.1 (p + 1)))) z (nI c) (cw h n w) = some (rr, cw h n' w') ∧ rs1 (ga (EV (gK S) (gBd S) r) x p a s i c z n) (8 * (32 - r)) w0 rr n' w' := by
  intro i
  induction i with
  | zero =>
    intro c k n z w h1 h2 hn hz hw
    obtain ⟨k, rfl⟩ : ∃ r0, k = r0 + 1 := ⟨k - 1, by omega⟩
    rw [s_Worker_gathered_24]
    dsimp only
    rw [if_pos (show 62 ≤ nI c from nI_le (a := 62) (by omega) (by omega))]
    exact w_97 _ hrow hL hw
  | succ i ih =>
    intro c k n z w h1 h2 hn hz hw
    obtain ⟨k, rfl⟩ : ∃ r0, k = r0 + 1 := ⟨k - 1, by omega⟩
    rw [s_Worker_gathered_24]
    dsimp only
    rw [if_neg (show ¬ 62 ≤ nI c from nI_ge (b := 62) (by omega) (by omega))]
    by_cases c1 : lg_cmp (s >>> ((nI c).toInt64 &&& 63)) 0 = 0
    · rw [if_pos c1]
      have hz0 := sh_z (by omega) ((lg_0 _ _).mp c1)
      rw [ga_z (i + 1) c z n (fun j a b => hz0 j a (by omega))]
      exact w_97 _ hrow hL hw
    · rw [if_neg c1]
      unfold s_AdjoinedSets_isMember s_Worker_gathered_91
      rw [bit64 s (by omega), nI_1, rR_5_1, rK_5, nI_l (by omega)]
      cases hm : mb s c with
      | false =>
        rw [if_neg (by decide : ¬ (false = true)), if_pos (by decide : lg_cmp 0 0 = 0), ob_s, if_pos rfl]
        have e0 : ga (EV (gK S) (gBd S) r) x p a s (i + 1) c z n = ga (EV (gK S) (gBd S) r) x p a s i (c + 1) z n := by
          show (if mb s c then _ else _) = _
          rw [hm, if_neg (by decide)]
        rw [e0]
        exact ih (c + 1) k n z w (by omega) (by omega) hn hz hw
      | true =>
        rw [if_pos rfl, if_neg (by decide : ¬ lg_cmp 1 0 = 0), ob_s, if_neg (by decide), ob_s, wA_10 (by omega), ob_s, ob_s, cw_sw]
        have e0 : ga (EV (gK S) (gBd S) r) x p a s (i + 1) c z n = (br (EV (gK S) (gBd S) r) x p a c n).bind fun q => ga (EV (gK S) (gBd S) r) x p a s i (c + 1) (z ||| q.1) q.2 := by
          show (if mb s c then _ else _) = _
          rw [hm, if_pos rfl]
        rw [e0]
        have hag2 : ∀ l, l < 8 → fv x.2.1 x.2.2 d q l = true → (upR w (8 * row + lwN (x.2.1 (p + 1))) (lN c)) (8 * row + l) = upR a (lwN (x.2.1 (p + 1))) (lN c) l := by
          intro l hl hf
          unfold upR
          by_cases hle : l = lwN (x.2.1 (p + 1))
          · rw [if_pos (by omega), if_pos hle]
          · rw [if_neg (by omega), if_neg hle, hw _ (by omega) (by omega)]
            exact hag l hl hf hle
        obtain ⟨rr, n1, w1, e1, r1⟩ := w_br hG hr ht hE hp hq he hK (by omega) hag2 ha hn (show c < 62 by omega)
        have e1' : (s_grp_Worker_broughtBy (g + 1)).1 5 (nI c) t (nI p) (nI row) (nI (32 - r)) (cw h n (upR w (8 * row + lwN (x.2.1 (p + 1))) (lN c))) = some (rr, cw h n1 w1) := e1
        rw [e1', ob_s]
        dsimp only
        cases hV : br (EV (gK S) (gBd S) r) x p a c n with
        | none =>
          rw [hV] at r1
          rw [if_neg (lg_nn (m3_of r1))]
          exact ⟨-3, n1, w1, rfl, rfl⟩
        | some v =>
          rw [hV] at r1
          obtain ⟨k1, k2, k3⟩ := r1
          obtain ⟨hv1, hv2, hv3⟩ := br_ok (v := v.1) (m := v.2) (EV_ok _ _ r) (by omega) ha hV
          rw [k1, k2, if_pos (lg_cd hv1), ob_s]
          refine ih (c + 1) k v.2 _ w1 (by omega) (by omega) hv3 (cd_or hz hv1) ?_
          intro j hj hne
          rw [k3 j (by omega)]
          unfold upR
          rw [if_neg hne]
          exact hw j hj hne
/-- the parts that a function is given, from p on, know the letters -/
def agr (x : TX) (d row : Nat) (w0 a : Nat → Int64) : Nat → Nat → Prop
  | 0 => fun _ => True
  | i + 1 => fun p => (∀ l, l < 8 → fv x.2.1 x.2.2 d p l = true → w0 (8 * row + l) = a l) ∧ agr x d row w0 a i (en x p)
theorem fn_R : ∀ f, f < 4 → ∀ hh : HP, gI hh (17 + f) 1 1 = some (hh.1 (17 + f) 1) ∧ gR hh (17 + f) 1 0 = some (106 + 3 * f) ∧ kd (17 + f) 1 = some () := by
  intro f hf hh
  obtain rfl | rfl | rfl | rfl : f = 0 ∨ f = 1 ∨ f = 2 ∨ f = 3 := by omega
  · exact ⟨rfl, rfl, rfl⟩
  · exact ⟨rfl, rfl, rfl⟩
  · exact ⟨rfl, rfl, rfl⟩
  · exact ⟨rfl, rfl, rfl⟩
theorem w_gv (hw : WF S) (hc : CA S h) {r g : Nat} (hG : CTr S h r g) (hr : r ≤ 31) {t : Nat} {x : TX} {d row f : Nat} {a w0 : Nat → Int64} (ht : cT h t x) (hE : cE h t x) (hrow : row + r ≤ 31) (hf : f < 4) (hK0 : 0 < gK S f) (ha : ∀ l, l < 8 → cd (a l)) : ∀ (i j p e k n : Nat) (z w : Nat → Int64), j + i = gK S f → i < k → n ≤ 3000 → e ≤ x.1 → its (KD (gK S) x.2.1 x.2.2 d false) i p e → agr x d row w0 a i p → (∀ l, cd (z l)) → (∀ q, q < 8 * (32 - r) → w q = w0 q) → (∀ q, q < j → w (8 * (32 - r) + q) = z q) → ∃ rr n' w', s_Worker_given_23 (s_grp_Worker_broughtBy g) k 5 t (nI row) (nI (32 - r)) (17 + f) (nI p) (nI j) (cw h n w) = some (rr, cw h n' w') ∧ rs1 ((ag (EV (gK S) (gBd S) r) x a i j p z n).bind fun q => EV (gK S) (gBd S) r false (gBd S f) 0 (r3 q.1) q.2) (8 * (32 - r)) w0 rr n' w' := by
  have h3 := (hw.2.2.1 f hf).1
  have hk : ∀ n w, (cw h n w).1 (17 + f) 1 = nI (gK S f) := fun n w => by rw [cw_I (by omega)]; exact (hc.2.2.1 f hf).1
  intro i
  induction i with
  | zero =>
    intro j p e k n z w hj hik hn he hi hag hz hw1 hw2
    obtain ⟨k, rfl⟩ : ∃ r0, k = r0 + 1 := ⟨k - 1, by omega⟩
    rw [s_Worker_given_23]
    dsimp only
    unfold s_Function_takes s_Function_body
    rw [(fn_R f hf (cw h n w)).2.2, ob_s, (fn_R f hf (cw h n w)).1, ob_s, hk, ob_s, if_pos (nI_le (by omega) (by omega)), ob_s, (fn_R f hf (cw h n w)).2.1, ob_s, ob_s, rK_5, ob_s, sup1 hr]
    obtain ⟨b1, b2, b3, b4⟩ := (hw.2.2.1 f hf).2 (by omega)
    obtain ⟨c1, c2⟩ := (hc.2.2.1 f hf).2 (by omega)
    obtain ⟨rr, n1, w1, e1, r1⟩ := hG.1 (106 + 3 * f) (gBd S f) 12 0 (gBd S f).1 (32 - r) (r3 z) n w ⟨c1, c2, b3, Nat.le_refl _, by omega, by
      intro l hl hfv
      have hlk := b4 l hl hfv
      rw [hw2 l (by omega)]
      unfold r3
      obtain rfl | rfl | rfl : l = 0 ∨ l = 1 ∨ l = 2 := by omega
      · rfl
      · rfl
      · rfl, by intro l _; unfold r3; (repeat' split) <;> exact hz _, hn⟩
    rw [show (0 : Int32) = nI 0 from rfl, e1, ob_s]
    refine ⟨rr, n1, w1, rfl, ?_⟩
    have e2 : ((ag (EV (gK S) (gBd S) r) x a 0 j p z n).bind fun q => EV (gK S) (gBd S) r false (gBd S f) 0 (r3 q.1) q.2) = EV (gK S) (gBd S) r false (gBd S f) 0 (r3 z) n := rfl
    rw [e2]
    cases hV : EV (gK S) (gBd S) r false (gBd S f) 0 (r3 z) n with
    | none => rw [hV] at r1; exact r1
    | some v =>
      rw [hV] at r1
      obtain ⟨k1, k2, k3⟩ := r1
      exact ⟨k1, k2, fun q hq => by rw [k3 q (by omega)]; exact hw1 q hq⟩
  | succ i ih =>
    intro j p e k n z w hj hik hn he hi hag hz hw1 hw2
    obtain ⟨k, rfl⟩ : ∃ r0, k = r0 + 1 := ⟨k - 1, by omega⟩
    obtain ⟨q, hKq, hi2⟩ := hi
    have hpq : p < q := KD_lt hKq
    have hqe : q ≤ e := (its_congr (R := KD (gK S) x.2.1 x.2.2 d false) (R' := KD (gK S) x.2.1 x.2.2 d false) (E := x.2.2) (E' := x.2.2) (fun _ _ _ z => z) (fun _ _ z => Nat.le_of_lt (KD_lt z)) i q e (fun _ _ _ => rfl) hi2).2
    have h60 := ht.1.2.2
    have hend : x.2.2 p = nI q := by
      cases d with
      | zero => exact absurd hKq (fun z => z)
      | succ d => exact hKq.1
    rw [s_Worker_given_23]
    dsimp only
    unfold s_Function_takes
    rw [(fn_R f hf (cw h n w)).2.2, ob_s, (fn_R f hf (cw h n w)).1, ob_s, hk, ob_s, if_neg (nI_ge (by omega) (by omega)), rK_5, ob_s, sup1 hr]
    obtain ⟨rr, n1, w1, e1, r1⟩ := hG.1 t x d p q row a n w ⟨ht, hE, hKq, by omega, by omega, fun l hl hfv => by rw [hw1 _ (by omega)]; exact hag.1 l hl hfv, ha, hn⟩
    rw [e1, ob_s]
    dsimp only
    have e2 : ag (EV (gK S) (gBd S) r) x a (i + 1) j p z n = (EV (gK S) (gBd S) r false x p a n).bind fun s => ag (EV (gK S) (gBd S) r) x a i (j + 1) (en x p) (upR z j s.1) s.2 := rfl
    rw [e2]
    cases hV : EV (gK S) (gBd S) r false x p a n with
    | none =>
      rw [hV] at r1
      rw [if_neg (lg_nn (m3_of r1))]
      exact ⟨-3, n1, w1, rfl, rfl⟩
    | some v =>
      rw [hV] at r1
      obtain ⟨k1, k2, k3⟩ := r1
      obtain ⟨hv1, hv2, hv3⟩ := EV_ok _ _ r _ _ _ _ _ v.1 v.2 ha hV
      have e8 : nI (32 - r) * 8 + nI j = nI (8 * (32 - r) + j) := by
        rw [show (8 : Int32) = nI 8 from rfl, pk_mul, nI_add, Nat.mul_comm]
      rw [k1, k2, if_pos (lg_cd hv1), rR_5_1, ob_s, e8, wA_10 (by omega), ob_s, cw_sw, t_kd ht.1.1, ob_s, end_w ht hE (by omega), ob_s, nI_1, hend, ob_s, show en x p = q from nI_cl hend (by omega)]
      refine ih (j + 1) q e k v.2 (upR z j v.1) (upR w1 (8 * (32 - r) + j) v.1) (by omega) (by omega) hv3 he hi2 ?_ ?_ ?_ ?_
      · have := hag.2
        rw [show en x p = q from nI_cl hend (by omega)] at this
        exact this
      · intro l
        unfold upR
        split
        · exact hv1
        · exact hz l
      · intro m hm
        unfold upR
        rw [if_neg (by omega), k3 m (by omega)]
        exact hw1 m hm
      · intro m hm
        unfold upR
        by_cases hmj : m = j
        · rw [if_pos (by omega), if_pos hmj]
        · rw [if_neg (by omega), if_neg hmj, k3 _ (by omega)]
          exact hw2 m (by omega)
end
