/-! The model's endOf finds the end that KD speaks of. -/
theorem ar1 (a b : Int32) : (a + 1) + (b - 1) = a + b := by
  rw [Int32.sub_eq_add_neg, Int32.add_assoc, Int32.add_comm b (-1), ← Int32.add_assoc 1 (-1) b, show (1 : Int32) + -1 = 0 by decide, Int32.zero_add]
section EO
variable {K : Nat → Nat} {n o : Nat} {t E : Nat → Int32} {h : HP}
theorem eo1 (ht : ∀ p, p < n → h.1 201 (o + p) = t p) (ho : o + n ≤ 1490) {p m r j : Nat} (hp : p < n) (hj : j ≤ 1000) (hpo : s_AdjoinedSetsModel_partsOf 200 (t p) h = some (nI m)) : s_AdjoinedSetsModel_endOf_4 (r + 1) 200 (nI (j + 1)) (nI (o + p)) h = s_AdjoinedSetsModel_endOf_4 r 200 (nI (j + m)) (nI (o + (p + 1))) h := by
  have k9 : kd 200 9 = some () := rfl
  rw [s_AdjoinedSetsModel_endOf_4]
  dsimp only
  rw [if_neg (show ¬ nI (j + 1) ≤ 0 from nI_ge (a := 0) (by omega) (by omega)), if_neg (show ¬ 1490 ≤ nI (o + p) from nI_ge (b := 1490) (by omega) (by omega)), rR_200_0, ob_s, rA_201 (by omega), ob_s, ht p hp, k9, ob_s, hpo, ob_s, nI_1]
  rw [show nI (j + 1) = nI j + 1 from (nI_1 j).symm, ar1, show nI j + nI m = nI (j + m) from nI_add j m]
  rfl
theorem po_fx (hK : ∀ f, f < 4 → h.1 203 f = nI (K f)) {c : Int32} (hc : 65 ≤ c ∧ c < 69) : s_AdjoinedSetsModel_partsOf 200 c h = some (nI (K (fnN c))) := by
  obtain ⟨a, b, b2, d, _⟩ := cl_fun hc
  obtain ⟨e, f4⟩ := fn_n hc
  unfold s_AdjoinedSetsModel_partsOf
  rw [a, ob_s, if_pos rfl, b, ob_s, if_pos rfl, b2, ob_s, if_pos rfl, d, ob_s, if_neg (by decide), rR_200_3, ob_s, e, rA_203 f4, ob_s, hK _ f4]
theorem eo_its {R : Nat → Nat → Prop} {B : Nat} (hlt : ∀ p e, R p e → p < e) (hR : ∀ p e, R p e → e ≤ n → ∀ j r, j ≤ B → s_AdjoinedSetsModel_endOf_4 (r + (e - p)) 200 (nI (j + 1)) (nI (o + p)) h = s_AdjoinedSetsModel_endOf_4 r 200 (nI j) (nI (o + e)) h) : ∀ (m p e : Nat), its R m p e → e ≤ n → p ≤ e ∧ ∀ j r, j + m ≤ B → s_AdjoinedSetsModel_endOf_4 (r + (e - p)) 200 (nI (j + m)) (nI (o + p)) h = s_AdjoinedSetsModel_endOf_4 r 200 (nI j) (nI (o + e)) h := by
  intro m
  induction m with
  | zero =>
    intro p e hi he
    have hi : p = e := hi
    subst hi
    refine ⟨Nat.le_refl _, fun j r _ => ?_⟩
    rw [Nat.sub_self]
    rfl
  | succ m ih =>
    intro p e hi he
    obtain ⟨q, a, b⟩ := hi
    have l1 := hlt p q a
    have key : ∀ (m q e : Nat), its R m q e → q ≤ e := by
      intro m
      induction m with
      | zero => intro q e h; have h : q = e := h; omega
      | succ m ih2 =>
        intro q e h
        obtain ⟨r, a, b⟩ := h
        have := hlt q r a
        have := ih2 r e b
        omega
    have l2 := key m q e b
    obtain ⟨_, BB⟩ := ih q e b he
    refine ⟨by omega, fun j r hj => ?_⟩
    have e1 : r + (e - p) = (r + (e - q)) + (q - p) := by omega
    rw [e1]
    have := hR p q a (by omega) (j + m) (r + (e - q)) (by omega)
    rw [show j + (m + 1) = j + m + 1 from rfl, this]
    exact BB j r (by omega)
theorem eo_all (hK : ∀ f, f < 4 → h.1 203 f = nI (K f)) (ht : ∀ p, p < n → h.1 201 (o + p) = t p) (ho : o + n ≤ 1490) (hK3 : ∀ f, f < 4 → K f ≤ 3) : ∀ (d : Nat) (b : Bool) (p e : Nat), KD K t E d b p e → e ≤ n → ∀ j r, j ≤ 900 - 4 * d → 4 * d ≤ 100 → s_AdjoinedSetsModel_endOf_4 (r + (e - p)) 200 (nI (j + 1)) (nI (o + p)) h = s_AdjoinedSetsModel_endOf_4 r 200 (nI j) (nI (o + e)) h := by
  intro d
  induction d with
  | zero => intro b p e hk; exact absurd hk (fun q => q)
  | succ d ih =>
    intro b p e hKD he j r hj hd
    obtain ⟨h1, h2, h3⟩ := hKD
    have two : ∀ (b1 b2 : Bool) (s : Nat), (∃ q, KD K t E d b1 s q ∧ KD K t E d b2 q e) → s_AdjoinedSetsModel_endOf_4 (r + (e - s)) 200 (nI (j + 2)) (nI (o + s)) h = s_AdjoinedSetsModel_endOf_4 r 200 (nI j) (nI (o + e)) h := by
      intro b1 b2 s ⟨q, a, b⟩
      have l1 := KD_lt a
      have l2 := KD_lt b
      have e1 : r + (e - s) = (r + (e - q)) + (q - s) := by omega
      rw [e1, show j + 2 = j + 1 + 1 from rfl, ih b1 s q a (by omega) (j + 1) _ (by omega) (by omega)]
      exact ih b2 q e b he j r (by omega) (by omega)
    have st : ∀ m, s_AdjoinedSetsModel_partsOf 200 (t p) h = some (nI m) → s_AdjoinedSetsModel_endOf_4 (r + (e - p)) 200 (nI (j + 1)) (nI (o + p)) h = s_AdjoinedSetsModel_endOf_4 (r + (e - (p + 1))) 200 (nI (j + m)) (nI (o + (p + 1))) h := by
      intro m hpo
      rw [show r + (e - p) = (r + (e - (p + 1))) + 1 by omega]
      exact eo1 ht ho (by omega) (by omega) hpo
    have bnd : ∀ (b2 : Bool), s_AdjoinedSetsModel_partsOf 200 (t p) h = some (nI 3) → isLw (t (p + 1)) → (∃ q, KD K t E d false (p + 2) q ∧ KD K t E d b2 q e) → s_AdjoinedSetsModel_endOf_4 (r + (e - p)) 200 (nI (j + 1)) (nI (o + p)) h = s_AdjoinedSetsModel_endOf_4 r 200 (nI j) (nI (o + e)) h := by
      intro b2 hpo hl hq
      obtain ⟨q, k1, k2⟩ := hq
      have l1 := KD_lt k1
      have l2 := KD_lt k2
      obtain ⟨x1, x2, x3, x4, _⟩ := cl_low hl
      rw [st 3 hpo, show r + (e - (p + 1)) = (r + (e - (p + 2))) + 1 by omega, show j + 3 = (j + 2) + 1 from rfl, eo1 ht ho (m := 0) (p := p + 1) (by omega) (by omega) (po_0 x1 x2 x3 x4)]
      exact two false b2 (p + 2) ⟨q, k1, k2⟩
    cases b with
    | true =>
      rcases h3 with ⟨a, b⟩ | ⟨a, b⟩ | ⟨a, b⟩ | ⟨a, a2, b⟩
      · rw [st 2 (by rcases a with a | a <;> rw [a] <;> rfl)]
        exact two _ _ _ b
      · rw [st 1 (by rw [a]; rfl)]
        exact ih true (p + 1) e b he j r (by omega) (by omega)
      · rw [st 2 (by rcases a with a | a | a <;> rw [a] <;> rfl)]
        exact two _ _ _ b
      · exact bnd true (by rcases a with a | a <;> rw [a] <;> rfl) a2 b
    | false =>
      rcases h3 with ⟨a, b⟩ | ⟨a, b⟩ | ⟨a, a2, b⟩ | ⟨a, b⟩ | ⟨a, b⟩ | ⟨a, a2, b⟩ | ⟨a, a2, b⟩
      · obtain ⟨x1, x2, x3, x4, _⟩ := cl_dig a
        rw [st 0 (po_0 x1 x2 x3 x4), b, Nat.sub_self]
        rfl
      · obtain ⟨x1, x2, x3, x4, _⟩ := cl_low a
        rw [st 0 (po_0 x1 x2 x3 x4), b, Nat.sub_self]
        rfl
      · have k3 := hK3 _ (fn_n a).2
        unfold fnN at k3
        rw [st _ (po_fx hK a)]
        exact (eo_its (B := 900 - 4 * d) (fun p e r => KD_lt r) (fun p e r he j r' hj => ih false p e r he j r' hj (by omega)) _ _ _ b he).2 j r (by omega)
      · rw [st 2 (by rcases a with a | a | a | a <;> rw [a] <;> rfl)]
        exact two _ _ _ b
      · rw [st 1 (by rcases a with a | a | a <;> rw [a] <;> rfl)]
        exact ih false (p + 1) e b he j r (by omega) (by omega)
      · exact bnd true (by rw [a]; rfl) a2 b
      · exact bnd false (by rw [a]; rfl) a2 b
theorem m_endOf (hK : ∀ f, f < 4 → h.1 203 f = nI (K f)) (ht : ∀ p, p < n → h.1 201 (o + p) = t p) (ho : o + n ≤ 1490) (hn : n ≤ 60) (hK3 : ∀ f, f < 4 → K f ≤ 3) {d : Nat} (hd : d ≤ 12) {b : Bool} {p e : Nat} (hk : KD K t E d b p e) (he : e ≤ n) : s_AdjoinedSetsModel_endOf 200 (nI (o + p)) h = some (nI (o + e)) := by
  have l := KD_lt hk
  unfold s_AdjoinedSetsModel_endOf
  have := eo_all hK ht ho hK3 d b p e hk he 0 (20000 - (e - p)) (by omega) (by omega)
  rw [show 20000 - (e - p) + (e - p) = 20000 by omega] at this
  rw [show s_AdjoinedSetsModel_endOf_4 20000 200 1 (nI (o + p)) h = _ from this]
  obtain ⟨r, hr⟩ : ∃ r, 20000 - (e - p) = r + 1 := ⟨20000 - (e - p) - 1, by omega⟩
  rw [hr, s_AdjoinedSetsModel_endOf_4]
  dsimp only
  rw [if_pos (by decide)]
end EO
