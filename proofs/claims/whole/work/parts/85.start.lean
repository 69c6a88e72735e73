/-! Reading as a whole: a term, a formula, a body. -/
theorem its_imp {R R' : Nat → Nat → Prop} (hR : ∀ p e, R p e → R' p e) : ∀ (m p e : Nat), its R m p e → its R' m p e := by
  intro m
  induction m with
  | zero => intro p e h; exact h
  | succ m ih =>
    intro p e h
    obtain ⟨q, a, b⟩ := h
    exact ⟨q, hR p q a, ih q e b⟩
theorem KD_k {k k' : Nat → Nat} {t E : Nat → Int32} (hk : ∀ f, f < 4 → k f = k' f) : ∀ (d : Nat) (b : Bool) (p e : Nat), KD k t E d b p e → KD k' t E d b p e := by
  intro d
  induction d with
  | zero => intro b p e h; exact absurd h (fun q => q)
  | succ d ih =>
    intro b p e h
    obtain ⟨h1, h2, h3⟩ := h
    have two : ∀ (b1 b2 : Bool) (s : Nat), (∃ q, KD k t E d b1 s q ∧ KD k t E d b2 q e) → ∃ q, KD k' t E d b1 s q ∧ KD k' t E d b2 q e := by
      intro b1 b2 s ⟨q, a, b⟩
      exact ⟨q, ih _ _ _ a, ih _ _ _ b⟩
    refine ⟨h1, h2, ?_⟩
    cases b with
    | true =>
      rcases h3 with ⟨a, b⟩ | ⟨a, b⟩ | ⟨a, b⟩ | ⟨a, a2, b⟩
      · exact Or.inl ⟨a, two _ _ _ b⟩
      · exact Or.inr (Or.inl ⟨a, ih _ _ _ b⟩)
      · exact Or.inr (Or.inr (Or.inl ⟨a, two _ _ _ b⟩))
      · exact Or.inr (Or.inr (Or.inr ⟨a, a2, two _ _ _ b⟩))
    | false =>
      rcases h3 with a | a | ⟨a, a2, b⟩ | ⟨a, b⟩ | ⟨a, b⟩ | ⟨a, a2, b⟩ | ⟨a, a2, b⟩
      · exact Or.inl a
      · exact Or.inr (Or.inl a)
      · have e := hk _ (fn_n a).2
        unfold fnN at e
        refine Or.inr (Or.inr (Or.inl ⟨a, by rw [← e]; exact a2, ?_⟩))
        rw [← e]
        exact its_imp (fun p e r => ih false p e r) _ _ _ b
      · exact Or.inr (Or.inr (Or.inr (Or.inl ⟨a, two _ _ _ b⟩)))
      · exact Or.inr (Or.inr (Or.inr (Or.inr (Or.inl ⟨a, ih _ _ _ b⟩))))
      · exact Or.inr (Or.inr (Or.inr (Or.inr (Or.inr (Or.inl ⟨a, a2, two _ _ _ b⟩)))))
      · exact Or.inr (Or.inr (Or.inr (Or.inr (Or.inr (Or.inr ⟨a, a2, two _ _ _ b⟩)))))
section ALL
variable {k : Nat → Nat} {n : Nat} {t : Nat → Int32} {ow : Int32} {ok lt : Nat}
theorem good_all (hn : n ≤ 60) (hk : ∀ f, f < 4 → k f ≤ 3) (hok : ow = -1 ∨ (1 ≤ ok ∧ ok ≤ 3)) (hlt : lt ≤ 8) : ∀ (d : Nat), d ≤ 12 → ∀ g, 4 * d + 1 ≤ g → GoodR k n t ow ok lt d g := by
  intro d
  induction d with
  | zero =>
    intro _ g hg b sc p h hr hsc hp
    obtain ⟨g0, rfl⟩ : ∃ g0, g = g0 + 1 := ⟨g - 1, by omega⟩
    refine ⟨h, ?_, o102.rf _ h, hp⟩
    cases b with
    | true =>
      show s_Reader_formula (s_grp_Reader_binder g0) 4 (nI p) (nI 13) h = _
      unfold s_Reader_formula
      rw [if_neg (by decide)]
      rfl
    | false =>
      show s_Reader_term (s_grp_Reader_binder g0) 4 (nI p) (nI 13) h = _
      unfold s_Reader_term
      rw [if_neg (by decide)]
      rfl
  | succ d ih =>
    intro hd g hg b sc p h hr hsc hp
    have hG := ih (by omega)
    have e : 13 - (d + 1) = 12 - d := by omega
    rw [e]
    cases b with
    | true => exact formula_step (B := 4 * d + 1) (by omega) hG hn sc hsc p hp h hr g (by omega)
    | false => exact term_step (B := 4 * d + 1) (by omega) hG hn hk hok hlt sc hsc p hp h hr g (by omega)
theorem fill9 (v : Int32) : ∀ (r j : Nat) (h : HP), j ≤ 8 → 8 < j + r → ∃ h', s_Arrays_fill_5 r 9 v (nI j) (nI 8) h = some h' ∧ (∀ m, m ≠ 9 → h'.1 m = h.1 m) ∧ h'.2 = h.2 ∧ (∀ l, l < j → h'.1 9 l = h.1 9 l) ∧ ∀ l, j ≤ l → l < 8 → h'.1 9 l = v := by
  intro r
  induction r with
  | zero => intro j h h1 h2; omega
  | succ r ih =>
    intro j h h1 h2
    rw [s_Arrays_fill_5]
    dsimp only
    by_cases e : j = 8
    · rw [if_pos (nI_le (by omega) (by omega))]
      exact ⟨h, rfl, fun _ _ => rfl, rfl, fun _ _ => rfl, fun l a b => by omega⟩
    · rw [if_neg (nI_ge (by omega) (by omega)), wA_9 (by omega), ob_s, nI_1]
      obtain ⟨h', f, a1, a2, a3, a4⟩ := ih (j + 1) (up2 h.1 9 j v, h.2) (by omega) (by omega)
      refine ⟨h', f, fun m hm => ?_, a2, fun l hl => ?_, fun l x y => ?_⟩
      · rw [a1 m hm]
        exact up2_n hm
      · rw [a3 l (by omega)]
        exact u2_i (by omega)
      · by_cases el : l = j
        · rw [a3 l (by omega), el]
          exact u2_s
        · exact a4 l (by omega) y
theorem c_start (h : HP) (a b c : Int32) : ∃ h', s_Reader_start 4 a b c h = some h' ∧ (∀ m, m ≠ 9 → m ≠ 4 → h'.1 m = h.1 m) ∧ h'.2 = h.2 ∧ h'.1 4 3 = a ∧ h'.1 4 4 = b ∧ h'.1 4 5 = c ∧ ∀ l, l < 8 → h'.1 9 l = 0 := by
  unfold s_Reader_start s_Arrays_fill
  rw [wI_4_3, ob_s, wI_4_4, ob_s, wI_4_5, ob_s, rR_4_2, ob_s, rN_9, ob_s]
  obtain ⟨h', f, a1, a2, a3, a4⟩ := fill9 0 20000 0 (up2 (up2 (up2 h.1 4 3 a) 4 4 b) 4 5 c, h.2) (by omega) (by omega)
  dsimp only
  rw [show s_Arrays_fill_5 20000 9 0 0 (nI 8) (up2 (up2 (up2 h.1 4 3 a) 4 4 b) 4 5 c, h.2) = some h' from f, ob_s]
  refine ⟨h', rfl, fun m h9 h4 => ?_, a2, ?_, ?_, ?_, fun l hl => a4 l (by omega) hl⟩
  · rw [a1 m h9]
    show up2 (up2 (up2 h.1 4 3 a) 4 4 b) 4 5 c m = _
    rw [up2_n h4, up2_n h4, up2_n h4]
  · rw [a1 4 (by decide)]
    show up2 (up2 (up2 h.1 4 3 a) 4 4 b) 4 5 c 4 3 = _
    rw [u2_i (by decide), u2_i (by decide), u2_s]
  · rw [a1 4 (by decide)]
    show up2 (up2 (up2 h.1 4 3 a) 4 4 b) 4 5 c 4 4 = _
    rw [u2_i (by decide), u2_s]
  · rw [a1 4 (by decide)]
    show up2 (up2 (up2 h.1 4 3 a) 4 4 b) 4 5 c 4 5 = _
    rw [u2_s]
/-- what reading the buffer as a whole answers -/
def RS (k : Nat → Nat) (n : Nat) (t : Nat → Int32) (ow : Int32) (ok lt : Nat) (b : Bool) : Nat ⊕ Nat := match PT k n t ow ok lt 12 b (fun _ => 0) 0 with
  | .inl w => .inl w
  | .inr e => if e = n then .inr n else .inl e
def o3 (h h' : HP) : Prop := (∀ m, m ≠ 102 → m ≠ 9 → m ≠ 4 → h'.1 m = h.1 m) ∧ h'.2 = h.2
theorem c_read {S : SG} {h : HP} (hw : WF S) (hc : CA S h) {ow : Int32} {ok lt : Nat} (hok : ow = -1 ∨ (1 ≤ ok ∧ ok ≤ 3)) (hlt : lt ≤ 8) (b : Bool) : ∃ h' r h1, s_Reader_start 4 ow (nI ok) (nI lt) h = some h1 ∧ rd 70 b 4 0 1 h1 = some (r, h') ∧ s_Reader_whole 4 r h' = some (enc (RS (gK S) (gB S).1 (gB S).2.1 ow ok lt b)) ∧ o3 h h' ∧ match RS (gK S) (gB S).1 (gB S).2.1 ow ok lt b with
    | .inl w => w ≤ (gB S).1
    | .inr e => e = (gB S).1 ∧ KD (kk (gK S) ow ok) (gB S).2.1 (h'.1 102) 12 b 0 (gB S).1 := by
  obtain ⟨h1, f1, a1, a2, a3, a4, a5, a6⟩ := c_start h ow (nI ok) (nI lt)
  have hn := hw.1.1
  have hr : RC (gK S) (gB S).1 (gB S).2.1 ow ok lt h1 (fun _ => 0) := by
    obtain ⟨⟨⟨b1, b2, b3⟩, b4⟩, _, c3, _⟩ := hc
    exact ⟨⟨⟨b1, by rw [a1 100 (by decide) (by decide)]; exact b2, b3⟩, fun p hp => by rw [a1 101 (by decide) (by decide)]; exact b4 p hp⟩, fun f hf => by rw [a1 (17 + f) (by omega) (by omega)]; exact (c3 f hf).1, ⟨a3, a4, a5⟩, a6⟩
  obtain ⟨h', f2, o2, q2⟩ := good_all (k := gK S) (n := (gB S).1) (t := (gB S).2.1) (ow := ow) (ok := ok) (lt := lt) hn (fun f hf => (hw.2.2.1 f hf).1) hok hlt 12 (by omega) 70 (by omega) b (fun _ => 0) 0 h1 hr (fun _ => by omega) (by omega)
  have hr' := RC.o o2 hr
  refine ⟨h', _, h1, f1, f2, ?_, ⟨fun m x y z => (o2.1 m x).trans (a1 m y z), o2.2.1.trans a2⟩, ?_⟩
  · unfold RS s_Reader_whole
    cases hP : PT (gK S) (gB S).1 (gB S).2.1 ow ok lt 12 b (fun _ => 0) 0 with
    | inl w =>
      rw [hP] at q2
      have hwn : w ≤ (gB S).1 := q2
      rw [if_pos (enc_l (by omega))]
    | inr e =>
      rw [hP] at q2
      have hen := q2.1
      rw [if_neg (show ¬ enc (.inr e) < 0 from nI_pos (by omega)), rR_4_0, ob_s, rK_100, ob_s]
      unfold s_Text_length
      rw [show gI h' 100 0 2 = some (h'.1 100 2) from rfl, ob_s, ob_s, hr'.1.1.2.1]
      show (if nI e = nI (gB S).1 then _ else _) = _
      by_cases e1 : e = (gB S).1
      · rw [if_pos (by rw [e1]), e1]
        dsimp only
        rw [if_pos rfl]
      · rw [if_neg (fun q => e1 (by have := congrArg Int32.toNatClampNeg q; rw [nI_clamp (by omega), nI_clamp (by omega)] at this; exact this))]
        dsimp only
        rw [if_neg e1]
        rfl
  · unfold RS
    cases hP : PT (gK S) (gB S).1 (gB S).2.1 ow ok lt 12 b (fun _ => 0) 0 with
    | inl w => rw [hP] at q2; exact q2
    | inr e =>
      rw [hP] at q2
      obtain ⟨hen, hK⟩ := q2
      dsimp only
      by_cases e1 : e = (gB S).1
      · rw [if_pos e1]
        rw [e1] at hK
        exact ⟨rfl, hK⟩
      · rw [if_neg e1]
        exact hen
theorem kk_m (k : Nat → Nat) : ∀ f, f < 4 → kk k (-1) 0 f = k f := by
  intro f hf
  unfold kk
  rw [if_neg ((show ∀ f, f < 4 → ¬ nI f = -1 by decide) f hf)]
theorem c_readTerm {S : SG} {h : HP} (hw : WF S) (hc : CA S h) : ∃ h', s_Reader_readTerm 4 h = some (enc (RS (gK S) (gB S).1 (gB S).2.1 (-1) 0 8 false), h') ∧ o3 h h' ∧ match RS (gK S) (gB S).1 (gB S).2.1 (-1) 0 8 false with
    | .inl w => w ≤ (gB S).1
    | .inr e => e = (gB S).1 ∧ KD (gK S) (gB S).2.1 (h'.1 102) 12 false 0 (gB S).1 := by
  obtain ⟨h', r, h1, f1, f2, f3, o, q⟩ := c_read hw hc (ow := -1) (ok := 0) (lt := 8) (Or.inl rfl) (by omega) false
  refine ⟨h', ?_, o, ?_⟩
  · unfold s_Reader_readTerm
    rw [rK_4, ob_s, show s_Reader_start 4 (-1) 0 8 h = some h1 from f1, ob_s, ob_s, show (s_grp_Reader_binder 70).2.2.2.2.2.2 4 0 1 h1 = some (r, h') from f2, ob_s, ob_s, f3, ob_s]
  · cases hR : RS (gK S) (gB S).1 (gB S).2.1 (-1) 0 8 false with
    | inl w => rw [hR] at q; exact q
    | inr e => rw [hR] at q; exact ⟨q.1, KD_k (kk_m _) _ _ _ _ q.2⟩
theorem c_readFormula {S : SG} {h : HP} (hw : WF S) (hc : CA S h) : ∃ h', s_Reader_readFormula 4 h = some (enc (RS (gK S) (gB S).1 (gB S).2.1 (-1) 0 8 true), h') ∧ o3 h h' ∧ match RS (gK S) (gB S).1 (gB S).2.1 (-1) 0 8 true with
    | .inl w => w ≤ (gB S).1
    | .inr e => e = (gB S).1 ∧ KD (gK S) (gB S).2.1 (h'.1 102) 12 true 0 (gB S).1 := by
  obtain ⟨h', r, h1, f1, f2, f3, o, q⟩ := c_read hw hc (ow := -1) (ok := 0) (lt := 8) (Or.inl rfl) (by omega) true
  refine ⟨h', ?_, o, ?_⟩
  · unfold s_Reader_readFormula
    rw [rK_4, ob_s, show s_Reader_start 4 (-1) 0 8 h = some h1 from f1, ob_s, ob_s, show (s_grp_Reader_binder 70).2.1 4 0 1 h1 = some (r, h') from f2, ob_s, ob_s, f3, ob_s]
  · cases hR : RS (gK S) (gB S).1 (gB S).2.1 (-1) 0 8 true with
    | inl w => rw [hR] at q; exact q
    | inr e => rw [hR] at q; exact ⟨q.1, KD_k (kk_m _) _ _ _ _ q.2⟩
theorem c_readBody {S : SG} {h : HP} (hw : WF S) (hc : CA S h) {f a : Nat} (ha : 1 ≤ a ∧ a ≤ 3) : ∃ h', s_Reader_readBody 4 (nI f) (nI a) h = some (enc (RS (gK S) (gB S).1 (gB S).2.1 (nI f) a a false), h') ∧ o3 h h' ∧ match RS (gK S) (gB S).1 (gB S).2.1 (nI f) a a false with
    | .inl w => w ≤ (gB S).1
    | .inr e => e = (gB S).1 ∧ KD (kk (gK S) (nI f) a) (gB S).2.1 (h'.1 102) 12 false 0 (gB S).1 := by
  obtain ⟨h', r, h1, f1, f2, f3, o, q⟩ := c_read hw hc (ow := nI f) (ok := a) (lt := a) (Or.inr ha) (by omega) false
  refine ⟨h', ?_, o, q⟩
  unfold s_Reader_readBody
  rw [rK_4, ob_s, f1, ob_s, ob_s, show (s_grp_Reader_binder 70).2.2.2.2.2.2 4 0 1 h1 = some (r, h') from f2, ob_s, ob_s, f3, ob_s]
end ALL
