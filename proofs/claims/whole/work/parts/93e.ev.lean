/-! Working out, as mathematics: EV r: how many may still be open, n: what is spent; none: out. -/
abbrev EVT : Type := Bool → TX → Nat → (Nat → Int64) → Nat → Option (Int64 × Nat)
def en (x : TX) (p : Nat) : Nat := (x.2.2 p).toNatClampNeg
def upR (a : Nat → Int64) (l : Nat) (v : Int64) : Nat → Int64 := fun q => if q = l then v else a q
def br (R : EVT) (x : TX) (p : Nat) (a : Nat → Int64) (c n : Nat) : Option (Int64 × Nat) :=
  if x.2.1 p = 73 then (R false x (en x (p + 2)) (upR a (lwN (x.2.1 (p + 1))) (lN c)) n).bind fun v => if v.1 < 62 then some ((1 : Int64) <<< (v.1.toInt32.toInt64 &&& 63), v.2) else none
  else (R true x (en x (p + 2)) (upR a (lwN (x.2.1 (p + 1))) (lN c)) n).bind fun v => some (if v.1 = 0 then 0 else sg c, v.2)
def ga (R : EVT) (x : TX) (p : Nat) (a : Nat → Int64) (s : Int64) : Nat → Nat → Int64 → Nat → Option (Int64 × Nat)
  | 0 => fun _ z n => some (z, n)
  | i + 1 => fun c z n => if mb s c then (br R x p a c n).bind fun q => ga R x p a s i (c + 1) (z ||| q.1) q.2 else ga R x p a s i (c + 1) z n
def ag (R : EVT) (x : TX) (a : Nat → Int64) : Nat → Nat → Nat → (Nat → Int64) → Nat → Option ((Nat → Int64) × Nat)
  | 0 => fun _ _ z n => some (z, n)
  | i + 1 => fun j p z n => (R false x p a n).bind fun s => ag R x a i (j + 1) (en x p) (upR z j s.1) s.2
def r3 (z : Nat → Int64) : Nat → Int64 := fun l => if l = 0 then z 0 else if l = 1 then z 1 else z 2
def jn (c : Int32) (s t : Int64) : Option Int64 := if c = 38 then some (s &&& t) else if c = 43 then (if t < 62 then some (s ||| ((1 : Int64) <<< (t.toInt32.toInt64 &&& 63))) else none) else if c = 124 then some (s ||| t) else some (s &&& (t ^^^ (-1)))
def sn (c : Int32) (s : Int64) : Option Int64 := if c = 80 then (if s < 62 then some (pwF s 62 0 0) else none) else if c = 84 then some (clF 5 s) else some (unF s 62 0 0)
def cpr (c : Int32) (s t : Int64) : Int64 := if c = 61 then (if s = t then 1 else 0) else if s < 62 then ((t >>> (s.toInt32.toInt64 &&& 63)) &&& 1) else 0
def qn (c : Int32) (s q : Int64) : Int64 := if c = 69 then (if q = 0 then 0 else 1) else (if q = s then 1 else 0)
def cn (c : Int32) (f g : Int64) : Int64 := if c = 94 then f &&& g else if c = 118 then f ||| g else (1 - f) ||| g
def EB (K : Nat → Nat) (Bd : Nat → TX) (R : EVT) (b : Bool) (x : TX) (p : Nat) (a : Nat → Int64) (n : Nat) : Option (Int64 × Nat) :=
  match b with
  | true => if x.2.1 p = 60 ∨ x.2.1 p = 61 then ((R false x (p + 1) a n).bind fun s => (R false x (en x (p + 1)) a s.2).bind fun t => some (cpr (x.2.1 p) s.1 t.1, t.2))
      else if x.2.1 p = 69 ∨ x.2.1 p = 76 then ((R false x (p + 2) a n).bind fun s => (ga R x p a s.1 62 0 0 s.2).bind fun q => some (qn (x.2.1 p) s.1 q.1, q.2))
      else ((R true x (p + 1) a n).bind fun f => if x.2.1 p = 33 then some (1 - f.1, f.2) else (R true x (en x (p + 1)) a f.2).bind fun g => some (cn (x.2.1 p) f.1 g.1, g.2))
  | false => if 48 ≤ x.2.1 p ∧ x.2.1 p ≤ 57 then some ((x.2.1 p - 48).toInt64, n)
      else if 97 ≤ x.2.1 p ∧ x.2.1 p < 105 then some (a (lwN (x.2.1 p)), n)
      else if 65 ≤ x.2.1 p ∧ x.2.1 p < 69 then ((ag R x a (K (fnN (x.2.1 p))) 0 (p + 1) (fun _ => 0) n).bind fun q => R false (Bd (fnN (x.2.1 p))) 0 (r3 q.1) q.2)
      else if x.2.1 p = 73 ∨ x.2.1 p = 123 then ((R false x (p + 2) a n).bind fun s => ga R x p a s.1 62 0 0 s.2)
      else if x.2.1 p = 80 ∨ x.2.1 p = 84 ∨ x.2.1 p = 85 then ((R false x (p + 1) a n).bind fun s => (sn (x.2.1 p) s.1).bind fun v => some (v, s.2))
      else ((R false x (p + 1) a n).bind fun s => (R false x (en x (p + 1)) a s.2).bind fun t => (jn (x.2.1 p) s.1 t.1).bind fun v => some (v, t.2))
def EV (K : Nat → Nat) (Bd : Nat → TX) : Nat → EVT
  | 0 => fun _ _ _ _ _ => none
  | r + 1 => fun b x p a n => if 3000 ≤ n then none else EB K Bd (EV K Bd r) b x p a (n + 1)
def okv (b : Bool) (v : Int64) : Prop := match b with
  | true => v = 0 ∨ v = 1
  | false => cd v
def okR (R : EVT) : Prop := ∀ (b : Bool) (x : TX) (p : Nat) (a : Nat → Int64) (n : Nat) (v : Int64) (m : Nat), (∀ l, l < 8 → cd (a l)) → R b x p a n = some (v, m) → okv b v ∧ n < m ∧ m ≤ 3000
theorem ob_i {α β : Type} {x : Option α} {f : α → Option β} {y : β} (h : x.bind f = some y) : ∃ z, x = some z ∧ f z = some y := by
  cases x with
  | none => cases h
  | some z => exact ⟨z, rfl, h⟩
theorem cd_bt {v : Int64} (h : cd v) (h2 : v < 62) : cd ((1 : Int64) <<< (v.toInt32.toInt64 &&& 63)) := by
  obtain ⟨j, hj, rfl⟩ := cd_sm h h2
  rw [lN_i]
  exact cd_sg hj
theorem upR_cd {a : Nat → Int64} {l : Nat} {v : Int64} (h : ∀ l, l < 8 → cd (a l)) (hv : cd v) : ∀ q, q < 8 → cd (upR a l v q) := by
  intro q hq
  unfold upR
  split
  · exact hv
  · exact h q hq
theorem br_ok {R : EVT} (hR : okR R) {x : TX} {p : Nat} {a : Nat → Int64} {c n : Nat} (hc : c < 62) (ha : ∀ l, l < 8 → cd (a l)) {v : Int64} {m : Nat} (h : br R x p a c n = some (v, m)) : cd v ∧ n < m ∧ m ≤ 3000 := by
  unfold br at h
  have hu := upR_cd (l := lwN (x.2.1 (p + 1))) ha (cd_n (n := c) (by omega))
  split at h
  · obtain ⟨z, h1, h2⟩ := ob_i h
    obtain ⟨k1, k2, k3⟩ := hR _ _ _ _ _ z.1 z.2 hu h1
    split at h2
    · rename_i q
      cases h2
      exact ⟨cd_bt k1 q, k2, k3⟩
    · cases h2
  · obtain ⟨z, h1, h2⟩ := ob_i h
    obtain ⟨k1, k2, k3⟩ := hR _ _ _ _ _ z.1 z.2 hu h1
    cases h2
    refine ⟨?_, k2, k3⟩
    split
    · exact cd_0
    · exact cd_sg hc
theorem ga_ok {R : EVT} (hR : okR R) {x : TX} {p : Nat} {a : Nat → Int64} {s : Int64} (ha : ∀ l, l < 8 → cd (a l)) : ∀ (i c : Nat) (z : Int64) (n : Nat) (v : Int64) (m : Nat), c + i ≤ 62 → cd z → n ≤ 3000 → ga R x p a s i c z n = some (v, m) → cd v ∧ n ≤ m ∧ m ≤ 3000 := by
  intro i
  induction i with
  | zero =>
    intro c z n v m _ hz hn h
    cases h
    exact ⟨hz, Nat.le_refl _, hn⟩
  | succ i ih =>
    intro c z n v m hc hz hn h
    have h : (if mb s c then (br R x p a c n).bind fun q => ga R x p a s i (c + 1) (z ||| q.1) q.2 else ga R x p a s i (c + 1) z n) = some (v, m) := h
    split at h
    · obtain ⟨q, h1, h2⟩ := ob_i h
      obtain ⟨k1, k2, k3⟩ := br_ok hR (by omega) ha h1
      obtain ⟨j1, j2, j3⟩ := ih (c + 1) _ _ v m (by omega) (cd_or hz k1) k3 h2
      exact ⟨j1, by omega, j3⟩
    · exact ih (c + 1) z n v m (by omega) hz hn h
theorem ag_ok {R : EVT} (hR : okR R) {x : TX} {a : Nat → Int64} (ha : ∀ l, l < 8 → cd (a l)) : ∀ (i j p : Nat) (z : Nat → Int64) (n : Nat) (v : Nat → Int64) (m : Nat), (∀ l, cd (z l)) → n ≤ 3000 → ag R x a i j p z n = some (v, m) → (∀ l, cd (v l)) ∧ n ≤ m ∧ m ≤ 3000 := by
  intro i
  induction i with
  | zero =>
    intro j p z n v m hz hn h
    cases h
    exact ⟨hz, Nat.le_refl _, hn⟩
  | succ i ih =>
    intro j p z n v m hz hn h
    have h : ((R false x p a n).bind fun s => ag R x a i (j + 1) (en x p) (upR z j s.1) s.2) = some (v, m) := h
    obtain ⟨q, h1, h2⟩ := ob_i h
    obtain ⟨k1, k2, k3⟩ := hR _ _ _ _ _ q.1 q.2 ha h1
    obtain ⟨j1, j2, j3⟩ := ih (j + 1) _ _ _ v m (by intro l; unfold upR; split; exact k1; exact hz l) k3 h2
    exact ⟨j1, by omega, j3⟩
theorem bit_01 (t s : Int64) (hs : cd s) (h2 : s < 62) : (t >>> (s.toInt32.toInt64 &&& 63)) &&& 1 = 0 ∨ (t >>> (s.toInt32.toInt64 &&& 63)) &&& 1 = 1 := by
  obtain ⟨j, hj, rfl⟩ := cd_sm hs h2
  rw [lN_i, bit64 t hj]
  cases mb t j
  · left; rfl
  · right; rfl
theorem jn_ok {c : Int32} {s t v : Int64} (hs : cd s) (ht : cd t) (h : jn c s t = some v) : cd v := by
  unfold jn at h
  split at h
  · cases h; exact cd_and hs
  split at h
  · split at h
    · rename_i q
      cases h
      exact cd_or hs (cd_bt ht q)
    · cases h
  split at h
  · cases h; exact cd_or hs ht
  · cases h; exact cd_and hs
theorem sn_ok {c : Int32} {s v : Int64} (hs : cd s) (h : sn c s = some v) : cd v := by
  unfold sn at h
  by_cases h1 : c = 80
  · rw [if_pos h1] at h
    by_cases h2 : s < 62
    · rw [if_pos h2] at h
      rw [← Option.some.inj h]
      exact cd_pw hs h2
    · rw [if_neg h2] at h
      exact absurd h (by simp)
  · rw [if_neg h1] at h
    by_cases h2 : c = 84
    · rw [if_pos h2] at h
      rw [← Option.some.inj h]
      exact cd_cl hs 5
    · rw [if_neg h2] at h
      rw [← Option.some.inj h]
      exact cd_un s
theorem dg_cd : ∀ j, j < 10 → cd ((nI (48 + j) - 48).toInt64) := (show ∀ j, j < 10 → ((nI (48 + j) - 48).toInt64).toBitVec.toNat < 2 ^ 62 by decide)
theorem dg_j {c : Int32} (h : 48 ≤ c ∧ c ≤ 57) : ∃ j, j < 10 ∧ c = nI (48 + j) := by
  have h0 : ¬ c < 0 := by
    rw [Int32.lt_iff_toInt_lt]
    have := h.1
    rw [Int32.le_iff_toInt_le] at this
    have e : (48 : Int32).toInt = 48 := by decide
    have e2 : (0 : Int32).toInt = 0 := by decide
    omega
  obtain ⟨m, hm, rfl⟩ := nI_of h0
  have a1 := (nI_leI (a := 48) (b := m) (by decide) hm).mp h.1
  have a2 := (nI_leI (a := m) (b := 57) hm (by decide)).mp h.2
  exact ⟨m - 48, by omega, by congr 1; omega⟩
theorem cn_01 {c : Int32} {f g : Int64} (hf : f = 0 ∨ f = 1) (hg : g = 0 ∨ g = 1) : cn c f g = 0 ∨ cn c f g = 1 := by
  unfold cn
  rcases hf with rfl | rfl <;> rcases hg with rfl | rfl <;> (repeat' split) <;> decide
theorem EB_ok (K : Nat → Nat) (Bd : Nat → TX) {R : EVT} (hR : okR R) {b : Bool} {x : TX} {p : Nat} {a : Nat → Int64} {n : Nat} {v : Int64} {m : Nat} (ha : ∀ l, l < 8 → cd (a l)) (hn : n ≤ 3000) (h : EB K Bd R b x p a n = some (v, m)) : okv b v ∧ n ≤ m ∧ m ≤ 3000 := by
  cases b with
  | true =>
    show (v = 0 ∨ v = 1) ∧ _
    unfold EB at h
    dsimp only at h
    split at h
    · obtain ⟨s, h1, h2⟩ := ob_i h
      obtain ⟨t, h3, h4⟩ := ob_i h2
      obtain ⟨k1, k2, k3⟩ := hR _ _ _ _ _ s.1 s.2 ha h1
      obtain ⟨j1, j2, j3⟩ := hR _ _ _ _ _ t.1 t.2 ha h3
      cases h4
      refine ⟨?_, by omega, j3⟩
      unfold cpr
      split
      · split
        · right; rfl
        · left; rfl
      · split
        · rename_i q
          exact bit_01 _ _ k1 q
        · left; rfl
    split at h
    · obtain ⟨s, h1, h2⟩ := ob_i h
      obtain ⟨t, h3, h4⟩ := ob_i h2
      obtain ⟨k1, k2, k3⟩ := hR _ _ _ _ _ s.1 s.2 ha h1
      obtain ⟨j1, j2, j3⟩ := ga_ok hR ha 62 0 0 _ t.1 t.2 (by decide) cd_0 k3 h3
      cases h4
      refine ⟨?_, by omega, j3⟩
      unfold qn
      (repeat' split) <;> first | (left; rfl) | (right; rfl)
    · obtain ⟨s, h1, h2⟩ := ob_i h
      obtain ⟨k1, k2, k3⟩ := hR _ _ _ _ _ s.1 s.2 ha h1
      split at h2
      · cases h2
        refine ⟨?_, by omega, k3⟩
        rcases k1 with k1 | k1 <;> rw [k1]
        · right; decide
        · left; decide
      · obtain ⟨t, h3, h4⟩ := ob_i h2
        obtain ⟨j1, j2, j3⟩ := hR _ _ _ _ _ t.1 t.2 ha h3
        cases h4
        exact ⟨cn_01 k1 j1, by omega, j3⟩
  | false =>
    show cd v ∧ _
    unfold EB at h
    dsimp only at h
    split at h
    · rename_i q
      cases h
      obtain ⟨j, hj, e⟩ := dg_j q
      rw [e]
      exact ⟨dg_cd j hj, Nat.le_refl _, hn⟩
    split at h
    · rename_i q
      cases h
      exact ⟨ha _ (lw_n q).2, Nat.le_refl _, hn⟩
    split at h
    · obtain ⟨s, h1, h2⟩ := ob_i h
      obtain ⟨k1, k2, k3⟩ := ag_ok hR ha _ _ _ _ _ s.1 s.2 (fun _ => cd_0) hn h1
      obtain ⟨j1, j2, j3⟩ := hR _ _ _ _ _ v m (by intro l _; unfold r3; (repeat' split) <;> exact k1 _) h2
      exact ⟨j1, by omega, j3⟩
    split at h
    · obtain ⟨s, h1, h2⟩ := ob_i h
      obtain ⟨k1, k2, k3⟩ := hR _ _ _ _ _ s.1 s.2 ha h1
      obtain ⟨j1, j2, j3⟩ := ga_ok hR ha 62 0 0 _ v m (by decide) cd_0 k3 h2
      exact ⟨j1, by omega, j3⟩
    split at h
    · obtain ⟨s, h1, h2⟩ := ob_i h
      obtain ⟨k1, k2, k3⟩ := hR _ _ _ _ _ s.1 s.2 ha h1
      obtain ⟨t, h3, h4⟩ := ob_i h2
      cases h4
      exact ⟨sn_ok k1 h3, by omega, k3⟩
    · obtain ⟨s, h1, h2⟩ := ob_i h
      obtain ⟨t, h3, h4⟩ := ob_i h2
      obtain ⟨k1, k2, k3⟩ := hR _ _ _ _ _ s.1 s.2 ha h1
      obtain ⟨j1, j2, j3⟩ := hR _ _ _ _ _ t.1 t.2 ha h3
      obtain ⟨y, h5, h6⟩ := ob_i h4
      cases h6
      exact ⟨jn_ok k1 j1 h5, by omega, j3⟩
theorem EV_ok (K : Nat → Nat) (Bd : Nat → TX) : ∀ r, okR (EV K Bd r) := by
  intro r
  induction r with
  | zero => intro b x p a n v m _ h; cases h
  | succ r ih =>
    intro b x p a n v m ha h
    have h : (if 3000 ≤ n then none else EB K Bd (EV K Bd r) b x p a (n + 1)) = some (v, m) := h
    split at h
    · cases h
    · obtain ⟨h1, h2, h3⟩ := EB_ok K Bd ih ha (by omega) h
      exact ⟨h1, by omega, h3⟩
