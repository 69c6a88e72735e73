/-! size: the sum of a code's bits, byte by byte. -/
def us (k : Int32) (v : Int64) : Int64 := (v.toUInt64 >>> (k.toInt64.toUInt64 &&& Int64.toUInt64 63)).toInt64
def z1 (x : Int64) : Int64 := x - (us 1 x &&& 6148914691236517205)
def z2 (x : Int64) : Int64 := (x &&& 3689348814741910323) + (us 2 x &&& 3689348814741910323)
def z3 (x : Int64) : Int64 := (x + us 4 x) &&& 1085102592571150095
def z4 (x : Int64) : Int64 := x + us 8 x
def z5 (x : Int64) : Int64 := x + us 16 x
def z6 (x : Int64) : Int64 := x + us 32 x
theorem bc_eq (x : Int64) : s_Long_bitCount x = some ((z6 (z5 (z4 (z3 (z2 (z1 x)))))).toInt32 &&& 127) := rfl
def tn (x : Int64) : Nat := x.toBitVec.toNat
theorem us_n (v : Int64) (s : Int32) (k : Nat) (hs : ((s.toInt64.toUInt64 &&& Int64.toUInt64 63).toBitVec % 64).toNat = k) : tn (us s v) = tn v / 2 ^ k := by
  have e : (us s v).toBitVec = v.toBitVec >>> k := by
    rw [← hs]
    exact UInt64.toBitVec_shiftRight _ _
  unfold tn
  rw [e, BitVec.toNat_ushiftRight, Nat.shiftRight_eq_div_pow]
theorem tn_and (x y : Int64) : tn (x &&& y) = tn x &&& tn y := by
  unfold tn
  rw [Int64.toBitVec_and, BitVec.toNat_and]
theorem tn_add {x y : Int64} (h : tn x + tn y < 2 ^ 64) : tn (x + y) = tn x + tn y := by
  unfold tn at *
  rw [Int64.toBitVec_add, BitVec.toNat_add, Nat.mod_eq_of_lt h]
theorem tn_sub {x y : Int64} (h : tn y ≤ tn x) : tn (x - y) = tn x - tn y := by
  unfold tn at *
  rw [Int64.toBitVec_sub]
  exact BitVec.toNat_sub_of_le (by rw [BitVec.le_def]; exact h)
def nA (m n : Nat) : Nat := n - ((n / 2) &&& m)
def nB (m n : Nat) : Nat := (n &&& m) + ((n / 4) &&& m)
def nC (m n : Nat) : Nat := (n + n / 16) &&& m
def mkm (c : Nat) : Nat → Nat
  | 0 => 0
  | k + 1 => c + 256 * mkm c k
theorem and_sp (a b : Nat) : a &&& b = (a % 256 &&& b % 256) + 256 * ((a / 256) &&& (b / 256)) := by
  have h1 : (a &&& b) % 2 ^ 8 = a % 2 ^ 8 &&& b % 2 ^ 8 := Nat.and_mod_two_pow
  have h2 : (a &&& b) / 2 ^ 8 = a / 2 ^ 8 &&& b / 2 ^ 8 := Nat.and_div_two_pow
  have h3 := Nat.mod_add_div (a &&& b) (2 ^ 8)
  rw [h1, h2] at h3
  exact h3.symm
theorem fA : ∀ lo, lo < 256 → ∀ b, b < 2 → (lo / 2 + 128 * b) &&& 85 = (lo / 2) &&& 85 := by decide +kernel
theorem fB : ∀ lo, lo < 256 → ∀ b, b < 4 → (lo / 4 + 64 * b) &&& 51 = (lo / 4) &&& 51 := by decide +kernel
theorem fC : ∀ lo, lo < 256 → ∀ b, b < 5 → lo % 16 ≤ 4 → lo / 16 ≤ 4 → (lo + lo / 16 + 16 * b) &&& 15 = (lo + lo / 16) &&& 15 := by decide +kernel
theorem spA {lo hi M : Nat} (hl : lo < 256) : nA (85 + 256 * M) (lo + 256 * hi) = nA 85 lo + 256 * nA M hi := by
  unfold nA
  rw [and_sp ((lo + 256 * hi) / 2) (85 + 256 * M), show ((lo + 256 * hi) / 2) % 256 = lo / 2 + 128 * (hi % 2) by omega, show ((lo + 256 * hi) / 2) / 256 = hi / 2 by omega, show (85 + 256 * M) % 256 = 85 by omega, show (85 + 256 * M) / 256 = M by omega, fA lo hl (hi % 2) (by omega)]
  have h1 : lo / 2 &&& 85 ≤ lo / 2 := Nat.and_le_left
  have h2 : hi / 2 &&& M ≤ hi / 2 := Nat.and_le_left
  omega
theorem spB {lo hi M : Nat} (hl : lo < 256) : nB (51 + 256 * M) (lo + 256 * hi) = nB 51 lo + 256 * nB M hi := by
  unfold nB
  rw [and_sp (lo + 256 * hi) (51 + 256 * M), and_sp ((lo + 256 * hi) / 4) (51 + 256 * M), show (lo + 256 * hi) % 256 = lo by omega, show (lo + 256 * hi) / 256 = hi by omega, show ((lo + 256 * hi) / 4) % 256 = lo / 4 + 64 * (hi % 4) by omega, show ((lo + 256 * hi) / 4) / 256 = hi / 4 by omega, show (51 + 256 * M) % 256 = 51 by omega, show (51 + 256 * M) / 256 = M by omega, fB lo hl (hi % 4) (by omega)]
  omega
theorem spC {lo hi M : Nat} (hl : lo < 256) (h1 : lo % 16 ≤ 4) (h2 : lo / 16 ≤ 4) (h3 : hi % 16 ≤ 4) : nC (15 + 256 * M) (lo + 256 * hi) = nC 15 lo + 256 * nC M hi := by
  unfold nC
  rw [and_sp (lo + 256 * hi + (lo + 256 * hi) / 16) (15 + 256 * M), show (lo + 256 * hi + (lo + 256 * hi) / 16) % 256 = lo + lo / 16 + 16 * (hi % 16) by omega, show (lo + 256 * hi + (lo + 256 * hi) / 16) / 256 = hi + hi / 16 by omega, show (15 + 256 * M) % 256 = 15 by omega, show (15 + 256 * M) / 256 = M by omega, fC lo hl (hi % 16) (by omega) h1 h2]
def nAB (k n : Nat) : Nat := nB (mkm 51 k) (nA (mkm 85 k) n)
def ab8 (lo : Nat) : Nat := nB 51 (nA 85 lo)
theorem fAB : ∀ lo, lo < 256 → nA 85 lo < 256 ∧ ab8 lo < 256 ∧ ab8 lo % 16 ≤ 4 ∧ ab8 lo / 16 ≤ 4 := by decide +kernel
theorem spAB {k n : Nat} : nAB (k + 1) n = ab8 (n % 256) + 256 * nAB k (n / 256) := by
  have e : n = n % 256 + 256 * (n / 256) := by omega
  have h1 := fAB (n % 256) (by omega)
  show nB (51 + 256 * mkm 51 k) (nA (85 + 256 * mkm 85 k) n) = _
  rw [e, spA (by omega), spB h1.1, ← e]
  rfl
theorem ab_16 : ∀ k n, nAB k n % 16 ≤ 4 := by
  intro k n
  cases k with
  | zero =>
    unfold nAB nB mkm
    rw [Nat.and_zero, Nat.and_zero]
    decide
  | succ k =>
    rw [spAB]
    have := (fAB (n % 256) (by omega)).2.2.1
    omega
def pop8 (b : Nat) : Nat := b % 2 + b / 2 % 2 + b / 4 % 2 + b / 8 % 2 + b / 16 % 2 + b / 32 % 2 + b / 64 % 2 + b / 128 % 2
theorem fT : ∀ lo, lo < 256 → nC 15 (ab8 lo) = pop8 lo := by decide +kernel
def nT (k n : Nat) : Nat := nC (mkm 15 k) (nAB k n)
theorem spT {k n : Nat} : nT (k + 1) n = pop8 (n % 256) + 256 * nT k (n / 256) := by
  have h1 := fAB (n % 256) (by omega)
  show nC (15 + 256 * mkm 15 k) (nAB (k + 1) n) = _
  rw [spAB, spC h1.2.1 h1.2.2.1 h1.2.2.2 (ab_16 k (n / 256)), fT (n % 256) (by omega)]
  rfl
theorem nT_0 (n : Nat) : nT 0 n = 0 := by
  unfold nT nC mkm
  rw [Nat.and_zero]
theorem pop_8 (b : Nat) : pop8 b ≤ 8 := by
  unfold pop8
  omega
theorem dv1 {a t : Nat} (h : a < 256) : (a + 256 * t) / 256 = t := by omega
theorem dv2 {a b t : Nat} (h : a < 256) (h2 : b < 256) : (a + 256 * (b + 256 * t)) / 65536 = t := by omega
theorem dv4 {a b c d t : Nat} (h : a < 256) (h2 : b < 256) (h3 : c < 256) (h4 : d < 256) : (a + 256 * (b + 256 * (c + 256 * (d + 256 * t)))) / 4294967296 = t := by omega
theorem md1 {a t : Nat} : (a + 256 * t) % 128 = a % 128 := by omega
theorem bd8 {b0 b1 b2 b3 b4 b5 b6 b7 M : Nat} (h0 : b0 ≤ M) (h1 : b1 ≤ M) (h2 : b2 ≤ M) (h3 : b3 ≤ M) (h4 : b4 ≤ M) (h5 : b5 ≤ M) (h6 : b6 ≤ M) (h7 : b7 ≤ M) : b0 + 256 * (b1 + 256 * (b2 + 256 * (b3 + 256 * (b4 + 256 * (b5 + 256 * (b6 + 256 * b7)))))) ≤ 72340172838076673 * M := by omega
theorem id2 (b0 b1 b2 b3 b4 b5 b6 b7 : Nat) : b0 + 256 * (b1 + 256 * (b2 + 256 * (b3 + 256 * (b4 + 256 * (b5 + 256 * (b6 + 256 * b7)))))) + (b1 + 256 * (b2 + 256 * (b3 + 256 * (b4 + 256 * (b5 + 256 * (b6 + 256 * b7)))))) = (b0 + b1) + 256 * ((b1 + b2) + 256 * ((b2 + b3) + 256 * ((b3 + b4) + 256 * ((b4 + b5) + 256 * ((b5 + b6) + 256 * ((b6 + b7) + 256 * b7)))))) := by omega
theorem id4 (c0 c1 c2 c3 c4 c5 c6 c7 : Nat) : c0 + 256 * (c1 + 256 * (c2 + 256 * (c3 + 256 * (c4 + 256 * (c5 + 256 * (c6 + 256 * c7)))))) + (c2 + 256 * (c3 + 256 * (c4 + 256 * (c5 + 256 * (c6 + 256 * c7))))) = (c0 + c2) + 256 * ((c1 + c3) + 256 * ((c2 + c4) + 256 * ((c3 + c5) + 256 * ((c4 + c6) + 256 * ((c5 + c7) + 256 * (c6 + 256 * c7)))))) := by omega
theorem id6 (d0 t d4 u : Nat) : d0 + 256 * t + (d4 + 256 * u) = (d0 + d4) + 256 * (t + u) := by omega
theorem le2 {a b m n : Nat} (h : a ≤ m) (h2 : b ≤ n) : a + b ≤ m + n := Nat.add_le_add h h2
theorem lt_le {a m : Nat} (h : a ≤ m) (h2 : m < 256) : a < 256 := Nat.lt_of_le_of_lt h h2
theorem sum8 (b0 b1 b2 b3 b4 b5 b6 b7 : Nat) : b0 + b1 + (b2 + b3) + (b4 + b5 + (b6 + b7)) = b0 + b1 + b2 + b3 + b4 + b5 + b6 + b7 := by omega
theorem fold8 {b0 b1 b2 b3 b4 b5 b6 b7 W : Nat} (h0 : b0 ≤ 8) (h1 : b1 ≤ 8) (h2 : b2 ≤ 8) (h3 : b3 ≤ 8) (h4 : b4 ≤ 8) (h5 : b5 ≤ 8) (h6 : b6 ≤ 8) (h7 : b7 ≤ 8) (hW : W = b0 + 256 * (b1 + 256 * (b2 + 256 * (b3 + 256 * (b4 + 256 * (b5 + 256 * (b6 + 256 * b7))))))) : ∃ y z w, y = W + W / 256 ∧ z = y + y / 65536 ∧ w = z + z / 4294967296 ∧ w % 128 = (b0 + b1 + b2 + b3 + b4 + b5 + b6 + b7) % 128 ∧ W ≤ 72340172838076673 * 8 ∧ y ≤ 72340172838076673 * 16 ∧ z ≤ 72340172838076673 * 32 := by
  have e1 : W / 256 = b1 + 256 * (b2 + 256 * (b3 + 256 * (b4 + 256 * (b5 + 256 * (b6 + 256 * b7))))) := by rw [hW]; exact dv1 (lt_le h0 (by decide))
  have hb := bd8 h0 h1 h2 h3 h4 h5 h6 h7
  rw [← hW] at hb
  obtain ⟨y, hy⟩ : ∃ y, y = W + W / 256 := ⟨_, rfl⟩
  have e2 : y = (b0 + b1) + 256 * ((b1 + b2) + 256 * ((b2 + b3) + 256 * ((b3 + b4) + 256 * ((b4 + b5) + 256 * ((b5 + b6) + 256 * ((b6 + b7) + 256 * b7)))))) := by rw [hy, e1, hW]; exact id2 b0 b1 b2 b3 b4 b5 b6 b7
  have g0 : b0 + b1 ≤ 16 := le2 h0 h1
  have g1 : b1 + b2 ≤ 16 := le2 h1 h2
  have g2 : b2 + b3 ≤ 16 := le2 h2 h3
  have g3 : b3 + b4 ≤ 16 := le2 h3 h4
  have g4 : b4 + b5 ≤ 16 := le2 h4 h5
  have g5 : b5 + b6 ≤ 16 := le2 h5 h6
  have g6 : b6 + b7 ≤ 16 := le2 h6 h7
  have g7 : b7 ≤ 16 := Nat.le_trans h7 (by decide)
  have e3 : y / 65536 = (b2 + b3) + 256 * ((b3 + b4) + 256 * ((b4 + b5) + 256 * ((b5 + b6) + 256 * ((b6 + b7) + 256 * b7)))) := by rw [e2]; exact dv2 (lt_le g0 (by decide)) (lt_le g1 (by decide))
  have hby := bd8 g0 g1 g2 g3 g4 g5 g6 g7
  rw [← e2] at hby
  obtain ⟨z, hz⟩ : ∃ z, z = y + y / 65536 := ⟨_, rfl⟩
  have e4 := id4 (b0 + b1) (b1 + b2) (b2 + b3) (b3 + b4) (b4 + b5) (b5 + b6) (b6 + b7) b7
  rw [← e2, ← e3, ← hz] at e4
  have k0 : b0 + b1 + (b2 + b3) ≤ 32 := le2 g0 g2
  have k1 : b1 + b2 + (b3 + b4) ≤ 32 := le2 g1 g3
  have k2 : b2 + b3 + (b4 + b5) ≤ 32 := le2 g2 g4
  have k3 : b3 + b4 + (b5 + b6) ≤ 32 := le2 g3 g5
  have k4 : b4 + b5 + (b6 + b7) ≤ 32 := le2 g4 g6
  have k5 : b5 + b6 + b7 ≤ 32 := le2 g5 g7
  have k6 : b6 + b7 ≤ 32 := Nat.le_trans g6 (by decide)
  have k7 : b7 ≤ 32 := Nat.le_trans h7 (by decide)
  have e5 : z / 4294967296 = (b4 + b5 + (b6 + b7)) + 256 * ((b5 + b6 + b7) + 256 * ((b6 + b7) + 256 * b7)) := by rw [e4]; exact dv4 (lt_le k0 (by decide)) (lt_le k1 (by decide)) (lt_le k2 (by decide)) (lt_le k3 (by decide))
  have hbz := bd8 k0 k1 k2 k3 k4 k5 k6 k7
  rw [← e4] at hbz
  refine ⟨y, z, z + z / 4294967296, hy, hz, rfl, ?_, hb, hby, hbz⟩
  rw [e5, e4, id6, md1, sum8]
def snm (n : Nat) : Nat → Nat → Nat → Nat
  | 0 => fun _ m => m
  | i + 1 => fun c m => snm n i (c + 1) (m + n / 2 ^ c % 2)
theorem dv (n c j : Nat) : n / 2 ^ (c + j) = n / 2 ^ c / 2 ^ j := by rw [Nat.pow_add, Nat.div_div_eq_div_mul]
theorem sN_8 (n i c m : Nat) : snm n (i + 8) c m = snm n i (c + 8) (m + pop8 (n / 2 ^ c % 256)) := by
  show snm n i (c + 1 + 1 + 1 + 1 + 1 + 1 + 1 + 1) (m + n / 2 ^ c % 2 + n / 2 ^ (c + 1) % 2 + n / 2 ^ (c + 2) % 2 + n / 2 ^ (c + 3) % 2 + n / 2 ^ (c + 4) % 2 + n / 2 ^ (c + 5) % 2 + n / 2 ^ (c + 6) % 2 + n / 2 ^ (c + 7) % 2) = _
  rw [dv n c 1, dv n c 2, dv n c 3, dv n c 4, dv n c 5, dv n c 6, dv n c 7]
  generalize n / 2 ^ c = a
  congr 1
  unfold pop8
  omega
theorem m_size (x : Int64) : ∀ (i c r m : Nat), c + i = 62 → i < r → m ≤ c → s_AdjoinedSetsModel_size_5 r x (nI m) (nI c) = (s_AdjoinedSetsModel_isCode x).bind fun q => if q = 0 then some (-1) else some (nI (snm (tn x) i c m)) := by
  intro i
  induction i with
  | zero =>
    intro c r m h1 h2 h3
    obtain ⟨r, rfl⟩ : ∃ r0, r = r0 + 1 := ⟨r - 1, by omega⟩
    rw [s_AdjoinedSetsModel_size_5]
    dsimp only
    rw [if_pos (show 62 ≤ nI c from nI_le (a := 62) (by omega) (by omega))]
    rfl
  | succ i ih =>
    intro c r m h1 h2 h3
    obtain ⟨r, rfl⟩ : ∃ r0, r = r0 + 1 := ⟨r - 1, by omega⟩
    rw [s_AdjoinedSetsModel_size_5]
    dsimp only
    rw [if_neg (show ¬ 62 ≤ nI c from nI_ge (b := 62) (by omega) (by omega)), bit64 x (by omega), nI_1]
    show _ = (s_AdjoinedSetsModel_isCode x).bind fun q => if q = 0 then some (-1) else some (nI (snm (tn x) i (c + 1) (m + tn x / 2 ^ c % 2)))
    have hb : mb x c = (tn x).testBit c := by
      unfold mb tn
      rw [BitVec.testBit_toNat]
    have ht : (tn x).testBit c = decide (tn x / 2 ^ c % 2 = 1) := Nat.testBit_eq_decide_div_mod_eq
    rw [hb, ht]
    have h01 : tn x / 2 ^ c % 2 = 0 ∨ tn x / 2 ^ c % 2 = 1 := by omega
    rcases h01 with q | q
    · rw [q, if_neg (by decide), show nI m + (0 : Int64).toInt32 = nI (m + 0) from by rw [show (0 : Int64).toInt32 = nI 0 from by decide, nI_add]]
      exact ih (c + 1) r (m + 0) (by omega) (by omega) (by omega)
    · rw [q, if_pos (by decide), show nI m + (1 : Int64).toInt32 = nI (m + 1) from by rw [show (1 : Int64).toInt32 = nI 1 from by decide, nI_add]]
      exact ih (c + 1) r (m + 1) (by omega) (by omega) (by omega)
theorem sN_all {n : Nat} (hn : n < 2 ^ 62) : snm n 62 0 0 = pop8 (n % 256) + pop8 (n / 256 % 256) + pop8 (n / 65536 % 256) + pop8 (n / 16777216 % 256) + pop8 (n / 4294967296 % 256) + pop8 (n / 1099511627776 % 256) + pop8 (n / 281474976710656 % 256) + pop8 (n / 72057594037927936 % 256) := by
  have e2 : ∀ i c m, snm n (i + 2) c m = snm n i c m + (n / 2 ^ (c + i) % 2 + n / 2 ^ (c + i + 1) % 2) := by
    intro i
    induction i with
    | zero =>
      intro c m
      show m + n / 2 ^ c % 2 + n / 2 ^ (c + 1) % 2 = m + (n / 2 ^ c % 2 + n / 2 ^ (c + 1) % 2)
      rw [Nat.add_assoc]
    | succ i ih =>
      intro c m
      show snm n (i + 2) (c + 1) (m + n / 2 ^ c % 2) = snm n i (c + 1) (m + n / 2 ^ c % 2) + _
      rw [ih, show c + 1 + i = c + (i + 1) by omega]
  have e1 : snm n 62 0 0 = snm n 64 0 0 := by
    rw [show (64 : Nat) = 62 + 2 from rfl, e2 62 0 0, Nat.zero_add, Nat.div_eq_of_lt hn, Nat.div_eq_of_lt (Nat.lt_of_lt_of_le hn (Nat.pow_le_pow_right (by decide) (by decide))), show (0 % 2 + 0 % 2 : Nat) = 0 from rfl, Nat.add_zero]
  rw [e1, sN_8 n 56, sN_8 n 48, sN_8 n 40, sN_8 n 32, sN_8 n 24, sN_8 n 16, sN_8 n 8, sN_8 n 0]
  show 0 + pop8 (n / 2 ^ 0 % 256) + pop8 (n / 2 ^ 8 % 256) + pop8 (n / 2 ^ 16 % 256) + pop8 (n / 2 ^ 24 % 256) + pop8 (n / 2 ^ 32 % 256) + pop8 (n / 2 ^ 40 % 256) + pop8 (n / 2 ^ 48 % 256) + pop8 (n / 2 ^ 56 % 256) = _
  rw [Nat.pow_zero, Nat.div_one, Nat.zero_add]
theorem tn_62 {x : Int64} (h : isC x) : tn x < 2 ^ 62 := isC_cd h
theorem c_size {x : Int64} (hx : isC x) : s_Long_bitCount x = some (nI (snm (tn x) 62 0 0)) := by
  have hn := tn_62 hx
  rw [bc_eq, sN_all hn]
  have m5 : tn 6148914691236517205 = mkm 85 8 := by decide
  have m3 : tn 3689348814741910323 = mkm 51 8 := by decide
  have mf : tn 1085102592571150095 = mkm 15 8 := by decide
  have v3 : mkm 51 8 = 3689348814741910323 := by decide
  have a1 : tn (z1 x) = nA (mkm 85 8) (tn x) := by
    unfold z1 nA
    have e : tn (us 1 x &&& 6148914691236517205) = (tn x / 2) &&& mkm 85 8 := by rw [tn_and, us_n x 1 1 (by decide), m5]
    have l : tn x / 2 &&& mkm 85 8 ≤ tn x / 2 := Nat.and_le_left
    rw [tn_sub (by rw [e]; omega), e]
  have a2 : tn (z2 (z1 x)) = nAB 8 (tn x) ∧ tn (z2 (z1 x)) ≤ 2 * 3689348814741910323 := by
    unfold z2 nAB nB
    have e1 : tn (z1 x &&& 3689348814741910323) = tn (z1 x) &&& mkm 51 8 := by rw [tn_and, m3]
    have e2 : tn (us 2 (z1 x) &&& 3689348814741910323) = (tn (z1 x) / 4) &&& mkm 51 8 := by rw [tn_and, us_n _ 2 2 (by decide), m3]
    have l1 : tn (z1 x) &&& mkm 51 8 ≤ mkm 51 8 := Nat.and_le_right
    have l2 : tn (z1 x) / 4 &&& mkm 51 8 ≤ mkm 51 8 := Nat.and_le_right
    rw [tn_add (by rw [e1, e2]; omega), e1, e2, ← a1]
    exact ⟨rfl, by omega⟩
  have a3 : tn (z3 (z2 (z1 x))) = nT 8 (tn x) := by
    unfold z3 nT nC
    have e : tn (us 4 (z2 (z1 x))) = tn (z2 (z1 x)) / 16 := us_n _ 4 4 (by decide)
    have hb := a2.2
    rw [tn_and, tn_add (by rw [e]; omega), e, mf, a2.1]
  have hT : nT 8 (tn x) = pop8 (tn x % 256) + 256 * (pop8 (tn x / 256 % 256) + 256 * (pop8 (tn x / 65536 % 256) + 256 * (pop8 (tn x / 16777216 % 256) + 256 * (pop8 (tn x / 4294967296 % 256) + 256 * (pop8 (tn x / 1099511627776 % 256) + 256 * (pop8 (tn x / 281474976710656 % 256) + 256 * pop8 (tn x / 72057594037927936 % 256))))))) := by
    rw [spT, spT, spT, spT, spT, spT, spT, spT, nT_0]
    simp only [Nat.div_div_eq_div_mul]
    rfl
  have e4 : tn (us 8 (z3 (z2 (z1 x)))) = nT 8 (tn x) / 256 := by rw [us_n _ 8 8 (by decide), a3]
  obtain ⟨y, z, w, hy, hz, hw, w1, w2, w3, w4⟩ := fold8 (pop_8 _) (pop_8 _) (pop_8 _) (pop_8 _) (pop_8 _) (pop_8 _) (pop_8 _) (pop_8 _) hT
  have a4 : tn (z4 (z3 (z2 (z1 x)))) = y := by
    unfold z4
    rw [tn_add (by rw [e4, a3, ← hy]; omega), e4, a3, hy]
  have e5 : tn (us 16 (z4 (z3 (z2 (z1 x))))) = y / 65536 := by rw [us_n _ 16 16 (by decide), a4]
  have a5 : tn (z5 (z4 (z3 (z2 (z1 x))))) = z := by
    unfold z5
    rw [tn_add (by rw [e5, a4, ← hz]; omega), e5, a4, hz]
  have e6 : tn (us 32 (z5 (z4 (z3 (z2 (z1 x)))))) = z / 4294967296 := by rw [us_n _ 32 32 (by decide), a5]
  have a6 : tn (z6 (z5 (z4 (z3 (z2 (z1 x)))))) = w := by
    unfold z6
    rw [tn_add (by rw [e6, a5]; omega), e6, a5, hw]
  rw [← a6] at w1
  clear a6 e6 a5 e5 a4 hw hz hy e4 hT a3 a2 a1
  generalize z6 (z5 (z4 (z3 (z2 (z1 x))))) = v at w1
  have ev : v.toInt32 = nI (tn v) := by
    have := lN_i (tn v)
    unfold tn at *
    rw [← lN_self] at this
    exact this
  have en : (nI (tn v)).toBitVec.toNat = tn v % 2 ^ 32 := BitVec.toNat_ofNat ..
  rw [ev, pk_and (nI (tn v)) (m := 127) 7 (by decide), en, show tn v % 2 ^ 32 % 2 ^ 7 = tn v % 128 by omega, w1]
  have p0 := pop_8 (tn x % 256)
  have p1 := pop_8 (tn x / 256 % 256)
  have p2 := pop_8 (tn x / 65536 % 256)
  have p3 := pop_8 (tn x / 16777216 % 256)
  have p4 := pop_8 (tn x / 4294967296 % 256)
  have p5 := pop_8 (tn x / 1099511627776 % 256)
  have p6 := pop_8 (tn x / 281474976710656 % 256)
  have p7 := pop_8 (tn x / 72057594037927936 % 256)
  rw [Nat.mod_eq_of_lt (by omega)]
theorem op_size : ∀ x, ∃ r, s_AdjoinedSets_size 0 x = some r ∧ s_AdjoinedSetsModel_size 200 x = some r := by
  intro x
  unfold s_AdjoinedSets_size s_AdjoinedSetsModel_size
  rw [show s_AdjoinedSetsModel_size_5 20000 x 0 0 = _ from m_size x 62 0 20000 0 (by omega) (by omega) (by omega)]
  rcases c_isCode x with ⟨a, e1⟩ | ⟨a, e1⟩
  · have e2 : s_AdjoinedSetsModel_isCode x = some 1 := by
      rcases m_isCode x with ⟨_, e⟩ | ⟨b, _⟩
      · exact e
      · exact absurd a b
    rw [e1, e2, ob_s, ob_s, if_neg (by decide), if_neg (by decide), c_size a, ob_s]
    exact ⟨_, rfl, rfl⟩
  · have e2 : s_AdjoinedSetsModel_isCode x = some 0 := by
      rcases m_isCode x with ⟨b, _⟩ | ⟨_, e⟩
      · exact absurd b a
      · exact e
    rw [e1, e2, ob_s, ob_s, if_pos rfl, if_pos rfl]
    exact ⟨-1, rfl, rfl⟩
