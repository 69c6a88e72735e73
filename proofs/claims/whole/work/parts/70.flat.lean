/-! The flat memory at known names. -/
theorem cl_in {j L : Nat} (hj : j < L) (hL : L < 2 ^ 31) : ¬ (nI j < 0 ∨ L ≤ (nI j).toNatClampNeg) := nI_in hj hL
theorem aI_nI {h : HP} {a k j : Nat} (hk : kA a = k) (h2 : k = 0 ∨ k = 1 ∨ k = 5) (hj : j < lA a) (hl : lA a < 2 ^ 31) : aI h a k (nI j) = some (h.1 a j) := by
  unfold aI
  rw [if_pos ⟨hk, h2, cl_in hj hl⟩, nI_clamp (by omega)]
theorem aL_nI {h : HP} {a k j : Nat} (hk : kA a = k) (h2 : k = 2) (hj : j < lA a) (hl : lA a < 2 ^ 31) : aL h a k (nI j) = some (h.2.1 a j) := by
  unfold aL
  rw [if_pos ⟨hk, h2, cl_in hj hl⟩, nI_clamp (by omega)]
theorem uI_nI {h : HP} {a k j : Nat} {x : Int32} (hk : kA a = k) (h2 : k = 0 ∨ k = 1 ∨ k = 5) (hj : j < lA a) (hl : lA a < 2 ^ 31) : uI h a k (nI j) x = some (up2 h.1 a j x, h.2) := by
  unfold uI
  rw [if_pos ⟨hk, h2, cl_in hj hl⟩, nI_clamp (by omega)]
theorem uL_nI {h : HP} {a k j : Nat} {x : Int64} (hk : kA a = k) (h2 : k = 2) (hj : j < lA a) (hl : lA a < 2 ^ 31) : uL h a k (nI j) x = some (h.1, up2 h.2.1 a j x, h.2.2) := by
  unfold uL
  rw [if_pos ⟨hk, h2, cl_in hj hl⟩, nI_clamp (by omega)]
theorem aR_nI {a k j : Nat} (hk : kA a = k) (h2 : k = 3 ∨ k = 4) (hj : j < lA a) (hl : lA a < 2 ^ 31) : aR a k (nI j) = some (eA a j) := by
  unfold aR
  rw [if_pos ⟨hk, h2, cl_in hj hl⟩, nI_clamp (by omega)]
theorem ob_s {α β : Type} (x : α) (f : α → Option β) : (some x).bind f = f x := rfl
theorem rK_0 : kd 0 8 = some () := rfl
theorem rR_0_0 (h : HP) : gR h 0 8 0 = some 1 := rfl
theorem rR_0_1 (h : HP) : gR h 0 8 1 = some 100 := rfl
theorem rR_0_2 (h : HP) : gR h 0 8 2 = some 2 := rfl
theorem rR_0_3 (h : HP) : gR h 0 8 3 = some 3 := rfl
theorem rR_0_4 (h : HP) : gR h 0 8 4 = some 4 := rfl
theorem rR_0_5 (h : HP) : gR h 0 8 5 = some 5 := rfl
theorem rR_0_6 (h : HP) : gR h 0 8 6 = some 6 := rfl
theorem rK_3 : kd 3 2 = some () := rfl
theorem rR_3_0 (h : HP) : gR h 3 2 0 = some 7 := rfl
theorem rR_3_1 (h : HP) : gR h 3 2 1 = some 8 := rfl
theorem rI_3_2 (h : HP) : gI h 3 2 2 = some (h.1 3 2) := rfl
theorem wI_3_2 (h : HP) (x : Int32) : pI h 3 2 2 x = some (up2 h.1 3 2 x, h.2) := rfl
theorem rK_4 : kd 4 3 = some () := rfl
theorem rR_4_0 (h : HP) : gR h 4 3 0 = some 100 := rfl
theorem rR_4_1 (h : HP) : gR h 4 3 1 = some 2 := rfl
theorem rR_4_2 (h : HP) : gR h 4 3 2 = some 9 := rfl
theorem rI_4_3 (h : HP) : gI h 4 3 3 = some (h.1 4 3) := rfl
theorem wI_4_3 (h : HP) (x : Int32) : pI h 4 3 3 x = some (up2 h.1 4 3 x, h.2) := rfl
theorem rI_4_4 (h : HP) : gI h 4 3 4 = some (h.1 4 4) := rfl
theorem wI_4_4 (h : HP) (x : Int32) : pI h 4 3 4 x = some (up2 h.1 4 4 x, h.2) := rfl
theorem rI_4_5 (h : HP) : gI h 4 3 5 = some (h.1 4 5) := rfl
theorem wI_4_5 (h : HP) (x : Int32) : pI h 4 3 5 x = some (up2 h.1 4 5 x, h.2) := rfl
theorem rK_5 : kd 5 4 = some () := rfl
theorem rR_5_0 (h : HP) : gR h 5 4 0 = some 2 := rfl
theorem rR_5_1 (h : HP) : gR h 5 4 1 = some 10 := rfl
theorem rI_5_2 (h : HP) : gI h 5 4 2 = some (h.1 5 2) := rfl
theorem wI_5_2 (h : HP) (x : Int32) : pI h 5 4 2 x = some (up2 h.1 5 2 x, h.2) := rfl
theorem rK_6 : kd 6 7 = some () := rfl
theorem rR_6_0 (h : HP) : gR h 6 7 0 = some 100 := rfl
theorem rR_6_1 (h : HP) : gR h 6 7 1 = some 2 := rfl
theorem rR_6_2 (h : HP) : gR h 6 7 2 = some 3 := rfl
theorem rR_6_3 (h : HP) : gR h 6 7 3 = some 103 := rfl
theorem rR_6_4 (h : HP) : gR h 6 7 4 = some 11 := rfl
theorem rR_6_5 (h : HP) : gR h 6 7 5 = some 12 := rfl
theorem rR_6_6 (h : HP) : gR h 6 7 6 = some 15 := rfl
theorem rR_6_7 (h : HP) : gR h 6 7 7 = some 16 := rfl
theorem rI_6_8 (h : HP) : gI h 6 7 8 = some (h.1 6 8) := rfl
theorem wI_6_8 (h : HP) (x : Int32) : pI h 6 7 8 x = some (up2 h.1 6 8 x, h.2) := rfl
theorem rK_11 : kd 11 5 = some () := rfl
theorem rR_11_0 (h : HP) : gR h 11 5 0 = some 13 := rfl
theorem rR_11_1 (h : HP) : gR h 11 5 1 = some h.2.2 := rfl
theorem wR_11_1 (h : HP) (x : Nat) : pR h 11 5 1 x = some (h.1, h.2.1, x) := rfl
theorem rI_11_2 (h : HP) : gI h 11 5 2 = some (h.1 11 2) := rfl
theorem wI_11_2 (h : HP) (x : Int32) : pI h 11 5 2 x = some (up2 h.1 11 2 x, h.2) := rfl
theorem rK_12 : kd 12 6 = some () := rfl
theorem rR_12_0 (h : HP) : gR h 12 6 0 = some 100 := rfl
theorem rR_12_1 (h : HP) : gR h 12 6 1 = some 14 := rfl
theorem rK_17 : kd 17 1 = some () := rfl
theorem rR_17_0 (h : HP) : gR h 17 1 0 = some 106 := rfl
theorem rI_17_1 (h : HP) : gI h 17 1 1 = some (h.1 17 1) := rfl
theorem wI_17_1 (h : HP) (x : Int32) : pI h 17 1 1 x = some (up2 h.1 17 1 x, h.2) := rfl
theorem rK_18 : kd 18 1 = some () := rfl
theorem rR_18_0 (h : HP) : gR h 18 1 0 = some 109 := rfl
theorem rI_18_1 (h : HP) : gI h 18 1 1 = some (h.1 18 1) := rfl
theorem wI_18_1 (h : HP) (x : Int32) : pI h 18 1 1 x = some (up2 h.1 18 1 x, h.2) := rfl
theorem rK_19 : kd 19 1 = some () := rfl
theorem rR_19_0 (h : HP) : gR h 19 1 0 = some 112 := rfl
theorem rI_19_1 (h : HP) : gI h 19 1 1 = some (h.1 19 1) := rfl
theorem wI_19_1 (h : HP) (x : Int32) : pI h 19 1 1 x = some (up2 h.1 19 1 x, h.2) := rfl
theorem rK_20 : kd 20 1 = some () := rfl
theorem rR_20_0 (h : HP) : gR h 20 1 0 = some 115 := rfl
theorem rI_20_1 (h : HP) : gI h 20 1 1 = some (h.1 20 1) := rfl
theorem wI_20_1 (h : HP) (x : Int32) : pI h 20 1 1 x = some (up2 h.1 20 1 x, h.2) := rfl
theorem rK_100 : kd 100 0 = some () := rfl
theorem rR_100_0 (h : HP) : gR h 100 0 0 = some 101 := rfl
theorem rR_100_1 (h : HP) : gR h 100 0 1 = some 102 := rfl
theorem rI_100_2 (h : HP) : gI h 100 0 2 = some (h.1 100 2) := rfl
theorem wI_100_2 (h : HP) (x : Int32) : pI h 100 0 2 x = some (up2 h.1 100 2 x, h.2) := rfl
theorem rK_103 : kd 103 0 = some () := rfl
theorem rR_103_0 (h : HP) : gR h 103 0 0 = some 104 := rfl
theorem rR_103_1 (h : HP) : gR h 103 0 1 = some 105 := rfl
theorem rI_103_2 (h : HP) : gI h 103 0 2 = some (h.1 103 2) := rfl
theorem wI_103_2 (h : HP) (x : Int32) : pI h 103 0 2 x = some (up2 h.1 103 2 x, h.2) := rfl
theorem rK_200 : kd 200 9 = some () := rfl
theorem rR_200_0 (h : HP) : gR h 200 9 0 = some 201 := rfl
theorem rI_200_1 (h : HP) : gI h 200 9 1 = some (h.1 200 1) := rfl
theorem wI_200_1 (h : HP) (x : Int32) : pI h 200 9 1 x = some (up2 h.1 200 1 x, h.2) := rfl
theorem rR_200_2 (h : HP) : gR h 200 9 2 = some 202 := rfl
theorem rR_200_3 (h : HP) : gR h 200 9 3 = some 203 := rfl
theorem rI_200_4 (h : HP) : gI h 200 9 4 = some (h.1 200 4) := rfl
theorem wI_200_4 (h : HP) (x : Int32) : pI h 200 9 4 x = some (up2 h.1 200 4 x, h.2) := rfl
theorem rR_200_5 (h : HP) : gR h 200 9 5 = some 204 := rfl
theorem rR_200_6 (h : HP) : gR h 200 9 6 = some 205 := rfl
theorem rI_200_7 (h : HP) : gI h 200 9 7 = some (h.1 200 7) := rfl
theorem wI_200_7 (h : HP) (x : Int32) : pI h 200 9 7 x = some (up2 h.1 200 7 x, h.2) := rfl
theorem rR_200_8 (h : HP) : gR h 200 9 8 = some 206 := rfl
theorem rR_200_9 (h : HP) : gR h 200 9 9 = some 207 := rfl
theorem rR_200_10 (h : HP) : gR h 200 9 10 = some 208 := rfl
theorem rR_200_11 (h : HP) : gR h 200 9 11 = some 209 := rfl
theorem rI_200_12 (h : HP) : gI h 200 9 12 = some (h.1 200 12) := rfl
theorem wI_200_12 (h : HP) (x : Int32) : pI h 200 9 12 x = some (up2 h.1 200 12 x, h.2) := rfl
theorem rR_200_13 (h : HP) : gR h 200 9 13 = some 210 := rfl
theorem rR_200_14 (h : HP) : gR h 200 9 14 = some 211 := rfl
theorem rI_200_15 (h : HP) : gI h 200 9 15 = some (h.1 200 15) := rfl
theorem wI_200_15 (h : HP) (x : Int32) : pI h 200 9 15 x = some (up2 h.1 200 15 x, h.2) := rfl
theorem rI_200_16 (h : HP) : gI h 200 9 16 = some (h.1 200 16) := rfl
theorem wI_200_16 (h : HP) (x : Int32) : pI h 200 9 16 x = some (up2 h.1 200 16 x, h.2) := rfl
theorem rI_200_17 (h : HP) : gI h 200 9 17 = some (h.1 200 17) := rfl
theorem wI_200_17 (h : HP) (x : Int32) : pI h 200 9 17 x = some (up2 h.1 200 17 x, h.2) := rfl
theorem rR_200_18 (h : HP) : gR h 200 9 18 = some 212 := rfl
theorem rR_200_19 (h : HP) : gR h 200 9 19 = some 213 := rfl
theorem rR_200_20 (h : HP) : gR h 200 9 20 = some 214 := rfl
theorem rR_200_21 (h : HP) : gR h 200 9 21 = some 215 := rfl
theorem rR_200_22 (h : HP) : gR h 200 9 22 = some 216 := rfl
theorem rR_200_23 (h : HP) : gR h 200 9 23 = some 217 := rfl
theorem rR_200_24 (h : HP) : gR h 200 9 24 = some 218 := rfl
theorem rL_200_25 (h : HP) : gL h 200 9 25 = some (h.2.1 200 25) := rfl
theorem wL_200_25 (h : HP) (x : Int64) : pL h 200 9 25 x = some (h.1, up2 h.2.1 200 25 x, h.2.2) := rfl
theorem rR_200_26 (h : HP) : gR h 200 9 26 = some 219 := rfl
theorem rR_200_27 (h : HP) : gR h 200 9 27 = some 220 := rfl
theorem rR_200_28 (h : HP) : gR h 200 9 28 = some 221 := rfl
theorem rR_200_29 (h : HP) : gR h 200 9 29 = some 222 := rfl
theorem rR_200_30 (h : HP) : gR h 200 9 30 = some 223 := rfl
theorem rR_200_31 (h : HP) : gR h 200 9 31 = some 224 := rfl
theorem rR_200_32 (h : HP) : gR h 200 9 32 = some 225 := rfl
theorem rR_200_33 (h : HP) : gR h 200 9 33 = some 226 := rfl
theorem rR_200_34 (h : HP) : gR h 200 9 34 = some 227 := rfl
theorem rR_200_35 (h : HP) : gR h 200 9 35 = some 228 := rfl
theorem rN_1 : aN 1 2 = some (nI 8) := rfl
theorem rA_1 {h : HP} {j : Nat} (hj : j < 8) : aL h 1 2 (nI j) = some (h.2.1 1 j) := aL_nI rfl rfl hj (by decide)
theorem wA_1 {h : HP} {j : Nat} {x : Int64} (hj : j < 8) : uL h 1 2 (nI j) x = some (h.1, up2 h.2.1 1 j x, h.2.2) := uL_nI rfl rfl hj (by decide)
theorem rN_2 : aN 2 4 = some (nI 4) := rfl
theorem rA_2 {j : Nat} (hj : j < 4) : aR 2 4 (nI j) = some (17 + 1 * j) := aR_nI rfl (by decide) hj (by decide)
theorem rN_7 : aN 7 3 = some (nI 16) := rfl
theorem rA_7 {j : Nat} (hj : j < 16) : aR 7 3 (nI j) = some (118 + 3 * j) := aR_nI rfl (by decide) hj (by decide)
theorem rN_8 : aN 8 0 = some (nI 16) := rfl
theorem rA_8 {h : HP} {j : Nat} (hj : j < 16) : aI h 8 0 (nI j) = some (h.1 8 j) := aI_nI rfl (by decide) hj (by decide)
theorem wA_8 {h : HP} {j : Nat} {x : Int32} (hj : j < 16) : uI h 8 0 (nI j) x = some (up2 h.1 8 j x, h.2) := uI_nI rfl (by decide) hj (by decide)
theorem rN_9 : aN 9 0 = some (nI 8) := rfl
theorem rA_9 {h : HP} {j : Nat} (hj : j < 8) : aI h 9 0 (nI j) = some (h.1 9 j) := aI_nI rfl (by decide) hj (by decide)
theorem wA_9 {h : HP} {j : Nat} {x : Int32} (hj : j < 8) : uI h 9 0 (nI j) x = some (up2 h.1 9 j x, h.2) := uI_nI rfl (by decide) hj (by decide)
theorem rN_10 : aN 10 2 = some (nI 264) := rfl
theorem rA_10 {h : HP} {j : Nat} (hj : j < 264) : aL h 10 2 (nI j) = some (h.2.1 10 j) := aL_nI rfl rfl hj (by decide)
theorem wA_10 {h : HP} {j : Nat} {x : Int64} (hj : j < 264) : uL h 10 2 (nI j) x = some (h.1, up2 h.2.1 10 j x, h.2.2) := uL_nI rfl rfl hj (by decide)
theorem rN_13 : aN 13 0 = some (nI 8) := rfl
theorem rA_13 {h : HP} {j : Nat} (hj : j < 8) : aI h 13 0 (nI j) = some (h.1 13 j) := aI_nI rfl (by decide) hj (by decide)
theorem wA_13 {h : HP} {j : Nat} {x : Int32} (hj : j < 8) : uI h 13 0 (nI j) x = some (up2 h.1 13 j x, h.2) := uI_nI rfl (by decide) hj (by decide)
theorem rN_14 : aN 14 0 = some (nI 6) := rfl
theorem rA_14 {h : HP} {j : Nat} (hj : j < 6) : aI h 14 0 (nI j) = some (h.1 14 j) := aI_nI rfl (by decide) hj (by decide)
theorem wA_14 {h : HP} {j : Nat} {x : Int32} (hj : j < 6) : uI h 14 0 (nI j) x = some (up2 h.1 14 j x, h.2) := uI_nI rfl (by decide) hj (by decide)
theorem rN_15 : aN 15 0 = some (nI 6) := rfl
theorem rA_15 {h : HP} {j : Nat} (hj : j < 6) : aI h 15 0 (nI j) = some (h.1 15 j) := aI_nI rfl (by decide) hj (by decide)
theorem wA_15 {h : HP} {j : Nat} {x : Int32} (hj : j < 6) : uI h 15 0 (nI j) x = some (up2 h.1 15 j x, h.2) := uI_nI rfl (by decide) hj (by decide)
theorem rN_16 : aN 16 0 = some (nI 60) := rfl
theorem rA_16 {h : HP} {j : Nat} (hj : j < 60) : aI h 16 0 (nI j) = some (h.1 16 j) := aI_nI rfl (by decide) hj (by decide)
theorem wA_16 {h : HP} {j : Nat} {x : Int32} (hj : j < 60) : uI h 16 0 (nI j) x = some (up2 h.1 16 j x, h.2) := uI_nI rfl (by decide) hj (by decide)
theorem rN_101 : aN 101 1 = some (nI 60) := rfl
theorem rA_101 {h : HP} {j : Nat} (hj : j < 60) : aI h 101 1 (nI j) = some (h.1 101 j) := aI_nI rfl (by decide) hj (by decide)
theorem wA_101 {h : HP} {j : Nat} {x : Int32} (hj : j < 60) : uI h 101 1 (nI j) x = some (up2 h.1 101 j x, h.2) := uI_nI rfl (by decide) hj (by decide)
theorem rN_102 : aN 102 0 = some (nI 60) := rfl
theorem rA_102 {h : HP} {j : Nat} (hj : j < 60) : aI h 102 0 (nI j) = some (h.1 102 j) := aI_nI rfl (by decide) hj (by decide)
theorem wA_102 {h : HP} {j : Nat} {x : Int32} (hj : j < 60) : uI h 102 0 (nI j) x = some (up2 h.1 102 j x, h.2) := uI_nI rfl (by decide) hj (by decide)
theorem rN_104 : aN 104 1 = some (nI 60) := rfl
theorem rA_104 {h : HP} {j : Nat} (hj : j < 60) : aI h 104 1 (nI j) = some (h.1 104 j) := aI_nI rfl (by decide) hj (by decide)
theorem wA_104 {h : HP} {j : Nat} {x : Int32} (hj : j < 60) : uI h 104 1 (nI j) x = some (up2 h.1 104 j x, h.2) := uI_nI rfl (by decide) hj (by decide)
theorem rN_105 : aN 105 0 = some (nI 60) := rfl
theorem rA_105 {h : HP} {j : Nat} (hj : j < 60) : aI h 105 0 (nI j) = some (h.1 105 j) := aI_nI rfl (by decide) hj (by decide)
theorem wA_105 {h : HP} {j : Nat} {x : Int32} (hj : j < 60) : uI h 105 0 (nI j) x = some (up2 h.1 105 j x, h.2) := uI_nI rfl (by decide) hj (by decide)
theorem rN_201 : aN 201 0 = some (nI 1500) := rfl
theorem rA_201 {h : HP} {j : Nat} (hj : j < 1500) : aI h 201 0 (nI j) = some (h.1 201 j) := aI_nI rfl (by decide) hj (by decide)
theorem wA_201 {h : HP} {j : Nat} {x : Int32} (hj : j < 1500) : uI h 201 0 (nI j) x = some (up2 h.1 201 j x, h.2) := uI_nI rfl (by decide) hj (by decide)
theorem rN_202 : aN 202 2 = some (nI 8) := rfl
theorem rA_202 {h : HP} {j : Nat} (hj : j < 8) : aL h 202 2 (nI j) = some (h.2.1 202 j) := aL_nI rfl rfl hj (by decide)
theorem wA_202 {h : HP} {j : Nat} {x : Int64} (hj : j < 8) : uL h 202 2 (nI j) x = some (h.1, up2 h.2.1 202 j x, h.2.2) := uL_nI rfl rfl hj (by decide)
theorem rN_203 : aN 203 0 = some (nI 4) := rfl
theorem rA_203 {h : HP} {j : Nat} (hj : j < 4) : aI h 203 0 (nI j) = some (h.1 203 j) := aI_nI rfl (by decide) hj (by decide)
theorem wA_203 {h : HP} {j : Nat} {x : Int32} (hj : j < 4) : uI h 203 0 (nI j) x = some (up2 h.1 203 j x, h.2) := uI_nI rfl (by decide) hj (by decide)
theorem rN_204 : aN 204 0 = some (nI 16) := rfl
theorem rA_204 {h : HP} {j : Nat} (hj : j < 16) : aI h 204 0 (nI j) = some (h.1 204 j) := aI_nI rfl (by decide) hj (by decide)
theorem wA_204 {h : HP} {j : Nat} {x : Int32} (hj : j < 16) : uI h 204 0 (nI j) x = some (up2 h.1 204 j x, h.2) := uI_nI rfl (by decide) hj (by decide)
theorem rN_205 : aN 205 0 = some (nI 16) := rfl
theorem rA_205 {h : HP} {j : Nat} (hj : j < 16) : aI h 205 0 (nI j) = some (h.1 205 j) := aI_nI rfl (by decide) hj (by decide)
theorem wA_205 {h : HP} {j : Nat} {x : Int32} (hj : j < 16) : uI h 205 0 (nI j) x = some (up2 h.1 205 j x, h.2) := uI_nI rfl (by decide) hj (by decide)
theorem rN_206 : aN 206 0 = some (nI 200) := rfl
theorem rA_206 {h : HP} {j : Nat} (hj : j < 200) : aI h 206 0 (nI j) = some (h.1 206 j) := aI_nI rfl (by decide) hj (by decide)
theorem wA_206 {h : HP} {j : Nat} {x : Int32} (hj : j < 200) : uI h 206 0 (nI j) x = some (up2 h.1 206 j x, h.2) := uI_nI rfl (by decide) hj (by decide)
theorem rN_207 : aN 207 0 = some (nI 200) := rfl
theorem rA_207 {h : HP} {j : Nat} (hj : j < 200) : aI h 207 0 (nI j) = some (h.1 207 j) := aI_nI rfl (by decide) hj (by decide)
theorem wA_207 {h : HP} {j : Nat} {x : Int32} (hj : j < 200) : uI h 207 0 (nI j) x = some (up2 h.1 207 j x, h.2) := uI_nI rfl (by decide) hj (by decide)
theorem rN_208 : aN 208 0 = some (nI 200) := rfl
theorem rA_208 {h : HP} {j : Nat} (hj : j < 200) : aI h 208 0 (nI j) = some (h.1 208 j) := aI_nI rfl (by decide) hj (by decide)
theorem wA_208 {h : HP} {j : Nat} {x : Int32} (hj : j < 200) : uI h 208 0 (nI j) x = some (up2 h.1 208 j x, h.2) := uI_nI rfl (by decide) hj (by decide)
theorem rN_209 : aN 209 0 = some (nI 200) := rfl
theorem rA_209 {h : HP} {j : Nat} (hj : j < 200) : aI h 209 0 (nI j) = some (h.1 209 j) := aI_nI rfl (by decide) hj (by decide)
theorem wA_209 {h : HP} {j : Nat} {x : Int32} (hj : j < 200) : uI h 209 0 (nI j) x = some (up2 h.1 209 j x, h.2) := uI_nI rfl (by decide) hj (by decide)
theorem rN_210 : aN 210 5 = some (nI 64) := rfl
theorem rA_210 {h : HP} {j : Nat} (hj : j < 64) : aI h 210 5 (nI j) = some (h.1 210 j) := aI_nI rfl (by decide) hj (by decide)
theorem wA_210 {h : HP} {j : Nat} {x : Int32} (hj : j < 64) : uI h 210 5 (nI j) x = some (up2 h.1 210 j x, h.2) := uI_nI rfl (by decide) hj (by decide)
theorem rN_211 : aN 211 0 = some (nI 64) := rfl
theorem rA_211 {h : HP} {j : Nat} (hj : j < 64) : aI h 211 0 (nI j) = some (h.1 211 j) := aI_nI rfl (by decide) hj (by decide)
theorem wA_211 {h : HP} {j : Nat} {x : Int32} (hj : j < 64) : uI h 211 0 (nI j) x = some (up2 h.1 211 j x, h.2) := uI_nI rfl (by decide) hj (by decide)
theorem rN_212 : aN 212 0 = some (nI 32) := rfl
theorem rA_212 {h : HP} {j : Nat} (hj : j < 32) : aI h 212 0 (nI j) = some (h.1 212 j) := aI_nI rfl (by decide) hj (by decide)
theorem wA_212 {h : HP} {j : Nat} {x : Int32} (hj : j < 32) : uI h 212 0 (nI j) x = some (up2 h.1 212 j x, h.2) := uI_nI rfl (by decide) hj (by decide)
theorem rN_213 : aN 213 0 = some (nI 32) := rfl
theorem rA_213 {h : HP} {j : Nat} (hj : j < 32) : aI h 213 0 (nI j) = some (h.1 213 j) := aI_nI rfl (by decide) hj (by decide)
theorem wA_213 {h : HP} {j : Nat} {x : Int32} (hj : j < 32) : uI h 213 0 (nI j) x = some (up2 h.1 213 j x, h.2) := uI_nI rfl (by decide) hj (by decide)
theorem rN_214 : aN 214 0 = some (nI 32) := rfl
theorem rA_214 {h : HP} {j : Nat} (hj : j < 32) : aI h 214 0 (nI j) = some (h.1 214 j) := aI_nI rfl (by decide) hj (by decide)
theorem wA_214 {h : HP} {j : Nat} {x : Int32} (hj : j < 32) : uI h 214 0 (nI j) x = some (up2 h.1 214 j x, h.2) := uI_nI rfl (by decide) hj (by decide)
theorem rN_215 : aN 215 0 = some (nI 32) := rfl
theorem rA_215 {h : HP} {j : Nat} (hj : j < 32) : aI h 215 0 (nI j) = some (h.1 215 j) := aI_nI rfl (by decide) hj (by decide)
theorem wA_215 {h : HP} {j : Nat} {x : Int32} (hj : j < 32) : uI h 215 0 (nI j) x = some (up2 h.1 215 j x, h.2) := uI_nI rfl (by decide) hj (by decide)
theorem rN_216 : aN 216 2 = some (nI 32) := rfl
theorem rA_216 {h : HP} {j : Nat} (hj : j < 32) : aL h 216 2 (nI j) = some (h.2.1 216 j) := aL_nI rfl rfl hj (by decide)
theorem wA_216 {h : HP} {j : Nat} {x : Int64} (hj : j < 32) : uL h 216 2 (nI j) x = some (h.1, up2 h.2.1 216 j x, h.2.2) := uL_nI rfl rfl hj (by decide)
theorem rN_217 : aN 217 2 = some (nI 32) := rfl
theorem rA_217 {h : HP} {j : Nat} (hj : j < 32) : aL h 217 2 (nI j) = some (h.2.1 217 j) := aL_nI rfl rfl hj (by decide)
theorem wA_217 {h : HP} {j : Nat} {x : Int64} (hj : j < 32) : uL h 217 2 (nI j) x = some (h.1, up2 h.2.1 217 j x, h.2.2) := uL_nI rfl rfl hj (by decide)
theorem rN_218 : aN 218 2 = some (nI 32) := rfl
theorem rA_218 {h : HP} {j : Nat} (hj : j < 32) : aL h 218 2 (nI j) = some (h.2.1 218 j) := aL_nI rfl rfl hj (by decide)
theorem wA_218 {h : HP} {j : Nat} {x : Int64} (hj : j < 32) : uL h 218 2 (nI j) x = some (h.1, up2 h.2.1 218 j x, h.2.2) := uL_nI rfl rfl hj (by decide)
theorem rN_219 : aN 219 0 = some (nI 140) := rfl
theorem rA_219 {h : HP} {j : Nat} (hj : j < 140) : aI h 219 0 (nI j) = some (h.1 219 j) := aI_nI rfl (by decide) hj (by decide)
theorem wA_219 {h : HP} {j : Nat} {x : Int32} (hj : j < 140) : uI h 219 0 (nI j) x = some (up2 h.1 219 j x, h.2) := uI_nI rfl (by decide) hj (by decide)
theorem rN_220 : aN 220 0 = some (nI 7) := rfl
theorem rA_220 {h : HP} {j : Nat} (hj : j < 7) : aI h 220 0 (nI j) = some (h.1 220 j) := aI_nI rfl (by decide) hj (by decide)
theorem wA_220 {h : HP} {j : Nat} {x : Int32} (hj : j < 7) : uI h 220 0 (nI j) x = some (up2 h.1 220 j x, h.2) := uI_nI rfl (by decide) hj (by decide)
theorem rN_221 : aN 221 0 = some (nI 7) := rfl
theorem rA_221 {h : HP} {j : Nat} (hj : j < 7) : aI h 221 0 (nI j) = some (h.1 221 j) := aI_nI rfl (by decide) hj (by decide)
theorem wA_221 {h : HP} {j : Nat} {x : Int32} (hj : j < 7) : uI h 221 0 (nI j) x = some (up2 h.1 221 j x, h.2) := uI_nI rfl (by decide) hj (by decide)
theorem rN_222 : aN 222 0 = some (nI 8) := rfl
theorem rA_222 {h : HP} {j : Nat} (hj : j < 8) : aI h 222 0 (nI j) = some (h.1 222 j) := aI_nI rfl (by decide) hj (by decide)
theorem wA_222 {h : HP} {j : Nat} {x : Int32} (hj : j < 8) : uI h 222 0 (nI j) x = some (up2 h.1 222 j x, h.2) := uI_nI rfl (by decide) hj (by decide)
theorem rN_223 : aN 223 0 = some (nI 8) := rfl
theorem rA_223 {h : HP} {j : Nat} (hj : j < 8) : aI h 223 0 (nI j) = some (h.1 223 j) := aI_nI rfl (by decide) hj (by decide)
theorem wA_223 {h : HP} {j : Nat} {x : Int32} (hj : j < 8) : uI h 223 0 (nI j) x = some (up2 h.1 223 j x, h.2) := uI_nI rfl (by decide) hj (by decide)
theorem rN_224 : aN 224 0 = some (nI 8) := rfl
theorem rA_224 {h : HP} {j : Nat} (hj : j < 8) : aI h 224 0 (nI j) = some (h.1 224 j) := aI_nI rfl (by decide) hj (by decide)
theorem wA_224 {h : HP} {j : Nat} {x : Int32} (hj : j < 8) : uI h 224 0 (nI j) x = some (up2 h.1 224 j x, h.2) := uI_nI rfl (by decide) hj (by decide)
theorem rN_225 : aN 225 0 = some (nI 64) := rfl
theorem rA_225 {h : HP} {j : Nat} (hj : j < 64) : aI h 225 0 (nI j) = some (h.1 225 j) := aI_nI rfl (by decide) hj (by decide)
theorem wA_225 {h : HP} {j : Nat} {x : Int32} (hj : j < 64) : uI h 225 0 (nI j) x = some (up2 h.1 225 j x, h.2) := uI_nI rfl (by decide) hj (by decide)
theorem rN_226 : aN 226 0 = some (nI 6) := rfl
theorem rA_226 {h : HP} {j : Nat} (hj : j < 6) : aI h 226 0 (nI j) = some (h.1 226 j) := aI_nI rfl (by decide) hj (by decide)
theorem wA_226 {h : HP} {j : Nat} {x : Int32} (hj : j < 6) : uI h 226 0 (nI j) x = some (up2 h.1 226 j x, h.2) := uI_nI rfl (by decide) hj (by decide)
theorem rN_227 : aN 227 0 = some (nI 6) := rfl
theorem rA_227 {h : HP} {j : Nat} (hj : j < 6) : aI h 227 0 (nI j) = some (h.1 227 j) := aI_nI rfl (by decide) hj (by decide)
theorem wA_227 {h : HP} {j : Nat} {x : Int32} (hj : j < 6) : uI h 227 0 (nI j) x = some (up2 h.1 227 j x, h.2) := uI_nI rfl (by decide) hj (by decide)
theorem rN_228 : aN 228 5 = some (nI 64) := rfl
theorem rA_228 {h : HP} {j : Nat} (hj : j < 64) : aI h 228 5 (nI j) = some (h.1 228 j) := aI_nI rfl (by decide) hj (by decide)
theorem wA_228 {h : HP} {j : Nat} {x : Int32} (hj : j < 64) : uI h 228 5 (nI j) x = some (up2 h.1 228 j x, h.2) := uI_nI rfl (by decide) hj (by decide)
