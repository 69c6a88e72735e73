/-! A set's members are its code's bits. -/
def mb (x : Int64) (c : Nat) : Bool := x.toBitVec.getLsbD c
theorem sh_c {c : Nat} (hc : c < 62) : (((nI c).toInt64 &&& 63).toBitVec.smod 64).toNat = c := (show ∀ c, c < 62 → (((nI c).toInt64 &&& 63).toBitVec.smod 64).toNat = c by decide) c hc
theorem bit64 (x : Int64) {c : Nat} (hc : c < 62) : ((x >>> ((nI c).toInt64 &&& 63)) &&& 1) = if mb x c then 1 else 0 := by
  rw [← Int64.toBitVec_inj, Int64.toBitVec_and, Int64.toBitVec_shiftRight, BitVec.sshiftRight_eq', sh_c hc]
  have e1 : (1 : Int64).toBitVec = BitVec.twoPow 64 0 := by decide
  rw [e1, BitVec.and_twoPow, BitVec.getLsbD_sshiftRight]
  unfold mb
  have e2 : (decide (64 ≤ 0)) = false := by decide
  have e3 : c + 0 < 64 := by omega
  rw [e2, if_pos e3, Nat.add_zero]
  cases x.toBitVec.getLsbD c with
  | true => decide
  | false => decide
