/-! The law's loop as a function answers 1. -/
theorem pure_law (xs : Nat → Int32) (sn : Nat) (hn : sn ≤ 2048) : ∃ z, s_law_18 xs sn 20000 0 0 200 0 h00 = some z ∧ z.1 = 1 := law_go ops_all xs sn hn 20000 0 S00 h00 WF_00 CA_00 MA_00 (Nat.zero_le _) (by omega)
