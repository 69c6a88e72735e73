/-! What is still to be said of the calls. -/
theorem op_clear : OP2 (s_AdjoinedSets_clear 0) (s_AdjoinedSetsModel_clear 200) := OP2.of (fun S => nI (gB S).1) (fun S => setB S e0) (fun S w => WF_e0 w) (fun S h w hc => c_clear w hc) (fun S h w hm => m_clear hm)
def S00 : SG := (e0, fun _ => 0, fun _ => 0, fun _ => e0, 0, fun _ => e0, fun _ => 0)
theorem WF_00 : WF S00 := ⟨⟨Nat.zero_le _, fun p hp => absurd hp (by show ¬ p < 0; omega)⟩, fun j _ => ⟨by show (0 : Int64) ≤ 0; decide, by show (0 : Int64) ≤ _; decide⟩, fun f _ => ⟨Nat.zero_le _, fun h => absurd rfl h⟩, Nat.zero_le _, fun i hi => absurd hi (by show ¬ i < 0; omega)⟩
theorem CA_00 : CA S00 h00 := ⟨cT_e0 rfl, fun j _ => rfl, fun f hf => ⟨(show ∀ f, f < 4 → I00 (17 + f) 1 = 0 by decide) f hf, fun h => absurd rfl h⟩, rfl, fun i hi => absurd hi (by show ¬ i < 0; omega)⟩
theorem MA_00 : MA S00 h00 := ⟨⟨rfl, fun p hp => absurd hp (by show ¬ p < 0; omega)⟩, fun j _ => rfl, fun f hf => ⟨rfl, fun h => absurd rfl h⟩, rfl, fun i hi => absurd hi (by show ¬ i < 0; omega), rfl⟩
theorem ops_all : OPS := ⟨op_type, op_clear, op_let, op_eval, op_truth, op_define, op_prove, op_refute, op_size, op_rank⟩
