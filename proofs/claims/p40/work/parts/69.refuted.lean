/-- the refutation with no premise: the printed witness meets the statement's premises, so the two halves of the claim can't both hold -/
theorem p40_refuted : ¬ (Claimed_1_1 ∧ Claimed_1_2) := p40_false witness_1
