def zUok (mid : Nat) : Prop := ∃ x : zMI, zMs[mid]? = some x ∧ (∀ q ∈ x.2.2.2.2.2.2.2, zCk x q = true) ∧ zCkM mid x = true
def zUs : List Nat := []
theorem zUa : ∀ m ∈ zUs, zUok m := sorry
theorem zUs_all : ∀ a, a < 273 → zVd a = true → a ∈ zUs := sorry
