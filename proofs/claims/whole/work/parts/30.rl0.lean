/-! the class's state and the reference's -/
def RL9 (x : XS) (u : MS) : Prop := u.1 = x.1 ∧ u.2.1 = x.2.1 ∧ u.2.2.2.2.1 = x.2.2.1 ∧ u.2.2.2.2.2.2.2.2.2.2.1 = x.2.2.2.1 ∧ u.2.2.2.2.2.2.2.2.2.2.2.1 = x.2.2.2.2.1 ∧ u.2.2.2.2.2.2.2.2.2.2.2.2.1 = x.2.2.2.2.2 ∧ (∃ v, v < 65536 ∧ x.2.2.1 = nI v) ∧ m_tok x.1
theorem m_b01 (z : Int32) : (if z = 0 then 0 else 1 : Int32) = 0 ∨ (if z = 0 then 0 else 1 : Int32) = 1 := by
  split
  · exact Or.inl rfl
  · exact Or.inr rfl
theorem RL9_tok {x : XS} {u : MS} (h : RL9 x u) : m_tok u.1 := by rw [h.1]; exact h.2.2.2.2.2.2.2
theorem RL9_0 : RL9 ((fun _ => 0), (fun _ => 0), 1023, 0, 0, 0) ((fun _ => 0), (fun _ => 0), (fun _ => 0), 0, 1023, 0, 0, 0, 0, 0, 0, 0, 0, 0, 0) := ⟨rfl, rfl, rfl, rfl, rfl, rfl, ⟨1023, by decide, rfl⟩, fun _ _ => (show 0 ≤ (0 : Int32).toInt ∧ (0 : Int32).toInt < 65536 by decide)⟩
