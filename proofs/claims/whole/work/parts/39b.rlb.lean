theorem lp20 {bi : Nat → Int32} (hb : bok bi) : ∀ (k n : Nat), n ≤ 129 → 130 ≤ n + k → bvN bi n = 0 → ∃ f, f ≤ 129 ∧ lp_X1_make0_20 bi k (nI n) = nI f ∧ bvN bi f = 0 ∧ (f < 129 → bi f = 1) := by
  intro k
  induction k with
  | zero => intro n h1 h2; omega
  | succ k ih =>
    intro n h1 h2 h3
    show ∃ f, f ≤ 129 ∧ (if (b_X1_make0_20 bi (nI n)).1 = true then lp_X1_make0_20 bi k (b_X1_make0_20 bi (nI n)).2 else (b_X1_make0_20 bi (nI n)).2) = nI f ∧ bvN bi f = 0 ∧ (f < 129 → bi f = 1)
    unfold b_X1_make0_20
    by_cases c : 129 ≤ n
    · rw [if_pos (show (129 : Int32) ≤ nI n from nI_le (a := 129) c (by omega)), if_neg (show ¬ (false, nI n).1 = true from Bool.false_ne_true)]
      exact ⟨n, h1, rfl, h3, fun q => by omega⟩
    · rw [if_neg (show ¬ (129 : Int32) ≤ nI n from nI_ge (b := 129) (by omega) (by decide)), nI_clamp (by omega)]
      rcases hb n (by omega) with h | h
      · rw [if_pos h, if_pos rfl, nI_1]
        refine ih (n + 1) (by omega) (by omega) ?_
        show 2 * bvN bi n + (if bi n = 1 then 1 else 0) = 0
        rw [h3, h]; rfl
      · rw [if_neg (show ¬ bi n = 0 by rw [h]; decide), if_neg (show ¬ (false, nI n).1 = true from Bool.false_ne_true)]
        exact ⟨n, h1, rfl, h3, fun _ => h⟩
theorem bvN_rng {bi : Nat → Int32} {f : Nat} (h0 : bvN bi f = 0) (h1 : bi f = 1) : ∀ j, 2 ^ j ≤ bvN bi (f + 1 + j) ∧ bvN bi (f + 1 + j) < 2 ^ (j + 1) := by
  intro j
  induction j with
  | zero =>
    show 2 ^ 0 ≤ 2 * bvN bi f + (if bi f = 1 then 1 else 0) ∧ 2 * bvN bi f + (if bi f = 1 then 1 else 0) < 2 ^ 1
    rw [h0, if_pos h1]; decide
  | succ j ih =>
    show 2 ^ (j + 1) ≤ 2 * bvN bi (f + 1 + j) + (if bi (f + 1 + j) = 1 then 1 else 0) ∧ 2 * bvN bi (f + 1 + j) + (if bi (f + 1 + j) = 1 then 1 else 0) < 2 ^ (j + 1 + 1)
    rw [Nat.pow_succ 2 (j + 1), Nat.pow_succ 2 j]
    rw [Nat.pow_succ 2 j] at ih
    split <;> omega
