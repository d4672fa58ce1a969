theorem cb_F {W n : Nat} {B : Bool} (hn : n = 24 ∨ n = 53 ∨ n = 64) (hW : W < 2 ^ n) (h1 : 1 ≤ W) : lg_cmp (lN ((W + (if B then 1 else 0)) * 2 ^ (64 - n))) 0 = 0 ↔ W + (if B then 1 else 0) = 2 ^ n := by
  have hb : (if B then 1 else 0) < 2 := by cases B <;> decide
  generalize (if B then 1 else 0) = t at *
  rw [wb_mod, px_l0 (Nat.mod_lt _ (by decide))]
  rcases hn with rfl | rfl | rfl
  · omega
  · omega
  · rw [show 2 ^ (64 - 64) = 1 from rfl, Nat.mul_one]; omega
theorem cb_more {W n : Nat} {B : Bool} (hn : n = 24 ∨ n = 53 ∨ n = 64) (hW : W < 2 ^ n) : (if ((if B = true ∧ W = 2 ^ 64 - 1 then 1 else 0) : Int32) = 0 then (if 64 ≤ nI n then 0 else (if (lg_cmp (lN (W + (if B then 1 else 0))) ((1 : Int64) <<< (Int32.toInt64 (nI n) &&& 63))) = 0 then 1 else 0)) else 1 : Int32) = if W + (if B then 1 else 0) = 2 ^ n then 1 else 0 := by
  have hb : (if B then 1 else 0) < 2 := by cases B <;> decide
  have small : ∀ j : Nat, j < 64 → n = j → W < 2 ^ j → (¬ (B = true ∧ W = 2 ^ 64 - 1)) ∧ ((lg_cmp (lN (W + (if B then 1 else 0))) ((1 : Int64) <<< (Int32.toInt64 (nI j) &&& 63))) = 0 ↔ W + (if B then 1 else 0) = 2 ^ j) := by
    intro j hj _ hWj
    have hp : 2 ^ j ≤ 2 ^ 63 := Nat.pow_le_pow_right (by decide) (by omega)
    generalize (if B then 1 else 0) = t at *
    refine ⟨fun q => by have := q.2; omega, ?_⟩
    rw [show (1 : Int64) <<< (Int32.toInt64 (nI j) &&& 63) = lN (1 * 2 ^ j) from wb_shl 1 hj, Nat.one_mul, lg_cmp_eq]
    constructor
    · intro h
      have := congrArg (fun x : Int64 => x.toBitVec.toNat) h
      have a := wb_tn (n := W + t) (by omega)
      have b := wb_tn (n := 2 ^ j) (by omega)
      exact a.symm.trans (this.trans b)
    · intro h; rw [h]
  rcases hn with rfl | rfl | rfl
  · obtain ⟨s1, s2⟩ := small 24 (by decide) rfl hW
    rw [if_neg s1, if_pos rfl, if_neg (show ¬ (64 : Int32) ≤ nI 24 by decide)]
    by_cases c : W + (if B then 1 else 0) = 2 ^ 24
    · rw [if_pos (s2.mpr c), if_pos c]
    · rw [if_neg (fun q => c (s2.mp q)), if_neg c]
  · obtain ⟨s1, s2⟩ := small 53 (by decide) rfl hW
    rw [if_neg s1, if_pos rfl, if_neg (show ¬ (64 : Int32) ≤ nI 53 by decide)]
    by_cases c : W + (if B then 1 else 0) = 2 ^ 53
    · rw [if_pos (s2.mpr c), if_pos c]
    · rw [if_neg (fun q => c (s2.mp q)), if_neg c]
  · cases B
    · rw [if_neg (show ¬ (false = true ∧ W = 2 ^ 64 - 1) from fun q => Bool.false_ne_true q.1), if_pos rfl, if_pos (show (64 : Int32) ≤ nI 64 by decide), if_neg (show ¬ W + (if false = true then 1 else 0) = 2 ^ 64 from fun q => by have q : W + 0 = 2 ^ 64 := q; omega)]
    · by_cases c : W = 2 ^ 64 - 1
      · rw [if_pos (show true = true ∧ W = 2 ^ 64 - 1 from ⟨rfl, c⟩), if_neg (show ¬ (1 : Int32) = 0 by decide), if_pos (show W + (if true = true then 1 else 0) = 2 ^ 64 from (by show W + 1 = 2 ^ 64; omega))]
      · rw [if_neg (show ¬ (true = true ∧ W = 2 ^ 64 - 1) from fun q => c q.2), if_pos rfl, if_pos (show (64 : Int32) ≤ nI 64 by decide), if_neg (show ¬ W + (if true = true then 1 else 0) = 2 ^ 64 from fun q => by have q : W + 1 = 2 ^ 64 := q; omega)]
theorem cb_W {H T n : Nat} (hn : n = 24 ∨ n = 53 ∨ n = 64) (hH : H < 2 ^ 64) (h1 : 2 ^ 63 ≤ H) (hT : T < 2 ^ 64) : (H * 2 ^ 64 + T) / 2 ^ (64 + (64 - n)) < 2 ^ n ∧ 1 ≤ (H * 2 ^ 64 + T) / 2 ^ (64 + (64 - n)) := by
  rcases hn with rfl | rfl | rfl
  · rw [show 2 ^ (64 + (64 - 24)) = 2 ^ 64 * 2 ^ 40 from rfl, ← Nat.div_div_eq_div_mul, show (H * 2 ^ 64 + T) / 2 ^ 64 = H by omega]; omega
  · rw [show 2 ^ (64 + (64 - 53)) = 2 ^ 64 * 2 ^ 11 from rfl, ← Nat.div_div_eq_div_mul, show (H * 2 ^ 64 + T) / 2 ^ 64 = H by omega]; omega
  · rw [show 2 ^ (64 + (64 - 64)) = 2 ^ 64 from rfl, show (H * 2 ^ 64 + T) / 2 ^ 64 = H by omega]; omega
