/-! bits of words as the reference reads them -/
theorem bvN_s (bi : Nat → Int32) (n : Nat) : bvN bi (n + 1) = 2 * bvN bi n + (if bi n = 1 then 1 else 0) := rfl
theorem bvN_blk {bi : Nat → Int32} {s L w : Nat} (hw : w < 2 ^ L) (h : ∀ i, i < L → bi (s + i) = nI (w / 2 ^ (L - 1 - i) % 2)) : ∀ k, k ≤ L → bvN bi (s + k) = bvN bi s * 2 ^ k + w / 2 ^ (L - k) := by
  intro k
  induction k with
  | zero =>
    intro _
    show bvN bi s = bvN bi s * 2 ^ 0 + w / 2 ^ L
    rw [Nat.div_eq_of_lt hw, Nat.pow_zero, Nat.mul_one, Nat.add_zero]
  | succ k ih =>
    intro hk
    have e1 := ih (by omega)
    have e2 := h k (by omega)
    rw [show s + (k + 1) = (s + k) + 1 from rfl, bvN_s, e1, e2, show L - k = (L - (k + 1)) + 1 by omega, show L - 1 - k = L - (k + 1) by omega, Nat.pow_succ 2 (L - (k + 1)), ← Nat.div_div_eq_div_mul, Nat.pow_succ 2 k]
    generalize w / 2 ^ (L - (k + 1)) = y
    rw [← Nat.mul_assoc]
    generalize bvN bi s * 2 ^ k = X
    clear e1 e2 h hw ih
    rcases Nat.mod_two_eq_zero_or_one y with e | e
    · rw [e, if_neg (show ¬ nI 0 = 1 by decide)]; omega
    · rw [e, if_pos (show nI 1 = 1 from rfl)]; omega
theorem bvN_b32 {bi : Nat → Int32} {s w : Nat} (hw : w < 2 ^ 32) (h : ∀ i, i < 32 → bi (s + i) = nI (w / 2 ^ (31 - i) % 2)) : bvN bi (s + 32) = bvN bi s * 2 ^ 32 + w := by
  have := bvN_blk (L := 32) hw h 32 (Nat.le_refl _)
  rw [Nat.sub_self, Nat.pow_zero, Nat.div_one] at this
  exact this
theorem bvN_b64 {bi : Nat → Int32} {s w : Nat} (hw : w < 2 ^ 64) (h : ∀ i, i < 64 → bi (s + i) = nI (w / 2 ^ (63 - i) % 2)) : bvN bi (s + 64) = bvN bi s * 2 ^ 64 + w := by
  have := bvN_blk (L := 64) hw h 64 (Nat.le_refl _)
  rw [Nat.sub_self, Nat.pow_zero, Nat.div_one] at this
  exact this
theorem bt1 : ∀ i, i < 32 → bt 1 i = decide (i = 0) := by decide +kernel
theorem bt_nI {W k : Nat} (hk : k < 32) : bt (nI W) k = decide (W / 2 ^ k % 2 = 1) := by
  show (BitVec.ofNat 32 W).getLsbD k = _
  rw [BitVec.getLsbD_ofNat, Nat.testBit_eq_decide_div_mod_eq, decide_eq_true hk, Bool.true_and]
theorem b_bit {W k : Nat} (hk : k < 32) : (nI W >>> (nI k &&& 31)) &&& 1 = nI (W / 2 ^ k % 2) := by
  apply b_ext
  intro i hi
  rw [b_and, b_sshr k hk _ hi, bt1 i hi]
  rcases Nat.eq_zero_or_pos i with h0 | h0
  · subst h0
    rw [if_pos (show k + 0 < 32 from hk), Nat.add_zero, bt_nI hk, decide_eq_true (show (0 : Nat) = 0 from rfl), Bool.and_true]
    rcases Nat.mod_two_eq_zero_or_one (W / 2 ^ k) with e | e
    · rw [e]; decide
    · rw [e]; decide
  · rw [decide_eq_false (show ¬ i = 0 by omega), Bool.and_false]
    rcases Nat.mod_two_eq_zero_or_one (W / 2 ^ k) with e | e
    · rw [e]; exact (b_0 i).symm
    · rw [e]; exact ((bt1 i hi).trans (decide_eq_false (by omega))).symm
theorem mk_idx : ∀ n, n < 128 → (31 : Int32) - (nI n - nI n / 32 * 32) = nI (31 - n % 32) := by decide +kernel
def wsel (A B C D : Nat) (n : Nat) : Nat := if 32 ≤ n then (if 64 ≤ n then (if 96 ≤ n then D else C) else B) else A
theorem wsel_e {A B C D n : Nat} (hn : n < 128) : (if (32 : Int32) ≤ nI n then (if (64 : Int32) ≤ nI n then (if (96 : Int32) ≤ nI n then nI D else nI C) else nI B) else nI A) = nI (wsel A B C D n) := by
  unfold wsel
  by_cases c1 : 32 ≤ n
  · rw [if_pos (show (32 : Int32) ≤ nI n from nI_le (a := 32) c1 (by omega)), if_pos c1]
    by_cases c2 : 64 ≤ n
    · rw [if_pos (show (64 : Int32) ≤ nI n from nI_le (a := 64) c2 (by omega)), if_pos c2]
      by_cases c3 : 96 ≤ n
      · rw [if_pos (show (96 : Int32) ≤ nI n from nI_le (a := 96) c3 (by omega)), if_pos c3]
      · rw [if_neg (show ¬ (96 : Int32) ≤ nI n from nI_ge (b := 96) (by omega) (by decide)), if_neg c3]
    · rw [if_neg (show ¬ (64 : Int32) ≤ nI n from nI_ge (b := 64) (by omega) (by decide)), if_neg c2]
  · rw [if_neg (show ¬ (32 : Int32) ≤ nI n from nI_ge (b := 32) (by omega) (by decide)), if_neg c1]
theorem lp44 {A B C D : Nat} : ∀ (k n : Nat) (bi : Nat → Int32), n ≤ 128 → 129 ≤ n + k → ∀ i, ((lp_X1_make_44 (nI A) (nI B) (nI C) (nI D) k (nI n, bi)).2 i = if n ≤ i ∧ i < 128 then nI (wsel A B C D i / 2 ^ (31 - i % 32) % 2) else bi i) := by
  intro k
  induction k with
  | zero => intro n bi h1 h2; omega
  | succ k ih =>
    intro n bi h1 h2 i
    show (if (b_X1_make_44 (nI A) (nI B) (nI C) (nI D) (nI n) bi).1 = true then lp_X1_make_44 (nI A) (nI B) (nI C) (nI D) k (b_X1_make_44 (nI A) (nI B) (nI C) (nI D) (nI n) bi).2 else (b_X1_make_44 (nI A) (nI B) (nI C) (nI D) (nI n) bi).2).2 i = _
    by_cases c : 128 ≤ n
    · have e : b_X1_make_44 (nI A) (nI B) (nI C) (nI D) (nI n) bi = (false, nI n, bi) := by
        unfold b_X1_make_44; rw [if_pos (show (128 : Int32) ≤ nI n from nI_le (a := 128) c (by omega))]
      rw [e, if_neg (show ¬ (false, nI n, bi).1 = true from Bool.false_ne_true)]
      show bi i = _
      rw [if_neg (show ¬ (n ≤ i ∧ i < 128) by omega)]
    · have e : b_X1_make_44 (nI A) (nI B) (nI C) (nI D) (nI n) bi = (true, nI (n + 1), upd bi n (nI (wsel A B C D n / 2 ^ (31 - n % 32) % 2))) := by
        unfold b_X1_make_44
        rw [if_neg (show ¬ (128 : Int32) ≤ nI n from nI_ge (b := 128) (by omega) (by decide)), nI_1, nI_clamp (by omega), mk_idx n (by omega), wsel_e (by omega), b_bit (by omega)]
      rw [e, if_pos rfl]
      show (lp_X1_make_44 (nI A) (nI B) (nI C) (nI D) k (nI (n + 1), upd bi n (nI (wsel A B C D n / 2 ^ (31 - n % 32) % 2)))).2 i = _
      rw [ih (n + 1) _ (by omega) (by omega) i]
      by_cases c1 : n + 1 ≤ i ∧ i < 128
      · rw [if_pos c1, if_pos (show n ≤ i ∧ i < 128 by omega)]
      · rw [if_neg c1]
        unfold upd
        by_cases c2 : i = n
        · subst c2; rw [if_pos rfl, if_pos (show i ≤ i ∧ i < 128 by omega)]
        · rw [if_neg c2, if_neg (show ¬ (n ≤ i ∧ i < 128) by omega)]
theorem mk_V {bi : Nat → Int32} {A B C D l : Nat} (hA : A < 2 ^ 32) (hB : B < 2 ^ 32) (hC : C < 2 ^ 32) (hD : D < 2 ^ 32) (hl : l < 2) (h : ∀ i, i < 128 → bi i = nI (wsel A B C D i / 2 ^ (31 - i % 32) % 2)) (h1 : bi 128 = nI l) : bok bi ∧ bvN bi 129 = 2 * ((A * 2 ^ 32 + B) * 2 ^ 64 + (C * 2 ^ 32 + D)) + l := by
  refine ⟨fun i hi => ?_, ?_⟩
  · rcases Nat.lt_or_ge i 128 with c | c
    · rw [h i c]
      rcases Nat.mod_two_eq_zero_or_one (wsel A B C D i / 2 ^ (31 - i % 32)) with e | e
      · rw [e]; exact Or.inl rfl
      · rw [e]; exact Or.inr rfl
    · obtain rfl : i = 128 := by omega
      rw [h1]
      rcases (show l = 0 ∨ l = 1 by omega) with e | e
      · rw [e]; exact Or.inl rfl
      · rw [e]; exact Or.inr rfl
  · have e9 : bvN bi 129 = 2 * bvN bi 128 + (if bi 128 = 1 then 1 else 0) := bvN_s bi 128
    have e5 : (if bi 128 = 1 then 1 else 0) = l := by
      rw [h1]
      rcases (show l = 0 ∨ l = 1 by omega) with e | e
      · rw [e, if_neg (show ¬ nI 0 = 1 by decide)]
      · rw [e, if_pos (show nI 1 = 1 from rfl)]
    have b1 : bvN bi 32 = bvN bi 0 * 2 ^ 32 + A := bvN_b32 (s := 0) hA (fun i hi => by
      rw [Nat.zero_add, h i (by omega), show wsel A B C D i = A by (unfold wsel; rw [if_neg (by omega)]), show 31 - i % 32 = 31 - i by omega])
    have b2 : bvN bi 64 = bvN bi 32 * 2 ^ 32 + B := bvN_b32 (s := 32) hB (fun i hi => by
      rw [h (32 + i) (by omega), show wsel A B C D (32 + i) = B by (unfold wsel; rw [if_pos (by omega), if_neg (by omega)]), show 31 - (32 + i) % 32 = 31 - i by omega])
    have b3 : bvN bi 96 = bvN bi 64 * 2 ^ 32 + C := bvN_b32 (s := 64) hC (fun i hi => by
      rw [h (64 + i) (by omega), show wsel A B C D (64 + i) = C by (unfold wsel; rw [if_pos (by omega), if_pos (by omega), if_neg (by omega)]), show 31 - (64 + i) % 32 = 31 - i by omega])
    have b4 : bvN bi 128 = bvN bi 96 * 2 ^ 32 + D := bvN_b32 (s := 96) hD (fun i hi => by
      rw [h (96 + i) (by omega), show wsel A B C D (96 + i) = D by (unfold wsel; rw [if_pos (by omega), if_pos (by omega), if_pos (by omega)]), show 31 - (96 + i) % 32 = 31 - i by omega])
    have b0 : bvN bi 0 = 0 := rfl
    rw [e5] at e9
    rw [e9, b4, b3, b2, b1, b0]
    clear e5 e9 b0 b1 b2 b3 b4 h h1
    omega
theorem j_ext {A : Nat} (hA : A < 2 ^ 32) : ∃ x, x < 2 ^ 64 ∧ Int32.toInt64 (nI A) = lN x ∧ x % 2 ^ 32 = A := by
  obtain ⟨x, hx, e⟩ := wb_of (Int32.toInt64 (nI A))
  refine ⟨x, hx, e, ?_⟩
  have h1 : (Int32.toInt64 (nI A)).toInt32 = nI A := Int32.toInt32_toInt64 _
  rw [e, lN_i] at h1
  have h2 : (nI x).toBitVec.toNat = (nI A).toBitVec.toNat := congrArg (fun y : Int32 => y.toBitVec.toNat) h1
  have h3 : (nI x).toBitVec.toNat = x % 2 ^ 32 := by
    show (BitVec.ofNat 32 x).toNat = _
    rw [BitVec.toNat_ofNat]
  have h4 : (nI A).toBitVec.toNat = A % 2 ^ 32 := by
    show (BitVec.ofNat 32 A).toNat = _
    rw [BitVec.toNat_ofNat]
  rw [h3, h4, Nat.mod_eq_of_lt hA] at h2
  exact h2
theorem px_join {A B : Nat} (hA : A < 2 ^ 32) (hB : B < 2 ^ 32) : f_X0_join (nI A) (nI B) = lN (A * 2 ^ 32 + B) := by
  obtain ⟨x, hx, ex, mx⟩ := j_ext hA
  obtain ⟨y, hy, ey, my⟩ := j_ext hB
  rw [e_join, ex, ey, show lN y &&& 4294967295 = lN (y % 2 ^ 32) from wb_mask (k := 32) hy (by decide), show lN x * 4294967296 = lN (x * 4294967296) from lN_mul x 4294967296, lN_add, my, wb_mod (x * 4294967296 + B), wb_mod (A * 2 ^ 32 + B)]
  have e : (x * 4294967296 + B) % 2 ^ 64 = (A * 2 ^ 32 + B) % 2 ^ 64 := by omega
  rw [e]
