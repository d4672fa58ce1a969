/-! the reference's bits as a number -/
def bvN (bi : Nat → Int32) : Nat → Nat
  | 0 => 0
  | n + 1 => 2 * bvN bi n + (if bi n = 1 then 1 else 0)
def bok (bi : Nat → Int32) : Prop := ∀ i, i < 129 → bi i = 0 ∨ bi i = 1
theorem bvN_lt (bi : Nat → Int32) : ∀ n, bvN bi n < 2 ^ n := by
  intro n
  induction n with
  | zero => exact Nat.one_pos
  | succ n ih =>
    show 2 * bvN bi n + (if bi n = 1 then 1 else 0) < 2 ^ (n + 1)
    rw [Nat.pow_succ]
    split <;> omega
/-- what the reference's first loop of round() holds when n bits are read: c = weight - q -/
def rJ (bi : Nat → Int32) (c : Int) (n : Nat) (x3 x4 : Int32) (wh : Int64) : Prop :=
  if (n : Int) ≤ c + 1 then wh = lN (bvN bi n) ∧ x3 = 0 ∧ x4 = 0
  else wh = lN (bvN bi n / 2 ^ (n - 1 - c).toNat) ∧ x3 = nI (bvN bi n / 2 ^ (n - 2 - c).toNat % 2) ∧ x4 = (if bvN bi n % 2 ^ (n - 2 - c).toNat = 0 then 0 else 1)
theorem rJ_0 {bi : Nat → Int32} {c : Int} {n : Nat} (h : bvN bi n = 0) : rJ bi c n 0 0 0 := by
  unfold rJ
  rw [h]
  split
  · exact ⟨rfl, rfl, rfl⟩
  · rw [Nat.zero_div, Nat.zero_div, Nat.zero_mod, Nat.zero_mod, if_pos rfl]; exact ⟨rfl, rfl, rfl⟩
theorem m_i2l {x : Int32} (h : x = 0 ∨ x = 1) : Int32.toInt64 x = lN (if x = 1 then 1 else 0) := by
  rcases h with rfl | rfl <;> rfl
theorem rJ_step {bi : Nat → Int32} {wt q : Int32} {c : Int} {n : Nat} {x3 x4 : Int32} {wh : Int64} (hb : bok bi) (hn : n < 129) (hc : c = wt.toInt - q.toInt) (hwt : -100000 ≤ wt.toInt ∧ wt.toInt ≤ 100000) (hq : -100000 ≤ q.toInt ∧ q.toInt ≤ 100000) (h : rJ bi c n x3 x4 wh) :
    ∃ y3 y4 w2, b_X1_round_26 bi wt q x3 x4 (nI n) wh = (true, y3, y4, nI (n + 1), w2) ∧ rJ bi c (n + 1) y3 y4 w2 := by
  have hN : (nI n).toInt = n := nI_toInt (by omega)
  have e1 : (1 : Int32).toInt = 1 := rfl
  have hp : (wt - nI n).toInt = wt.toInt - n := by rw [m_sub (by omega) (by omega), hN]
  have hq1 : (q - 1).toInt = q.toInt - 1 := by rw [m_sub (by omega) (by rw [e1]; omega), e1]
  have hB := hb n hn
  unfold b_X1_round_26
  rw [if_neg (show ¬ (129 : Int32) ≤ nI n from nI_ge (b := 129) hn (by decide)), nI_1, nI_clamp (by omega)]
  have t1 : (wt - nI n) < q ↔ c < n := by rw [Int32.lt_iff_toInt_lt, hp]; omega
  have t2 : (wt - nI n) = (q - 1) ↔ (n : Int) = c + 1 := by rw [← Int32.toInt_inj, hp, hq1]; omega
  have t3 : (q - 1) ≤ (wt - nI n) ↔ (n : Int) ≤ c + 1 := by rw [Int32.le_iff_toInt_le, hp, hq1]; omega
  unfold rJ at h
  by_cases c1 : c < n
  · rw [if_pos (t1.mpr c1)]
    by_cases c2 : (n : Int) = c + 1
    · rw [if_pos (t2.mpr c2), if_pos (t3.mpr (by omega))]
      rw [if_pos (by omega)] at h
      obtain ⟨rfl, rfl, rfl⟩ := h
      refine ⟨_, _, _, rfl, ?_⟩
      unfold rJ
      rw [if_neg (by omega), show (((n + 1 : Nat) : Int) - 1 - c).toNat = 1 by omega, show (((n + 1 : Nat) : Int) - 2 - c).toNat = 0 by omega]
      show lN (bvN bi n) = lN ((2 * bvN bi n + (if bi n = 1 then 1 else 0)) / 2 ^ 1) ∧ _ = nI ((2 * bvN bi n + (if bi n = 1 then 1 else 0)) / 2 ^ 0 % 2) ∧ _ = _
      rw [Nat.pow_zero, Nat.mod_one, if_pos rfl, Nat.div_one]
      rcases hB with hB | hB
      · rw [hB]
        refine ⟨?_, ?_, rfl⟩
        · congr 1; rw [if_neg (by decide)]; omega
        · rw [if_neg (by decide), if_neg (by decide), Nat.add_zero, Nat.mul_mod_right]; rfl
      · rw [hB]
        refine ⟨?_, ?_, rfl⟩
        · congr 1; rw [if_pos rfl]; omega
        · rw [if_pos rfl, if_pos rfl, show (2 * bvN bi n + 1) % 2 = 1 by omega]; rfl
    · rw [if_neg (fun q => c2 (t2.mp q)), if_neg (fun q => by have := t3.mp q; omega)]
      rw [if_neg (by omega)] at h
      obtain ⟨rfl, rfl, rfl⟩ := h
      refine ⟨_, _, _, rfl, ?_⟩
      unfold rJ
      obtain ⟨d, hd⟩ : ∃ d : Nat, (n : Int) - 2 - c = d := ⟨((n : Int) - 2 - c).toNat, by omega⟩
      rw [if_neg (by omega), show (((n + 1 : Nat) : Int) - 1 - c).toNat = d + 2 by omega, show (((n + 1 : Nat) : Int) - 2 - c).toNat = d + 1 by omega, show ((n : Int) - 1 - c).toNat = d + 1 by omega, show ((n : Int) - 2 - c).toNat = d by omega]
      show lN (bvN bi n / 2 ^ (d + 1)) = lN ((2 * bvN bi n + (if bi n = 1 then 1 else 0)) / 2 ^ (d + 2)) ∧ nI (bvN bi n / 2 ^ d % 2) = nI ((2 * bvN bi n + (if bi n = 1 then 1 else 0)) / 2 ^ (d + 1) % 2) ∧ _ = (if (2 * bvN bi n + (if bi n = 1 then 1 else 0)) % 2 ^ (d + 1) = 0 then (0 : Int32) else 1)
      have hb2 : (if bi n = 1 then 1 else 0) < 2 := by split <;> omega
      have f1 : ∀ j, (2 * bvN bi n + (if bi n = 1 then 1 else 0)) / 2 ^ (j + 1) = bvN bi n / 2 ^ j := by
        intro j
        rw [Nat.pow_succ', ← Nat.div_div_eq_div_mul, show (2 * bvN bi n + (if bi n = 1 then 1 else 0)) / 2 = bvN bi n by omega]
      have f2 : (2 * bvN bi n + (if bi n = 1 then 1 else 0)) % 2 ^ (d + 1) = 2 * (bvN bi n % 2 ^ d) + (if bi n = 1 then 1 else 0) := by
        have g1 := Nat.div_add_mod (bvN bi n) (2 ^ d)
        have g2 := Nat.mod_lt (bvN bi n) (Nat.two_pow_pos d)
        have g3 : 2 * bvN bi n + (if bi n = 1 then 1 else 0) = 2 ^ (d + 1) * (bvN bi n / 2 ^ d) + (2 * (bvN bi n % 2 ^ d) + (if bi n = 1 then 1 else 0)) := by
          rw [Nat.pow_succ', Nat.mul_assoc]; omega
        rw [g3, Nat.mul_add_mod, Nat.mod_eq_of_lt (by rw [Nat.pow_succ']; omega)]
      rw [f1 (d + 1), f1 d, f2]
      refine ⟨rfl, rfl, ?_⟩
      by_cases z : bvN bi n % 2 ^ d = 0
      · rw [if_pos z, if_pos rfl, z]
        rcases hB with hB | hB
        · rw [hB]; decide
        · rw [hB]; decide
      · rw [if_neg z, if_neg (by decide), if_neg (by omega)]
  · rw [if_neg (fun q => c1 (t1.mp q)), if_neg (fun q => by have := t2.mp q; omega), if_pos (t3.mpr (by omega))]
    rw [if_pos (by omega)] at h
    obtain ⟨rfl, rfl, rfl⟩ := h
    refine ⟨_, _, _, rfl, ?_⟩
    unfold rJ
    rw [if_pos (by omega), m_i2l hB, m_dbl, lN_add]
    exact ⟨rfl, rfl, rfl⟩
theorem rJ_lp {bi : Nat → Int32} {wt q : Int32} {c : Int} (hb : bok bi) (hc : c = wt.toInt - q.toInt) (hwt : -100000 ≤ wt.toInt ∧ wt.toInt ≤ 100000) (hq : -100000 ≤ q.toInt ∧ q.toInt ≤ 100000) :
    ∀ (k n : Nat) (x3 x4 : Int32) (wh : Int64), n ≤ 129 → 130 ≤ n + k → rJ bi c n x3 x4 wh → ∃ y3 y4 w2, lp_X1_round_26 bi wt q k (x3, x4, nI n, wh) = (y3, y4, nI 129, w2) ∧ rJ bi c 129 y3 y4 w2 := by
  intro k
  induction k with
  | zero => intro n x3 x4 wh h1 h2; omega
  | succ k ih =>
    intro n x3 x4 wh h1 h2 hJ
    show ∃ y3 y4 w2, (if (b_X1_round_26 bi wt q x3 x4 (nI n) wh).1 = true then lp_X1_round_26 bi wt q k (b_X1_round_26 bi wt q x3 x4 (nI n) wh).2 else (b_X1_round_26 bi wt q x3 x4 (nI n) wh).2) = (y3, y4, nI 129, w2) ∧ rJ bi c 129 y3 y4 w2
    rcases Nat.lt_or_ge n 129 with h | h
    · obtain ⟨y3, y4, w2, e, hJ2⟩ := rJ_step hb h hc hwt hq hJ
      rw [e, if_pos rfl]
      exact ih (n + 1) y3 y4 w2 (by omega) (by omega) hJ2
    · obtain rfl : n = 129 := by omega
      have e : b_X1_round_26 bi wt q x3 x4 (nI 129) wh = (false, x3, x4, nI 129, wh) := by
        unfold b_X1_round_26; rw [if_pos (show (129 : Int32) ≤ nI 129 by decide)]
      rw [e, if_neg (show ¬ (false, x3, x4, nI 129, wh).1 = true from Bool.false_ne_true)]
      exact ⟨x3, x4, wh, rfl, hJ⟩
theorem lp142 {q : Int32} (hq : -100000 ≤ q.toInt ∧ q.toInt ≤ 100000) : ∀ (k : Nat) (x : Int32) (n : Nat), -1000000 ≤ x.toInt → x.toInt - q.toInt + 1 < k → 0 < k → (lp_X1_round_142 q k (x, lN n)).2 = lN (n * 2 ^ (x.toInt - q.toInt + 1).toNat) := by
  intro k
  induction k with
  | zero => intro x n h1 h2 h3; omega
  | succ k ih =>
    intro x n h1 h2 h3
    show (if (b_X1_round_142 q x (lN n)).1 = true then lp_X1_round_142 q k (b_X1_round_142 q x (lN n)).2 else (b_X1_round_142 q x (lN n)).2).2 = _
    unfold b_X1_round_142
    by_cases c : x < q
    · rw [if_pos c, if_neg (show ¬ (false, x, lN n).1 = true from Bool.false_ne_true)]
      rw [Int32.lt_iff_toInt_lt] at c
      rw [show (x.toInt - q.toInt + 1).toNat = 0 by omega, Nat.pow_zero, Nat.mul_one]
    · rw [if_neg c, if_pos rfl]
      rw [Int32.lt_iff_toInt_lt] at c
      show (lp_X1_round_142 q k (x + (-1), 2 * lN n)).2 = _
      rw [m_dbl, ih _ _ (by rw [m_dec h1]; omega) (by rw [m_dec h1]; omega) (by omega), m_dec h1]
      congr 1
      rw [show (x.toInt - q.toInt + 1).toNat = (x.toInt - 1 - q.toInt + 1).toNat + 1 by omega, Nat.pow_succ', ← Nat.mul_assoc, Nat.mul_comm n 2]
/-! round() as a whole: X in units of U -/
def q_of (V : Nat) (D : Int) : Nat × Nat := (V * 2 ^ (-D).toNat, 2 ^ D.toNat)
theorem m_td (a : Int) : a.tdiv 2 = if 0 ≤ a then a / 2 else -((-a) / 2) := by
  by_cases h : 0 ≤ a
  · rw [if_pos h]; exact Int.tdiv_eq_ediv_of_nonneg h
  · rw [if_neg h]
    have h1 : a.tdiv 2 = -((-a).tdiv 2) := by rw [Int.neg_tdiv, Int.neg_neg]
    rw [h1, Int.tdiv_eq_ediv_of_nonneg (by omega)]
theorem m_rem2 (x : Int64) : (x - x / 2 * 2).toInt = x.toInt - x.toInt.tdiv 2 * 2 := by
  have h2 : (2 : Int64).toInt = 2 := rfl
  have hd : (x / 2).toInt = x.toInt.tdiv 2 := by rw [Int64.toInt_div_of_ne_right _ _ (by decide), h2]
  have b1 := x.le_toInt
  have b2 := x.toInt_lt
  have ht := m_td x.toInt
  have hm : (x / 2 * 2).toInt = x.toInt.tdiv 2 * 2 := by
    rw [Int64.toInt_mul, hd, h2]
    generalize x.toInt = a at *
    rw [ht]
    apply Int.bmod_eq_of_le
    · split <;> omega
    · split <;> omega
  rw [Int64.toInt_sub, hm]
  generalize x.toInt = a at *
  rw [ht]
  apply Int.bmod_eq_of_le
  · split <;> omega
  · split <;> omega
theorem m_odd {n : Nat} (hn : n < 2 ^ 64) : lg_cmp (lN n - lN n / 2 * 2) 0 = 0 ↔ n % 2 = 0 := by
  rw [lg_cmp_eq, ← Int64.toInt_inj, m_rem2, m_td, px_ti hn]
  have h0 : (0 : Int64).toInt = 0 := rfl
  rw [h0]
  by_cases c : n < 2 ^ 63
  · rw [if_pos c, if_pos (by omega)]; omega
  · rw [if_neg c, if_neg (by omega)]; omega
theorem q_bits {b r g : Nat} (hb : b = 0 ∨ b = 1) (hr : r < g) : (g * b + r = 0 ↔ b = 0 ∧ r = 0) ∧ (2 * (g * b + r) = 2 * g ↔ b = 1 ∧ r = 0) ∧ (2 * g ≤ 2 * (g * b + r) ↔ b = 1) := by
  rcases hb with rfl | rfl
  · rw [Nat.mul_zero, Nat.zero_add]
    exact ⟨⟨fun h => ⟨rfl, h⟩, fun h => h.2⟩, ⟨fun h => by omega, fun h => by omega⟩, ⟨fun h => by omega, fun h => by omega⟩⟩
  · rw [Nat.mul_one]
    exact ⟨⟨fun h => by omega, fun h => by omega⟩, ⟨fun h => ⟨rfl, by omega⟩, fun h => by omega⟩, ⟨fun h => rfl, fun h => by omega⟩⟩
theorem m_up {v W X U : Nat} {x3 x4 mn : Int32} (hv : v < 65536) (hW : W < 2 ^ 64) (hx3 : x3 = 0 ∨ x3 = 1) (hx4 : x4 = 0 ∨ x4 = 1) (h0 : X % U = 0 ↔ x3 = 0 ∧ x4 = 0) (h1 : 2 * (X % U) = U ↔ x3 = 1 ∧ x4 = 0) (h2 : U ≤ 2 * (X % U) ↔ x3 = 1) (h3 : W = X / U) :
    (if ((nI v >>> (10 &&& 31)) &&& 3) = 0 then (if x3 = 0 then 0 else (if x4 = 0 then (if (lg_cmp (lN W - lN W / 2 * 2) 0) = 0 then 0 else 1) else 1)) else (if ((if x3 = 0 then (if x4 = 0 then 0 else 1) else 1) : Int32) = 0 then 0 else (if ((nI v >>> (10 &&& 31)) &&& 3) = (if mn = 0 then 2 else 1) then 1 else 0)) : Int32) = if q_up (v / 1024 % 4) (decide (mn ≠ 0)) X U then 1 else 0 := by
  rw [show nI v >>> ((10 : Int32) &&& 31) = nI (v / 1024) from px_sshr (j := 10) hv (by decide), px_and3]
  unfold q_up
  have h4 : v / 1024 % 4 < 4 := Nat.mod_lt _ (by decide)
  generalize v / 1024 % 4 = y at *
  by_cases cr : y = 0
  · subst cr
    rw [if_pos (show nI 0 = 0 from rfl), if_pos rfl]
    rcases hx3 with rfl | rfl
    · rw [if_pos rfl]
      rcases hx4 with rfl | rfl
      · rw [if_pos (h0.mpr ⟨rfl, rfl⟩)]; rfl
      · rw [if_neg (fun q => absurd (h0.mp q).2 (by decide)), if_neg (fun q => absurd (h1.mp q).1 (by decide))]
        have : ¬ U ≤ 2 * (X % U) := fun q => absurd (h2.mp q) (by decide)
        simp [this]
    · rw [if_neg (by decide), if_neg (fun q => absurd (h0.mp q).1 (by decide))]
      rcases hx4 with rfl | rfl
      · rw [if_pos rfl, if_pos (h1.mpr ⟨rfl, rfl⟩), ← h3]
        by_cases co : W % 2 = 0
        · rw [if_pos ((m_odd hW).mpr co), co]; rfl
        · rw [if_neg (fun q => co ((m_odd hW).mp q)), show W % 2 = 1 by omega]; rfl
      · rw [if_neg (by decide), if_neg (fun q => absurd (h1.mp q).2 (by decide))]
        have : U ≤ 2 * (X % U) := h2.mpr rfl
        simp [this]
  · rw [if_neg (show ¬ nI y = 0 from nI_ne0 (by omega) (by omega)), if_neg cr]
    by_cases cs : x3 = 0 ∧ x4 = 0
    · obtain ⟨rfl, rfl⟩ := cs
      rw [if_pos rfl, if_pos rfl, if_pos rfl, if_pos (h0.mpr ⟨rfl, rfl⟩)]; rfl
    · have hs : ¬ ((if x3 = 0 then (if x4 = 0 then 0 else 1) else 1) : Int32) = 0 := by
        rcases hx3 with rfl | rfl
        · rcases hx4 with rfl | rfl
          · exact absurd ⟨rfl, rfl⟩ cs
          · decide
        · rcases hx4 with rfl | rfl <;> decide
      rw [if_neg hs, if_neg (fun q => cs (h0.mp q))]
      by_cases hm : mn = 0
      · subst hm
        rcases (show y = 1 ∨ y = 2 ∨ y = 3 by omega) with rfl | rfl | rfl <;> decide
      · simp only [if_neg hm, ne_eq, hm, not_false_eq_true, decide_true]
        rcases (show y = 1 ∨ y = 2 ∨ y = 3 by omega) with rfl | rfl | rfl <;> decide
theorem m_m1 {n : Nat} (hn : n < 2 ^ 64) : lg_cmp (lN n) (-1) = 0 ↔ n = 2 ^ 64 - 1 := by
  rw [lg_cmp_eq]
  exact ⟨fun h => (wb_tn hn).symm.trans (congrArg (fun x : Int64 => x.toBitVec.toNat) h), fun h => by rw [h]; rfl⟩
/-- the reference's round: what it leaves -/
theorem m_round {tp : Nat → Int32} {fr : Nat → Int64} {bi : Nat → Int32} {cd wt fi mn : Int32} {wh : Int64} {fu tl gr sd mt : Int32} {mf : Int64} {q : Int32} {v : Nat} {V X U : Nat} (hv : v < 65536) (hb : bok bi) (hq : m_rok fi wt q) (hf : bvN bi fi.toInt.toNat = 0) (hV : V = bvN bi 129) (hXU : (X, U) = q_of V (128 - (wt.toInt - q.toInt))) (hW : X / U < 2 ^ 64) :
    f_X1_round tp fr bi cd (nI v) wt fi mn wh fu tl gr sd mt mf q = (tp, fr, bi, cd, nI v, wt, fi, mn, lN (X / U + (if q_up (v / 1024 % 4) (decide (mn ≠ 0)) X U then 1 else 0)), (if q_up (v / 1024 % 4) (decide (mn ≠ 0)) X U = true ∧ X / U = 2 ^ 64 - 1 then 1 else 0), tl, gr, (if X % U = 0 then 0 else if q_up (v / 1024 % 4) (decide (mn ≠ 0)) X U then 1 else (-1)), mt, mf) := by
  obtain ⟨n, hn, rfl⟩ := m_toI (N := 129) hq.1 hq.2.1 (by decide)
  rw [nI_toInt (by omega)] at hf
  have hf : bvN bi n = 0 := hf
  obtain ⟨-, -, w1, w2, q1, q2, wq⟩ := hq
  obtain ⟨y3, y4, w9, e, hJ⟩ := rJ_lp hb rfl ⟨w1, w2⟩ ⟨q1, q2⟩ 130 n 0 0 0 hn (by omega) (rJ_0 hf)
  have e129 : (wt - 129).toInt = wt.toInt - 129 := by
    rw [m_sub (by omega) (by decide)]; rfl
  unfold f_X1_round
  rw [e]
  dsimp only
  obtain ⟨hX, hU⟩ := Prod.mk.inj hXU
  have key : ∃ b3 b4 : Nat, y3 = nI b3 ∧ b3 < 2 ∧ (y4 = 0 ∨ y4 = 1) ∧ (lp_X1_round_142 q 310 (wt - 129, w9)).2 = lN (X / U) ∧ (X % U = 0 ↔ y3 = 0 ∧ y4 = 0) ∧ (2 * (X % U) = U ↔ y3 = 1 ∧ y4 = 0) ∧ (U ≤ 2 * (X % U) ↔ y3 = 1) := by
    unfold rJ at hJ
    by_cases cD : ((129 : Nat) : Int) ≤ wt.toInt - q.toInt + 1
    · rw [if_pos cD] at hJ
      obtain ⟨rfl, rfl, rfl⟩ := hJ
      refine ⟨0, 0, rfl, by omega, Or.inl rfl, ?_, ?_⟩
      · rw [lp142 ⟨q1, q2⟩ 310 _ _ (by rw [e129]; omega) (by rw [e129]; omega) (by omega), e129, hX, hU, ← hV]
        rw [show (128 - (wt.toInt - q.toInt)).toNat = 0 by omega, Nat.pow_zero, Nat.div_one]
        congr 2
        congr 1
        omega
      · rw [hU, show (128 - (wt.toInt - q.toInt)).toNat = 0 by omega, Nat.pow_zero, Nat.mod_one]
        exact ⟨⟨fun _ => ⟨rfl, rfl⟩, fun _ => rfl⟩, ⟨fun h => by omega, fun h => absurd h.1 (by decide)⟩, ⟨fun h => by omega, fun h => absurd h (by decide)⟩⟩
    · rw [if_neg cD] at hJ
      obtain ⟨rfl, h3, h4⟩ := hJ
      obtain ⟨d, hd⟩ : ∃ d : Nat, (128 : Int) - (wt.toInt - q.toInt) = d + 1 := ⟨(127 - (wt.toInt - q.toInt)).toNat, by omega⟩
      rw [show (((129 : Nat) : Int) - 2 - (wt.toInt - q.toInt)).toNat = d by omega, ← hV] at h3 h4
      have hX2 : X = V := by rw [hX, show (-(128 - (wt.toInt - q.toInt))).toNat = 0 by omega, Nat.pow_zero, Nat.mul_one]
      have hU2 : U = 2 * 2 ^ d := by rw [hU, show (128 - (wt.toInt - q.toInt)).toNat = d + 1 by omega, Nat.pow_succ']
      have hpos : 0 < 2 ^ d := Nat.two_pow_pos d
      have hmod : X % U = 2 ^ d * (V / 2 ^ d % 2) + V % 2 ^ d := by
        rw [hX2, hU2, Nat.mul_comm 2, Nat.mod_mul]; omega
      have hb3 : V / 2 ^ d % 2 < 2 := Nat.mod_lt _ (by decide)
      have hlt : V % 2 ^ d < 2 ^ d := Nat.mod_lt _ hpos
      refine ⟨V / 2 ^ d % 2, 0, h3, hb3, ?_, ?_, ?_⟩
      · rw [h4]; split
        · exact Or.inl rfl
        · exact Or.inr rfl
      · rw [lp142 ⟨q1, q2⟩ 310 _ _ (by rw [e129]; omega) (by rw [e129]; omega) (by omega), e129, hX2, hU2, ← hV]
        rw [show (wt.toInt - 129 - q.toInt + 1).toNat = 0 by omega, Nat.pow_zero, Nat.mul_one, show (((129 : Nat) : Int) - 1 - (wt.toInt - q.toInt)).toNat = d + 1 by omega, Nat.pow_succ']
      · have y30 : y3 = 0 ↔ V / 2 ^ d % 2 = 0 := by rw [h3]; exact nI_eq (b := 0) (by omega) (by decide)
        have y31 : y3 = 1 ↔ V / 2 ^ d % 2 = 1 := by rw [h3]; exact nI_eq (b := 1) (by omega) (by decide)
        have y40 : y4 = 0 ↔ V % 2 ^ d = 0 := by
          rw [h4]; split
          · next z => exact ⟨fun _ => z, fun _ => rfl⟩
          · next z => exact ⟨fun q => absurd q (by decide), fun q => absurd q z⟩
        rw [y30, y31, y40, hmod, hU2]
        exact q_bits (by omega) hlt
  obtain ⟨b3, b4, e3, hb3, h4, ew, k0, k1, k2⟩ := key
  have h3 : y3 = 0 ∨ y3 = 1 := by
    rcases (show b3 = 0 ∨ b3 = 1 by omega) with z | z
    · left; rw [e3, z]; rfl
    · right; rw [e3, z]; rfl
  rw [ew]
  unfold k_X1_round_166
  dsimp only
  rw [m_up (v := v) (W := X / U) (X := X) (U := U) (x3 := y3) (x4 := y4) (mn := mn) hv hW h3 h4 k0 k1 k2 rfl]
  have hsome : ((if y3 = 0 then (if y4 = 0 then 0 else 1) else 1) : Int32) = 0 ↔ X % U = 0 := by
    rw [k0]
    rcases h3 with rfl | rfl
    · rcases h4 with rfl | rfl <;> decide
    · rcases h4 with rfl | rfl <;> decide
  have hz : ((if y3 = 0 then (if y4 = 0 then 0 else 1) else 1) : Int32) = if X % U = 0 then 0 else 1 := by
    by_cases z : X % U = 0
    · rw [if_pos z]; exact hsome.mpr z
    · rw [if_neg z]
      rcases h3 with rfl | rfl
      · rcases h4 with rfl | rfl
        · exact absurd (k0.mpr ⟨rfl, rfl⟩) z
        · rfl
      · rfl
  have hm : (if lg_cmp (lN (X / U)) (-1) = 0 then 1 else 0 : Int32) = if X / U = 2 ^ 64 - 1 then 1 else 0 := by
    by_cases z : X / U = 2 ^ 64 - 1
    · rw [if_pos ((m_m1 hW).mpr z), if_pos z]
    · rw [if_neg (fun q => z ((m_m1 hW).mp q)), if_neg z]
  rw [hz, hm, lN_1]
  generalize q_up (v / 1024 % 4) (decide (mn ≠ 0)) X U = B
  generalize X / U = W9
  by_cases z : X % U = 0
  · rw [if_pos z, if_pos z]
    cases B
    · rfl
    · by_cases zz : W9 = 2 ^ 64 - 1
      · rw [if_pos zz, if_pos (show true = true ∧ W9 = 2 ^ 64 - 1 from ⟨rfl, zz⟩)]; rfl
      · rw [if_neg zz, if_neg (show ¬ (true = true ∧ W9 = 2 ^ 64 - 1) from fun q => zz q.2)]; rfl
  · rw [if_neg z, if_neg z]
    cases B
    · rfl
    · by_cases zz : W9 = 2 ^ 64 - 1
      · rw [if_pos zz, if_pos (show true = true ∧ W9 = 2 ^ 64 - 1 from ⟨rfl, zz⟩)]; rfl
      · rw [if_neg zz, if_neg (show ¬ (true = true ∧ W9 = 2 ^ 64 - 1) from fun q => zz q.2)]; rfl
