/-! a head and a tail out of two words and a bit -/
theorem sh_lt {a b z : Nat} (hb : b < 2 ^ 64) (hz : z ≤ 64) : (a * 2 ^ z) % 2 ^ 64 + b / 2 ^ (64 - z) < 2 ^ 64 := by
  have h1 := px_dl hb hz
  have h2 : a % 2 ^ (64 - z) < 2 ^ (64 - z) := Nat.mod_lt _ (Nat.two_pow_pos _)
  have e2 : 2 ^ 64 = 2 ^ z * 2 ^ (64 - z) := by rw [← Nat.pow_add]; congr 1; omega
  rw [px_mm hz]
  calc 2 ^ z * (a % 2 ^ (64 - z)) + b / 2 ^ (64 - z) < 2 ^ z * (a % 2 ^ (64 - z)) + 2 ^ z := Nat.add_lt_add_left h1 _
    _ = 2 ^ z * (a % 2 ^ (64 - z) + 1) := (Nat.mul_succ _ _).symm
    _ ≤ 2 ^ z * 2 ^ (64 - z) := Nat.mul_le_mul_left _ h2
    _ = 2 ^ 64 := e2.symm
theorem mk_ring {F a b l q p : Nat} : (F * (2 * p) + a) * (q * (2 * p)) + ((2 * p) * b + l * p) = (2 * (F * (q * (2 * p)) + (q * a + b)) + l) * p := by
  have x1 : F * (2 * p) * (q * (2 * p)) = 2 * (F * (q * (2 * p))) * p := by simp only [Nat.mul_assoc, Nat.mul_comm, Nat.mul_left_comm]
  have x2 : a * (q * (2 * p)) = 2 * (q * a) * p := by simp only [Nat.mul_assoc, Nat.mul_comm, Nat.mul_left_comm]
  have e1 : (F * (2 * p) + a) * (q * (2 * p)) = 2 * (F * (q * (2 * p))) * p + 2 * (q * a) * p := by
    rw [Nat.add_mul, x1, x2]
  have e2 : (2 * p) * b = 2 * b * p := by rw [Nat.mul_assoc, Nat.mul_comm p b, Nat.mul_assoc]
  rw [e1, e2, Nat.mul_add, Nat.mul_add, Nat.add_mul, Nat.add_mul, Nat.add_mul]
  generalize 2 * (F * (q * (2 * p))) * p = x1
  generalize 2 * (q * a) * p = x2
  generalize 2 * b * p = x3
  generalize l * p = x4
  omega
theorem mk_A {F S l z : Nat} (hz1 : 1 ≤ z) (hz : z ≤ 64) (hF : F * 2 ^ z < 2 ^ 64) : ((F * 2 ^ z) % 2 ^ 64 + S / 2 ^ (64 - z)) * 2 ^ 64 + ((S * 2 ^ z) % 2 ^ 64 + (l * 2 ^ 63) / 2 ^ (64 - z)) = (2 * (F * 2 ^ 64 + S) + l) * 2 ^ (z - 1) := by
  have e1 : 2 ^ z = 2 * 2 ^ (z - 1) := by rw [← Nat.pow_succ']; congr 1; omega
  have e2 : 2 ^ 64 = 2 ^ (64 - z) * 2 ^ z := by rw [← Nat.pow_add]; congr 1; omega
  have e3 : l * 2 ^ 63 / 2 ^ (64 - z) = l * 2 ^ (z - 1) := by
    have : l * 2 ^ 63 = l * 2 ^ (z - 1) * 2 ^ (64 - z) := by rw [Nat.mul_assoc, ← Nat.pow_add]; congr 2; omega
    rw [this, Nat.mul_div_cancel _ (Nat.two_pow_pos _)]
  have e4 := Nat.div_add_mod S (2 ^ (64 - z))
  rw [Nat.mod_eq_of_lt hF, px_mm hz, e3]
  have key := mk_ring (F := F) (a := S / 2 ^ (64 - z)) (b := S % 2 ^ (64 - z)) (l := l) (q := 2 ^ (64 - z)) (p := 2 ^ (z - 1))
  rw [← e1, ← e2, e4] at key
  exact key
theorem mk_rng {F S l z : Nat} (hS : S < 2 ^ 64) (hl : l < 2) (hz : z < 64) (h1 : 2 ^ 63 ≤ F * 2 ^ z) (h2 : F * 2 ^ z < 2 ^ 64) : 2 ^ (128 - z) ≤ 2 * (F * 2 ^ 64 + S) + l ∧ 2 * (F * 2 ^ 64 + S) + l < 2 ^ (129 - z) := by
  have e1 : 2 ^ 63 = 2 ^ (63 - z) * 2 ^ z := by rw [← Nat.pow_add]; congr 1; omega
  have e2 : 2 ^ 64 = 2 * 2 ^ (63 - z) * 2 ^ z := by rw [Nat.mul_assoc, ← e1]
  have e3 : 2 ^ (128 - z) = 2 ^ (63 - z) * 2 ^ 65 := by rw [← Nat.pow_add]; congr 1; omega
  have e4 : 2 ^ (129 - z) = 2 ^ (63 - z) * 2 ^ 66 := by rw [← Nat.pow_add]; congr 1; omega
  have g1 : 2 ^ (63 - z) ≤ F := by rw [e1] at h1; exact Nat.le_of_mul_le_mul_right h1 (Nat.two_pow_pos z)
  have g2 : F < 2 * 2 ^ (63 - z) := by rw [e2] at h2; exact Nat.lt_of_mul_lt_mul_right h2
  rw [e3, e4]
  clear e1 e2 e3 e4 h1 h2
  generalize 2 ^ (63 - z) = y at *
  omega
theorem mk_rngB {S l z : Nat} (hl : l < 2) (hz : z < 64) (h1 : 2 ^ 63 ≤ S * 2 ^ z) (h2 : S * 2 ^ z < 2 ^ 64) : 2 ^ (128 - (64 + z)) ≤ 2 * S + l ∧ 2 * S + l < 2 ^ (129 - (64 + z)) := by
  have e1 : 2 ^ 63 = 2 ^ (63 - z) * 2 ^ z := by rw [← Nat.pow_add]; congr 1; omega
  have e2 : 2 ^ 64 = 2 * 2 ^ (63 - z) * 2 ^ z := by rw [Nat.mul_assoc, ← e1]
  have e3 : 2 ^ (128 - (64 + z)) = 2 ^ (63 - z) * 2 ^ 1 := by rw [← Nat.pow_add]; congr 1; omega
  have e4 : 2 ^ (129 - (64 + z)) = 2 ^ (63 - z) * 2 ^ 2 := by rw [← Nat.pow_add]; congr 1; omega
  have g1 : 2 ^ (63 - z) ≤ S := by rw [e1] at h1; exact Nat.le_of_mul_le_mul_right h1 (Nat.two_pow_pos z)
  have g2 : S < 2 * 2 ^ (63 - z) := by rw [e2] at h2; exact Nat.lt_of_mul_lt_mul_right h2
  rw [e3, e4]
  clear e1 e2 e3 e4 h1 h2
  generalize 2 ^ (63 - z) = y at *
  omega
theorem mk_B {S l z : Nat} (hl : l < 2) (hz : z < 64) (h2 : S * 2 ^ z < 2 ^ 64) : ((S * 2 ^ z) % 2 ^ 64 + l * 2 ^ 63 / 2 ^ (64 - z)) * 2 ^ 64 + ((l * 2 ^ 63 * 2 ^ z) % 2 ^ 64 + 0 / 2 ^ (64 - z)) = (2 * S + l) * 2 ^ (64 + z - 1) := by
  have hL : l * 2 ^ 63 < 2 ^ 64 := by clear h2; omega
  rcases Nat.eq_zero_or_pos z with h0 | h0
  · subst h0
    rw [Nat.pow_zero, Nat.mul_one] at h2
    have e1 : (S * 2 ^ 0) % 2 ^ 64 + l * 2 ^ 63 / 2 ^ (64 - 0) = S := by
      rw [Nat.pow_zero, Nat.mul_one, Nat.mod_eq_of_lt h2, Nat.sub_zero, Nat.div_eq_of_lt hL, Nat.add_zero]
    have e2 : (l * 2 ^ 63 * 2 ^ 0) % 2 ^ 64 + 0 / 2 ^ (64 - 0) = l * 2 ^ 63 := by
      rw [Nat.pow_zero, Nat.mul_one, Nat.mod_eq_of_lt hL, Nat.zero_div, Nat.add_zero]
    rw [e1, e2, show 64 + 0 - 1 = 63 from rfl]
    omega
  · have k := mk_A (F := S) (S := l * 2 ^ 63) (l := 0) (z := z) h0 (by omega) h2
    rw [show 0 * 2 ^ 63 = 0 from Nat.zero_mul _] at k
    rw [k, show 64 + z - 1 = 64 + (z - 1) by omega, Nat.pow_add, ← Nat.mul_assoc]
    congr 1
    clear k h2
    omega
theorem or1_eq {a : Nat} : a ||| 1 = 2 * (a / 2) + 1 := by
  obtain ⟨o1, o2⟩ := px_or1 (a := a)
  generalize a ||| 1 = m at *
  omega
theorem sz_A {F S l z : Nat} {wt : Int32} (hS : S < 2 ^ 64) (hl : l < 2) (hz : z < 64) (h1 : 2 ^ 63 ≤ F * 2 ^ z) (h2 : F * 2 ^ z < 2 ^ 64) : sz_ok (2 * (F * 2 ^ 64 + S) + l) ((F * 2 ^ z) % 2 ^ 64 + S / 2 ^ (64 - z)) (if z = 0 ∧ l * 2 ^ 63 ≠ 0 then ((S * 2 ^ z) % 2 ^ 64 + l * 2 ^ 63 / 2 ^ (64 - z)) ||| 1 else ((S * 2 ^ z) % 2 ^ 64 + l * 2 ^ 63 / 2 ^ (64 - z))) wt (wt - nI z) := by
  have hL : l * 2 ^ 63 < 2 ^ 64 := by clear h1 h2; omega
  obtain ⟨r1, r2⟩ := mk_rng hS hl hz h1 h2
  have hH1 : 2 ^ 63 ≤ (F * 2 ^ z) % 2 ^ 64 + S / 2 ^ (64 - z) := by
    rw [Nat.mod_eq_of_lt h2]; exact Nat.le_trans h1 (Nat.le_add_right _ _)
  refine Or.inr ⟨z, Nat.lt_trans hz (by decide), r1, r2, sh_lt hS (Nat.le_of_lt hz), hH1, rfl, ?_⟩
  clear hH1 r1 r2 h1
  rcases Nat.eq_zero_or_pos z with h0 | h0
  · right
    refine ⟨h0, ?_⟩
    subst h0
    rw [Nat.pow_zero, Nat.mul_one] at h2
    have e1 : (F * 2 ^ 0) % 2 ^ 64 + S / 2 ^ (64 - 0) = F := by
      rw [Nat.pow_zero, Nat.mul_one, Nat.mod_eq_of_lt h2, Nat.sub_zero, Nat.div_eq_of_lt hS, Nat.add_zero]
    have e2 : (S * 2 ^ 0) % 2 ^ 64 + l * 2 ^ 63 / 2 ^ (64 - 0) = S := by
      rw [Nat.pow_zero, Nat.mul_one, Nat.mod_eq_of_lt hS, Nat.sub_zero, Nat.div_eq_of_lt hL, Nat.add_zero]
    rw [e1, e2]
    clear e1 e2
    rcases (show l = 0 ∨ l = 1 by omega) with e | e
    · subst e
      rw [if_neg (show ¬ ((0 : Nat) = 0 ∧ 0 * 2 ^ 63 ≠ 0) from fun q => q.2 (Nat.zero_mul _)), Nat.add_zero, Nat.mul_mod_right, Nat.or_zero, Nat.mul_div_cancel_left _ (show 0 < 2 by decide)]
    · subst e
      rw [if_pos (show (0 : Nat) = 0 ∧ 1 * 2 ^ 63 ≠ 0 from ⟨rfl, by decide⟩), show (2 * (F * 2 ^ 64 + S) + 1) % 2 = 1 by omega, show (2 * (F * 2 ^ 64 + S) + 1) / 2 = F * 2 ^ 64 + S by omega, or1_eq, or1_eq]
      omega
  · left
    rw [if_neg (show ¬ (z = 0 ∧ l * 2 ^ 63 ≠ 0) from fun q => absurd q.1 (Nat.ne_of_gt h0))]
    exact ⟨h0, mk_A h0 (Nat.le_of_lt hz) h2⟩
theorem sz_B {S l z : Nat} {wt : Int32} (hl : l < 2) (hz : z < 64) (h1 : 2 ^ 63 ≤ S * 2 ^ z) (h2 : S * 2 ^ z < 2 ^ 64) : sz_ok (2 * S + l) ((S * 2 ^ z) % 2 ^ 64 + l * 2 ^ 63 / 2 ^ (64 - z)) ((l * 2 ^ 63 * 2 ^ z) % 2 ^ 64 + 0 / 2 ^ (64 - z)) wt (wt - nI (64 + z)) := by
  have hL : l * 2 ^ 63 < 2 ^ 64 := by clear h1 h2; omega
  obtain ⟨r1, r2⟩ := mk_rngB hl hz h1 h2
  have hH1 : 2 ^ 63 ≤ (S * 2 ^ z) % 2 ^ 64 + l * 2 ^ 63 / 2 ^ (64 - z) := by
    rw [Nat.mod_eq_of_lt h2]; exact Nat.le_trans h1 (Nat.le_add_right _ _)
  exact Or.inr ⟨64 + z, by clear hH1 r1 r2 h1 h2; omega, r1, r2, sh_lt hL (Nat.le_of_lt hz), hH1, rfl, Or.inl ⟨by clear hH1 r1 r2 h1 h2; omega, mk_B hl hz h2⟩⟩
theorem sz_C {l : Nat} {wt : Int32} (hl : l < 2) : sz_ok (2 * 0 + l) ((0 * 2 ^ 64) % 2 ^ 64 + l * 2 ^ 63 / 2 ^ (64 - 64)) ((l * 2 ^ 63 * 2 ^ 64) % 2 ^ 64 + 0 / 2 ^ (64 - 64)) wt (wt - nI (64 + 64)) := by
  rcases (show l = 0 ∨ l = 1 by omega) with e | e
  · subst e; exact Or.inl ⟨rfl, by decide⟩
  · subst e; exact Or.inr ⟨128, by decide, by decide, by decide, by decide, by decide, rfl, Or.inl ⟨by decide, by decide⟩⟩
theorem k98 {u : XS} {a1 a2 wt : Int32} {a b c z : Nat} (ha : a < 2 ^ 64) (hb : b < 2 ^ 64) (hc : c < 2 ^ 64) (hz : z ≤ 64) (ez : f_JL_numberOfLeadingZeros (lN a) = nI z) : k_X0_make_98 u a1 a2 (lN a) (lN b) (lN c) wt = (0, f_X0_makeSize u.1 u.2.1 u.2.2.1 u.2.2.2.1 u.2.2.2.2.1 u.2.2.2.2.2 a1 a2 (wt - nI z) (lN ((a * 2 ^ z) % 2 ^ 64 + b / 2 ^ (64 - z))) (lN (if z = 0 ∧ c ≠ 0 then ((b * 2 ^ z) % 2 ^ 64 + c / 2 ^ (64 - z)) ||| 1 else ((b * 2 ^ z) % 2 ^ 64 + c / 2 ^ (64 - z))))) := by
  unfold k_X0_make_98 k_X0_make_145
  rw [ez, px_shiftIn ha hb hz, px_shiftIn hb hc hz]
  by_cases h0 : z = 0
  · have z0 : nI z = 0 := by rw [h0]; rfl
    by_cases h1 : c = 0
    · rw [if_neg (show ¬ (if nI z = 0 then (if (lg_cmp (lN c) 0) = 0 then false else true) else false) = true by rw [if_pos z0, if_pos ((px_l0 hc).mpr h1)]; exact Bool.false_ne_true), if_neg (show ¬ (z = 0 ∧ c ≠ 0) from fun q => q.2 h1)]
    · rw [if_pos (show (if nI z = 0 then (if (lg_cmp (lN c) 0) = 0 then false else true) else false) = true by rw [if_pos z0, if_neg (fun q => h1 ((px_l0 hc).mp q))]), if_pos (show z = 0 ∧ c ≠ 0 from ⟨h0, h1⟩), show lN ((b * 2 ^ z) % 2 ^ 64 + c / 2 ^ (64 - z)) ||| 1 = lN (((b * 2 ^ z) % 2 ^ 64 + c / 2 ^ (64 - z)) ||| 1) from wb_or (sh_lt hc hz) (by decide)]
  · have z0 : ¬ nI z = 0 := fun q => h0 ((nI_eq (b := 0) (by omega) (by decide)).mp q)
    rw [if_neg (show ¬ (if nI z = 0 then (if (lg_cmp (lN c) 0) = 0 then false else true) else false) = true by rw [if_neg z0]; exact Bool.false_ne_true), if_neg (show ¬ (z = 0 ∧ c ≠ 0) from fun q => h0 q.1)]
theorem k_sub (wt y : Int32) : (wt + (-64)) - y = wt - (64 + y) := by
  rw [Int32.sub_eq_add_neg, Int32.sub_eq_add_neg, Int32.neg_add, Int32.sub_eq_add_neg, Int32.add_assoc]
theorem mk_X {u : XS} {a1 a2 wt : Int32} {F S l : Nat} (hF : F < 2 ^ 64) (hS : S < 2 ^ 64) (hl : l < 2) : ∃ H T kk, T < 2 ^ 64 ∧ sz_ok (2 * (F * 2 ^ 64 + S) + l) H T wt kk ∧ (if (lg_cmp (lN F) 0) = 0 then k_X0_make_98 u a1 a2 (lN S) (lN (l * 2 ^ 63)) 0 (wt + (-64)) else k_X0_make_98 u a1 a2 (lN F) (lN S) (lN (l * 2 ^ 63)) wt) = (0, f_X0_makeSize u.1 u.2.1 u.2.2.1 u.2.2.2.1 u.2.2.2.2.1 u.2.2.2.2.2 a1 a2 kk (lN H) (lN T)) := by
  have hL : l * 2 ^ 63 < 2 ^ 64 := by omega
  by_cases c : F = 0
  · subst c
    rw [if_pos ((px_l0 hF).mpr rfl)]
    obtain ⟨z, hz, ez, hzz⟩ := px_nlz hS
    have e : k_X0_make_98 u a1 a2 (lN S) (lN (l * 2 ^ 63)) 0 (wt + (-64)) = _ := k98 (wt := wt + (-64)) (c := 0) hS hL (by decide) hz ez
    rw [e, if_neg (show ¬ (z = 0 ∧ (0 : Nat) ≠ 0) from fun q => q.2 rfl), k_sub, show (64 : Int32) + nI z = nI (64 + z) from nI_add 64 z, show 0 * 2 ^ 64 + S = S by rw [Nat.zero_mul, Nat.zero_add]]
    refine ⟨(S * 2 ^ z) % 2 ^ 64 + l * 2 ^ 63 / 2 ^ (64 - z), (l * 2 ^ 63 * 2 ^ z) % 2 ^ 64 + 0 / 2 ^ (64 - z), wt - nI (64 + z), sh_lt (by decide) hz, ?_, rfl⟩
    rcases hzz with ⟨h1, h2⟩ | ⟨hz9, h1, h2⟩
    · subst h1 h2; exact sz_C hl
    · exact sz_B hl hz9 h1 h2
  · rw [if_neg (fun q => c ((px_l0 hF).mp q))]
    obtain ⟨z, hz, ez, hzz⟩ := px_nlz hF
    rcases hzz with ⟨h, -⟩ | ⟨hz9, h1, h2⟩
    · exact absurd h c
    · rw [k98 (c := l * 2 ^ 63) hF hS hL hz ez]
      refine ⟨_, _, _, ?_, sz_A hS hl hz9 h1 h2, rfl⟩
      split
      · exact Nat.or_lt_two_pow (sh_lt hL hz) (by decide)
      · exact sh_lt hL hz
