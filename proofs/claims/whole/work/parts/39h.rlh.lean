/-! compare: the plain power and fraction against the doubling loops -/
theorem pl_lt {n z s : Nat} (hs : s ≤ z) (h : n * 2 ^ z < 2 ^ 64) : n * 2 ^ s < 2 ^ 64 :=
  Nat.lt_of_le_of_lt (Nat.mul_le_mul_left n (Nat.pow_le_pow_right (by decide) hs)) h
theorem pl_lt63 {n z s : Nat} (hs : s < z) (h : n * 2 ^ z < 2 ^ 64) : n * 2 ^ s < 2 ^ 63 := by
  have e1 : 2 ^ (s + 1) ≤ 2 ^ z := Nat.pow_le_pow_right (by decide) hs
  have e2 : n * 2 ^ (s + 1) ≤ n * 2 ^ z := Nat.mul_le_mul_left n e1
  rw [Nat.pow_succ, ← Nat.mul_assoc] at e2
  clear e1
  generalize n * 2 ^ s = y at *
  generalize n * 2 ^ z = x at *
  omega
theorem pl_pos {n z : Nat} (h : 2 ^ 63 ≤ n * 2 ^ z) (s : Nat) : 0 < n * 2 ^ s := by
  rcases Nat.eq_zero_or_pos n with e | e
  · rw [e, Nat.zero_mul] at h
    exact absurd h (by decide)
  · exact Nat.mul_pos e (Nat.two_pow_pos s)
theorem pl_shift {tp : Nat → Int32} {fr : Nat → Int64} {r : Int32} {n z P : Nat} (eP : (if (f_X0_powerOf tp r) < 1 then 1 else (f_X0_powerOf tp r)) = nI P) (hP1 : 1 ≤ P) (hP : P ≤ 32767) (en : fr r.toNatClampNeg = lN n) (ez : f_JL_numberOfLeadingZeros (lN n) = nI z) (hz : z ≤ 64) : f_X0_plainShift tp fr r = nI (if P - 1 < z then P - 1 else z) := by
  unfold f_X0_plainShift
  rw [eP, en, ez, show nI P - 1 = nI (P - 1) from px_subI (b := 1) hP1]
  by_cases c : P - 1 < z
  · rw [if_pos (show nI (P - 1) < nI z from nI_lt c (by omega)), if_pos c]
  · rw [if_neg (show ¬ nI (P - 1) < nI z from nI_nlt (by omega) (by omega)), if_neg c]
theorem pl_frac {tp : Nat → Int32} {fr : Nat → Int64} {r : Int32} {n s : Nat} (hp : ¬ f_X0_powerOf tp r = 32767) (hn : n < 2 ^ 64) (en : fr r.toNatClampNeg = lN n) (es : f_X0_plainShift tp fr r = nI s) (hs : s ≤ 64) (h : n * 2 ^ s < 2 ^ 64) : f_X0_plainFraction tp fr r = lN (n * 2 ^ s) := by
  unfold f_X0_plainFraction
  rw [if_neg hp, es, en, show f_X0_shiftIn (lN n) 0 (nI s) = lN ((n * 2 ^ s) % 2 ^ 64 + 0 / 2 ^ (64 - s)) from px_shiftIn hn (by decide) hs, Nat.zero_div, Nat.add_zero, Nat.mod_eq_of_lt h]
theorem pl_pow {tp : Nat → Int32} {fr : Nat → Int64} {r : Int32} {g s P : Nat} (hp : ¬ f_X0_powerOf tp r = 32767) (hg : g < 2 ^ 64) (ef : f_X0_plainFraction tp fr r = lN g) (es : f_X0_plainShift tp fr r = nI s) (eP : (if (f_X0_powerOf tp r) < 1 then 1 else (f_X0_powerOf tp r)) = nI P) (hs : s ≤ P) : f_X0_plainPower tp fr r = nI (if g < 2 ^ 63 then 0 else P - s) := by
  unfold f_X0_plainPower
  rw [if_neg hp, ef, es, eP, px_subI hs]
  by_cases c : g < 2 ^ 63
  · rw [if_pos ((px_lge hg).mpr c), if_pos c]; rfl
  · rw [if_neg (fun q => c ((px_lge hg).mp q)), if_neg c]
theorem pl_not {tp : Nat → Int32} {fr : Nat → Int64} {r : Int32} {n : Nat} (h : m_tok tp) (hr : vp_in r 8) (hn : n < 2 ^ 64) (en : fr r.toNatClampNeg = lN n) (hk : 3 ≤ f_X0_kindOf tp fr r → ¬ 0 ≤ lg_cmp (fr r.toNatClampNeg) 0) : f_X1_isNothing tp fr r = if n = 0 then 1 else 0 := by
  unfold f_X1_isNothing
  rw [e_kind h hr]
  by_cases c : n = 0
  · rw [if_pos c, if_neg (fun q => hk q (by rw [en, c]; exact (px_lge (by decide)).mpr (by decide))), en, if_pos ((px_l0 hn).mpr c)]
  · rw [if_neg c]
    by_cases q : 3 ≤ f_X0_kindOf tp fr r
    · rw [if_pos q]
    · rw [if_neg q, en, if_neg (fun y => c ((px_l0 hn).mp y))]
def plC (tp : Nat → Int32) (fr : Nat → Int64) (r : Int32) (pp g n z P : Nat) : Prop := fr r.toNatClampNeg = lN n ∧ f_X1_powerOf tp r = nI P ∧ 1 ≤ P ∧ P ≤ 32766 ∧ z < 64 ∧ 2 ^ 63 ≤ n * 2 ^ z ∧ n * 2 ^ z < 2 ^ 64 ∧ ((z < P ∧ pp = P - z ∧ g = n * 2 ^ z) ∨ (P ≤ z ∧ pp = 0 ∧ g = n * 2 ^ (P - 1) ∧ g < 2 ^ 63))
theorem plain {tp : Nat → Int32} {fr : Nat → Int64} {r : Int32} (h : m_tok tp) (hr : vp_in r 8) (h5 : ¬ f_X0_kindOf tp fr r = 5) : ∃ pp g : Nat, g < 2 ^ 64 ∧ f_X0_plainPower tp fr r = nI pp ∧ f_X0_plainFraction tp fr r = lN g ∧
    ((f_X0_kindOf tp fr r = 4 ∧ f_X1_isNothing tp fr r = 0 ∧ f_X1_powerOf tp r = nI 32767 ∧ pp = 32767 ∧ g = 2 ^ 63) ∨ (¬ f_X0_kindOf tp fr r = 4 ∧ f_X1_isNothing tp fr r = 1 ∧ lg_cmp (fr r.toNatClampNeg) 0 = 0 ∧ pp = 0 ∧ g = 0) ∨ (¬ f_X0_kindOf tp fr r = 4 ∧ f_X1_isNothing tp fr r = 0 ∧ ¬ lg_cmp (fr r.toNatClampNeg) 0 = 0 ∧ pp ≤ 32766 ∧ 0 < g ∧ ∃ n z P, plC tp fr r pp g n z P)) := by
  obtain ⟨P, hP1, hP2, eP1, eP2, hP3⟩ := pw_of h hr
  rcases k_cases tp fr r with ⟨hp, hk⟩ | ⟨hp, -, hk2, hk3, hk4⟩
  · have hk4 : f_X0_kindOf tp fr r = 4 := hk.resolve_right h5
    have hP9 : f_X1_powerOf tp r = nI 32767 := by
      rw [eP2, ← eP1, hp]; decide
    refine ⟨32767, 2 ^ 63, by decide, ?_, ?_, Or.inl ⟨hk4, ?_, hP9, rfl, rfl⟩⟩
    · unfold f_X0_plainPower; rw [if_pos hp]; rfl
    · unfold f_X0_plainFraction; rw [if_pos hp]; rfl
    · unfold f_X1_isNothing; rw [e_kind h hr, hk4, if_pos (show (3 : Int32) ≤ 4 by decide)]
  · have hP4 := hP3 hp
    obtain ⟨n, hn, en⟩ := wb_of (fr r.toNatClampNeg)
    obtain ⟨z, hz, ez, hzz⟩ := px_nlz hn
    have es := pl_shift eP1 hP1 hP2 en ez hz
    have eN := pl_not h hr hn en hk4
    have hs64 : (if P - 1 < z then P - 1 else z) ≤ 64 := by split <;> omega
    have hsP : (if P - 1 < z then P - 1 else z) ≤ P := by split <;> omega
    by_cases n0 : n = 0
    · rw [if_pos n0] at eN
      have ef := pl_frac hp hn en es hs64 (by rw [n0, Nat.zero_mul]; decide)
      rw [n0, Nat.zero_mul] at ef
      have ep := pl_pow hp (by decide) ef es eP1 hsP
      rw [if_pos (show 0 < 2 ^ 63 by decide)] at ep
      exact ⟨0, 0, by decide, ep, ef, Or.inr (Or.inl ⟨hk2, eN, by rw [en]; exact (px_l0 hn).mpr n0, rfl, rfl⟩)⟩
    · rw [if_neg n0] at eN
      have hl0 : ¬ lg_cmp (fr r.toNatClampNeg) 0 = 0 := by rw [en]; exact fun q => n0 ((px_l0 hn).mp q)
      rcases hzz with ⟨q, -⟩ | ⟨hz9, h1, h2⟩
      · exact absurd q n0
      · by_cases c : z < P
        · rw [if_neg (show ¬ P - 1 < z by clear h1 h2; omega)] at es
          have ef := pl_frac hp hn en es hz h2
          have ep := pl_pow hp h2 ef es eP1 (Nat.le_of_lt c)
          rw [if_neg (Nat.not_lt.mpr h1)] at ep
          exact ⟨P - z, n * 2 ^ z, h2, ep, ef, Or.inr (Or.inr ⟨hk2, eN, hl0, by clear h1 h2 ef ep; omega, pl_pos h1 z, n, z, P, en, eP2, hP1, hP4, hz9, h1, h2, Or.inl ⟨c, rfl, rfl⟩⟩)⟩
        · have c9 : P - 1 < z := by clear h1 h2; omega
          rw [if_pos c9] at es
          have hg := pl_lt63 c9 h2
          have ef := pl_frac hp hn en es (Nat.le_trans (Nat.le_of_lt c9) hz) (Nat.lt_trans hg (by decide))
          have ep := pl_pow hp (Nat.lt_trans hg (by decide)) ef es eP1 (Nat.sub_le P 1)
          rw [if_pos hg] at ep
          exact ⟨0, n * 2 ^ (P - 1), Nat.lt_trans hg (by decide), ep, ef, Or.inr (Or.inr ⟨hk2, eN, hl0, by decide, pl_pos h1 (P - 1), n, z, P, en, eP2, hP1, hP4, hz9, h1, h2, Or.inr ⟨Nat.le_of_not_lt c, rfl, rfl, hg⟩⟩)⟩
def cmpN (a b : Nat) : Int32 := if a = b then 0 else if b ≤ a then 1 else (-1)
theorem cu_ti {a : Nat} (ha : a < 2 ^ 64) : (lN a + (-9223372036854775808)).toInt = (a : Int) - 2 ^ 63 := by
  rw [show (-9223372036854775808 : Int64) = lN (2 ^ 63) from rfl, lN_add, wb_mod, px_ti (Nat.mod_lt _ (by decide))]
  split <;> omega
theorem cu {a b : Nat} (ha : a < 2 ^ 64) (hb : b < 2 ^ 64) : f_JI_signum (f_JL_compareUnsigned (lN a) (lN b)) = cmpN a b := by
  unfold f_JL_compareUnsigned f_JL_compare cmpN
  have t1 : 0 ≤ lg_cmp (lN a + (-9223372036854775808)) (lN b + (-9223372036854775808)) ↔ b ≤ a := by
    rw [lg_cmp_ge, Int64.le_iff_toInt_le, cu_ti ha, cu_ti hb]; omega
  have t2 : lg_cmp (lN a + (-9223372036854775808)) (lN b + (-9223372036854775808)) = 0 ↔ a = b := by
    rw [lg_cmp_eq, ← Int64.toInt_inj, cu_ti ha, cu_ti hb]; omega
  by_cases c1 : a = b
  · rw [if_pos (t1.mpr (by omega)), if_pos (t2.mpr c1), if_pos c1]; decide
  · by_cases c2 : b ≤ a
    · rw [if_pos (t1.mpr c2), if_neg (fun q => c1 (t2.mp q)), if_neg c1, if_pos c2]; decide
    · rw [if_neg (fun q => c2 (t1.mp q)), if_neg c1, if_neg c2]; decide
theorem cs_ref {a b : Nat} (ha : a < 2 ^ 64) (hb : b < 2 ^ 64) (ha1 : 2 ^ 63 ≤ a) (hb1 : 2 ^ 63 ≤ b) : (if lg_cmp (lN a) (lN b) = 0 then 0 else (if 0 ≤ lg_cmp (lN a) (lN b) then 1 else (-1)) : Int32) = cmpN a b := by
  unfold cmpN
  have t1 : 0 ≤ lg_cmp (lN a) (lN b) ↔ b ≤ a := by
    rw [lg_cmp_ge, Int64.le_iff_toInt_le, px_ti ha, px_ti hb, if_neg (Nat.not_lt.mpr ha1), if_neg (Nat.not_lt.mpr hb1)]; omega
  have t2 : lg_cmp (lN a) (lN b) = 0 ↔ a = b := by
    rw [lg_cmp_eq, ← Int64.toInt_inj, px_ti ha, px_ti hb, if_neg (Nat.not_lt.mpr ha1), if_neg (Nat.not_lt.mpr hb1)]; omega
  by_cases c1 : a = b
  · rw [if_pos (t2.mpr c1), if_pos c1]
  · rw [if_neg (fun q => c1 (t2.mp q)), if_neg c1]
    by_cases c2 : b ≤ a
    · rw [if_pos (t1.mpr c2), if_pos c2]
    · rw [if_neg (fun q => c2 (t1.mp q)), if_neg c2]
theorem pl_sub1 (x : Int32) (j : Nat) : (x - nI j) + (-1) = x - nI (j + 1) := by
  rw [← nI_1, Int32.sub_eq_add_neg x (nI j + 1), Int32.neg_add, Int32.sub_eq_add_neg (-(nI j)), Int32.sub_eq_add_neg x (nI j), Int32.add_assoc]
theorem pl_dbl (n j : Nat) : 2 * (n * 2 ^ j) = n * 2 ^ (j + 1) := by
  rw [Nat.pow_succ, ← Nat.mul_assoc n, Nat.mul_comm 2]
theorem lp121 {n z : Nat} (h1 : 2 ^ 63 ≤ n * 2 ^ z) (h2 : n * 2 ^ z < 2 ^ 64) : ∀ (k j : Nat) (x : Int32), j ≤ z → z < j + k → lp_X1_compareSizes_121 k (lN (n * 2 ^ j), x - nI j) = (lN (n * 2 ^ z), x - nI z) := by
  intro k
  induction k with
  | zero => intro j x h3 h4; exact absurd h4 (Nat.not_lt.mpr h3)
  | succ k ih =>
    intro j x h3 h4
    show (if (b_X1_compareSizes_121 (lN (n * 2 ^ j)) (x - nI j)).1 = true then lp_X1_compareSizes_121 k (b_X1_compareSizes_121 (lN (n * 2 ^ j)) (x - nI j)).2 else (b_X1_compareSizes_121 (lN (n * 2 ^ j)) (x - nI j)).2) = _
    rcases Nat.lt_or_ge j z with c | c
    · have hlt := pl_lt63 c h2
      have hpos := pl_pos h1 j
      have e : b_X1_compareSizes_121 (lN (n * 2 ^ j)) (x - nI j) = (true, lN (n * 2 ^ (j + 1)), x - nI (j + 1)) := by
        unfold b_X1_compareSizes_121
        rw [if_neg (fun q => by
          rcases (m_le0 (Nat.lt_trans hlt (by decide))).mp q with e | e
          · exact absurd e (Nat.ne_of_gt hpos)
          · exact absurd hlt (Nat.not_lt.mpr e)), m_dbl, pl_dbl, pl_sub1]
      rw [e, if_pos rfl]
      exact ih (j + 1) x c (by clear hlt hpos e h1 h2; omega)
    · have ej : j = z := Nat.le_antisymm h3 c
      subst ej
      have e : b_X1_compareSizes_121 (lN (n * 2 ^ j)) (x - nI j) = (false, lN (n * 2 ^ j), x - nI j) := by
        unfold b_X1_compareSizes_121
        rw [if_pos ((m_le0 h2).mpr (Or.inr h1))]
      rw [e, if_neg (show ¬ (false, lN (n * 2 ^ j), x - nI j).1 = true from Bool.false_ne_true)]
theorem lp139_eq : ∀ (k : Nat) (S : Int64 × Int32), lp_X1_compareSizes_139 k S = lp_X1_compareSizes_121 k S := by
  intro k
  induction k with
  | zero => intro S; rfl
  | succ k ih =>
    intro S
    show (if (b_X1_compareSizes_139 S.1 S.2).1 = true then lp_X1_compareSizes_139 k (b_X1_compareSizes_139 S.1 S.2).2 else (b_X1_compareSizes_139 S.1 S.2).2) = (if (b_X1_compareSizes_121 S.1 S.2).1 = true then lp_X1_compareSizes_121 k (b_X1_compareSizes_121 S.1 S.2).2 else (b_X1_compareSizes_121 S.1 S.2).2)
    rw [ih]
    rfl
theorem lp_full {tp : Nat → Int32} {fr : Nat → Int64} {r : Int32} {pp g n z P : Nat} (C : plC tp fr r pp g n z P) : lp_X1_compareSizes_121 65 ((fr r.toNatClampNeg), (f_X1_powerOf tp r)) = (lN (n * 2 ^ z), nI P - nI z) := by
  obtain ⟨en, eP, -, -, hz, h1, h2, -⟩ := C
  rw [en, eP]
  have q := lp121 h1 h2 65 0 (nI P) (Nat.zero_le _) (by clear h1 h2; omega)
  rw [Nat.pow_zero, Nat.mul_one, show nI P - nI 0 = nI P from px_subI (b := 0) (Nat.zero_le _)] at q
  exact q
theorem dd_lt {g1 g2 d1 d2 : Nat} (h1 : 2 ^ 63 ≤ g1 * 2 ^ d1) (h2 : g2 * 2 ^ d2 < 2 ^ 64) (hd : d1 < d2) : g2 < g1 := by
  have h3 := pl_lt63 hd h2
  exact Nat.lt_of_mul_lt_mul_right (Nat.lt_of_lt_of_le h3 h1)
theorem cmpN_mul {a b d : Nat} : cmpN (a * 2 ^ d) (b * 2 ^ d) = cmpN a b := by
  unfold cmpN
  by_cases c : a = b
  · rw [if_pos (show a * 2 ^ d = b * 2 ^ d by rw [c]), if_pos c]
  · rw [if_neg (fun q => c (Nat.eq_of_mul_eq_mul_right (Nat.two_pow_pos d) q)), if_neg c]
    by_cases c2 : b ≤ a
    · rw [if_pos (Nat.mul_le_mul_right _ c2), if_pos c2]
    · rw [if_neg (fun q => c2 (Nat.le_of_mul_le_mul_right q (Nat.two_pow_pos d))), if_neg c2]
theorem cmpN_gt {a b : Nat} (h : b < a) : cmpN a b = 1 := by
  unfold cmpN; rw [if_neg (Nat.ne_of_gt h), if_pos (Nat.le_of_lt h)]
theorem cmpN_lt {a b : Nat} (h : a < b) : cmpN a b = -1 := by
  unfold cmpN; rw [if_neg (Nat.ne_of_lt h), if_neg (Nat.not_le.mpr h)]
theorem cmpN_eq (a : Nat) : cmpN a a = 0 := by
  unfold cmpN; rw [if_pos rfl]
