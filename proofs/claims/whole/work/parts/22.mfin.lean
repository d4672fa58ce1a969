/-! the reference's loops come to an end -/
def m_rok (fi wt q : Int32) : Prop := 0 ≤ fi.toInt ∧ fi.toInt ≤ 129 ∧ -100000 ≤ wt.toInt ∧ wt.toInt ≤ 100000 ∧ -100000 ≤ q.toInt ∧ q.toInt ≤ 100000 ∧ wt.toInt - q.toInt ≤ 300
def m_wok (wt : Int32) : Prop := -50000 ≤ wt.toInt ∧ wt.toInt ≤ 50000
def m_fok (fi : Int32) : Prop := 0 ≤ fi.toInt ∧ fi.toInt < 129
def m_nok (n : Int32) : Prop := n = 24 ∨ n = 53 ∨ n = 64
def m_tok (tp : Nat → Int32) : Prop := ∀ j, j < 8 → 0 ≤ (tp j).toInt ∧ (tp j).toInt < 65536
def m_nz (tp : Nat → Int32) (fr : Nat → Int64) (x1 : Int32) (x6 : Int64) : Prop := ¬ f_X1_kind tp fr x1 = 4 → ¬ x6 = 0
theorem m_nz_a {tp : Nat → Int32} {fr : Nat → Int64} {x1 : Int32} {x6 : Int64} (h : m_nz tp fr x1 x6) (c : ¬ f_X1_kind tp fr x1 = 4) : ¬ x6 = 0 := h c
theorem m_nz_ok {tp : Nat → Int32} {fr : Nat → Int64} {x1 : Int32} (h : f_X1_isNothing tp fr x1 = 0) : m_nz tp fr x1 (fr x1.toNatClampNeg) := by
  intro c h0
  unfold f_X1_isNothing at h
  have hz : lg_cmp (fr x1.toNatClampNeg) 0 = 0 := by rw [h0]; rfl
  have hk : f_X1_kind tp fr x1 = 4 ∨ f_X1_kind tp fr x1 = 0 ∨ f_X1_kind tp fr x1 = 2 := by
    unfold f_X1_kind
    rw [hz]
    split
    · left; rfl
    · split
      · right; left; rfl
      · right; right; rfl
  rcases hk with hk | hk | hk
  · exact c hk
  · rw [hk, hz] at h; exact absurd h (by decide)
  · rw [hk, hz] at h; exact absurd h (by decide)
theorem m_le0 {n : Nat} (hn : n < 2 ^ 64) : lg_cmp (lN n) 0 ≤ 0 ↔ (n = 0 ∨ 2 ^ 63 ≤ n) := by
  rw [lg_cmp_le, Int64.le_iff_toInt_le, px_ti hn]
  have : (0 : Int64).toInt = 0 := rfl
  rw [this]
  split <;> omega
theorem m_lt0 {n : Nat} (hn : n < 2 ^ 64) : lg_cmp (lN n) 0 < 0 ↔ 2 ^ 63 ≤ n := by
  rw [lg_cmp_lt, Int64.lt_iff_toInt_lt, px_ti hn]
  have : (0 : Int64).toInt = 0 := rfl
  rw [this]
  split <;> omega
theorem m_dbl (n : Nat) : 2 * lN n = lN (2 * n) := lN_mul 2 n
theorem fin_part91' {fr : Nat → Int64} {x1 : Int32} (h : vp_in x1 8) : ∀ (k n : Nat), n ≤ 64 → 65 ≤ n + k → fin_X1_part_91 fr x1 k (nI n) := by
  intro k
  induction k with
  | zero => intro n h1 h2; omega
  | succ k ih =>
    intro n h1 h2
    refine ⟨h, ?_⟩
    unfold b_X1_part_91
    by_cases c : 64 ≤ n
    · left; rw [if_pos (show (64 : Int32) ≤ nI n from nI_le (a := 64) c (by omega))]
    · rw [if_neg (show ¬ (64 : Int32) ≤ nI n from nI_ge (b := 64) (by omega) (by decide))]
      split
      · right; show fin_X1_part_91 fr x1 k (nI n + 1); rw [nI_1]; exact ih (n + 1) (by omega) (by omega)
      · left; rfl
theorem fin_part91 {fr : Nat → Int64} {x1 : Int32} (h : vp_in x1 8) : fin_X1_part_91 fr x1 65 0 := fin_part91' h 65 0 (by omega) (by omega)
theorem m_bnd {n N : Nat} (hN : N < 2 ^ 31) : ¬ (nI N ≤ nI n) → n ≤ N → vp_in (nI n) N := fun h1 h2 => by
  rcases Nat.lt_or_ge n N with q | q
  · exact vp_in_nI q hN
  · exact absurd (nI_le q (by omega)) h1
theorem fin_round26' {bi : Nat → Int32} {wt q : Int32} : ∀ (k n : Nat) (x3 x4 : Int32) (wh : Int64), n ≤ 129 → 130 ≤ n + k → fin_X1_round_26 bi wt q k (x3, x4, nI n, wh) := by
  intro k
  induction k with
  | zero => intro n x3 x4 wh h1 h2; omega
  | succ k ih =>
    intro n x3 x4 wh h1 h2
    refine ⟨fun h => m_bnd (N := 129) (by decide) h h1, ?_⟩
    by_cases c : 129 ≤ n
    · left; show (b_X1_round_26 bi wt q x3 x4 (nI n) wh).1 = false; unfold b_X1_round_26; rw [if_pos (show (129 : Int32) ≤ nI n from nI_le (a := 129) c (by omega))]
    · right
      show fin_X1_round_26 bi wt q k (b_X1_round_26 bi wt q x3 x4 (nI n) wh).2
      unfold b_X1_round_26
      rw [if_neg (show ¬ (129 : Int32) ≤ nI n from nI_ge (b := 129) (by omega) (by decide)), nI_1]
      (repeat' split) <;> exact ih (n + 1) _ _ _ (by omega) (by omega)
theorem m_toI {x : Int32} {N : Nat} (h0 : 0 ≤ x.toInt) (h1 : x.toInt ≤ N) (hN : N < 2 ^ 31) : ∃ n, n ≤ N ∧ x = nI n := by
  refine ⟨x.toInt.toNat, by omega, Int32.toInt_inj.mp ?_⟩
  rw [nI_toInt (by omega)]; omega
theorem fin_round26 {bi : Nat → Int32} {fi wt q : Int32} (hq : m_rok fi wt q) : fin_X1_round_26 bi wt q 130 (0, 0, fi, 0) := by
  obtain ⟨n, hn, rfl⟩ := m_toI (N := 129) hq.1 hq.2.1 (by decide)
  exact fin_round26' 130 n 0 0 0 hn (by omega)
theorem m_dec {x : Int32} (h : -1000000 ≤ x.toInt) : (x + (-1)).toInt = x.toInt - 1 := by
  have h1 := x.toInt_lt
  rw [Int32.toInt_add]
  have : (-1 : Int32).toInt = -1 := rfl
  rw [this]
  exact Int.bmod_eq_of_le (by omega) (by omega)
theorem fin_round142' {q : Int32} : ∀ (k : Nat) (x : Int32) (wh : Int64), -1000000 ≤ x.toInt → x.toInt - q.toInt + 1 < k → 0 < k → -100000 ≤ q.toInt → fin_X1_round_142 q k (x, wh) := by
  intro k
  induction k with
  | zero => intro x wh h1 h2 h3; omega
  | succ k ih =>
    intro x wh h1 h2 h3 h4
    refine ⟨trivial, ?_⟩
    show (b_X1_round_142 q x wh).1 = false ∨ fin_X1_round_142 q k (b_X1_round_142 q x wh).2
    unfold b_X1_round_142
    by_cases c : x < q
    · left; rw [if_pos c]
    · right; rw [if_neg c]
      rw [Int32.lt_iff_toInt_lt] at c
      exact ih _ _ (by rw [m_dec h1]; omega) (by rw [m_dec h1]; omega) (by omega) h4
theorem fin_round142 {fi wt q : Int32} {wh : Int64} (hq : m_rok fi wt q) : fin_X1_round_142 q 310 ((wt - 129), wh) := by
  obtain ⟨a, b, c, d, e, f, g⟩ := hq
  have h1 : (wt - 129).toInt = wt.toInt - 129 := by
    rw [Int32.toInt_sub]
    have : (129 : Int32).toInt = 129 := rfl
    rw [this]
    exact Int.bmod_eq_of_le (by omega) (by omega)
  exact fin_round142' 310 _ _ (by rw [h1]; omega) (by rw [h1]; omega) (by omega) e
theorem fin_make20' {bi : Nat → Int32} : ∀ (k n : Nat), n ≤ 129 → 130 ≤ n + k → fin_X1_make0_20 bi k (nI n) := by
  intro k
  induction k with
  | zero => intro n h1 h2; omega
  | succ k ih =>
    intro n h1 h2
    refine ⟨fun h => m_bnd (N := 129) (by decide) h h1, ?_⟩
    unfold b_X1_make0_20
    by_cases c : 129 ≤ n
    · left; rw [if_pos (show (129 : Int32) ≤ nI n from nI_le (a := 129) c (by omega))]
    · rw [if_neg (show ¬ (129 : Int32) ≤ nI n from nI_ge (b := 129) (by omega) (by decide))]
      split
      · right; show fin_X1_make0_20 bi k (nI n + 1); rw [nI_1]; exact ih (n + 1) (by omega) (by omega)
      · left; rfl
theorem fin_make20 (bi : Nat → Int32) : fin_X1_make0_20 bi 130 0 := fin_make20' 130 0 (by omega) (by omega)
theorem lp_make20' {bi : Nat → Int32} : ∀ (k n : Nat), n ≤ 129 → ∃ j, n ≤ j ∧ j ≤ 129 ∧ lp_X1_make0_20 bi k (nI n) = nI j := by
  intro k
  induction k with
  | zero => intro n h1; exact ⟨n, by omega, h1, rfl⟩
  | succ k ih =>
    intro n h1
    show ∃ j, n ≤ j ∧ j ≤ 129 ∧ (if (b_X1_make0_20 bi (nI n)).1 = true then lp_X1_make0_20 bi k (b_X1_make0_20 bi (nI n)).2 else (b_X1_make0_20 bi (nI n)).2) = nI j
    unfold b_X1_make0_20
    by_cases c : 129 ≤ n
    · rw [if_pos (show (129 : Int32) ≤ nI n from nI_le (a := 129) c (by omega))]; exact ⟨n, by omega, h1, rfl⟩
    · rw [if_neg (show ¬ (129 : Int32) ≤ nI n from nI_ge (b := 129) (by omega) (by decide))]
      by_cases c2 : bi (nI n).toNatClampNeg = 0
      · rw [if_pos c2, nI_1]
        obtain ⟨j, a, b, e⟩ := ih (n + 1) (by omega)
        exact ⟨j, by omega, b, e⟩
      · rw [if_neg c2]; exact ⟨n, by omega, h1, rfl⟩
theorem m_first_lt {bi : Nat → Int32} (h : ¬ lp_X1_make0_20 bi 130 0 = 129) : m_fok (lp_X1_make0_20 bi 130 0) := by
  obtain ⟨j, a, b, e⟩ := lp_make20' (bi := bi) 130 0 (by omega)
  have e : lp_X1_make0_20 bi 130 0 = nI j := e
  rw [e] at h ⊢
  have hj : j ≠ 129 := fun q => h (by rw [q]; rfl)
  unfold m_fok
  rw [nI_toInt (by omega)]
  omega
theorem m_nok_ok (y : Int32) : m_nok (if y = 0 then 24 else (if y = 2 then 53 else 64)) := by
  unfold m_nok
  split
  · left; rfl
  · split
    · right; left; rfl
    · right; right; rfl
theorem m_nok_n {x : Int32} (h : m_nok x) : ∃ n, n ≤ 64 ∧ x = nI n := by
  rcases h with rfl | rfl | rfl
  · exact ⟨24, by omega, rfl⟩
  · exact ⟨53, by omega, rfl⟩
  · exact ⟨64, by omega, rfl⟩
theorem fin_make170' : ∀ (k n : Nat) (x : Int64), n ≤ 64 → 65 ≤ n + k → fin_X1_make0_170 k (x, nI n) := by
  intro k
  induction k with
  | zero => intro n x h1 h2; omega
  | succ k ih =>
    intro n x h1 h2
    refine ⟨trivial, ?_⟩
    show (b_X1_make0_170 x (nI n)).1 = false ∨ fin_X1_make0_170 k (b_X1_make0_170 x (nI n)).2
    unfold b_X1_make0_170
    by_cases c : 64 ≤ n
    · left; rw [if_pos (show (64 : Int32) ≤ nI n from nI_le (a := 64) c (by omega))]
    · right; rw [if_neg (show ¬ (64 : Int32) ≤ nI n from nI_ge (b := 64) (by omega) (by decide)), nI_1]; exact ih (n + 1) _ (by omega) (by omega)
theorem fin_make170 {x : Int64} {n : Int32} (hn : m_nok n) : fin_X1_make0_170 65 (x, n) := by
  obtain ⟨j, hj, rfl⟩ := m_nok_n hn
  exact fin_make170' 65 j x hj (by omega)
theorem fin_make301' {y : Int32} : ∀ (k n : Nat) (x : Int64), n ≤ 64 → 65 ≤ n + k → fin_X1_make0_301 y k (x, nI n) := by
  intro k
  induction k with
  | zero => intro n x h1 h2; omega
  | succ k ih =>
    intro n x h1 h2
    refine ⟨trivial, ?_⟩
    show (b_X1_make0_301 y x (nI n)).1 = false ∨ fin_X1_make0_301 y k (b_X1_make0_301 y x (nI n)).2
    unfold b_X1_make0_301
    by_cases c : 64 ≤ n
    · left; rw [if_pos (show (64 : Int32) ≤ nI n from nI_le (a := 64) c (by omega))]
    · rw [if_neg (show ¬ (64 : Int32) ≤ nI n from nI_ge (b := 64) (by omega) (by decide)), nI_1]
      split
      · right; exact ih (n + 1) _ (by omega) (by omega)
      · left; rfl
theorem fin_make301 {y : Int32} {x : Int64} {n : Int32} (hn : m_nok n) : fin_X1_make0_301 y 65 (x, n) := by
  obtain ⟨j, hj, rfl⟩ := m_nok_n hn
  exact fin_make301' 65 j x hj (by omega)
theorem fin_make507' {y : Int32} : ∀ (k n : Nat) (x : Int64), n ≤ 64 → 65 ≤ n + k → fin_X1_make0_507 y k (x, nI n) := by
  intro k
  induction k with
  | zero => intro n x h1 h2; omega
  | succ k ih =>
    intro n x h1 h2
    refine ⟨trivial, ?_⟩
    show (b_X1_make0_507 y x (nI n)).1 = false ∨ fin_X1_make0_507 y k (b_X1_make0_507 y x (nI n)).2
    unfold b_X1_make0_507
    by_cases c : 64 ≤ n
    · left; rw [if_pos (show (64 : Int32) ≤ nI n from nI_le (a := 64) c (by omega))]
    · right; rw [if_neg (show ¬ (64 : Int32) ≤ nI n from nI_ge (b := 64) (by omega) (by decide)), nI_1]; exact ih (n + 1) _ (by omega) (by omega)
theorem fin_make507 (y : Int32) : fin_X1_make0_507 y 65 (0, 0) := fin_make507' 65 0 0 (by omega) (by omega)
theorem fin_make44' {x4 x5 x6 x7 : Int32} : ∀ (k n : Nat) (bi : Nat → Int32), n ≤ 128 → 129 ≤ n + k → fin_X1_make_44 x4 x5 x6 x7 k (nI n, bi) := by
  intro k
  induction k with
  | zero => intro n bi h1 h2; omega
  | succ k ih =>
    intro n bi h1 h2
    refine ⟨fun _ => vp_in_nI (by omega) (by decide), ?_⟩
    show (b_X1_make_44 x4 x5 x6 x7 (nI n) bi).1 = false ∨ fin_X1_make_44 x4 x5 x6 x7 k (b_X1_make_44 x4 x5 x6 x7 (nI n) bi).2
    unfold b_X1_make_44
    by_cases c : 128 ≤ n
    · left; rw [if_pos (show (128 : Int32) ≤ nI n from nI_le (a := 128) c (by omega))]
    · right; rw [if_neg (show ¬ (128 : Int32) ≤ nI n from nI_ge (b := 128) (by omega) (by decide)), nI_1]; exact ih (n + 1) _ (by omega) (by omega)
theorem fin_make44 (x4 x5 x6 x7 : Int32) (bi : Nat → Int32) : fin_X1_make_44 x4 x5 x6 x7 129 (0, bi) := fin_make44' 129 0 bi (by omega) (by omega)
theorem fin_again84' {fr : Nat → Int64} {x1 : Int32} (h : vp_in x1 8) : ∀ (k n : Nat) (bi : Nat → Int32), n ≤ 129 → 130 ≤ n + k → fin_X1_again_84 fr x1 k (nI n, bi) := by
  intro k
  induction k with
  | zero => intro n bi h1 h2; omega
  | succ k ih =>
    intro n bi h1 h2
    refine ⟨⟨h, fun q => m_bnd (N := 129) (by decide) q h1⟩, ?_⟩
    show (b_X1_again_84 fr x1 (nI n) bi).1 = false ∨ fin_X1_again_84 fr x1 k (b_X1_again_84 fr x1 (nI n) bi).2
    unfold b_X1_again_84
    by_cases c : 129 ≤ n
    · left; rw [if_pos (show (129 : Int32) ≤ nI n from nI_le (a := 129) c (by omega))]
    · right; rw [if_neg (show ¬ (129 : Int32) ≤ nI n from nI_ge (b := 129) (by omega) (by decide)), nI_1]; exact ih (n + 1) _ (by omega) (by omega)
theorem fin_again84 {fr : Nat → Int64} {x1 : Int32} {bi : Nat → Int32} (h : vp_in x1 8) : fin_X1_again_84 fr x1 130 (0, bi) := fin_again84' h 130 0 bi (by omega) (by omega)
theorem fin_cmp121' : ∀ (k n : Nat) (p : Int32), 0 < k → n < 2 ^ 64 → (n = 0 ∨ 2 ^ 63 ≤ n * 2 ^ (k - 1)) → fin_X1_compareSizes_121 k (lN n, p) := by
  intro k
  induction k with
  | zero => intro n p h0; omega
  | succ k ih =>
    intro n p h0 hn h
    refine ⟨trivial, ?_⟩
    show (b_X1_compareSizes_121 (lN n) p).1 = false ∨ fin_X1_compareSizes_121 k (b_X1_compareSizes_121 (lN n) p).2
    unfold b_X1_compareSizes_121
    by_cases c : n = 0 ∨ 2 ^ 63 ≤ n
    · left; rw [if_pos ((m_le0 hn).mpr c)]
    · right; rw [if_neg (fun q => c ((m_le0 hn).mp q)), m_dbl]
      have h5 : 2 ^ 63 ≤ n * 2 ^ k := by
        rcases h with q | q
        · exact absurd (Or.inl q) c
        · exact q
      have hk : 0 < k := by
        rcases Nat.eq_zero_or_pos k with q | q
        · subst q; omega
        · exact q
      refine ih (2 * n) _ hk (by omega) (Or.inr ?_)
      have e : 2 ^ k = 2 * 2 ^ (k - 1) := by rw [← Nat.pow_succ']; congr 1; omega
      rw [e, ← Nat.mul_assoc, Nat.mul_comm n 2] at h5
      exact h5
theorem fin_cmp121 (x : Int64) (p : Int32) : fin_X1_compareSizes_121 65 (x, p) := by
  obtain ⟨n, hn, rfl⟩ := wb_of x
  refine fin_cmp121' 65 n p (by omega) hn ?_
  rcases Nat.eq_zero_or_pos n with q | q
  · exact Or.inl q
  · exact Or.inr (Nat.le_trans (show 2 ^ 63 ≤ 1 * 2 ^ 64 by decide) (Nat.mul_le_mul_right _ q))
theorem fin_cmp139' : ∀ (k n : Nat) (p : Int32), 0 < k → n < 2 ^ 64 → (n = 0 ∨ 2 ^ 63 ≤ n * 2 ^ (k - 1)) → fin_X1_compareSizes_139 k (lN n, p) := by
  intro k
  induction k with
  | zero => intro n p h0; omega
  | succ k ih =>
    intro n p h0 hn h
    refine ⟨trivial, ?_⟩
    show (b_X1_compareSizes_139 (lN n) p).1 = false ∨ fin_X1_compareSizes_139 k (b_X1_compareSizes_139 (lN n) p).2
    unfold b_X1_compareSizes_139
    by_cases c : n = 0 ∨ 2 ^ 63 ≤ n
    · left; rw [if_pos ((m_le0 hn).mpr c)]
    · right; rw [if_neg (fun q => c ((m_le0 hn).mp q)), m_dbl]
      have h5 : 2 ^ 63 ≤ n * 2 ^ k := by
        rcases h with q | q
        · exact absurd (Or.inl q) c
        · exact q
      have hk : 0 < k := by
        rcases Nat.eq_zero_or_pos k with q | q
        · subst q; omega
        · exact q
      refine ih (2 * n) _ hk (by omega) (Or.inr ?_)
      have e : 2 ^ k = 2 * 2 ^ (k - 1) := by rw [← Nat.pow_succ']; congr 1; omega
      rw [e, ← Nat.mul_assoc, Nat.mul_comm n 2] at h5
      exact h5
theorem fin_cmp139 (x : Int64) (p : Int32) : fin_X1_compareSizes_139 65 (x, p) := by
  obtain ⟨n, hn, rfl⟩ := wb_of x
  refine fin_cmp139' 65 n p (by omega) hn ?_
  rcases Nat.eq_zero_or_pos n with q | q
  · exact Or.inl q
  · exact Or.inr (Nat.le_trans (show 2 ^ 63 ≤ 1 * 2 ^ 64 by decide) (Nat.mul_le_mul_right _ q))
theorem fin_neigh182' : ∀ (k n : Nat) (p : Int32), 0 < k → n < 2 ^ 64 → 2 ^ 63 ≤ n * 2 ^ (k - 1) → fin_X1_neighbour_182 k (p, lN n) := by
  intro k
  induction k with
  | zero => intro n p h0; omega
  | succ k ih =>
    intro n p h0 hn h
    refine ⟨trivial, ?_⟩
    show (b_X1_neighbour_182 p (lN n)).1 = false ∨ fin_X1_neighbour_182 k (b_X1_neighbour_182 p (lN n)).2
    unfold b_X1_neighbour_182
    by_cases cp : p ≤ 1
    · left; rw [if_pos cp]
    · rw [if_neg cp]
      by_cases c : 2 ^ 63 ≤ n
      · left; rw [if_pos ((m_lt0 hn).mpr c)]
      · right; rw [if_neg (fun q => c ((m_lt0 hn).mp q)), m_dbl]
        have h5 : 2 ^ 63 ≤ n * 2 ^ k := h
        have hk : 0 < k := by
          rcases Nat.eq_zero_or_pos k with q | q
          · subst q; omega
          · exact q
        refine ih (2 * n) _ hk (by omega) ?_
        have e : 2 ^ k = 2 * 2 ^ (k - 1) := by rw [← Nat.pow_succ']; congr 1; omega
        rw [e, ← Nat.mul_assoc, Nat.mul_comm n 2] at h5
        exact h5
theorem fin_neigh182 {p : Int32} {x : Int64} (h : ¬ x = 0) : fin_X1_neighbour_182 65 (p, x) := by
  obtain ⟨n, hn, rfl⟩ := wb_of x
  refine fin_neigh182' 65 n p (by omega) hn ?_
  rcases Nat.eq_zero_or_pos n with q | q
  · exact absurd (by rw [q]; rfl) h
  · exact Nat.le_trans (show 2 ^ 63 ≤ 1 * 2 ^ 64 by decide) (Nat.mul_le_mul_right _ q)
theorem m_sub {a b : Int32} (ha : -1000000 ≤ a.toInt ∧ a.toInt ≤ 1000000) (hb : -1000000 ≤ b.toInt ∧ b.toInt ≤ 1000000) : (a - b).toInt = a.toInt - b.toInt := by
  rw [Int32.toInt_sub]; exact Int.bmod_eq_of_le (by omega) (by omega)
theorem m_add {a b : Int32} (ha : -1000000 ≤ a.toInt ∧ a.toInt ≤ 1000000) (hb : -1000000 ≤ b.toInt ∧ b.toInt ≤ 1000000) : (a + b).toInt = a.toInt + b.toInt := by
  rw [Int32.toInt_add]; exact Int.bmod_eq_of_le (by omega) (by omega)
theorem m_nokI {x : Int32} (h : m_nok x) : 24 ≤ x.toInt ∧ x.toInt ≤ 64 := by
  rcases h with rfl | rfl | rfl <;> decide
theorem m_rokA {ct wt fi : Int32} (hw : m_wok wt) (hf : m_fok fi) (c : (if ((if (-16382) ≤ (wt - fi) then 0 else 1) : Int32) = 0 then false else (if (ct &&& 16) = 0 then false else true)) = true) : m_rok fi wt ((-16381) - (if ((ct >>> (8 &&& 31)) &&& 3) = 0 then 24 else (if ((ct >>> (8 &&& 31)) &&& 3) = 2 then 53 else 64))) := by
  have hn := m_nokI (m_nok_ok ((ct >>> (8 &&& 31)) &&& 3))
  generalize (if ((ct >>> (8 &&& 31)) &&& 3) = 0 then (24 : Int32) else (if ((ct >>> (8 &&& 31)) &&& 3) = 2 then 53 else 64)) = n at *
  have hk : ¬ (-16382) ≤ (wt - fi) := fun h => by rw [if_pos (by rw [if_pos h])] at c; exact Bool.false_ne_true c
  rw [Int32.le_iff_toInt_le, m_sub ⟨by have := hw.1; omega, by have := hw.2; omega⟩ ⟨by have := hf.1; omega, by have := hf.2; omega⟩] at hk
  have e1 : (-16382 : Int32).toInt = -16382 := rfl
  have e2 : (-16381 : Int32).toInt = -16381 := rfl
  have e3 : ((-16381) - n).toInt = -16381 - n.toInt := by rw [m_sub (by rw [e2]; omega) (by omega), e2]
  unfold m_wok at hw
  unfold m_fok at hf
  unfold m_rok
  rw [e3]
  rw [e1] at hk
  omega
theorem m_rokB {ct wt fi : Int32} (hw : m_wok wt) (hf : m_fok fi) : m_rok fi wt (((wt - fi) + 1) - (if ((ct >>> (8 &&& 31)) &&& 3) = 0 then 24 else (if ((ct >>> (8 &&& 31)) &&& 3) = 2 then 53 else 64))) := by
  have hn := m_nokI (m_nok_ok ((ct >>> (8 &&& 31)) &&& 3))
  generalize (if ((ct >>> (8 &&& 31)) &&& 3) = 0 then (24 : Int32) else (if ((ct >>> (8 &&& 31)) &&& 3) = 2 then 53 else 64)) = n at *
  unfold m_wok at hw
  unfold m_fok at hf
  have e1 : (wt - fi).toInt = wt.toInt - fi.toInt := m_sub (by omega) (by omega)
  have e2 : (1 : Int32).toInt = 1 := rfl
  have e3 : ((wt - fi) + 1).toInt = wt.toInt - fi.toInt + 1 := by rw [m_add (by omega) (by rw [e2]; omega), e1, e2]
  have e4 : (((wt - fi) + 1) - n).toInt = wt.toInt - fi.toInt + 1 - n.toInt := by rw [m_sub (by omega) (by omega), e3]
  unfold m_rok
  rw [e4]
  omega
theorem m_wok_make {a1 a3 : Int32} (h : (if f_X1_none a1 = 0 then (if a3 < (-33000) then 2 else (if a3 ≤ 33000 then 0 else 2)) else 1 : Int32) ≤ 0) : m_wok (a3 + 127) := by
  have h1 : ¬ a3 < (-33000) ∧ a3 ≤ 33000 := by
    by_cases c : f_X1_none a1 = 0
    · rw [if_pos c] at h
      by_cases c1 : a3 < (-33000)
      · rw [if_pos c1] at h; exact absurd h (by decide)
      · rw [if_neg c1] at h
        by_cases c2 : a3 ≤ 33000
        · exact ⟨c1, c2⟩
        · rw [if_neg c2] at h; exact absurd h (by decide)
    · rw [if_neg c] at h; exact absurd h (by decide)
  rw [Int32.lt_iff_toInt_lt, Int32.le_iff_toInt_le] at h1
  have e1 : (-33000 : Int32).toInt = -33000 := rfl
  have e2 : (33000 : Int32).toInt = 33000 := rfl
  have e3 : (127 : Int32).toInt = 127 := rfl
  rw [e1, e2] at h1
  unfold m_wok
  rw [m_add (by omega) (by rw [e3]; omega), e3]
  omega
theorem m_mod {v : Nat} (hv : v < 65536) : nI v - nI v / 32768 * 32768 = nI (v % 32768) := by
  have h1 : nI v / 32768 = nI (v / 32768) := by
    apply Int32.toInt_inj.mp
    rw [Int32.toInt_div_of_ne_right _ _ (by decide), nI_toInt (by omega), nI_toInt (by omega)]
    have : (32768 : Int32).toInt = 32768 := rfl
    rw [this, Int.tdiv_eq_ediv_of_nonneg (by omega)]
    omega
  rw [h1, show nI (v / 32768) * 32768 = nI (v / 32768 * 32768) from (Int32.ofNat_mul _ _).symm, show nI v - nI (v / 32768 * 32768) = nI (v - v / 32768 * 32768) from (Int32.ofNat_sub _ _ (by omega)).symm]
  congr 1
  omega
theorem m_wok_again {tp : Nat → Int32} {a1 : Int32} (h : m_tok tp) (hr : vp_in a1 8) : m_wok (((f_X1_powerOf tp a1) - 16446) + 127) := by
  obtain ⟨j, hj, rfl⟩ := vp_in_of hr (by decide)
  unfold f_X1_powerOf
  rw [nI_clamp (by omega)]
  obtain ⟨v, hv, e⟩ := m_toI (x := tp j) (N := 65535) (h j hj).1 (by have := (h j hj).2; omega) (by decide)
  rw [e, m_mod (by omega)]
  have hp : ∃ p, p ≤ 32768 ∧ (if nI (v % 32768) = 0 then 1 else nI (v % 32768)) = nI p := by
    split
    · exact ⟨1, by omega, rfl⟩
    · exact ⟨v % 32768, by omega, rfl⟩
  obtain ⟨p, hp1, hp2⟩ := hp
  rw [hp2]
  have e0 : (nI p).toInt = p := nI_toInt (by omega)
  have e1 : (16446 : Int32).toInt = 16446 := rfl
  have e2 : (127 : Int32).toInt = 127 := rfl
  have e3 : (nI p - 16446).toInt = p - 16446 := by rw [m_sub (by omega) (by rw [e1]; omega), e0, e1]
  unfold m_wok
  rw [m_add (by omega) (by rw [e2]; omega), e3, e2]
  omega
