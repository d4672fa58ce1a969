theorem e_pow {v : Nat} (hv : v < 65536) : nI v &&& 32767 = nI (v % 32768) := by
  rw [show (32767 : Int32) = nI 32767 from rfl, nx_and]
  congr 1
  exact Nat.and_two_pow_sub_one_eq_mod v 15
theorem e_top {tp : Nat → Int32} {r : Int32} (h : m_tok tp) (hr : vp_in r 8) : ∃ v, v < 65536 ∧ tp r.toNatClampNeg = nI v := by
  obtain ⟨j, hj, rfl⟩ := vp_in_of hr (by decide)
  rw [nI_clamp (by omega)]
  obtain ⟨v, hv, e⟩ := m_toI (x := tp j) (N := 65535) (h j hj).1 (by have := (h j hj).2; omega) (by decide)
  exact ⟨v, by omega, e⟩
theorem e_power {tp : Nat → Int32} {r : Int32} {v : Nat} (hv : v < 65536) (e : tp r.toNatClampNeg = nI v) : f_X0_powerOf tp r = nI (v % 32768) := by
  unfold f_X0_powerOf
  rw [e, e_pow hv]
theorem e_low {n : Nat} (hn : n < 2 ^ 64) : lg_cmp (lN n &&& 9223372036854775807) 0 = 0 ↔ (n = 0 ∨ n = 2 ^ 63) := by
  rw [show lN n &&& 9223372036854775807 = lN (n % 2 ^ 63) from wb_mask (k := 63) hn (by decide), px_l0 (Nat.lt_trans (Nat.mod_lt _ (by decide)) (by decide))]
  omega
theorem e_kind {tp : Nat → Int32} {fr : Nat → Int64} {r : Int32} (h : m_tok tp) (hr : vp_in r 8) : f_X1_kind tp fr r = f_X0_kindOf tp fr r := by
  obtain ⟨v, hv, e⟩ := e_top h hr
  obtain ⟨n, hn, ef⟩ := wb_of (fr r.toNatClampNeg)
  unfold f_X1_kind f_X0_kindOf
  rw [e_power hv e, e, ef, m_mod hv]
  by_cases c1 : nI (v % 32768) = 32767
  · rw [if_pos c1, if_pos c1]
    by_cases z : n = 0 ∨ n = 2 ^ 63
    · rw [if_pos ((e_low hn).mpr z)]
      rcases z with z | z
      · rw [if_pos ((px_l0 hn).mpr z), if_neg (by decide)]
      · have : ¬ n = 0 := by omega
        rw [if_neg (fun q => this ((px_l0 hn).mp q)), if_pos ((px_lh hn).mpr z), if_neg (by decide)]
    · rw [if_neg (fun q => z ((e_low hn).mp q)), if_neg (fun q => z (Or.inl ((px_l0 hn).mp q))), if_neg (fun q => z (Or.inr ((px_lh hn).mp q))), if_pos rfl]
  · rw [if_neg c1, if_neg c1]
theorem m_bit {n k : Nat} (hn : n < 2 ^ 64) (hk : k < 64) : (lN n >>> ((nI k).toInt64 &&& 63)) &&& 1 = lN (n / 2 ^ k % 2) := by
  rw [wb_c k hk]
  apply wb_inj
  have hs : ((lN k).toBitVec.smod 64).toNat = k := by rw [wb_tb, wb_sm k hk, BitVec.toNat_ofNat, Nat.mod_eq_of_lt (by omega)]
  show (lN n).toBitVec.sshiftRight ((lN k).toBitVec.smod 64).toNat &&& 1#64 = BitVec.ofNat 64 (n / 2 ^ k % 2)
  rw [hs, wb_tb]
  apply BitVec.eq_of_getLsbD_eq
  intro i hi
  rw [BitVec.getLsbD_and, BitVec.getLsbD_sshiftRight, BitVec.getLsbD_ofNat]
  rcases Nat.eq_zero_or_pos i with rfl | h0
  · have h1 : (1#64).getLsbD 0 = true := by decide
    rw [h1, Bool.and_true, if_pos (by omega), Nat.add_zero, BitVec.getLsbD_ofNat]
    simp only [hk, decide_true, Bool.true_and, show ¬ 64 ≤ 0 by omega, decide_false, Bool.not_false, show (0 : Nat) < 64 by omega]
    rw [Nat.testBit_eq_decide_div_mod_eq, Nat.testBit_eq_decide_div_mod_eq]
    simp
  · have h1 : (1#64).getLsbD i = false := by
      rw [BitVec.getLsbD_one]; simp; omega
    rw [h1, Bool.and_false]
    have h2 : (n / 2 ^ k % 2).testBit i = false := Nat.testBit_lt_two_pow (Nat.lt_of_lt_of_le (Nat.mod_lt _ (by decide)) (by calc 2 = 2 ^ 1 := rfl
        _ ≤ 2 ^ i := Nat.pow_le_pow_right (by decide) h0))
    rw [BitVec.getLsbD_ofNat, h2]; simp
theorem e_hi (x : Int64) : Int64.toInt32 ((Int64.toUInt64 x >>> ((Int32.toInt64 32).toUInt64 &&& Int64.toUInt64 63)).toInt64) = Int64.toInt32 (x >>> (Int32.toInt64 32 &&& 63)) := by
  obtain ⟨n, hn, rfl⟩ := wb_of x
  rw [show ((lN n).toUInt64 >>> ((Int32.toInt64 32).toUInt64 &&& Int64.toUInt64 63)).toInt64 = lN (n / 2 ^ 32) from wb_shr (k := 32) hn (by decide)]
  apply Int32.toBitVec_inj.mp
  apply BitVec.eq_of_getLsbD_eq
  intro i hi
  show (BitVec.signExtend 32 (BitVec.ofNat 64 (n / 2 ^ 32))).getLsbD i = (BitVec.signExtend 32 ((BitVec.ofNat 64 n).sshiftRight ((Int32.toInt64 32 &&& 63).toBitVec.smod 64).toNat)).getLsbD i
  have hs : ((Int32.toInt64 32 &&& 63).toBitVec.smod 64).toNat = 32 := by decide
  rw [hs, BitVec.getLsbD_signExtend, BitVec.getLsbD_signExtend, if_pos (show i < 64 by omega), if_pos (show i < 64 by omega), BitVec.getLsbD_sshiftRight, BitVec.getLsbD_ofNat, BitVec.getLsbD_ofNat, if_pos (show 32 + i < 64 by omega)]
  have h1 : (n / 2 ^ 32).testBit i = n.testBit (32 + i) := by rw [Nat.testBit_div_two_pow, Nat.add_comm]
  rw [h1]
  have e1 : decide (i < 64) = true := by simp; omega
  have e2 : decide (32 + i < 64) = true := by simp; omega
  have e3 : decide (64 ≤ i) = false := by simp; omega
  rw [e1, e2, e3]; simp
theorem e_zeros {fr : Nat → Int64} {x1 : Int32} {n z : Nat} (hn : n < 2 ^ 64) (e : fr x1.toNatClampNeg = lN n) (hz : z ≤ 64) (h : (n = 0 ∧ z = 64) ∨ (z < 64 ∧ 2 ^ 63 ≤ n * 2 ^ z ∧ n * 2 ^ z < 2 ^ 64)) : ∀ (k j : Nat), j ≤ z → 65 ≤ j + k → lp_X1_part_91 fr x1 k (nI j) = nI z := by
  intro k
  induction k with
  | zero => intro j h1 h2; omega
  | succ k ih =>
    intro j h1 h2
    show (if (b_X1_part_91 fr x1 (nI j)).1 = true then lp_X1_part_91 fr x1 k (b_X1_part_91 fr x1 (nI j)).2 else (b_X1_part_91 fr x1 (nI j)).2) = nI z
    unfold b_X1_part_91
    rw [e]
    by_cases c : 64 ≤ j
    · rw [if_pos (show (64 : Int32) ≤ nI j from nI_le (a := 64) c (by omega)), if_neg (show ¬ (false, nI j).1 = true from Bool.false_ne_true)]
      show nI j = nI z
      congr 1; omega
    · rw [if_neg (show ¬ (64 : Int32) ≤ nI j from nI_ge (b := 64) (by omega) (by decide)), show (63 : Int32) - nI j = nI (63 - j) from px_subI (a := 63) (by omega), m_bit hn (by omega)]
      have hlt : n / 2 ^ (63 - j) % 2 < 2 ^ 64 := Nat.lt_trans (Nat.mod_lt _ (by decide)) (by decide)
      rcases Nat.lt_or_ge j z with q | q
      · have h0 : n < 2 ^ (63 - j) := by
          rcases h with ⟨a, -⟩ | ⟨a, b, d⟩
          · rw [a]; exact Nat.two_pow_pos _
          · have e2 : 2 ^ 64 = 2 ^ (63 - j) * 2 ^ (j + 1) := by rw [← Nat.pow_add]; congr 1; omega
            have e3 : 2 ^ (j + 1) ≤ 2 ^ z := Nat.pow_le_pow_right (by decide) (by omega)
            rw [e2] at d
            exact Nat.lt_of_mul_lt_mul_right (Nat.lt_of_le_of_lt (Nat.mul_le_mul_left n e3) d)
        rw [if_pos ((px_l0 hlt).mpr (by rw [Nat.div_eq_of_lt h0])), if_pos rfl]
        show lp_X1_part_91 fr x1 k (nI j + 1) = nI z
        rw [nI_1]; exact ih (j + 1) (by omega) (by omega)
      · obtain rfl : j = z := by omega
        rcases h with ⟨a, b⟩ | ⟨a, b, d⟩
        · omega
        · have e2 : 2 ^ 63 = 2 ^ (63 - j) * 2 ^ j := by rw [← Nat.pow_add]; congr 1; omega
          have e3 : 2 ^ 64 = 2 * 2 ^ (63 - j) * 2 ^ j := by rw [Nat.mul_assoc, ← e2]
          have g1 : 2 ^ (63 - j) ≤ n := by rw [e2] at b; exact Nat.le_of_mul_le_mul_right b (Nat.two_pow_pos j)
          have g2 : n < 2 * 2 ^ (63 - j) := by rw [e3] at d; exact Nat.lt_of_mul_lt_mul_right d
          have g3 : n / 2 ^ (63 - j) = 1 := Nat.div_eq_of_lt_le (by omega) (by omega)
          rw [g3, if_neg (show ¬ lg_cmp (lN (1 % 2)) 0 = 0 by decide), if_neg (show ¬ (false, nI j).1 = true from Bool.false_ne_true)]
theorem rl_part {x : XS} {u : MS} {fo : Nat → Int64} (hR : RL9 x u) (a1 a2 : Int32) : f_X1_thrown (f_X1_part u.1 u.2.1 u.2.2.1 u.2.2.2.1 u.2.2.2.2.1 u.2.2.2.2.2.1 u.2.2.2.2.2.2.1 u.2.2.2.2.2.2.2.1 u.2.2.2.2.2.2.2.2.1 u.2.2.2.2.2.2.2.2.2.1 u.2.2.2.2.2.2.2.2.2.2.1 u.2.2.2.2.2.2.2.2.2.2.2.1 u.2.2.2.2.2.2.2.2.2.2.2.2.1 u.2.2.2.2.2.2.2.2.2.2.2.2.2.1 u.2.2.2.2.2.2.2.2.2.2.2.2.2.2 a1 a2).2.2.2.2.1 = (f_L_part fo x.1 x.2.1 x.2.2.1 x.2.2.2.1 x.2.2.2.2.1 x.2.2.2.2.2 a1 a2).1 ∧ RL9 (f_L_part fo x.1 x.2.1 x.2.2.1 x.2.2.2.1 x.2.2.2.2.1 x.2.2.2.2.2 a1 a2).2.1 (f_X1_part u.1 u.2.1 u.2.2.1 u.2.2.2.1 u.2.2.2.2.1 u.2.2.2.2.2.1 u.2.2.2.2.2.2.1 u.2.2.2.2.2.2.2.1 u.2.2.2.2.2.2.2.2.1 u.2.2.2.2.2.2.2.2.2.1 u.2.2.2.2.2.2.2.2.2.2.1 u.2.2.2.2.2.2.2.2.2.2.2.1 u.2.2.2.2.2.2.2.2.2.2.2.2.1 u.2.2.2.2.2.2.2.2.2.2.2.2.2.1 u.2.2.2.2.2.2.2.2.2.2.2.2.2.2 a1 a2).2 ∧ ((f_L_part fo x.1 x.2.1 x.2.2.1 x.2.2.2.1 x.2.2.2.2.1 x.2.2.2.2.2 a1 a2).1 = 0 → (f_L_part fo x.1 x.2.1 x.2.2.1 x.2.2.2.1 x.2.2.2.2.1 x.2.2.2.2.2 a1 a2).2.2 (0 : Int32).toNatClampNeg = Int32.toInt64 (f_X1_part u.1 u.2.1 u.2.2.1 u.2.2.2.1 u.2.2.2.2.1 u.2.2.2.2.2.1 u.2.2.2.2.2.2.1 u.2.2.2.2.2.2.2.1 u.2.2.2.2.2.2.2.2.1 u.2.2.2.2.2.2.2.2.2.1 u.2.2.2.2.2.2.2.2.2.2.1 u.2.2.2.2.2.2.2.2.2.2.2.1 u.2.2.2.2.2.2.2.2.2.2.2.2.1 u.2.2.2.2.2.2.2.2.2.2.2.2.2.1 u.2.2.2.2.2.2.2.2.2.2.2.2.2.2 a1 a2).1) := by
  obtain ⟨ft, ff, w, lt, lk, lc⟩ := x
  obtain ⟨tp, fr, bi, cd, ct, wt, fi, mn, wh, fu, tl, gr, sd, mt, mf⟩ := u
  obtain ⟨h1, h2, h3, h4, h5, h6, h7, h8⟩ := hR
  dsimp only at h1 h2 h3 h4 h5 h6 h7 h8 ⊢
  subst h1 h2 h3 h4 h5 h6
  have key : (∃ r, f_X0_part tp fr ct tl gr sd a1 a2 = (0, r, tp, fr, ct, tl, gr, sd) ∧ f_X1_part tp fr bi cd ct wt fi mn wh fu tl gr sd mt mf a1 a2 = (r, (tp, fr, bi, 0, ct, wt, fi, mn, wh, fu, tl, gr, sd, mt, mf))) ∨ (f_X0_part tp fr ct tl gr sd a1 a2 = (1, 0, tp, fr, ct, tl, gr, sd) ∧ f_X1_part tp fr bi cd ct wt fi mn wh fu tl gr sd mt mf a1 a2 = (0, (tp, fr, bi, 1, ct, wt, fi, mn, wh, fu, tl, gr, sd, mt, mf))) ∨ (f_X0_part tp fr ct tl gr sd a1 a2 = (2, 0, tp, fr, ct, tl, gr, sd) ∧ f_X1_part tp fr bi cd ct wt fi mn wh fu tl gr sd mt mf a1 a2 = (0, (tp, fr, bi, 2, ct, wt, fi, mn, wh, fu, tl, gr, sd, mt, mf))) := by
    unfold f_X0_part f_X1_part
    rw [e_none]
    rcases e_01 a1 with er | er
    · rw [er, if_pos rfl, if_pos rfl]
      have hr := x_reg er
      by_cases c0 : a2 = 0
      · subst c0; exact Or.inl ⟨_, rfl, rfl⟩
      · rw [if_neg c0]
        by_cases c1 : a2 = 1
        · subst c1; rw [if_pos rfl, e_hi]; exact Or.inl ⟨_, rfl, rfl⟩
        · rw [if_neg c1]
          by_cases c2 : a2 = 2
          · subst c2; exact Or.inl ⟨_, rfl, rfl⟩
          · rw [if_neg c2]
            by_cases c3 : a2 = 3
            · subst c3; rw [if_pos rfl, ← e_kind h8 hr]; exact Or.inl ⟨_, rfl, rfl⟩
            · rw [if_neg c3]
              by_cases c4 : a2 = 4
              · subst c4
                rw [if_pos rfl]
                obtain ⟨n, hn, en⟩ := wb_of (fr a1.toNatClampNeg)
                obtain ⟨z, hz, ez, hzz⟩ := px_nlz hn
                rw [en, ez, show lp_X1_part_91 fr a1 65 0 = nI z from e_zeros hn en hz hzz 65 0 (by omega) (by omega)]
                exact Or.inl ⟨_, rfl, rfl⟩
              · rw [if_neg c4]
                right; right
                have hq : (if a2 < 0 then 2 else (if a2 ≤ 4 then 0 else 2) : Int32) = 2 := by
                  by_cases n : a2 < 0
                  · rw [if_pos n]
                  · rw [if_neg n]
                    by_cases m2 : a2 ≤ 4
                    · obtain ⟨j, hj, rfl⟩ := nI_of2 (M := 4) (n := 4) rfl n m2
                      rcases (show j = 0 ∨ j = 1 ∨ j = 2 ∨ j = 3 ∨ j = 4 by omega) with rfl | rfl | rfl | rfl | rfl
                      · exact absurd rfl c0
                      · exact absurd rfl c1
                      · exact absurd rfl c2
                      · exact absurd rfl c3
                      · exact absurd rfl c4
                    · rw [if_neg m2]
                rw [hq]
                exact ⟨rfl, rfl⟩
    · rw [er, if_neg (show ¬ (1 : Int32) = 0 by decide), if_neg (show ¬ (1 : Int32) = 0 by decide)]
      exact Or.inr (Or.inl ⟨rfl, rfl⟩)
  rcases key with ⟨r, hX, hM⟩ | ⟨hX, hM⟩ | ⟨hX, hM⟩
  · have hL : f_L_part fo tp fr ct tl gr sd a1 a2 = (0, ((tp, fr, ct, tl, gr, sd), vp_updL fo (0 : Int32).toNatClampNeg (Int32.toInt64 r))) := by unfold f_L_part; rw [hX]; rfl
    rw [hL, hM]
    exact ⟨rfl, ⟨rfl, rfl, rfl, rfl, rfl, rfl, h7, h8⟩, fun _ => e_o fo _⟩
  · have hL : f_L_part fo tp fr ct tl gr sd a1 a2 = (1, ((tp, fr, ct, tl, gr, sd), fo)) := by unfold f_L_part; rw [hX]; rfl
    rw [hL, hM]
    exact ⟨rfl, ⟨rfl, rfl, rfl, rfl, rfl, rfl, h7, h8⟩, fun h => absurd h (show ¬ (1 : Int32) = 0 by decide)⟩
  · have hL : f_L_part fo tp fr ct tl gr sd a1 a2 = (2, ((tp, fr, ct, tl, gr, sd), fo)) := by unfold f_L_part; rw [hX]; rfl
    rw [hL, hM]
    exact ⟨rfl, ⟨rfl, rfl, rfl, rfl, rfl, rfl, h7, h8⟩, fun h => absurd h (show ¬ (2 : Int32) = 0 by decide)⟩
