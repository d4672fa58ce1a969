theorem e_none (r : Int32) : f_X1_none r = f_X0_isNoRegister r := by
  unfold f_X1_none f_X0_isNoRegister
  by_cases c1 : r < 0
  · rw [if_pos c1, if_pos c1]
  · rw [if_neg c1, if_neg c1]
    by_cases c2 : r ≤ 7
    · rw [if_pos c2, if_pos (show r < 8 by rw [Int32.lt_iff_toInt_lt]; rw [Int32.le_iff_toInt_le] at c2; have e1 : (7 : Int32).toInt = 7 := rfl; have e2 : (8 : Int32).toInt = 8 := rfl; omega)]
    · rw [if_neg c2, if_neg (show ¬ r < 8 by rw [Int32.lt_iff_toInt_lt]; rw [Int32.le_iff_toInt_le] at c2; have e1 : (7 : Int32).toInt = 7 := rfl; have e2 : (8 : Int32).toInt = 8 := rfl; omega)]
theorem e_01 (r : Int32) : f_X0_isNoRegister r = 0 ∨ f_X0_isNoRegister r = 1 := by
  unfold f_X0_isNoRegister
  split
  · exact Or.inr rfl
  · split
    · exact Or.inl rfl
    · exact Or.inr rfl
theorem e_16 (r : Int32) : (f_X0_hasMoreThan16Bits r = 0 ∧ ¬ r < 0 ∧ r ≤ 65535) ∨ (f_X0_hasMoreThan16Bits r = 1 ∧ (r < 0 ∨ ¬ r ≤ 65535)) := by
  unfold f_X0_hasMoreThan16Bits
  by_cases c1 : r < 0
  · rw [if_pos c1]; exact Or.inr ⟨rfl, Or.inl c1⟩
  · rw [if_neg c1]
    by_cases c2 : r ≤ 65535
    · rw [if_pos c2]; exact Or.inl ⟨rfl, c1, c2⟩
    · rw [if_neg c2]; exact Or.inr ⟨rfl, Or.inr c2⟩
theorem e_16v {r : Int32} (h1 : ¬ r < 0) (h2 : r ≤ 65535) : ∃ v, v < 65536 ∧ r = nI v := by
  obtain ⟨j, hj, e⟩ := nI_of2 (M := 65535) (n := 65535) rfl h1 h2
  exact ⟨j, by omega, e⟩
theorem rl_control {x : XS} {u : MS} (hR : RL9 x u) (a1 : Int32) : f_X1_thrown (f_X1_control u.1 u.2.1 u.2.2.1 u.2.2.2.1 u.2.2.2.2.1 u.2.2.2.2.2.1 u.2.2.2.2.2.2.1 u.2.2.2.2.2.2.2.1 u.2.2.2.2.2.2.2.2.1 u.2.2.2.2.2.2.2.2.2.1 u.2.2.2.2.2.2.2.2.2.2.1 u.2.2.2.2.2.2.2.2.2.2.2.1 u.2.2.2.2.2.2.2.2.2.2.2.2.1 u.2.2.2.2.2.2.2.2.2.2.2.2.2.1 u.2.2.2.2.2.2.2.2.2.2.2.2.2.2 a1).2.2.2.1 = (f_L_control x.1 x.2.1 x.2.2.1 x.2.2.2.1 x.2.2.2.2.1 x.2.2.2.2.2 a1).1 ∧ RL9 (f_L_control x.1 x.2.1 x.2.2.1 x.2.2.2.1 x.2.2.2.2.1 x.2.2.2.2.2 a1).2 (f_X1_control u.1 u.2.1 u.2.2.1 u.2.2.2.1 u.2.2.2.2.1 u.2.2.2.2.2.1 u.2.2.2.2.2.2.1 u.2.2.2.2.2.2.2.1 u.2.2.2.2.2.2.2.2.1 u.2.2.2.2.2.2.2.2.2.1 u.2.2.2.2.2.2.2.2.2.2.1 u.2.2.2.2.2.2.2.2.2.2.2.1 u.2.2.2.2.2.2.2.2.2.2.2.2.1 u.2.2.2.2.2.2.2.2.2.2.2.2.2.1 u.2.2.2.2.2.2.2.2.2.2.2.2.2.2 a1) := by
  obtain ⟨ft, ff, w, lt, lk, lc⟩ := x
  obtain ⟨tp, fr, bi, cd, ct, wt, fi, mn, wh, fu, tl, gr, sd, mt, mf⟩ := u
  obtain ⟨h1, h2, h3, h4, h5, h6, h7, h8⟩ := hR
  dsimp only at h1 h2 h3 h4 h5 h6 h7 h8 ⊢
  subst h1 h2 h3 h4 h5 h6
  rcases e_16 a1 with ⟨e, g1, g2⟩ | ⟨e, g⟩
  · have hX : f_X0_control tp fr ct tl gr sd a1 = (0, tp, fr, a1, tl, gr, sd) := by unfold f_X0_control; rw [if_pos e]
    have hL : f_L_control tp fr ct tl gr sd a1 = (0, (tp, fr, a1, tl, gr, sd)) := by unfold f_L_control; rw [hX]; rfl
    have hM : f_X1_control tp fr bi cd ct wt fi mn wh fu tl gr sd mt mf a1 = (tp, fr, bi, 0, a1, wt, fi, mn, wh, fu, tl, gr, sd, mt, mf) := by unfold f_X1_control; rw [if_neg g1, if_pos g2, if_pos rfl]
    rw [hL, hM]
    exact ⟨rfl, rfl, rfl, rfl, rfl, rfl, rfl, e_16v g1 g2, h8⟩
  · have hX : f_X0_control tp fr ct tl gr sd a1 = (2, tp, fr, ct, tl, gr, sd) := by unfold f_X0_control; rw [e, if_neg (by decide)]
    have hL : f_L_control tp fr ct tl gr sd a1 = (1, (tp, fr, ct, tl, gr, sd)) := by unfold f_L_control; rw [hX]; rfl
    have hM : f_X1_control tp fr bi cd ct wt fi mn wh fu tl gr sd mt mf a1 = (tp, fr, bi, 1, ct, wt, fi, mn, wh, fu, tl, gr, sd, mt, mf) := by
      unfold f_X1_control
      have hq : (if a1 < 0 then 1 else (if a1 ≤ 65535 then 0 else 1) : Int32) = 1 := by
        rcases g with g | g
        · rw [if_pos g]
        · rw [if_neg g]; split <;> rfl
      rw [hq, if_neg (by decide)]
    rw [hL, hM]
    exact ⟨rfl, rfl, rfl, rfl, rfl, rfl, rfl, h7, h8⟩
theorem e_join (a b : Int32) : f_X0_join a b = (Int32.toInt64 a) * 4294967296 + ((Int32.toInt64 b) &&& 4294967295) := by
  unfold f_X0_join
  obtain ⟨x, hx, ex⟩ := wb_of (Int32.toInt64 a)
  obtain ⟨y, hy, ey⟩ := wb_of (Int32.toInt64 b)
  rw [ex, ey, show lN y &&& 4294967295 = lN (y % 2 ^ 32) from wb_mask (k := 32) hy (by decide), show lN x <<< (Int32.toInt64 32 &&& 63) = lN (x * 2 ^ 32) from wb_shl x (k := 32) (by decide), show lN x * 4294967296 = lN (x * 4294967296) from lN_mul x 4294967296, lN_add, wb_mod (x * 2 ^ 32), px_mm (z := 32) (by decide), Nat.mul_comm (2 ^ 32), g_or (k := 32) rfl (Nat.mod_lt _ (by decide)) (by have := Nat.mod_lt x (show 0 < 2 ^ (64 - 32) by decide); omega), wb_mod (x * 4294967296 + y % 2 ^ 32)]
  congr 1
  omega
theorem m_tok_upd {f : Nat → Int32} {k : Nat} {y : Int32} (h : m_tok f) (h0 : 0 ≤ y.toInt) (h1 : y.toInt < 65536) : m_tok (upd f k y) := by
  intro j hj
  unfold upd
  split
  · exact ⟨h0, h1⟩
  · exact h j hj
theorem e_vI {v : Nat} (hv : v < 65536) : 0 ≤ (nI v).toInt ∧ (nI v).toInt < 65536 := by rw [nI_toInt (by omega)]; omega
theorem rl_set {x : XS} {u : MS} (hR : RL9 x u) (a1 a2 a3 a4 : Int32) : f_X1_thrown (f_X1_set u.1 u.2.1 u.2.2.1 u.2.2.2.1 u.2.2.2.2.1 u.2.2.2.2.2.1 u.2.2.2.2.2.2.1 u.2.2.2.2.2.2.2.1 u.2.2.2.2.2.2.2.2.1 u.2.2.2.2.2.2.2.2.2.1 u.2.2.2.2.2.2.2.2.2.2.1 u.2.2.2.2.2.2.2.2.2.2.2.1 u.2.2.2.2.2.2.2.2.2.2.2.2.1 u.2.2.2.2.2.2.2.2.2.2.2.2.2.1 u.2.2.2.2.2.2.2.2.2.2.2.2.2.2 a1 a2 a3 a4).2.2.2.1 = (f_L_set x.1 x.2.1 x.2.2.1 x.2.2.2.1 x.2.2.2.2.1 x.2.2.2.2.2 a1 a2 a3 a4).1 ∧ RL9 (f_L_set x.1 x.2.1 x.2.2.1 x.2.2.2.1 x.2.2.2.2.1 x.2.2.2.2.2 a1 a2 a3 a4).2 (f_X1_set u.1 u.2.1 u.2.2.1 u.2.2.2.1 u.2.2.2.2.1 u.2.2.2.2.2.1 u.2.2.2.2.2.2.1 u.2.2.2.2.2.2.2.1 u.2.2.2.2.2.2.2.2.1 u.2.2.2.2.2.2.2.2.2.1 u.2.2.2.2.2.2.2.2.2.2.1 u.2.2.2.2.2.2.2.2.2.2.2.1 u.2.2.2.2.2.2.2.2.2.2.2.2.1 u.2.2.2.2.2.2.2.2.2.2.2.2.2.1 u.2.2.2.2.2.2.2.2.2.2.2.2.2.2 a1 a2 a3 a4) := by
  obtain ⟨ft, ff, w, lt, lk, lc⟩ := x
  obtain ⟨tp, fr, bi, cd, ct, wt, fi, mn, wh, fu, tl, gr, sd, mt, mf⟩ := u
  obtain ⟨h1, h2, h3, h4, h5, h6, h7, h8⟩ := hR
  dsimp only at h1 h2 h3 h4 h5 h6 h7 h8 ⊢
  subst h1 h2 h3 h4 h5 h6
  rcases e_01 a1 with er | er
  · rcases e_16 a2 with ⟨e, g1, g2⟩ | ⟨e, g⟩
    · have hX : f_X0_set tp fr ct tl gr sd a1 a2 a3 a4 = (0, (upd tp a1.toNatClampNeg a2), (vp_updL fr a1.toNatClampNeg (f_X0_join a3 a4)), ct, tl, gr, sd) := by unfold f_X0_set; rw [if_pos er, if_pos e]
      have hL : f_L_set tp fr ct tl gr sd a1 a2 a3 a4 = (0, ((upd tp a1.toNatClampNeg a2), (vp_updL fr a1.toNatClampNeg (f_X0_join a3 a4)), ct, tl, gr, sd)) := by unfold f_L_set; rw [hX]; rfl
      have hM : f_X1_set tp fr bi cd ct wt fi mn wh fu tl gr sd mt mf a1 a2 a3 a4 = ((upd tp a1.toNatClampNeg a2), (vp_updL fr a1.toNatClampNeg (f_X0_join a3 a4)), bi, 0, ct, wt, fi, mn, wh, fu, tl, gr, sd, mt, mf) := by
        unfold f_X1_set
        rw [e_none, er, if_pos rfl, if_neg g1, if_pos g2, if_pos (by decide), e_join]
      rw [hL, hM]
      obtain ⟨v, hv, ev⟩ := e_16v g1 g2
      exact ⟨rfl, rfl, rfl, rfl, rfl, rfl, rfl, h7, m_tok_upd h8 (by rw [ev]; exact (e_vI hv).1) (by rw [ev]; exact (e_vI hv).2)⟩
    · have hX : f_X0_set tp fr ct tl gr sd a1 a2 a3 a4 = (2, tp, fr, ct, tl, gr, sd) := by unfold f_X0_set; rw [if_pos er, e, if_neg (by decide)]
      have hL : f_L_set tp fr ct tl gr sd a1 a2 a3 a4 = (2, (tp, fr, ct, tl, gr, sd)) := by unfold f_L_set; rw [hX]; rfl
      have hM : f_X1_set tp fr bi cd ct wt fi mn wh fu tl gr sd mt mf a1 a2 a3 a4 = (tp, fr, bi, 2, ct, wt, fi, mn, wh, fu, tl, gr, sd, mt, mf) := by
        unfold f_X1_set
        have hq : (if a2 < 0 then 2 else (if a2 ≤ 65535 then 0 else 2) : Int32) = 2 := by
          rcases g with g | g
          · rw [if_pos g]
          · rw [if_neg g]; split <;> rfl
        rw [e_none, er, if_pos rfl, hq, if_neg (by decide)]
      rw [hL, hM]
      exact ⟨rfl, rfl, rfl, rfl, rfl, rfl, rfl, h7, h8⟩
  · have hX : f_X0_set tp fr ct tl gr sd a1 a2 a3 a4 = (1, tp, fr, ct, tl, gr, sd) := by unfold f_X0_set; rw [er, if_neg (by decide)]
    have hL : f_L_set tp fr ct tl gr sd a1 a2 a3 a4 = (1, (tp, fr, ct, tl, gr, sd)) := by unfold f_L_set; rw [hX]; rfl
    have hM : f_X1_set tp fr bi cd ct wt fi mn wh fu tl gr sd mt mf a1 a2 a3 a4 = (tp, fr, bi, 1, ct, wt, fi, mn, wh, fu, tl, gr, sd, mt, mf) := by
      unfold f_X1_set
      rw [e_none, er, if_neg (show ¬ (1 : Int32) = 0 by decide), if_neg (show ¬ (1 : Int32) ≤ 0 by decide)]
    rw [hL, hM]
    exact ⟨rfl, rfl, rfl, rfl, rfl, rfl, rfl, h7, h8⟩
theorem e_o (fo : Nat → Int64) (y : Int64) : vp_updL fo (0 : Int32).toNatClampNeg y (0 : Int32).toNatClampNeg = y := by unfold vp_updL; rw [if_pos rfl]
theorem rl_last {x : XS} {u : MS} {fo : Nat → Int64} (hR : RL9 x u) (a1 : Int32) : f_X1_thrown (f_X1_last u.1 u.2.1 u.2.2.1 u.2.2.2.1 u.2.2.2.2.1 u.2.2.2.2.2.1 u.2.2.2.2.2.2.1 u.2.2.2.2.2.2.2.1 u.2.2.2.2.2.2.2.2.1 u.2.2.2.2.2.2.2.2.2.1 u.2.2.2.2.2.2.2.2.2.2.1 u.2.2.2.2.2.2.2.2.2.2.2.1 u.2.2.2.2.2.2.2.2.2.2.2.2.1 u.2.2.2.2.2.2.2.2.2.2.2.2.2.1 u.2.2.2.2.2.2.2.2.2.2.2.2.2.2 a1).2.2.2.2.1 = (f_L_last fo x.1 x.2.1 x.2.2.1 x.2.2.2.1 x.2.2.2.2.1 x.2.2.2.2.2 a1).1 ∧ RL9 (f_L_last fo x.1 x.2.1 x.2.2.1 x.2.2.2.1 x.2.2.2.2.1 x.2.2.2.2.2 a1).2.1 (f_X1_last u.1 u.2.1 u.2.2.1 u.2.2.2.1 u.2.2.2.2.1 u.2.2.2.2.2.1 u.2.2.2.2.2.2.1 u.2.2.2.2.2.2.2.1 u.2.2.2.2.2.2.2.2.1 u.2.2.2.2.2.2.2.2.2.1 u.2.2.2.2.2.2.2.2.2.2.1 u.2.2.2.2.2.2.2.2.2.2.2.1 u.2.2.2.2.2.2.2.2.2.2.2.2.1 u.2.2.2.2.2.2.2.2.2.2.2.2.2.1 u.2.2.2.2.2.2.2.2.2.2.2.2.2.2 a1).2 ∧ ((f_L_last fo x.1 x.2.1 x.2.2.1 x.2.2.2.1 x.2.2.2.2.1 x.2.2.2.2.2 a1).1 = 0 → (f_L_last fo x.1 x.2.1 x.2.2.1 x.2.2.2.1 x.2.2.2.2.1 x.2.2.2.2.2 a1).2.2 (0 : Int32).toNatClampNeg = Int32.toInt64 (f_X1_last u.1 u.2.1 u.2.2.1 u.2.2.2.1 u.2.2.2.2.1 u.2.2.2.2.2.1 u.2.2.2.2.2.2.1 u.2.2.2.2.2.2.2.1 u.2.2.2.2.2.2.2.2.1 u.2.2.2.2.2.2.2.2.2.1 u.2.2.2.2.2.2.2.2.2.2.1 u.2.2.2.2.2.2.2.2.2.2.2.1 u.2.2.2.2.2.2.2.2.2.2.2.2.1 u.2.2.2.2.2.2.2.2.2.2.2.2.2.1 u.2.2.2.2.2.2.2.2.2.2.2.2.2.2 a1).1) := by
  obtain ⟨ft, ff, w, lt, lk, lc⟩ := x
  obtain ⟨tp, fr, bi, cd, ct, wt, fi, mn, wh, fu, tl, gr, sd, mt, mf⟩ := u
  obtain ⟨h1, h2, h3, h4, h5, h6, h7, h8⟩ := hR
  dsimp only at h1 h2 h3 h4 h5 h6 h7 h8 ⊢
  subst h1 h2 h3 h4 h5 h6
  have key : (∃ r, f_X0_last tp fr ct tl gr sd a1 = (0, r, tp, fr, ct, tl, gr, sd) ∧ f_X1_last tp fr bi cd ct wt fi mn wh fu tl gr sd mt mf a1 = (r, (tp, fr, bi, 0, ct, wt, fi, mn, wh, fu, tl, gr, sd, mt, mf))) ∨ (f_X0_last tp fr ct tl gr sd a1 = (2, 0, tp, fr, ct, tl, gr, sd) ∧ f_X1_last tp fr bi cd ct wt fi mn wh fu tl gr sd mt mf a1 = (0, (tp, fr, bi, 1, ct, wt, fi, mn, wh, fu, tl, gr, sd, mt, mf))) := by
    unfold f_X0_last f_X1_last
    by_cases c0 : a1 = 0
    · subst c0; exact Or.inl ⟨tl, rfl, rfl⟩
    · by_cases c1 : a1 = 1
      · subst c1; exact Or.inl ⟨gr, rfl, rfl⟩
      · by_cases c2 : a1 = 2
        · subst c2; exact Or.inl ⟨sd, rfl, rfl⟩
        · right
          have hq : (if a1 < 0 then 1 else (if a1 ≤ 2 then 0 else 1) : Int32) = 1 := by
            by_cases n : a1 < 0
            · rw [if_pos n]
            · rw [if_neg n]
              by_cases m2 : a1 ≤ 2
              · obtain ⟨j, hj, rfl⟩ := nI_of2 (M := 2) (n := 2) rfl n m2
                rcases (show j = 0 ∨ j = 1 ∨ j = 2 by omega) with rfl | rfl | rfl
                · exact absurd rfl c0
                · exact absurd rfl c1
                · exact absurd rfl c2
              · rw [if_neg m2]
          rw [hq, if_neg c0, if_neg c1, if_neg c2, if_neg (by decide)]
          exact ⟨rfl, rfl⟩
  rcases key with ⟨r, hX, hM⟩ | ⟨hX, hM⟩
  · have hL : f_L_last fo tp fr ct tl gr sd a1 = (0, ((tp, fr, ct, tl, gr, sd), vp_updL fo (0 : Int32).toNatClampNeg (Int32.toInt64 r))) := by unfold f_L_last; rw [hX]; rfl
    rw [hL, hM]
    exact ⟨rfl, ⟨rfl, rfl, rfl, rfl, rfl, rfl, h7, h8⟩, fun _ => e_o fo _⟩
  · have hL : f_L_last fo tp fr ct tl gr sd a1 = (1, ((tp, fr, ct, tl, gr, sd), fo)) := by unfold f_L_last; rw [hX]; rfl
    rw [hL, hM]
    exact ⟨rfl, ⟨rfl, rfl, rfl, rfl, rfl, rfl, h7, h8⟩, fun h => absurd h (show ¬ (1 : Int32) = 0 by decide)⟩
