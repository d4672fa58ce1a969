theorem cs_num {n1 z1 P1 p1 g1 n2 z2 P2 p2 g2 : Nat} (a1 : 2 ^ 63 ≤ n1 * 2 ^ z1) (a2 : n1 * 2 ^ z1 < 2 ^ 64) (b1 : 2 ^ 63 ≤ n2 * 2 ^ z2) (b2 : n2 * 2 ^ z2 < 2 ^ 64) (hP1 : 1 ≤ P1) (hP2 : 1 ≤ P2)
    (H1 : (z1 < P1 ∧ p1 = P1 - z1 ∧ g1 = n1 * 2 ^ z1) ∨ (P1 ≤ z1 ∧ p1 = 0 ∧ g1 = n1 * 2 ^ (P1 - 1) ∧ g1 < 2 ^ 63)) (H2 : (z2 < P2 ∧ p2 = P2 - z2 ∧ g2 = n2 * 2 ^ z2) ∨ (P2 ≤ z2 ∧ p2 = 0 ∧ g2 = n2 * 2 ^ (P2 - 1) ∧ g2 < 2 ^ 63)) :
    (if (P1 : Int) - z1 = P2 - z2 then cmpN (n1 * 2 ^ z1) (n2 * 2 ^ z2) else (if (P2 : Int) - z2 ≤ P1 - z1 then 1 else (-1)) : Int32) = (if p1 = p2 then cmpN g1 g2 else (if p2 ≤ p1 then 1 else (-1))) := by
  rcases H1 with ⟨c1, q1, r1⟩ | ⟨c1, q1, r1, s1⟩
  · rcases H2 with ⟨c2, q2, r2⟩ | ⟨c2, q2, r2, s2⟩
    · rw [← r1, ← r2]
      clear r1 r2 a1 a2 b1 b2
      by_cases d : p1 = p2
      · rw [if_pos (show (P1 : Int) - z1 = P2 - z2 by omega), if_pos d]
      · rw [if_neg (show ¬ (P1 : Int) - z1 = P2 - z2 by omega), if_neg d]
        by_cases d2 : p2 ≤ p1
        · rw [if_pos (show (P2 : Int) - z2 ≤ P1 - z1 by omega), if_pos d2]
        · rw [if_neg (show ¬ (P2 : Int) - z2 ≤ P1 - z1 by omega), if_neg d2]
    · clear r1 r2 s2 a1 a2 b1 b2
      rw [if_neg (show ¬ (P1 : Int) - z1 = P2 - z2 by omega), if_pos (show (P2 : Int) - z2 ≤ P1 - z1 by omega), if_neg (show ¬ p1 = p2 by omega), if_pos (show p2 ≤ p1 by omega)]
  · rcases H2 with ⟨c2, q2, r2⟩ | ⟨c2, q2, r2, s2⟩
    · clear r1 r2 s1 a1 a2 b1 b2
      rw [if_neg (show ¬ (P1 : Int) - z1 = P2 - z2 by omega), if_neg (show ¬ (P2 : Int) - z2 ≤ P1 - z1 by omega), if_neg (show ¬ p1 = p2 by omega), if_neg (show ¬ p2 ≤ p1 by omega)]
    · have e1 : n1 * 2 ^ z1 = g1 * 2 ^ (z1 + 1 - P1) := by
        rw [r1, Nat.mul_assoc, ← Nat.pow_add]; congr 2; clear r1 r2 s1 s2 a1 a2 b1 b2; omega
      have e2 : n2 * 2 ^ z2 = g2 * 2 ^ (z2 + 1 - P2) := by
        rw [r2, Nat.mul_assoc, ← Nat.pow_add]; congr 2; clear r1 r2 s1 s2 a1 a2 b1 b2 e1; omega
      rw [e1] at a1 a2
      rw [e2] at b1 b2
      rw [e1, e2, if_pos (show p1 = p2 by rw [q1, q2])]
      clear e1 e2 r1 r2 s1 s2
      rcases Nat.lt_trichotomy (z1 + 1 - P1) (z2 + 1 - P2) with d | d | d
      · rw [cmpN_gt (dd_lt a1 b2 d)]
        clear a1 a2 b1 b2
        rw [if_neg (show ¬ (P1 : Int) - z1 = P2 - z2 by omega), if_pos (show (P2 : Int) - z2 ≤ P1 - z1 by omega)]
      · rw [d, cmpN_mul]
        clear a1 a2 b1 b2
        rw [if_pos (show (P1 : Int) - z1 = P2 - z2 by omega)]
      · rw [cmpN_lt (dd_lt b1 a2 d)]
        clear a1 a2 b1 b2
        rw [if_neg (show ¬ (P1 : Int) - z1 = P2 - z2 by omega), if_neg (show ¬ (P2 : Int) - z2 ≤ P1 - z1 by omega)]
theorem pz_ti {P z : Nat} (hP : P ≤ 32766) (hz : z < 64) : (nI P - nI z).toInt = (P : Int) - z := by
  have e1 : (nI P).toInt = P := nI_toInt (by omega)
  have e2 : (nI z).toInt = z := nI_toInt (by omega)
  rw [m_sub (by rw [e1]; omega) (by rw [e2]; omega), e1, e2]
theorem cs_X {tp : Nat → Int32} {fr : Nat → Int64} {a b : Int32} {p1 g1 p2 g2 : Nat} (hp1 : p1 ≤ 32767) (hp2 : p2 ≤ 32767) (hg1 : g1 < 2 ^ 64) (hg2 : g2 < 2 ^ 64) (ep1 : f_X0_plainPower tp fr a = nI p1) (ep2 : f_X0_plainPower tp fr b = nI p2) (eg1 : f_X0_plainFraction tp fr a = lN g1) (eg2 : f_X0_plainFraction tp fr b = lN g2) : f_X0_compareSizes tp fr a b = (if p1 = p2 then cmpN g1 g2 else (if p2 ≤ p1 then 1 else (-1))) := by
  unfold f_X0_compareSizes
  rw [ep1, ep2, eg1, eg2, cu hg1 hg2]
  by_cases c : p1 = p2
  · rw [if_pos (show nI p1 = nI p2 by rw [c]), if_pos c]
  · rw [if_neg (fun q => c ((nI_eq (by omega) (by omega)).mp q)), if_neg c]
    by_cases c2 : p2 ≤ p1
    · rw [if_pos (show nI p2 ≤ nI p1 from nI_le c2 (by omega)), if_pos c2]
    · rw [if_neg (show ¬ nI p2 ≤ nI p1 from nI_ge (by omega) (by omega)), if_neg c2]
theorem cs_eq {tp : Nat → Int32} {fr : Nat → Int64} {a b : Int32} (h : m_tok tp) (ha : vp_in a 8) (hb : vp_in b 8) (h5a : ¬ f_X0_kindOf tp fr a = 5) (h5b : ¬ f_X0_kindOf tp fr b = 5) : f_X1_compareSizes tp fr a b = f_X0_compareSizes tp fr a b := by
  obtain ⟨p1, g1, hg1, ep1, eg1, H1⟩ := plain h ha h5a
  obtain ⟨p2, g2, hg2, ep2, eg2, H2⟩ := plain h hb h5b
  have hp1 : p1 ≤ 32767 := by
    rcases H1 with ⟨-, -, -, q, -⟩ | ⟨-, -, -, q, -⟩ | ⟨-, -, -, q, -⟩ <;> omega
  have hp2 : p2 ≤ 32767 := by
    rcases H2 with ⟨-, -, -, q, -⟩ | ⟨-, -, -, q, -⟩ | ⟨-, -, -, q, -⟩ <;> omega
  rw [cs_X hp1 hp2 hg1 hg2 ep1 ep2 eg1 eg2]
  unfold f_X1_compareSizes
  rw [e_kind h ha, e_kind h hb]
  by_cases k1 : f_X0_kindOf tp fr a = 4
  · have H1' : p1 = 32767 ∧ g1 = 2 ^ 63 := by
      rcases H1 with ⟨-, -, -, q, r⟩ | ⟨q, -⟩ | ⟨q, -⟩
      · exact ⟨q, r⟩
      · exact absurd k1 q
      · exact absurd k1 q
    obtain ⟨q1, r1⟩ := H1'
    rw [if_pos (show (if (f_X0_kindOf tp fr a) = 4 then true else (if (f_X0_kindOf tp fr b) = 4 then true else false)) = true by rw [if_pos k1]), if_pos k1]
    rcases H2 with ⟨k2, -, -, q2, r2⟩ | ⟨k2, -, -, q2, -⟩ | ⟨k2, -, -, q2, -⟩
    · rw [if_pos k2, if_pos (show p1 = p2 by rw [q1, q2]), r1, r2, cmpN_eq]; decide
    · rw [if_neg k2, if_neg (show ¬ p1 = p2 by omega), if_pos (show p2 ≤ p1 by omega)]; decide
    · rw [if_neg k2, if_neg (show ¬ p1 = p2 by omega), if_pos (show p2 ≤ p1 by omega)]; decide
  · by_cases k2 : f_X0_kindOf tp fr b = 4
    · have H2' : p2 = 32767 := by
        rcases H2 with ⟨-, -, -, q, r⟩ | ⟨q, -⟩ | ⟨q, -⟩
        · exact q
        · exact absurd k2 q
        · exact absurd k2 q
      have H1' : p1 ≤ 32766 := by
        rcases H1 with ⟨q, -⟩ | ⟨-, -, -, q, -⟩ | ⟨-, -, -, q, -⟩
        · exact absurd q k1
        · omega
        · exact q
      rw [if_pos (show (if (f_X0_kindOf tp fr a) = 4 then true else (if (f_X0_kindOf tp fr b) = 4 then true else false)) = true by rw [if_neg k1, if_pos k2]), if_neg k1, if_pos k2, if_neg (show ¬ p1 = p2 by omega), if_neg (show ¬ p2 ≤ p1 by omega)]; decide
    · rw [if_neg (show ¬ (if (f_X0_kindOf tp fr a) = 4 then true else (if (f_X0_kindOf tp fr b) = 4 then true else false)) = true by rw [if_neg k1, if_neg k2]; exact Bool.false_ne_true)]
      rcases H1 with ⟨q, -⟩ | ⟨-, n1, -, q1, r1⟩ | ⟨-, n1, -, q1, r1, m1, z1, P1, C1⟩
      · exact absurd q k1
      · rw [n1, if_neg (show ¬ (1 : Int32) = 0 by decide), if_pos rfl]
        rcases H2 with ⟨q, -⟩ | ⟨-, n2, -, q2, r2⟩ | ⟨-, n2, -, q2, r2, -⟩
        · exact absurd q k2
        · rw [n2, if_neg (show ¬ (1 : Int32) = 0 by decide), if_pos (show p1 = p2 by rw [q1, q2]), r1, r2, cmpN_eq]; decide
        · rw [n2, if_pos rfl, q1, r1]
          by_cases c : 0 = p2
          · rw [if_pos c, cmpN_lt r2]; decide
          · rw [if_neg c, if_neg (show ¬ p2 ≤ 0 by omega)]; decide
      · rcases H2 with ⟨q, -⟩ | ⟨-, n2, -, q2, r2⟩ | ⟨-, n2, -, q2, r2, m2, z2, P2, C2⟩
        · exact absurd q k2
        · rw [n1, n2, if_pos rfl, if_neg (show ¬ (1 : Int32) = 0 by decide), if_pos rfl, if_neg (show ¬ (1 : Int32) = 0 by decide), q2, r2]
          by_cases c : p1 = 0
          · rw [if_pos c, cmpN_gt r1]; decide
          · rw [if_neg c, if_pos (Nat.zero_le p1)]; decide
        · rw [n1, n2, if_pos rfl, if_pos rfl, if_neg Bool.false_ne_true, lp139_eq, lp_full C1, lp_full C2]
          obtain ⟨-, -, hP1, hP1', hz1, a1, a2, D1⟩ := C1
          obtain ⟨-, -, hP2, hP2', hz2, b1, b2, D2⟩ := C2
          dsimp only
          rw [cs_ref a2 b2 a1 b1, ← cs_num a1 a2 b1 b2 hP1 hP2 D1 D2]
          clear D1 D2 q1 q2 r1 r2 a1 a2 b1 b2
          by_cases c : (P1 : Int) - z1 = P2 - z2
          · rw [if_pos (show nI P1 - nI z1 = nI P2 - nI z2 from Int32.toInt_inj.mp (by rw [pz_ti hP1' hz1, pz_ti hP2' hz2]; exact c)), if_pos c]
          · rw [if_neg (show ¬ nI P1 - nI z1 = nI P2 - nI z2 from fun q => c (by rw [← pz_ti hP1' hz1, ← pz_ti hP2' hz2, q])), if_neg c]
            by_cases c2 : (P2 : Int) - z2 ≤ P1 - z1
            · rw [if_pos (show nI P2 - nI z2 ≤ nI P1 - nI z1 by rw [Int32.le_iff_toInt_le, pz_ti hP1' hz1, pz_ti hP2' hz2]; exact c2), if_pos c2]
            · rw [if_neg (show ¬ nI P2 - nI z2 ≤ nI P1 - nI z1 by rw [Int32.le_iff_toInt_le, pz_ti hP1' hz1, pz_ti hP2' hz2]; exact c2), if_neg c2]
theorem sg_eq {tp : Nat → Int32} {fr : Nat → Int64} {r : Int32} (h : m_tok tp) (hr : vp_in r 8) (h5 : ¬ f_X0_kindOf tp fr r = 5) : f_X0_signum tp fr r = (if (f_X1_isNothing tp fr r) = 0 then (if (tp r.toNatClampNeg) ≤ 32767 then 1 else (-1)) else 0) := by
  obtain ⟨pp, g, -, -, -, H⟩ := plain h hr h5
  have hneg : (if (f_X0_isNegative tp r) = 0 then 1 else (-1) : Int32) = (if (tp r.toNatClampNeg) ≤ 32767 then 1 else (-1)) := by
    rw [e_neg h hr]
    by_cases c : (tp r.toNatClampNeg) ≤ 32767
    · rw [if_pos c, if_pos c, if_pos rfl]
    · rw [if_neg c, if_neg c, if_neg (show ¬ (1 : Int32) = 0 by decide)]
  unfold f_X0_signum
  rw [hneg]
  rcases H with ⟨k, n, -⟩ | ⟨k, n, l, -⟩ | ⟨k, n, l, -⟩
  · rw [n, if_pos k, if_neg Bool.false_ne_true, if_pos rfl]
  · rw [n, if_neg k, if_pos l, if_pos rfl, if_neg (show ¬ (1 : Int32) = 0 by decide)]
  · rw [n, if_neg k, if_neg l, if_neg Bool.false_ne_true, if_pos rfl]
theorem rl_compare {x : XS} {u : MS} {fo : Nat → Int64} (hR : RL9 x u) (a1 a2 : Int32) : f_X1_thrown (f_X1_compare u.1 u.2.1 u.2.2.1 u.2.2.2.1 u.2.2.2.2.1 u.2.2.2.2.2.1 u.2.2.2.2.2.2.1 u.2.2.2.2.2.2.2.1 u.2.2.2.2.2.2.2.2.1 u.2.2.2.2.2.2.2.2.2.1 u.2.2.2.2.2.2.2.2.2.2.1 u.2.2.2.2.2.2.2.2.2.2.2.1 u.2.2.2.2.2.2.2.2.2.2.2.2.1 u.2.2.2.2.2.2.2.2.2.2.2.2.2.1 u.2.2.2.2.2.2.2.2.2.2.2.2.2.2 a1 a2).2.2.2.2.1 = (f_L_compare fo x.1 x.2.1 x.2.2.1 x.2.2.2.1 x.2.2.2.2.1 x.2.2.2.2.2 a1 a2).1 ∧ RL9 (f_L_compare fo x.1 x.2.1 x.2.2.1 x.2.2.2.1 x.2.2.2.2.1 x.2.2.2.2.2 a1 a2).2.1 (f_X1_compare u.1 u.2.1 u.2.2.1 u.2.2.2.1 u.2.2.2.2.1 u.2.2.2.2.2.1 u.2.2.2.2.2.2.1 u.2.2.2.2.2.2.2.1 u.2.2.2.2.2.2.2.2.1 u.2.2.2.2.2.2.2.2.2.1 u.2.2.2.2.2.2.2.2.2.2.1 u.2.2.2.2.2.2.2.2.2.2.2.1 u.2.2.2.2.2.2.2.2.2.2.2.2.1 u.2.2.2.2.2.2.2.2.2.2.2.2.2.1 u.2.2.2.2.2.2.2.2.2.2.2.2.2.2 a1 a2).2 ∧ ((f_L_compare fo x.1 x.2.1 x.2.2.1 x.2.2.2.1 x.2.2.2.2.1 x.2.2.2.2.2 a1 a2).1 = 0 → (f_L_compare fo x.1 x.2.1 x.2.2.1 x.2.2.2.1 x.2.2.2.2.1 x.2.2.2.2.2 a1 a2).2.2 (0 : Int32).toNatClampNeg = Int32.toInt64 (f_X1_compare u.1 u.2.1 u.2.2.1 u.2.2.2.1 u.2.2.2.2.1 u.2.2.2.2.2.1 u.2.2.2.2.2.2.1 u.2.2.2.2.2.2.2.1 u.2.2.2.2.2.2.2.2.1 u.2.2.2.2.2.2.2.2.2.1 u.2.2.2.2.2.2.2.2.2.2.1 u.2.2.2.2.2.2.2.2.2.2.2.1 u.2.2.2.2.2.2.2.2.2.2.2.2.1 u.2.2.2.2.2.2.2.2.2.2.2.2.2.1 u.2.2.2.2.2.2.2.2.2.2.2.2.2.2 a1 a2).1) := by
  obtain ⟨ft, ff, w, lt, lk, lc⟩ := x
  obtain ⟨tp, fr, bi, cd, ct, wt, fi, mn, wh, fu, tl, gr, sd, mt, mf⟩ := u
  obtain ⟨h1, h2, h3, h4, h5, h6, h7, h8⟩ := hR
  dsimp only at h1 h2 h3 h4 h5 h6 h7 h8 ⊢
  subst h1 h2 h3 h4 h5 h6
  by_cases er : f_X0_isNoRegister a1 = 0 ∧ f_X0_isNoRegister a2 = 0
  · obtain ⟨er1, er2⟩ := er
    have hr1 := x_reg er1
    have hr2 := x_reg er2
    have hc1 : ¬ (if (f_X0_isNoRegister a1) = 0 then (if (f_X0_isNoRegister a2) = 0 then false else true) else true) = true := by
      rw [if_pos er1, if_pos er2]; exact Bool.false_ne_true
    have hc2 : ((if (f_X0_isNoRegister a1) = 0 then (if (f_X0_isNoRegister a2) = 0 then 0 else 1) else 1) : Int32) = 0 := by
      rw [if_pos er1, if_pos er2]
    have key : ∃ r, f_X0_compare tp fr ct tl gr sd a1 a2 = (0, r, tp, fr, ct, tl, gr, sd) ∧ f_X1_compare tp fr bi cd ct wt fi mn wh fu tl gr sd mt mf a1 a2 = (r, (tp, fr, bi, 0, ct, wt, fi, mn, wh, fu, tl, gr, sd, mt, mf)) := by
      unfold f_X0_compare f_X1_compare
      rw [e_none, e_none, hc2, if_neg hc1, if_pos (show (0 : Int32) ≤ 0 by decide), e_kind h8 hr1, e_kind h8 hr2]
      by_cases k5 : (if (f_X0_kindOf tp fr a1) = 5 then true else (if (f_X0_kindOf tp fr a2) = 5 then true else false)) = true
      · rw [if_pos k5, if_pos k5]
        exact ⟨2, rfl, rfl⟩
      · have k51 : ¬ f_X0_kindOf tp fr a1 = 5 := fun q => k5 (by rw [if_pos q])
        have k52 : ¬ f_X0_kindOf tp fr a2 = 5 := fun q => k5 (by rw [if_neg k51, if_pos q])
        rw [if_neg k5, if_neg k5, ← sg_eq h8 hr1 k51, ← sg_eq h8 hr2 k52, cs_eq h8 hr1 hr2 k51 k52]
        by_cases s : f_X0_signum tp fr a1 = f_X0_signum tp fr a2
        · rw [if_pos s, if_pos s]
          exact ⟨_, rfl, rfl⟩
        · rw [if_neg s, if_neg s]
          exact ⟨_, rfl, rfl⟩
    obtain ⟨r, hX, hM⟩ := key
    have hL : f_L_compare fo tp fr ct tl gr sd a1 a2 = (0, ((tp, fr, ct, tl, gr, sd), vp_updL fo (0 : Int32).toNatClampNeg (Int32.toInt64 r))) := by unfold f_L_compare; rw [hX]; rfl
    rw [hL, hM]
    exact ⟨rfl, ⟨rfl, rfl, rfl, rfl, rfl, rfl, h7, h8⟩, fun _ => e_o fo _⟩
  · have hc1 : (if (f_X0_isNoRegister a1) = 0 then (if (f_X0_isNoRegister a2) = 0 then false else true) else true) = true := by
      by_cases q1 : f_X0_isNoRegister a1 = 0
      · rw [if_pos q1, if_neg (fun q2 => er ⟨q1, q2⟩)]
      · rw [if_neg q1]
    have hc2 : ((if (f_X0_isNoRegister a1) = 0 then (if (f_X0_isNoRegister a2) = 0 then 0 else 1) else 1) : Int32) = 1 := by
      by_cases q1 : f_X0_isNoRegister a1 = 0
      · rw [if_pos q1, if_neg (fun q2 => er ⟨q1, q2⟩)]
      · rw [if_neg q1]
    have hX : f_X0_compare tp fr ct tl gr sd a1 a2 = (1, 0, tp, fr, ct, tl, gr, sd) := by unfold f_X0_compare; rw [if_pos hc1]
    have hM : f_X1_compare tp fr bi cd ct wt fi mn wh fu tl gr sd mt mf a1 a2 = (0, (tp, fr, bi, 1, ct, wt, fi, mn, wh, fu, tl, gr, sd, mt, mf)) := by
      unfold f_X1_compare
      rw [e_none, e_none, hc2, if_neg (show ¬ (1 : Int32) ≤ 0 by decide)]
    have hL : f_L_compare fo tp fr ct tl gr sd a1 a2 = (1, ((tp, fr, ct, tl, gr, sd), fo)) := by unfold f_L_compare; rw [hX]; rfl
    rw [hL, hM]
    exact ⟨rfl, ⟨rfl, rfl, rfl, rfl, rfl, rfl, h7, h8⟩, fun h => absurd h (show ¬ (1 : Int32) = 0 by decide)⟩
