theorem nk4 {c : Prop} [Decidable c] {X : Bool} (k : ¬ c) : ¬ (if c then X else false) = true := by
  rw [if_neg k]; exact Bool.false_ne_true
theorem sg_ne {tp : Nat → Int32} {fr : Nat → Int64} {r : Int32} (h : m_tok tp) (hr : vp_in r 8) (h5 : ¬ f_X0_kindOf tp fr r = 5) (n : f_X1_isNothing tp fr r = 0) : ¬ f_X0_signum tp fr r = 0 := by
  rw [sg_eq h hr h5, n, if_pos rfl]
  by_cases c : (tp r.toNatClampNeg) ≤ 32767
  · rw [if_pos c]; decide
  · rw [if_neg c]; decide
theorem sg_z {tp : Nat → Int32} {fr : Nat → Int64} {r : Int32} (h : m_tok tp) (hr : vp_in r 8) (h5 : ¬ f_X0_kindOf tp fr r = 5) (n : f_X1_isNothing tp fr r = 1) : f_X0_signum tp fr r = 0 := by
  rw [sg_eq h hr h5, n, if_neg (show ¬ (1 : Int32) = 0 by decide)]
theorem nb_155 {u : MS} {a1 a2 a3 ng x8 : Int32} {Q g : Nat} {x6 : Int64} (hk : f_X1_kind u.1 u.2.1 a1 = 4 → lp_X1_neighbour_182 65 (f_X1_powerOf u.1 a1, (-9223372036854775808)) = (nI Q, lN g)) (hk9 : ¬ f_X1_kind u.1 u.2.1 a1 = 4 → lp_X1_neighbour_182 65 (f_X1_powerOf u.1 a1, x6) = (nI Q, lN g)) : k_X1_neighbour_155 u a1 a2 a3 ng ((u.1 a1.toNatClampNeg) - (u.1 a1.toNatClampNeg) / 32768 * 32768) x6 x8 = k_X1_neighbour_209 u a3 ng (nI Q) (lN g) x8 := by
  unfold f_X1_powerOf at hk hk9
  unfold k_X1_neighbour_155 k_X1_neighbour_169
  by_cases c : f_X1_kind u.1 u.2.1 a1 = 4
  · rw [if_pos c, hk c]
  · rw [if_neg c, hk9 c]
theorem nb_key {tp : Nat → Int32} {fr : Nat → Int64} {bi : Nat → Int32} {cd ct wt fi mn : Int32} {wh : Int64} {fu tl gr sd mt : Int32} {mf : Int64} {a1 a2 a3 : Int32} (h8 : m_tok tp) (er1 : f_X0_isNoRegister a1 = 0) (er3 : f_X0_isNoRegister a3 = 0) : ∃ top frac, f_X0_neighbour tp fr ct tl gr sd a1 a2 a3 = (0, (upd tp a3.toNatClampNeg top), (vp_updL fr a3.toNatClampNeg frac), ct, tl, gr, sd) ∧ f_X1_neighbour tp fr bi cd ct wt fi mn wh fu tl gr sd mt mf a1 a2 a3 = ((upd tp a3.toNatClampNeg top), (vp_updL fr a3.toNatClampNeg frac), bi, 0, ct, wt, fi, mn, wh, fu, tl, gr, sd, mt, mf) ∧ 0 ≤ top.toInt ∧ top.toInt < 65536 := by
  have hr1 := x_reg er1
  have hc1 : ¬ (if (f_X0_isNoRegister a1) = 0 then (if (f_X0_isNoRegister a3) = 0 then false else true) else true) = true := by
    rw [if_pos er1, if_pos er3]; exact Bool.false_ne_true
  have hc2 : ((if (f_X0_isNoRegister a1) = 0 then (if (f_X0_isNoRegister a3) = 0 then 0 else 1) else 1) : Int32) = 0 := by
    rw [if_pos er1, if_pos er3]
  have htop : 0 ≤ (tp a1.toNatClampNeg).toInt ∧ (tp a1.toNatClampNeg).toInt < 65536 := by
    obtain ⟨v0, hv0, e0⟩ := e_top h8 hr1
    rw [e0]; exact e_vI hv0
  unfold f_X0_neighbour f_X1_neighbour
  rw [e_none, e_none, hc2, if_neg hc1, if_pos (show (0 : Int32) ≤ 0 by decide), e_kind h8 hr1, e_neg h8 hr1]
  by_cases k5 : f_X0_kindOf tp fr a1 = 5
  · rw [if_pos k5, if_pos k5]
    exact ⟨_, _, rfl, rfl, htop⟩
  · rw [if_neg k5, if_neg k5]
    obtain ⟨pp, g, hg, ep, eg, H⟩ := plain h8 hr1 k5
    generalize hng : (if (tp a1.toNatClampNeg) ≤ 32767 then 0 else 1 : Int32) = ng
    rcases H with ⟨k, n, hpw, hpp, hgg⟩ | ⟨k, n, -, -, -⟩ | ⟨k, n, -, hpp, -, n1, z1, P1, C1⟩
    · rw [if_pos k, if_pos k]
      by_cases d : a2 = ng
      · rw [if_neg (show ¬ (if ((if a2 = ng then 0 else 1) : Int32) = 0 then false else true) = true by rw [if_pos d, if_pos rfl]; exact Bool.false_ne_true), if_neg (show ¬ (if ng = a2 then false else true) = true by rw [if_pos d.symm]; exact Bool.false_ne_true), if_neg (sg_ne h8 hr1 k5 n), n, if_pos (show (0 : Int32) = 0 from rfl), if_pos (show ((if a2 = ng then 0 else 1) : Int32) = 0 by rw [if_pos d]), show ((if ng = a2 then 0 else 1) : Int32) = 0 by rw [if_pos d.symm]]
        have e155 : k_X1_neighbour_155 (tp, fr, bi, 0, ct, wt, fi, mn, wh, fu, tl, gr, sd, mt, mf) a1 a2 a3 ng ((tp a1.toNatClampNeg) - (tp a1.toNatClampNeg) / 32768 * 32768) (fr a1.toNatClampNeg) 0 = k_X1_neighbour_209 (tp, fr, bi, 0, ct, wt, fi, mn, wh, fu, tl, gr, sd, mt, mf) a3 ng (nI 32767) (lN g) 0 := nb_155 (u := (tp, fr, bi, 0, ct, wt, fi, mn, wh, fu, tl, gr, sd, mt, mf)) (fun _ => by
          show lp_X1_neighbour_182 65 (f_X1_powerOf tp a1, (-9223372036854775808)) = _
          rw [hpw, hgg]; exact nb_lp4) (fun q => absurd ((e_kind h8 hr1).trans k) q)
        obtain ⟨yy, frac, hy, eS, eK⟩ := nb_L (ft := tp) (ff := fr) (w := ct) (lt := tl) (lk := gr) (lc := sd) (u := (tp, fr, bi, 0, ct, wt, fi, mn, wh, fu, tl, gr, sd, mt, mf)) (a3 := a3) (ng := ng) (pp := pp) (g := g) (Q := 32767) hg (by decide) (Or.inl ⟨hpp, by decide, by rw [hgg]; exact Nat.le_refl _⟩)
        rw [ep, eg, eS, e155, eK, e_orp hy]
        exact ⟨_, frac, rfl, rfl, nb_tok hy⟩
      · rw [if_pos (show (if ((if a2 = ng then 0 else 1) : Int32) = 0 then false else true) = true by rw [if_neg d, if_neg (show ¬ (1 : Int32) = 0 by decide)]), if_pos (show (if ng = a2 then false else true) = true by rw [if_neg (fun q => d q.symm)])]
        exact ⟨_, _, rfl, rfl, htop⟩
    · rw [if_neg (nk4 k), if_neg (nk4 k), if_pos (sg_z h8 hr1 k5 n), n, if_neg (show ¬ (1 : Int32) = 0 by decide), (sg0 (if a2 = 0 then 1 else 0)).1]
      exact ⟨_, _, rfl, rfl, (sg0 (if a2 = 0 then 1 else 0)).2⟩
    · rw [if_neg (nk4 k), if_neg (nk4 k), if_neg (sg_ne h8 hr1 k5 n), n, if_pos (show (0 : Int32) = 0 from rfl)]
      obtain ⟨Q, hQ, hH, eQ⟩ := nb_lpC C1
      have e155 : ∀ x8, k_X1_neighbour_155 (tp, fr, bi, 0, ct, wt, fi, mn, wh, fu, tl, gr, sd, mt, mf) a1 a2 a3 ng ((tp a1.toNatClampNeg) - (tp a1.toNatClampNeg) / 32768 * 32768) (fr a1.toNatClampNeg) x8 = k_X1_neighbour_209 (tp, fr, bi, 0, ct, wt, fi, mn, wh, fu, tl, gr, sd, mt, mf) a3 ng (nI Q) (lN g) x8 := fun x8 => nb_155 (u := (tp, fr, bi, 0, ct, wt, fi, mn, wh, fu, tl, gr, sd, mt, mf)) (fun q => absurd ((e_kind h8 hr1).symm.trans q) k) (fun _ => eQ)
      by_cases d : a2 = ng
      · rw [if_pos (show ((if a2 = ng then 0 else 1) : Int32) = 0 by rw [if_pos d]), show ((if ng = a2 then 0 else 1) : Int32) = 0 by rw [if_pos d.symm]]
        obtain ⟨yy, frac, hy, eS, eK⟩ := nb_L (ft := tp) (ff := fr) (w := ct) (lt := tl) (lk := gr) (lc := sd) (u := (tp, fr, bi, 0, ct, wt, fi, mn, wh, fu, tl, gr, sd, mt, mf)) (a3 := a3) (ng := ng) (pp := pp) (g := g) (Q := Q) hg (Nat.le_trans hQ (by decide)) hH
        rw [ep, eg, eS, e155, eK, e_orp hy]
        exact ⟨_, frac, rfl, rfl, nb_tok hy⟩
      · rw [if_neg (show ¬ ((if a2 = ng then 0 else 1) : Int32) = 0 by rw [if_neg d]; decide), show ((if ng = a2 then 0 else 1) : Int32) = 1 by rw [if_neg (fun q => d q.symm)]]
        obtain ⟨yy, frac, hy, eS, eK⟩ := nb_G (ft := tp) (ff := fr) (w := ct) (lt := tl) (lk := gr) (lc := sd) (u := (tp, fr, bi, 0, ct, wt, fi, mn, wh, fu, tl, gr, sd, mt, mf)) (a3 := a3) (ng := ng) (pp := pp) (g := g) (Q := Q) hg hQ hH
        rw [ep, eg, eS, e155, eK, e_orp hy]
        exact ⟨_, frac, rfl, rfl, nb_tok hy⟩
theorem rl_neighbour {x : XS} {u : MS} (hR : RL9 x u) (a1 a2 a3 : Int32) : f_X1_thrown (f_X1_neighbour u.1 u.2.1 u.2.2.1 u.2.2.2.1 u.2.2.2.2.1 u.2.2.2.2.2.1 u.2.2.2.2.2.2.1 u.2.2.2.2.2.2.2.1 u.2.2.2.2.2.2.2.2.1 u.2.2.2.2.2.2.2.2.2.1 u.2.2.2.2.2.2.2.2.2.2.1 u.2.2.2.2.2.2.2.2.2.2.2.1 u.2.2.2.2.2.2.2.2.2.2.2.2.1 u.2.2.2.2.2.2.2.2.2.2.2.2.2.1 u.2.2.2.2.2.2.2.2.2.2.2.2.2.2 a1 a2 a3).2.2.2.1 = (f_L_neighbour x.1 x.2.1 x.2.2.1 x.2.2.2.1 x.2.2.2.2.1 x.2.2.2.2.2 a1 a2 a3).1 ∧ RL9 (f_L_neighbour x.1 x.2.1 x.2.2.1 x.2.2.2.1 x.2.2.2.2.1 x.2.2.2.2.2 a1 a2 a3).2 (f_X1_neighbour u.1 u.2.1 u.2.2.1 u.2.2.2.1 u.2.2.2.2.1 u.2.2.2.2.2.1 u.2.2.2.2.2.2.1 u.2.2.2.2.2.2.2.1 u.2.2.2.2.2.2.2.2.1 u.2.2.2.2.2.2.2.2.2.1 u.2.2.2.2.2.2.2.2.2.2.1 u.2.2.2.2.2.2.2.2.2.2.2.1 u.2.2.2.2.2.2.2.2.2.2.2.2.1 u.2.2.2.2.2.2.2.2.2.2.2.2.2.1 u.2.2.2.2.2.2.2.2.2.2.2.2.2.2 a1 a2 a3) := by
  obtain ⟨ft, ff, w, lt, lk, lc⟩ := x
  obtain ⟨tp, fr, bi, cd, ct, wt, fi, mn, wh, fu, tl, gr, sd, mt, mf⟩ := u
  obtain ⟨h1, h2, h3, h4, h5, h6, h7, h8⟩ := hR
  dsimp only at h1 h2 h3 h4 h5 h6 h7 h8 ⊢
  subst h1 h2 h3 h4 h5 h6
  by_cases er : f_X0_isNoRegister a1 = 0 ∧ f_X0_isNoRegister a3 = 0
  · obtain ⟨top, frac, hX, hM, e3, e4⟩ := nb_key (bi := bi) (cd := cd) (ct := ct) (wt := wt) (fi := fi) (mn := mn) (wh := wh) (fu := fu) (tl := tl) (gr := gr) (sd := sd) (mt := mt) (mf := mf) (fr := fr) (a2 := a2) h8 er.1 er.2
    have hL : f_L_neighbour tp fr ct tl gr sd a1 a2 a3 = (0, ((upd tp a3.toNatClampNeg top), (vp_updL fr a3.toNatClampNeg frac), ct, tl, gr, sd)) := by unfold f_L_neighbour; rw [hX]; rfl
    rw [hL, hM]
    exact ⟨rfl, rfl, rfl, rfl, rfl, rfl, rfl, h7, m_tok_upd h8 e3 e4⟩
  · have hc1 : (if (f_X0_isNoRegister a1) = 0 then (if (f_X0_isNoRegister a3) = 0 then false else true) else true) = true := by
      by_cases q1 : f_X0_isNoRegister a1 = 0
      · rw [if_pos q1, if_neg (fun q2 => er ⟨q1, q2⟩)]
      · rw [if_neg q1]
    have hc2 : ((if (f_X0_isNoRegister a1) = 0 then (if (f_X0_isNoRegister a3) = 0 then 0 else 1) else 1) : Int32) = 1 := by
      by_cases q1 : f_X0_isNoRegister a1 = 0
      · rw [if_pos q1, if_neg (fun q2 => er ⟨q1, q2⟩)]
      · rw [if_neg q1]
    have hX : f_X0_neighbour tp fr ct tl gr sd a1 a2 a3 = (1, tp, fr, ct, tl, gr, sd) := by unfold f_X0_neighbour; rw [if_pos hc1]
    have hM : f_X1_neighbour tp fr bi cd ct wt fi mn wh fu tl gr sd mt mf a1 a2 a3 = (tp, fr, bi, 1, ct, wt, fi, mn, wh, fu, tl, gr, sd, mt, mf) := by
      unfold f_X1_neighbour
      rw [e_none, e_none, hc2, if_neg (show ¬ (1 : Int32) ≤ 0 by decide)]
    have hL : f_L_neighbour tp fr ct tl gr sd a1 a2 a3 = (1, (tp, fr, ct, tl, gr, sd)) := by unfold f_L_neighbour; rw [hX]; rfl
    rw [hL, hM]
    exact ⟨rfl, rfl, rfl, rfl, rfl, rfl, rfl, h7, h8⟩
