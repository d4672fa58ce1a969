/-! make -/
theorem mk_code (a3 : Int32) : ((if a3 < (-33000) then true else (if a3 ≤ 33000 then false else true)) = true ∧ (if a3 < (-33000) then 2 else (if a3 ≤ 33000 then 0 else 2) : Int32) = 2) ∨ (¬ (if a3 < (-33000) then true else (if a3 ≤ 33000 then false else true)) = true ∧ (if a3 < (-33000) then 2 else (if a3 ≤ 33000 then 0 else 2) : Int32) = 0 ∧ -33000 ≤ a3.toInt ∧ a3.toInt ≤ 33000) := by
  by_cases c1 : a3 < (-33000)
  · left
    rw [if_pos c1, if_pos c1]
    exact ⟨rfl, rfl⟩
  · by_cases c2 : a3 ≤ 33000
    · right
      rw [if_neg c1, if_neg c1, if_pos c2, if_pos c2]
      rw [Int32.lt_iff_toInt_lt] at c1
      rw [Int32.le_iff_toInt_le] at c2
      have e1 : (-33000 : Int32).toInt = -33000 := rfl
      have e2 : (33000 : Int32).toInt = 33000 := rfl
      exact ⟨Bool.false_ne_true, rfl, by omega, by omega⟩
    · left
      rw [if_neg c1, if_neg c1, if_neg c2, if_neg c2]
      exact ⟨rfl, rfl⟩
theorem mk_L (a8 : Int32) : ∃ l, l < 2 ∧ (if a8 = 0 then 0 else 1 : Int32) = nI l ∧ (if a8 = 0 then 0 else (-9223372036854775808) : Int64) = lN (l * 2 ^ 63) := by
  by_cases c : a8 = 0
  · exact ⟨0, by decide, by rw [if_pos c]; rfl, by rw [if_pos c]; rfl⟩
  · exact ⟨1, by decide, by rw [if_neg c]; rfl, by rw [if_neg c]; rfl⟩
theorem mk_bi {A B C D l : Nat} {bi : Nat → Int32} {y : Int32} (hA : A < 2 ^ 32) (hB : B < 2 ^ 32) (hC : C < 2 ^ 32) (hD : D < 2 ^ 32) (hl : l < 2) (hy : y = nI l) : bok (upd ((lp_X1_make_44 (nI A) (nI B) (nI C) (nI D) 129 (0, bi)).2) ((128 : Int32).toNatClampNeg) y) ∧ bvN (upd ((lp_X1_make_44 (nI A) (nI B) (nI C) (nI D) 129 (0, bi)).2) ((128 : Int32).toNatClampNeg) y) 129 = 2 * ((A * 2 ^ 32 + B) * 2 ^ 64 + (C * 2 ^ 32 + D)) + l := by
  have e128 : ((128 : Int32).toNatClampNeg) = 128 := by decide
  rw [e128]
  refine mk_V hA hB hC hD hl (fun i hi => ?_) ?_
  · unfold upd
    rw [if_neg (show ¬ i = 128 by omega)]
    have h := lp44 (A := A) (B := B) (C := C) (D := D) 129 0 bi (by omega) (by omega) i
    rw [if_pos (show 0 ≤ i ∧ i < 128 by omega), nI_0] at h
    exact h
  · unfold upd
    rw [if_pos rfl, hy]
theorem rl_make {x : XS} {u : MS} {fo : Nat → Int64} (hR : RL9 x u) (a1 a2 a3 a4 a5 a6 a7 a8 : Int32) : f_X1_thrown (f_X1_make u.1 u.2.1 u.2.2.1 u.2.2.2.1 u.2.2.2.2.1 u.2.2.2.2.2.1 u.2.2.2.2.2.2.1 u.2.2.2.2.2.2.2.1 u.2.2.2.2.2.2.2.2.1 u.2.2.2.2.2.2.2.2.2.1 u.2.2.2.2.2.2.2.2.2.2.1 u.2.2.2.2.2.2.2.2.2.2.2.1 u.2.2.2.2.2.2.2.2.2.2.2.2.1 u.2.2.2.2.2.2.2.2.2.2.2.2.2.1 u.2.2.2.2.2.2.2.2.2.2.2.2.2.2 a1 a2 a3 a4 a5 a6 a7 a8).2.2.2.2.1 = (f_L_make fo x.1 x.2.1 x.2.2.1 x.2.2.2.1 x.2.2.2.2.1 x.2.2.2.2.2 a1 a2 a3 a4 a5 a6 a7 a8).1 ∧ RL9 (f_L_make fo x.1 x.2.1 x.2.2.1 x.2.2.2.1 x.2.2.2.2.1 x.2.2.2.2.2 a1 a2 a3 a4 a5 a6 a7 a8).2.1 (f_X1_make u.1 u.2.1 u.2.2.1 u.2.2.2.1 u.2.2.2.2.1 u.2.2.2.2.2.1 u.2.2.2.2.2.2.1 u.2.2.2.2.2.2.2.1 u.2.2.2.2.2.2.2.2.1 u.2.2.2.2.2.2.2.2.2.1 u.2.2.2.2.2.2.2.2.2.2.1 u.2.2.2.2.2.2.2.2.2.2.2.1 u.2.2.2.2.2.2.2.2.2.2.2.2.1 u.2.2.2.2.2.2.2.2.2.2.2.2.2.1 u.2.2.2.2.2.2.2.2.2.2.2.2.2.2 a1 a2 a3 a4 a5 a6 a7 a8).2 ∧ ((f_L_make fo x.1 x.2.1 x.2.2.1 x.2.2.2.1 x.2.2.2.2.1 x.2.2.2.2.2 a1 a2 a3 a4 a5 a6 a7 a8).1 = 0 → (f_L_make fo x.1 x.2.1 x.2.2.1 x.2.2.2.1 x.2.2.2.2.1 x.2.2.2.2.2 a1 a2 a3 a4 a5 a6 a7 a8).2.2 (0 : Int32).toNatClampNeg = Int32.toInt64 (f_X1_make u.1 u.2.1 u.2.2.1 u.2.2.2.1 u.2.2.2.2.1 u.2.2.2.2.2.1 u.2.2.2.2.2.2.1 u.2.2.2.2.2.2.2.1 u.2.2.2.2.2.2.2.2.1 u.2.2.2.2.2.2.2.2.2.1 u.2.2.2.2.2.2.2.2.2.2.1 u.2.2.2.2.2.2.2.2.2.2.2.1 u.2.2.2.2.2.2.2.2.2.2.2.2.1 u.2.2.2.2.2.2.2.2.2.2.2.2.2.1 u.2.2.2.2.2.2.2.2.2.2.2.2.2.2 a1 a2 a3 a4 a5 a6 a7 a8).1) := by
  obtain ⟨ft, ff, w, lt, lk, lc⟩ := x
  obtain ⟨tp, fr, bi, cd, ct, wt, fi, mn, wh, fu, tl, gr, sd, mt, mf⟩ := u
  obtain ⟨h1, h2, h3, h4, h5, h6, h7, h8⟩ := hR
  dsimp only at h1 h2 h3 h4 h5 h6 h7 h8 ⊢
  subst h1 h2 h3 h4 h5 h6
  have h79 := h7
  obtain ⟨v, hv, ev⟩ := h7
  rcases e_01 a1 with er | er
  · rcases mk_code a3 with ⟨q1, q2⟩ | ⟨q1, q2, q3, q4⟩
    · have hX : f_X0_make tp fr ct tl gr sd a1 a2 a3 a4 a5 a6 a7 a8 = (2, 0, tp, fr, ct, tl, gr, sd) := by unfold f_X0_make; rw [if_pos er, if_pos q1]
      have hM : f_X1_make tp fr bi cd ct wt fi mn wh fu tl gr sd mt mf a1 a2 a3 a4 a5 a6 a7 a8 = (0, (tp, fr, bi, 2, ct, wt, fi, mn, wh, fu, tl, gr, sd, mt, mf)) := by
        unfold f_X1_make
        rw [e_none, if_pos er, q2, if_neg (show ¬ (2 : Int32) ≤ 0 by decide)]
      have hL : f_L_make fo tp fr ct tl gr sd a1 a2 a3 a4 a5 a6 a7 a8 = (2, ((tp, fr, ct, tl, gr, sd), fo)) := by unfold f_L_make; rw [hX]; rfl
      rw [hL, hM]
      exact ⟨rfl, ⟨rfl, rfl, rfl, rfl, rfl, rfl, h79, h8⟩, fun h => absurd h (show ¬ (2 : Int32) = 0 by decide)⟩
    · obtain ⟨A, hA, rfl⟩ := wb_of32 a4
      obtain ⟨B, hB, rfl⟩ := wb_of32 a5
      obtain ⟨C, hC, rfl⟩ := wb_of32 a6
      obtain ⟨D, hD, rfl⟩ := wb_of32 a7
      obtain ⟨l, hl, el1, el2⟩ := mk_L a8
      subst ev
      have ewt : (a3 + 127).toInt = a3.toInt + 127 := by
        rw [m_add (by omega) (by decide)]; rfl
      obtain ⟨hb, hV⟩ := mk_bi (bi := bi) hA hB hC hD hl el1
      obtain ⟨H, T, kk, hT, hsz, ek⟩ := mk_X (u := (tp, fr, nI v, tl, gr, sd)) (a1 := a1) (a2 := a2) (wt := a3 + 127) (F := A * 2 ^ 32 + B) (S := C * 2 ^ 32 + D) (l := l) (by omega) (by omega) hl
      obtain ⟨told, chg, k9, top, frac, fi9, wh9, fu9, e1, e2, e3, e4⟩ := core_all (tp := tp) (fr := fr) (cd := 0) (fi := fi) (mn := a2) (wh := wh) (fu := fu) (tl := tl) (gr := gr) (sd := sd) (mt := mt) (mf := mf) (lt := tl) (lk := gr) (lc := sd) (r := a1) hv hb (by rw [ewt]; omega) hV hT hsz
      have hX : f_X0_make tp fr (nI v) tl gr sd a1 a2 a3 (nI A) (nI B) (nI C) (nI D) a8 = (0, told, upd tp a1.toNatClampNeg top, vp_updL fr a1.toNatClampNeg frac, nI v, told, k9, chg) := by
        unfold f_X0_make
        rw [if_pos er, if_neg q1, px_join hA hB, px_join hC hD, el2]
        exact ek.trans (congrArg (fun y => ((0 : Nat), y)) e1)
      have hM : f_X1_make tp fr bi cd (nI v) wt fi mn wh fu tl gr sd mt mf a1 a2 a3 (nI A) (nI B) (nI C) (nI D) a8 = (told, (upd tp a1.toNatClampNeg top, vp_updL fr a1.toNatClampNeg frac, (upd ((lp_X1_make_44 (nI A) (nI B) (nI C) (nI D) 129 (0, bi)).2) ((128 : Int32).toNatClampNeg) (if a8 = 0 then 0 else 1)), 0, nI v, a3 + 127, fi9, a2, wh9, fu9, told, k9, chg, top, frac)) := by
        unfold f_X1_make
        rw [e_none, if_pos er, q2, if_pos (show (0 : Int32) ≤ 0 by decide), e2]
        rfl
      have hL : f_L_make fo tp fr (nI v) tl gr sd a1 a2 a3 (nI A) (nI B) (nI C) (nI D) a8 = (0, ((upd tp a1.toNatClampNeg top, vp_updL fr a1.toNatClampNeg frac, nI v, told, k9, chg), vp_updL fo (0 : Int32).toNatClampNeg (Int32.toInt64 told))) := by unfold f_L_make; rw [hX]; rfl
      rw [hL, hM]
      exact ⟨rfl, ⟨rfl, rfl, rfl, rfl, rfl, rfl, h79, m_tok_upd h8 e3 e4⟩, fun _ => e_o fo _⟩
  · have hX : f_X0_make tp fr ct tl gr sd a1 a2 a3 a4 a5 a6 a7 a8 = (1, 0, tp, fr, ct, tl, gr, sd) := by unfold f_X0_make; rw [er, if_neg (show ¬ (1 : Int32) = 0 by decide)]
    have hM : f_X1_make tp fr bi cd ct wt fi mn wh fu tl gr sd mt mf a1 a2 a3 a4 a5 a6 a7 a8 = (0, (tp, fr, bi, 1, ct, wt, fi, mn, wh, fu, tl, gr, sd, mt, mf)) := by
      unfold f_X1_make
      rw [e_none, er, if_neg (show ¬ (1 : Int32) = 0 by decide), if_neg (show ¬ (1 : Int32) ≤ 0 by decide)]
    have hL : f_L_make fo tp fr ct tl gr sd a1 a2 a3 a4 a5 a6 a7 a8 = (1, ((tp, fr, ct, tl, gr, sd), fo)) := by unfold f_L_make; rw [hX]; rfl
    rw [hL, hM]
    exact ⟨rfl, ⟨rfl, rfl, rfl, rfl, rfl, rfl, h79, h8⟩, fun h => absurd h (show ¬ (1 : Int32) = 0 by decide)⟩
