set_option maxHeartbeats 400000 in
/-- a size that is not 0: the class's makeSize and the reference's make() leave the same -/
theorem core {tp : Nat → Int32} {fr : Nat → Int64} {bi : Nat → Int32} {cd wt fi mn : Int32} {wh : Int64} {fu tl gr sd mt : Int32} {mf : Int64} {lt lk lc r : Int32} {v V f H T : Nat} (hv : v < 65536) (hb : bok bi) (hw2 : -32873 ≤ wt.toInt ∧ wt.toInt ≤ 33127) (hV : bvN bi 129 = V) (hf : f < 129) (hfl : lp_X1_make0_20 bi 130 0 = nI f) (hf0 : bvN bi f = 0) (hH : H < 2 ^ 64) (hH1 : 2 ^ 63 ≤ H) (hT : T < 2 ^ 64) (hX : (1 ≤ f ∧ H * 2 ^ 64 + T = V * 2 ^ (f - 1)) ∨ (f = 0 ∧ H * 2 ^ 64 + T = (V / 2 ||| V % 2))) :
    ∃ told chg top frac wh' fu', f_X0_makeSize tp fr (nI v) lt lk lc r mn (wt - nI f) (lN H) (lN T) = (told, (upd tp r.toNatClampNeg top, vp_updL fr r.toNatClampNeg frac, nI v, told, wt - nI f, chg)) ∧ f_X1_make0 tp fr bi cd (nI v) wt fi mn wh fu tl gr sd mt mf = (tp, fr, bi, cd, nI v, wt, nI f, mn, wh', fu', told, wt - nI f, chg, top, frac) ∧ 0 ≤ top.toInt ∧ top.toInt < 65536 := by
  have hH0 : 0 < H := Nat.lt_of_lt_of_le (by decide) hH1
  have hw := core_wok hw2
  have kI := core_k hw hf
  have hne : ¬ nI f = 129 := fun q => by
    have := (nI_eq (a := f) (b := 129) (Nat.lt_trans hf (by decide)) (by decide)).mp q
    clear hX; omega
  have hL0 : ¬ lg_cmp (lN H) 0 = 0 := fun q => by
    have := (px_l0 hH).mp q
    clear hX; omega
  unfold f_X1_make0 f_X0_makeSize
  rw [hfl, if_neg hne, if_neg hL0]
  unfold k_X1_make0_72 f_X0_isMasked
  dsimp only
  rw [e_dgM hv]
  by_cases s : (-16382) ≤ (wt - nI f)
  · have hB := core_big (tp := tp) (fr := fr) (cd := cd) (mn := mn) (wh := wh) (fu := fu) (tl := 0) (gr := gr) (sd := 0) (mt := mt) (mf := mf) (lt := lt) (lk := lk) (lc := lc) (r := r) hv hb hw2 hV hf hf0 hH hH1 hT hX
    simp only [if_pos s, if_true, if_false, Bool.false_eq_true] at hB ⊢
    exact hB
  · by_cases m : (nI v &&& 16) = 0
    · have hB := core_big (tp := tp) (fr := fr) (cd := cd) (mn := mn) (wh := wh) (fu := fu) (tl := 0) (gr := gr) (sd := 0) (mt := mt) (mf := mf) (lt := lt) (lk := lk) (lc := lc) (r := r) hv hb hw2 hV hf hf0 hH hH1 hT hX
      simp only [if_neg s, if_pos m, if_true, if_false, Bool.false_eq_true, show ¬ (1 : Int32) = 0 by decide] at hB ⊢
      exact hB
    · have hs : wt.toInt - f < -16382 := by
        rw [Int32.le_iff_toInt_le, kI] at s
        have : (-16382 : Int32).toInt = -16382 := rfl
        clear hX; omega
      have hB := core_small (tp := tp) (fr := fr) (cd := cd) (mn := mn) (wh := wh) (fu := fu) (tl := 0) (gr := gr) (sd := 0) (mt := mt) (mf := mf) (lt := lt) (lk := lk) (lc := lc) (r := r) hv hb hw hV hf hf0 hH hH0 hT hX hs
      simp only [if_neg s, if_neg m, if_true, if_false, Bool.false_eq_true, show ¬ (1 : Int32) = 0 by decide] at hB ⊢
      exact hB
