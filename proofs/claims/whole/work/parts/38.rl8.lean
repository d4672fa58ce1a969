/-- what follows a full rounding: the power, what is told -/
theorem core_tail {tp : Nat → Int32} {fr : Nat → Int64} {bi : Nat → Int32} {cd wt fi mn : Int32} {wh : Int64} {fu tl gr sd mt : Int32} {mf : Int64} {lt lk lc r : Int32} {v n : Nat} {k k1 A : Int32} {L f1 : Int64} (hv : v < 65536) (hn : n = q_dg v) (hz : lg_cmp L 0 = 0 ↔ sd = 0) (hc : f_X0_changeOf L A = sd) (hk : -33001 ≤ k.toInt ∧ k.toInt ≤ 33127) (hk1 : k.toInt ≤ k1.toInt ∧ k1.toInt ≤ k.toInt + 1) :
    ∃ told chg top frac, k_X0_makeRounded_77 (tp, fr, nI v, lt, lk, lc) r mn k L A f1 k1 = (told, (upd tp r.toNatClampNeg top, vp_updL fr r.toNatClampNeg frac, nI v, told, k, chg)) ∧ k_X1_make0_327 (tp, fr, bi, cd, nI v, wt, fi, mn, wh, fu, tl, gr, sd, mt, mf) (nI n) k (if (-16382) ≤ k then 0 else 1) k1 f1 = (tp, fr, bi, cd, nI v, wt, fi, mn, wh, fu, told, gr, chg, top, frac) ∧ 0 ≤ top.toInt ∧ top.toInt < 65536 := by
  obtain ⟨p1, p2, p3, p4, p5⟩ := cb_a (k := k1) (by omega)
  have t0 : (if lg_cmp L 0 = 0 then 0 else 32 : Int32) = if sd = 0 then 0 else 32 := by
    by_cases z : sd = 0
    · rw [if_pos (hz.mpr z), if_pos z]
    · rw [if_neg (fun q => z (hz.mp q)), if_neg z]
  have m2 : (-16382 : Int32).toInt = -16382 := rfl
  have m3 : (16383 : Int32).toInt = 16383 := rfl
  have m4 : (16384 : Int32).toInt = 16384 := rfl
  unfold k_X0_makeRounded_77 k_X1_make0_327 k_X0_makeRounded_145
  dsimp only
  rw [t0, hc]
  by_cases s : (-16382) ≤ k
  · rw [if_pos s, if_pos s, if_pos rfl]
    rw [Int32.le_iff_toInt_le, m2] at s
    by_cases c : k1 ≤ 16383
    · rw [if_pos c]
      rw [Int32.le_iff_toInt_le, m3] at c
      rw [if_neg (show ¬ (16384 : Int32) ≤ k1 by rw [Int32.le_iff_toInt_le, m4]; omega)]
      obtain ⟨o1, o2, o3⟩ := cb_top (c := mn = 0) (x := k1 + 16383) (by omega) (by omega)
      rw [o1]
      exact ⟨_, _, _, _, rfl, rfl, o2, o3⟩
    · rw [if_neg c]
      rw [Int32.le_iff_toInt_le, m3] at c
      rw [if_pos (show (16384 : Int32) ≤ k1 by rw [Int32.le_iff_toInt_le, m4]; omega)]
      unfold f_X0_isMasked
      by_cases m8 : (nI v &&& 8) = 0
      · rw [if_pos m8, if_pos rfl, if_pos m8, p2]
        obtain ⟨o1, o2, o3⟩ := cb_top (c := mn = 0) (x := (k1 + 16383) - 24576) (by omega) (by omega)
        rw [o1]
        exact ⟨_, _, _, _, rfl, rfl, o2, o3⟩
      · rw [if_neg m8, if_neg (show ¬ (1 : Int32) = 0 by decide), if_neg m8]
        unfold f_X0_makeTooGreat
        have hx : nI n = 24 ∨ nI n = 53 ∨ nI n = 64 := by
          rcases e_dg v with e | e | e
          · left; rw [hn, e]; rfl
          · right; left; rw [hn, e]; rfl
          · right; right; rw [hn, e]; rfl
        by_cases w : (if f_X0_rounding (nI v) = 0 then true else (if f_X0_goesAway (nI v) mn = 0 then false else true)) = true
        · rw [if_pos w, if_neg ((cb_away hv mn).mp w), if_neg ((cb_away hv mn).mp w), if_neg ((cb_away hv mn).mp w)]
          obtain ⟨o1, o2, o3⟩ := cb_top (c := mn = 0) (x := 32767) (by decide) (by decide)
          rw [o1]
          exact ⟨_, _, _, _, rfl, rfl, o2, o3⟩
        · have w0 := Decidable.not_not.mp (fun q => w ((cb_away hv mn).mpr q))
          rw [if_neg w, if_pos w0, if_pos w0, if_pos w0, px_digits hv, ← hn, lp507 hx]
          obtain ⟨o1, o2, o3⟩ := cb_top (c := mn = 0) (x := 32766) (by decide) (by decide)
          rw [o1]
          exact ⟨_, _, _, _, rfl, rfl, o2, o3⟩
  · rw [if_neg s, if_neg s, if_neg (show ¬ (1 : Int32) = 0 by decide), p4]
    rw [Int32.le_iff_toInt_le, m2] at s
    obtain ⟨o1, o2, o3⟩ := cb_top (c := mn = 0) (x := (k1 + 16383) + 24576) (by omega) (by omega)
    rw [o1]
    exact ⟨_, _, _, _, rfl, rfl, o2, o3⟩
