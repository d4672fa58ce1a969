theorem core_wok {wt : Int32} (h : -32873 ≤ wt.toInt ∧ wt.toInt ≤ 33127) : m_wok wt := ⟨by omega, by omega⟩
theorem core_q2 {wt : Int32} {f n : Nat} (hw : m_wok wt) (hf : f < 129) (hn : n ≤ 64) : (((wt - nI f) + 1) - nI n).toInt = wt.toInt - f + 1 - n ∧ ((wt - nI f) + 1).toInt = wt.toInt - f + 1 := by
  have w1 := hw.1
  have w2 := hw.2
  have kI := core_k hw hf
  have e1 : (1 : Int32).toInt = 1 := rfl
  have eN : (nI n).toInt = n := nI_toInt (by omega)
  have a1 : ((wt - nI f) + 1).toInt = wt.toInt - f + 1 := by rw [m_add (by omega) (by rw [e1]; omega), kI, e1]
  exact ⟨by rw [m_sub (by omega) (by omega), a1, eN], a1⟩
theorem core_rok2 {wt : Int32} {f n : Nat} (hw : m_wok wt) (hf : f < 129) (hn : n ≤ 64) : m_rok (nI f) wt (((wt - nI f) + 1) - nI n) := by
  have w1 := hw.1
  have w2 := hw.2
  have eF : (nI f).toInt = f := nI_toInt (by omega)
  have qI := (core_q2 hw hf hn).1
  unfold m_rok
  rw [qI, eF]
  omega
theorem core_sd {z : Prop} [Decidable z] {B : Bool} : ((if z then 0 else if B then 1 else (-1)) : Int32) = 0 ↔ z := by
  by_cases c : z
  · rw [if_pos c]; exact ⟨fun _ => c, fun _ => rfl⟩
  · rw [if_neg c]; cases B
    · exact ⟨fun q => absurd q (by decide), fun q => absurd q c⟩
    · exact ⟨fun q => absurd q (by decide), fun q => absurd q c⟩
set_option maxHeartbeats 400000 in
theorem core_big {tp : Nat → Int32} {fr : Nat → Int64} {bi : Nat → Int32} {cd wt mn : Int32} {wh : Int64} {fu tl gr sd mt : Int32} {mf : Int64} {lt lk lc r : Int32} {v V f H T : Nat} (hv : v < 65536) (hb : bok bi) (hw2 : -32873 ≤ wt.toInt ∧ wt.toInt ≤ 33127) (hV : bvN bi 129 = V) (hf : f < 129) (hf0 : bvN bi f = 0) (hH : H < 2 ^ 64) (hH1 : 2 ^ 63 ≤ H) (hT : T < 2 ^ 64) (hX : (1 ≤ f ∧ H * 2 ^ 64 + T = V * 2 ^ (f - 1)) ∨ (f = 0 ∧ H * 2 ^ 64 + T = (V / 2 ||| V % 2))) :
    ∃ told chg top frac wh' fu', f_X0_makeRounded tp fr (nI v) lt lk lc r mn (wt - nI f) (lN H) (lN T) = (told, (upd tp r.toNatClampNeg top, vp_updL fr r.toNatClampNeg frac, nI v, told, wt - nI f, chg)) ∧ k_X1_make0_236 (f_X1_round tp fr bi cd (nI v) wt (nI f) mn wh fu tl (wt - nI f) sd mt mf (((wt - nI f) + 1) - nI (q_dg v))) (nI (q_dg v)) (wt - nI f) (if (-16382) ≤ (wt - nI f) then 0 else 1) = (tp, fr, bi, cd, nI v, wt, nI f, mn, wh', fu', told, wt - nI f, chg, top, frac) ∧ 0 ≤ top.toInt ∧ top.toInt < 65536 := by
  have hn := e_dg v
  have hn64 : q_dg v ≤ 64 := by clear hX; omega
  have hu : 64 - q_dg v < 64 := by clear hX; omega
  have hw := core_wok hw2
  have kI := core_k hw hf
  obtain ⟨qI, k1I⟩ := core_q2 hw hf hn64
  have hrok := core_rok2 hw hf hn64
  have hkb : -33001 ≤ (wt - nI f).toInt ∧ (wt - nI f).toInt ≤ 33127 := by clear hX; omega
  have hka : (wt - nI f).toInt ≤ ((wt - nI f) + 1).toInt ∧ ((wt - nI f) + 1).toInt ≤ (wt - nI f).toInt + 1 := by clear hX; omega
  have hfN : bvN bi (nI f).toInt.toNat = 0 := by
    rw [show (nI f).toInt = (f : Int) from nI_toInt (Nat.lt_trans hf (by decide))]; exact hf0
  obtain ⟨X, U, hXU⟩ : ∃ X U, (X, U) = q_of V (128 - (wt.toInt - (((wt - nI f) + 1) - nI (q_dg v)).toInt)) := ⟨_, _, rfl⟩
  have ag := core_ag (d := 64 - q_dg v) hX hXU (by rw [qI]; clear hX hXU; omega)
  obtain ⟨L, eL, zL, eW, eA, lW⟩ := cl_all (v := v) (ng := mn) hv hH (Nat.lt_of_lt_of_le (by decide) hH1) hT (show 64 - q_dg v < 2 ^ 31 from Nat.lt_trans hu (by decide))
  obtain ⟨w1, w2⟩ := cb_W hn hH hH1 hT
  have up := agree_up (r := v / 1024 % 4) (ng := decide (mn ≠ 0)) ag
  have hW : X / U < 2 ^ 64 := by rw [← ag.1]; exact lW
  have hR := m_round (tp := tp) (fr := fr) (cd := cd) (wt := wt) (fi := nI f) (mn := mn) (wh := wh) (fu := fu) (tl := tl) (gr := wt - nI f) (sd := sd) (mt := mt) (mf := mf) hv hb hrok hfN hV.symm hXU hW
  unfold f_X0_makeRounded
  rw [px_digits hv, show (64 : Int32) - nI (q_dg v) = nI (64 - q_dg v) from px_subI (a := 64) hn64, eL, eW, eA, up, ag.1, cl_frac hu, hR]
  rw [ag.1] at w1 w2
  have zL2 : lg_cmp L 0 = 0 ↔ X % U = 0 := zL.trans ag.2.1
  generalize q_up (v / 1024 % 4) (decide (mn ≠ 0)) X U = B at *
  have hz := zL2.trans (core_sd (z := X % U = 0) (B := B)).symm
  have hc := cl_change (B := B) zL2
  unfold k_X0_makeRounded_59 k_X1_make0_236
  dsimp only
  rw [cb_more hn w1]
  by_cases cy : X / U + (if B then 1 else 0) = 2 ^ q_dg v
  · rw [if_pos ((cb_F hn w1 w2).mpr cy), if_pos cy]
    rw [if_neg (show ¬ (1 : Int32) = 0 by decide), if_neg (show ¬ (1 : Int32) = 0 by decide), lp301_1 (show ¬ (1 : Int32) = 0 by decide)]
    obtain ⟨a, b, c, d, g1, g2, g3⟩ := core_tail (tp := tp) (fr := fr) (bi := bi) (cd := cd) (wt := wt) (fi := nI f) (mn := mn) (wh := lN (X / U + (if B then 1 else 0))) (fu := if B = true ∧ X / U = 2 ^ 64 - 1 then 1 else 0) (tl := tl) (gr := wt - nI f) (mt := mt) (mf := mf) (lt := lt) (lk := lk) (lc := lc) (r := r) (f1 := -9223372036854775808) hv rfl hz hc hkb hka
    exact ⟨a, b, c, d, _, _, g1, g2, g3⟩
  · rw [if_neg (fun q => cy ((cb_F hn w1 w2).mp q)), if_neg cy]
    rw [if_pos rfl, if_pos rfl, lp301_0 65 _ _ hn64 (Nat.le_add_left _ _)]
    obtain ⟨a, b, c, d, g1, g2, g3⟩ := core_tail (tp := tp) (fr := fr) (bi := bi) (cd := cd) (wt := wt) (fi := nI f) (mn := mn) (wh := lN (X / U + (if B then 1 else 0))) (fu := if B = true ∧ X / U = 2 ^ 64 - 1 then 1 else 0) (tl := tl) (gr := wt - nI f) (mt := mt) (mf := mf) (lt := lt) (lk := lk) (lc := lc) (r := r) (k1 := wt - nI f) (f1 := lN ((X / U + (if B then 1 else 0)) * 2 ^ (64 - q_dg v))) hv rfl hz hc hkb ⟨Int.le_refl _, Int.le_of_lt (Int.lt_succ _)⟩
    exact ⟨a, b, c, d, _, _, g1, g2, g3⟩
