set_option maxHeartbeats 400000 in
/-- a size that is small, with UNDER masked -/
theorem core_small {tp : Nat → Int32} {fr : Nat → Int64} {bi : Nat → Int32} {cd wt mn : Int32} {wh : Int64} {fu tl gr sd mt : Int32} {mf : Int64} {lt lk lc r : Int32} {v V f H T : Nat} (hv : v < 65536) (hb : bok bi) (hw : m_wok wt) (hV : bvN bi 129 = V) (hf : f < 129) (hf0 : bvN bi f = 0) (hH : H < 2 ^ 64) (hH1 : 0 < H) (hT : T < 2 ^ 64) (hX : (1 ≤ f ∧ H * 2 ^ 64 + T = V * 2 ^ (f - 1)) ∨ (f = 0 ∧ H * 2 ^ 64 + T = (V / 2 ||| V % 2))) (hs : wt.toInt - f < -16382) :
    ∃ told chg top frac wh' fu', f_X0_makeSmall tp fr (nI v) lt lk lc r mn (wt - nI f) (lN H) (lN T) = (told, (upd tp r.toNatClampNeg top, vp_updL fr r.toNatClampNeg frac, nI v, told, wt - nI f, chg)) ∧ k_X1_make0_161 (f_X1_round tp fr bi cd (nI v) wt (nI f) mn wh fu tl (wt - nI f) sd mt mf ((-16381) - nI (q_dg v))) (nI (q_dg v)) (wt - nI f) 1 = (tp, fr, bi, cd, nI v, wt, nI f, mn, wh', fu', told, wt - nI f, chg, top, frac) ∧ 0 ≤ top.toInt ∧ top.toInt < 65536 := by
  have hn := e_dg v
  have hn64 : q_dg v ≤ 64 := by clear hX; omega
  have hu : 64 - q_dg v < 64 := by clear hX; omega
  obtain ⟨d, hd, eD, hd31⟩ := core_d hw hf hn64 hs
  have qI := core_q hn64
  have hrok := core_rok hw hf hn64 hs
  have hfN : bvN bi (nI f).toInt.toNat = 0 := by
    rw [show (nI f).toInt = (f : Int) from nI_toInt (Nat.lt_trans hf (by decide))]; exact hf0
  obtain ⟨X, U, hXU⟩ : ∃ X U, (X, U) = q_of V (128 - (wt.toInt - ((-16381) - nI (q_dg v)).toInt)) := ⟨_, _, rfl⟩
  have ag := core_ag (d := d) hX hXU (by rw [qI]; clear hX hXU; omega)
  obtain ⟨L, eL, zL, eW, eA, lW⟩ := cl_all (v := v) (ng := mn) hv hH hH1 hT hd31
  have up := agree_up (r := v / 1024 % 4) (ng := decide (mn ≠ 0)) ag
  have hW : X / U < 2 ^ 64 := by rw [← ag.1]; exact lW
  have hR := m_round (tp := tp) (fr := fr) (cd := cd) (wt := wt) (fi := nI f) (mn := mn) (wh := wh) (fu := fu) (tl := tl) (gr := wt - nI f) (sd := sd) (mt := mt) (mf := mf) hv hb hrok hfN hV.symm hXU hW
  unfold f_X0_makeSmall
  rw [px_digits hv, show (64 : Int32) - nI (q_dg v) = nI (64 - q_dg v) from px_subI (a := 64) hn64, eD, eL, eW, eA, up, ag.1, cl_frac hu, hR]
  rw [up, ag.1] at eA
  have zL2 : lg_cmp L 0 = 0 ↔ X % U = 0 := zL.trans ag.2.1
  generalize q_up (v / 1024 % 4) (decide (mn ≠ 0)) X U = B at *
  unfold k_X0_makeSmall_69 k_X1_make0_161
  dsimp only
  rw [cl_change zL2, lp170 65 _ _ hn64 (Nat.le_add_left _ _)]
  generalize (X / U + (if B then 1 else 0)) * 2 ^ (64 - q_dg v) = F
  have ht : (if lg_cmp L 0 = 0 then 0 else 48 : Int32) = if (if X % U = 0 then 0 else if B = true then 1 else (-1) : Int32) = 0 then 0 else 48 := by
    by_cases z : X % U = 0
    · rw [if_pos (zL2.mpr z), if_pos z, if_pos rfl]
    · rw [if_neg (fun q => z (zL2.mp q)), if_neg z]
      cases B <;> rfl
  rw [ht]
  have hp : ∃ p, p < 2 ∧ (if 0 ≤ lg_cmp (lN F) 0 then 0 else 1 : Int32) = nI p := by
    split
    · exact ⟨0, by omega, rfl⟩
    · exact ⟨1, by omega, rfl⟩
  obtain ⟨p, hp1, hp2⟩ := hp
  rw [hp2, e_orp (by omega)]
  refine ⟨_, _, _, _, _, _, rfl, rfl, ?_⟩
  split
  · rw [show (0 : Int32) = nI 0 from rfl, nI_add, nI_toInt (by omega)]; omega
  · rw [show (32768 : Int32) = nI 32768 from rfl, nI_add, nI_toInt (by omega)]; omega
