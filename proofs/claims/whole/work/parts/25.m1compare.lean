def f_X1_compare (tp : Nat → Int32) (fr : Nat → Int64) (bi : Nat → Int32) (cd : Int32) (ct : Int32) (wt : Int32) (fi : Int32) (mn : Int32) (wh : Int64) (fu : Int32) (tl : Int32) (gr : Int32) (sd : Int32) (mt : Int32) (mf : Int64) (a1 : Int32) (a2 : Int32) : Int32 × MS :=
  if ((if (f_X1_none a1) = 0 then (if (f_X1_none a2) = 0 then 0 else 1) else 1) : Int32) ≤ 0 then
    if (if (f_X1_kind tp fr a1) = 5 then true else (if (f_X1_kind tp fr a2) = 5 then true else false)) = true then
      (2, (tp, fr, bi, (if (f_X1_none a1) = 0 then (if (f_X1_none a2) = 0 then 0 else 1) else 1), ct, wt, fi, mn, wh, fu, tl, gr, sd, mt, mf))
    else
      if ((if (f_X1_isNothing tp fr a1) = 0 then (if (tp a1.toNatClampNeg) ≤ 32767 then 1 else (-1)) else 0) : Int32) = (if (f_X1_isNothing tp fr a2) = 0 then (if (tp a2.toNatClampNeg) ≤ 32767 then 1 else (-1)) else 0) then
        (((if (f_X1_isNothing tp fr a1) = 0 then (if (tp a1.toNatClampNeg) ≤ 32767 then 1 else (-1)) else 0) * (f_X1_compareSizes tp fr a1 a2)), (tp, fr, bi, (if (f_X1_none a1) = 0 then (if (f_X1_none a2) = 0 then 0 else 1) else 1), ct, wt, fi, mn, wh, fu, tl, gr, sd, mt, mf))
      else
        ((if (if (f_X1_isNothing tp fr a2) = 0 then (if (tp a2.toNatClampNeg) ≤ 32767 then 1 else (-1)) else 0) ≤ ((if (f_X1_isNothing tp fr a1) = 0 then (if (tp a1.toNatClampNeg) ≤ 32767 then 1 else (-1)) else 0) : Int32) then 1 else (-1)), (tp, fr, bi, (if (f_X1_none a1) = 0 then (if (f_X1_none a2) = 0 then 0 else 1) else 1), ct, wt, fi, mn, wh, fu, tl, gr, sd, mt, mf))
  else
    (0, (tp, fr, bi, (if (f_X1_none a1) = 0 then (if (f_X1_none a2) = 0 then 0 else 1) else 1), ct, wt, fi, mn, wh, fu, tl, gr, sd, mt, mf))
set_option maxHeartbeats 1000000 in
set_option maxRecDepth 100000 in
theorem c_X1_compare (l : Launch) (dC : Nat → ClassId) (dI : Nat → Nat → Nat) (cA cB cC : ClassId) (h0 pt pf pb : Nat) (sz : Nat) (tp : Nat → Int32) (fr : Nat → Int64) (bi : Nat → Int32) (cd : Int32) (ct : Int32) (wt : Int32) (fi : Int32) (mn : Int32) (wh : Int64) (fu : Int32) (tl : Int32) (gr : Int32) (sd : Int32) (mt : Int32) (mf : Int64) (a1 : Int32) (a2 : Int32) : Met l yX1_compare wsX1_compare ({ frames := 3, cells := 0, slots := 0, locals := 72 }) (wr_Pc (dC, dI) (m_W cA cB cC h0 pt pf pb tp fr bi cd ct wt fi mn wh fu tl gr sd mt mf) (m_T cA cB cC) sz [.ref h0, .int a1, .int a2]) (wr_Qi (dC, dI) (m_WU cA cB cC h0 pt pf pb) (f_X1_compare tp fr bi cd ct wt fi mn wh fu tl gr sd mt mf a1 a2) (va_A (m_W cA cB cC h0 pt pf pb tp fr bi cd ct wt fi mn wh fu tl gr sd mt mf) sz)) 0 0 (va_A (m_W cA cB cC h0 pt pf pb tp fr bi cd ct wt fi mn wh fu tl gr sd mt mf) sz) := by
  refine Met.ofW (cc := cX1_compare) (maxL := 5) (ret := (some .int)) (by decide) rfl ?_
  intro p e s m args below meth c s₁ B hml hv
  obtain ⟨rfl, hsz, hP, hK, hD0⟩ := hv
  have hx := B.exec
  have hb := B.bytes
  have hr := B.returns
  have hts := atoms_spec (ws := wsX1_compare) B.pre
  have hown : s.vm.findClass RX1 = some m.cls := findClass_of_methodNamed B.named
  have hlocks := B.notSynchronized
  have hin_X1 : ∀ w ∈ u_ws RX1 TX1 15, w ∈ wsX1_compare := by decide +kernel
  subst hsz
  have hD := hD0.self (sz := s.heap.size)
  generalize hAe : va_A (m_W cA cB cC h0 pt pf pb tp fr bi cd ct wt fi mn wh fu tl gr sd mt mf) s.heap.size = A at hD ⊢
  have hA : ∀ q : Nat, s.heap.size ≤ q → A q := fun q h => by rw [← hAe]; exact Or.inr h
  have hS : va_S A s.heap s.heap [] := va_S.rf
  have hD : va_D A [(h0, .inr (1, [.int cd, .int ct, .ref pt, .ref pf, .ref pb, .int wt, .int fi, .int mn, .long wh, .int fu, .int tl, .int gr, .int sd, .int mt, .long mf])), (pt, .inl (cA, 8, .inl tp)), (pf, .inl (cB, 8, .inr (.inl fr))), (pb, .inl (cC, 129, .inl bi))] := hD
  have hP : va_P (dC, dI) vwCl [(h0, .inr (1, [.int cd, .int ct, .ref pt, .ref pf, .ref pb, .int wt, .int fi, .int mn, .long wh, .int fu, .int tl, .int gr, .int sd, .int mt, .long mf])), (pt, .inl (cA, 8, .inl tp)), (pf, .inl (cB, 8, .inr (.inl fr))), (pb, .inl (cC, 129, .inl bi))] s.heap := hP
  have hl := lv_entry ([.ref h0, .int a1, .int a2]) (n := 5) (Nat.le_of_ble_eq_true rfl)
  rw [lg_entry_eq]
  generalize (lg_sl ([.ref h0, .int a1, .int a2]) ++ List.replicate (5 - (lg_sl ([.ref h0, .int a1, .int a2])).length) Slot.unset).toArray = ls at hl ⊢
  have hl : lv_has ls 5 [(0, .ref h0), (1, .int a1), (2, .int a2)] := hl
  refine lv_aload_n hx hb dX1_compare_0 rfl (lv_at hl 0 rfl) ?_
  refine lv_iload_n hx hb dX1_compare_1 rfl (lv_at hl 1 rfl) ?_
  refine W.callV (r := .int (f_X1_none a1)) (W.runS (As := [.int a1]) (rest := [.ref h0]) ⟨hx, hb, hml, hown, hts⟩ (c_X1_none l a1 ) (va_cwS 1 hts gX1_compare_X1_none rfl rfl rfl (by decide +kernel) ⟨Nat.le_of_ble_eq_true rfl, Nat.le_of_ble_eq_true rfl⟩) pu_pre rfl rfl hl.1 rfl (lv_room (Nat.le_of_ble_eq_true rfl)) dX1_compare_2 ⟨Nat.zero_le _, Nat.zero_le _⟩) ?_
  refine W.eq (g2 := F0 m 5 ls ([.int (f_X1_none a1), .ref h0])) rfl ?_
  refine w_join (F0 m 20 ls (.int (if (f_X1_none a1) = 0 then (if (f_X1_none a2) = 0 then 0 else 1) else 1) :: [.ref h0])) ?_ (fun hJ_1 => ?_)
  · refine va_put (D := (dC, dI)) (ci := 1) (v := .int (if (f_X1_none a1) = 0 then (if (f_X1_none a2) = 0 then 0 else 1) else 1)) (ty := .int) (C := RX1) (T := TX1) (N := 15) hx hb hts hin_X1 tyX1 tyX1_ok nmX1 hown hK hP hD hS 0 rfl rfl 0 (by decide) (hts (.fieldLink RX1 24 "TemporaryRealsModel" "code" "I") (by decide +kernel)) (fun _ h9 => h9) rfl (by decide +kernel) rfl rfl (Nat.le_of_ble_eq_true rfl) dX1_compare_20 (fun H locs hP hD hS => ?_)
    have hP : va_P (dC, dI) vwCl [(h0, .inr (1, [.int (if (f_X1_none a1) = 0 then (if (f_X1_none a2) = 0 then 0 else 1) else 1), .int ct, .ref pt, .ref pf, .ref pb, .int wt, .int fi, .int mn, .long wh, .int fu, .int tl, .int gr, .int sd, .int mt, .long mf])), (pt, .inl (cA, 8, .inl tp)), (pf, .inl (cB, 8, .inr (.inl fr))), (pb, .inl (cC, 129, .inl bi))] H := hP
    have hD : va_D A [(h0, .inr (1, [.int (if (f_X1_none a1) = 0 then (if (f_X1_none a2) = 0 then 0 else 1) else 1), .int ct, .ref pt, .ref pf, .ref pb, .int wt, .int fi, .int mn, .long wh, .int fu, .int tl, .int gr, .int sd, .int mt, .long mf])), (pt, .inl (cA, 8, .inl tp)), (pf, .inl (cB, 8, .inr (.inl fr))), (pb, .inl (cC, 129, .inl bi))] := hD
    refine lv_aload_n hx hb dX1_compare_23 rfl (lv_at hl 0 rfl) ?_
    refine va_get (D := (dC, dI)) (ci := 1) (v := .int (if (f_X1_none a1) = 0 then (if (f_X1_none a2) = 0 then 0 else 1) else 1)) (C := RX1) (T := TX1) (N := 15) hx hb hts hin_X1 hown hK hP 0 rfl rfl 0 (by decide) (hts (.fieldLink RX1 24 "TemporaryRealsModel" "code" "I") (by decide +kernel)) (fun _ h9 => h9) rfl dX1_compare_24 ?_
    refine lv_if_le (tgt := 32) hx hb dX1_compare_27 (by decide) (fun c_4 => ?_) (fun c_4 => ?_)
    · refine lv_aload_n hx hb dX1_compare_32 rfl (lv_at hl 0 rfl) ?_
      refine lv_iload_n hx hb dX1_compare_33 rfl (lv_at hl 1 rfl) ?_
      refine W.callV (r := .int (f_X1_kind tp fr a1)) (W.runV (As := [.int a1]) (rest := []) ⟨hx, hb, hml, hown, hts⟩ (c_X1_kind l dC dI cA cB cC h0 pt pf pb tp fr bi (if (f_X1_none a1) = 0 then (if (f_X1_none a2) = 0 then 0 else 1) else 1) ct wt fi mn wh fu tl gr sd mt mf a1 (m_regA c_4)) (cwV 1 hts gX1_compare_X1_kind rfl rfl rfl (by decide +kernel) ⟨Nat.le_of_ble_eq_true rfl, Nat.le_of_ble_eq_true rfl⟩) (rd_preV hK hP rfl rfl) rfl rfl hl.1 rfl (lv_room (Nat.le_of_ble_eq_true rfl)) dX1_compare_34 ⟨Nat.zero_le _, Nat.zero_le _⟩) ?_
      refine W.eq (g2 := F0 m 37 ls ([.int (f_X1_kind tp fr a1)])) rfl ?_
      refine lv_iconst (v := 5) hx hb dX1_compare_37 (by decide) ?_
      by_cases cV_5 : (if (f_X1_kind tp fr a1) = 5 then true else (if (f_X1_kind tp fr a2) = 5 then true else false)) = true
      · refine w_join (F0 m 50 ls ([])) ?_ (fun hJ_6 => ?_)
        · refine lv_iconst (v := 2) hx hb dX1_compare_50 (by decide) ?_
          exact W.iret (v := 2) hx hb hr (fun t ht hW => ⟨⟨2, (tp, fr, bi, (if (f_X1_none a1) = 0 then (if (f_X1_none a2) = 0 then 0 else 1) else 1), ct, wt, fi, mn, wh, fu, tl, gr, sd, mt, mf), rfl, (show (f_X1_compare tp fr bi cd ct wt fi mn wh fu tl gr sd mt mf a1 a2) = ((2, (tp, fr, bi, (if (f_X1_none a1) = 0 then (if (f_X1_none a2) = 0 then 0 else 1) else 1), ct, wt, fi, mn, wh, fu, tl, gr, sd, mt, mf)) : Int32 × MS) from by unfold f_X1_compare; rw [if_pos c_4, if_pos cV_5]).symm, by rw [ht, m_WU_mk]; exact hP, by rw [m_WU_mk]; exact hD⟩, hS.F ht⟩) hS.2.2 dX1_compare_51
        · refine lv_icmp_eq (tgt := 50) hx hb dX1_compare_38 (by decide) (fun c_7 => ?_) (fun c_7 => ?_)
          · exact hJ_6
          · refine lv_aload_n hx hb dX1_compare_41 rfl (lv_at hl 0 rfl) ?_
            refine lv_iload_n hx hb dX1_compare_42 rfl (lv_at hl 2 rfl) ?_
            refine W.callV (r := .int (f_X1_kind tp fr a2)) (W.runV (As := [.int a2]) (rest := []) ⟨hx, hb, hml, hown, hts⟩ (c_X1_kind l dC dI cA cB cC h0 pt pf pb tp fr bi (if (f_X1_none a1) = 0 then (if (f_X1_none a2) = 0 then 0 else 1) else 1) ct wt fi mn wh fu tl gr sd mt mf a2 (m_regB c_4)) (cwV 1 hts gX1_compare_X1_kind rfl rfl rfl (by decide +kernel) ⟨Nat.le_of_ble_eq_true rfl, Nat.le_of_ble_eq_true rfl⟩) (rd_preV hK hP rfl rfl) rfl rfl hl.1 rfl (lv_room (Nat.le_of_ble_eq_true rfl)) dX1_compare_43 ⟨Nat.zero_le _, Nat.zero_le _⟩) ?_
            refine W.eq (g2 := F0 m 46 ls ([.int (f_X1_kind tp fr a2)])) rfl ?_
            refine lv_iconst (v := 5) hx hb dX1_compare_46 (by decide) ?_
            refine lv_icmp_ne (tgt := 52) hx hb dX1_compare_47 (by decide) (fun c_8 => ?_) (fun c_8 => ?_)
            · exact absurd cV_5 (by rw [if_neg c_7, if_neg c_8]; exact Bool.false_ne_true)
            · exact hJ_6
      · refine w_join (F0 m 52 ls ([])) ?_ (fun hJ_6 => ?_)
        · refine lv_aload_n hx hb dX1_compare_52 rfl (lv_at hl 0 rfl) ?_
          refine lv_iload_n hx hb dX1_compare_53 rfl (lv_at hl 1 rfl) ?_
          refine W.callV (r := .int (f_X1_isNothing tp fr a1)) (W.runV (As := [.int a1]) (rest := []) ⟨hx, hb, hml, hown, hts⟩ (c_X1_isNothing l dC dI cA cB cC h0 pt pf pb tp fr bi (if (f_X1_none a1) = 0 then (if (f_X1_none a2) = 0 then 0 else 1) else 1) ct wt fi mn wh fu tl gr sd mt mf a1 (m_regA c_4)) (cwV 1 hts gX1_compare_X1_isNothing rfl rfl rfl (by decide +kernel) ⟨Nat.le_of_ble_eq_true rfl, Nat.le_of_ble_eq_true rfl⟩) (rd_preV hK hP rfl rfl) rfl rfl hl.1 rfl (lv_room (Nat.le_of_ble_eq_true rfl)) dX1_compare_54 ⟨Nat.zero_le _, Nat.zero_le _⟩) ?_
          refine W.eq (g2 := F0 m 57 ls ([.int (f_X1_isNothing tp fr a1)])) rfl ?_
          refine w_join (F0 m 81 ls (.int (if (f_X1_isNothing tp fr a1) = 0 then (if (tp a1.toNatClampNeg) ≤ 32767 then 1 else (-1)) else 0) :: [])) ?_ (fun hJ_11 => ?_)
          · refine lv_istore_n (lv' := [(3, .int (if (f_X1_isNothing tp fr a1) = 0 then (if (tp a1.toNatClampNeg) ≤ 32767 then 1 else (-1)) else 0)), (0, .ref h0), (1, .int a1), (2, .int a2)]) hx hb dX1_compare_81 rfl hl (by decide) rfl (fun ls hl => ?_)
            refine lv_aload_n hx hb dX1_compare_82 rfl (lv_at hl 1 rfl) ?_
            refine lv_iload_n hx hb dX1_compare_83 rfl (lv_at hl 3 rfl) ?_
            refine W.callV (r := .int (f_X1_isNothing tp fr a2)) (W.runV (As := [.int a2]) (rest := []) ⟨hx, hb, hml, hown, hts⟩ (c_X1_isNothing l dC dI cA cB cC h0 pt pf pb tp fr bi (if (f_X1_none a1) = 0 then (if (f_X1_none a2) = 0 then 0 else 1) else 1) ct wt fi mn wh fu tl gr sd mt mf a2 (m_regB c_4)) (cwV 1 hts gX1_compare_X1_isNothing rfl rfl rfl (by decide +kernel) ⟨Nat.le_of_ble_eq_true rfl, Nat.le_of_ble_eq_true rfl⟩) (rd_preV hK hP rfl rfl) rfl rfl hl.1 rfl (lv_room (Nat.le_of_ble_eq_true rfl)) dX1_compare_84 ⟨Nat.zero_le _, Nat.zero_le _⟩) ?_
            refine W.eq (g2 := F0 m 87 ls ([.int (f_X1_isNothing tp fr a2)])) rfl ?_
            refine w_join (F0 m 111 ls (.int (if (f_X1_isNothing tp fr a2) = 0 then (if (tp a2.toNatClampNeg) ≤ 32767 then 1 else (-1)) else 0) :: [])) ?_ (fun hJ_14 => ?_)
            · refine lv_istore (lv' := [(4, .int (if (f_X1_isNothing tp fr a2) = 0 then (if (tp a2.toNatClampNeg) ≤ 32767 then 1 else (-1)) else 0)), (3, .int (if (f_X1_isNothing tp fr a1) = 0 then (if (tp a1.toNatClampNeg) ≤ 32767 then 1 else (-1)) else 0)), (0, .ref h0), (1, .int a1), (2, .int a2)]) hx hb dX1_compare_111 hl (by decide) rfl (fun ls hl => ?_)
              refine lv_iload_n hx hb dX1_compare_113 rfl (lv_at hl 1 rfl) ?_
              refine lv_iload hx hb dX1_compare_114 (lv_at hl 0 rfl) ?_
              refine lv_icmp_eq (tgt := 131) hx hb dX1_compare_116 (by decide) (fun c_17 => ?_) (fun c_17 => ?_)
              · refine lv_iload_n hx hb dX1_compare_131 rfl (lv_at hl 1 rfl) ?_
                refine lv_aload_n hx hb dX1_compare_132 rfl (lv_at hl 2 rfl) ?_
                refine lv_iload_n hx hb dX1_compare_133 rfl (lv_at hl 3 rfl) ?_
                refine lv_iload_n hx hb dX1_compare_134 rfl (lv_at hl 4 rfl) ?_
                refine W.callV (r := .int (f_X1_compareSizes tp fr a1 a2)) (W.runV (As := [.int a1, .int a2]) (rest := [.int (if (f_X1_isNothing tp fr a1) = 0 then (if (tp a1.toNatClampNeg) ≤ 32767 then 1 else (-1)) else 0)]) ⟨hx, hb, hml, hown, hts⟩ (c_X1_compareSizes l dC dI cA cB cC h0 pt pf pb tp fr bi (if (f_X1_none a1) = 0 then (if (f_X1_none a2) = 0 then 0 else 1) else 1) ct wt fi mn wh fu tl gr sd mt mf a1 a2 (m_regA c_4) (m_regB c_4)) (cwV 2 hts gX1_compare_X1_compareSizes rfl rfl rfl (by decide +kernel) ⟨Nat.le_of_ble_eq_true rfl, Nat.le_of_ble_eq_true rfl⟩) (rd_preV hK hP rfl rfl) rfl rfl hl.1 rfl (lv_room (Nat.le_of_ble_eq_true rfl)) dX1_compare_135 ⟨Nat.zero_le _, Nat.zero_le _⟩) ?_
                refine W.eq (g2 := F0 m 138 ls ([.int (f_X1_compareSizes tp fr a1 a2), .int (if (f_X1_isNothing tp fr a1) = 0 then (if (tp a1.toNatClampNeg) ≤ 32767 then 1 else (-1)) else 0)])) rfl ?_
                refine lv_imul hx hb dX1_compare_138 ?_
                exact W.iret (v := ((if (f_X1_isNothing tp fr a1) = 0 then (if (tp a1.toNatClampNeg) ≤ 32767 then 1 else (-1)) else 0) * (f_X1_compareSizes tp fr a1 a2))) hx hb hr (fun t ht hW => ⟨⟨((if (f_X1_isNothing tp fr a1) = 0 then (if (tp a1.toNatClampNeg) ≤ 32767 then 1 else (-1)) else 0) * (f_X1_compareSizes tp fr a1 a2)), (tp, fr, bi, (if (f_X1_none a1) = 0 then (if (f_X1_none a2) = 0 then 0 else 1) else 1), ct, wt, fi, mn, wh, fu, tl, gr, sd, mt, mf), rfl, (show (f_X1_compare tp fr bi cd ct wt fi mn wh fu tl gr sd mt mf a1 a2) = ((((if (f_X1_isNothing tp fr a1) = 0 then (if (tp a1.toNatClampNeg) ≤ 32767 then 1 else (-1)) else 0) * (f_X1_compareSizes tp fr a1 a2)), (tp, fr, bi, (if (f_X1_none a1) = 0 then (if (f_X1_none a2) = 0 then 0 else 1) else 1), ct, wt, fi, mn, wh, fu, tl, gr, sd, mt, mf)) : Int32 × MS) from by unfold f_X1_compare; rw [if_pos c_4, if_neg cV_5, if_pos c_17]).symm, by rw [ht, m_WU_mk]; exact hP, by rw [m_WU_mk]; exact hD⟩, hS.F ht⟩) hS.2.2 dX1_compare_139
              · refine lv_iload_n hx hb dX1_compare_119 rfl (lv_at hl 1 rfl) ?_
                refine lv_iload hx hb dX1_compare_120 (lv_at hl 0 rfl) ?_
                refine w_join (F0 m 130 ls (.int (if (if (f_X1_isNothing tp fr a2) = 0 then (if (tp a2.toNatClampNeg) ≤ 32767 then 1 else (-1)) else 0) ≤ ((if (f_X1_isNothing tp fr a1) = 0 then (if (tp a1.toNatClampNeg) ≤ 32767 then 1 else (-1)) else 0) : Int32) then 1 else (-1)) :: [])) ?_ (fun hJ_18 => ?_)
                · exact W.iret (v := (if (if (f_X1_isNothing tp fr a2) = 0 then (if (tp a2.toNatClampNeg) ≤ 32767 then 1 else (-1)) else 0) ≤ ((if (f_X1_isNothing tp fr a1) = 0 then (if (tp a1.toNatClampNeg) ≤ 32767 then 1 else (-1)) else 0) : Int32) then 1 else (-1))) hx hb hr (fun t ht hW => ⟨⟨(if (if (f_X1_isNothing tp fr a2) = 0 then (if (tp a2.toNatClampNeg) ≤ 32767 then 1 else (-1)) else 0) ≤ ((if (f_X1_isNothing tp fr a1) = 0 then (if (tp a1.toNatClampNeg) ≤ 32767 then 1 else (-1)) else 0) : Int32) then 1 else (-1)), (tp, fr, bi, (if (f_X1_none a1) = 0 then (if (f_X1_none a2) = 0 then 0 else 1) else 1), ct, wt, fi, mn, wh, fu, tl, gr, sd, mt, mf), rfl, (show (f_X1_compare tp fr bi cd ct wt fi mn wh fu tl gr sd mt mf a1 a2) = (((if (if (f_X1_isNothing tp fr a2) = 0 then (if (tp a2.toNatClampNeg) ≤ 32767 then 1 else (-1)) else 0) ≤ ((if (f_X1_isNothing tp fr a1) = 0 then (if (tp a1.toNatClampNeg) ≤ 32767 then 1 else (-1)) else 0) : Int32) then 1 else (-1)), (tp, fr, bi, (if (f_X1_none a1) = 0 then (if (f_X1_none a2) = 0 then 0 else 1) else 1), ct, wt, fi, mn, wh, fu, tl, gr, sd, mt, mf)) : Int32 × MS) from by unfold f_X1_compare; rw [if_pos c_4, if_neg cV_5, if_neg c_17]).symm, by rw [ht, m_WU_mk]; exact hP, by rw [m_WU_mk]; exact hD⟩, hS.F ht⟩) hS.2.2 dX1_compare_130
                · refine lv_icmp_ge (tgt := 129) hx hb dX1_compare_122 (by decide) (fun c_19 => ?_) (fun c_19 => ?_)
                  · refine lv_iconst (v := 1) hx hb dX1_compare_129 (by decide) ?_
                    exact W.eq (by rw [if_pos c_19] <;> (repeat (first | rw [if_pos c_19]))) hJ_18
                  · refine lv_iconst (v := (-1)) hx hb dX1_compare_125 (by decide) ?_
                    refine lv_goto (tgt := 130) hx hb dX1_compare_126 (by decide) ?_
                    exact W.eq (by rw [if_neg c_19] <;> (repeat (first | rw [if_neg c_19]))) hJ_18
            · refine lv_if_eq (tgt := 94) hx hb dX1_compare_87 (by decide) (fun c_15 => ?_) (fun c_15 => ?_)
              · refine lv_aload_n hx hb dX1_compare_94 rfl (lv_at hl 1 rfl) ?_
                refine va_get (D := (dC, dI)) (ci := 1) (v := .ref pt) (C := RX1) (T := TX1) (N := 15) hx hb hts hin_X1 hown hK hP 0 rfl rfl 2 (by decide) (hts (.fieldLink RX1 13 "TemporaryRealsModel" "top" "[I") (by decide +kernel)) (fun _ h9 => h9) rfl dX1_compare_95 ?_
                refine lv_iload_n hx hb dX1_compare_98 rfl (lv_at hl 3 rfl) ?_
                refine va_iald hx hb hK hP 1 0 rfl rfl (m_regB c_4) dX1_compare_99 ?_
                refine lv_sipush (v := 32767) hx hb dX1_compare_100 (by decide) ?_
                refine lv_icmp_le (tgt := 110) hx hb dX1_compare_103 (by decide) (fun c_16 => ?_) (fun c_16 => ?_)
                · refine lv_iconst (v := 1) hx hb dX1_compare_110 (by decide) ?_
                  exact W.eq (by rw [if_pos c_15, if_pos c_16] <;> (repeat (first | rw [if_pos c_15] | rw [if_pos c_16]))) hJ_14
                · refine lv_iconst (v := (-1)) hx hb dX1_compare_106 (by decide) ?_
                  refine lv_goto (tgt := 111) hx hb dX1_compare_107 (by decide) ?_
                  exact W.eq (by rw [if_pos c_15, if_neg c_16] <;> (repeat (first | rw [if_pos c_15] | rw [if_neg c_16]))) hJ_14
              · refine lv_iconst (v := 0) hx hb dX1_compare_90 (by decide) ?_
                refine lv_goto (tgt := 111) hx hb dX1_compare_91 (by decide) ?_
                exact W.eq (by rw [if_neg c_15] <;> (repeat (first | rw [if_neg c_15]))) hJ_14
          · refine lv_if_eq (tgt := 64) hx hb dX1_compare_57 (by decide) (fun c_12 => ?_) (fun c_12 => ?_)
            · refine lv_aload_n hx hb dX1_compare_64 rfl (lv_at hl 0 rfl) ?_
              refine va_get (D := (dC, dI)) (ci := 1) (v := .ref pt) (C := RX1) (T := TX1) (N := 15) hx hb hts hin_X1 hown hK hP 0 rfl rfl 2 (by decide) (hts (.fieldLink RX1 13 "TemporaryRealsModel" "top" "[I") (by decide +kernel)) (fun _ h9 => h9) rfl dX1_compare_65 ?_
              refine lv_iload_n hx hb dX1_compare_68 rfl (lv_at hl 1 rfl) ?_
              refine va_iald hx hb hK hP 1 0 rfl rfl (m_regA c_4) dX1_compare_69 ?_
              refine lv_sipush (v := 32767) hx hb dX1_compare_70 (by decide) ?_
              refine lv_icmp_le (tgt := 80) hx hb dX1_compare_73 (by decide) (fun c_13 => ?_) (fun c_13 => ?_)
              · refine lv_iconst (v := 1) hx hb dX1_compare_80 (by decide) ?_
                exact W.eq (by rw [if_pos c_12, if_pos c_13] <;> (repeat (first | rw [if_pos c_12] | rw [if_pos c_13]))) hJ_11
              · refine lv_iconst (v := (-1)) hx hb dX1_compare_76 (by decide) ?_
                refine lv_goto (tgt := 81) hx hb dX1_compare_77 (by decide) ?_
                exact W.eq (by rw [if_pos c_12, if_neg c_13] <;> (repeat (first | rw [if_pos c_12] | rw [if_neg c_13]))) hJ_11
            · refine lv_iconst (v := 0) hx hb dX1_compare_60 (by decide) ?_
              refine lv_goto (tgt := 81) hx hb dX1_compare_61 (by decide) ?_
              exact W.eq (by rw [if_neg c_12] <;> (repeat (first | rw [if_neg c_12]))) hJ_11
        · refine lv_icmp_eq (tgt := 50) hx hb dX1_compare_38 (by decide) (fun c_9 => ?_) (fun c_9 => ?_)
          · exact absurd (by rw [if_pos c_9]) cV_5
          · refine lv_aload_n hx hb dX1_compare_41 rfl (lv_at hl 0 rfl) ?_
            refine lv_iload_n hx hb dX1_compare_42 rfl (lv_at hl 2 rfl) ?_
            refine W.callV (r := .int (f_X1_kind tp fr a2)) (W.runV (As := [.int a2]) (rest := []) ⟨hx, hb, hml, hown, hts⟩ (c_X1_kind l dC dI cA cB cC h0 pt pf pb tp fr bi (if (f_X1_none a1) = 0 then (if (f_X1_none a2) = 0 then 0 else 1) else 1) ct wt fi mn wh fu tl gr sd mt mf a2 (m_regB c_4)) (cwV 1 hts gX1_compare_X1_kind rfl rfl rfl (by decide +kernel) ⟨Nat.le_of_ble_eq_true rfl, Nat.le_of_ble_eq_true rfl⟩) (rd_preV hK hP rfl rfl) rfl rfl hl.1 rfl (lv_room (Nat.le_of_ble_eq_true rfl)) dX1_compare_43 ⟨Nat.zero_le _, Nat.zero_le _⟩) ?_
            refine W.eq (g2 := F0 m 46 ls ([.int (f_X1_kind tp fr a2)])) rfl ?_
            refine lv_iconst (v := 5) hx hb dX1_compare_46 (by decide) ?_
            refine lv_icmp_ne (tgt := 52) hx hb dX1_compare_47 (by decide) (fun c_10 => ?_) (fun c_10 => ?_)
            · exact hJ_6
            · exact absurd (by rw [if_neg c_9, if_pos c_10]) cV_5
    · refine lv_iconst (v := 0) hx hb dX1_compare_30 (by decide) ?_
      exact W.iret (v := 0) hx hb hr (fun t ht hW => ⟨⟨0, (tp, fr, bi, (if (f_X1_none a1) = 0 then (if (f_X1_none a2) = 0 then 0 else 1) else 1), ct, wt, fi, mn, wh, fu, tl, gr, sd, mt, mf), rfl, (show (f_X1_compare tp fr bi cd ct wt fi mn wh fu tl gr sd mt mf a1 a2) = ((0, (tp, fr, bi, (if (f_X1_none a1) = 0 then (if (f_X1_none a2) = 0 then 0 else 1) else 1), ct, wt, fi, mn, wh, fu, tl, gr, sd, mt, mf)) : Int32 × MS) from by unfold f_X1_compare; rw [if_neg c_4]).symm, by rw [ht, m_WU_mk]; exact hP, by rw [m_WU_mk]; exact hD⟩, hS.F ht⟩) hS.2.2 dX1_compare_31
  · refine lv_if_ne (tgt := 15) hx hb dX1_compare_5 (by decide) (fun c_2 => ?_) (fun c_2 => ?_)
    · refine lv_iconst (v := 1) hx hb dX1_compare_15 (by decide) ?_
      refine lv_goto (tgt := 20) hx hb dX1_compare_16 (by decide) ?_
      exact W.eq (by rw [if_neg c_2] <;> (repeat (first | rw [if_neg c_2]))) hJ_1
    · refine lv_iload_n hx hb dX1_compare_8 rfl (lv_at hl 2 rfl) ?_
      refine W.callV (r := .int (f_X1_none a2)) (W.runS (As := [.int a2]) (rest := [.ref h0]) ⟨hx, hb, hml, hown, hts⟩ (c_X1_none l a2 ) (va_cwS 1 hts gX1_compare_X1_none rfl rfl rfl (by decide +kernel) ⟨Nat.le_of_ble_eq_true rfl, Nat.le_of_ble_eq_true rfl⟩) pu_pre rfl rfl hl.1 rfl (lv_room (Nat.le_of_ble_eq_true rfl)) dX1_compare_9 ⟨Nat.zero_le _, Nat.zero_le _⟩) ?_
      refine W.eq (g2 := F0 m 12 ls ([.int (f_X1_none a2), .ref h0])) rfl ?_
      refine lv_if_eq (tgt := 19) hx hb dX1_compare_12 (by decide) (fun c_3 => ?_) (fun c_3 => ?_)
      · refine lv_iconst (v := 0) hx hb dX1_compare_19 (by decide) ?_
        exact W.eq (by rw [if_pos c_2, if_pos c_3] <;> (repeat (first | rw [if_pos c_2] | rw [if_pos c_3]))) hJ_1
      · refine lv_iconst (v := 1) hx hb dX1_compare_15 (by decide) ?_
        refine lv_goto (tgt := 20) hx hb dX1_compare_16 (by decide) ?_
        exact W.eq (by rw [if_pos c_2, if_neg c_3] <;> (repeat (first | rw [if_pos c_2] | rw [if_neg c_3]))) hJ_1
