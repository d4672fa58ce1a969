def f_X1_part (tp : Nat → Int32) (fr : Nat → Int64) (bi : Nat → Int32) (cd : Int32) (ct : Int32) (wt : Int32) (fi : Int32) (mn : Int32) (wh : Int64) (fu : Int32) (tl : Int32) (gr : Int32) (sd : Int32) (mt : Int32) (mf : Int64) (a1 : Int32) (a2 : Int32) : Int32 × MS :=
  if ((if (f_X1_none a1) = 0 then (if a2 < 0 then 2 else (if a2 ≤ 4 then 0 else 2)) else 1) : Int32) ≤ 0 then
    if a2 = 0 then
      ((tp a1.toNatClampNeg), (tp, fr, bi, (if (f_X1_none a1) = 0 then (if a2 < 0 then 2 else (if a2 ≤ 4 then 0 else 2)) else 1), ct, wt, fi, mn, wh, fu, tl, gr, sd, mt, mf))
    else
      if a2 = 1 then
        ((Int64.toInt32 ((fr a1.toNatClampNeg) >>> (Int32.toInt64 32 &&& 63))), (tp, fr, bi, (if (f_X1_none a1) = 0 then (if a2 < 0 then 2 else (if a2 ≤ 4 then 0 else 2)) else 1), ct, wt, fi, mn, wh, fu, tl, gr, sd, mt, mf))
      else
        if a2 = 2 then
          ((Int64.toInt32 (fr a1.toNatClampNeg)), (tp, fr, bi, (if (f_X1_none a1) = 0 then (if a2 < 0 then 2 else (if a2 ≤ 4 then 0 else 2)) else 1), ct, wt, fi, mn, wh, fu, tl, gr, sd, mt, mf))
        else
          if a2 = 3 then
            ((f_X1_kind tp fr a1), (tp, fr, bi, (if (f_X1_none a1) = 0 then (if a2 < 0 then 2 else (if a2 ≤ 4 then 0 else 2)) else 1), ct, wt, fi, mn, wh, fu, tl, gr, sd, mt, mf))
          else
            ((lp_X1_part_91 fr a1 65 (0)), (tp, fr, bi, (if (f_X1_none a1) = 0 then (if a2 < 0 then 2 else (if a2 ≤ 4 then 0 else 2)) else 1), ct, wt, fi, mn, wh, fu, tl, gr, sd, mt, mf))
  else
    (0, (tp, fr, bi, (if (f_X1_none a1) = 0 then (if a2 < 0 then 2 else (if a2 ≤ 4 then 0 else 2)) else 1), ct, wt, fi, mn, wh, fu, tl, gr, sd, mt, mf))
set_option maxHeartbeats 1000000 in
set_option maxRecDepth 100000 in
theorem c_X1_part (l : Launch) (dC : Nat → ClassId) (dI : Nat → Nat → Nat) (cA cB cC : ClassId) (h0 pt pf pb : Nat) (sz : Nat) (tp : Nat → Int32) (fr : Nat → Int64) (bi : Nat → Int32) (cd : Int32) (ct : Int32) (wt : Int32) (fi : Int32) (mn : Int32) (wh : Int64) (fu : Int32) (tl : Int32) (gr : Int32) (sd : Int32) (mt : Int32) (mf : Int64) (a1 : Int32) (a2 : Int32) : Met l yX1_part wsX1_part ({ frames := 1, cells := 0, slots := 0, locals := 23 }) (wr_Pc (dC, dI) (m_W cA cB cC h0 pt pf pb tp fr bi cd ct wt fi mn wh fu tl gr sd mt mf) (m_T cA cB cC) sz [.ref h0, .int a1, .int a2]) (wr_Qi (dC, dI) (m_WU cA cB cC h0 pt pf pb) (f_X1_part tp fr bi cd ct wt fi mn wh fu tl gr sd mt mf a1 a2) (va_A (m_W cA cB cC h0 pt pf pb tp fr bi cd ct wt fi mn wh fu tl gr sd mt mf) sz)) 0 0 (va_A (m_W cA cB cC h0 pt pf pb tp fr bi cd ct wt fi mn wh fu tl gr sd mt mf) sz) := by
  refine Met.ofW (cc := cX1_part) (maxL := 4) (ret := (some .int)) (by decide) rfl ?_
  intro p e s m args below meth c s₁ B hml hv
  obtain ⟨rfl, hsz, hP, hK, hD0⟩ := hv
  have hx := B.exec
  have hb := B.bytes
  have hr := B.returns
  have hts := atoms_spec (ws := wsX1_part) B.pre
  have hown : s.vm.findClass RX1 = some m.cls := findClass_of_methodNamed B.named
  have hlocks := B.notSynchronized
  have hin_X1 : ∀ w ∈ u_ws RX1 TX1 15, w ∈ wsX1_part := by decide +kernel
  subst hsz
  have hD := hD0.self (sz := s.heap.size)
  generalize hAe : va_A (m_W cA cB cC h0 pt pf pb tp fr bi cd ct wt fi mn wh fu tl gr sd mt mf) s.heap.size = A at hD ⊢
  have hA : ∀ q : Nat, s.heap.size ≤ q → A q := fun q h => by rw [← hAe]; exact Or.inr h
  have hS : va_S A s.heap s.heap [] := va_S.rf
  have hD : va_D A [(h0, .inr (1, [.int cd, .int ct, .ref pt, .ref pf, .ref pb, .int wt, .int fi, .int mn, .long wh, .int fu, .int tl, .int gr, .int sd, .int mt, .long mf])), (pt, .inl (cA, 8, .inl tp)), (pf, .inl (cB, 8, .inr (.inl fr))), (pb, .inl (cC, 129, .inl bi))] := hD
  have hP : va_P (dC, dI) vwCl [(h0, .inr (1, [.int cd, .int ct, .ref pt, .ref pf, .ref pb, .int wt, .int fi, .int mn, .long wh, .int fu, .int tl, .int gr, .int sd, .int mt, .long mf])), (pt, .inl (cA, 8, .inl tp)), (pf, .inl (cB, 8, .inr (.inl fr))), (pb, .inl (cC, 129, .inl bi))] s.heap := hP
  have hl := lv_entry ([.ref h0, .int a1, .int a2]) (n := 4) (Nat.le_of_ble_eq_true rfl)
  rw [lg_entry_eq]
  generalize (lg_sl ([.ref h0, .int a1, .int a2]) ++ List.replicate (4 - (lg_sl ([.ref h0, .int a1, .int a2])).length) Slot.unset).toArray = ls at hl ⊢
  have hl : lv_has ls 4 [(0, .ref h0), (1, .int a1), (2, .int a2)] := hl
  refine lv_aload_n hx hb dX1_part_0 rfl (lv_at hl 0 rfl) ?_
  refine lv_iload_n hx hb dX1_part_1 rfl (lv_at hl 1 rfl) ?_
  refine W.callV (r := .int (f_X1_none a1)) (W.runS (As := [.int a1]) (rest := [.ref h0]) ⟨hx, hb, hml, hown, hts⟩ (c_X1_none l a1 ) (va_cwS 1 hts gX1_part_X1_none rfl rfl rfl (by decide +kernel) ⟨Nat.le_of_ble_eq_true rfl, Nat.le_of_ble_eq_true rfl⟩) pu_pre rfl rfl hl.1 rfl (lv_room (Nat.le_of_ble_eq_true rfl)) dX1_part_2 ⟨Nat.zero_le _, Nat.zero_le _⟩) ?_
  refine W.eq (g2 := F0 m 5 ls ([.int (f_X1_none a1), .ref h0])) rfl ?_
  refine w_join (F0 m 26 ls (.int (if (f_X1_none a1) = 0 then (if a2 < 0 then 2 else (if a2 ≤ 4 then 0 else 2)) else 1) :: [.ref h0])) ?_ (fun hJ_1 => ?_)
  · refine va_put (D := (dC, dI)) (ci := 1) (v := .int (if (f_X1_none a1) = 0 then (if a2 < 0 then 2 else (if a2 ≤ 4 then 0 else 2)) else 1)) (ty := .int) (C := RX1) (T := TX1) (N := 15) hx hb hts hin_X1 tyX1 tyX1_ok nmX1 hown hK hP hD hS 0 rfl rfl 0 (by decide) (hts (.fieldLink RX1 24 "TemporaryRealsModel" "code" "I") (by decide +kernel)) (fun _ h9 => h9) rfl (by decide +kernel) rfl rfl (Nat.le_of_ble_eq_true rfl) dX1_part_26 (fun H locs hP hD hS => ?_)
    have hP : va_P (dC, dI) vwCl [(h0, .inr (1, [.int (if (f_X1_none a1) = 0 then (if a2 < 0 then 2 else (if a2 ≤ 4 then 0 else 2)) else 1), .int ct, .ref pt, .ref pf, .ref pb, .int wt, .int fi, .int mn, .long wh, .int fu, .int tl, .int gr, .int sd, .int mt, .long mf])), (pt, .inl (cA, 8, .inl tp)), (pf, .inl (cB, 8, .inr (.inl fr))), (pb, .inl (cC, 129, .inl bi))] H := hP
    have hD : va_D A [(h0, .inr (1, [.int (if (f_X1_none a1) = 0 then (if a2 < 0 then 2 else (if a2 ≤ 4 then 0 else 2)) else 1), .int ct, .ref pt, .ref pf, .ref pb, .int wt, .int fi, .int mn, .long wh, .int fu, .int tl, .int gr, .int sd, .int mt, .long mf])), (pt, .inl (cA, 8, .inl tp)), (pf, .inl (cB, 8, .inr (.inl fr))), (pb, .inl (cC, 129, .inl bi))] := hD
    refine lv_aload_n hx hb dX1_part_29 rfl (lv_at hl 0 rfl) ?_
    refine va_get (D := (dC, dI)) (ci := 1) (v := .int (if (f_X1_none a1) = 0 then (if a2 < 0 then 2 else (if a2 ≤ 4 then 0 else 2)) else 1)) (C := RX1) (T := TX1) (N := 15) hx hb hts hin_X1 hown hK hP 0 rfl rfl 0 (by decide) (hts (.fieldLink RX1 24 "TemporaryRealsModel" "code" "I") (by decide +kernel)) (fun _ h9 => h9) rfl dX1_part_30 ?_
    refine lv_if_le (tgt := 38) hx hb dX1_part_33 (by decide) (fun c_5 => ?_) (fun c_5 => ?_)
    · refine lv_iload_n hx hb dX1_part_38 rfl (lv_at hl 2 rfl) ?_
      refine lv_if_ne (tgt := 49) hx hb dX1_part_39 (by decide) (fun c_6 => ?_) (fun c_6 => ?_)
      · refine lv_iload_n hx hb dX1_part_49 rfl (lv_at hl 2 rfl) ?_
        refine lv_iconst (v := 1) hx hb dX1_part_50 (by decide) ?_
        refine lv_icmp_ne (tgt := 65) hx hb dX1_part_51 (by decide) (fun c_7 => ?_) (fun c_7 => ?_)
        · refine lv_iload_n hx hb dX1_part_65 rfl (lv_at hl 2 rfl) ?_
          refine lv_iconst (v := 2) hx hb dX1_part_66 (by decide) ?_
          refine lv_icmp_ne (tgt := 78) hx hb dX1_part_67 (by decide) (fun c_8 => ?_) (fun c_8 => ?_)
          · refine lv_iload_n hx hb dX1_part_78 rfl (lv_at hl 2 rfl) ?_
            refine lv_iconst (v := 3) hx hb dX1_part_79 (by decide) ?_
            refine lv_icmp_ne (tgt := 89) hx hb dX1_part_80 (by decide) (fun c_9 => ?_) (fun c_9 => ?_)
            · refine lv_iconst (v := 0) hx hb dX1_part_89 (by decide) ?_
              refine lv_istore_n (lv' := [(3, .int 0), (0, .ref h0), (1, .int a1), (2, .int a2)]) hx hb dX1_part_90 rfl hl (by decide) rfl (fun ls hl => ?_)
              refine lr_X1_part_91 hx hb hml hts hown hK tp fr bi (if (f_X1_none a1) = 0 then (if a2 < 0 then 2 else (if a2 ≤ 4 then 0 else 2)) else 1) ct wt fi mn wh fu tl gr sd mt mf a1 a2 65 0 (fin_part91 (m_regA c_5)) hP (lv_sub hl [1, 2, 3, 0] rfl) (fun ls hl => ?_)
              have hl : lv_has ls 4 [(0, .ref h0), (1, .int a1), (2, .int a2), (3, .int (lp_X1_part_91 fr a1 65 (0)))] := hl
              refine lv_iload_n hx hb dX1_part_121 rfl (lv_at hl 3 rfl) ?_
              exact W.iret (v := (lp_X1_part_91 fr a1 65 (0))) hx hb hr (fun t ht hW => ⟨⟨(lp_X1_part_91 fr a1 65 (0)), (tp, fr, bi, (if (f_X1_none a1) = 0 then (if a2 < 0 then 2 else (if a2 ≤ 4 then 0 else 2)) else 1), ct, wt, fi, mn, wh, fu, tl, gr, sd, mt, mf), rfl, (show (f_X1_part tp fr bi cd ct wt fi mn wh fu tl gr sd mt mf a1 a2) = (((lp_X1_part_91 fr a1 65 (0)), (tp, fr, bi, (if (f_X1_none a1) = 0 then (if a2 < 0 then 2 else (if a2 ≤ 4 then 0 else 2)) else 1), ct, wt, fi, mn, wh, fu, tl, gr, sd, mt, mf)) : Int32 × MS) from by unfold f_X1_part; rw [if_pos c_5, if_neg c_6, if_neg c_7, if_neg c_8, if_neg c_9]).symm, by rw [ht, m_WU_mk]; exact hP, by rw [m_WU_mk]; exact hD⟩, hS.F ht⟩) hS.2.2 dX1_part_122
            · refine lv_aload_n hx hb dX1_part_83 rfl (lv_at hl 0 rfl) ?_
              refine lv_iload_n hx hb dX1_part_84 rfl (lv_at hl 1 rfl) ?_
              refine W.callV (r := .int (f_X1_kind tp fr a1)) (W.runV (As := [.int a1]) (rest := []) ⟨hx, hb, hml, hown, hts⟩ (c_X1_kind l dC dI cA cB cC h0 pt pf pb tp fr bi (if (f_X1_none a1) = 0 then (if a2 < 0 then 2 else (if a2 ≤ 4 then 0 else 2)) else 1) ct wt fi mn wh fu tl gr sd mt mf a1 (m_regA c_5)) (cwV 1 hts gX1_part_X1_kind rfl rfl rfl (by decide +kernel) ⟨Nat.le_of_ble_eq_true rfl, Nat.le_of_ble_eq_true rfl⟩) (rd_preV hK hP rfl rfl) rfl rfl hl.1 rfl (lv_room (Nat.le_of_ble_eq_true rfl)) dX1_part_85 ⟨Nat.zero_le _, Nat.zero_le _⟩) ?_
              refine W.eq (g2 := F0 m 88 ls ([.int (f_X1_kind tp fr a1)])) rfl ?_
              exact W.iret (v := (f_X1_kind tp fr a1)) hx hb hr (fun t ht hW => ⟨⟨(f_X1_kind tp fr a1), (tp, fr, bi, (if (f_X1_none a1) = 0 then (if a2 < 0 then 2 else (if a2 ≤ 4 then 0 else 2)) else 1), ct, wt, fi, mn, wh, fu, tl, gr, sd, mt, mf), rfl, (show (f_X1_part tp fr bi cd ct wt fi mn wh fu tl gr sd mt mf a1 a2) = (((f_X1_kind tp fr a1), (tp, fr, bi, (if (f_X1_none a1) = 0 then (if a2 < 0 then 2 else (if a2 ≤ 4 then 0 else 2)) else 1), ct, wt, fi, mn, wh, fu, tl, gr, sd, mt, mf)) : Int32 × MS) from by unfold f_X1_part; rw [if_pos c_5, if_neg c_6, if_neg c_7, if_neg c_8, if_pos c_9]).symm, by rw [ht, m_WU_mk]; exact hP, by rw [m_WU_mk]; exact hD⟩, hS.F ht⟩) hS.2.2 dX1_part_88
          · refine lv_aload_n hx hb dX1_part_70 rfl (lv_at hl 0 rfl) ?_
            refine va_get (D := (dC, dI)) (ci := 1) (v := .ref pf) (C := RX1) (T := TX1) (N := 15) hx hb hts hin_X1 hown hK hP 0 rfl rfl 3 (by decide) (hts (.fieldLink RX1 17 "TemporaryRealsModel" "fraction" "[J") (by decide +kernel)) (fun _ h9 => h9) rfl dX1_part_71 ?_
            refine lv_iload_n hx hb dX1_part_74 rfl (lv_at hl 1 rfl) ?_
            refine va_lald hx hb hK hP 2 1 rfl rfl (m_regA c_5) dX1_part_75 ?_
            refine lv_l2i hx hb dX1_part_76 rfl ?_
            exact W.iret (v := (Int64.toInt32 (fr a1.toNatClampNeg))) hx hb hr (fun t ht hW => ⟨⟨(Int64.toInt32 (fr a1.toNatClampNeg)), (tp, fr, bi, (if (f_X1_none a1) = 0 then (if a2 < 0 then 2 else (if a2 ≤ 4 then 0 else 2)) else 1), ct, wt, fi, mn, wh, fu, tl, gr, sd, mt, mf), rfl, (show (f_X1_part tp fr bi cd ct wt fi mn wh fu tl gr sd mt mf a1 a2) = (((Int64.toInt32 (fr a1.toNatClampNeg)), (tp, fr, bi, (if (f_X1_none a1) = 0 then (if a2 < 0 then 2 else (if a2 ≤ 4 then 0 else 2)) else 1), ct, wt, fi, mn, wh, fu, tl, gr, sd, mt, mf)) : Int32 × MS) from by unfold f_X1_part; rw [if_pos c_5, if_neg c_6, if_neg c_7, if_pos c_8]).symm, by rw [ht, m_WU_mk]; exact hP, by rw [m_WU_mk]; exact hD⟩, hS.F ht⟩) hS.2.2 dX1_part_77
        · refine lv_aload_n hx hb dX1_part_54 rfl (lv_at hl 0 rfl) ?_
          refine va_get (D := (dC, dI)) (ci := 1) (v := .ref pf) (C := RX1) (T := TX1) (N := 15) hx hb hts hin_X1 hown hK hP 0 rfl rfl 3 (by decide) (hts (.fieldLink RX1 17 "TemporaryRealsModel" "fraction" "[J") (by decide +kernel)) (fun _ h9 => h9) rfl dX1_part_55 ?_
          refine lv_iload_n hx hb dX1_part_58 rfl (lv_at hl 1 rfl) ?_
          refine va_lald hx hb hK hP 2 1 rfl rfl (m_regA c_5) dX1_part_59 ?_
          refine lv_bipush (v := 32) hx hb dX1_part_60 (by decide) ?_
          refine lv_lshr hx hb dX1_part_62 rfl ?_
          refine lv_l2i hx hb dX1_part_63 rfl ?_
          exact W.iret (v := (Int64.toInt32 ((fr a1.toNatClampNeg) >>> (Int32.toInt64 32 &&& 63)))) hx hb hr (fun t ht hW => ⟨⟨(Int64.toInt32 ((fr a1.toNatClampNeg) >>> (Int32.toInt64 32 &&& 63))), (tp, fr, bi, (if (f_X1_none a1) = 0 then (if a2 < 0 then 2 else (if a2 ≤ 4 then 0 else 2)) else 1), ct, wt, fi, mn, wh, fu, tl, gr, sd, mt, mf), rfl, (show (f_X1_part tp fr bi cd ct wt fi mn wh fu tl gr sd mt mf a1 a2) = (((Int64.toInt32 ((fr a1.toNatClampNeg) >>> (Int32.toInt64 32 &&& 63))), (tp, fr, bi, (if (f_X1_none a1) = 0 then (if a2 < 0 then 2 else (if a2 ≤ 4 then 0 else 2)) else 1), ct, wt, fi, mn, wh, fu, tl, gr, sd, mt, mf)) : Int32 × MS) from by unfold f_X1_part; rw [if_pos c_5, if_neg c_6, if_pos c_7]).symm, by rw [ht, m_WU_mk]; exact hP, by rw [m_WU_mk]; exact hD⟩, hS.F ht⟩) hS.2.2 dX1_part_64
      · refine lv_aload_n hx hb dX1_part_42 rfl (lv_at hl 0 rfl) ?_
        refine va_get (D := (dC, dI)) (ci := 1) (v := .ref pt) (C := RX1) (T := TX1) (N := 15) hx hb hts hin_X1 hown hK hP 0 rfl rfl 2 (by decide) (hts (.fieldLink RX1 13 "TemporaryRealsModel" "top" "[I") (by decide +kernel)) (fun _ h9 => h9) rfl dX1_part_43 ?_
        refine lv_iload_n hx hb dX1_part_46 rfl (lv_at hl 1 rfl) ?_
        refine va_iald hx hb hK hP 1 0 rfl rfl (m_regA c_5) dX1_part_47 ?_
        exact W.iret (v := (tp a1.toNatClampNeg)) hx hb hr (fun t ht hW => ⟨⟨(tp a1.toNatClampNeg), (tp, fr, bi, (if (f_X1_none a1) = 0 then (if a2 < 0 then 2 else (if a2 ≤ 4 then 0 else 2)) else 1), ct, wt, fi, mn, wh, fu, tl, gr, sd, mt, mf), rfl, (show (f_X1_part tp fr bi cd ct wt fi mn wh fu tl gr sd mt mf a1 a2) = (((tp a1.toNatClampNeg), (tp, fr, bi, (if (f_X1_none a1) = 0 then (if a2 < 0 then 2 else (if a2 ≤ 4 then 0 else 2)) else 1), ct, wt, fi, mn, wh, fu, tl, gr, sd, mt, mf)) : Int32 × MS) from by unfold f_X1_part; rw [if_pos c_5, if_pos c_6]).symm, by rw [ht, m_WU_mk]; exact hP, by rw [m_WU_mk]; exact hD⟩, hS.F ht⟩) hS.2.2 dX1_part_48
    · refine lv_iconst (v := 0) hx hb dX1_part_36 (by decide) ?_
      exact W.iret (v := 0) hx hb hr (fun t ht hW => ⟨⟨0, (tp, fr, bi, (if (f_X1_none a1) = 0 then (if a2 < 0 then 2 else (if a2 ≤ 4 then 0 else 2)) else 1), ct, wt, fi, mn, wh, fu, tl, gr, sd, mt, mf), rfl, (show (f_X1_part tp fr bi cd ct wt fi mn wh fu tl gr sd mt mf a1 a2) = ((0, (tp, fr, bi, (if (f_X1_none a1) = 0 then (if a2 < 0 then 2 else (if a2 ≤ 4 then 0 else 2)) else 1), ct, wt, fi, mn, wh, fu, tl, gr, sd, mt, mf)) : Int32 × MS) from by unfold f_X1_part; rw [if_neg c_5]).symm, by rw [ht, m_WU_mk]; exact hP, by rw [m_WU_mk]; exact hD⟩, hS.F ht⟩) hS.2.2 dX1_part_37
  · refine lv_if_eq (tgt := 12) hx hb dX1_part_5 (by decide) (fun c_2 => ?_) (fun c_2 => ?_)
    · refine lv_iload_n hx hb dX1_part_12 rfl (lv_at hl 2 rfl) ?_
      refine lv_if_lt (tgt := 21) hx hb dX1_part_13 (by decide) (fun c_3 => ?_) (fun c_3 => ?_)
      · refine lv_iconst (v := 2) hx hb dX1_part_21 (by decide) ?_
        refine lv_goto (tgt := 26) hx hb dX1_part_22 (by decide) ?_
        exact W.eq (by rw [if_pos c_2, if_pos c_3] <;> (repeat (first | rw [if_pos c_2] | rw [if_pos c_3]))) hJ_1
      · refine lv_iload_n hx hb dX1_part_16 rfl (lv_at hl 2 rfl) ?_
        refine lv_iconst (v := 4) hx hb dX1_part_17 (by decide) ?_
        refine lv_icmp_le (tgt := 25) hx hb dX1_part_18 (by decide) (fun c_4 => ?_) (fun c_4 => ?_)
        · refine lv_iconst (v := 0) hx hb dX1_part_25 (by decide) ?_
          exact W.eq (by rw [if_pos c_2, if_neg c_3, if_pos c_4] <;> (repeat (first | rw [if_pos c_2] | rw [if_neg c_3] | rw [if_pos c_4]))) hJ_1
        · refine lv_iconst (v := 2) hx hb dX1_part_21 (by decide) ?_
          refine lv_goto (tgt := 26) hx hb dX1_part_22 (by decide) ?_
          exact W.eq (by rw [if_pos c_2, if_neg c_3, if_neg c_4] <;> (repeat (first | rw [if_pos c_2] | rw [if_neg c_3] | rw [if_neg c_4]))) hJ_1
    · refine lv_iconst (v := 1) hx hb dX1_part_8 (by decide) ?_
      refine lv_goto (tgt := 26) hx hb dX1_part_9 (by decide) ?_
      exact W.eq (by rw [if_neg c_2] <;> (repeat (first | rw [if_neg c_2]))) hJ_1
def k_X1_round_166 (u : MS) (x1 : Int32) (x2 : Int32) (x3 : Int32) (x4 : Int32) : MS :=
  (u.1, u.2.1, u.2.2.1, u.2.2.2.1, u.2.2.2.2.1, u.2.2.2.2.2.1, u.2.2.2.2.2.2.1, u.2.2.2.2.2.2.2.1, (if ((if x2 = 0 then (if x3 = 0 then 0 else (if x4 = 0 then (if (lg_cmp (u.2.2.2.2.2.2.2.2.1 - u.2.2.2.2.2.2.2.2.1 / 2 * 2) 0) = 0 then 0 else 1) else 1)) else (if ((if x3 = 0 then (if x4 = 0 then 0 else 1) else 1) : Int32) = 0 then 0 else (if x2 = (if u.2.2.2.2.2.2.2.1 = 0 then 2 else 1) then 1 else 0))) : Int32) = 0 then u.2.2.2.2.2.2.2.2.1 else (u.2.2.2.2.2.2.2.2.1 + 1)), (if ((if x2 = 0 then (if x3 = 0 then 0 else (if x4 = 0 then (if (lg_cmp (u.2.2.2.2.2.2.2.2.1 - u.2.2.2.2.2.2.2.2.1 / 2 * 2) 0) = 0 then 0 else 1) else 1)) else (if ((if x3 = 0 then (if x4 = 0 then 0 else 1) else 1) : Int32) = 0 then 0 else (if x2 = (if u.2.2.2.2.2.2.2.1 = 0 then 2 else 1) then 1 else 0))) : Int32) = 0 then 0 else (if (lg_cmp u.2.2.2.2.2.2.2.2.1 (-1)) = 0 then 1 else 0)), u.2.2.2.2.2.2.2.2.2.2.1, u.2.2.2.2.2.2.2.2.2.2.2.1, (if ((if x3 = 0 then (if x4 = 0 then 0 else 1) else 1) : Int32) = 0 then 0 else (if ((if x2 = 0 then (if x3 = 0 then 0 else (if x4 = 0 then (if (lg_cmp (u.2.2.2.2.2.2.2.2.1 - u.2.2.2.2.2.2.2.2.1 / 2 * 2) 0) = 0 then 0 else 1) else 1)) else (if ((if x3 = 0 then (if x4 = 0 then 0 else 1) else 1) : Int32) = 0 then 0 else (if x2 = (if u.2.2.2.2.2.2.2.1 = 0 then 2 else 1) then 1 else 0))) : Int32) = 0 then (-1) else 1)), u.2.2.2.2.2.2.2.2.2.2.2.2.2.1, u.2.2.2.2.2.2.2.2.2.2.2.2.2.2)
set_option maxHeartbeats 1000000 in
set_option maxRecDepth 100000 in
theorem ct_X1_round_166 {p : Program} {l : Launch} {e : Env} {R : Room} {s : State} {m : MethodId} {args : Array Value} {below : List Frame} {meth : Method} {c : Code} {dC : Nat → ClassId} {dI : Nat → Nat → Nat} {cA cB cC : ClassId} {h0 pt pf pb : Nat} {A : Nat → Prop} {v : MS} (hx : p.tables.exec = Jvm.exec) (hb : c.code = cX1_round) (hr : meth.sig.returnType = none) (hml : c.maxLocals = 7) (hts : ∀ w ∈ wsX1_round, w.before args s = true) (hown : s.vm.findClass RX1 = some m.cls) (hlocks : meth.locks = false) (hK : va_K (dC, dI) vwCl (m_T cA cB cC) s) (hRf : 0 ≤ R.frames) (hRl : 0 ≤ R.locals) (hA : ∀ q : Nat, s.heap.size ≤ q → A q) (u : MS) (x1 : Int32) (x2 : Int32) (x3 : Int32) (x4 : Int32) (hv : v = (k_X1_round_166 u x1 x2 x3 x4)) {H : Heap} {locs : List Loc} (hP : va_P (dC, dI) vwCl [(h0, .inr (1, [.int u.2.2.2.1, .int u.2.2.2.2.1, .ref pt, .ref pf, .ref pb, .int u.2.2.2.2.2.1, .int u.2.2.2.2.2.2.1, .int u.2.2.2.2.2.2.2.1, .long u.2.2.2.2.2.2.2.2.1, .int u.2.2.2.2.2.2.2.2.2.1, .int u.2.2.2.2.2.2.2.2.2.2.1, .int u.2.2.2.2.2.2.2.2.2.2.2.1, .int u.2.2.2.2.2.2.2.2.2.2.2.2.1, .int u.2.2.2.2.2.2.2.2.2.2.2.2.2.1, .long u.2.2.2.2.2.2.2.2.2.2.2.2.2.2])), (pt, .inl (cA, 8, .inl u.1)), (pf, .inl (cB, 8, .inr (.inl u.2.1))), (pb, .inl (cC, 129, .inl u.2.2.1))] H) (hD : va_D A [(h0, .inr (1, [.int u.2.2.2.1, .int u.2.2.2.2.1, .ref pt, .ref pf, .ref pb, .int u.2.2.2.2.2.1, .int u.2.2.2.2.2.2.1, .int u.2.2.2.2.2.2.2.1, .long u.2.2.2.2.2.2.2.2.1, .int u.2.2.2.2.2.2.2.2.2.1, .int u.2.2.2.2.2.2.2.2.2.2.1, .int u.2.2.2.2.2.2.2.2.2.2.2.1, .int u.2.2.2.2.2.2.2.2.2.2.2.2.1, .int u.2.2.2.2.2.2.2.2.2.2.2.2.2.1, .long u.2.2.2.2.2.2.2.2.2.2.2.2.2.2])), (pt, .inl (cA, 8, .inl u.1)), (pf, .inl (cB, 8, .inr (.inl u.2.1))), (pb, .inl (cC, 129, .inl u.2.2.1))]) (hS : va_S A s.heap H locs) {ls : Array Slot} (hl : lv_has ls 7 [(0, .ref h0), (1, .int x1), (2, .int x2), (3, .int x3), (4, .int x4)]) : W p l e R s m args below meth c H locs 0 0 (MQ below (wr_Qv (dC, dI) (m_WU cA cB cC h0 pt pf pb) v A) args s 0 0 A) (F0 m 166 ls []) := by
  have hin_X1 : ∀ w ∈ u_ws RX1 TX1 15, w ∈ wsX1_round := by decide +kernel
  subst hv
  refine lv_iload_n hx hb dX1_round_166 rfl (lv_at hl 3 rfl) ?_
  refine w_join (F0 m 180 ls (.int (if x3 = 0 then (if x4 = 0 then 0 else 1) else 1) :: [])) ?_ (fun hJ_1 => ?_)
  · refine lv_istore (lv' := [(5, .int (if x3 = 0 then (if x4 = 0 then 0 else 1) else 1)), (0, .ref h0), (1, .int x1), (2, .int x2), (3, .int x3), (4, .int x4)]) hx hb dX1_round_180 hl (by decide) rfl (fun ls hl => ?_)
    refine lv_iload_n hx hb dX1_round_182 rfl (lv_at hl 3 rfl) ?_
    refine w_join (F0 m 242 ls (.int (if x2 = 0 then (if x3 = 0 then 0 else (if x4 = 0 then (if (lg_cmp (u.2.2.2.2.2.2.2.2.1 - u.2.2.2.2.2.2.2.2.1 / 2 * 2) 0) = 0 then 0 else 1) else 1)) else (if ((if x3 = 0 then (if x4 = 0 then 0 else 1) else 1) : Int32) = 0 then 0 else (if x2 = (if u.2.2.2.2.2.2.2.1 = 0 then 2 else 1) then 1 else 0))) :: [])) ?_ (fun hJ_4 => ?_)
    · refine lv_istore (lv' := [(6, .int (if x2 = 0 then (if x3 = 0 then 0 else (if x4 = 0 then (if (lg_cmp (u.2.2.2.2.2.2.2.2.1 - u.2.2.2.2.2.2.2.2.1 / 2 * 2) 0) = 0 then 0 else 1) else 1)) else (if ((if x3 = 0 then (if x4 = 0 then 0 else 1) else 1) : Int32) = 0 then 0 else (if x2 = (if u.2.2.2.2.2.2.2.1 = 0 then 2 else 1) then 1 else 0)))), (5, .int (if x3 = 0 then (if x4 = 0 then 0 else 1) else 1)), (0, .ref h0), (1, .int x1), (2, .int x2), (3, .int x3), (4, .int x4)]) hx hb dX1_round_242 hl (by decide) rfl (fun ls hl => ?_)
      refine lv_aload_n hx hb dX1_round_244 rfl (lv_at hl 2 rfl) ?_
      refine lv_iload hx hb dX1_round_245 (lv_at hl 1 rfl) ?_
      refine w_join (F0 m 264 ls (.int (if ((if x3 = 0 then (if x4 = 0 then 0 else 1) else 1) : Int32) = 0 then 0 else (if ((if x2 = 0 then (if x3 = 0 then 0 else (if x4 = 0 then (if (lg_cmp (u.2.2.2.2.2.2.2.2.1 - u.2.2.2.2.2.2.2.2.1 / 2 * 2) 0) = 0 then 0 else 1) else 1)) else (if ((if x3 = 0 then (if x4 = 0 then 0 else 1) else 1) : Int32) = 0 then 0 else (if x2 = (if u.2.2.2.2.2.2.2.1 = 0 then 2 else 1) then 1 else 0))) : Int32) = 0 then (-1) else 1)) :: [.ref h0])) ?_ (fun hJ_13 => ?_)
      · refine va_put (D := (dC, dI)) (ci := 1) (v := .int (if ((if x3 = 0 then (if x4 = 0 then 0 else 1) else 1) : Int32) = 0 then 0 else (if ((if x2 = 0 then (if x3 = 0 then 0 else (if x4 = 0 then (if (lg_cmp (u.2.2.2.2.2.2.2.2.1 - u.2.2.2.2.2.2.2.2.1 / 2 * 2) 0) = 0 then 0 else 1) else 1)) else (if ((if x3 = 0 then (if x4 = 0 then 0 else 1) else 1) : Int32) = 0 then 0 else (if x2 = (if u.2.2.2.2.2.2.2.1 = 0 then 2 else 1) then 1 else 0))) : Int32) = 0 then (-1) else 1))) (ty := .int) (C := RX1) (T := TX1) (N := 15) hx hb hts hin_X1 tyX1 tyX1_ok nmX1 hown hK hP hD hS 0 rfl rfl 12 (by decide) (hts (.fieldLink RX1 59 "TemporaryRealsModel" "side" "I") (by decide +kernel)) (fun _ h9 => h9) rfl (by decide +kernel) rfl rfl (Nat.le_of_ble_eq_true rfl) dX1_round_264 (fun H locs hP hD hS => ?_)
        have hP : va_P (dC, dI) vwCl [(h0, .inr (1, [.int u.2.2.2.1, .int u.2.2.2.2.1, .ref pt, .ref pf, .ref pb, .int u.2.2.2.2.2.1, .int u.2.2.2.2.2.2.1, .int u.2.2.2.2.2.2.2.1, .long u.2.2.2.2.2.2.2.2.1, .int u.2.2.2.2.2.2.2.2.2.1, .int u.2.2.2.2.2.2.2.2.2.2.1, .int u.2.2.2.2.2.2.2.2.2.2.2.1, .int (if ((if x3 = 0 then (if x4 = 0 then 0 else 1) else 1) : Int32) = 0 then 0 else (if ((if x2 = 0 then (if x3 = 0 then 0 else (if x4 = 0 then (if (lg_cmp (u.2.2.2.2.2.2.2.2.1 - u.2.2.2.2.2.2.2.2.1 / 2 * 2) 0) = 0 then 0 else 1) else 1)) else (if ((if x3 = 0 then (if x4 = 0 then 0 else 1) else 1) : Int32) = 0 then 0 else (if x2 = (if u.2.2.2.2.2.2.2.1 = 0 then 2 else 1) then 1 else 0))) : Int32) = 0 then (-1) else 1)), .int u.2.2.2.2.2.2.2.2.2.2.2.2.2.1, .long u.2.2.2.2.2.2.2.2.2.2.2.2.2.2])), (pt, .inl (cA, 8, .inl u.1)), (pf, .inl (cB, 8, .inr (.inl u.2.1))), (pb, .inl (cC, 129, .inl u.2.2.1))] H := hP
        have hD : va_D A [(h0, .inr (1, [.int u.2.2.2.1, .int u.2.2.2.2.1, .ref pt, .ref pf, .ref pb, .int u.2.2.2.2.2.1, .int u.2.2.2.2.2.2.1, .int u.2.2.2.2.2.2.2.1, .long u.2.2.2.2.2.2.2.2.1, .int u.2.2.2.2.2.2.2.2.2.1, .int u.2.2.2.2.2.2.2.2.2.2.1, .int u.2.2.2.2.2.2.2.2.2.2.2.1, .int (if ((if x3 = 0 then (if x4 = 0 then 0 else 1) else 1) : Int32) = 0 then 0 else (if ((if x2 = 0 then (if x3 = 0 then 0 else (if x4 = 0 then (if (lg_cmp (u.2.2.2.2.2.2.2.2.1 - u.2.2.2.2.2.2.2.2.1 / 2 * 2) 0) = 0 then 0 else 1) else 1)) else (if ((if x3 = 0 then (if x4 = 0 then 0 else 1) else 1) : Int32) = 0 then 0 else (if x2 = (if u.2.2.2.2.2.2.2.1 = 0 then 2 else 1) then 1 else 0))) : Int32) = 0 then (-1) else 1)), .int u.2.2.2.2.2.2.2.2.2.2.2.2.2.1, .long u.2.2.2.2.2.2.2.2.2.2.2.2.2.2])), (pt, .inl (cA, 8, .inl u.1)), (pf, .inl (cB, 8, .inr (.inl u.2.1))), (pb, .inl (cC, 129, .inl u.2.2.1))] := hD
        refine lv_aload_n hx hb dX1_round_267 rfl (lv_at hl 2 rfl) ?_
        refine lv_iload hx hb dX1_round_268 (lv_at hl 0 rfl) ?_
        refine w_join (F0 m 289 ls (.int (if ((if x2 = 0 then (if x3 = 0 then 0 else (if x4 = 0 then (if (lg_cmp (u.2.2.2.2.2.2.2.2.1 - u.2.2.2.2.2.2.2.2.1 / 2 * 2) 0) = 0 then 0 else 1) else 1)) else (if ((if x3 = 0 then (if x4 = 0 then 0 else 1) else 1) : Int32) = 0 then 0 else (if x2 = (if u.2.2.2.2.2.2.2.1 = 0 then 2 else 1) then 1 else 0))) : Int32) = 0 then 0 else (if (lg_cmp u.2.2.2.2.2.2.2.2.1 (-1)) = 0 then 1 else 0)) :: [.ref h0])) ?_ (fun hJ_16 => ?_)
        · refine va_put (D := (dC, dI)) (ci := 1) (v := .int (if ((if x2 = 0 then (if x3 = 0 then 0 else (if x4 = 0 then (if (lg_cmp (u.2.2.2.2.2.2.2.2.1 - u.2.2.2.2.2.2.2.2.1 / 2 * 2) 0) = 0 then 0 else 1) else 1)) else (if ((if x3 = 0 then (if x4 = 0 then 0 else 1) else 1) : Int32) = 0 then 0 else (if x2 = (if u.2.2.2.2.2.2.2.1 = 0 then 2 else 1) then 1 else 0))) : Int32) = 0 then 0 else (if (lg_cmp u.2.2.2.2.2.2.2.2.1 (-1)) = 0 then 1 else 0))) (ty := .boolean) (C := RX1) (T := TX1) (N := 15) hx hb hts hin_X1 tyX1 tyX1_ok nmX1 hown hK hP hD hS 0 rfl rfl 9 (by decide) (hts (.fieldLink RX1 64 "TemporaryRealsModel" "full" "Z") (by decide +kernel)) (fun _ h9 => h9) rfl (by decide +kernel) (by first | ((repeat' split) <;> rfl) | (rcases hz2 with h | h <;> rw [h] <;> rfl)) (by first | ((repeat' split) <;> rfl) | (rcases hz2 with h | h <;> rw [h] <;> rfl)) (Nat.le_of_ble_eq_true rfl) dX1_round_289 (fun H locs hP hD hS => ?_)
          have hP : va_P (dC, dI) vwCl [(h0, .inr (1, [.int u.2.2.2.1, .int u.2.2.2.2.1, .ref pt, .ref pf, .ref pb, .int u.2.2.2.2.2.1, .int u.2.2.2.2.2.2.1, .int u.2.2.2.2.2.2.2.1, .long u.2.2.2.2.2.2.2.2.1, .int (if ((if x2 = 0 then (if x3 = 0 then 0 else (if x4 = 0 then (if (lg_cmp (u.2.2.2.2.2.2.2.2.1 - u.2.2.2.2.2.2.2.2.1 / 2 * 2) 0) = 0 then 0 else 1) else 1)) else (if ((if x3 = 0 then (if x4 = 0 then 0 else 1) else 1) : Int32) = 0 then 0 else (if x2 = (if u.2.2.2.2.2.2.2.1 = 0 then 2 else 1) then 1 else 0))) : Int32) = 0 then 0 else (if (lg_cmp u.2.2.2.2.2.2.2.2.1 (-1)) = 0 then 1 else 0)), .int u.2.2.2.2.2.2.2.2.2.2.1, .int u.2.2.2.2.2.2.2.2.2.2.2.1, .int (if ((if x3 = 0 then (if x4 = 0 then 0 else 1) else 1) : Int32) = 0 then 0 else (if ((if x2 = 0 then (if x3 = 0 then 0 else (if x4 = 0 then (if (lg_cmp (u.2.2.2.2.2.2.2.2.1 - u.2.2.2.2.2.2.2.2.1 / 2 * 2) 0) = 0 then 0 else 1) else 1)) else (if ((if x3 = 0 then (if x4 = 0 then 0 else 1) else 1) : Int32) = 0 then 0 else (if x2 = (if u.2.2.2.2.2.2.2.1 = 0 then 2 else 1) then 1 else 0))) : Int32) = 0 then (-1) else 1)), .int u.2.2.2.2.2.2.2.2.2.2.2.2.2.1, .long u.2.2.2.2.2.2.2.2.2.2.2.2.2.2])), (pt, .inl (cA, 8, .inl u.1)), (pf, .inl (cB, 8, .inr (.inl u.2.1))), (pb, .inl (cC, 129, .inl u.2.2.1))] H := hP
          have hD : va_D A [(h0, .inr (1, [.int u.2.2.2.1, .int u.2.2.2.2.1, .ref pt, .ref pf, .ref pb, .int u.2.2.2.2.2.1, .int u.2.2.2.2.2.2.1, .int u.2.2.2.2.2.2.2.1, .long u.2.2.2.2.2.2.2.2.1, .int (if ((if x2 = 0 then (if x3 = 0 then 0 else (if x4 = 0 then (if (lg_cmp (u.2.2.2.2.2.2.2.2.1 - u.2.2.2.2.2.2.2.2.1 / 2 * 2) 0) = 0 then 0 else 1) else 1)) else (if ((if x3 = 0 then (if x4 = 0 then 0 else 1) else 1) : Int32) = 0 then 0 else (if x2 = (if u.2.2.2.2.2.2.2.1 = 0 then 2 else 1) then 1 else 0))) : Int32) = 0 then 0 else (if (lg_cmp u.2.2.2.2.2.2.2.2.1 (-1)) = 0 then 1 else 0)), .int u.2.2.2.2.2.2.2.2.2.2.1, .int u.2.2.2.2.2.2.2.2.2.2.2.1, .int (if ((if x3 = 0 then (if x4 = 0 then 0 else 1) else 1) : Int32) = 0 then 0 else (if ((if x2 = 0 then (if x3 = 0 then 0 else (if x4 = 0 then (if (lg_cmp (u.2.2.2.2.2.2.2.2.1 - u.2.2.2.2.2.2.2.2.1 / 2 * 2) 0) = 0 then 0 else 1) else 1)) else (if ((if x3 = 0 then (if x4 = 0 then 0 else 1) else 1) : Int32) = 0 then 0 else (if x2 = (if u.2.2.2.2.2.2.2.1 = 0 then 2 else 1) then 1 else 0))) : Int32) = 0 then (-1) else 1)), .int u.2.2.2.2.2.2.2.2.2.2.2.2.2.1, .long u.2.2.2.2.2.2.2.2.2.2.2.2.2.2])), (pt, .inl (cA, 8, .inl u.1)), (pf, .inl (cB, 8, .inr (.inl u.2.1))), (pb, .inl (cC, 129, .inl u.2.2.1))] := hD
          refine lv_aload_n hx hb dX1_round_292 rfl (lv_at hl 2 rfl) ?_
          refine lv_iload hx hb dX1_round_293 (lv_at hl 0 rfl) ?_
          refine w_join (F0 m 311 ls (.long (if ((if x2 = 0 then (if x3 = 0 then 0 else (if x4 = 0 then (if (lg_cmp (u.2.2.2.2.2.2.2.2.1 - u.2.2.2.2.2.2.2.2.1 / 2 * 2) 0) = 0 then 0 else 1) else 1)) else (if ((if x3 = 0 then (if x4 = 0 then 0 else 1) else 1) : Int32) = 0 then 0 else (if x2 = (if u.2.2.2.2.2.2.2.1 = 0 then 2 else 1) then 1 else 0))) : Int32) = 0 then u.2.2.2.2.2.2.2.2.1 else (u.2.2.2.2.2.2.2.2.1 + 1)) :: [.ref h0])) ?_ (fun hJ_19 => ?_)
          · refine va_put (D := (dC, dI)) (ci := 1) (v := .long (if ((if x2 = 0 then (if x3 = 0 then 0 else (if x4 = 0 then (if (lg_cmp (u.2.2.2.2.2.2.2.2.1 - u.2.2.2.2.2.2.2.2.1 / 2 * 2) 0) = 0 then 0 else 1) else 1)) else (if ((if x3 = 0 then (if x4 = 0 then 0 else 1) else 1) : Int32) = 0 then 0 else (if x2 = (if u.2.2.2.2.2.2.2.1 = 0 then 2 else 1) then 1 else 0))) : Int32) = 0 then u.2.2.2.2.2.2.2.2.1 else (u.2.2.2.2.2.2.2.2.1 + 1))) (ty := .long) (C := RX1) (T := TX1) (N := 15) hx hb hts hin_X1 tyX1 tyX1_ok nmX1 hown hK hP hD hS 0 rfl rfl 8 (by decide) (hts (.fieldLink RX1 43 "TemporaryRealsModel" "whole" "J") (by decide +kernel)) (fun _ h9 => h9) rfl (by decide +kernel) rfl rfl (Nat.le_of_ble_eq_true rfl) dX1_round_311 (fun H locs hP hD hS => ?_)
            have hP : va_P (dC, dI) vwCl [(h0, .inr (1, [.int u.2.2.2.1, .int u.2.2.2.2.1, .ref pt, .ref pf, .ref pb, .int u.2.2.2.2.2.1, .int u.2.2.2.2.2.2.1, .int u.2.2.2.2.2.2.2.1, .long (if ((if x2 = 0 then (if x3 = 0 then 0 else (if x4 = 0 then (if (lg_cmp (u.2.2.2.2.2.2.2.2.1 - u.2.2.2.2.2.2.2.2.1 / 2 * 2) 0) = 0 then 0 else 1) else 1)) else (if ((if x3 = 0 then (if x4 = 0 then 0 else 1) else 1) : Int32) = 0 then 0 else (if x2 = (if u.2.2.2.2.2.2.2.1 = 0 then 2 else 1) then 1 else 0))) : Int32) = 0 then u.2.2.2.2.2.2.2.2.1 else (u.2.2.2.2.2.2.2.2.1 + 1)), .int (if ((if x2 = 0 then (if x3 = 0 then 0 else (if x4 = 0 then (if (lg_cmp (u.2.2.2.2.2.2.2.2.1 - u.2.2.2.2.2.2.2.2.1 / 2 * 2) 0) = 0 then 0 else 1) else 1)) else (if ((if x3 = 0 then (if x4 = 0 then 0 else 1) else 1) : Int32) = 0 then 0 else (if x2 = (if u.2.2.2.2.2.2.2.1 = 0 then 2 else 1) then 1 else 0))) : Int32) = 0 then 0 else (if (lg_cmp u.2.2.2.2.2.2.2.2.1 (-1)) = 0 then 1 else 0)), .int u.2.2.2.2.2.2.2.2.2.2.1, .int u.2.2.2.2.2.2.2.2.2.2.2.1, .int (if ((if x3 = 0 then (if x4 = 0 then 0 else 1) else 1) : Int32) = 0 then 0 else (if ((if x2 = 0 then (if x3 = 0 then 0 else (if x4 = 0 then (if (lg_cmp (u.2.2.2.2.2.2.2.2.1 - u.2.2.2.2.2.2.2.2.1 / 2 * 2) 0) = 0 then 0 else 1) else 1)) else (if ((if x3 = 0 then (if x4 = 0 then 0 else 1) else 1) : Int32) = 0 then 0 else (if x2 = (if u.2.2.2.2.2.2.2.1 = 0 then 2 else 1) then 1 else 0))) : Int32) = 0 then (-1) else 1)), .int u.2.2.2.2.2.2.2.2.2.2.2.2.2.1, .long u.2.2.2.2.2.2.2.2.2.2.2.2.2.2])), (pt, .inl (cA, 8, .inl u.1)), (pf, .inl (cB, 8, .inr (.inl u.2.1))), (pb, .inl (cC, 129, .inl u.2.2.1))] H := hP
            have hD : va_D A [(h0, .inr (1, [.int u.2.2.2.1, .int u.2.2.2.2.1, .ref pt, .ref pf, .ref pb, .int u.2.2.2.2.2.1, .int u.2.2.2.2.2.2.1, .int u.2.2.2.2.2.2.2.1, .long (if ((if x2 = 0 then (if x3 = 0 then 0 else (if x4 = 0 then (if (lg_cmp (u.2.2.2.2.2.2.2.2.1 - u.2.2.2.2.2.2.2.2.1 / 2 * 2) 0) = 0 then 0 else 1) else 1)) else (if ((if x3 = 0 then (if x4 = 0 then 0 else 1) else 1) : Int32) = 0 then 0 else (if x2 = (if u.2.2.2.2.2.2.2.1 = 0 then 2 else 1) then 1 else 0))) : Int32) = 0 then u.2.2.2.2.2.2.2.2.1 else (u.2.2.2.2.2.2.2.2.1 + 1)), .int (if ((if x2 = 0 then (if x3 = 0 then 0 else (if x4 = 0 then (if (lg_cmp (u.2.2.2.2.2.2.2.2.1 - u.2.2.2.2.2.2.2.2.1 / 2 * 2) 0) = 0 then 0 else 1) else 1)) else (if ((if x3 = 0 then (if x4 = 0 then 0 else 1) else 1) : Int32) = 0 then 0 else (if x2 = (if u.2.2.2.2.2.2.2.1 = 0 then 2 else 1) then 1 else 0))) : Int32) = 0 then 0 else (if (lg_cmp u.2.2.2.2.2.2.2.2.1 (-1)) = 0 then 1 else 0)), .int u.2.2.2.2.2.2.2.2.2.2.1, .int u.2.2.2.2.2.2.2.2.2.2.2.1, .int (if ((if x3 = 0 then (if x4 = 0 then 0 else 1) else 1) : Int32) = 0 then 0 else (if ((if x2 = 0 then (if x3 = 0 then 0 else (if x4 = 0 then (if (lg_cmp (u.2.2.2.2.2.2.2.2.1 - u.2.2.2.2.2.2.2.2.1 / 2 * 2) 0) = 0 then 0 else 1) else 1)) else (if ((if x3 = 0 then (if x4 = 0 then 0 else 1) else 1) : Int32) = 0 then 0 else (if x2 = (if u.2.2.2.2.2.2.2.1 = 0 then 2 else 1) then 1 else 0))) : Int32) = 0 then (-1) else 1)), .int u.2.2.2.2.2.2.2.2.2.2.2.2.2.1, .long u.2.2.2.2.2.2.2.2.2.2.2.2.2.2])), (pt, .inl (cA, 8, .inl u.1)), (pf, .inl (cB, 8, .inr (.inl u.2.1))), (pb, .inl (cC, 129, .inl u.2.2.1))] := hD
            exact W.vret hx hb hr (fun t ht hW => ⟨⟨(u.1, u.2.1, u.2.2.1, u.2.2.2.1, u.2.2.2.2.1, u.2.2.2.2.2.1, u.2.2.2.2.2.2.1, u.2.2.2.2.2.2.2.1, (if ((if x2 = 0 then (if x3 = 0 then 0 else (if x4 = 0 then (if (lg_cmp (u.2.2.2.2.2.2.2.2.1 - u.2.2.2.2.2.2.2.2.1 / 2 * 2) 0) = 0 then 0 else 1) else 1)) else (if ((if x3 = 0 then (if x4 = 0 then 0 else 1) else 1) : Int32) = 0 then 0 else (if x2 = (if u.2.2.2.2.2.2.2.1 = 0 then 2 else 1) then 1 else 0))) : Int32) = 0 then u.2.2.2.2.2.2.2.2.1 else (u.2.2.2.2.2.2.2.2.1 + 1)), (if ((if x2 = 0 then (if x3 = 0 then 0 else (if x4 = 0 then (if (lg_cmp (u.2.2.2.2.2.2.2.2.1 - u.2.2.2.2.2.2.2.2.1 / 2 * 2) 0) = 0 then 0 else 1) else 1)) else (if ((if x3 = 0 then (if x4 = 0 then 0 else 1) else 1) : Int32) = 0 then 0 else (if x2 = (if u.2.2.2.2.2.2.2.1 = 0 then 2 else 1) then 1 else 0))) : Int32) = 0 then 0 else (if (lg_cmp u.2.2.2.2.2.2.2.2.1 (-1)) = 0 then 1 else 0)), u.2.2.2.2.2.2.2.2.2.2.1, u.2.2.2.2.2.2.2.2.2.2.2.1, (if ((if x3 = 0 then (if x4 = 0 then 0 else 1) else 1) : Int32) = 0 then 0 else (if ((if x2 = 0 then (if x3 = 0 then 0 else (if x4 = 0 then (if (lg_cmp (u.2.2.2.2.2.2.2.2.1 - u.2.2.2.2.2.2.2.2.1 / 2 * 2) 0) = 0 then 0 else 1) else 1)) else (if ((if x3 = 0 then (if x4 = 0 then 0 else 1) else 1) : Int32) = 0 then 0 else (if x2 = (if u.2.2.2.2.2.2.2.1 = 0 then 2 else 1) then 1 else 0))) : Int32) = 0 then (-1) else 1)), u.2.2.2.2.2.2.2.2.2.2.2.2.2.1, u.2.2.2.2.2.2.2.2.2.2.2.2.2.2), rfl, (show (k_X1_round_166 u x1 x2 x3 x4) = ((u.1, u.2.1, u.2.2.1, u.2.2.2.1, u.2.2.2.2.1, u.2.2.2.2.2.1, u.2.2.2.2.2.2.1, u.2.2.2.2.2.2.2.1, (if ((if x2 = 0 then (if x3 = 0 then 0 else (if x4 = 0 then (if (lg_cmp (u.2.2.2.2.2.2.2.2.1 - u.2.2.2.2.2.2.2.2.1 / 2 * 2) 0) = 0 then 0 else 1) else 1)) else (if ((if x3 = 0 then (if x4 = 0 then 0 else 1) else 1) : Int32) = 0 then 0 else (if x2 = (if u.2.2.2.2.2.2.2.1 = 0 then 2 else 1) then 1 else 0))) : Int32) = 0 then u.2.2.2.2.2.2.2.2.1 else (u.2.2.2.2.2.2.2.2.1 + 1)), (if ((if x2 = 0 then (if x3 = 0 then 0 else (if x4 = 0 then (if (lg_cmp (u.2.2.2.2.2.2.2.2.1 - u.2.2.2.2.2.2.2.2.1 / 2 * 2) 0) = 0 then 0 else 1) else 1)) else (if ((if x3 = 0 then (if x4 = 0 then 0 else 1) else 1) : Int32) = 0 then 0 else (if x2 = (if u.2.2.2.2.2.2.2.1 = 0 then 2 else 1) then 1 else 0))) : Int32) = 0 then 0 else (if (lg_cmp u.2.2.2.2.2.2.2.2.1 (-1)) = 0 then 1 else 0)), u.2.2.2.2.2.2.2.2.2.2.1, u.2.2.2.2.2.2.2.2.2.2.2.1, (if ((if x3 = 0 then (if x4 = 0 then 0 else 1) else 1) : Int32) = 0 then 0 else (if ((if x2 = 0 then (if x3 = 0 then 0 else (if x4 = 0 then (if (lg_cmp (u.2.2.2.2.2.2.2.2.1 - u.2.2.2.2.2.2.2.2.1 / 2 * 2) 0) = 0 then 0 else 1) else 1)) else (if ((if x3 = 0 then (if x4 = 0 then 0 else 1) else 1) : Int32) = 0 then 0 else (if x2 = (if u.2.2.2.2.2.2.2.1 = 0 then 2 else 1) then 1 else 0))) : Int32) = 0 then (-1) else 1)), u.2.2.2.2.2.2.2.2.2.2.2.2.2.1, u.2.2.2.2.2.2.2.2.2.2.2.2.2.2) : MS) from by unfold k_X1_round_166; rfl).symm, by rw [ht, m_WU_mk]; exact hP, by rw [m_WU_mk]; exact hD⟩, hS.F ht⟩) hS.2.2 dX1_round_314
          · refine lv_if_eq (tgt := 307) hx hb dX1_round_295 (by decide) (fun c_20 => ?_) (fun c_20 => ?_)
            · refine lv_aload_n hx hb dX1_round_307 rfl (lv_at hl 2 rfl) ?_
              refine va_get (D := (dC, dI)) (ci := 1) (v := .long u.2.2.2.2.2.2.2.2.1) (C := RX1) (T := TX1) (N := 15) hx hb hts hin_X1 hown hK hP 0 rfl rfl 8 (by decide) (hts (.fieldLink RX1 43 "TemporaryRealsModel" "whole" "J") (by decide +kernel)) (fun _ h9 => h9) rfl dX1_round_308 ?_
              exact W.eq (by rw [if_pos c_20] <;> (repeat (first | rw [if_pos c_20]))) hJ_19
            · refine lv_aload_n hx hb dX1_round_298 rfl (lv_at hl 2 rfl) ?_
              refine va_get (D := (dC, dI)) (ci := 1) (v := .long u.2.2.2.2.2.2.2.2.1) (C := RX1) (T := TX1) (N := 15) hx hb hts hin_X1 hown hK hP 0 rfl rfl 8 (by decide) (hts (.fieldLink RX1 43 "TemporaryRealsModel" "whole" "J") (by decide +kernel)) (fun _ h9 => h9) rfl dX1_round_299 ?_
              refine lv_lconst (v := 1) hx hb dX1_round_302 (by decide) ?_
              refine lv_ladd hx hb dX1_round_303 ?_
              refine lv_goto (tgt := 311) hx hb dX1_round_304 (by decide) ?_
              exact W.eq (by rw [if_neg c_20] <;> (repeat (first | rw [if_neg c_20]))) hJ_19
        · refine lv_if_eq (tgt := 288) hx hb dX1_round_270 (by decide) (fun c_17 => ?_) (fun c_17 => ?_)
          · refine lv_iconst (v := 0) hx hb dX1_round_288 (by decide) ?_
            exact W.eq (by rw [if_pos c_17] <;> (repeat (first | rw [if_pos c_17]))) hJ_16
          · refine lv_aload_n hx hb dX1_round_273 rfl (lv_at hl 2 rfl) ?_
            refine va_get (D := (dC, dI)) (ci := 1) (v := .long u.2.2.2.2.2.2.2.2.1) (C := RX1) (T := TX1) (N := 15) hx hb hts hin_X1 hown hK hP 0 rfl rfl 8 (by decide) (hts (.fieldLink RX1 43 "TemporaryRealsModel" "whole" "J") (by decide +kernel)) (fun _ h9 => h9) rfl dX1_round_274 ?_
            refine lv_ldc2 (v := (-1)) hx hb hown (hts (.constantLong RX1 62 (-1)) (by decide +kernel)) dX1_round_277 ?_
            refine W.lcmp hx hb dX1_round_280 ?_
            refine lv_if_ne (tgt := 288) hx hb dX1_round_281 (by decide) (fun c_18 => ?_) (fun c_18 => ?_)
            · refine lv_iconst (v := 0) hx hb dX1_round_288 (by decide) ?_
              exact W.eq (by rw [if_neg c_17, if_neg c_18] <;> (repeat (first | rw [if_neg c_17] | rw [if_neg c_18]))) hJ_16
            · refine lv_iconst (v := 1) hx hb dX1_round_284 (by decide) ?_
              refine lv_goto (tgt := 289) hx hb dX1_round_285 (by decide) ?_
              exact W.eq (by rw [if_neg c_17, if_pos c_18] <;> (repeat (first | rw [if_neg c_17] | rw [if_pos c_18]))) hJ_16
      · refine lv_if_ne (tgt := 254) hx hb dX1_round_247 (by decide) (fun c_14 => ?_) (fun c_14 => ?_)
        · refine lv_iload hx hb dX1_round_254 (lv_at hl 0 rfl) ?_
          refine lv_if_eq (tgt := 263) hx hb dX1_round_256 (by decide) (fun c_15 => ?_) (fun c_15 => ?_)
          · refine lv_iconst (v := (-1)) hx hb dX1_round_263 (by decide) ?_
            exact W.eq (by rw [if_neg c_14, if_pos c_15] <;> (repeat (first | rw [if_neg c_14] | rw [if_pos c_15]))) hJ_13
          · refine lv_iconst (v := 1) hx hb dX1_round_259 (by decide) ?_
            refine lv_goto (tgt := 264) hx hb dX1_round_260 (by decide) ?_
            exact W.eq (by rw [if_neg c_14, if_neg c_15] <;> (repeat (first | rw [if_neg c_14] | rw [if_neg c_15]))) hJ_13
        · refine lv_iconst (v := 0) hx hb dX1_round_250 (by decide) ?_
          refine lv_goto (tgt := 264) hx hb dX1_round_251 (by decide) ?_
          exact W.eq (by rw [if_pos c_14] <;> (repeat (first | rw [if_pos c_14]))) hJ_13
    · refine lv_if_ne (tgt := 216) hx hb dX1_round_183 (by decide) (fun c_5 => ?_) (fun c_5 => ?_)
      · refine lv_iload hx hb dX1_round_216 (lv_at hl 0 rfl) ?_
        refine lv_if_eq (tgt := 241) hx hb dX1_round_218 (by decide) (fun c_6 => ?_) (fun c_6 => ?_)
        · refine lv_iconst (v := 0) hx hb dX1_round_241 (by decide) ?_
          exact W.eq (by rw [if_neg c_5, if_pos c_6] <;> (repeat (first | rw [if_neg c_5] | rw [if_pos c_6]))) hJ_4
        · refine lv_iload_n hx hb dX1_round_221 rfl (lv_at hl 3 rfl) ?_
          refine lv_aload_n hx hb dX1_round_222 rfl (lv_at hl 1 rfl) ?_
          refine va_get (D := (dC, dI)) (ci := 1) (v := .int u.2.2.2.2.2.2.2.1) (C := RX1) (T := TX1) (N := 15) hx hb hts hin_X1 hown hK hP 0 rfl rfl 7 (by decide) (hts (.fieldLink RX1 55 "TemporaryRealsModel" "minus" "Z") (by decide +kernel)) (fun _ h9 => h9) rfl dX1_round_223 ?_
          refine w_join (F0 m 234 ls (.int (if u.2.2.2.2.2.2.2.1 = 0 then 2 else 1) :: [.int x2])) ?_ (fun hJ_7 => ?_)
          · refine lv_icmp_ne (tgt := 241) hx hb dX1_round_234 (by decide) (fun c_9 => ?_) (fun c_9 => ?_)
            · refine lv_iconst (v := 0) hx hb dX1_round_241 (by decide) ?_
              exact W.eq (by rw [if_neg c_5, if_neg c_6, if_neg c_9] <;> (repeat (first | rw [if_neg c_5] | rw [if_neg c_6] | rw [if_neg c_9]))) hJ_4
            · refine lv_iconst (v := 1) hx hb dX1_round_237 (by decide) ?_
              refine lv_goto (tgt := 242) hx hb dX1_round_238 (by decide) ?_
              exact W.eq (by rw [if_neg c_5, if_neg c_6, if_pos c_9] <;> (repeat (first | rw [if_neg c_5] | rw [if_neg c_6] | rw [if_pos c_9]))) hJ_4
          · refine lv_if_eq (tgt := 233) hx hb dX1_round_226 (by decide) (fun c_8 => ?_) (fun c_8 => ?_)
            · refine lv_iconst (v := 2) hx hb dX1_round_233 (by decide) ?_
              exact W.eq (by rw [if_pos c_8] <;> (repeat (first | rw [if_pos c_8]))) hJ_7
            · refine lv_iconst (v := 1) hx hb dX1_round_229 (by decide) ?_
              refine lv_goto (tgt := 234) hx hb dX1_round_230 (by decide) ?_
              exact W.eq (by rw [if_neg c_8] <;> (repeat (first | rw [if_neg c_8]))) hJ_7
      · refine lv_iload_n hx hb dX1_round_186 rfl (lv_at hl 4 rfl) ?_
        refine lv_if_eq (tgt := 212) hx hb dX1_round_187 (by decide) (fun c_10 => ?_) (fun c_10 => ?_)
        · refine lv_iconst (v := 0) hx hb dX1_round_212 (by decide) ?_
          refine lv_goto (tgt := 242) hx hb dX1_round_213 (by decide) ?_
          exact W.eq (by rw [if_pos c_5, if_pos c_10] <;> (repeat (first | rw [if_pos c_5] | rw [if_pos c_10]))) hJ_4
        · refine lv_iload hx hb dX1_round_190 (lv_at hl 5 rfl) ?_
          refine lv_if_ne (tgt := 208) hx hb dX1_round_192 (by decide) (fun c_11 => ?_) (fun c_11 => ?_)
          · refine lv_iconst (v := 1) hx hb dX1_round_208 (by decide) ?_
            refine lv_goto (tgt := 242) hx hb dX1_round_209 (by decide) ?_
            exact W.eq (by rw [if_pos c_5, if_neg c_10, if_neg c_11] <;> (repeat (first | rw [if_pos c_5] | rw [if_neg c_10] | rw [if_neg c_11]))) hJ_4
          · refine lv_aload_n hx hb dX1_round_195 rfl (lv_at hl 1 rfl) ?_
            refine va_get (D := (dC, dI)) (ci := 1) (v := .long u.2.2.2.2.2.2.2.2.1) (C := RX1) (T := TX1) (N := 15) hx hb hts hin_X1 hown hK hP 0 rfl rfl 8 (by decide) (hts (.fieldLink RX1 43 "TemporaryRealsModel" "whole" "J") (by decide +kernel)) (fun _ h9 => h9) rfl dX1_round_196 ?_
            refine lv_ldc2 (v := 2) hx hb hown (hts (.constantLong RX1 53 2) (by decide +kernel)) dX1_round_199 ?_
            refine lv_lrem hx hb dX1_round_202 (by decide) ?_
            refine lv_lconst (v := 0) hx hb dX1_round_203 (by decide) ?_
            refine W.lcmp hx hb dX1_round_204 ?_
            refine lv_if_eq (tgt := 212) hx hb dX1_round_205 (by decide) (fun c_12 => ?_) (fun c_12 => ?_)
            · refine lv_iconst (v := 0) hx hb dX1_round_212 (by decide) ?_
              refine lv_goto (tgt := 242) hx hb dX1_round_213 (by decide) ?_
              exact W.eq (by rw [if_pos c_5, if_neg c_10, if_pos c_11, if_pos c_12] <;> (repeat (first | rw [if_pos c_5] | rw [if_neg c_10] | rw [if_pos c_11] | rw [if_pos c_12]))) hJ_4
            · refine lv_iconst (v := 1) hx hb dX1_round_208 (by decide) ?_
              refine lv_goto (tgt := 242) hx hb dX1_round_209 (by decide) ?_
              exact W.eq (by rw [if_pos c_5, if_neg c_10, if_pos c_11, if_neg c_12] <;> (repeat (first | rw [if_pos c_5] | rw [if_neg c_10] | rw [if_pos c_11] | rw [if_neg c_12]))) hJ_4
  · refine lv_if_ne (tgt := 175) hx hb dX1_round_167 (by decide) (fun c_2 => ?_) (fun c_2 => ?_)
    · refine lv_iconst (v := 1) hx hb dX1_round_175 (by decide) ?_
      refine lv_goto (tgt := 180) hx hb dX1_round_176 (by decide) ?_
      exact W.eq (by rw [if_neg c_2] <;> (repeat (first | rw [if_neg c_2]))) hJ_1
    · refine lv_iload hx hb dX1_round_170 (lv_at hl 4 rfl) ?_
      refine lv_if_eq (tgt := 179) hx hb dX1_round_172 (by decide) (fun c_3 => ?_) (fun c_3 => ?_)
      · refine lv_iconst (v := 0) hx hb dX1_round_179 (by decide) ?_
        exact W.eq (by rw [if_pos c_2, if_pos c_3] <;> (repeat (first | rw [if_pos c_2] | rw [if_pos c_3]))) hJ_1
      · refine lv_iconst (v := 1) hx hb dX1_round_175 (by decide) ?_
        refine lv_goto (tgt := 180) hx hb dX1_round_176 (by decide) ?_
        exact W.eq (by rw [if_pos c_2, if_neg c_3] <;> (repeat (first | rw [if_pos c_2] | rw [if_neg c_3]))) hJ_1
theorem cs_X1_round_166 {p : Program} {l : Launch} {e : Env} {R : Room} {s : State} {m : MethodId} {args : Array Value} {below : List Frame} {meth : Method} {c : Code} {dC : Nat → ClassId} {dI : Nat → Nat → Nat} {cA cB cC : ClassId} {h0 pt pf pb : Nat} {A : Nat → Prop} {v : MS} (hx : p.tables.exec = Jvm.exec) (hb : c.code = cX1_round) (hr : meth.sig.returnType = none) (hml : c.maxLocals = 7) (hts : ∀ w ∈ wsX1_round, w.before args s = true) (hown : s.vm.findClass RX1 = some m.cls) (hlocks : meth.locks = false) (hK : va_K (dC, dI) vwCl (m_T cA cB cC) s) (hRf : 0 ≤ R.frames) (hRl : 0 ≤ R.locals) (hA : ∀ q : Nat, s.heap.size ≤ q → A q) (tp : Nat → Int32) (fr : Nat → Int64) (bi : Nat → Int32) (cd : Int32) (ct : Int32) (wt : Int32) (fi : Int32) (mn : Int32) (wh : Int64) (fu : Int32) (tl : Int32) (gr : Int32) (sd : Int32) (mt : Int32) (mf : Int64) (x1 : Int32) (x2 : Int32) (x3 : Int32) (x4 : Int32) (hv : v = (k_X1_round_166 (tp, fr, bi, cd, ct, wt, fi, mn, wh, fu, tl, gr, sd, mt, mf) x1 x2 x3 x4)) {H : Heap} {locs : List Loc} (hP : va_P (dC, dI) vwCl [(h0, .inr (1, [.int cd, .int ct, .ref pt, .ref pf, .ref pb, .int wt, .int fi, .int mn, .long wh, .int fu, .int tl, .int gr, .int sd, .int mt, .long mf])), (pt, .inl (cA, 8, .inl tp)), (pf, .inl (cB, 8, .inr (.inl fr))), (pb, .inl (cC, 129, .inl bi))] H) (hD : va_D A [(h0, .inr (1, [.int cd, .int ct, .ref pt, .ref pf, .ref pb, .int wt, .int fi, .int mn, .long wh, .int fu, .int tl, .int gr, .int sd, .int mt, .long mf])), (pt, .inl (cA, 8, .inl tp)), (pf, .inl (cB, 8, .inr (.inl fr))), (pb, .inl (cC, 129, .inl bi))]) (hS : va_S A s.heap H locs) {ls : Array Slot} (hl : lv_has ls 7 [(0, .ref h0), (1, .int x1), (2, .int x2), (3, .int x3), (4, .int x4)]) : W p l e R s m args below meth c H locs 0 0 (MQ below (wr_Qv (dC, dI) (m_WU cA cB cC h0 pt pf pb) v A) args s 0 0 A) (F0 m 166 ls []) := ct_X1_round_166 hx hb hr hml hts hown hlocks hK hRf hRl hA (tp, fr, bi, cd, ct, wt, fi, mn, wh, fu, tl, gr, sd, mt, mf) x1 x2 x3 x4 hv hP hD hS hl
def f_X1_round (tp : Nat → Int32) (fr : Nat → Int64) (bi : Nat → Int32) (cd : Int32) (ct : Int32) (wt : Int32) (fi : Int32) (mn : Int32) (wh : Int64) (fu : Int32) (tl : Int32) (gr : Int32) (sd : Int32) (mt : Int32) (mf : Int64) (a1 : Int32) : MS :=
  k_X1_round_166 (tp, fr, bi, cd, ct, wt, fi, mn, (lp_X1_round_142 a1 310 ((wt - 129), (lp_X1_round_26 bi wt a1 130 (0, 0, fi, 0)).2.2.2)).2, fu, tl, gr, sd, mt, mf) a1 ((ct >>> (10 &&& 31)) &&& 3) ((lp_X1_round_26 bi wt a1 130 (0, 0, fi, 0)).1) ((lp_X1_round_26 bi wt a1 130 (0, 0, fi, 0)).2.1)
set_option maxHeartbeats 1000000 in
set_option maxRecDepth 100000 in
theorem c_X1_round (l : Launch) (dC : Nat → ClassId) (dI : Nat → Nat → Nat) (cA cB cC : ClassId) (h0 pt pf pb : Nat) (sz : Nat) (tp : Nat → Int32) (fr : Nat → Int64) (bi : Nat → Int32) (cd : Int32) (ct : Int32) (wt : Int32) (fi : Int32) (mn : Int32) (wh : Int64) (fu : Int32) (tl : Int32) (gr : Int32) (sd : Int32) (mt : Int32) (mf : Int64) (a1 : Int32) (hq : m_rok fi wt a1) : Met l yX1_round wsX1_round ({ frames := 0, cells := 0, slots := 0, locals := 0 }) (wr_Pc (dC, dI) (m_W cA cB cC h0 pt pf pb tp fr bi cd ct wt fi mn wh fu tl gr sd mt mf) (m_T cA cB cC) sz [.ref h0, .int a1]) (wr_Qv (dC, dI) (m_WU cA cB cC h0 pt pf pb) (f_X1_round tp fr bi cd ct wt fi mn wh fu tl gr sd mt mf a1) (va_A (m_W cA cB cC h0 pt pf pb tp fr bi cd ct wt fi mn wh fu tl gr sd mt mf) sz)) 0 0 (va_A (m_W cA cB cC h0 pt pf pb tp fr bi cd ct wt fi mn wh fu tl gr sd mt mf) sz) := by
  refine Met.ofW (cc := cX1_round) (maxL := 7) (ret := none) (by decide) rfl ?_
  intro p e s m args below meth c s₁ B hml hv
  obtain ⟨rfl, hsz, hP, hK, hD0⟩ := hv
  have hx := B.exec
  have hb := B.bytes
  have hr := B.returns
  have hts := atoms_spec (ws := wsX1_round) B.pre
  have hown : s.vm.findClass RX1 = some m.cls := findClass_of_methodNamed B.named
  have hlocks := B.notSynchronized
  have hin_X1 : ∀ w ∈ u_ws RX1 TX1 15, w ∈ wsX1_round := by decide +kernel
  subst hsz
  have hD := hD0.self (sz := s.heap.size)
  generalize hAe : va_A (m_W cA cB cC h0 pt pf pb tp fr bi cd ct wt fi mn wh fu tl gr sd mt mf) s.heap.size = A at hD ⊢
  have hA : ∀ q : Nat, s.heap.size ≤ q → A q := fun q h => by rw [← hAe]; exact Or.inr h
  have hS : va_S A s.heap s.heap [] := va_S.rf
  have hD : va_D A [(h0, .inr (1, [.int cd, .int ct, .ref pt, .ref pf, .ref pb, .int wt, .int fi, .int mn, .long wh, .int fu, .int tl, .int gr, .int sd, .int mt, .long mf])), (pt, .inl (cA, 8, .inl tp)), (pf, .inl (cB, 8, .inr (.inl fr))), (pb, .inl (cC, 129, .inl bi))] := hD
  have hP : va_P (dC, dI) vwCl [(h0, .inr (1, [.int cd, .int ct, .ref pt, .ref pf, .ref pb, .int wt, .int fi, .int mn, .long wh, .int fu, .int tl, .int gr, .int sd, .int mt, .long mf])), (pt, .inl (cA, 8, .inl tp)), (pf, .inl (cB, 8, .inr (.inl fr))), (pb, .inl (cC, 129, .inl bi))] s.heap := hP
  have hl := lv_entry ([.ref h0, .int a1]) (n := 7) (Nat.le_of_ble_eq_true rfl)
  rw [lg_entry_eq]
  generalize (lg_sl ([.ref h0, .int a1]) ++ List.replicate (7 - (lg_sl ([.ref h0, .int a1])).length) Slot.unset).toArray = ls at hl ⊢
  have hl : lv_has ls 7 [(0, .ref h0), (1, .int a1)] := hl
  refine lv_aload_n hx hb dX1_round_0 rfl (lv_at hl 0 rfl) ?_
  refine va_get (D := (dC, dI)) (ci := 1) (v := .int ct) (C := RX1) (T := TX1) (N := 15) hx hb hts hin_X1 hown hK hP 0 rfl rfl 1 (by decide) (hts (.fieldLink RX1 7 "TemporaryRealsModel" "control" "I") (by decide +kernel)) (fun _ h9 => h9) rfl dX1_round_1 ?_
  refine lv_bipush (v := 10) hx hb dX1_round_4 (by decide) ?_
  refine lv_ishr hx hb dX1_round_6 ?_
  refine lv_iconst (v := 3) hx hb dX1_round_7 (by decide) ?_
  refine lv_iand hx hb dX1_round_8 ?_
  refine lv_istore_n (lv' := [(2, .int ((ct >>> (10 &&& 31)) &&& 3)), (0, .ref h0), (1, .int a1)]) hx hb dX1_round_9 rfl hl (by decide) rfl (fun ls hl => ?_)
  refine lv_aload_n hx hb dX1_round_10 rfl (lv_at hl 1 rfl) ?_
  refine lv_lconst (v := 0) hx hb dX1_round_11 (by decide) ?_
  refine va_put (D := (dC, dI)) (ci := 1) (v := .long 0) (ty := .long) (C := RX1) (T := TX1) (N := 15) hx hb hts hin_X1 tyX1 tyX1_ok nmX1 hown hK hP hD hS 0 rfl rfl 8 (by decide) (hts (.fieldLink RX1 43 "TemporaryRealsModel" "whole" "J") (by decide +kernel)) (fun _ h9 => h9) rfl (by decide +kernel) rfl rfl (Nat.le_of_ble_eq_true rfl) dX1_round_12 (fun H locs hP hD hS => ?_)
  have hP : va_P (dC, dI) vwCl [(h0, .inr (1, [.int cd, .int ct, .ref pt, .ref pf, .ref pb, .int wt, .int fi, .int mn, .long 0, .int fu, .int tl, .int gr, .int sd, .int mt, .long mf])), (pt, .inl (cA, 8, .inl tp)), (pf, .inl (cB, 8, .inr (.inl fr))), (pb, .inl (cC, 129, .inl bi))] H := hP
  have hD : va_D A [(h0, .inr (1, [.int cd, .int ct, .ref pt, .ref pf, .ref pb, .int wt, .int fi, .int mn, .long 0, .int fu, .int tl, .int gr, .int sd, .int mt, .long mf])), (pt, .inl (cA, 8, .inl tp)), (pf, .inl (cB, 8, .inr (.inl fr))), (pb, .inl (cC, 129, .inl bi))] := hD
  refine lv_iconst (v := 0) hx hb dX1_round_15 (by decide) ?_
  refine lv_istore_n (lv' := [(3, .int 0), (2, .int ((ct >>> (10 &&& 31)) &&& 3)), (0, .ref h0), (1, .int a1)]) hx hb dX1_round_16 rfl hl (by decide) rfl (fun ls hl => ?_)
  refine lv_iconst (v := 0) hx hb dX1_round_17 (by decide) ?_
  refine lv_istore (lv' := [(4, .int 0), (3, .int 0), (2, .int ((ct >>> (10 &&& 31)) &&& 3)), (0, .ref h0), (1, .int a1)]) hx hb dX1_round_18 hl (by decide) rfl (fun ls hl => ?_)
  refine lv_aload_n hx hb dX1_round_20 rfl (lv_at hl 3 rfl) ?_
  refine va_get (D := (dC, dI)) (ci := 1) (v := .int fi) (C := RX1) (T := TX1) (N := 15) hx hb hts hin_X1 hown hK hP 0 rfl rfl 6 (by decide) (hts (.fieldLink RX1 47 "TemporaryRealsModel" "first" "I") (by decide +kernel)) (fun _ h9 => h9) rfl dX1_round_21 ?_
  refine lv_istore (lv' := [(5, .int fi), (4, .int 0), (3, .int 0), (2, .int ((ct >>> (10 &&& 31)) &&& 3)), (0, .ref h0), (1, .int a1)]) hx hb dX1_round_24 hl (by decide) rfl (fun ls hl => ?_)
  refine lr_X1_round_26 hx hb hml hts hown hK tp fr bi cd ct wt fi mn fu tl gr sd mt mf a1 ((ct >>> (10 &&& 31)) &&& 3) 130 0 0 fi 0 (fin_round26 hq) hP hD hS (lv_sub hl [4, 5, 3, 2, 1, 0] rfl) (fun H locs ls hP hD hS hl => ?_)
  have hP : va_P (dC, dI) vwCl [(h0, .inr (1, [.int cd, .int ct, .ref pt, .ref pf, .ref pb, .int wt, .int fi, .int mn, .long ((lp_X1_round_26 bi wt a1 130 (0, 0, fi, 0)).2.2.2), .int fu, .int tl, .int gr, .int sd, .int mt, .long mf])), (pt, .inl (cA, 8, .inl tp)), (pf, .inl (cB, 8, .inr (.inl fr))), (pb, .inl (cC, 129, .inl bi))] H := hP
  have hD : va_D A [(h0, .inr (1, [.int cd, .int ct, .ref pt, .ref pf, .ref pb, .int wt, .int fi, .int mn, .long ((lp_X1_round_26 bi wt a1 130 (0, 0, fi, 0)).2.2.2), .int fu, .int tl, .int gr, .int sd, .int mt, .long mf])), (pt, .inl (cA, 8, .inl tp)), (pf, .inl (cB, 8, .inr (.inl fr))), (pb, .inl (cC, 129, .inl bi))] := hD
  have hl : lv_has ls 7 [(0, .ref h0), (1, .int a1), (2, .int ((ct >>> (10 &&& 31)) &&& 3)), (3, .int ((lp_X1_round_26 bi wt a1 130 (0, 0, fi, 0)).1)), (4, .int ((lp_X1_round_26 bi wt a1 130 (0, 0, fi, 0)).2.1)), (5, .int ((lp_X1_round_26 bi wt a1 130 (0, 0, fi, 0)).2.2.1))] := hl
  refine lv_aload_n hx hb dX1_round_132 rfl (lv_at hl 0 rfl) ?_
  refine va_get (D := (dC, dI)) (ci := 1) (v := .int wt) (C := RX1) (T := TX1) (N := 15) hx hb hts hin_X1 hown hK hP 0 rfl rfl 5 (by decide) (hts (.fieldLink RX1 50 "TemporaryRealsModel" "weight" "I") (by decide +kernel)) (fun _ h9 => h9) rfl dX1_round_133 ?_
  refine lv_sipush (v := 129) hx hb dX1_round_136 (by decide) ?_
  refine lv_isub hx hb dX1_round_139 ?_
  refine lv_istore (lv' := [(5, .int (wt - 129)), (0, .ref h0), (1, .int a1), (2, .int ((ct >>> (10 &&& 31)) &&& 3)), (3, .int ((lp_X1_round_26 bi wt a1 130 (0, 0, fi, 0)).1)), (4, .int ((lp_X1_round_26 bi wt a1 130 (0, 0, fi, 0)).2.1))]) hx hb dX1_round_140 hl (by decide) rfl (fun ls hl => ?_)
  refine lr_X1_round_142 hx hb hml hts hown hK tp fr bi cd ct wt fi mn fu tl gr sd mt mf a1 ((ct >>> (10 &&& 31)) &&& 3) ((lp_X1_round_26 bi wt a1 130 (0, 0, fi, 0)).1) ((lp_X1_round_26 bi wt a1 130 (0, 0, fi, 0)).2.1) 310 (wt - 129) ((lp_X1_round_26 bi wt a1 130 (0, 0, fi, 0)).2.2.2) (fin_round142 hq) hP hD hS (lv_sub hl [1, 2, 3, 4, 5, 0] rfl) (fun H locs ls hP hD hS hl => ?_)
  have hP : va_P (dC, dI) vwCl [(h0, .inr (1, [.int cd, .int ct, .ref pt, .ref pf, .ref pb, .int wt, .int fi, .int mn, .long ((lp_X1_round_142 a1 310 ((wt - 129), (lp_X1_round_26 bi wt a1 130 (0, 0, fi, 0)).2.2.2)).2), .int fu, .int tl, .int gr, .int sd, .int mt, .long mf])), (pt, .inl (cA, 8, .inl tp)), (pf, .inl (cB, 8, .inr (.inl fr))), (pb, .inl (cC, 129, .inl bi))] H := hP
  have hD : va_D A [(h0, .inr (1, [.int cd, .int ct, .ref pt, .ref pf, .ref pb, .int wt, .int fi, .int mn, .long ((lp_X1_round_142 a1 310 ((wt - 129), (lp_X1_round_26 bi wt a1 130 (0, 0, fi, 0)).2.2.2)).2), .int fu, .int tl, .int gr, .int sd, .int mt, .long mf])), (pt, .inl (cA, 8, .inl tp)), (pf, .inl (cB, 8, .inr (.inl fr))), (pb, .inl (cC, 129, .inl bi))] := hD
  have hl : lv_has ls 7 [(0, .ref h0), (1, .int a1), (2, .int ((ct >>> (10 &&& 31)) &&& 3)), (3, .int ((lp_X1_round_26 bi wt a1 130 (0, 0, fi, 0)).1)), (4, .int ((lp_X1_round_26 bi wt a1 130 (0, 0, fi, 0)).2.1)), (5, .int ((lp_X1_round_142 a1 310 ((wt - 129), (lp_X1_round_26 bi wt a1 130 (0, 0, fi, 0)).2.2.2)).1))] := hl
  exact cs_X1_round_166 hx hb hr hml hts hown hlocks hK (Nat.le_of_ble_eq_true rfl) (Nat.le_of_ble_eq_true rfl) hA tp fr bi cd ct wt fi mn ((lp_X1_round_142 a1 310 ((wt - 129), (lp_X1_round_26 bi wt a1 130 (0, 0, fi, 0)).2.2.2)).2) fu tl gr sd mt mf a1 ((ct >>> (10 &&& 31)) &&& 3) ((lp_X1_round_26 bi wt a1 130 (0, 0, fi, 0)).1) ((lp_X1_round_26 bi wt a1 130 (0, 0, fi, 0)).2.1) (show (f_X1_round tp fr bi cd ct wt fi mn wh fu tl gr sd mt mf a1) = k_X1_round_166 (tp, fr, bi, cd, ct, wt, fi, mn, (lp_X1_round_142 a1 310 ((wt - 129), (lp_X1_round_26 bi wt a1 130 (0, 0, fi, 0)).2.2.2)).2, fu, tl, gr, sd, mt, mf) a1 ((ct >>> (10 &&& 31)) &&& 3) ((lp_X1_round_26 bi wt a1 130 (0, 0, fi, 0)).1) ((lp_X1_round_26 bi wt a1 130 (0, 0, fi, 0)).2.1) from by unfold f_X1_round; rfl) hP hD hS (lv_sub hl [0, 1, 2, 3, 4] rfl)
