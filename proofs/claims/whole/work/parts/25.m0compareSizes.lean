def f_X1_compareSizes (tp : Nat → Int32) (fr : Nat → Int64) (a1 : Int32) (a2 : Int32) : Int32 :=
  if (if (f_X1_kind tp fr a1) = 4 then true else (if (f_X1_kind tp fr a2) = 4 then true else false)) = true then
    ((if (f_X1_kind tp fr a1) = 4 then 1 else 0) - (if (f_X1_kind tp fr a2) = 4 then 1 else 0))
  else
    if (if (f_X1_isNothing tp fr a1) = 0 then (if (f_X1_isNothing tp fr a2) = 0 then false else true) else true) = true then
      ((if (f_X1_isNothing tp fr a2) = 0 then 0 else 1) - (if (f_X1_isNothing tp fr a1) = 0 then 0 else 1))
    else
      if ((lp_X1_compareSizes_121 65 ((fr a1.toNatClampNeg), (f_X1_powerOf tp a1))).2) = ((lp_X1_compareSizes_139 65 ((fr a2.toNatClampNeg), (f_X1_powerOf tp a2))).2) then
        (if (lg_cmp ((lp_X1_compareSizes_121 65 ((fr a1.toNatClampNeg), (f_X1_powerOf tp a1))).1) ((lp_X1_compareSizes_139 65 ((fr a2.toNatClampNeg), (f_X1_powerOf tp a2))).1)) = 0 then 0 else (if 0 ≤ (lg_cmp ((lp_X1_compareSizes_121 65 ((fr a1.toNatClampNeg), (f_X1_powerOf tp a1))).1) ((lp_X1_compareSizes_139 65 ((fr a2.toNatClampNeg), (f_X1_powerOf tp a2))).1)) then 1 else (-1)))
      else
        (if ((lp_X1_compareSizes_139 65 ((fr a2.toNatClampNeg), (f_X1_powerOf tp a2))).2) ≤ ((lp_X1_compareSizes_121 65 ((fr a1.toNatClampNeg), (f_X1_powerOf tp a1))).2) then 1 else (-1))
set_option maxHeartbeats 1000000 in
set_option maxRecDepth 100000 in
theorem c_X1_compareSizes (l : Launch) (dC : Nat → ClassId) (dI : Nat → Nat → Nat) (cA cB cC : ClassId) (h0 pt pf pb : Nat) (tp : Nat → Int32) (fr : Nat → Int64) (bi : Nat → Int32) (cd : Int32) (ct : Int32) (wt : Int32) (fi : Int32) (mn : Int32) (wh : Int64) (fu : Int32) (tl : Int32) (gr : Int32) (sd : Int32) (mt : Int32) (mf : Int64) (a1 : Int32) (a2 : Int32) (hr1 : vp_in a1 8) (hr2 : vp_in a2 8) : Met l yX1_compareSizes wsX1_compareSizes ({ frames := 2, cells := 0, slots := 0, locals := 44 }) (rd_Pc (dC, dI) (m_W cA cB cC h0 pt pf pb tp fr bi cd ct wt fi mn wh fu tl gr sd mt mf) (m_T cA cB cC) [.ref h0, .int a1, .int a2]) (k2_QcV (.int (f_X1_compareSizes tp fr a1 a2))) 0 0 (fun _ => False) := by
  refine Met.ofW (cc := cX1_compareSizes) (maxL := 9) (ret := (some .int)) (by decide) rfl ?_
  intro p e s m args below meth c s₁ B hml hv
  obtain ⟨rfl, hP, hK⟩ := hv
  have hx := B.exec
  have hb := B.bytes
  have hr := B.returns
  have hts := atoms_spec (ws := wsX1_compareSizes) B.pre
  have hown : s.vm.findClass RX1 = some m.cls := findClass_of_methodNamed B.named
  have hlocks := B.notSynchronized
  have hin_X1 : ∀ w ∈ u_ws RX1 TX1 15, w ∈ wsX1_compareSizes := by decide +kernel
  have hP : va_P (dC, dI) vwCl [(h0, .inr (1, [.int cd, .int ct, .ref pt, .ref pf, .ref pb, .int wt, .int fi, .int mn, .long wh, .int fu, .int tl, .int gr, .int sd, .int mt, .long mf])), (pt, .inl (cA, 8, .inl tp)), (pf, .inl (cB, 8, .inr (.inl fr))), (pb, .inl (cC, 129, .inl bi))] s.heap := hP
  have hl := lv_entry ([.ref h0, .int a1, .int a2]) (n := 9) (Nat.le_of_ble_eq_true rfl)
  rw [lg_entry_eq]
  generalize (lg_sl ([.ref h0, .int a1, .int a2]) ++ List.replicate (9 - (lg_sl ([.ref h0, .int a1, .int a2])).length) Slot.unset).toArray = ls at hl ⊢
  have hl : lv_has ls 9 [(0, .ref h0), (1, .int a1), (2, .int a2)] := hl
  refine lv_aload_n hx hb dX1_compareSizes_0 rfl (lv_at hl 0 rfl) ?_
  refine lv_iload_n hx hb dX1_compareSizes_1 rfl (lv_at hl 1 rfl) ?_
  refine W.callV (r := .int (f_X1_kind tp fr a1)) (W.runV (As := [.int a1]) (rest := []) ⟨hx, hb, hml, hown, hts⟩ (c_X1_kind l dC dI cA cB cC h0 pt pf pb tp fr bi cd ct wt fi mn wh fu tl gr sd mt mf a1 hr1) (cwV 1 hts gX1_compareSizes_X1_kind rfl rfl rfl (by decide +kernel) ⟨Nat.le_of_ble_eq_true rfl, Nat.le_of_ble_eq_true rfl⟩) (rd_preV hK hP rfl rfl) rfl rfl hl.1 rfl (lv_room (Nat.le_of_ble_eq_true rfl)) dX1_compareSizes_2 ⟨Nat.zero_le _, Nat.zero_le _⟩) ?_
  refine W.eq (g2 := F0 m 5 ls ([.int (f_X1_kind tp fr a1)])) rfl ?_
  refine lv_iconst (v := 4) hx hb dX1_compareSizes_5 (by decide) ?_
  by_cases cV_1 : (if (f_X1_kind tp fr a1) = 4 then true else (if (f_X1_kind tp fr a2) = 4 then true else false)) = true
  · refine w_join (F0 m 18 ls ([])) ?_ (fun hJ_2 => ?_)
    · refine lv_aload_n hx hb dX1_compareSizes_18 rfl (lv_at hl 0 rfl) ?_
      refine lv_iload_n hx hb dX1_compareSizes_19 rfl (lv_at hl 1 rfl) ?_
      refine W.callV (r := .int (f_X1_kind tp fr a1)) (W.runV (As := [.int a1]) (rest := []) ⟨hx, hb, hml, hown, hts⟩ (c_X1_kind l dC dI cA cB cC h0 pt pf pb tp fr bi cd ct wt fi mn wh fu tl gr sd mt mf a1 hr1) (cwV 1 hts gX1_compareSizes_X1_kind rfl rfl rfl (by decide +kernel) ⟨Nat.le_of_ble_eq_true rfl, Nat.le_of_ble_eq_true rfl⟩) (rd_preV hK hP rfl rfl) rfl rfl hl.1 rfl (lv_room (Nat.le_of_ble_eq_true rfl)) dX1_compareSizes_20 ⟨Nat.zero_le _, Nat.zero_le _⟩) ?_
      refine W.eq (g2 := F0 m 23 ls ([.int (f_X1_kind tp fr a1)])) rfl ?_
      refine lv_iconst (v := 4) hx hb dX1_compareSizes_23 (by decide) ?_
      refine w_join (F0 m 32 ls (.int (if (f_X1_kind tp fr a1) = 4 then 1 else 0) :: [])) ?_ (fun hJ_7 => ?_)
      · refine lv_aload_n hx hb dX1_compareSizes_32 rfl (lv_at hl 0 rfl) ?_
        refine lv_iload_n hx hb dX1_compareSizes_33 rfl (lv_at hl 2 rfl) ?_
        refine W.callV (r := .int (f_X1_kind tp fr a2)) (W.runV (As := [.int a2]) (rest := [.int (if (f_X1_kind tp fr a1) = 4 then 1 else 0)]) ⟨hx, hb, hml, hown, hts⟩ (c_X1_kind l dC dI cA cB cC h0 pt pf pb tp fr bi cd ct wt fi mn wh fu tl gr sd mt mf a2 hr2) (cwV 1 hts gX1_compareSizes_X1_kind rfl rfl rfl (by decide +kernel) ⟨Nat.le_of_ble_eq_true rfl, Nat.le_of_ble_eq_true rfl⟩) (rd_preV hK hP rfl rfl) rfl rfl hl.1 rfl (lv_room (Nat.le_of_ble_eq_true rfl)) dX1_compareSizes_34 ⟨Nat.zero_le _, Nat.zero_le _⟩) ?_
        refine W.eq (g2 := F0 m 37 ls ([.int (f_X1_kind tp fr a2), .int (if (f_X1_kind tp fr a1) = 4 then 1 else 0)])) rfl ?_
        refine lv_iconst (v := 4) hx hb dX1_compareSizes_37 (by decide) ?_
        refine w_join (F0 m 46 ls (.int (if (f_X1_kind tp fr a2) = 4 then 1 else 0) :: [.int (if (f_X1_kind tp fr a1) = 4 then 1 else 0)])) ?_ (fun hJ_9 => ?_)
        · refine lv_isub hx hb dX1_compareSizes_46 ?_
          refine w_asi (y := (f_X1_compareSizes tp fr a1 a2)) (by unfold f_X1_compareSizes; rw [if_pos cV_1]) ?_
          exact W.iret (v := (f_X1_compareSizes tp fr a1 a2)) hx hb hr (fun t ht _ => ⟨rfl, ht⟩) (fun _ h => nomatch h) dX1_compareSizes_47
        · refine lv_icmp_ne (tgt := 45) hx hb dX1_compareSizes_38 (by decide) (fun c_10 => ?_) (fun c_10 => ?_)
          · refine lv_iconst (v := 0) hx hb dX1_compareSizes_45 (by decide) ?_
            exact W.eq (by rw [if_neg c_10] <;> (repeat (first | rw [if_neg c_10]))) hJ_9
          · refine lv_iconst (v := 1) hx hb dX1_compareSizes_41 (by decide) ?_
            refine lv_goto (tgt := 46) hx hb dX1_compareSizes_42 (by decide) ?_
            exact W.eq (by rw [if_pos c_10] <;> (repeat (first | rw [if_pos c_10]))) hJ_9
      · refine lv_icmp_ne (tgt := 31) hx hb dX1_compareSizes_24 (by decide) (fun c_8 => ?_) (fun c_8 => ?_)
        · refine lv_iconst (v := 0) hx hb dX1_compareSizes_31 (by decide) ?_
          exact W.eq (by rw [if_neg c_8] <;> (repeat (first | rw [if_neg c_8]))) hJ_7
        · refine lv_iconst (v := 1) hx hb dX1_compareSizes_27 (by decide) ?_
          refine lv_goto (tgt := 32) hx hb dX1_compareSizes_28 (by decide) ?_
          exact W.eq (by rw [if_pos c_8] <;> (repeat (first | rw [if_pos c_8]))) hJ_7
    · refine lv_icmp_eq (tgt := 18) hx hb dX1_compareSizes_6 (by decide) (fun c_3 => ?_) (fun c_3 => ?_)
      · exact hJ_2
      · refine lv_aload_n hx hb dX1_compareSizes_9 rfl (lv_at hl 0 rfl) ?_
        refine lv_iload_n hx hb dX1_compareSizes_10 rfl (lv_at hl 2 rfl) ?_
        refine W.callV (r := .int (f_X1_kind tp fr a2)) (W.runV (As := [.int a2]) (rest := []) ⟨hx, hb, hml, hown, hts⟩ (c_X1_kind l dC dI cA cB cC h0 pt pf pb tp fr bi cd ct wt fi mn wh fu tl gr sd mt mf a2 hr2) (cwV 1 hts gX1_compareSizes_X1_kind rfl rfl rfl (by decide +kernel) ⟨Nat.le_of_ble_eq_true rfl, Nat.le_of_ble_eq_true rfl⟩) (rd_preV hK hP rfl rfl) rfl rfl hl.1 rfl (lv_room (Nat.le_of_ble_eq_true rfl)) dX1_compareSizes_11 ⟨Nat.zero_le _, Nat.zero_le _⟩) ?_
        refine W.eq (g2 := F0 m 14 ls ([.int (f_X1_kind tp fr a2)])) rfl ?_
        refine lv_iconst (v := 4) hx hb dX1_compareSizes_14 (by decide) ?_
        refine lv_icmp_ne (tgt := 48) hx hb dX1_compareSizes_15 (by decide) (fun c_4 => ?_) (fun c_4 => ?_)
        · exact absurd cV_1 (by rw [if_neg c_3, if_neg c_4]; exact Bool.false_ne_true)
        · exact hJ_2
  · refine w_join (F0 m 48 ls ([])) ?_ (fun hJ_2 => ?_)
    · refine lv_aload_n hx hb dX1_compareSizes_48 rfl (lv_at hl 0 rfl) ?_
      refine lv_iload_n hx hb dX1_compareSizes_49 rfl (lv_at hl 1 rfl) ?_
      refine W.callV (r := .int (f_X1_isNothing tp fr a1)) (W.runV (As := [.int a1]) (rest := []) ⟨hx, hb, hml, hown, hts⟩ (c_X1_isNothing l dC dI cA cB cC h0 pt pf pb tp fr bi cd ct wt fi mn wh fu tl gr sd mt mf a1 hr1) (cwV 1 hts gX1_compareSizes_X1_isNothing rfl rfl rfl (by decide +kernel) ⟨Nat.le_of_ble_eq_true rfl, Nat.le_of_ble_eq_true rfl⟩) (rd_preV hK hP rfl rfl) rfl rfl hl.1 rfl (lv_room (Nat.le_of_ble_eq_true rfl)) dX1_compareSizes_50 ⟨Nat.zero_le _, Nat.zero_le _⟩) ?_
      refine W.eq (g2 := F0 m 53 ls ([.int (f_X1_isNothing tp fr a1)])) rfl ?_
      by_cases cV_11 : (if (f_X1_isNothing tp fr a1) = 0 then (if (f_X1_isNothing tp fr a2) = 0 then false else true) else true) = true
      · refine w_join (F0 m 64 ls ([])) ?_ (fun hJ_12 => ?_)
        · refine lv_aload_n hx hb dX1_compareSizes_64 rfl (lv_at hl 0 rfl) ?_
          refine lv_iload_n hx hb dX1_compareSizes_65 rfl (lv_at hl 2 rfl) ?_
          refine W.callV (r := .int (f_X1_isNothing tp fr a2)) (W.runV (As := [.int a2]) (rest := []) ⟨hx, hb, hml, hown, hts⟩ (c_X1_isNothing l dC dI cA cB cC h0 pt pf pb tp fr bi cd ct wt fi mn wh fu tl gr sd mt mf a2 hr2) (cwV 1 hts gX1_compareSizes_X1_isNothing rfl rfl rfl (by decide +kernel) ⟨Nat.le_of_ble_eq_true rfl, Nat.le_of_ble_eq_true rfl⟩) (rd_preV hK hP rfl rfl) rfl rfl hl.1 rfl (lv_room (Nat.le_of_ble_eq_true rfl)) dX1_compareSizes_66 ⟨Nat.zero_le _, Nat.zero_le _⟩) ?_
          refine W.eq (g2 := F0 m 69 ls ([.int (f_X1_isNothing tp fr a2)])) rfl ?_
          refine w_join (F0 m 77 ls (.int (if (f_X1_isNothing tp fr a2) = 0 then 0 else 1) :: [])) ?_ (fun hJ_17 => ?_)
          · refine lv_aload_n hx hb dX1_compareSizes_77 rfl (lv_at hl 0 rfl) ?_
            refine lv_iload_n hx hb dX1_compareSizes_78 rfl (lv_at hl 1 rfl) ?_
            refine W.callV (r := .int (f_X1_isNothing tp fr a1)) (W.runV (As := [.int a1]) (rest := [.int (if (f_X1_isNothing tp fr a2) = 0 then 0 else 1)]) ⟨hx, hb, hml, hown, hts⟩ (c_X1_isNothing l dC dI cA cB cC h0 pt pf pb tp fr bi cd ct wt fi mn wh fu tl gr sd mt mf a1 hr1) (cwV 1 hts gX1_compareSizes_X1_isNothing rfl rfl rfl (by decide +kernel) ⟨Nat.le_of_ble_eq_true rfl, Nat.le_of_ble_eq_true rfl⟩) (rd_preV hK hP rfl rfl) rfl rfl hl.1 rfl (lv_room (Nat.le_of_ble_eq_true rfl)) dX1_compareSizes_79 ⟨Nat.zero_le _, Nat.zero_le _⟩) ?_
            refine W.eq (g2 := F0 m 82 ls ([.int (f_X1_isNothing tp fr a1), .int (if (f_X1_isNothing tp fr a2) = 0 then 0 else 1)])) rfl ?_
            refine w_join (F0 m 90 ls (.int (if (f_X1_isNothing tp fr a1) = 0 then 0 else 1) :: [.int (if (f_X1_isNothing tp fr a2) = 0 then 0 else 1)])) ?_ (fun hJ_19 => ?_)
            · refine lv_isub hx hb dX1_compareSizes_90 ?_
              refine w_asi (y := (f_X1_compareSizes tp fr a1 a2)) (by unfold f_X1_compareSizes; rw [if_neg cV_1, if_pos cV_11]) ?_
              exact W.iret (v := (f_X1_compareSizes tp fr a1 a2)) hx hb hr (fun t ht _ => ⟨rfl, ht⟩) (fun _ h => nomatch h) dX1_compareSizes_91
            · refine lv_if_eq (tgt := 89) hx hb dX1_compareSizes_82 (by decide) (fun c_20 => ?_) (fun c_20 => ?_)
              · refine lv_iconst (v := 0) hx hb dX1_compareSizes_89 (by decide) ?_
                exact W.eq (by rw [if_pos c_20] <;> (repeat (first | rw [if_pos c_20]))) hJ_19
              · refine lv_iconst (v := 1) hx hb dX1_compareSizes_85 (by decide) ?_
                refine lv_goto (tgt := 90) hx hb dX1_compareSizes_86 (by decide) ?_
                exact W.eq (by rw [if_neg c_20] <;> (repeat (first | rw [if_neg c_20]))) hJ_19
          · refine lv_if_eq (tgt := 76) hx hb dX1_compareSizes_69 (by decide) (fun c_18 => ?_) (fun c_18 => ?_)
            · refine lv_iconst (v := 0) hx hb dX1_compareSizes_76 (by decide) ?_
              exact W.eq (by rw [if_pos c_18] <;> (repeat (first | rw [if_pos c_18]))) hJ_17
            · refine lv_iconst (v := 1) hx hb dX1_compareSizes_72 (by decide) ?_
              refine lv_goto (tgt := 77) hx hb dX1_compareSizes_73 (by decide) ?_
              exact W.eq (by rw [if_neg c_18] <;> (repeat (first | rw [if_neg c_18]))) hJ_17
        · refine lv_if_ne (tgt := 64) hx hb dX1_compareSizes_53 (by decide) (fun c_13 => ?_) (fun c_13 => ?_)
          · exact hJ_12
          · refine lv_aload_n hx hb dX1_compareSizes_56 rfl (lv_at hl 0 rfl) ?_
            refine lv_iload_n hx hb dX1_compareSizes_57 rfl (lv_at hl 2 rfl) ?_
            refine W.callV (r := .int (f_X1_isNothing tp fr a2)) (W.runV (As := [.int a2]) (rest := []) ⟨hx, hb, hml, hown, hts⟩ (c_X1_isNothing l dC dI cA cB cC h0 pt pf pb tp fr bi cd ct wt fi mn wh fu tl gr sd mt mf a2 hr2) (cwV 1 hts gX1_compareSizes_X1_isNothing rfl rfl rfl (by decide +kernel) ⟨Nat.le_of_ble_eq_true rfl, Nat.le_of_ble_eq_true rfl⟩) (rd_preV hK hP rfl rfl) rfl rfl hl.1 rfl (lv_room (Nat.le_of_ble_eq_true rfl)) dX1_compareSizes_58 ⟨Nat.zero_le _, Nat.zero_le _⟩) ?_
            refine W.eq (g2 := F0 m 61 ls ([.int (f_X1_isNothing tp fr a2)])) rfl ?_
            refine lv_if_eq (tgt := 92) hx hb dX1_compareSizes_61 (by decide) (fun c_14 => ?_) (fun c_14 => ?_)
            · exact absurd cV_11 (by rw [if_pos c_13, if_pos c_14]; exact Bool.false_ne_true)
            · exact hJ_12
      · refine w_join (F0 m 92 ls ([])) ?_ (fun hJ_12 => ?_)
        · refine lv_aload_n hx hb dX1_compareSizes_92 rfl (lv_at hl 0 rfl) ?_
          refine va_get (D := (dC, dI)) (ci := 1) (v := .ref pf) (C := RX1) (T := TX1) (N := 15) hx hb hts hin_X1 hown hK hP 0 rfl rfl 3 (by decide) (hts (.fieldLink RX1 17 "TemporaryRealsModel" "fraction" "[J") (by decide +kernel)) (fun _ h9 => h9) rfl dX1_compareSizes_93 ?_
          refine lv_iload_n hx hb dX1_compareSizes_96 rfl (lv_at hl 1 rfl) ?_
          refine va_lald hx hb hK hP 2 1 rfl rfl hr1 dX1_compareSizes_97 ?_
          refine lv_lstore_n (lv' := [(3, .long (fr a1.toNatClampNeg)), (0, .ref h0), (1, .int a1), (2, .int a2)]) hx hb dX1_compareSizes_98 rfl hl (by decide) rfl (fun ls hl => ?_)
          refine lv_aload_n hx hb dX1_compareSizes_99 rfl (lv_at hl 1 rfl) ?_
          refine lv_iload_n hx hb dX1_compareSizes_100 rfl (lv_at hl 2 rfl) ?_
          refine W.callV (r := .int (f_X1_powerOf tp a1)) (W.runV (As := [.int a1]) (rest := []) ⟨hx, hb, hml, hown, hts⟩ (c_X1_powerOf l dC dI cA cB cC h0 pt pf pb tp fr bi cd ct wt fi mn wh fu tl gr sd mt mf a1 hr1) (cwV 1 hts gX1_compareSizes_X1_powerOf rfl rfl rfl (by decide +kernel) ⟨Nat.le_of_ble_eq_true rfl, Nat.le_of_ble_eq_true rfl⟩) (rd_preV hK hP rfl rfl) rfl rfl hl.1 rfl (lv_room (Nat.le_of_ble_eq_true rfl)) dX1_compareSizes_101 ⟨Nat.zero_le _, Nat.zero_le _⟩) ?_
          refine W.eq (g2 := F0 m 104 ls ([.int (f_X1_powerOf tp a1)])) rfl ?_
          refine lv_istore (lv' := [(5, .int (f_X1_powerOf tp a1)), (3, .long (fr a1.toNatClampNeg)), (0, .ref h0), (1, .int a1), (2, .int a2)]) hx hb dX1_compareSizes_104 hl (by decide) rfl (fun ls hl => ?_)
          refine lv_aload_n hx hb dX1_compareSizes_106 rfl (lv_at hl 2 rfl) ?_
          refine va_get (D := (dC, dI)) (ci := 1) (v := .ref pf) (C := RX1) (T := TX1) (N := 15) hx hb hts hin_X1 hown hK hP 0 rfl rfl 3 (by decide) (hts (.fieldLink RX1 17 "TemporaryRealsModel" "fraction" "[J") (by decide +kernel)) (fun _ h9 => h9) rfl dX1_compareSizes_107 ?_
          refine lv_iload_n hx hb dX1_compareSizes_110 rfl (lv_at hl 4 rfl) ?_
          refine va_lald hx hb hK hP 2 1 rfl rfl hr2 dX1_compareSizes_111 ?_
          refine lv_lstore (lv' := [(6, .long (fr a2.toNatClampNeg)), (5, .int (f_X1_powerOf tp a1)), (3, .long (fr a1.toNatClampNeg)), (0, .ref h0), (1, .int a1), (2, .int a2)]) hx hb dX1_compareSizes_112 hl (by decide) rfl (fun ls hl => ?_)
          refine lv_aload_n hx hb dX1_compareSizes_114 rfl (lv_at hl 3 rfl) ?_
          refine lv_iload_n hx hb dX1_compareSizes_115 rfl (lv_at hl 5 rfl) ?_
          refine W.callV (r := .int (f_X1_powerOf tp a2)) (W.runV (As := [.int a2]) (rest := []) ⟨hx, hb, hml, hown, hts⟩ (c_X1_powerOf l dC dI cA cB cC h0 pt pf pb tp fr bi cd ct wt fi mn wh fu tl gr sd mt mf a2 hr2) (cwV 1 hts gX1_compareSizes_X1_powerOf rfl rfl rfl (by decide +kernel) ⟨Nat.le_of_ble_eq_true rfl, Nat.le_of_ble_eq_true rfl⟩) (rd_preV hK hP rfl rfl) rfl rfl hl.1 rfl (lv_room (Nat.le_of_ble_eq_true rfl)) dX1_compareSizes_116 ⟨Nat.zero_le _, Nat.zero_le _⟩) ?_
          refine W.eq (g2 := F0 m 119 ls ([.int (f_X1_powerOf tp a2)])) rfl ?_
          refine lv_istore (lv' := [(8, .int (f_X1_powerOf tp a2)), (6, .long (fr a2.toNatClampNeg)), (5, .int (f_X1_powerOf tp a1)), (3, .long (fr a1.toNatClampNeg)), (0, .ref h0), (1, .int a1), (2, .int a2)]) hx hb dX1_compareSizes_119 hl (by decide) rfl (fun ls hl => ?_)
          refine lr_X1_compareSizes_121 hx hb hml hts hown hK tp fr bi cd ct wt fi mn wh fu tl gr sd mt mf a1 a2 (fr a2.toNatClampNeg) (f_X1_powerOf tp a2) 65 (fr a1.toNatClampNeg) (f_X1_powerOf tp a1) (fin_cmp121 _ _) hP (lv_sub hl [4, 5, 6, 3, 2, 1, 0] rfl) (fun ls hl => ?_)
          have hl : lv_has ls 9 [(0, .ref h0), (1, .int a1), (2, .int a2), (3, .long ((lp_X1_compareSizes_121 65 ((fr a1.toNatClampNeg), (f_X1_powerOf tp a1))).1)), (5, .int ((lp_X1_compareSizes_121 65 ((fr a1.toNatClampNeg), (f_X1_powerOf tp a1))).2)), (6, .long (fr a2.toNatClampNeg)), (8, .int (f_X1_powerOf tp a2))] := hl
          refine lr_X1_compareSizes_139 hx hb hml hts hown hK tp fr bi cd ct wt fi mn wh fu tl gr sd mt mf a1 a2 ((lp_X1_compareSizes_121 65 ((fr a1.toNatClampNeg), (f_X1_powerOf tp a1))).1) ((lp_X1_compareSizes_121 65 ((fr a1.toNatClampNeg), (f_X1_powerOf tp a1))).2) 65 (fr a2.toNatClampNeg) (f_X1_powerOf tp a2) (fin_cmp139 _ _) hP (lv_sub hl [0, 1, 2, 3, 4, 5, 6] rfl) (fun ls hl => ?_)
          have hl : lv_has ls 9 [(0, .ref h0), (1, .int a1), (2, .int a2), (3, .long ((lp_X1_compareSizes_121 65 ((fr a1.toNatClampNeg), (f_X1_powerOf tp a1))).1)), (5, .int ((lp_X1_compareSizes_121 65 ((fr a1.toNatClampNeg), (f_X1_powerOf tp a1))).2)), (6, .long ((lp_X1_compareSizes_139 65 ((fr a2.toNatClampNeg), (f_X1_powerOf tp a2))).1)), (8, .int ((lp_X1_compareSizes_139 65 ((fr a2.toNatClampNeg), (f_X1_powerOf tp a2))).2))] := hl
          refine lv_iload hx hb dX1_compareSizes_160 (lv_at hl 4 rfl) ?_
          refine lv_iload hx hb dX1_compareSizes_162 (lv_at hl 6 rfl) ?_
          refine lv_icmp_eq (tgt := 180) hx hb dX1_compareSizes_164 (by decide) (fun c_21 => ?_) (fun c_21 => ?_)
          · refine lv_lload_n hx hb dX1_compareSizes_180 rfl (lv_at hl 3 rfl) ?_
            refine lv_lload hx hb dX1_compareSizes_181 (lv_at hl 5 rfl) ?_
            refine W.lcmp hx hb dX1_compareSizes_183 ?_
            refine w_join (F0 m 203 ls (.int (if (lg_cmp ((lp_X1_compareSizes_121 65 ((fr a1.toNatClampNeg), (f_X1_powerOf tp a1))).1) ((lp_X1_compareSizes_139 65 ((fr a2.toNatClampNeg), (f_X1_powerOf tp a2))).1)) = 0 then 0 else (if 0 ≤ (lg_cmp ((lp_X1_compareSizes_121 65 ((fr a1.toNatClampNeg), (f_X1_powerOf tp a1))).1) ((lp_X1_compareSizes_139 65 ((fr a2.toNatClampNeg), (f_X1_powerOf tp a2))).1)) then 1 else (-1))) :: [])) ?_ (fun hJ_22 => ?_)
            · refine w_asi (y := (f_X1_compareSizes tp fr a1 a2)) (by unfold f_X1_compareSizes; rw [if_neg cV_1, if_neg cV_11, if_pos c_21]) ?_
              exact W.iret (v := (f_X1_compareSizes tp fr a1 a2)) hx hb hr (fun t ht _ => ⟨rfl, ht⟩) (fun _ h => nomatch h) dX1_compareSizes_203
            · refine lv_if_ne (tgt := 191) hx hb dX1_compareSizes_184 (by decide) (fun c_23 => ?_) (fun c_23 => ?_)
              · refine lv_lload_n hx hb dX1_compareSizes_191 rfl (lv_at hl 3 rfl) ?_
                refine lv_lload hx hb dX1_compareSizes_192 (lv_at hl 5 rfl) ?_
                refine W.lcmp hx hb dX1_compareSizes_194 ?_
                refine lv_if_ge (tgt := 202) hx hb dX1_compareSizes_195 (by decide) (fun c_24 => ?_) (fun c_24 => ?_)
                · refine lv_iconst (v := 1) hx hb dX1_compareSizes_202 (by decide) ?_
                  exact W.eq (by rw [if_neg c_23, if_pos c_24] <;> (repeat (first | rw [if_neg c_23] | rw [if_pos c_24]))) hJ_22
                · refine lv_iconst (v := (-1)) hx hb dX1_compareSizes_198 (by decide) ?_
                  refine lv_goto (tgt := 203) hx hb dX1_compareSizes_199 (by decide) ?_
                  exact W.eq (by rw [if_neg c_23, if_neg c_24] <;> (repeat (first | rw [if_neg c_23] | rw [if_neg c_24]))) hJ_22
              · refine lv_iconst (v := 0) hx hb dX1_compareSizes_187 (by decide) ?_
                refine lv_goto (tgt := 203) hx hb dX1_compareSizes_188 (by decide) ?_
                exact W.eq (by rw [if_pos c_23] <;> (repeat (first | rw [if_pos c_23]))) hJ_22
          · refine lv_iload hx hb dX1_compareSizes_167 (lv_at hl 4 rfl) ?_
            refine lv_iload hx hb dX1_compareSizes_169 (lv_at hl 6 rfl) ?_
            refine w_join (F0 m 179 ls (.int (if ((lp_X1_compareSizes_139 65 ((fr a2.toNatClampNeg), (f_X1_powerOf tp a2))).2) ≤ ((lp_X1_compareSizes_121 65 ((fr a1.toNatClampNeg), (f_X1_powerOf tp a1))).2) then 1 else (-1)) :: [])) ?_ (fun hJ_25 => ?_)
            · refine w_asi (y := (f_X1_compareSizes tp fr a1 a2)) (by unfold f_X1_compareSizes; rw [if_neg cV_1, if_neg cV_11, if_neg c_21]) ?_
              exact W.iret (v := (f_X1_compareSizes tp fr a1 a2)) hx hb hr (fun t ht _ => ⟨rfl, ht⟩) (fun _ h => nomatch h) dX1_compareSizes_179
            · refine lv_icmp_ge (tgt := 178) hx hb dX1_compareSizes_171 (by decide) (fun c_26 => ?_) (fun c_26 => ?_)
              · refine lv_iconst (v := 1) hx hb dX1_compareSizes_178 (by decide) ?_
                exact W.eq (by rw [if_pos c_26] <;> (repeat (first | rw [if_pos c_26]))) hJ_25
              · refine lv_iconst (v := (-1)) hx hb dX1_compareSizes_174 (by decide) ?_
                refine lv_goto (tgt := 179) hx hb dX1_compareSizes_175 (by decide) ?_
                exact W.eq (by rw [if_neg c_26] <;> (repeat (first | rw [if_neg c_26]))) hJ_25
        · refine lv_if_ne (tgt := 64) hx hb dX1_compareSizes_53 (by decide) (fun c_15 => ?_) (fun c_15 => ?_)
          · exact absurd (by rw [if_neg c_15]) cV_11
          · refine lv_aload_n hx hb dX1_compareSizes_56 rfl (lv_at hl 0 rfl) ?_
            refine lv_iload_n hx hb dX1_compareSizes_57 rfl (lv_at hl 2 rfl) ?_
            refine W.callV (r := .int (f_X1_isNothing tp fr a2)) (W.runV (As := [.int a2]) (rest := []) ⟨hx, hb, hml, hown, hts⟩ (c_X1_isNothing l dC dI cA cB cC h0 pt pf pb tp fr bi cd ct wt fi mn wh fu tl gr sd mt mf a2 hr2) (cwV 1 hts gX1_compareSizes_X1_isNothing rfl rfl rfl (by decide +kernel) ⟨Nat.le_of_ble_eq_true rfl, Nat.le_of_ble_eq_true rfl⟩) (rd_preV hK hP rfl rfl) rfl rfl hl.1 rfl (lv_room (Nat.le_of_ble_eq_true rfl)) dX1_compareSizes_58 ⟨Nat.zero_le _, Nat.zero_le _⟩) ?_
            refine W.eq (g2 := F0 m 61 ls ([.int (f_X1_isNothing tp fr a2)])) rfl ?_
            refine lv_if_eq (tgt := 92) hx hb dX1_compareSizes_61 (by decide) (fun c_16 => ?_) (fun c_16 => ?_)
            · exact hJ_12
            · exact absurd (by rw [if_pos c_15, if_neg c_16]) cV_11
    · refine lv_icmp_eq (tgt := 18) hx hb dX1_compareSizes_6 (by decide) (fun c_5 => ?_) (fun c_5 => ?_)
      · exact absurd (by rw [if_pos c_5]) cV_1
      · refine lv_aload_n hx hb dX1_compareSizes_9 rfl (lv_at hl 0 rfl) ?_
        refine lv_iload_n hx hb dX1_compareSizes_10 rfl (lv_at hl 2 rfl) ?_
        refine W.callV (r := .int (f_X1_kind tp fr a2)) (W.runV (As := [.int a2]) (rest := []) ⟨hx, hb, hml, hown, hts⟩ (c_X1_kind l dC dI cA cB cC h0 pt pf pb tp fr bi cd ct wt fi mn wh fu tl gr sd mt mf a2 hr2) (cwV 1 hts gX1_compareSizes_X1_kind rfl rfl rfl (by decide +kernel) ⟨Nat.le_of_ble_eq_true rfl, Nat.le_of_ble_eq_true rfl⟩) (rd_preV hK hP rfl rfl) rfl rfl hl.1 rfl (lv_room (Nat.le_of_ble_eq_true rfl)) dX1_compareSizes_11 ⟨Nat.zero_le _, Nat.zero_le _⟩) ?_
        refine W.eq (g2 := F0 m 14 ls ([.int (f_X1_kind tp fr a2)])) rfl ?_
        refine lv_iconst (v := 4) hx hb dX1_compareSizes_14 (by decide) ?_
        refine lv_icmp_ne (tgt := 48) hx hb dX1_compareSizes_15 (by decide) (fun c_6 => ?_) (fun c_6 => ?_)
        · exact hJ_2
        · exact absurd (by rw [if_neg c_5, if_pos c_6]) cV_1
