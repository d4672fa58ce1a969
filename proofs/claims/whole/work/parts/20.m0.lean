/-! the reference's state -/
abbrev MS : Type := (Nat → Int32) × (Nat → Int64) × (Nat → Int32) × Int32 × Int32 × Int32 × Int32 × Int32 × Int64 × Int32 × Int32 × Int32 × Int32 × Int32 × Int64
abbrev m_W (cA cB cC : ClassId) (h0 pt pf pb : Nat) (tp : Nat → Int32) (fr : Nat → Int64) (bi : Nat → Int32) (cd : Int32) (ct : Int32) (wt : Int32) (fi : Int32) (mn : Int32) (wh : Int64) (fu : Int32) (tl : Int32) (gr : Int32) (sd : Int32) (mt : Int32) (mf : Int64) : va_W := [(h0, .inr (1, [.int cd, .int ct, .ref pt, .ref pf, .ref pb, .int wt, .int fi, .int mn, .long wh, .int fu, .int tl, .int gr, .int sd, .int mt, .long mf])), (pt, .inl (cA, 8, .inl tp)), (pf, .inl (cB, 8, .inr (.inl fr))), (pb, .inl (cC, 129, .inl bi))]
abbrev m_WU (cA cB cC : ClassId) (h0 pt pf pb : Nat) (u : MS) : va_W := m_W cA cB cC h0 pt pf pb u.1 u.2.1 u.2.2.1 u.2.2.2.1 u.2.2.2.2.1 u.2.2.2.2.2.1 u.2.2.2.2.2.2.1 u.2.2.2.2.2.2.2.1 u.2.2.2.2.2.2.2.2.1 u.2.2.2.2.2.2.2.2.2.1 u.2.2.2.2.2.2.2.2.2.2.1 u.2.2.2.2.2.2.2.2.2.2.2.1 u.2.2.2.2.2.2.2.2.2.2.2.2.1 u.2.2.2.2.2.2.2.2.2.2.2.2.2.1 u.2.2.2.2.2.2.2.2.2.2.2.2.2.2
abbrev m_T (cA cB cC : ClassId) : List (ClassId × FieldType) := [(cA, .int), (cB, .long), (cC, .int)]
theorem m_WU_mk {cA cB cC : ClassId} {h0 pt pf pb : Nat} {tp : Nat → Int32} {fr : Nat → Int64} {bi : Nat → Int32} {cd : Int32} {ct : Int32} {wt : Int32} {fi : Int32} {mn : Int32} {wh : Int64} {fu : Int32} {tl : Int32} {gr : Int32} {sd : Int32} {mt : Int32} {mf : Int64} : m_WU cA cB cC h0 pt pf pb (tp, fr, bi, cd, ct, wt, fi, mn, wh, fu, tl, gr, sd, mt, mf) = m_W cA cB cC h0 pt pf pb tp fr bi cd ct wt fi mn wh fu tl gr sd mt mf := rfl
def f_X1_thrown (cd : Int32) : Int32 :=
  cd
set_option maxHeartbeats 1000000 in
set_option maxRecDepth 100000 in
theorem c_X1_thrown (l : Launch) (dC : Nat → ClassId) (dI : Nat → Nat → Nat) (cA cB cC : ClassId) (h0 pt pf pb : Nat) (tp : Nat → Int32) (fr : Nat → Int64) (bi : Nat → Int32) (cd : Int32) (ct : Int32) (wt : Int32) (fi : Int32) (mn : Int32) (wh : Int64) (fu : Int32) (tl : Int32) (gr : Int32) (sd : Int32) (mt : Int32) (mf : Int64) : Met l yX1_thrown wsX1_thrown ({ frames := 0, cells := 0, slots := 0, locals := 0 }) (rd_Pc (dC, dI) (m_W cA cB cC h0 pt pf pb tp fr bi cd ct wt fi mn wh fu tl gr sd mt mf) (m_T cA cB cC) [.ref h0]) (k2_QcV (.int (f_X1_thrown cd))) 0 0 (fun _ => False) := by
  refine Met.ofW (cc := cX1_thrown) (maxL := 1) (ret := (some .int)) (by decide) rfl ?_
  intro p e s m args below meth c s₁ B hml hv
  obtain ⟨rfl, hP, hK⟩ := hv
  have hx := B.exec
  have hb := B.bytes
  have hr := B.returns
  have hts := atoms_spec (ws := wsX1_thrown) B.pre
  have hown : s.vm.findClass RX1 = some m.cls := findClass_of_methodNamed B.named
  have hlocks := B.notSynchronized
  have hin_X1 : ∀ w ∈ u_ws RX1 TX1 15, w ∈ wsX1_thrown := by decide +kernel
  have hP : va_P (dC, dI) vwCl [(h0, .inr (1, [.int cd, .int ct, .ref pt, .ref pf, .ref pb, .int wt, .int fi, .int mn, .long wh, .int fu, .int tl, .int gr, .int sd, .int mt, .long mf])), (pt, .inl (cA, 8, .inl tp)), (pf, .inl (cB, 8, .inr (.inl fr))), (pb, .inl (cC, 129, .inl bi))] s.heap := hP
  have hl := lv_entry ([.ref h0]) (n := 1) (Nat.le_of_ble_eq_true rfl)
  rw [lg_entry_eq]
  generalize (lg_sl ([.ref h0]) ++ List.replicate (1 - (lg_sl ([.ref h0])).length) Slot.unset).toArray = ls at hl ⊢
  have hl : lv_has ls 1 [(0, .ref h0)] := hl
  refine lv_aload_n hx hb dX1_thrown_0 rfl (lv_at hl 0 rfl) ?_
  refine va_get (D := (dC, dI)) (ci := 1) (v := .int cd) (C := RX1) (T := TX1) (N := 15) hx hb hts hin_X1 hown hK hP 0 rfl rfl 0 (by decide) (hts (.fieldLink RX1 24 "TemporaryRealsModel" "code" "I") (by decide +kernel)) (fun _ h9 => h9) rfl dX1_thrown_1 ?_
  refine w_asi (y := (f_X1_thrown cd)) (by unfold f_X1_thrown; rfl) ?_
  exact W.iret (v := (f_X1_thrown cd)) hx hb hr (fun t ht _ => ⟨rfl, ht⟩) (fun _ h => nomatch h) dX1_thrown_4
def f_X1_none (a1 : Int32) : Int32 :=
  (if a1 < 0 then 1 else (if a1 ≤ 7 then 0 else 1))
theorem nb_X1_none (a1 : Int32) : narrow .boolean (.int (f_X1_none a1)) = .int (f_X1_none a1) := by
  unfold f_X1_none
  (repeat' split) <;> first | rfl
set_option maxHeartbeats 1000000 in
set_option maxRecDepth 100000 in
theorem c_X1_none (l : Launch) (a1 : Int32) : Met l yX1_none wsX1_none ({ frames := 0, cells := 0, slots := 0, locals := 0 }) (va_Pc [.int a1] (fun _ => True)) (k2_QcV (.int (f_X1_none a1))) 0 0 (fun _ => False) := by
  refine Met.ofW (cc := cX1_none) (maxL := 1) (ret := (some .boolean)) (by decide) rfl ?_
  intro p e s m args below meth c s₁ B hml hv
  obtain ⟨rfl, -⟩ := hv
  have hx := B.exec
  have hb := B.bytes
  have hr := B.returns
  have hts := atoms_spec (ws := wsX1_none) B.pre
  have hown : s.vm.findClass RX1 = some m.cls := findClass_of_methodNamed B.named
  have hlocks := B.notSynchronized
  have hl := lv_entry ([.int a1]) (n := 1) (Nat.le_of_ble_eq_true rfl)
  rw [lg_entry_eq]
  generalize (lg_sl ([.int a1]) ++ List.replicate (1 - (lg_sl ([.int a1])).length) Slot.unset).toArray = ls at hl ⊢
  have hl : lv_has ls 1 [(0, .int a1)] := hl
  refine lv_iload_n hx hb dX1_none_0 rfl (lv_at hl 0 rfl) ?_
  refine w_join (F0 m 15 ls (.int (if a1 < 0 then 1 else (if a1 ≤ 7 then 0 else 1)) :: [])) ?_ (fun hJ_1 => ?_)
  · refine w_asi (y := (f_X1_none a1)) (by unfold f_X1_none; rfl) ?_
    exact W.zret (v := (f_X1_none a1)) (ty := .boolean) hx hb hr (nb_X1_none ..) (fun t ht _ => ⟨rfl, ht⟩) (fun _ h => nomatch h) dX1_none_15
  · refine lv_if_lt (tgt := 10) hx hb dX1_none_1 (by decide) (fun c_2 => ?_) (fun c_2 => ?_)
    · refine lv_iconst (v := 1) hx hb dX1_none_10 (by decide) ?_
      refine lv_goto (tgt := 15) hx hb dX1_none_11 (by decide) ?_
      exact W.eq (by rw [if_pos c_2] <;> (repeat (first | rw [if_pos c_2]))) hJ_1
    · refine lv_iload_n hx hb dX1_none_4 rfl (lv_at hl 0 rfl) ?_
      refine lv_bipush (v := 7) hx hb dX1_none_5 (by decide) ?_
      refine lv_icmp_le (tgt := 14) hx hb dX1_none_7 (by decide) (fun c_3 => ?_) (fun c_3 => ?_)
      · refine lv_iconst (v := 0) hx hb dX1_none_14 (by decide) ?_
        exact W.eq (by rw [if_neg c_2, if_pos c_3] <;> (repeat (first | rw [if_neg c_2] | rw [if_pos c_3]))) hJ_1
      · refine lv_iconst (v := 1) hx hb dX1_none_10 (by decide) ?_
        refine lv_goto (tgt := 15) hx hb dX1_none_11 (by decide) ?_
        exact W.eq (by rw [if_neg c_2, if_neg c_3] <;> (repeat (first | rw [if_neg c_2] | rw [if_neg c_3]))) hJ_1
theorem m_none {r : Int32} (h : f_X1_none r = 0) : vp_in r 8 := by
  unfold f_X1_none at h
  by_cases c1 : r < 0
  · rw [if_pos c1] at h; exact absurd h (by decide)
  · rw [if_neg c1] at h
    by_cases c2 : r ≤ 7
    · obtain ⟨j, hj, rfl⟩ := nI_of2 (M := 7) (n := 7) rfl c1 c2
      exact vp_in_nI (by omega) (by decide)
    · rw [if_neg c2] at h; exact absurd h (by decide)
theorem m_regA {r X : Int32} (h : (if f_X1_none r = 0 then X else 1) ≤ 0) : vp_in r 8 := by
  by_cases c : f_X1_none r = 0
  · exact m_none c
  · rw [if_neg c] at h; exact absurd h (by decide)
theorem m_regB {r : Int32} {C : Prop} [Decidable C] (h : (if C then (if f_X1_none r = 0 then 0 else 1) else 1 : Int32) ≤ 0) : vp_in r 8 := by
  by_cases c1 : C
  · rw [if_pos c1] at h; exact m_regA h
  · rw [if_neg c1] at h; exact absurd h (by decide)
def f_X1_kind (tp : Nat → Int32) (fr : Nat → Int64) (a1 : Int32) : Int32 :=
  if ((tp a1.toNatClampNeg) - (tp a1.toNatClampNeg) / 32768 * 32768) = 32767 then
    (if ((if (lg_cmp (fr a1.toNatClampNeg) 0) = 0 then 1 else (if (lg_cmp (fr a1.toNatClampNeg) (-9223372036854775808)) = 0 then 1 else 0)) : Int32) = 0 then 5 else 4)
  else
    if ((tp a1.toNatClampNeg) - (tp a1.toNatClampNeg) / 32768 * 32768) = 0 then
      (if (lg_cmp (fr a1.toNatClampNeg) 0) = 0 then 0 else 1)
    else
      (if 0 ≤ (lg_cmp (fr a1.toNatClampNeg) 0) then 2 else 3)
set_option maxHeartbeats 1000000 in
set_option maxRecDepth 100000 in
theorem c_X1_kind (l : Launch) (dC : Nat → ClassId) (dI : Nat → Nat → Nat) (cA cB cC : ClassId) (h0 pt pf pb : Nat) (tp : Nat → Int32) (fr : Nat → Int64) (bi : Nat → Int32) (cd : Int32) (ct : Int32) (wt : Int32) (fi : Int32) (mn : Int32) (wh : Int64) (fu : Int32) (tl : Int32) (gr : Int32) (sd : Int32) (mt : Int32) (mf : Int64) (a1 : Int32) (hr1 : vp_in a1 8) : Met l yX1_kind wsX1_kind ({ frames := 0, cells := 0, slots := 0, locals := 0 }) (rd_Pc (dC, dI) (m_W cA cB cC h0 pt pf pb tp fr bi cd ct wt fi mn wh fu tl gr sd mt mf) (m_T cA cB cC) [.ref h0, .int a1]) (k2_QcV (.int (f_X1_kind tp fr a1))) 0 0 (fun _ => False) := by
  refine Met.ofW (cc := cX1_kind) (maxL := 4) (ret := (some .int)) (by decide) rfl ?_
  intro p e s m args below meth c s₁ B hml hv
  obtain ⟨rfl, hP, hK⟩ := hv
  have hx := B.exec
  have hb := B.bytes
  have hr := B.returns
  have hts := atoms_spec (ws := wsX1_kind) B.pre
  have hown : s.vm.findClass RX1 = some m.cls := findClass_of_methodNamed B.named
  have hlocks := B.notSynchronized
  have hin_X1 : ∀ w ∈ u_ws RX1 TX1 15, w ∈ wsX1_kind := by decide +kernel
  have hP : va_P (dC, dI) vwCl [(h0, .inr (1, [.int cd, .int ct, .ref pt, .ref pf, .ref pb, .int wt, .int fi, .int mn, .long wh, .int fu, .int tl, .int gr, .int sd, .int mt, .long mf])), (pt, .inl (cA, 8, .inl tp)), (pf, .inl (cB, 8, .inr (.inl fr))), (pb, .inl (cC, 129, .inl bi))] s.heap := hP
  have hl := lv_entry ([.ref h0, .int a1]) (n := 4) (Nat.le_of_ble_eq_true rfl)
  rw [lg_entry_eq]
  generalize (lg_sl ([.ref h0, .int a1]) ++ List.replicate (4 - (lg_sl ([.ref h0, .int a1])).length) Slot.unset).toArray = ls at hl ⊢
  have hl : lv_has ls 4 [(0, .ref h0), (1, .int a1)] := hl
  refine lv_aload_n hx hb dX1_kind_0 rfl (lv_at hl 0 rfl) ?_
  refine va_get (D := (dC, dI)) (ci := 1) (v := .ref pt) (C := RX1) (T := TX1) (N := 15) hx hb hts hin_X1 hown hK hP 0 rfl rfl 2 (by decide) (hts (.fieldLink RX1 13 "TemporaryRealsModel" "top" "[I") (by decide +kernel)) (fun _ h9 => h9) rfl dX1_kind_1 ?_
  refine lv_iload_n hx hb dX1_kind_4 rfl (lv_at hl 1 rfl) ?_
  refine va_iald hx hb hK hP 1 0 rfl rfl hr1 dX1_kind_5 ?_
  refine lv_ldc (v := 32768) hx hb hown (hts (.constant RX1 36 32768) (by decide +kernel)) dX1_kind_6 ?_
  refine lv_irem hx hb dX1_kind_8 (by decide) ?_
  refine lv_istore_n (lv' := [(2, .int ((tp a1.toNatClampNeg) - (tp a1.toNatClampNeg) / 32768 * 32768)), (0, .ref h0), (1, .int a1)]) hx hb dX1_kind_9 rfl hl (by decide) rfl (fun ls hl => ?_)
  refine lv_aload_n hx hb dX1_kind_10 rfl (lv_at hl 1 rfl) ?_
  refine va_get (D := (dC, dI)) (ci := 1) (v := .ref pf) (C := RX1) (T := TX1) (N := 15) hx hb hts hin_X1 hown hK hP 0 rfl rfl 3 (by decide) (hts (.fieldLink RX1 17 "TemporaryRealsModel" "fraction" "[J") (by decide +kernel)) (fun _ h9 => h9) rfl dX1_kind_11 ?_
  refine lv_iload_n hx hb dX1_kind_14 rfl (lv_at hl 2 rfl) ?_
  refine va_lald hx hb hK hP 2 1 rfl rfl hr1 dX1_kind_15 ?_
  refine lv_lconst (v := 0) hx hb dX1_kind_16 (by decide) ?_
  refine W.lcmp hx hb dX1_kind_17 ?_
  refine w_join (F0 m 39 ls (.int (if (lg_cmp (fr a1.toNatClampNeg) 0) = 0 then 1 else (if (lg_cmp (fr a1.toNatClampNeg) (-9223372036854775808)) = 0 then 1 else 0)) :: [])) ?_ (fun hJ_1 => ?_)
  · refine lv_istore_n (lv' := [(3, .int (if (lg_cmp (fr a1.toNatClampNeg) 0) = 0 then 1 else (if (lg_cmp (fr a1.toNatClampNeg) (-9223372036854775808)) = 0 then 1 else 0))), (2, .int ((tp a1.toNatClampNeg) - (tp a1.toNatClampNeg) / 32768 * 32768)), (0, .ref h0), (1, .int a1)]) hx hb dX1_kind_39 rfl hl (by decide) rfl (fun ls hl => ?_)
    refine lv_iload_n hx hb dX1_kind_40 rfl (lv_at hl 1 rfl) ?_
    refine lv_sipush (v := 32767) hx hb dX1_kind_41 (by decide) ?_
    refine lv_icmp_ne (tgt := 57) hx hb dX1_kind_44 (by decide) (fun c_4 => ?_) (fun c_4 => ?_)
    · refine lv_iload_n hx hb dX1_kind_57 rfl (lv_at hl 1 rfl) ?_
      refine lv_if_ne (tgt := 78) hx hb dX1_kind_58 (by decide) (fun c_5 => ?_) (fun c_5 => ?_)
      · refine lv_aload_n hx hb dX1_kind_78 rfl (lv_at hl 2 rfl) ?_
        refine va_get (D := (dC, dI)) (ci := 1) (v := .ref pf) (C := RX1) (T := TX1) (N := 15) hx hb hts hin_X1 hown hK hP 0 rfl rfl 3 (by decide) (hts (.fieldLink RX1 17 "TemporaryRealsModel" "fraction" "[J") (by decide +kernel)) (fun _ h9 => h9) rfl dX1_kind_79 ?_
        refine lv_iload_n hx hb dX1_kind_82 rfl (lv_at hl 3 rfl) ?_
        refine va_lald hx hb hK hP 2 1 rfl rfl hr1 dX1_kind_83 ?_
        refine lv_lconst (v := 0) hx hb dX1_kind_84 (by decide) ?_
        refine W.lcmp hx hb dX1_kind_85 ?_
        refine w_join (F0 m 94 ls (.int (if 0 ≤ (lg_cmp (fr a1.toNatClampNeg) 0) then 2 else 3) :: [])) ?_ (fun hJ_6 => ?_)
        · refine w_asi (y := (f_X1_kind tp fr a1)) (by unfold f_X1_kind; rw [if_neg c_4, if_neg c_5]) ?_
          exact W.iret (v := (f_X1_kind tp fr a1)) hx hb hr (fun t ht _ => ⟨rfl, ht⟩) (fun _ h => nomatch h) dX1_kind_94
        · refine lv_if_ge (tgt := 93) hx hb dX1_kind_86 (by decide) (fun c_7 => ?_) (fun c_7 => ?_)
          · refine lv_iconst (v := 2) hx hb dX1_kind_93 (by decide) ?_
            exact W.eq (by rw [if_pos c_7] <;> (repeat (first | rw [if_pos c_7]))) hJ_6
          · refine lv_iconst (v := 3) hx hb dX1_kind_89 (by decide) ?_
            refine lv_goto (tgt := 94) hx hb dX1_kind_90 (by decide) ?_
            exact W.eq (by rw [if_neg c_7] <;> (repeat (first | rw [if_neg c_7]))) hJ_6
      · refine lv_aload_n hx hb dX1_kind_61 rfl (lv_at hl 2 rfl) ?_
        refine va_get (D := (dC, dI)) (ci := 1) (v := .ref pf) (C := RX1) (T := TX1) (N := 15) hx hb hts hin_X1 hown hK hP 0 rfl rfl 3 (by decide) (hts (.fieldLink RX1 17 "TemporaryRealsModel" "fraction" "[J") (by decide +kernel)) (fun _ h9 => h9) rfl dX1_kind_62 ?_
        refine lv_iload_n hx hb dX1_kind_65 rfl (lv_at hl 3 rfl) ?_
        refine va_lald hx hb hK hP 2 1 rfl rfl hr1 dX1_kind_66 ?_
        refine lv_lconst (v := 0) hx hb dX1_kind_67 (by decide) ?_
        refine W.lcmp hx hb dX1_kind_68 ?_
        refine w_join (F0 m 77 ls (.int (if (lg_cmp (fr a1.toNatClampNeg) 0) = 0 then 0 else 1) :: [])) ?_ (fun hJ_8 => ?_)
        · refine w_asi (y := (f_X1_kind tp fr a1)) (by unfold f_X1_kind; rw [if_neg c_4, if_pos c_5]) ?_
          exact W.iret (v := (f_X1_kind tp fr a1)) hx hb hr (fun t ht _ => ⟨rfl, ht⟩) (fun _ h => nomatch h) dX1_kind_77
        · refine lv_if_ne (tgt := 76) hx hb dX1_kind_69 (by decide) (fun c_9 => ?_) (fun c_9 => ?_)
          · refine lv_iconst (v := 1) hx hb dX1_kind_76 (by decide) ?_
            exact W.eq (by rw [if_neg c_9] <;> (repeat (first | rw [if_neg c_9]))) hJ_8
          · refine lv_iconst (v := 0) hx hb dX1_kind_72 (by decide) ?_
            refine lv_goto (tgt := 77) hx hb dX1_kind_73 (by decide) ?_
            exact W.eq (by rw [if_pos c_9] <;> (repeat (first | rw [if_pos c_9]))) hJ_8
    · refine lv_iload_n hx hb dX1_kind_47 rfl (lv_at hl 0 rfl) ?_
      refine w_join (F0 m 56 ls (.int (if ((if (lg_cmp (fr a1.toNatClampNeg) 0) = 0 then 1 else (if (lg_cmp (fr a1.toNatClampNeg) (-9223372036854775808)) = 0 then 1 else 0)) : Int32) = 0 then 5 else 4) :: [])) ?_ (fun hJ_10 => ?_)
      · refine w_asi (y := (f_X1_kind tp fr a1)) (by unfold f_X1_kind; rw [if_pos c_4]) ?_
        exact W.iret (v := (f_X1_kind tp fr a1)) hx hb hr (fun t ht _ => ⟨rfl, ht⟩) (fun _ h => nomatch h) dX1_kind_56
      · refine lv_if_eq (tgt := 55) hx hb dX1_kind_48 (by decide) (fun c_11 => ?_) (fun c_11 => ?_)
        · refine lv_iconst (v := 5) hx hb dX1_kind_55 (by decide) ?_
          exact W.eq (by rw [if_pos c_11] <;> (repeat (first | rw [if_pos c_11]))) hJ_10
        · refine lv_iconst (v := 4) hx hb dX1_kind_51 (by decide) ?_
          refine lv_goto (tgt := 56) hx hb dX1_kind_52 (by decide) ?_
          exact W.eq (by rw [if_neg c_11] <;> (repeat (first | rw [if_neg c_11]))) hJ_10
  · refine lv_if_eq (tgt := 34) hx hb dX1_kind_18 (by decide) (fun c_2 => ?_) (fun c_2 => ?_)
    · refine lv_iconst (v := 1) hx hb dX1_kind_34 (by decide) ?_
      refine lv_goto (tgt := 39) hx hb dX1_kind_35 (by decide) ?_
      exact W.eq (by rw [if_pos c_2] <;> (repeat (first | rw [if_pos c_2]))) hJ_1
    · refine lv_aload_n hx hb dX1_kind_21 rfl (lv_at hl 1 rfl) ?_
      refine va_get (D := (dC, dI)) (ci := 1) (v := .ref pf) (C := RX1) (T := TX1) (N := 15) hx hb hts hin_X1 hown hK hP 0 rfl rfl 3 (by decide) (hts (.fieldLink RX1 17 "TemporaryRealsModel" "fraction" "[J") (by decide +kernel)) (fun _ h9 => h9) rfl dX1_kind_22 ?_
      refine lv_iload_n hx hb dX1_kind_25 rfl (lv_at hl 2 rfl) ?_
      refine va_lald hx hb hK hP 2 1 rfl rfl hr1 dX1_kind_26 ?_
      refine lv_ldc2 (v := (-9223372036854775808)) hx hb hown (hts (.constantLong RX1 37 (-9223372036854775808)) (by decide +kernel)) dX1_kind_27 ?_
      refine W.lcmp hx hb dX1_kind_30 ?_
      refine lv_if_ne (tgt := 38) hx hb dX1_kind_31 (by decide) (fun c_3 => ?_) (fun c_3 => ?_)
      · refine lv_iconst (v := 0) hx hb dX1_kind_38 (by decide) ?_
        exact W.eq (by rw [if_neg c_2, if_neg c_3] <;> (repeat (first | rw [if_neg c_2] | rw [if_neg c_3]))) hJ_1
      · refine lv_iconst (v := 1) hx hb dX1_kind_34 (by decide) ?_
        refine lv_goto (tgt := 39) hx hb dX1_kind_35 (by decide) ?_
        exact W.eq (by rw [if_neg c_2, if_pos c_3] <;> (repeat (first | rw [if_neg c_2] | rw [if_pos c_3]))) hJ_1
def f_X1_powerOf (tp : Nat → Int32) (a1 : Int32) : Int32 :=
  (if ((tp a1.toNatClampNeg) - (tp a1.toNatClampNeg) / 32768 * 32768) = 0 then 1 else ((tp a1.toNatClampNeg) - (tp a1.toNatClampNeg) / 32768 * 32768))
set_option maxHeartbeats 1000000 in
set_option maxRecDepth 100000 in
theorem c_X1_powerOf (l : Launch) (dC : Nat → ClassId) (dI : Nat → Nat → Nat) (cA cB cC : ClassId) (h0 pt pf pb : Nat) (tp : Nat → Int32) (fr : Nat → Int64) (bi : Nat → Int32) (cd : Int32) (ct : Int32) (wt : Int32) (fi : Int32) (mn : Int32) (wh : Int64) (fu : Int32) (tl : Int32) (gr : Int32) (sd : Int32) (mt : Int32) (mf : Int64) (a1 : Int32) (hr1 : vp_in a1 8) : Met l yX1_powerOf wsX1_powerOf ({ frames := 0, cells := 0, slots := 0, locals := 0 }) (rd_Pc (dC, dI) (m_W cA cB cC h0 pt pf pb tp fr bi cd ct wt fi mn wh fu tl gr sd mt mf) (m_T cA cB cC) [.ref h0, .int a1]) (k2_QcV (.int (f_X1_powerOf tp a1))) 0 0 (fun _ => False) := by
  refine Met.ofW (cc := cX1_powerOf) (maxL := 3) (ret := (some .int)) (by decide) rfl ?_
  intro p e s m args below meth c s₁ B hml hv
  obtain ⟨rfl, hP, hK⟩ := hv
  have hx := B.exec
  have hb := B.bytes
  have hr := B.returns
  have hts := atoms_spec (ws := wsX1_powerOf) B.pre
  have hown : s.vm.findClass RX1 = some m.cls := findClass_of_methodNamed B.named
  have hlocks := B.notSynchronized
  have hin_X1 : ∀ w ∈ u_ws RX1 TX1 15, w ∈ wsX1_powerOf := by decide +kernel
  have hP : va_P (dC, dI) vwCl [(h0, .inr (1, [.int cd, .int ct, .ref pt, .ref pf, .ref pb, .int wt, .int fi, .int mn, .long wh, .int fu, .int tl, .int gr, .int sd, .int mt, .long mf])), (pt, .inl (cA, 8, .inl tp)), (pf, .inl (cB, 8, .inr (.inl fr))), (pb, .inl (cC, 129, .inl bi))] s.heap := hP
  have hl := lv_entry ([.ref h0, .int a1]) (n := 3) (Nat.le_of_ble_eq_true rfl)
  rw [lg_entry_eq]
  generalize (lg_sl ([.ref h0, .int a1]) ++ List.replicate (3 - (lg_sl ([.ref h0, .int a1])).length) Slot.unset).toArray = ls at hl ⊢
  have hl : lv_has ls 3 [(0, .ref h0), (1, .int a1)] := hl
  refine lv_aload_n hx hb dX1_powerOf_0 rfl (lv_at hl 0 rfl) ?_
  refine va_get (D := (dC, dI)) (ci := 1) (v := .ref pt) (C := RX1) (T := TX1) (N := 15) hx hb hts hin_X1 hown hK hP 0 rfl rfl 2 (by decide) (hts (.fieldLink RX1 13 "TemporaryRealsModel" "top" "[I") (by decide +kernel)) (fun _ h9 => h9) rfl dX1_powerOf_1 ?_
  refine lv_iload_n hx hb dX1_powerOf_4 rfl (lv_at hl 1 rfl) ?_
  refine va_iald hx hb hK hP 1 0 rfl rfl hr1 dX1_powerOf_5 ?_
  refine lv_ldc (v := 32768) hx hb hown (hts (.constant RX1 36 32768) (by decide +kernel)) dX1_powerOf_6 ?_
  refine lv_irem hx hb dX1_powerOf_8 (by decide) ?_
  refine lv_istore_n (lv' := [(2, .int ((tp a1.toNatClampNeg) - (tp a1.toNatClampNeg) / 32768 * 32768)), (0, .ref h0), (1, .int a1)]) hx hb dX1_powerOf_9 rfl hl (by decide) rfl (fun ls hl => ?_)
  refine lv_iload_n hx hb dX1_powerOf_10 rfl (lv_at hl 0 rfl) ?_
  refine w_join (F0 m 19 ls (.int (if ((tp a1.toNatClampNeg) - (tp a1.toNatClampNeg) / 32768 * 32768) = 0 then 1 else ((tp a1.toNatClampNeg) - (tp a1.toNatClampNeg) / 32768 * 32768)) :: [])) ?_ (fun hJ_1 => ?_)
  · refine w_asi (y := (f_X1_powerOf tp a1)) (by unfold f_X1_powerOf; rfl) ?_
    exact W.iret (v := (f_X1_powerOf tp a1)) hx hb hr (fun t ht _ => ⟨rfl, ht⟩) (fun _ h => nomatch h) dX1_powerOf_19
  · refine lv_if_ne (tgt := 18) hx hb dX1_powerOf_11 (by decide) (fun c_2 => ?_) (fun c_2 => ?_)
    · refine lv_iload_n hx hb dX1_powerOf_18 rfl (lv_at hl 0 rfl) ?_
      exact W.eq (by rw [if_neg c_2] <;> (repeat (first | rw [if_neg c_2]))) hJ_1
    · refine lv_iconst (v := 1) hx hb dX1_powerOf_14 (by decide) ?_
      refine lv_goto (tgt := 19) hx hb dX1_powerOf_15 (by decide) ?_
      exact W.eq (by rw [if_pos c_2] <;> (repeat (first | rw [if_pos c_2]))) hJ_1
def f_X1_isNothing (tp : Nat → Int32) (fr : Nat → Int64) (a1 : Int32) : Int32 :=
  (if 3 ≤ (f_X1_kind tp fr a1) then 0 else (if (lg_cmp (fr a1.toNatClampNeg) 0) = 0 then 1 else 0))
theorem nb_X1_isNothing (tp : Nat → Int32) (fr : Nat → Int64) (a1 : Int32) : narrow .boolean (.int (f_X1_isNothing tp fr a1)) = .int (f_X1_isNothing tp fr a1) := by
  unfold f_X1_isNothing
  (repeat' split) <;> first | rfl
set_option maxHeartbeats 1000000 in
set_option maxRecDepth 100000 in
theorem c_X1_isNothing (l : Launch) (dC : Nat → ClassId) (dI : Nat → Nat → Nat) (cA cB cC : ClassId) (h0 pt pf pb : Nat) (tp : Nat → Int32) (fr : Nat → Int64) (bi : Nat → Int32) (cd : Int32) (ct : Int32) (wt : Int32) (fi : Int32) (mn : Int32) (wh : Int64) (fu : Int32) (tl : Int32) (gr : Int32) (sd : Int32) (mt : Int32) (mf : Int64) (a1 : Int32) (hr1 : vp_in a1 8) : Met l yX1_isNothing wsX1_isNothing ({ frames := 1, cells := 0, slots := 0, locals := 23 }) (rd_Pc (dC, dI) (m_W cA cB cC h0 pt pf pb tp fr bi cd ct wt fi mn wh fu tl gr sd mt mf) (m_T cA cB cC) [.ref h0, .int a1]) (k2_QcV (.int (f_X1_isNothing tp fr a1))) 0 0 (fun _ => False) := by
  refine Met.ofW (cc := cX1_isNothing) (maxL := 2) (ret := (some .boolean)) (by decide) rfl ?_
  intro p e s m args below meth c s₁ B hml hv
  obtain ⟨rfl, hP, hK⟩ := hv
  have hx := B.exec
  have hb := B.bytes
  have hr := B.returns
  have hts := atoms_spec (ws := wsX1_isNothing) B.pre
  have hown : s.vm.findClass RX1 = some m.cls := findClass_of_methodNamed B.named
  have hlocks := B.notSynchronized
  have hin_X1 : ∀ w ∈ u_ws RX1 TX1 15, w ∈ wsX1_isNothing := by decide +kernel
  have hP : va_P (dC, dI) vwCl [(h0, .inr (1, [.int cd, .int ct, .ref pt, .ref pf, .ref pb, .int wt, .int fi, .int mn, .long wh, .int fu, .int tl, .int gr, .int sd, .int mt, .long mf])), (pt, .inl (cA, 8, .inl tp)), (pf, .inl (cB, 8, .inr (.inl fr))), (pb, .inl (cC, 129, .inl bi))] s.heap := hP
  have hl := lv_entry ([.ref h0, .int a1]) (n := 2) (Nat.le_of_ble_eq_true rfl)
  rw [lg_entry_eq]
  generalize (lg_sl ([.ref h0, .int a1]) ++ List.replicate (2 - (lg_sl ([.ref h0, .int a1])).length) Slot.unset).toArray = ls at hl ⊢
  have hl : lv_has ls 2 [(0, .ref h0), (1, .int a1)] := hl
  refine lv_aload_n hx hb dX1_isNothing_0 rfl (lv_at hl 0 rfl) ?_
  refine lv_iload_n hx hb dX1_isNothing_1 rfl (lv_at hl 1 rfl) ?_
  refine W.callV (r := .int (f_X1_kind tp fr a1)) (W.runV (As := [.int a1]) (rest := []) ⟨hx, hb, hml, hown, hts⟩ (c_X1_kind l dC dI cA cB cC h0 pt pf pb tp fr bi cd ct wt fi mn wh fu tl gr sd mt mf a1 hr1) (cwV 1 hts gX1_isNothing_X1_kind rfl rfl rfl (by decide +kernel) ⟨Nat.le_of_ble_eq_true rfl, Nat.le_of_ble_eq_true rfl⟩) (rd_preV hK hP rfl rfl) rfl rfl hl.1 rfl (lv_room (Nat.le_of_ble_eq_true rfl)) dX1_isNothing_2 ⟨Nat.zero_le _, Nat.zero_le _⟩) ?_
  refine W.eq (g2 := F0 m 5 ls ([.int (f_X1_kind tp fr a1)])) rfl ?_
  refine lv_iconst (v := 3) hx hb dX1_isNothing_5 (by decide) ?_
  refine w_join (F0 m 25 ls (.int (if 3 ≤ (f_X1_kind tp fr a1) then 0 else (if (lg_cmp (fr a1.toNatClampNeg) 0) = 0 then 1 else 0)) :: [])) ?_ (fun hJ_1 => ?_)
  · refine w_asi (y := (f_X1_isNothing tp fr a1)) (by unfold f_X1_isNothing; rfl) ?_
    exact W.zret (v := (f_X1_isNothing tp fr a1)) (ty := .boolean) hx hb hr (nb_X1_isNothing ..) (fun t ht _ => ⟨rfl, ht⟩) (fun _ h => nomatch h) dX1_isNothing_25
  · refine lv_icmp_ge (tgt := 24) hx hb dX1_isNothing_6 (by decide) (fun c_2 => ?_) (fun c_2 => ?_)
    · refine lv_iconst (v := 0) hx hb dX1_isNothing_24 (by decide) ?_
      exact W.eq (by rw [if_pos c_2] <;> (repeat (first | rw [if_pos c_2]))) hJ_1
    · refine lv_aload_n hx hb dX1_isNothing_9 rfl (lv_at hl 0 rfl) ?_
      refine va_get (D := (dC, dI)) (ci := 1) (v := .ref pf) (C := RX1) (T := TX1) (N := 15) hx hb hts hin_X1 hown hK hP 0 rfl rfl 3 (by decide) (hts (.fieldLink RX1 17 "TemporaryRealsModel" "fraction" "[J") (by decide +kernel)) (fun _ h9 => h9) rfl dX1_isNothing_10 ?_
      refine lv_iload_n hx hb dX1_isNothing_13 rfl (lv_at hl 1 rfl) ?_
      refine va_lald hx hb hK hP 2 1 rfl rfl hr1 dX1_isNothing_14 ?_
      refine lv_lconst (v := 0) hx hb dX1_isNothing_15 (by decide) ?_
      refine W.lcmp hx hb dX1_isNothing_16 ?_
      refine lv_if_ne (tgt := 24) hx hb dX1_isNothing_17 (by decide) (fun c_3 => ?_) (fun c_3 => ?_)
      · refine lv_iconst (v := 0) hx hb dX1_isNothing_24 (by decide) ?_
        exact W.eq (by rw [if_neg c_2, if_neg c_3] <;> (repeat (first | rw [if_neg c_2] | rw [if_neg c_3]))) hJ_1
      · refine lv_iconst (v := 1) hx hb dX1_isNothing_20 (by decide) ?_
        refine lv_goto (tgt := 25) hx hb dX1_isNothing_21 (by decide) ?_
        exact W.eq (by rw [if_neg c_2, if_pos c_3] <;> (repeat (first | rw [if_neg c_2] | rw [if_pos c_3]))) hJ_1
def f_X1_result (tp : Nat → Int32) (fr : Nat → Int64) (bi : Nat → Int32) (cd : Int32) (ct : Int32) (wt : Int32) (fi : Int32) (mn : Int32) (wh : Int64) (fu : Int32) (tl : Int32) (gr : Int32) (sd : Int32) (mt : Int32) (mf : Int64) (a1 : Int32) (a2 : Int64) : MS :=
  (tp, fr, bi, cd, ct, wt, fi, mn, wh, fu, tl, gr, sd, ((if mn = 0 then 0 else 32768) + a1), a2)
set_option maxHeartbeats 1000000 in
set_option maxRecDepth 100000 in
theorem c_X1_result (l : Launch) (dC : Nat → ClassId) (dI : Nat → Nat → Nat) (cA cB cC : ClassId) (h0 pt pf pb : Nat) (sz : Nat) (tp : Nat → Int32) (fr : Nat → Int64) (bi : Nat → Int32) (cd : Int32) (ct : Int32) (wt : Int32) (fi : Int32) (mn : Int32) (wh : Int64) (fu : Int32) (tl : Int32) (gr : Int32) (sd : Int32) (mt : Int32) (mf : Int64) (a1 : Int32) (a2 : Int64) : Met l yX1_result wsX1_result ({ frames := 0, cells := 0, slots := 0, locals := 0 }) (wr_Pc (dC, dI) (m_W cA cB cC h0 pt pf pb tp fr bi cd ct wt fi mn wh fu tl gr sd mt mf) (m_T cA cB cC) sz [.ref h0, .int a1, .long a2]) (wr_Qv (dC, dI) (m_WU cA cB cC h0 pt pf pb) (f_X1_result tp fr bi cd ct wt fi mn wh fu tl gr sd mt mf a1 a2) (va_A (m_W cA cB cC h0 pt pf pb tp fr bi cd ct wt fi mn wh fu tl gr sd mt mf) sz)) 0 0 (va_A (m_W cA cB cC h0 pt pf pb tp fr bi cd ct wt fi mn wh fu tl gr sd mt mf) sz) := by
  refine Met.ofW (cc := cX1_result) (maxL := 4) (ret := none) (by decide) rfl ?_
  intro p e s m args below meth c s₁ B hml hv
  obtain ⟨rfl, hsz, hP, hK, hD0⟩ := hv
  have hx := B.exec
  have hb := B.bytes
  have hr := B.returns
  have hts := atoms_spec (ws := wsX1_result) B.pre
  have hown : s.vm.findClass RX1 = some m.cls := findClass_of_methodNamed B.named
  have hlocks := B.notSynchronized
  have hin_X1 : ∀ w ∈ u_ws RX1 TX1 15, w ∈ wsX1_result := by decide +kernel
  subst hsz
  have hD := hD0.self (sz := s.heap.size)
  generalize hAe : va_A (m_W cA cB cC h0 pt pf pb tp fr bi cd ct wt fi mn wh fu tl gr sd mt mf) s.heap.size = A at hD ⊢
  have hA : ∀ q : Nat, s.heap.size ≤ q → A q := fun q h => by rw [← hAe]; exact Or.inr h
  have hS : va_S A s.heap s.heap [] := va_S.rf
  have hD : va_D A [(h0, .inr (1, [.int cd, .int ct, .ref pt, .ref pf, .ref pb, .int wt, .int fi, .int mn, .long wh, .int fu, .int tl, .int gr, .int sd, .int mt, .long mf])), (pt, .inl (cA, 8, .inl tp)), (pf, .inl (cB, 8, .inr (.inl fr))), (pb, .inl (cC, 129, .inl bi))] := hD
  have hP : va_P (dC, dI) vwCl [(h0, .inr (1, [.int cd, .int ct, .ref pt, .ref pf, .ref pb, .int wt, .int fi, .int mn, .long wh, .int fu, .int tl, .int gr, .int sd, .int mt, .long mf])), (pt, .inl (cA, 8, .inl tp)), (pf, .inl (cB, 8, .inr (.inl fr))), (pb, .inl (cC, 129, .inl bi))] s.heap := hP
  have hl := lv_entry ([.ref h0, .int a1, .long a2]) (n := 4) (Nat.le_of_ble_eq_true rfl)
  rw [lg_entry_eq]
  generalize (lg_sl ([.ref h0, .int a1, .long a2]) ++ List.replicate (4 - (lg_sl ([.ref h0, .int a1, .long a2])).length) Slot.unset).toArray = ls at hl ⊢
  have hl : lv_has ls 4 [(0, .ref h0), (1, .int a1), (2, .long a2)] := hl
  refine lv_aload_n hx hb dX1_result_0 rfl (lv_at hl 0 rfl) ?_
  refine lv_aload_n hx hb dX1_result_1 rfl (lv_at hl 0 rfl) ?_
  refine va_get (D := (dC, dI)) (ci := 1) (v := .int mn) (C := RX1) (T := TX1) (N := 15) hx hb hts hin_X1 hown hK hP 0 rfl rfl 7 (by decide) (hts (.fieldLink RX1 55 "TemporaryRealsModel" "minus" "Z") (by decide +kernel)) (fun _ h9 => h9) rfl dX1_result_2 ?_
  refine w_join (F0 m 14 ls (.int (if mn = 0 then 0 else 32768) :: [.ref h0])) ?_ (fun hJ_1 => ?_)
  · refine lv_iload_n hx hb dX1_result_14 rfl (lv_at hl 1 rfl) ?_
    refine lv_iadd hx hb dX1_result_15 ?_
    refine va_put (D := (dC, dI)) (ci := 1) (v := .int ((if mn = 0 then 0 else 32768) + a1)) (ty := .int) (C := RX1) (T := TX1) (N := 15) hx hb hts hin_X1 tyX1 tyX1_ok nmX1 hown hK hP hD hS 0 rfl rfl 13 (by decide) (hts (.fieldLink RX1 67 "TemporaryRealsModel" "madeTop" "I") (by decide +kernel)) (fun _ h9 => h9) rfl (by decide +kernel) rfl rfl (Nat.le_of_ble_eq_true rfl) dX1_result_16 (fun H locs hP hD hS => ?_)
    have hP : va_P (dC, dI) vwCl [(h0, .inr (1, [.int cd, .int ct, .ref pt, .ref pf, .ref pb, .int wt, .int fi, .int mn, .long wh, .int fu, .int tl, .int gr, .int sd, .int ((if mn = 0 then 0 else 32768) + a1), .long mf])), (pt, .inl (cA, 8, .inl tp)), (pf, .inl (cB, 8, .inr (.inl fr))), (pb, .inl (cC, 129, .inl bi))] H := hP
    have hD : va_D A [(h0, .inr (1, [.int cd, .int ct, .ref pt, .ref pf, .ref pb, .int wt, .int fi, .int mn, .long wh, .int fu, .int tl, .int gr, .int sd, .int ((if mn = 0 then 0 else 32768) + a1), .long mf])), (pt, .inl (cA, 8, .inl tp)), (pf, .inl (cB, 8, .inr (.inl fr))), (pb, .inl (cC, 129, .inl bi))] := hD
    refine lv_aload_n hx hb dX1_result_19 rfl (lv_at hl 0 rfl) ?_
    refine lv_lload_n hx hb dX1_result_20 rfl (lv_at hl 2 rfl) ?_
    refine va_put (D := (dC, dI)) (ci := 1) (v := .long a2) (ty := .long) (C := RX1) (T := TX1) (N := 15) hx hb hts hin_X1 tyX1 tyX1_ok nmX1 hown hK hP hD hS 0 rfl rfl 14 (by decide) (hts (.fieldLink RX1 70 "TemporaryRealsModel" "madeFraction" "J") (by decide +kernel)) (fun _ h9 => h9) rfl (by decide +kernel) rfl rfl (Nat.le_of_ble_eq_true rfl) dX1_result_21 (fun H locs hP hD hS => ?_)
    have hP : va_P (dC, dI) vwCl [(h0, .inr (1, [.int cd, .int ct, .ref pt, .ref pf, .ref pb, .int wt, .int fi, .int mn, .long wh, .int fu, .int tl, .int gr, .int sd, .int ((if mn = 0 then 0 else 32768) + a1), .long a2])), (pt, .inl (cA, 8, .inl tp)), (pf, .inl (cB, 8, .inr (.inl fr))), (pb, .inl (cC, 129, .inl bi))] H := hP
    have hD : va_D A [(h0, .inr (1, [.int cd, .int ct, .ref pt, .ref pf, .ref pb, .int wt, .int fi, .int mn, .long wh, .int fu, .int tl, .int gr, .int sd, .int ((if mn = 0 then 0 else 32768) + a1), .long a2])), (pt, .inl (cA, 8, .inl tp)), (pf, .inl (cB, 8, .inr (.inl fr))), (pb, .inl (cC, 129, .inl bi))] := hD
    exact W.vret hx hb hr (fun t ht hW => ⟨⟨(tp, fr, bi, cd, ct, wt, fi, mn, wh, fu, tl, gr, sd, ((if mn = 0 then 0 else 32768) + a1), a2), rfl, (show (f_X1_result tp fr bi cd ct wt fi mn wh fu tl gr sd mt mf a1 a2) = ((tp, fr, bi, cd, ct, wt, fi, mn, wh, fu, tl, gr, sd, ((if mn = 0 then 0 else 32768) + a1), a2) : MS) from by unfold f_X1_result; rfl).symm, by rw [ht, m_WU_mk]; exact hP, by rw [m_WU_mk]; exact hD⟩, hS.F ht⟩) hS.2.2 dX1_result_24
  · refine lv_if_eq (tgt := 13) hx hb dX1_result_5 (by decide) (fun c_2 => ?_) (fun c_2 => ?_)
    · refine lv_iconst (v := 0) hx hb dX1_result_13 (by decide) ?_
      exact W.eq (by rw [if_pos c_2] <;> (repeat (first | rw [if_pos c_2]))) hJ_1
    · refine lv_ldc (v := 32768) hx hb hown (hts (.constant RX1 36 32768) (by decide +kernel)) dX1_result_8 ?_
      refine lv_goto (tgt := 14) hx hb dX1_result_10 (by decide) ?_
      exact W.eq (by rw [if_neg c_2] <;> (repeat (first | rw [if_neg c_2]))) hJ_1
def f_X1_keep (tp : Nat → Int32) (fr : Nat → Int64) (bi : Nat → Int32) (cd : Int32) (ct : Int32) (wt : Int32) (fi : Int32) (mn : Int32) (wh : Int64) (fu : Int32) (tl : Int32) (gr : Int32) (sd : Int32) (mt : Int32) (mf : Int64) (a1 : Int32) : Int32 × MS :=
  (tl, ((upd tp a1.toNatClampNeg mt), (vp_updL fr a1.toNatClampNeg mf), bi, cd, ct, wt, fi, mn, wh, fu, tl, gr, sd, mt, mf))
set_option maxHeartbeats 1000000 in
set_option maxRecDepth 100000 in
theorem c_X1_keep (l : Launch) (dC : Nat → ClassId) (dI : Nat → Nat → Nat) (cA cB cC : ClassId) (h0 pt pf pb : Nat) (sz : Nat) (tp : Nat → Int32) (fr : Nat → Int64) (bi : Nat → Int32) (cd : Int32) (ct : Int32) (wt : Int32) (fi : Int32) (mn : Int32) (wh : Int64) (fu : Int32) (tl : Int32) (gr : Int32) (sd : Int32) (mt : Int32) (mf : Int64) (a1 : Int32) (hr1 : vp_in a1 8) : Met l yX1_keep wsX1_keep ({ frames := 0, cells := 0, slots := 0, locals := 0 }) (wr_Pc (dC, dI) (m_W cA cB cC h0 pt pf pb tp fr bi cd ct wt fi mn wh fu tl gr sd mt mf) (m_T cA cB cC) sz [.ref h0, .int a1]) (wr_Qi (dC, dI) (m_WU cA cB cC h0 pt pf pb) (f_X1_keep tp fr bi cd ct wt fi mn wh fu tl gr sd mt mf a1) (va_A (m_W cA cB cC h0 pt pf pb tp fr bi cd ct wt fi mn wh fu tl gr sd mt mf) sz)) 0 0 (va_A (m_W cA cB cC h0 pt pf pb tp fr bi cd ct wt fi mn wh fu tl gr sd mt mf) sz) := by
  refine Met.ofW (cc := cX1_keep) (maxL := 2) (ret := (some .int)) (by decide) rfl ?_
  intro p e s m args below meth c s₁ B hml hv
  obtain ⟨rfl, hsz, hP, hK, hD0⟩ := hv
  have hx := B.exec
  have hb := B.bytes
  have hr := B.returns
  have hts := atoms_spec (ws := wsX1_keep) B.pre
  have hown : s.vm.findClass RX1 = some m.cls := findClass_of_methodNamed B.named
  have hlocks := B.notSynchronized
  have hin_X1 : ∀ w ∈ u_ws RX1 TX1 15, w ∈ wsX1_keep := by decide +kernel
  subst hsz
  have hD := hD0.self (sz := s.heap.size)
  generalize hAe : va_A (m_W cA cB cC h0 pt pf pb tp fr bi cd ct wt fi mn wh fu tl gr sd mt mf) s.heap.size = A at hD ⊢
  have hA : ∀ q : Nat, s.heap.size ≤ q → A q := fun q h => by rw [← hAe]; exact Or.inr h
  have hS : va_S A s.heap s.heap [] := va_S.rf
  have hD : va_D A [(h0, .inr (1, [.int cd, .int ct, .ref pt, .ref pf, .ref pb, .int wt, .int fi, .int mn, .long wh, .int fu, .int tl, .int gr, .int sd, .int mt, .long mf])), (pt, .inl (cA, 8, .inl tp)), (pf, .inl (cB, 8, .inr (.inl fr))), (pb, .inl (cC, 129, .inl bi))] := hD
  have hP : va_P (dC, dI) vwCl [(h0, .inr (1, [.int cd, .int ct, .ref pt, .ref pf, .ref pb, .int wt, .int fi, .int mn, .long wh, .int fu, .int tl, .int gr, .int sd, .int mt, .long mf])), (pt, .inl (cA, 8, .inl tp)), (pf, .inl (cB, 8, .inr (.inl fr))), (pb, .inl (cC, 129, .inl bi))] s.heap := hP
  have hl := lv_entry ([.ref h0, .int a1]) (n := 2) (Nat.le_of_ble_eq_true rfl)
  rw [lg_entry_eq]
  generalize (lg_sl ([.ref h0, .int a1]) ++ List.replicate (2 - (lg_sl ([.ref h0, .int a1])).length) Slot.unset).toArray = ls at hl ⊢
  have hl : lv_has ls 2 [(0, .ref h0), (1, .int a1)] := hl
  refine lv_aload_n hx hb dX1_keep_0 rfl (lv_at hl 0 rfl) ?_
  refine va_get (D := (dC, dI)) (ci := 1) (v := .ref pt) (C := RX1) (T := TX1) (N := 15) hx hb hts hin_X1 hown hK hP 0 rfl rfl 2 (by decide) (hts (.fieldLink RX1 13 "TemporaryRealsModel" "top" "[I") (by decide +kernel)) (fun _ h9 => h9) rfl dX1_keep_1 ?_
  refine lv_iload_n hx hb dX1_keep_4 rfl (lv_at hl 1 rfl) ?_
  refine lv_aload_n hx hb dX1_keep_5 rfl (lv_at hl 0 rfl) ?_
  refine va_get (D := (dC, dI)) (ci := 1) (v := .int mt) (C := RX1) (T := TX1) (N := 15) hx hb hts hin_X1 hown hK hP 0 rfl rfl 13 (by decide) (hts (.fieldLink RX1 67 "TemporaryRealsModel" "madeTop" "I") (by decide +kernel)) (fun _ h9 => h9) rfl dX1_keep_6 ?_
  refine va_iast hx hb hK hP hD hS 1 0 rfl rfl hr1 dX1_keep_9 (fun H locs hP hD hS => ?_)
  have hP : va_P (dC, dI) vwCl [(h0, .inr (1, [.int cd, .int ct, .ref pt, .ref pf, .ref pb, .int wt, .int fi, .int mn, .long wh, .int fu, .int tl, .int gr, .int sd, .int mt, .long mf])), (pt, .inl (cA, 8, .inl (upd tp a1.toNatClampNeg mt))), (pf, .inl (cB, 8, .inr (.inl fr))), (pb, .inl (cC, 129, .inl bi))] H := hP
  have hD : va_D A [(h0, .inr (1, [.int cd, .int ct, .ref pt, .ref pf, .ref pb, .int wt, .int fi, .int mn, .long wh, .int fu, .int tl, .int gr, .int sd, .int mt, .long mf])), (pt, .inl (cA, 8, .inl (upd tp a1.toNatClampNeg mt))), (pf, .inl (cB, 8, .inr (.inl fr))), (pb, .inl (cC, 129, .inl bi))] := hD
  refine lv_aload_n hx hb dX1_keep_10 rfl (lv_at hl 0 rfl) ?_
  refine va_get (D := (dC, dI)) (ci := 1) (v := .ref pf) (C := RX1) (T := TX1) (N := 15) hx hb hts hin_X1 hown hK hP 0 rfl rfl 3 (by decide) (hts (.fieldLink RX1 17 "TemporaryRealsModel" "fraction" "[J") (by decide +kernel)) (fun _ h9 => h9) rfl dX1_keep_11 ?_
  refine lv_iload_n hx hb dX1_keep_14 rfl (lv_at hl 1 rfl) ?_
  refine lv_aload_n hx hb dX1_keep_15 rfl (lv_at hl 0 rfl) ?_
  refine va_get (D := (dC, dI)) (ci := 1) (v := .long mf) (C := RX1) (T := TX1) (N := 15) hx hb hts hin_X1 hown hK hP 0 rfl rfl 14 (by decide) (hts (.fieldLink RX1 70 "TemporaryRealsModel" "madeFraction" "J") (by decide +kernel)) (fun _ h9 => h9) rfl dX1_keep_16 ?_
  refine va_last hx hb hK hP hD hS 2 1 rfl rfl hr1 dX1_keep_19 (fun H locs hP hD hS => ?_)
  have hP : va_P (dC, dI) vwCl [(h0, .inr (1, [.int cd, .int ct, .ref pt, .ref pf, .ref pb, .int wt, .int fi, .int mn, .long wh, .int fu, .int tl, .int gr, .int sd, .int mt, .long mf])), (pt, .inl (cA, 8, .inl (upd tp a1.toNatClampNeg mt))), (pf, .inl (cB, 8, .inr (.inl (vp_updL fr a1.toNatClampNeg mf)))), (pb, .inl (cC, 129, .inl bi))] H := hP
  have hD : va_D A [(h0, .inr (1, [.int cd, .int ct, .ref pt, .ref pf, .ref pb, .int wt, .int fi, .int mn, .long wh, .int fu, .int tl, .int gr, .int sd, .int mt, .long mf])), (pt, .inl (cA, 8, .inl (upd tp a1.toNatClampNeg mt))), (pf, .inl (cB, 8, .inr (.inl (vp_updL fr a1.toNatClampNeg mf)))), (pb, .inl (cC, 129, .inl bi))] := hD
  refine lv_aload_n hx hb dX1_keep_20 rfl (lv_at hl 0 rfl) ?_
  refine va_get (D := (dC, dI)) (ci := 1) (v := .int tl) (C := RX1) (T := TX1) (N := 15) hx hb hts hin_X1 hown hK hP 0 rfl rfl 10 (by decide) (hts (.fieldLink RX1 73 "TemporaryRealsModel" "told" "I") (by decide +kernel)) (fun _ h9 => h9) rfl dX1_keep_21 ?_
  exact W.iret (v := tl) hx hb hr (fun t ht hW => ⟨⟨tl, ((upd tp a1.toNatClampNeg mt), (vp_updL fr a1.toNatClampNeg mf), bi, cd, ct, wt, fi, mn, wh, fu, tl, gr, sd, mt, mf), rfl, (show (f_X1_keep tp fr bi cd ct wt fi mn wh fu tl gr sd mt mf a1) = ((tl, ((upd tp a1.toNatClampNeg mt), (vp_updL fr a1.toNatClampNeg mf), bi, cd, ct, wt, fi, mn, wh, fu, tl, gr, sd, mt, mf)) : Int32 × MS) from by unfold f_X1_keep; rfl).symm, by rw [ht, m_WU_mk]; exact hP, by rw [m_WU_mk]; exact hD⟩, hS.F ht⟩) hS.2.2 dX1_keep_24
def f_X1_control (tp : Nat → Int32) (fr : Nat → Int64) (bi : Nat → Int32) (cd : Int32) (ct : Int32) (wt : Int32) (fi : Int32) (mn : Int32) (wh : Int64) (fu : Int32) (tl : Int32) (gr : Int32) (sd : Int32) (mt : Int32) (mf : Int64) (a1 : Int32) : MS :=
  if ((if a1 < 0 then 1 else (if a1 ≤ 65535 then 0 else 1)) : Int32) = 0 then
    (tp, fr, bi, (if a1 < 0 then 1 else (if a1 ≤ 65535 then 0 else 1)), a1, wt, fi, mn, wh, fu, tl, gr, sd, mt, mf)
  else
    (tp, fr, bi, (if a1 < 0 then 1 else (if a1 ≤ 65535 then 0 else 1)), ct, wt, fi, mn, wh, fu, tl, gr, sd, mt, mf)
set_option maxHeartbeats 1000000 in
set_option maxRecDepth 100000 in
theorem c_X1_control (l : Launch) (dC : Nat → ClassId) (dI : Nat → Nat → Nat) (cA cB cC : ClassId) (h0 pt pf pb : Nat) (sz : Nat) (tp : Nat → Int32) (fr : Nat → Int64) (bi : Nat → Int32) (cd : Int32) (ct : Int32) (wt : Int32) (fi : Int32) (mn : Int32) (wh : Int64) (fu : Int32) (tl : Int32) (gr : Int32) (sd : Int32) (mt : Int32) (mf : Int64) (a1 : Int32) : Met l yX1_control wsX1_control ({ frames := 0, cells := 0, slots := 0, locals := 0 }) (wr_Pc (dC, dI) (m_W cA cB cC h0 pt pf pb tp fr bi cd ct wt fi mn wh fu tl gr sd mt mf) (m_T cA cB cC) sz [.ref h0, .int a1]) (wr_Qv (dC, dI) (m_WU cA cB cC h0 pt pf pb) (f_X1_control tp fr bi cd ct wt fi mn wh fu tl gr sd mt mf a1) (va_A (m_W cA cB cC h0 pt pf pb tp fr bi cd ct wt fi mn wh fu tl gr sd mt mf) sz)) 0 0 (va_A (m_W cA cB cC h0 pt pf pb tp fr bi cd ct wt fi mn wh fu tl gr sd mt mf) sz) := by
  refine Met.ofW (cc := cX1_control) (maxL := 2) (ret := none) (by decide) rfl ?_
  intro p e s m args below meth c s₁ B hml hv
  obtain ⟨rfl, hsz, hP, hK, hD0⟩ := hv
  have hx := B.exec
  have hb := B.bytes
  have hr := B.returns
  have hts := atoms_spec (ws := wsX1_control) B.pre
  have hown : s.vm.findClass RX1 = some m.cls := findClass_of_methodNamed B.named
  have hlocks := B.notSynchronized
  have hin_X1 : ∀ w ∈ u_ws RX1 TX1 15, w ∈ wsX1_control := by decide +kernel
  subst hsz
  have hD := hD0.self (sz := s.heap.size)
  generalize hAe : va_A (m_W cA cB cC h0 pt pf pb tp fr bi cd ct wt fi mn wh fu tl gr sd mt mf) s.heap.size = A at hD ⊢
  have hA : ∀ q : Nat, s.heap.size ≤ q → A q := fun q h => by rw [← hAe]; exact Or.inr h
  have hS : va_S A s.heap s.heap [] := va_S.rf
  have hD : va_D A [(h0, .inr (1, [.int cd, .int ct, .ref pt, .ref pf, .ref pb, .int wt, .int fi, .int mn, .long wh, .int fu, .int tl, .int gr, .int sd, .int mt, .long mf])), (pt, .inl (cA, 8, .inl tp)), (pf, .inl (cB, 8, .inr (.inl fr))), (pb, .inl (cC, 129, .inl bi))] := hD
  have hP : va_P (dC, dI) vwCl [(h0, .inr (1, [.int cd, .int ct, .ref pt, .ref pf, .ref pb, .int wt, .int fi, .int mn, .long wh, .int fu, .int tl, .int gr, .int sd, .int mt, .long mf])), (pt, .inl (cA, 8, .inl tp)), (pf, .inl (cB, 8, .inr (.inl fr))), (pb, .inl (cC, 129, .inl bi))] s.heap := hP
  have hl := lv_entry ([.ref h0, .int a1]) (n := 2) (Nat.le_of_ble_eq_true rfl)
  rw [lg_entry_eq]
  generalize (lg_sl ([.ref h0, .int a1]) ++ List.replicate (2 - (lg_sl ([.ref h0, .int a1])).length) Slot.unset).toArray = ls at hl ⊢
  have hl : lv_has ls 2 [(0, .ref h0), (1, .int a1)] := hl
  refine lv_aload_n hx hb dX1_control_0 rfl (lv_at hl 0 rfl) ?_
  refine lv_iload_n hx hb dX1_control_1 rfl (lv_at hl 1 rfl) ?_
  refine w_join (F0 m 16 ls (.int (if a1 < 0 then 1 else (if a1 ≤ 65535 then 0 else 1)) :: [.ref h0])) ?_ (fun hJ_1 => ?_)
  · refine va_put (D := (dC, dI)) (ci := 1) (v := .int (if a1 < 0 then 1 else (if a1 ≤ 65535 then 0 else 1))) (ty := .int) (C := RX1) (T := TX1) (N := 15) hx hb hts hin_X1 tyX1 tyX1_ok nmX1 hown hK hP hD hS 0 rfl rfl 0 (by decide) (hts (.fieldLink RX1 24 "TemporaryRealsModel" "code" "I") (by decide +kernel)) (fun _ h9 => h9) rfl (by decide +kernel) rfl rfl (Nat.le_of_ble_eq_true rfl) dX1_control_16 (fun H locs hP hD hS => ?_)
    have hP : va_P (dC, dI) vwCl [(h0, .inr (1, [.int (if a1 < 0 then 1 else (if a1 ≤ 65535 then 0 else 1)), .int ct, .ref pt, .ref pf, .ref pb, .int wt, .int fi, .int mn, .long wh, .int fu, .int tl, .int gr, .int sd, .int mt, .long mf])), (pt, .inl (cA, 8, .inl tp)), (pf, .inl (cB, 8, .inr (.inl fr))), (pb, .inl (cC, 129, .inl bi))] H := hP
    have hD : va_D A [(h0, .inr (1, [.int (if a1 < 0 then 1 else (if a1 ≤ 65535 then 0 else 1)), .int ct, .ref pt, .ref pf, .ref pb, .int wt, .int fi, .int mn, .long wh, .int fu, .int tl, .int gr, .int sd, .int mt, .long mf])), (pt, .inl (cA, 8, .inl tp)), (pf, .inl (cB, 8, .inr (.inl fr))), (pb, .inl (cC, 129, .inl bi))] := hD
    refine lv_aload_n hx hb dX1_control_19 rfl (lv_at hl 0 rfl) ?_
    refine va_get (D := (dC, dI)) (ci := 1) (v := .int (if a1 < 0 then 1 else (if a1 ≤ 65535 then 0 else 1))) (C := RX1) (T := TX1) (N := 15) hx hb hts hin_X1 hown hK hP 0 rfl rfl 0 (by decide) (hts (.fieldLink RX1 24 "TemporaryRealsModel" "code" "I") (by decide +kernel)) (fun _ h9 => h9) rfl dX1_control_20 ?_
    refine lv_if_ne (tgt := 31) hx hb dX1_control_23 (by decide) (fun c_4 => ?_) (fun c_4 => ?_)
    · exact W.vret hx hb hr (fun t ht hW => ⟨⟨(tp, fr, bi, (if a1 < 0 then 1 else (if a1 ≤ 65535 then 0 else 1)), ct, wt, fi, mn, wh, fu, tl, gr, sd, mt, mf), rfl, (show (f_X1_control tp fr bi cd ct wt fi mn wh fu tl gr sd mt mf a1) = ((tp, fr, bi, (if a1 < 0 then 1 else (if a1 ≤ 65535 then 0 else 1)), ct, wt, fi, mn, wh, fu, tl, gr, sd, mt, mf) : MS) from by unfold f_X1_control; rw [if_neg c_4]).symm, by rw [ht, m_WU_mk]; exact hP, by rw [m_WU_mk]; exact hD⟩, hS.F ht⟩) hS.2.2 dX1_control_31
    · refine lv_aload_n hx hb dX1_control_26 rfl (lv_at hl 0 rfl) ?_
      refine lv_iload_n hx hb dX1_control_27 rfl (lv_at hl 1 rfl) ?_
      refine va_put (D := (dC, dI)) (ci := 1) (v := .int a1) (ty := .int) (C := RX1) (T := TX1) (N := 15) hx hb hts hin_X1 tyX1 tyX1_ok nmX1 hown hK hP hD hS 0 rfl rfl 1 (by decide) (hts (.fieldLink RX1 7 "TemporaryRealsModel" "control" "I") (by decide +kernel)) (fun _ h9 => h9) rfl (by decide +kernel) rfl rfl (Nat.le_of_ble_eq_true rfl) dX1_control_28 (fun H locs hP hD hS => ?_)
      have hP : va_P (dC, dI) vwCl [(h0, .inr (1, [.int (if a1 < 0 then 1 else (if a1 ≤ 65535 then 0 else 1)), .int a1, .ref pt, .ref pf, .ref pb, .int wt, .int fi, .int mn, .long wh, .int fu, .int tl, .int gr, .int sd, .int mt, .long mf])), (pt, .inl (cA, 8, .inl tp)), (pf, .inl (cB, 8, .inr (.inl fr))), (pb, .inl (cC, 129, .inl bi))] H := hP
      have hD : va_D A [(h0, .inr (1, [.int (if a1 < 0 then 1 else (if a1 ≤ 65535 then 0 else 1)), .int a1, .ref pt, .ref pf, .ref pb, .int wt, .int fi, .int mn, .long wh, .int fu, .int tl, .int gr, .int sd, .int mt, .long mf])), (pt, .inl (cA, 8, .inl tp)), (pf, .inl (cB, 8, .inr (.inl fr))), (pb, .inl (cC, 129, .inl bi))] := hD
      exact W.vret hx hb hr (fun t ht hW => ⟨⟨(tp, fr, bi, (if a1 < 0 then 1 else (if a1 ≤ 65535 then 0 else 1)), a1, wt, fi, mn, wh, fu, tl, gr, sd, mt, mf), rfl, (show (f_X1_control tp fr bi cd ct wt fi mn wh fu tl gr sd mt mf a1) = ((tp, fr, bi, (if a1 < 0 then 1 else (if a1 ≤ 65535 then 0 else 1)), a1, wt, fi, mn, wh, fu, tl, gr, sd, mt, mf) : MS) from by unfold f_X1_control; rw [if_pos c_4]).symm, by rw [ht, m_WU_mk]; exact hP, by rw [m_WU_mk]; exact hD⟩, hS.F ht⟩) hS.2.2 dX1_control_31
  · refine lv_if_lt (tgt := 11) hx hb dX1_control_2 (by decide) (fun c_2 => ?_) (fun c_2 => ?_)
    · refine lv_iconst (v := 1) hx hb dX1_control_11 (by decide) ?_
      refine lv_goto (tgt := 16) hx hb dX1_control_12 (by decide) ?_
      exact W.eq (by rw [if_pos c_2] <;> (repeat (first | rw [if_pos c_2]))) hJ_1
    · refine lv_iload_n hx hb dX1_control_5 rfl (lv_at hl 1 rfl) ?_
      refine lv_ldc (v := 65535) hx hb hown (hts (.constant RX1 27 65535) (by decide +kernel)) dX1_control_6 ?_
      refine lv_icmp_le (tgt := 15) hx hb dX1_control_8 (by decide) (fun c_3 => ?_) (fun c_3 => ?_)
      · refine lv_iconst (v := 0) hx hb dX1_control_15 (by decide) ?_
        exact W.eq (by rw [if_neg c_2, if_pos c_3] <;> (repeat (first | rw [if_neg c_2] | rw [if_pos c_3]))) hJ_1
      · refine lv_iconst (v := 1) hx hb dX1_control_11 (by decide) ?_
        refine lv_goto (tgt := 16) hx hb dX1_control_12 (by decide) ?_
        exact W.eq (by rw [if_neg c_2, if_neg c_3] <;> (repeat (first | rw [if_neg c_2] | rw [if_neg c_3]))) hJ_1
def f_X1_set (tp : Nat → Int32) (fr : Nat → Int64) (bi : Nat → Int32) (cd : Int32) (ct : Int32) (wt : Int32) (fi : Int32) (mn : Int32) (wh : Int64) (fu : Int32) (tl : Int32) (gr : Int32) (sd : Int32) (mt : Int32) (mf : Int64) (a1 : Int32) (a2 : Int32) (a3 : Int32) (a4 : Int32) : MS :=
  if ((if (f_X1_none a1) = 0 then (if a2 < 0 then 2 else (if a2 ≤ 65535 then 0 else 2)) else 1) : Int32) ≤ 0 then
    ((upd tp a1.toNatClampNeg a2), (vp_updL fr a1.toNatClampNeg (((Int32.toInt64 a3) * 4294967296) + ((Int32.toInt64 a4) &&& 4294967295))), bi, (if (f_X1_none a1) = 0 then (if a2 < 0 then 2 else (if a2 ≤ 65535 then 0 else 2)) else 1), ct, wt, fi, mn, wh, fu, tl, gr, sd, mt, mf)
  else
    (tp, fr, bi, (if (f_X1_none a1) = 0 then (if a2 < 0 then 2 else (if a2 ≤ 65535 then 0 else 2)) else 1), ct, wt, fi, mn, wh, fu, tl, gr, sd, mt, mf)
set_option maxHeartbeats 1000000 in
set_option maxRecDepth 100000 in
theorem c_X1_set (l : Launch) (dC : Nat → ClassId) (dI : Nat → Nat → Nat) (cA cB cC : ClassId) (h0 pt pf pb : Nat) (sz : Nat) (tp : Nat → Int32) (fr : Nat → Int64) (bi : Nat → Int32) (cd : Int32) (ct : Int32) (wt : Int32) (fi : Int32) (mn : Int32) (wh : Int64) (fu : Int32) (tl : Int32) (gr : Int32) (sd : Int32) (mt : Int32) (mf : Int64) (a1 : Int32) (a2 : Int32) (a3 : Int32) (a4 : Int32) : Met l yX1_set wsX1_set ({ frames := 1, cells := 0, slots := 0, locals := 20 }) (wr_Pc (dC, dI) (m_W cA cB cC h0 pt pf pb tp fr bi cd ct wt fi mn wh fu tl gr sd mt mf) (m_T cA cB cC) sz [.ref h0, .int a1, .int a2, .int a3, .int a4]) (wr_Qv (dC, dI) (m_WU cA cB cC h0 pt pf pb) (f_X1_set tp fr bi cd ct wt fi mn wh fu tl gr sd mt mf a1 a2 a3 a4) (va_A (m_W cA cB cC h0 pt pf pb tp fr bi cd ct wt fi mn wh fu tl gr sd mt mf) sz)) 0 0 (va_A (m_W cA cB cC h0 pt pf pb tp fr bi cd ct wt fi mn wh fu tl gr sd mt mf) sz) := by
  refine Met.ofW (cc := cX1_set) (maxL := 5) (ret := none) (by decide) rfl ?_
  intro p e s m args below meth c s₁ B hml hv
  obtain ⟨rfl, hsz, hP, hK, hD0⟩ := hv
  have hx := B.exec
  have hb := B.bytes
  have hr := B.returns
  have hts := atoms_spec (ws := wsX1_set) B.pre
  have hown : s.vm.findClass RX1 = some m.cls := findClass_of_methodNamed B.named
  have hlocks := B.notSynchronized
  have hin_X1 : ∀ w ∈ u_ws RX1 TX1 15, w ∈ wsX1_set := by decide +kernel
  subst hsz
  have hD := hD0.self (sz := s.heap.size)
  generalize hAe : va_A (m_W cA cB cC h0 pt pf pb tp fr bi cd ct wt fi mn wh fu tl gr sd mt mf) s.heap.size = A at hD ⊢
  have hA : ∀ q : Nat, s.heap.size ≤ q → A q := fun q h => by rw [← hAe]; exact Or.inr h
  have hS : va_S A s.heap s.heap [] := va_S.rf
  have hD : va_D A [(h0, .inr (1, [.int cd, .int ct, .ref pt, .ref pf, .ref pb, .int wt, .int fi, .int mn, .long wh, .int fu, .int tl, .int gr, .int sd, .int mt, .long mf])), (pt, .inl (cA, 8, .inl tp)), (pf, .inl (cB, 8, .inr (.inl fr))), (pb, .inl (cC, 129, .inl bi))] := hD
  have hP : va_P (dC, dI) vwCl [(h0, .inr (1, [.int cd, .int ct, .ref pt, .ref pf, .ref pb, .int wt, .int fi, .int mn, .long wh, .int fu, .int tl, .int gr, .int sd, .int mt, .long mf])), (pt, .inl (cA, 8, .inl tp)), (pf, .inl (cB, 8, .inr (.inl fr))), (pb, .inl (cC, 129, .inl bi))] s.heap := hP
  have hl := lv_entry ([.ref h0, .int a1, .int a2, .int a3, .int a4]) (n := 5) (Nat.le_of_ble_eq_true rfl)
  rw [lg_entry_eq]
  generalize (lg_sl ([.ref h0, .int a1, .int a2, .int a3, .int a4]) ++ List.replicate (5 - (lg_sl ([.ref h0, .int a1, .int a2, .int a3, .int a4])).length) Slot.unset).toArray = ls at hl ⊢
  have hl : lv_has ls 5 [(0, .ref h0), (1, .int a1), (2, .int a2), (3, .int a3), (4, .int a4)] := hl
  refine lv_aload_n hx hb dX1_set_0 rfl (lv_at hl 0 rfl) ?_
  refine lv_iload_n hx hb dX1_set_1 rfl (lv_at hl 1 rfl) ?_
  refine W.callV (r := .int (f_X1_none a1)) (W.runS (As := [.int a1]) (rest := [.ref h0]) ⟨hx, hb, hml, hown, hts⟩ (c_X1_none l a1 ) (va_cwS 1 hts gX1_set_X1_none rfl rfl rfl (by decide +kernel) ⟨Nat.le_of_ble_eq_true rfl, Nat.le_of_ble_eq_true rfl⟩) pu_pre rfl rfl hl.1 rfl (lv_room (Nat.le_of_ble_eq_true rfl)) dX1_set_2 ⟨Nat.zero_le _, Nat.zero_le _⟩) ?_
  refine W.eq (g2 := F0 m 5 ls ([.int (f_X1_none a1), .ref h0])) rfl ?_
  refine w_join (F0 m 27 ls (.int (if (f_X1_none a1) = 0 then (if a2 < 0 then 2 else (if a2 ≤ 65535 then 0 else 2)) else 1) :: [.ref h0])) ?_ (fun hJ_1 => ?_)
  · refine va_put (D := (dC, dI)) (ci := 1) (v := .int (if (f_X1_none a1) = 0 then (if a2 < 0 then 2 else (if a2 ≤ 65535 then 0 else 2)) else 1)) (ty := .int) (C := RX1) (T := TX1) (N := 15) hx hb hts hin_X1 tyX1 tyX1_ok nmX1 hown hK hP hD hS 0 rfl rfl 0 (by decide) (hts (.fieldLink RX1 24 "TemporaryRealsModel" "code" "I") (by decide +kernel)) (fun _ h9 => h9) rfl (by decide +kernel) rfl rfl (Nat.le_of_ble_eq_true rfl) dX1_set_27 (fun H locs hP hD hS => ?_)
    have hP : va_P (dC, dI) vwCl [(h0, .inr (1, [.int (if (f_X1_none a1) = 0 then (if a2 < 0 then 2 else (if a2 ≤ 65535 then 0 else 2)) else 1), .int ct, .ref pt, .ref pf, .ref pb, .int wt, .int fi, .int mn, .long wh, .int fu, .int tl, .int gr, .int sd, .int mt, .long mf])), (pt, .inl (cA, 8, .inl tp)), (pf, .inl (cB, 8, .inr (.inl fr))), (pb, .inl (cC, 129, .inl bi))] H := hP
    have hD : va_D A [(h0, .inr (1, [.int (if (f_X1_none a1) = 0 then (if a2 < 0 then 2 else (if a2 ≤ 65535 then 0 else 2)) else 1), .int ct, .ref pt, .ref pf, .ref pb, .int wt, .int fi, .int mn, .long wh, .int fu, .int tl, .int gr, .int sd, .int mt, .long mf])), (pt, .inl (cA, 8, .inl tp)), (pf, .inl (cB, 8, .inr (.inl fr))), (pb, .inl (cC, 129, .inl bi))] := hD
    refine lv_aload_n hx hb dX1_set_30 rfl (lv_at hl 0 rfl) ?_
    refine va_get (D := (dC, dI)) (ci := 1) (v := .int (if (f_X1_none a1) = 0 then (if a2 < 0 then 2 else (if a2 ≤ 65535 then 0 else 2)) else 1)) (C := RX1) (T := TX1) (N := 15) hx hb hts hin_X1 hown hK hP 0 rfl rfl 0 (by decide) (hts (.fieldLink RX1 24 "TemporaryRealsModel" "code" "I") (by decide +kernel)) (fun _ h9 => h9) rfl dX1_set_31 ?_
    refine lv_if_le (tgt := 38) hx hb dX1_set_34 (by decide) (fun c_5 => ?_) (fun c_5 => ?_)
    · refine lv_aload_n hx hb dX1_set_38 rfl (lv_at hl 0 rfl) ?_
      refine va_get (D := (dC, dI)) (ci := 1) (v := .ref pt) (C := RX1) (T := TX1) (N := 15) hx hb hts hin_X1 hown hK hP 0 rfl rfl 2 (by decide) (hts (.fieldLink RX1 13 "TemporaryRealsModel" "top" "[I") (by decide +kernel)) (fun _ h9 => h9) rfl dX1_set_39 ?_
      refine lv_iload_n hx hb dX1_set_42 rfl (lv_at hl 1 rfl) ?_
      refine lv_iload_n hx hb dX1_set_43 rfl (lv_at hl 2 rfl) ?_
      refine va_iast hx hb hK hP hD hS 1 0 rfl rfl (m_regA c_5) dX1_set_44 (fun H locs hP hD hS => ?_)
      have hP : va_P (dC, dI) vwCl [(h0, .inr (1, [.int (if (f_X1_none a1) = 0 then (if a2 < 0 then 2 else (if a2 ≤ 65535 then 0 else 2)) else 1), .int ct, .ref pt, .ref pf, .ref pb, .int wt, .int fi, .int mn, .long wh, .int fu, .int tl, .int gr, .int sd, .int mt, .long mf])), (pt, .inl (cA, 8, .inl (upd tp a1.toNatClampNeg a2))), (pf, .inl (cB, 8, .inr (.inl fr))), (pb, .inl (cC, 129, .inl bi))] H := hP
      have hD : va_D A [(h0, .inr (1, [.int (if (f_X1_none a1) = 0 then (if a2 < 0 then 2 else (if a2 ≤ 65535 then 0 else 2)) else 1), .int ct, .ref pt, .ref pf, .ref pb, .int wt, .int fi, .int mn, .long wh, .int fu, .int tl, .int gr, .int sd, .int mt, .long mf])), (pt, .inl (cA, 8, .inl (upd tp a1.toNatClampNeg a2))), (pf, .inl (cB, 8, .inr (.inl fr))), (pb, .inl (cC, 129, .inl bi))] := hD
      refine lv_aload_n hx hb dX1_set_45 rfl (lv_at hl 0 rfl) ?_
      refine va_get (D := (dC, dI)) (ci := 1) (v := .ref pf) (C := RX1) (T := TX1) (N := 15) hx hb hts hin_X1 hown hK hP 0 rfl rfl 3 (by decide) (hts (.fieldLink RX1 17 "TemporaryRealsModel" "fraction" "[J") (by decide +kernel)) (fun _ h9 => h9) rfl dX1_set_46 ?_
      refine lv_iload_n hx hb dX1_set_49 rfl (lv_at hl 1 rfl) ?_
      refine lv_iload_n hx hb dX1_set_50 rfl (lv_at hl 3 rfl) ?_
      refine lv_i2l hx hb dX1_set_51 rfl ?_
      refine lv_ldc2 (v := 4294967296) hx hb hown (hts (.constantLong RX1 32 4294967296) (by decide +kernel)) dX1_set_52 ?_
      refine lv_lmul hx hb dX1_set_55 ?_
      refine lv_iload hx hb dX1_set_56 (lv_at hl 4 rfl) ?_
      refine lv_i2l hx hb dX1_set_58 rfl ?_
      refine lv_ldc2 (v := 4294967295) hx hb hown (hts (.constantLong RX1 34 4294967295) (by decide +kernel)) dX1_set_59 ?_
      refine lv_land hx hb dX1_set_62 ?_
      refine lv_ladd hx hb dX1_set_63 ?_
      refine va_last hx hb hK hP hD hS 2 1 rfl rfl (m_regA c_5) dX1_set_64 (fun H locs hP hD hS => ?_)
      have hP : va_P (dC, dI) vwCl [(h0, .inr (1, [.int (if (f_X1_none a1) = 0 then (if a2 < 0 then 2 else (if a2 ≤ 65535 then 0 else 2)) else 1), .int ct, .ref pt, .ref pf, .ref pb, .int wt, .int fi, .int mn, .long wh, .int fu, .int tl, .int gr, .int sd, .int mt, .long mf])), (pt, .inl (cA, 8, .inl (upd tp a1.toNatClampNeg a2))), (pf, .inl (cB, 8, .inr (.inl (vp_updL fr a1.toNatClampNeg (((Int32.toInt64 a3) * 4294967296) + ((Int32.toInt64 a4) &&& 4294967295)))))), (pb, .inl (cC, 129, .inl bi))] H := hP
      have hD : va_D A [(h0, .inr (1, [.int (if (f_X1_none a1) = 0 then (if a2 < 0 then 2 else (if a2 ≤ 65535 then 0 else 2)) else 1), .int ct, .ref pt, .ref pf, .ref pb, .int wt, .int fi, .int mn, .long wh, .int fu, .int tl, .int gr, .int sd, .int mt, .long mf])), (pt, .inl (cA, 8, .inl (upd tp a1.toNatClampNeg a2))), (pf, .inl (cB, 8, .inr (.inl (vp_updL fr a1.toNatClampNeg (((Int32.toInt64 a3) * 4294967296) + ((Int32.toInt64 a4) &&& 4294967295)))))), (pb, .inl (cC, 129, .inl bi))] := hD
      exact W.vret hx hb hr (fun t ht hW => ⟨⟨((upd tp a1.toNatClampNeg a2), (vp_updL fr a1.toNatClampNeg (((Int32.toInt64 a3) * 4294967296) + ((Int32.toInt64 a4) &&& 4294967295))), bi, (if (f_X1_none a1) = 0 then (if a2 < 0 then 2 else (if a2 ≤ 65535 then 0 else 2)) else 1), ct, wt, fi, mn, wh, fu, tl, gr, sd, mt, mf), rfl, (show (f_X1_set tp fr bi cd ct wt fi mn wh fu tl gr sd mt mf a1 a2 a3 a4) = (((upd tp a1.toNatClampNeg a2), (vp_updL fr a1.toNatClampNeg (((Int32.toInt64 a3) * 4294967296) + ((Int32.toInt64 a4) &&& 4294967295))), bi, (if (f_X1_none a1) = 0 then (if a2 < 0 then 2 else (if a2 ≤ 65535 then 0 else 2)) else 1), ct, wt, fi, mn, wh, fu, tl, gr, sd, mt, mf) : MS) from by unfold f_X1_set; rw [if_pos c_5]).symm, by rw [ht, m_WU_mk]; exact hP, by rw [m_WU_mk]; exact hD⟩, hS.F ht⟩) hS.2.2 dX1_set_65
    · exact W.vret hx hb hr (fun t ht hW => ⟨⟨(tp, fr, bi, (if (f_X1_none a1) = 0 then (if a2 < 0 then 2 else (if a2 ≤ 65535 then 0 else 2)) else 1), ct, wt, fi, mn, wh, fu, tl, gr, sd, mt, mf), rfl, (show (f_X1_set tp fr bi cd ct wt fi mn wh fu tl gr sd mt mf a1 a2 a3 a4) = ((tp, fr, bi, (if (f_X1_none a1) = 0 then (if a2 < 0 then 2 else (if a2 ≤ 65535 then 0 else 2)) else 1), ct, wt, fi, mn, wh, fu, tl, gr, sd, mt, mf) : MS) from by unfold f_X1_set; rw [if_neg c_5]).symm, by rw [ht, m_WU_mk]; exact hP, by rw [m_WU_mk]; exact hD⟩, hS.F ht⟩) hS.2.2 dX1_set_37
  · refine lv_if_eq (tgt := 12) hx hb dX1_set_5 (by decide) (fun c_2 => ?_) (fun c_2 => ?_)
    · refine lv_iload_n hx hb dX1_set_12 rfl (lv_at hl 2 rfl) ?_
      refine lv_if_lt (tgt := 22) hx hb dX1_set_13 (by decide) (fun c_3 => ?_) (fun c_3 => ?_)
      · refine lv_iconst (v := 2) hx hb dX1_set_22 (by decide) ?_
        refine lv_goto (tgt := 27) hx hb dX1_set_23 (by decide) ?_
        exact W.eq (by rw [if_pos c_2, if_pos c_3] <;> (repeat (first | rw [if_pos c_2] | rw [if_pos c_3]))) hJ_1
      · refine lv_iload_n hx hb dX1_set_16 rfl (lv_at hl 2 rfl) ?_
        refine lv_ldc (v := 65535) hx hb hown (hts (.constant RX1 27 65535) (by decide +kernel)) dX1_set_17 ?_
        refine lv_icmp_le (tgt := 26) hx hb dX1_set_19 (by decide) (fun c_4 => ?_) (fun c_4 => ?_)
        · refine lv_iconst (v := 0) hx hb dX1_set_26 (by decide) ?_
          exact W.eq (by rw [if_pos c_2, if_neg c_3, if_pos c_4] <;> (repeat (first | rw [if_pos c_2] | rw [if_neg c_3] | rw [if_pos c_4]))) hJ_1
        · refine lv_iconst (v := 2) hx hb dX1_set_22 (by decide) ?_
          refine lv_goto (tgt := 27) hx hb dX1_set_23 (by decide) ?_
          exact W.eq (by rw [if_pos c_2, if_neg c_3, if_neg c_4] <;> (repeat (first | rw [if_pos c_2] | rw [if_neg c_3] | rw [if_neg c_4]))) hJ_1
    · refine lv_iconst (v := 1) hx hb dX1_set_8 (by decide) ?_
      refine lv_goto (tgt := 27) hx hb dX1_set_9 (by decide) ?_
      exact W.eq (by rw [if_neg c_2] <;> (repeat (first | rw [if_neg c_2]))) hJ_1
def f_X1_last (tp : Nat → Int32) (fr : Nat → Int64) (bi : Nat → Int32) (cd : Int32) (ct : Int32) (wt : Int32) (fi : Int32) (mn : Int32) (wh : Int64) (fu : Int32) (tl : Int32) (gr : Int32) (sd : Int32) (mt : Int32) (mf : Int64) (a1 : Int32) : Int32 × MS :=
  ((if ((if a1 < 0 then 1 else (if a1 ≤ 2 then 0 else 1)) : Int32) ≤ 0 then (if a1 = 0 then tl else (if a1 = 1 then gr else sd)) else 0), (tp, fr, bi, (if a1 < 0 then 1 else (if a1 ≤ 2 then 0 else 1)), ct, wt, fi, mn, wh, fu, tl, gr, sd, mt, mf))
set_option maxHeartbeats 1000000 in
set_option maxRecDepth 100000 in
theorem c_X1_last (l : Launch) (dC : Nat → ClassId) (dI : Nat → Nat → Nat) (cA cB cC : ClassId) (h0 pt pf pb : Nat) (sz : Nat) (tp : Nat → Int32) (fr : Nat → Int64) (bi : Nat → Int32) (cd : Int32) (ct : Int32) (wt : Int32) (fi : Int32) (mn : Int32) (wh : Int64) (fu : Int32) (tl : Int32) (gr : Int32) (sd : Int32) (mt : Int32) (mf : Int64) (a1 : Int32) : Met l yX1_last wsX1_last ({ frames := 0, cells := 0, slots := 0, locals := 0 }) (wr_Pc (dC, dI) (m_W cA cB cC h0 pt pf pb tp fr bi cd ct wt fi mn wh fu tl gr sd mt mf) (m_T cA cB cC) sz [.ref h0, .int a1]) (wr_Qi (dC, dI) (m_WU cA cB cC h0 pt pf pb) (f_X1_last tp fr bi cd ct wt fi mn wh fu tl gr sd mt mf a1) (va_A (m_W cA cB cC h0 pt pf pb tp fr bi cd ct wt fi mn wh fu tl gr sd mt mf) sz)) 0 0 (va_A (m_W cA cB cC h0 pt pf pb tp fr bi cd ct wt fi mn wh fu tl gr sd mt mf) sz) := by
  refine Met.ofW (cc := cX1_last) (maxL := 2) (ret := (some .int)) (by decide) rfl ?_
  intro p e s m args below meth c s₁ B hml hv
  obtain ⟨rfl, hsz, hP, hK, hD0⟩ := hv
  have hx := B.exec
  have hb := B.bytes
  have hr := B.returns
  have hts := atoms_spec (ws := wsX1_last) B.pre
  have hown : s.vm.findClass RX1 = some m.cls := findClass_of_methodNamed B.named
  have hlocks := B.notSynchronized
  have hin_X1 : ∀ w ∈ u_ws RX1 TX1 15, w ∈ wsX1_last := by decide +kernel
  subst hsz
  have hD := hD0.self (sz := s.heap.size)
  generalize hAe : va_A (m_W cA cB cC h0 pt pf pb tp fr bi cd ct wt fi mn wh fu tl gr sd mt mf) s.heap.size = A at hD ⊢
  have hA : ∀ q : Nat, s.heap.size ≤ q → A q := fun q h => by rw [← hAe]; exact Or.inr h
  have hS : va_S A s.heap s.heap [] := va_S.rf
  have hD : va_D A [(h0, .inr (1, [.int cd, .int ct, .ref pt, .ref pf, .ref pb, .int wt, .int fi, .int mn, .long wh, .int fu, .int tl, .int gr, .int sd, .int mt, .long mf])), (pt, .inl (cA, 8, .inl tp)), (pf, .inl (cB, 8, .inr (.inl fr))), (pb, .inl (cC, 129, .inl bi))] := hD
  have hP : va_P (dC, dI) vwCl [(h0, .inr (1, [.int cd, .int ct, .ref pt, .ref pf, .ref pb, .int wt, .int fi, .int mn, .long wh, .int fu, .int tl, .int gr, .int sd, .int mt, .long mf])), (pt, .inl (cA, 8, .inl tp)), (pf, .inl (cB, 8, .inr (.inl fr))), (pb, .inl (cC, 129, .inl bi))] s.heap := hP
  have hl := lv_entry ([.ref h0, .int a1]) (n := 2) (Nat.le_of_ble_eq_true rfl)
  rw [lg_entry_eq]
  generalize (lg_sl ([.ref h0, .int a1]) ++ List.replicate (2 - (lg_sl ([.ref h0, .int a1])).length) Slot.unset).toArray = ls at hl ⊢
  have hl : lv_has ls 2 [(0, .ref h0), (1, .int a1)] := hl
  refine lv_aload_n hx hb dX1_last_0 rfl (lv_at hl 0 rfl) ?_
  refine lv_iload_n hx hb dX1_last_1 rfl (lv_at hl 1 rfl) ?_
  refine w_join (F0 m 15 ls (.int (if a1 < 0 then 1 else (if a1 ≤ 2 then 0 else 1)) :: [.ref h0])) ?_ (fun hJ_1 => ?_)
  · refine va_put (D := (dC, dI)) (ci := 1) (v := .int (if a1 < 0 then 1 else (if a1 ≤ 2 then 0 else 1))) (ty := .int) (C := RX1) (T := TX1) (N := 15) hx hb hts hin_X1 tyX1 tyX1_ok nmX1 hown hK hP hD hS 0 rfl rfl 0 (by decide) (hts (.fieldLink RX1 24 "TemporaryRealsModel" "code" "I") (by decide +kernel)) (fun _ h9 => h9) rfl (by decide +kernel) rfl rfl (Nat.le_of_ble_eq_true rfl) dX1_last_15 (fun H locs hP hD hS => ?_)
    have hP : va_P (dC, dI) vwCl [(h0, .inr (1, [.int (if a1 < 0 then 1 else (if a1 ≤ 2 then 0 else 1)), .int ct, .ref pt, .ref pf, .ref pb, .int wt, .int fi, .int mn, .long wh, .int fu, .int tl, .int gr, .int sd, .int mt, .long mf])), (pt, .inl (cA, 8, .inl tp)), (pf, .inl (cB, 8, .inr (.inl fr))), (pb, .inl (cC, 129, .inl bi))] H := hP
    have hD : va_D A [(h0, .inr (1, [.int (if a1 < 0 then 1 else (if a1 ≤ 2 then 0 else 1)), .int ct, .ref pt, .ref pf, .ref pb, .int wt, .int fi, .int mn, .long wh, .int fu, .int tl, .int gr, .int sd, .int mt, .long mf])), (pt, .inl (cA, 8, .inl tp)), (pf, .inl (cB, 8, .inr (.inl fr))), (pb, .inl (cC, 129, .inl bi))] := hD
    refine lv_aload_n hx hb dX1_last_18 rfl (lv_at hl 0 rfl) ?_
    refine va_get (D := (dC, dI)) (ci := 1) (v := .int (if a1 < 0 then 1 else (if a1 ≤ 2 then 0 else 1))) (C := RX1) (T := TX1) (N := 15) hx hb hts hin_X1 hown hK hP 0 rfl rfl 0 (by decide) (hts (.fieldLink RX1 24 "TemporaryRealsModel" "code" "I") (by decide +kernel)) (fun _ h9 => h9) rfl dX1_last_19 ?_
    refine w_join (F0 m 56 ls (.int (if ((if a1 < 0 then 1 else (if a1 ≤ 2 then 0 else 1)) : Int32) ≤ 0 then (if a1 = 0 then tl else (if a1 = 1 then gr else sd)) else 0) :: [])) ?_ (fun hJ_4 => ?_)
    · exact W.iret (v := (if ((if a1 < 0 then 1 else (if a1 ≤ 2 then 0 else 1)) : Int32) ≤ 0 then (if a1 = 0 then tl else (if a1 = 1 then gr else sd)) else 0)) hx hb hr (fun t ht hW => ⟨⟨(if ((if a1 < 0 then 1 else (if a1 ≤ 2 then 0 else 1)) : Int32) ≤ 0 then (if a1 = 0 then tl else (if a1 = 1 then gr else sd)) else 0), (tp, fr, bi, (if a1 < 0 then 1 else (if a1 ≤ 2 then 0 else 1)), ct, wt, fi, mn, wh, fu, tl, gr, sd, mt, mf), rfl, (show (f_X1_last tp fr bi cd ct wt fi mn wh fu tl gr sd mt mf a1) = (((if ((if a1 < 0 then 1 else (if a1 ≤ 2 then 0 else 1)) : Int32) ≤ 0 then (if a1 = 0 then tl else (if a1 = 1 then gr else sd)) else 0), (tp, fr, bi, (if a1 < 0 then 1 else (if a1 ≤ 2 then 0 else 1)), ct, wt, fi, mn, wh, fu, tl, gr, sd, mt, mf)) : Int32 × MS) from by unfold f_X1_last; rfl).symm, by rw [ht, m_WU_mk]; exact hP, by rw [m_WU_mk]; exact hD⟩, hS.F ht⟩) hS.2.2 dX1_last_56
    · refine lv_if_le (tgt := 29) hx hb dX1_last_22 (by decide) (fun c_5 => ?_) (fun c_5 => ?_)
      · refine lv_iload_n hx hb dX1_last_29 rfl (lv_at hl 1 rfl) ?_
        refine lv_if_ne (tgt := 40) hx hb dX1_last_30 (by decide) (fun c_6 => ?_) (fun c_6 => ?_)
        · refine lv_iload_n hx hb dX1_last_40 rfl (lv_at hl 1 rfl) ?_
          refine lv_iconst (v := 1) hx hb dX1_last_41 (by decide) ?_
          refine lv_icmp_ne (tgt := 52) hx hb dX1_last_42 (by decide) (fun c_7 => ?_) (fun c_7 => ?_)
          · refine lv_aload_n hx hb dX1_last_52 rfl (lv_at hl 0 rfl) ?_
            refine va_get (D := (dC, dI)) (ci := 1) (v := .int sd) (C := RX1) (T := TX1) (N := 15) hx hb hts hin_X1 hown hK hP 0 rfl rfl 12 (by decide) (hts (.fieldLink RX1 59 "TemporaryRealsModel" "side" "I") (by decide +kernel)) (fun _ h9 => h9) rfl dX1_last_53 ?_
            exact W.eq (by rw [if_pos c_5, if_neg c_6, if_neg c_7] <;> (repeat (first | rw [if_pos c_5] | rw [if_neg c_6] | rw [if_neg c_7]))) hJ_4
          · refine lv_aload_n hx hb dX1_last_45 rfl (lv_at hl 0 rfl) ?_
            refine va_get (D := (dC, dI)) (ci := 1) (v := .int gr) (C := RX1) (T := TX1) (N := 15) hx hb hts hin_X1 hown hK hP 0 rfl rfl 11 (by decide) (hts (.fieldLink RX1 76 "TemporaryRealsModel" "greatest" "I") (by decide +kernel)) (fun _ h9 => h9) rfl dX1_last_46 ?_
            refine lv_goto (tgt := 56) hx hb dX1_last_49 (by decide) ?_
            exact W.eq (by rw [if_pos c_5, if_neg c_6, if_pos c_7] <;> (repeat (first | rw [if_pos c_5] | rw [if_neg c_6] | rw [if_pos c_7]))) hJ_4
        · refine lv_aload_n hx hb dX1_last_33 rfl (lv_at hl 0 rfl) ?_
          refine va_get (D := (dC, dI)) (ci := 1) (v := .int tl) (C := RX1) (T := TX1) (N := 15) hx hb hts hin_X1 hown hK hP 0 rfl rfl 10 (by decide) (hts (.fieldLink RX1 73 "TemporaryRealsModel" "told" "I") (by decide +kernel)) (fun _ h9 => h9) rfl dX1_last_34 ?_
          refine lv_goto (tgt := 56) hx hb dX1_last_37 (by decide) ?_
          exact W.eq (by rw [if_pos c_5, if_pos c_6] <;> (repeat (first | rw [if_pos c_5] | rw [if_pos c_6]))) hJ_4
      · refine lv_iconst (v := 0) hx hb dX1_last_25 (by decide) ?_
        refine lv_goto (tgt := 56) hx hb dX1_last_26 (by decide) ?_
        exact W.eq (by rw [if_neg c_5] <;> (repeat (first | rw [if_neg c_5]))) hJ_4
  · refine lv_if_lt (tgt := 10) hx hb dX1_last_2 (by decide) (fun c_2 => ?_) (fun c_2 => ?_)
    · refine lv_iconst (v := 1) hx hb dX1_last_10 (by decide) ?_
      refine lv_goto (tgt := 15) hx hb dX1_last_11 (by decide) ?_
      exact W.eq (by rw [if_pos c_2] <;> (repeat (first | rw [if_pos c_2]))) hJ_1
    · refine lv_iload_n hx hb dX1_last_5 rfl (lv_at hl 1 rfl) ?_
      refine lv_iconst (v := 2) hx hb dX1_last_6 (by decide) ?_
      refine lv_icmp_le (tgt := 14) hx hb dX1_last_7 (by decide) (fun c_3 => ?_) (fun c_3 => ?_)
      · refine lv_iconst (v := 0) hx hb dX1_last_14 (by decide) ?_
        exact W.eq (by rw [if_neg c_2, if_pos c_3] <;> (repeat (first | rw [if_neg c_2] | rw [if_pos c_3]))) hJ_1
      · refine lv_iconst (v := 1) hx hb dX1_last_10 (by decide) ?_
        refine lv_goto (tgt := 15) hx hb dX1_last_11 (by decide) ?_
        exact W.eq (by rw [if_neg c_2, if_neg c_3] <;> (repeat (first | rw [if_neg c_2] | rw [if_neg c_3]))) hJ_1
