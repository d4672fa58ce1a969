def f_X0_isNegative (ft : Nat → Int32) (a1 : Int32) : Int32 :=
  (if ((ft a1.toNatClampNeg) &&& 32768) = 0 then 0 else 1)
theorem nb_X0_isNegative (ft : Nat → Int32) (a1 : Int32) : narrow .boolean (.int (f_X0_isNegative ft a1)) = .int (f_X0_isNegative ft a1) := by
  unfold f_X0_isNegative
  (repeat' split) <;> first | rfl
set_option maxHeartbeats 1000000 in
set_option maxRecDepth 100000 in
theorem c_X0_isNegative (l : Launch) (dC : Nat → ClassId) (dI : Nat → Nat → Nat) (cI cL : ClassId) (h0 qt qf : Nat) (ft : Nat → Int32) (ff : Nat → Int64) (w : Int32) (lt : Int32) (lk : Int32) (lc : Int32) (a1 : Int32) (hr1 : vp_in a1 8) : Met l yX0_isNegative wsX0_isNegative ({ frames := 0, cells := 0, slots := 0, locals := 0 }) (rd_Pc (dC, dI) (x_W cI cL h0 qt qf ft ff w lt lk lc) (x_T cI cL) [.ref h0, .int a1]) (k2_QcV (.int (f_X0_isNegative ft a1))) 0 0 (fun _ => False) := by
  refine Met.ofW (cc := cX0_isNegative) (maxL := 2) (ret := (some .boolean)) (by decide) rfl ?_
  intro p e s m args below meth c s₁ B hml hv
  obtain ⟨rfl, hP, hK⟩ := hv
  have hx := B.exec
  have hb := B.bytes
  have hr := B.returns
  have hts := atoms_spec (ws := wsX0_isNegative) B.pre
  have hown : s.vm.findClass RX0 = some m.cls := findClass_of_methodNamed B.named
  have hlocks := B.notSynchronized
  have hin_X0 : ∀ w ∈ u_ws RX0 TX0 6, w ∈ wsX0_isNegative := by decide +kernel
  have hP : va_P (dC, dI) vwCl [(h0, .inr (0, [.ref qt, .ref qf, .int w, .int lt, .int lk, .int lc])), (qt, .inl (cI, 8, .inl ft)), (qf, .inl (cL, 8, .inr (.inl ff)))] s.heap := hP
  have hl := lv_entry ([.ref h0, .int a1]) (n := 2) (Nat.le_of_ble_eq_true rfl)
  rw [lg_entry_eq]
  generalize (lg_sl ([.ref h0, .int a1]) ++ List.replicate (2 - (lg_sl ([.ref h0, .int a1])).length) Slot.unset).toArray = ls at hl ⊢
  have hl : lv_has ls 2 [(0, .ref h0), (1, .int a1)] := hl
  refine lv_aload_n hx hb dX0_isNegative_0 rfl (lv_at hl 0 rfl) ?_
  refine va_get (D := (dC, dI)) (ci := 0) (v := .ref qt) (C := RX0) (T := TX0) (N := 6) hx hb hts hin_X0 hown hK hP 0 rfl rfl 0 (by decide) (hts (.fieldLink RX0 9 "TemporaryReals" "tops" "[I") (by decide +kernel)) (fun _ h9 => h9) rfl dX0_isNegative_1 ?_
  refine lv_iload_n hx hb dX0_isNegative_4 rfl (lv_at hl 1 rfl) ?_
  refine va_iald hx hb hK hP 1 0 rfl rfl (by first | assumption | exact x_reg (by assumption) | exact x_regA (by assumption) | exact x_regB (by assumption)) dX0_isNegative_5 ?_
  refine lv_ldc (v := 32768) hx hb hown (hts (.constant RX0 129 32768) (by decide +kernel)) dX0_isNegative_6 ?_
  refine lv_iand hx hb dX0_isNegative_8 ?_
  refine w_join (F0 m 17 ls (.int (if ((ft a1.toNatClampNeg) &&& 32768) = 0 then 0 else 1) :: [])) ?_ (fun hJ_1 => ?_)
  · refine w_asi (y := (f_X0_isNegative ft a1)) (by unfold f_X0_isNegative; rfl) ?_
    exact W.zret (v := (f_X0_isNegative ft a1)) (ty := .boolean) hx hb hr (nb_X0_isNegative ..) (fun t ht _ => ⟨rfl, ht⟩) (fun _ h => nomatch h) dX0_isNegative_17
  · refine lv_if_eq (tgt := 16) hx hb dX0_isNegative_9 (by decide) (fun c_2 => ?_) (fun c_2 => ?_)
    · refine lv_iconst (v := 0) hx hb dX0_isNegative_16 (by decide) ?_
      exact W.eq (by rw [if_pos c_2] <;> (repeat (first | rw [if_pos c_2]))) hJ_1
    · refine lv_iconst (v := 1) hx hb dX0_isNegative_12 (by decide) ?_
      refine lv_goto (tgt := 17) hx hb dX0_isNegative_13 (by decide) ?_
      exact W.eq (by rw [if_neg c_2] <;> (repeat (first | rw [if_neg c_2]))) hJ_1
def f_X0_powerOf (ft : Nat → Int32) (a1 : Int32) : Int32 :=
  ((ft a1.toNatClampNeg) &&& 32767)
set_option maxHeartbeats 1000000 in
set_option maxRecDepth 100000 in
theorem c_X0_powerOf (l : Launch) (dC : Nat → ClassId) (dI : Nat → Nat → Nat) (cI cL : ClassId) (h0 qt qf : Nat) (ft : Nat → Int32) (ff : Nat → Int64) (w : Int32) (lt : Int32) (lk : Int32) (lc : Int32) (a1 : Int32) (hr1 : vp_in a1 8) : Met l yX0_powerOf wsX0_powerOf ({ frames := 0, cells := 0, slots := 0, locals := 0 }) (rd_Pc (dC, dI) (x_W cI cL h0 qt qf ft ff w lt lk lc) (x_T cI cL) [.ref h0, .int a1]) (k2_QcV (.int (f_X0_powerOf ft a1))) 0 0 (fun _ => False) := by
  refine Met.ofW (cc := cX0_powerOf) (maxL := 2) (ret := (some .int)) (by decide) rfl ?_
  intro p e s m args below meth c s₁ B hml hv
  obtain ⟨rfl, hP, hK⟩ := hv
  have hx := B.exec
  have hb := B.bytes
  have hr := B.returns
  have hts := atoms_spec (ws := wsX0_powerOf) B.pre
  have hown : s.vm.findClass RX0 = some m.cls := findClass_of_methodNamed B.named
  have hlocks := B.notSynchronized
  have hin_X0 : ∀ w ∈ u_ws RX0 TX0 6, w ∈ wsX0_powerOf := by decide +kernel
  have hP : va_P (dC, dI) vwCl [(h0, .inr (0, [.ref qt, .ref qf, .int w, .int lt, .int lk, .int lc])), (qt, .inl (cI, 8, .inl ft)), (qf, .inl (cL, 8, .inr (.inl ff)))] s.heap := hP
  have hl := lv_entry ([.ref h0, .int a1]) (n := 2) (Nat.le_of_ble_eq_true rfl)
  rw [lg_entry_eq]
  generalize (lg_sl ([.ref h0, .int a1]) ++ List.replicate (2 - (lg_sl ([.ref h0, .int a1])).length) Slot.unset).toArray = ls at hl ⊢
  have hl : lv_has ls 2 [(0, .ref h0), (1, .int a1)] := hl
  refine lv_aload_n hx hb dX0_powerOf_0 rfl (lv_at hl 0 rfl) ?_
  refine va_get (D := (dC, dI)) (ci := 0) (v := .ref qt) (C := RX0) (T := TX0) (N := 6) hx hb hts hin_X0 hown hK hP 0 rfl rfl 0 (by decide) (hts (.fieldLink RX0 9 "TemporaryReals" "tops" "[I") (by decide +kernel)) (fun _ h9 => h9) rfl dX0_powerOf_1 ?_
  refine lv_iload_n hx hb dX0_powerOf_4 rfl (lv_at hl 1 rfl) ?_
  refine va_iald hx hb hK hP 1 0 rfl rfl (by first | assumption | exact x_reg (by assumption) | exact x_regA (by assumption) | exact x_regB (by assumption)) dX0_powerOf_5 ?_
  refine lv_sipush (v := 32767) hx hb dX0_powerOf_6 (by decide) ?_
  refine lv_iand hx hb dX0_powerOf_9 ?_
  refine w_asi (y := (f_X0_powerOf ft a1)) (by unfold f_X0_powerOf; rfl) ?_
  exact W.iret (v := (f_X0_powerOf ft a1)) hx hb hr (fun t ht _ => ⟨rfl, ht⟩) (fun _ h => nomatch h) dX0_powerOf_10
def f_X0_kindOf (ft : Nat → Int32) (ff : Nat → Int64) (a1 : Int32) : Int32 :=
  if (f_X0_powerOf ft a1) = 32767 then
    (if (lg_cmp ((ff a1.toNatClampNeg) &&& 9223372036854775807) 0) = 0 then 4 else 5)
  else
    if (f_X0_powerOf ft a1) = 0 then
      (if (lg_cmp (ff a1.toNatClampNeg) 0) = 0 then 0 else 1)
    else
      (if 0 ≤ (lg_cmp (ff a1.toNatClampNeg) 0) then 2 else 3)
set_option maxHeartbeats 1000000 in
set_option maxRecDepth 100000 in
theorem c_X0_kindOf (l : Launch) (dC : Nat → ClassId) (dI : Nat → Nat → Nat) (cI cL : ClassId) (h0 qt qf : Nat) (ft : Nat → Int32) (ff : Nat → Int64) (w : Int32) (lt : Int32) (lk : Int32) (lc : Int32) (a1 : Int32) (hr1 : vp_in a1 8) : Met l yX0_kindOf wsX0_kindOf ({ frames := 1, cells := 0, slots := 0, locals := 21 }) (rd_Pc (dC, dI) (x_W cI cL h0 qt qf ft ff w lt lk lc) (x_T cI cL) [.ref h0, .int a1]) (k2_QcV (.int (f_X0_kindOf ft ff a1))) 0 0 (fun _ => False) := by
  refine Met.ofW (cc := cX0_kindOf) (maxL := 5) (ret := (some .int)) (by decide) rfl ?_
  intro p e s m args below meth c s₁ B hml hv
  obtain ⟨rfl, hP, hK⟩ := hv
  have hx := B.exec
  have hb := B.bytes
  have hr := B.returns
  have hts := atoms_spec (ws := wsX0_kindOf) B.pre
  have hown : s.vm.findClass RX0 = some m.cls := findClass_of_methodNamed B.named
  have hlocks := B.notSynchronized
  have hin_X0 : ∀ w ∈ u_ws RX0 TX0 6, w ∈ wsX0_kindOf := by decide +kernel
  have hP : va_P (dC, dI) vwCl [(h0, .inr (0, [.ref qt, .ref qf, .int w, .int lt, .int lk, .int lc])), (qt, .inl (cI, 8, .inl ft)), (qf, .inl (cL, 8, .inr (.inl ff)))] s.heap := hP
  have hl := lv_entry ([.ref h0, .int a1]) (n := 5) (Nat.le_of_ble_eq_true rfl)
  rw [lg_entry_eq]
  generalize (lg_sl ([.ref h0, .int a1]) ++ List.replicate (5 - (lg_sl ([.ref h0, .int a1])).length) Slot.unset).toArray = ls at hl ⊢
  have hl : lv_has ls 5 [(0, .ref h0), (1, .int a1)] := hl
  refine lv_aload_n hx hb dX0_kindOf_0 rfl (lv_at hl 0 rfl) ?_
  refine lv_iload_n hx hb dX0_kindOf_1 rfl (lv_at hl 1 rfl) ?_
  refine W.callV (r := .int (f_X0_powerOf ft a1)) (W.runV (As := [.int a1]) (rest := []) ⟨hx, hb, hml, hown, hts⟩ (c_X0_powerOf l dC dI cI cL h0 qt qf ft ff w lt lk lc a1 (by first | assumption | exact x_reg (by assumption) | exact x_regA (by assumption) | exact x_regB (by assumption))) (cwV 1 hts gX0_kindOf_X0_powerOf rfl rfl rfl (by decide +kernel) ⟨Nat.le_of_ble_eq_true rfl, Nat.le_of_ble_eq_true rfl⟩) (rd_preV hK hP rfl rfl) rfl rfl hl.1 rfl (lv_room (Nat.le_of_ble_eq_true rfl)) dX0_kindOf_2 ⟨Nat.zero_le _, Nat.zero_le _⟩) ?_
  refine W.eq (g2 := F0 m 5 ls ([.int (f_X0_powerOf ft a1)])) rfl ?_
  refine lv_istore_n (lv' := [(2, .int (f_X0_powerOf ft a1)), (0, .ref h0), (1, .int a1)]) hx hb dX0_kindOf_5 rfl hl (by decide) rfl (fun ls hl => ?_)
  refine lv_aload_n hx hb dX0_kindOf_6 rfl (lv_at hl 1 rfl) ?_
  refine va_get (D := (dC, dI)) (ci := 0) (v := .ref qf) (C := RX0) (T := TX0) (N := 6) hx hb hts hin_X0 hown hK hP 0 rfl rfl 1 (by decide) (hts (.fieldLink RX0 13 "TemporaryReals" "fractions" "[J") (by decide +kernel)) (fun _ h9 => h9) rfl dX0_kindOf_7 ?_
  refine lv_iload_n hx hb dX0_kindOf_10 rfl (lv_at hl 2 rfl) ?_
  refine va_lald hx hb hK hP 2 1 rfl rfl (by first | assumption | exact x_reg (by assumption) | exact x_regA (by assumption) | exact x_regB (by assumption)) dX0_kindOf_11 ?_
  refine lv_lstore_n (lv' := [(3, .long (ff a1.toNatClampNeg)), (2, .int (f_X0_powerOf ft a1)), (0, .ref h0), (1, .int a1)]) hx hb dX0_kindOf_12 rfl hl (by decide) rfl (fun ls hl => ?_)
  refine lv_iload_n hx hb dX0_kindOf_13 rfl (lv_at hl 1 rfl) ?_
  refine lv_sipush (v := 32767) hx hb dX0_kindOf_14 (by decide) ?_
  refine lv_icmp_ne (tgt := 36) hx hb dX0_kindOf_17 (by decide) (fun c_1 => ?_) (fun c_1 => ?_)
  · refine lv_iload_n hx hb dX0_kindOf_36 rfl (lv_at hl 1 rfl) ?_
    refine lv_if_ne (tgt := 52) hx hb dX0_kindOf_37 (by decide) (fun c_2 => ?_) (fun c_2 => ?_)
    · refine lv_lload_n hx hb dX0_kindOf_52 rfl (lv_at hl 0 rfl) ?_
      refine lv_lconst (v := 0) hx hb dX0_kindOf_53 (by decide) ?_
      refine W.lcmp hx hb dX0_kindOf_54 ?_
      refine w_join (F0 m 63 ls (.int (if 0 ≤ (lg_cmp (ff a1.toNatClampNeg) 0) then 2 else 3) :: [])) ?_ (fun hJ_3 => ?_)
      · refine w_asi (y := (f_X0_kindOf ft ff a1)) (by unfold f_X0_kindOf; rw [if_neg c_1, if_neg c_2]) ?_
        exact W.iret (v := (f_X0_kindOf ft ff a1)) hx hb hr (fun t ht _ => ⟨rfl, ht⟩) (fun _ h => nomatch h) dX0_kindOf_63
      · refine lv_if_ge (tgt := 62) hx hb dX0_kindOf_55 (by decide) (fun c_4 => ?_) (fun c_4 => ?_)
        · refine lv_iconst (v := 2) hx hb dX0_kindOf_62 (by decide) ?_
          exact W.eq (by rw [if_pos c_4] <;> (repeat (first | rw [if_pos c_4]))) hJ_3
        · refine lv_iconst (v := 3) hx hb dX0_kindOf_58 (by decide) ?_
          refine lv_goto (tgt := 63) hx hb dX0_kindOf_59 (by decide) ?_
          exact W.eq (by rw [if_neg c_4] <;> (repeat (first | rw [if_neg c_4]))) hJ_3
    · refine lv_lload_n hx hb dX0_kindOf_40 rfl (lv_at hl 0 rfl) ?_
      refine lv_lconst (v := 0) hx hb dX0_kindOf_41 (by decide) ?_
      refine W.lcmp hx hb dX0_kindOf_42 ?_
      refine w_join (F0 m 51 ls (.int (if (lg_cmp (ff a1.toNatClampNeg) 0) = 0 then 0 else 1) :: [])) ?_ (fun hJ_5 => ?_)
      · refine w_asi (y := (f_X0_kindOf ft ff a1)) (by unfold f_X0_kindOf; rw [if_neg c_1, if_pos c_2]) ?_
        exact W.iret (v := (f_X0_kindOf ft ff a1)) hx hb hr (fun t ht _ => ⟨rfl, ht⟩) (fun _ h => nomatch h) dX0_kindOf_51
      · refine lv_if_ne (tgt := 50) hx hb dX0_kindOf_43 (by decide) (fun c_6 => ?_) (fun c_6 => ?_)
        · refine lv_iconst (v := 1) hx hb dX0_kindOf_50 (by decide) ?_
          exact W.eq (by rw [if_neg c_6] <;> (repeat (first | rw [if_neg c_6]))) hJ_5
        · refine lv_iconst (v := 0) hx hb dX0_kindOf_46 (by decide) ?_
          refine lv_goto (tgt := 51) hx hb dX0_kindOf_47 (by decide) ?_
          exact W.eq (by rw [if_pos c_6] <;> (repeat (first | rw [if_pos c_6]))) hJ_5
  · refine lv_lload_n hx hb dX0_kindOf_20 rfl (lv_at hl 0 rfl) ?_
    refine lv_ldc2 (v := 9223372036854775807) hx hb hown (hts (.constantLong RX0 130 9223372036854775807) (by decide +kernel)) dX0_kindOf_21 ?_
    refine lv_land hx hb dX0_kindOf_24 ?_
    refine lv_lconst (v := 0) hx hb dX0_kindOf_25 (by decide) ?_
    refine W.lcmp hx hb dX0_kindOf_26 ?_
    refine w_join (F0 m 35 ls (.int (if (lg_cmp ((ff a1.toNatClampNeg) &&& 9223372036854775807) 0) = 0 then 4 else 5) :: [])) ?_ (fun hJ_7 => ?_)
    · refine w_asi (y := (f_X0_kindOf ft ff a1)) (by unfold f_X0_kindOf; rw [if_pos c_1]) ?_
      exact W.iret (v := (f_X0_kindOf ft ff a1)) hx hb hr (fun t ht _ => ⟨rfl, ht⟩) (fun _ h => nomatch h) dX0_kindOf_35
    · refine lv_if_ne (tgt := 34) hx hb dX0_kindOf_27 (by decide) (fun c_8 => ?_) (fun c_8 => ?_)
      · refine lv_iconst (v := 5) hx hb dX0_kindOf_34 (by decide) ?_
        exact W.eq (by rw [if_neg c_8] <;> (repeat (first | rw [if_neg c_8]))) hJ_7
      · refine lv_iconst (v := 4) hx hb dX0_kindOf_30 (by decide) ?_
        refine lv_goto (tgt := 35) hx hb dX0_kindOf_31 (by decide) ?_
        exact W.eq (by rw [if_pos c_8] <;> (repeat (first | rw [if_pos c_8]))) hJ_7
def f_X0_isMasked (w : Int32) (a1 : Int32) : Int32 :=
  (if (w &&& a1) = 0 then 0 else 1)
theorem nb_X0_isMasked (w : Int32) (a1 : Int32) : narrow .boolean (.int (f_X0_isMasked w a1)) = .int (f_X0_isMasked w a1) := by
  unfold f_X0_isMasked
  (repeat' split) <;> first | rfl
set_option maxHeartbeats 1000000 in
set_option maxRecDepth 100000 in
theorem c_X0_isMasked (l : Launch) (dC : Nat → ClassId) (dI : Nat → Nat → Nat) (cI cL : ClassId) (h0 qt qf : Nat) (ft : Nat → Int32) (ff : Nat → Int64) (w : Int32) (lt : Int32) (lk : Int32) (lc : Int32) (a1 : Int32) : Met l yX0_isMasked wsX0_isMasked ({ frames := 0, cells := 0, slots := 0, locals := 0 }) (rd_Pc (dC, dI) (x_W cI cL h0 qt qf ft ff w lt lk lc) (x_T cI cL) [.ref h0, .int a1]) (k2_QcV (.int (f_X0_isMasked w a1))) 0 0 (fun _ => False) := by
  refine Met.ofW (cc := cX0_isMasked) (maxL := 2) (ret := (some .boolean)) (by decide) rfl ?_
  intro p e s m args below meth c s₁ B hml hv
  obtain ⟨rfl, hP, hK⟩ := hv
  have hx := B.exec
  have hb := B.bytes
  have hr := B.returns
  have hts := atoms_spec (ws := wsX0_isMasked) B.pre
  have hown : s.vm.findClass RX0 = some m.cls := findClass_of_methodNamed B.named
  have hlocks := B.notSynchronized
  have hin_X0 : ∀ w ∈ u_ws RX0 TX0 6, w ∈ wsX0_isMasked := by decide +kernel
  have hP : va_P (dC, dI) vwCl [(h0, .inr (0, [.ref qt, .ref qf, .int w, .int lt, .int lk, .int lc])), (qt, .inl (cI, 8, .inl ft)), (qf, .inl (cL, 8, .inr (.inl ff)))] s.heap := hP
  have hl := lv_entry ([.ref h0, .int a1]) (n := 2) (Nat.le_of_ble_eq_true rfl)
  rw [lg_entry_eq]
  generalize (lg_sl ([.ref h0, .int a1]) ++ List.replicate (2 - (lg_sl ([.ref h0, .int a1])).length) Slot.unset).toArray = ls at hl ⊢
  have hl : lv_has ls 2 [(0, .ref h0), (1, .int a1)] := hl
  refine lv_aload_n hx hb dX0_isMasked_0 rfl (lv_at hl 0 rfl) ?_
  refine va_get (D := (dC, dI)) (ci := 0) (v := .int w) (C := RX0) (T := TX0) (N := 6) hx hb hts hin_X0 hown hK hP 0 rfl rfl 2 (by decide) (hts (.fieldLink RX0 17 "TemporaryReals" "word" "I") (by decide +kernel)) (fun _ h9 => h9) rfl dX0_isMasked_1 ?_
  refine lv_iload_n hx hb dX0_isMasked_4 rfl (lv_at hl 1 rfl) ?_
  refine lv_iand hx hb dX0_isMasked_5 ?_
  refine w_join (F0 m 14 ls (.int (if (w &&& a1) = 0 then 0 else 1) :: [])) ?_ (fun hJ_1 => ?_)
  · refine w_asi (y := (f_X0_isMasked w a1)) (by unfold f_X0_isMasked; rfl) ?_
    exact W.zret (v := (f_X0_isMasked w a1)) (ty := .boolean) hx hb hr (nb_X0_isMasked ..) (fun t ht _ => ⟨rfl, ht⟩) (fun _ h => nomatch h) dX0_isMasked_14
  · refine lv_if_eq (tgt := 13) hx hb dX0_isMasked_6 (by decide) (fun c_2 => ?_) (fun c_2 => ?_)
    · refine lv_iconst (v := 0) hx hb dX0_isMasked_13 (by decide) ?_
      exact W.eq (by rw [if_pos c_2] <;> (repeat (first | rw [if_pos c_2]))) hJ_1
    · refine lv_iconst (v := 1) hx hb dX0_isMasked_9 (by decide) ?_
      refine lv_goto (tgt := 14) hx hb dX0_isMasked_10 (by decide) ?_
      exact W.eq (by rw [if_neg c_2] <;> (repeat (first | rw [if_neg c_2]))) hJ_1
def f_X0_digits (w : Int32) : Int32 :=
  if ((w >>> (8 &&& 31)) &&& 3) = 0 then
    24
  else
    if ((w >>> (8 &&& 31)) &&& 3) = 2 then
      53
    else
      64
set_option maxHeartbeats 1000000 in
set_option maxRecDepth 100000 in
theorem c_X0_digits (l : Launch) (dC : Nat → ClassId) (dI : Nat → Nat → Nat) (cI cL : ClassId) (h0 qt qf : Nat) (ft : Nat → Int32) (ff : Nat → Int64) (w : Int32) (lt : Int32) (lk : Int32) (lc : Int32) : Met l yX0_digits wsX0_digits ({ frames := 0, cells := 0, slots := 0, locals := 0 }) (rd_Pc (dC, dI) (x_W cI cL h0 qt qf ft ff w lt lk lc) (x_T cI cL) [.ref h0]) (k2_QcV (.int (f_X0_digits w))) 0 0 (fun _ => False) := by
  refine Met.ofW (cc := cX0_digits) (maxL := 1) (ret := (some .int)) (by decide) rfl ?_
  intro p e s m args below meth c s₁ B hml hv
  obtain ⟨rfl, hP, hK⟩ := hv
  have hx := B.exec
  have hb := B.bytes
  have hr := B.returns
  have hts := atoms_spec (ws := wsX0_digits) B.pre
  have hown : s.vm.findClass RX0 = some m.cls := findClass_of_methodNamed B.named
  have hlocks := B.notSynchronized
  have hin_X0 : ∀ w ∈ u_ws RX0 TX0 6, w ∈ wsX0_digits := by decide +kernel
  have hP : va_P (dC, dI) vwCl [(h0, .inr (0, [.ref qt, .ref qf, .int w, .int lt, .int lk, .int lc])), (qt, .inl (cI, 8, .inl ft)), (qf, .inl (cL, 8, .inr (.inl ff)))] s.heap := hP
  have hl := lv_entry ([.ref h0]) (n := 1) (Nat.le_of_ble_eq_true rfl)
  rw [lg_entry_eq]
  generalize (lg_sl ([.ref h0]) ++ List.replicate (1 - (lg_sl ([.ref h0])).length) Slot.unset).toArray = ls at hl ⊢
  have hl : lv_has ls 1 [(0, .ref h0)] := hl
  refine lv_aload_n hx hb dX0_digits_0 rfl (lv_at hl 0 rfl) ?_
  refine va_get (D := (dC, dI)) (ci := 0) (v := .int w) (C := RX0) (T := TX0) (N := 6) hx hb hts hin_X0 hown hK hP 0 rfl rfl 2 (by decide) (hts (.fieldLink RX0 17 "TemporaryReals" "word" "I") (by decide +kernel)) (fun _ h9 => h9) rfl dX0_digits_1 ?_
  refine lv_bipush (v := 8) hx hb dX0_digits_4 (by decide) ?_
  refine lv_ishr hx hb dX0_digits_6 ?_
  refine lv_iconst (v := 3) hx hb dX0_digits_7 (by decide) ?_
  refine lv_iand hx hb dX0_digits_8 ?_
  by_cases c_1 : ((w >>> (8 &&& 31)) &&& 3) = 0
  · refine lv_lookup (off := 27) (tgt := 36) hx hb dX0_digits_9 (by decide) (by rw [c_1]; rfl) (by decide) ?_
    refine lv_bipush (v := 24) hx hb dX0_digits_36 (by decide) ?_
    refine w_asi (y := (f_X0_digits w)) (by unfold f_X0_digits; rw [if_pos c_1]) ?_
    exact W.iret (v := (f_X0_digits w)) hx hb hr (fun t ht _ => ⟨rfl, ht⟩) (fun _ h => nomatch h) dX0_digits_38
  by_cases c_2 : ((w >>> (8 &&& 31)) &&& 3) = 2
  · refine lv_lookup (off := 30) (tgt := 39) hx hb dX0_digits_9 (by decide) (by rw [c_2]; rfl) (by decide) ?_
    refine lv_bipush (v := 53) hx hb dX0_digits_39 (by decide) ?_
    refine w_asi (y := (f_X0_digits w)) (by unfold f_X0_digits; rw [if_neg c_1, if_pos c_2]) ?_
    exact W.iret (v := (f_X0_digits w)) hx hb hr (fun t ht _ => ⟨rfl, ht⟩) (fun _ h => nomatch h) dX0_digits_41
  refine lv_lookup (off := 33) (tgt := 42) hx hb dX0_digits_9 (by decide) ((lv_osw c_1 (by decide)).trans ((lv_osw c_2 (by decide)).trans rfl)) (by decide) ?_
  refine lv_bipush (v := 64) hx hb dX0_digits_42 (by decide) ?_
  refine w_asi (y := (f_X0_digits w)) (by unfold f_X0_digits; rw [if_neg c_1, if_neg c_2]) ?_
  exact W.iret (v := (f_X0_digits w)) hx hb hr (fun t ht _ => ⟨rfl, ht⟩) (fun _ h => nomatch h) dX0_digits_44
def f_X0_rounding (w : Int32) : Int32 :=
  ((w >>> (10 &&& 31)) &&& 3)
set_option maxHeartbeats 1000000 in
set_option maxRecDepth 100000 in
theorem c_X0_rounding (l : Launch) (dC : Nat → ClassId) (dI : Nat → Nat → Nat) (cI cL : ClassId) (h0 qt qf : Nat) (ft : Nat → Int32) (ff : Nat → Int64) (w : Int32) (lt : Int32) (lk : Int32) (lc : Int32) : Met l yX0_rounding wsX0_rounding ({ frames := 0, cells := 0, slots := 0, locals := 0 }) (rd_Pc (dC, dI) (x_W cI cL h0 qt qf ft ff w lt lk lc) (x_T cI cL) [.ref h0]) (k2_QcV (.int (f_X0_rounding w))) 0 0 (fun _ => False) := by
  refine Met.ofW (cc := cX0_rounding) (maxL := 1) (ret := (some .int)) (by decide) rfl ?_
  intro p e s m args below meth c s₁ B hml hv
  obtain ⟨rfl, hP, hK⟩ := hv
  have hx := B.exec
  have hb := B.bytes
  have hr := B.returns
  have hts := atoms_spec (ws := wsX0_rounding) B.pre
  have hown : s.vm.findClass RX0 = some m.cls := findClass_of_methodNamed B.named
  have hlocks := B.notSynchronized
  have hin_X0 : ∀ w ∈ u_ws RX0 TX0 6, w ∈ wsX0_rounding := by decide +kernel
  have hP : va_P (dC, dI) vwCl [(h0, .inr (0, [.ref qt, .ref qf, .int w, .int lt, .int lk, .int lc])), (qt, .inl (cI, 8, .inl ft)), (qf, .inl (cL, 8, .inr (.inl ff)))] s.heap := hP
  have hl := lv_entry ([.ref h0]) (n := 1) (Nat.le_of_ble_eq_true rfl)
  rw [lg_entry_eq]
  generalize (lg_sl ([.ref h0]) ++ List.replicate (1 - (lg_sl ([.ref h0])).length) Slot.unset).toArray = ls at hl ⊢
  have hl : lv_has ls 1 [(0, .ref h0)] := hl
  refine lv_aload_n hx hb dX0_rounding_0 rfl (lv_at hl 0 rfl) ?_
  refine va_get (D := (dC, dI)) (ci := 0) (v := .int w) (C := RX0) (T := TX0) (N := 6) hx hb hts hin_X0 hown hK hP 0 rfl rfl 2 (by decide) (hts (.fieldLink RX0 17 "TemporaryReals" "word" "I") (by decide +kernel)) (fun _ h9 => h9) rfl dX0_rounding_1 ?_
  refine lv_bipush (v := 10) hx hb dX0_rounding_4 (by decide) ?_
  refine lv_ishr hx hb dX0_rounding_6 ?_
  refine lv_iconst (v := 3) hx hb dX0_rounding_7 (by decide) ?_
  refine lv_iand hx hb dX0_rounding_8 ?_
  refine w_asi (y := (f_X0_rounding w)) (by unfold f_X0_rounding; rfl) ?_
  exact W.iret (v := (f_X0_rounding w)) hx hb hr (fun t ht _ => ⟨rfl, ht⟩) (fun _ h => nomatch h) dX0_rounding_9
def f_X0_goesAway (w : Int32) (a1 : Int32) : Int32 :=
  (if (f_X0_rounding w) = 1 then (if a1 = 0 then (if (f_X0_rounding w) = 2 then (if a1 = 0 then 1 else 0) else 0) else 1) else (if (f_X0_rounding w) = 2 then (if a1 = 0 then 1 else 0) else 0))
theorem nb_X0_goesAway (w : Int32) (a1 : Int32) : narrow .boolean (.int (f_X0_goesAway w a1)) = .int (f_X0_goesAway w a1) := by
  unfold f_X0_goesAway
  (repeat' split) <;> first | rfl
set_option maxHeartbeats 1000000 in
set_option maxRecDepth 100000 in
theorem c_X0_goesAway (l : Launch) (dC : Nat → ClassId) (dI : Nat → Nat → Nat) (cI cL : ClassId) (h0 qt qf : Nat) (ft : Nat → Int32) (ff : Nat → Int64) (w : Int32) (lt : Int32) (lk : Int32) (lc : Int32) (a1 : Int32) : Met l yX0_goesAway wsX0_goesAway ({ frames := 1, cells := 0, slots := 0, locals := 20 }) (rd_Pc (dC, dI) (x_W cI cL h0 qt qf ft ff w lt lk lc) (x_T cI cL) [.ref h0, .int a1]) (k2_QcV (.int (f_X0_goesAway w a1))) 0 0 (fun _ => False) := by
  refine Met.ofW (cc := cX0_goesAway) (maxL := 3) (ret := (some .boolean)) (by decide) rfl ?_
  intro p e s m args below meth c s₁ B hml hv
  obtain ⟨rfl, hP, hK⟩ := hv
  have hx := B.exec
  have hb := B.bytes
  have hr := B.returns
  have hts := atoms_spec (ws := wsX0_goesAway) B.pre
  have hown : s.vm.findClass RX0 = some m.cls := findClass_of_methodNamed B.named
  have hlocks := B.notSynchronized
  have hP : va_P (dC, dI) vwCl [(h0, .inr (0, [.ref qt, .ref qf, .int w, .int lt, .int lk, .int lc])), (qt, .inl (cI, 8, .inl ft)), (qf, .inl (cL, 8, .inr (.inl ff)))] s.heap := hP
  have hl := lv_entry ([.ref h0, .int a1]) (n := 3) (Nat.le_of_ble_eq_true rfl)
  rw [lg_entry_eq]
  generalize (lg_sl ([.ref h0, .int a1]) ++ List.replicate (3 - (lg_sl ([.ref h0, .int a1])).length) Slot.unset).toArray = ls at hl ⊢
  have hl : lv_has ls 3 [(0, .ref h0), (1, .int a1)] := hl
  refine lv_aload_n hx hb dX0_goesAway_0 rfl (lv_at hl 0 rfl) ?_
  refine W.callV (r := .int (f_X0_rounding w)) (W.runV (As := []) (rest := []) ⟨hx, hb, hml, hown, hts⟩ (c_X0_rounding l dC dI cI cL h0 qt qf ft ff w lt lk lc  ) (cwV 0 hts gX0_goesAway_X0_rounding rfl rfl rfl (by decide +kernel) ⟨Nat.le_of_ble_eq_true rfl, Nat.le_of_ble_eq_true rfl⟩) (rd_preV hK hP rfl rfl) rfl rfl hl.1 rfl (lv_room (Nat.le_of_ble_eq_true rfl)) dX0_goesAway_1 ⟨Nat.zero_le _, Nat.zero_le _⟩) ?_
  refine W.eq (g2 := F0 m 4 ls ([.int (f_X0_rounding w)])) rfl ?_
  refine lv_istore_n (lv' := [(2, .int (f_X0_rounding w)), (0, .ref h0), (1, .int a1)]) hx hb dX0_goesAway_4 rfl hl (by decide) rfl (fun ls hl => ?_)
  refine lv_iload_n hx hb dX0_goesAway_5 rfl (lv_at hl 0 rfl) ?_
  refine lv_iconst (v := 1) hx hb dX0_goesAway_6 (by decide) ?_
  refine w_join (F0 m 28 ls (.int (if (f_X0_rounding w) = 1 then (if a1 = 0 then (if (f_X0_rounding w) = 2 then (if a1 = 0 then 1 else 0) else 0) else 1) else (if (f_X0_rounding w) = 2 then (if a1 = 0 then 1 else 0) else 0)) :: [])) ?_ (fun hJ_1 => ?_)
  · refine w_asi (y := (f_X0_goesAway w a1)) (by unfold f_X0_goesAway; rfl) ?_
    exact W.zret (v := (f_X0_goesAway w a1)) (ty := .boolean) hx hb hr (nb_X0_goesAway ..) (fun t ht _ => ⟨rfl, ht⟩) (fun _ h => nomatch h) dX0_goesAway_28
  · refine lv_icmp_ne (tgt := 14) hx hb dX0_goesAway_7 (by decide) (fun c_2 => ?_) (fun c_2 => ?_)
    · refine lv_iload_n hx hb dX0_goesAway_14 rfl (lv_at hl 0 rfl) ?_
      refine lv_iconst (v := 2) hx hb dX0_goesAway_15 (by decide) ?_
      refine lv_icmp_ne (tgt := 27) hx hb dX0_goesAway_16 (by decide) (fun c_3 => ?_) (fun c_3 => ?_)
      · refine lv_iconst (v := 0) hx hb dX0_goesAway_27 (by decide) ?_
        exact W.eq (by rw [if_neg c_2, if_neg c_3] <;> (repeat (first | rw [if_neg c_2] | rw [if_neg c_3]))) hJ_1
      · refine lv_iload_n hx hb dX0_goesAway_19 rfl (lv_at hl 2 rfl) ?_
        refine lv_if_ne (tgt := 27) hx hb dX0_goesAway_20 (by decide) (fun c_4 => ?_) (fun c_4 => ?_)
        · refine lv_iconst (v := 0) hx hb dX0_goesAway_27 (by decide) ?_
          exact W.eq (by rw [if_neg c_2, if_pos c_3, if_neg c_4] <;> (repeat (first | rw [if_neg c_2] | rw [if_pos c_3] | rw [if_neg c_4]))) hJ_1
        · refine lv_iconst (v := 1) hx hb dX0_goesAway_23 (by decide) ?_
          refine lv_goto (tgt := 28) hx hb dX0_goesAway_24 (by decide) ?_
          exact W.eq (by rw [if_neg c_2, if_pos c_3, if_pos c_4] <;> (repeat (first | rw [if_neg c_2] | rw [if_pos c_3] | rw [if_pos c_4]))) hJ_1
    · refine lv_iload_n hx hb dX0_goesAway_10 rfl (lv_at hl 2 rfl) ?_
      refine lv_if_ne (tgt := 23) hx hb dX0_goesAway_11 (by decide) (fun c_5 => ?_) (fun c_5 => ?_)
      · refine lv_iconst (v := 1) hx hb dX0_goesAway_23 (by decide) ?_
        refine lv_goto (tgt := 28) hx hb dX0_goesAway_24 (by decide) ?_
        exact W.eq (by rw [if_pos c_2, if_neg c_5] <;> (repeat (first | rw [if_pos c_2] | rw [if_neg c_5]))) hJ_1
      · refine lv_iload_n hx hb dX0_goesAway_14 rfl (lv_at hl 0 rfl) ?_
        refine lv_iconst (v := 2) hx hb dX0_goesAway_15 (by decide) ?_
        refine lv_icmp_ne (tgt := 27) hx hb dX0_goesAway_16 (by decide) (fun c_6 => ?_) (fun c_6 => ?_)
        · refine lv_iconst (v := 0) hx hb dX0_goesAway_27 (by decide) ?_
          exact W.eq (by rw [if_pos c_2, if_pos c_5, if_neg c_6] <;> (repeat (first | rw [if_pos c_2] | rw [if_pos c_5] | rw [if_neg c_6]))) hJ_1
        · refine lv_iload_n hx hb dX0_goesAway_19 rfl (lv_at hl 2 rfl) ?_
          refine lv_if_ne (tgt := 27) hx hb dX0_goesAway_20 (by decide) (fun c_7 => ?_) (fun c_7 => ?_)
          · refine lv_iconst (v := 0) hx hb dX0_goesAway_27 (by decide) ?_
            exact W.eq (by rw [if_pos c_2, if_pos c_5, if_pos c_6, if_neg c_7] <;> (repeat (first | rw [if_pos c_2] | rw [if_pos c_5] | rw [if_pos c_6] | rw [if_neg c_7]))) hJ_1
          · refine lv_iconst (v := 1) hx hb dX0_goesAway_23 (by decide) ?_
            refine lv_goto (tgt := 28) hx hb dX0_goesAway_24 (by decide) ?_
            exact W.eq (by rw [if_pos c_2, if_pos c_5, if_pos c_6, if_pos c_7] <;> (repeat (first | rw [if_pos c_2] | rw [if_pos c_5] | rw [if_pos c_6] | rw [if_pos c_7]))) hJ_1
def f_X0_takesAbove (w : Int32) (a1 : Int64) (a2 : Int64) (a3 : Int32) : Int32 :=
  if (lg_cmp a2 0) = 0 then
    0
  else
    if (f_X0_rounding w) = 0 then
      if (lg_cmp a2 (-9223372036854775808)) = 0 then
        (if (lg_cmp (a1 &&& 1) 0) = 0 then 0 else 1)
      else
        (if 0 ≤ (lg_cmp a2 0) then 0 else 1)
    else
      (f_X0_goesAway w a3)
theorem nb_X0_takesAbove (w : Int32) (a1 : Int64) (a2 : Int64) (a3 : Int32) : narrow .boolean (.int (f_X0_takesAbove w a1 a2 a3)) = .int (f_X0_takesAbove w a1 a2 a3) := by
  unfold f_X0_takesAbove
  (repeat' split) <;> first | exact nb_X0_goesAway .. | rfl
set_option maxHeartbeats 1000000 in
set_option maxRecDepth 100000 in
theorem c_X0_takesAbove (l : Launch) (dC : Nat → ClassId) (dI : Nat → Nat → Nat) (cI cL : ClassId) (h0 qt qf : Nat) (ft : Nat → Int32) (ff : Nat → Int64) (w : Int32) (lt : Int32) (lk : Int32) (lc : Int32) (a1 : Int64) (a2 : Int64) (a3 : Int32) : Met l yX0_takesAbove wsX0_takesAbove ({ frames := 2, cells := 0, slots := 0, locals := 42 }) (rd_Pc (dC, dI) (x_W cI cL h0 qt qf ft ff w lt lk lc) (x_T cI cL) [.ref h0, .long a1, .long a2, .int a3]) (k2_QcV (.int (f_X0_takesAbove w a1 a2 a3))) 0 0 (fun _ => False) := by
  refine Met.ofW (cc := cX0_takesAbove) (maxL := 6) (ret := (some .boolean)) (by decide) rfl ?_
  intro p e s m args below meth c s₁ B hml hv
  obtain ⟨rfl, hP, hK⟩ := hv
  have hx := B.exec
  have hb := B.bytes
  have hr := B.returns
  have hts := atoms_spec (ws := wsX0_takesAbove) B.pre
  have hown : s.vm.findClass RX0 = some m.cls := findClass_of_methodNamed B.named
  have hlocks := B.notSynchronized
  have hP : va_P (dC, dI) vwCl [(h0, .inr (0, [.ref qt, .ref qf, .int w, .int lt, .int lk, .int lc])), (qt, .inl (cI, 8, .inl ft)), (qf, .inl (cL, 8, .inr (.inl ff)))] s.heap := hP
  have hl := lv_entry ([.ref h0, .long a1, .long a2, .int a3]) (n := 6) (Nat.le_of_ble_eq_true rfl)
  rw [lg_entry_eq]
  generalize (lg_sl ([.ref h0, .long a1, .long a2, .int a3]) ++ List.replicate (6 - (lg_sl ([.ref h0, .long a1, .long a2, .int a3])).length) Slot.unset).toArray = ls at hl ⊢
  have hl : lv_has ls 6 [(0, .ref h0), (1, .long a1), (3, .long a2), (5, .int a3)] := hl
  refine lv_lload_n hx hb dX0_takesAbove_0 rfl (lv_at hl 2 rfl) ?_
  refine lv_lconst (v := 0) hx hb dX0_takesAbove_1 (by decide) ?_
  refine W.lcmp hx hb dX0_takesAbove_2 ?_
  refine lv_if_ne (tgt := 8) hx hb dX0_takesAbove_3 (by decide) (fun c_1 => ?_) (fun c_1 => ?_)
  · refine lv_aload_n hx hb dX0_takesAbove_8 rfl (lv_at hl 0 rfl) ?_
    refine W.callV (r := .int (f_X0_rounding w)) (W.runV (As := []) (rest := []) ⟨hx, hb, hml, hown, hts⟩ (c_X0_rounding l dC dI cI cL h0 qt qf ft ff w lt lk lc  ) (cwV 0 hts gX0_takesAbove_X0_rounding rfl rfl rfl (by decide +kernel) ⟨Nat.le_of_ble_eq_true rfl, Nat.le_of_ble_eq_true rfl⟩) (rd_preV hK hP rfl rfl) rfl rfl hl.1 rfl (lv_room (Nat.le_of_ble_eq_true rfl)) dX0_takesAbove_9 ⟨Nat.zero_le _, Nat.zero_le _⟩) ?_
    refine W.eq (g2 := F0 m 12 ls ([.int (f_X0_rounding w)])) rfl ?_
    refine lv_if_eq (tgt := 22) hx hb dX0_takesAbove_12 (by decide) (fun c_2 => ?_) (fun c_2 => ?_)
    · refine lv_lload_n hx hb dX0_takesAbove_22 rfl (lv_at hl 2 rfl) ?_
      refine lv_ldc2 (v := (-9223372036854775808)) hx hb hown (hts (.constantLong RX0 62 (-9223372036854775808)) (by decide +kernel)) dX0_takesAbove_23 ?_
      refine W.lcmp hx hb dX0_takesAbove_26 ?_
      refine lv_if_ne (tgt := 44) hx hb dX0_takesAbove_27 (by decide) (fun c_3 => ?_) (fun c_3 => ?_)
      · refine lv_lload_n hx hb dX0_takesAbove_44 rfl (lv_at hl 2 rfl) ?_
        refine lv_lconst (v := 0) hx hb dX0_takesAbove_45 (by decide) ?_
        refine W.lcmp hx hb dX0_takesAbove_46 ?_
        refine w_join (F0 m 55 ls (.int (if 0 ≤ (lg_cmp a2 0) then 0 else 1) :: [])) ?_ (fun hJ_4 => ?_)
        · refine w_asi (y := (f_X0_takesAbove w a1 a2 a3)) (by unfold f_X0_takesAbove; rw [if_neg c_1, if_pos c_2, if_neg c_3]) ?_
          exact W.zret (v := (f_X0_takesAbove w a1 a2 a3)) (ty := .boolean) hx hb hr (nb_X0_takesAbove ..) (fun t ht _ => ⟨rfl, ht⟩) (fun _ h => nomatch h) dX0_takesAbove_55
        · refine lv_if_ge (tgt := 54) hx hb dX0_takesAbove_47 (by decide) (fun c_5 => ?_) (fun c_5 => ?_)
          · refine lv_iconst (v := 0) hx hb dX0_takesAbove_54 (by decide) ?_
            exact W.eq (by rw [if_pos c_5] <;> (repeat (first | rw [if_pos c_5]))) hJ_4
          · refine lv_iconst (v := 1) hx hb dX0_takesAbove_50 (by decide) ?_
            refine lv_goto (tgt := 55) hx hb dX0_takesAbove_51 (by decide) ?_
            exact W.eq (by rw [if_neg c_5] <;> (repeat (first | rw [if_neg c_5]))) hJ_4
      · refine lv_lload_n hx hb dX0_takesAbove_30 rfl (lv_at hl 1 rfl) ?_
        refine lv_lconst (v := 1) hx hb dX0_takesAbove_31 (by decide) ?_
        refine lv_land hx hb dX0_takesAbove_32 ?_
        refine lv_lconst (v := 0) hx hb dX0_takesAbove_33 (by decide) ?_
        refine W.lcmp hx hb dX0_takesAbove_34 ?_
        refine w_join (F0 m 43 ls (.int (if (lg_cmp (a1 &&& 1) 0) = 0 then 0 else 1) :: [])) ?_ (fun hJ_6 => ?_)
        · refine w_asi (y := (f_X0_takesAbove w a1 a2 a3)) (by unfold f_X0_takesAbove; rw [if_neg c_1, if_pos c_2, if_pos c_3]) ?_
          exact W.zret (v := (f_X0_takesAbove w a1 a2 a3)) (ty := .boolean) hx hb hr (nb_X0_takesAbove ..) (fun t ht _ => ⟨rfl, ht⟩) (fun _ h => nomatch h) dX0_takesAbove_43
        · refine lv_if_eq (tgt := 42) hx hb dX0_takesAbove_35 (by decide) (fun c_7 => ?_) (fun c_7 => ?_)
          · refine lv_iconst (v := 0) hx hb dX0_takesAbove_42 (by decide) ?_
            exact W.eq (by rw [if_pos c_7] <;> (repeat (first | rw [if_pos c_7]))) hJ_6
          · refine lv_iconst (v := 1) hx hb dX0_takesAbove_38 (by decide) ?_
            refine lv_goto (tgt := 43) hx hb dX0_takesAbove_39 (by decide) ?_
            exact W.eq (by rw [if_neg c_7] <;> (repeat (first | rw [if_neg c_7]))) hJ_6
    · refine lv_aload_n hx hb dX0_takesAbove_15 rfl (lv_at hl 0 rfl) ?_
      refine lv_iload hx hb dX0_takesAbove_16 (lv_at hl 3 rfl) ?_
      refine W.callV (r := .int (f_X0_goesAway w a3)) (W.runV (As := [.int a3]) (rest := []) ⟨hx, hb, hml, hown, hts⟩ (c_X0_goesAway l dC dI cI cL h0 qt qf ft ff w lt lk lc a3 ) (cwV 1 hts gX0_takesAbove_X0_goesAway rfl rfl rfl (by decide +kernel) ⟨Nat.le_of_ble_eq_true rfl, Nat.le_of_ble_eq_true rfl⟩) (rd_preV hK hP rfl rfl) rfl rfl hl.1 rfl (lv_room (Nat.le_of_ble_eq_true rfl)) dX0_takesAbove_18 ⟨Nat.zero_le _, Nat.zero_le _⟩) ?_
      refine W.eq (g2 := F0 m 21 ls ([.int (f_X0_goesAway w a3)])) rfl ?_
      refine w_asi (y := (f_X0_takesAbove w a1 a2 a3)) (by unfold f_X0_takesAbove; rw [if_neg c_1, if_neg c_2]) ?_
      exact W.zret (v := (f_X0_takesAbove w a1 a2 a3)) (ty := .boolean) hx hb hr (nb_X0_takesAbove ..) (fun t ht _ => ⟨rfl, ht⟩) (fun _ h => nomatch h) dX0_takesAbove_21
  · refine lv_iconst (v := 0) hx hb dX0_takesAbove_6 (by decide) ?_
    refine w_asi (y := (f_X0_takesAbove w a1 a2 a3)) (by unfold f_X0_takesAbove; rw [if_pos c_1]) ?_
    exact W.zret (v := (f_X0_takesAbove w a1 a2 a3)) (ty := .boolean) hx hb hr (nb_X0_takesAbove ..) (fun t ht _ => ⟨rfl, ht⟩) (fun _ h => nomatch h) dX0_takesAbove_7
def f_X0_signum (ft : Nat → Int32) (ff : Nat → Int64) (a1 : Int32) : Int32 :=
  if (if (f_X0_kindOf ft ff a1) = 4 then false else (if (lg_cmp (ff a1.toNatClampNeg) 0) = 0 then true else false)) = true then
    0
  else
    (if (f_X0_isNegative ft a1) = 0 then 1 else (-1))
set_option maxHeartbeats 1000000 in
set_option maxRecDepth 100000 in
theorem c_X0_signum (l : Launch) (dC : Nat → ClassId) (dI : Nat → Nat → Nat) (cI cL : ClassId) (h0 qt qf : Nat) (ft : Nat → Int32) (ff : Nat → Int64) (w : Int32) (lt : Int32) (lk : Int32) (lc : Int32) (a1 : Int32) (hr1 : vp_in a1 8) : Met l yX0_signum wsX0_signum ({ frames := 2, cells := 0, slots := 0, locals := 45 }) (rd_Pc (dC, dI) (x_W cI cL h0 qt qf ft ff w lt lk lc) (x_T cI cL) [.ref h0, .int a1]) (k2_QcV (.int (f_X0_signum ft ff a1))) 0 0 (fun _ => False) := by
  refine Met.ofW (cc := cX0_signum) (maxL := 2) (ret := (some .int)) (by decide) rfl ?_
  intro p e s m args below meth c s₁ B hml hv
  obtain ⟨rfl, hP, hK⟩ := hv
  have hx := B.exec
  have hb := B.bytes
  have hr := B.returns
  have hts := atoms_spec (ws := wsX0_signum) B.pre
  have hown : s.vm.findClass RX0 = some m.cls := findClass_of_methodNamed B.named
  have hlocks := B.notSynchronized
  have hin_X0 : ∀ w ∈ u_ws RX0 TX0 6, w ∈ wsX0_signum := by decide +kernel
  have hP : va_P (dC, dI) vwCl [(h0, .inr (0, [.ref qt, .ref qf, .int w, .int lt, .int lk, .int lc])), (qt, .inl (cI, 8, .inl ft)), (qf, .inl (cL, 8, .inr (.inl ff)))] s.heap := hP
  have hl := lv_entry ([.ref h0, .int a1]) (n := 2) (Nat.le_of_ble_eq_true rfl)
  rw [lg_entry_eq]
  generalize (lg_sl ([.ref h0, .int a1]) ++ List.replicate (2 - (lg_sl ([.ref h0, .int a1])).length) Slot.unset).toArray = ls at hl ⊢
  have hl : lv_has ls 2 [(0, .ref h0), (1, .int a1)] := hl
  refine lv_aload_n hx hb dX0_signum_0 rfl (lv_at hl 0 rfl) ?_
  refine lv_iload_n hx hb dX0_signum_1 rfl (lv_at hl 1 rfl) ?_
  refine W.callV (r := .int (f_X0_kindOf ft ff a1)) (W.runV (As := [.int a1]) (rest := []) ⟨hx, hb, hml, hown, hts⟩ (c_X0_kindOf l dC dI cI cL h0 qt qf ft ff w lt lk lc a1 (by first | assumption | exact x_reg (by assumption) | exact x_regA (by assumption) | exact x_regB (by assumption))) (cwV 1 hts gX0_signum_X0_kindOf rfl rfl rfl (by decide +kernel) ⟨Nat.le_of_ble_eq_true rfl, Nat.le_of_ble_eq_true rfl⟩) (rd_preV hK hP rfl rfl) rfl rfl hl.1 rfl (lv_room (Nat.le_of_ble_eq_true rfl)) dX0_signum_2 ⟨Nat.zero_le _, Nat.zero_le _⟩) ?_
  refine W.eq (g2 := F0 m 5 ls ([.int (f_X0_kindOf ft ff a1)])) rfl ?_
  refine lv_iconst (v := 4) hx hb dX0_signum_5 (by decide) ?_
  by_cases cV_1 : (if (f_X0_kindOf ft ff a1) = 4 then false else (if (lg_cmp (ff a1.toNatClampNeg) 0) = 0 then true else false)) = true
  · refine w_join (F0 m 20 ls ([])) ?_ (fun hJ_2 => ?_)
    · refine lv_iconst (v := 0) hx hb dX0_signum_20 (by decide) ?_
      refine w_asi (y := (f_X0_signum ft ff a1)) (by unfold f_X0_signum; rw [if_pos cV_1]) ?_
      exact W.iret (v := (f_X0_signum ft ff a1)) hx hb hr (fun t ht _ => ⟨rfl, ht⟩) (fun _ h => nomatch h) dX0_signum_21
    · refine lv_icmp_eq (tgt := 22) hx hb dX0_signum_6 (by decide) (fun c_3 => ?_) (fun c_3 => ?_)
      · exact absurd cV_1 (by rw [if_pos c_3]; exact Bool.false_ne_true)
      · refine lv_aload_n hx hb dX0_signum_9 rfl (lv_at hl 0 rfl) ?_
        refine va_get (D := (dC, dI)) (ci := 0) (v := .ref qf) (C := RX0) (T := TX0) (N := 6) hx hb hts hin_X0 hown hK hP 0 rfl rfl 1 (by decide) (hts (.fieldLink RX0 13 "TemporaryReals" "fractions" "[J") (by decide +kernel)) (fun _ h9 => h9) rfl dX0_signum_10 ?_
        refine lv_iload_n hx hb dX0_signum_13 rfl (lv_at hl 1 rfl) ?_
        refine va_lald hx hb hK hP 2 1 rfl rfl (by first | assumption | exact x_reg (by assumption) | exact x_regA (by assumption) | exact x_regB (by assumption)) dX0_signum_14 ?_
        refine lv_lconst (v := 0) hx hb dX0_signum_15 (by decide) ?_
        refine W.lcmp hx hb dX0_signum_16 ?_
        refine lv_if_ne (tgt := 22) hx hb dX0_signum_17 (by decide) (fun c_4 => ?_) (fun c_4 => ?_)
        · exact absurd cV_1 (by rw [if_neg c_3, if_neg c_4]; exact Bool.false_ne_true)
        · exact hJ_2
  · refine w_join (F0 m 22 ls ([])) ?_ (fun hJ_2 => ?_)
    · refine lv_aload_n hx hb dX0_signum_22 rfl (lv_at hl 0 rfl) ?_
      refine lv_iload_n hx hb dX0_signum_23 rfl (lv_at hl 1 rfl) ?_
      refine W.callV (r := .int (f_X0_isNegative ft a1)) (W.runV (As := [.int a1]) (rest := []) ⟨hx, hb, hml, hown, hts⟩ (c_X0_isNegative l dC dI cI cL h0 qt qf ft ff w lt lk lc a1 (by first | assumption | exact x_reg (by assumption) | exact x_regA (by assumption) | exact x_regB (by assumption))) (cwV 1 hts gX0_signum_X0_isNegative rfl rfl rfl (by decide +kernel) ⟨Nat.le_of_ble_eq_true rfl, Nat.le_of_ble_eq_true rfl⟩) (rd_preV hK hP rfl rfl) rfl rfl hl.1 rfl (lv_room (Nat.le_of_ble_eq_true rfl)) dX0_signum_24 ⟨Nat.zero_le _, Nat.zero_le _⟩) ?_
      refine W.eq (g2 := F0 m 27 ls ([.int (f_X0_isNegative ft a1)])) rfl ?_
      refine w_join (F0 m 35 ls (.int (if (f_X0_isNegative ft a1) = 0 then 1 else (-1)) :: [])) ?_ (fun hJ_7 => ?_)
      · refine w_asi (y := (f_X0_signum ft ff a1)) (by unfold f_X0_signum; rw [if_neg cV_1]) ?_
        exact W.iret (v := (f_X0_signum ft ff a1)) hx hb hr (fun t ht _ => ⟨rfl, ht⟩) (fun _ h => nomatch h) dX0_signum_35
      · refine lv_if_eq (tgt := 34) hx hb dX0_signum_27 (by decide) (fun c_8 => ?_) (fun c_8 => ?_)
        · refine lv_iconst (v := 1) hx hb dX0_signum_34 (by decide) ?_
          exact W.eq (by rw [if_pos c_8] <;> (repeat (first | rw [if_pos c_8]))) hJ_7
        · refine lv_iconst (v := (-1)) hx hb dX0_signum_30 (by decide) ?_
          refine lv_goto (tgt := 35) hx hb dX0_signum_31 (by decide) ?_
          exact W.eq (by rw [if_neg c_8] <;> (repeat (first | rw [if_neg c_8]))) hJ_7
    · refine lv_icmp_eq (tgt := 22) hx hb dX0_signum_6 (by decide) (fun c_5 => ?_) (fun c_5 => ?_)
      · exact hJ_2
      · refine lv_aload_n hx hb dX0_signum_9 rfl (lv_at hl 0 rfl) ?_
        refine va_get (D := (dC, dI)) (ci := 0) (v := .ref qf) (C := RX0) (T := TX0) (N := 6) hx hb hts hin_X0 hown hK hP 0 rfl rfl 1 (by decide) (hts (.fieldLink RX0 13 "TemporaryReals" "fractions" "[J") (by decide +kernel)) (fun _ h9 => h9) rfl dX0_signum_10 ?_
        refine lv_iload_n hx hb dX0_signum_13 rfl (lv_at hl 1 rfl) ?_
        refine va_lald hx hb hK hP 2 1 rfl rfl (by first | assumption | exact x_reg (by assumption) | exact x_regA (by assumption) | exact x_regB (by assumption)) dX0_signum_14 ?_
        refine lv_lconst (v := 0) hx hb dX0_signum_15 (by decide) ?_
        refine W.lcmp hx hb dX0_signum_16 ?_
        refine lv_if_ne (tgt := 22) hx hb dX0_signum_17 (by decide) (fun c_6 => ?_) (fun c_6 => ?_)
        · exact hJ_2
        · exact absurd (by rw [if_neg c_5, if_pos c_6]) cV_1
def f_X0_plainShift (ft : Nat → Int32) (ff : Nat → Int64) (a1 : Int32) : Int32 :=
  (if ((if (f_X0_powerOf ft a1) < 1 then 1 else (f_X0_powerOf ft a1)) - 1) < (f_JL_numberOfLeadingZeros (ff a1.toNatClampNeg)) then ((if (f_X0_powerOf ft a1) < 1 then 1 else (f_X0_powerOf ft a1)) - 1) else (f_JL_numberOfLeadingZeros (ff a1.toNatClampNeg)))
set_option maxHeartbeats 1000000 in
set_option maxRecDepth 100000 in
theorem c_X0_plainShift (l : Launch) (dC : Nat → ClassId) (dI : Nat → Nat → Nat) (cI cL : ClassId) (h0 qt qf : Nat) (ft : Nat → Int32) (ff : Nat → Int64) (w : Int32) (lt : Int32) (lk : Int32) (lc : Int32) (a1 : Int32) (hr1 : vp_in a1 8) : Met l yX0_plainShift wsX0_plainShift ({ frames := 2, cells := 0, slots := 0, locals := 43 }) (rd_Pc (dC, dI) (x_W cI cL h0 qt qf ft ff w lt lk lc) (x_T cI cL) [.ref h0, .int a1]) (k2_QcV (.int (f_X0_plainShift ft ff a1))) 0 0 (fun _ => False) := by
  refine Met.ofW (cc := cX0_plainShift) (maxL := 2) (ret := (some .int)) (by decide) rfl ?_
  intro p e s m args below meth c s₁ B hml hv
  obtain ⟨rfl, hP, hK⟩ := hv
  have hx := B.exec
  have hb := B.bytes
  have hr := B.returns
  have hts := atoms_spec (ws := wsX0_plainShift) B.pre
  have hown : s.vm.findClass RX0 = some m.cls := findClass_of_methodNamed B.named
  have hlocks := B.notSynchronized
  have hin_X0 : ∀ w ∈ u_ws RX0 TX0 6, w ∈ wsX0_plainShift := by decide +kernel
  have hP : va_P (dC, dI) vwCl [(h0, .inr (0, [.ref qt, .ref qf, .int w, .int lt, .int lk, .int lc])), (qt, .inl (cI, 8, .inl ft)), (qf, .inl (cL, 8, .inr (.inl ff)))] s.heap := hP
  have hl := lv_entry ([.ref h0, .int a1]) (n := 2) (Nat.le_of_ble_eq_true rfl)
  rw [lg_entry_eq]
  generalize (lg_sl ([.ref h0, .int a1]) ++ List.replicate (2 - (lg_sl ([.ref h0, .int a1])).length) Slot.unset).toArray = ls at hl ⊢
  have hl : lv_has ls 2 [(0, .ref h0), (1, .int a1)] := hl
  refine lv_aload_n hx hb dX0_plainShift_0 rfl (lv_at hl 0 rfl) ?_
  refine va_get (D := (dC, dI)) (ci := 0) (v := .ref qf) (C := RX0) (T := TX0) (N := 6) hx hb hts hin_X0 hown hK hP 0 rfl rfl 1 (by decide) (hts (.fieldLink RX0 13 "TemporaryReals" "fractions" "[J") (by decide +kernel)) (fun _ h9 => h9) rfl dX0_plainShift_1 ?_
  refine lv_iload_n hx hb dX0_plainShift_4 rfl (lv_at hl 1 rfl) ?_
  refine va_lald hx hb hK hP 2 1 rfl rfl (by first | assumption | exact x_reg (by assumption) | exact x_regA (by assumption) | exact x_regB (by assumption)) dX0_plainShift_5 ?_
  refine W.callV (r := .int (f_JL_numberOfLeadingZeros (ff a1.toNatClampNeg))) (W.runS (As := [.long (ff a1.toNatClampNeg)]) (rest := []) ⟨hx, hb, hml, hown, hts⟩ (c_JL_numberOfLeadingZeros l (ff a1.toNatClampNeg) ) (va_cwS 1 hts gX0_plainShift_JL_numberOfLeadingZeros rfl rfl rfl (by decide +kernel) ⟨Nat.le_of_ble_eq_true rfl, Nat.le_of_ble_eq_true rfl⟩) pu_pre rfl rfl hl.1 rfl (lv_room (Nat.le_of_ble_eq_true rfl)) dX0_plainShift_6 ⟨Nat.zero_le _, Nat.zero_le _⟩) ?_
  refine W.eq (g2 := F0 m 9 ls ([.int (f_JL_numberOfLeadingZeros (ff a1.toNatClampNeg))])) rfl ?_
  refine lv_aload_n hx hb dX0_plainShift_9 rfl (lv_at hl 0 rfl) ?_
  refine lv_iload_n hx hb dX0_plainShift_10 rfl (lv_at hl 1 rfl) ?_
  refine W.callV (r := .int (f_X0_powerOf ft a1)) (W.runV (As := [.int a1]) (rest := [.int (f_JL_numberOfLeadingZeros (ff a1.toNatClampNeg))]) ⟨hx, hb, hml, hown, hts⟩ (c_X0_powerOf l dC dI cI cL h0 qt qf ft ff w lt lk lc a1 (by first | assumption | exact x_reg (by assumption) | exact x_regA (by assumption) | exact x_regB (by assumption))) (cwV 1 hts gX0_plainShift_X0_powerOf rfl rfl rfl (by decide +kernel) ⟨Nat.le_of_ble_eq_true rfl, Nat.le_of_ble_eq_true rfl⟩) (rd_preV hK hP rfl rfl) rfl rfl hl.1 rfl (lv_room (Nat.le_of_ble_eq_true rfl)) dX0_plainShift_11 ⟨Nat.zero_le _, Nat.zero_le _⟩) ?_
  refine W.eq (g2 := F0 m 14 ls ([.int (f_X0_powerOf ft a1), .int (f_JL_numberOfLeadingZeros (ff a1.toNatClampNeg))])) rfl ?_
  refine lv_iconst (v := 1) hx hb dX0_plainShift_14 (by decide) ?_
  refine va_mmax hx hb (hml.trans hl.1.symm) hown (hts (.methodLink RX0 83 Lib.Math.max.name) (by decide +kernel)) (hts (.static Lib.Math.max.name) (by decide +kernel)) (hts (.initialized "java/lang/Math") (by decide +kernel)) (hts (.code Lib.Math.max.name Lib.Math.max.code 2 (some .int)) (by decide +kernel)) (Nat.le_of_ble_eq_true rfl) (Nat.le_of_ble_eq_true rfl) (Nat.zero_le _) (Nat.zero_le _) dX0_plainShift_15 ?_
  refine lv_iconst (v := 1) hx hb dX0_plainShift_18 (by decide) ?_
  refine lv_isub hx hb dX0_plainShift_19 ?_
  refine va_mmin hx hb (hml.trans hl.1.symm) hown (hts (.methodLink RX0 180 Lib.Math.min.name) (by decide +kernel)) (hts (.static Lib.Math.min.name) (by decide +kernel)) (hts (.initialized "java/lang/Math") (by decide +kernel)) (hts (.code Lib.Math.min.name Lib.Math.min.code 2 (some .int)) (by decide +kernel)) (Nat.le_of_ble_eq_true rfl) (Nat.le_of_ble_eq_true rfl) (Nat.zero_le _) (Nat.zero_le _) dX0_plainShift_20 ?_
  refine w_asi (y := (f_X0_plainShift ft ff a1)) (by unfold f_X0_plainShift; rfl) ?_
  exact W.iret (v := (f_X0_plainShift ft ff a1)) hx hb hr (fun t ht _ => ⟨rfl, ht⟩) (fun _ h => nomatch h) dX0_plainShift_23
def f_X0_plainFraction (ft : Nat → Int32) (ff : Nat → Int64) (a1 : Int32) : Int64 :=
  if (f_X0_powerOf ft a1) = 32767 then
    (-9223372036854775808)
  else
    (f_X0_shiftIn (ff a1.toNatClampNeg) 0 (f_X0_plainShift ft ff a1))
set_option maxHeartbeats 1000000 in
set_option maxRecDepth 100000 in
theorem c_X0_plainFraction (l : Launch) (dC : Nat → ClassId) (dI : Nat → Nat → Nat) (cI cL : ClassId) (h0 qt qf : Nat) (ft : Nat → Int32) (ff : Nat → Int64) (w : Int32) (lt : Int32) (lk : Int32) (lc : Int32) (a1 : Int32) (hr1 : vp_in a1 8) : Met l yX0_plainFraction wsX0_plainFraction ({ frames := 3, cells := 0, slots := 0, locals := 64 }) (rd_Pc (dC, dI) (x_W cI cL h0 qt qf ft ff w lt lk lc) (x_T cI cL) [.ref h0, .int a1]) (k2_QcV (.long (f_X0_plainFraction ft ff a1))) 0 0 (fun _ => False) := by
  refine Met.ofW (cc := cX0_plainFraction) (maxL := 2) (ret := (some .long)) (by decide) rfl ?_
  intro p e s m args below meth c s₁ B hml hv
  obtain ⟨rfl, hP, hK⟩ := hv
  have hx := B.exec
  have hb := B.bytes
  have hr := B.returns
  have hts := atoms_spec (ws := wsX0_plainFraction) B.pre
  have hown : s.vm.findClass RX0 = some m.cls := findClass_of_methodNamed B.named
  have hlocks := B.notSynchronized
  have hin_X0 : ∀ w ∈ u_ws RX0 TX0 6, w ∈ wsX0_plainFraction := by decide +kernel
  have hP : va_P (dC, dI) vwCl [(h0, .inr (0, [.ref qt, .ref qf, .int w, .int lt, .int lk, .int lc])), (qt, .inl (cI, 8, .inl ft)), (qf, .inl (cL, 8, .inr (.inl ff)))] s.heap := hP
  have hl := lv_entry ([.ref h0, .int a1]) (n := 2) (Nat.le_of_ble_eq_true rfl)
  rw [lg_entry_eq]
  generalize (lg_sl ([.ref h0, .int a1]) ++ List.replicate (2 - (lg_sl ([.ref h0, .int a1])).length) Slot.unset).toArray = ls at hl ⊢
  have hl : lv_has ls 2 [(0, .ref h0), (1, .int a1)] := hl
  refine lv_aload_n hx hb dX0_plainFraction_0 rfl (lv_at hl 0 rfl) ?_
  refine lv_iload_n hx hb dX0_plainFraction_1 rfl (lv_at hl 1 rfl) ?_
  refine W.callV (r := .int (f_X0_powerOf ft a1)) (W.runV (As := [.int a1]) (rest := []) ⟨hx, hb, hml, hown, hts⟩ (c_X0_powerOf l dC dI cI cL h0 qt qf ft ff w lt lk lc a1 (by first | assumption | exact x_reg (by assumption) | exact x_regA (by assumption) | exact x_regB (by assumption))) (cwV 1 hts gX0_plainFraction_X0_powerOf rfl rfl rfl (by decide +kernel) ⟨Nat.le_of_ble_eq_true rfl, Nat.le_of_ble_eq_true rfl⟩) (rd_preV hK hP rfl rfl) rfl rfl hl.1 rfl (lv_room (Nat.le_of_ble_eq_true rfl)) dX0_plainFraction_2 ⟨Nat.zero_le _, Nat.zero_le _⟩) ?_
  refine W.eq (g2 := F0 m 5 ls ([.int (f_X0_powerOf ft a1)])) rfl ?_
  refine lv_sipush (v := 32767) hx hb dX0_plainFraction_5 (by decide) ?_
  refine lv_icmp_ne (tgt := 15) hx hb dX0_plainFraction_8 (by decide) (fun c_1 => ?_) (fun c_1 => ?_)
  · refine lv_aload_n hx hb dX0_plainFraction_15 rfl (lv_at hl 0 rfl) ?_
    refine va_get (D := (dC, dI)) (ci := 0) (v := .ref qf) (C := RX0) (T := TX0) (N := 6) hx hb hts hin_X0 hown hK hP 0 rfl rfl 1 (by decide) (hts (.fieldLink RX0 13 "TemporaryReals" "fractions" "[J") (by decide +kernel)) (fun _ h9 => h9) rfl dX0_plainFraction_16 ?_
    refine lv_iload_n hx hb dX0_plainFraction_19 rfl (lv_at hl 1 rfl) ?_
    refine va_lald hx hb hK hP 2 1 rfl rfl (by first | assumption | exact x_reg (by assumption) | exact x_regA (by assumption) | exact x_regB (by assumption)) dX0_plainFraction_20 ?_
    refine lv_lconst (v := 0) hx hb dX0_plainFraction_21 (by decide) ?_
    refine lv_aload_n hx hb dX0_plainFraction_22 rfl (lv_at hl 0 rfl) ?_
    refine lv_iload_n hx hb dX0_plainFraction_23 rfl (lv_at hl 1 rfl) ?_
    refine W.callV (r := .int (f_X0_plainShift ft ff a1)) (W.runV (As := [.int a1]) (rest := [.long 0, .long (ff a1.toNatClampNeg)]) ⟨hx, hb, hml, hown, hts⟩ (c_X0_plainShift l dC dI cI cL h0 qt qf ft ff w lt lk lc a1 (by first | assumption | exact x_reg (by assumption) | exact x_regA (by assumption) | exact x_regB (by assumption))) (cwV 1 hts gX0_plainFraction_X0_plainShift rfl rfl rfl (by decide +kernel) ⟨Nat.le_of_ble_eq_true rfl, Nat.le_of_ble_eq_true rfl⟩) (rd_preV hK hP rfl rfl) rfl rfl hl.1 rfl (lv_room (Nat.le_of_ble_eq_true rfl)) dX0_plainFraction_24 ⟨Nat.zero_le _, Nat.zero_le _⟩) ?_
    refine W.eq (g2 := F0 m 27 ls ([.int (f_X0_plainShift ft ff a1), .long 0, .long (ff a1.toNatClampNeg)])) rfl ?_
    refine W.callV (r := .long (f_X0_shiftIn (ff a1.toNatClampNeg) 0 (f_X0_plainShift ft ff a1))) (W.runS (As := [.long (ff a1.toNatClampNeg), .long 0, .int (f_X0_plainShift ft ff a1)]) (rest := []) ⟨hx, hb, hml, hown, hts⟩ (c_X0_shiftIn l (ff a1.toNatClampNeg) 0 (f_X0_plainShift ft ff a1) ) (va_cwS 3 hts gX0_plainFraction_X0_shiftIn rfl rfl rfl (by decide +kernel) ⟨Nat.le_of_ble_eq_true rfl, Nat.le_of_ble_eq_true rfl⟩) pu_pre rfl rfl hl.1 rfl (lv_room (Nat.le_of_ble_eq_true rfl)) dX0_plainFraction_27 ⟨Nat.zero_le _, Nat.zero_le _⟩) ?_
    refine W.eq (g2 := F0 m 30 ls ([.long (f_X0_shiftIn (ff a1.toNatClampNeg) 0 (f_X0_plainShift ft ff a1))])) rfl ?_
    refine w_asl (y := (f_X0_plainFraction ft ff a1)) (by unfold f_X0_plainFraction; rw [if_neg c_1]) ?_
    exact W.lret (v := (f_X0_plainFraction ft ff a1)) hx hb hr (fun t ht _ => ⟨rfl, ht⟩) (fun _ h => nomatch h) dX0_plainFraction_30
  · refine lv_ldc2 (v := (-9223372036854775808)) hx hb hown (hts (.constantLong RX0 62 (-9223372036854775808)) (by decide +kernel)) dX0_plainFraction_11 ?_
    refine w_asl (y := (f_X0_plainFraction ft ff a1)) (by unfold f_X0_plainFraction; rw [if_pos c_1]) ?_
    exact W.lret (v := (f_X0_plainFraction ft ff a1)) hx hb hr (fun t ht _ => ⟨rfl, ht⟩) (fun _ h => nomatch h) dX0_plainFraction_14
def f_X0_plainPower (ft : Nat → Int32) (ff : Nat → Int64) (a1 : Int32) : Int32 :=
  if (f_X0_powerOf ft a1) = 32767 then
    32767
  else
    (if 0 ≤ (lg_cmp (f_X0_plainFraction ft ff a1) 0) then 0 else ((if (f_X0_powerOf ft a1) < 1 then 1 else (f_X0_powerOf ft a1)) - (f_X0_plainShift ft ff a1)))
set_option maxHeartbeats 1000000 in
set_option maxRecDepth 100000 in
theorem c_X0_plainPower (l : Launch) (dC : Nat → ClassId) (dI : Nat → Nat → Nat) (cI cL : ClassId) (h0 qt qf : Nat) (ft : Nat → Int32) (ff : Nat → Int64) (w : Int32) (lt : Int32) (lk : Int32) (lc : Int32) (a1 : Int32) (hr1 : vp_in a1 8) : Met l yX0_plainPower wsX0_plainPower ({ frames := 4, cells := 0, slots := 0, locals := 85 }) (rd_Pc (dC, dI) (x_W cI cL h0 qt qf ft ff w lt lk lc) (x_T cI cL) [.ref h0, .int a1]) (k2_QcV (.int (f_X0_plainPower ft ff a1))) 0 0 (fun _ => False) := by
  refine Met.ofW (cc := cX0_plainPower) (maxL := 2) (ret := (some .int)) (by decide) rfl ?_
  intro p e s m args below meth c s₁ B hml hv
  obtain ⟨rfl, hP, hK⟩ := hv
  have hx := B.exec
  have hb := B.bytes
  have hr := B.returns
  have hts := atoms_spec (ws := wsX0_plainPower) B.pre
  have hown : s.vm.findClass RX0 = some m.cls := findClass_of_methodNamed B.named
  have hlocks := B.notSynchronized
  have hP : va_P (dC, dI) vwCl [(h0, .inr (0, [.ref qt, .ref qf, .int w, .int lt, .int lk, .int lc])), (qt, .inl (cI, 8, .inl ft)), (qf, .inl (cL, 8, .inr (.inl ff)))] s.heap := hP
  have hl := lv_entry ([.ref h0, .int a1]) (n := 2) (Nat.le_of_ble_eq_true rfl)
  rw [lg_entry_eq]
  generalize (lg_sl ([.ref h0, .int a1]) ++ List.replicate (2 - (lg_sl ([.ref h0, .int a1])).length) Slot.unset).toArray = ls at hl ⊢
  have hl : lv_has ls 2 [(0, .ref h0), (1, .int a1)] := hl
  refine lv_aload_n hx hb dX0_plainPower_0 rfl (lv_at hl 0 rfl) ?_
  refine lv_iload_n hx hb dX0_plainPower_1 rfl (lv_at hl 1 rfl) ?_
  refine W.callV (r := .int (f_X0_powerOf ft a1)) (W.runV (As := [.int a1]) (rest := []) ⟨hx, hb, hml, hown, hts⟩ (c_X0_powerOf l dC dI cI cL h0 qt qf ft ff w lt lk lc a1 (by first | assumption | exact x_reg (by assumption) | exact x_regA (by assumption) | exact x_regB (by assumption))) (cwV 1 hts gX0_plainPower_X0_powerOf rfl rfl rfl (by decide +kernel) ⟨Nat.le_of_ble_eq_true rfl, Nat.le_of_ble_eq_true rfl⟩) (rd_preV hK hP rfl rfl) rfl rfl hl.1 rfl (lv_room (Nat.le_of_ble_eq_true rfl)) dX0_plainPower_2 ⟨Nat.zero_le _, Nat.zero_le _⟩) ?_
  refine W.eq (g2 := F0 m 5 ls ([.int (f_X0_powerOf ft a1)])) rfl ?_
  refine lv_sipush (v := 32767) hx hb dX0_plainPower_5 (by decide) ?_
  refine lv_icmp_ne (tgt := 15) hx hb dX0_plainPower_8 (by decide) (fun c_1 => ?_) (fun c_1 => ?_)
  · refine lv_aload_n hx hb dX0_plainPower_15 rfl (lv_at hl 0 rfl) ?_
    refine lv_iload_n hx hb dX0_plainPower_16 rfl (lv_at hl 1 rfl) ?_
    refine W.callV (r := .long (f_X0_plainFraction ft ff a1)) (W.runV (As := [.int a1]) (rest := []) ⟨hx, hb, hml, hown, hts⟩ (c_X0_plainFraction l dC dI cI cL h0 qt qf ft ff w lt lk lc a1 (by first | assumption | exact x_reg (by assumption) | exact x_regA (by assumption) | exact x_regB (by assumption))) (cwV 1 hts gX0_plainPower_X0_plainFraction rfl rfl rfl (by decide +kernel) ⟨Nat.le_of_ble_eq_true rfl, Nat.le_of_ble_eq_true rfl⟩) (rd_preV hK hP rfl rfl) rfl rfl hl.1 rfl (lv_room (Nat.le_of_ble_eq_true rfl)) dX0_plainPower_17 ⟨Nat.zero_le _, Nat.zero_le _⟩) ?_
    refine W.eq (g2 := F0 m 20 ls ([.long (f_X0_plainFraction ft ff a1)])) rfl ?_
    refine lv_lconst (v := 0) hx hb dX0_plainPower_20 (by decide) ?_
    refine W.lcmp hx hb dX0_plainPower_21 ?_
    refine w_join (F0 m 44 ls (.int (if 0 ≤ (lg_cmp (f_X0_plainFraction ft ff a1) 0) then 0 else ((if (f_X0_powerOf ft a1) < 1 then 1 else (f_X0_powerOf ft a1)) - (f_X0_plainShift ft ff a1))) :: [])) ?_ (fun hJ_2 => ?_)
    · refine w_asi (y := (f_X0_plainPower ft ff a1)) (by unfold f_X0_plainPower; rw [if_neg c_1]) ?_
      exact W.iret (v := (f_X0_plainPower ft ff a1)) hx hb hr (fun t ht _ => ⟨rfl, ht⟩) (fun _ h => nomatch h) dX0_plainPower_44
    · refine lv_if_ge (tgt := 43) hx hb dX0_plainPower_22 (by decide) (fun c_3 => ?_) (fun c_3 => ?_)
      · refine lv_iconst (v := 0) hx hb dX0_plainPower_43 (by decide) ?_
        exact W.eq (by rw [if_pos c_3] <;> (repeat (first | rw [if_pos c_3]))) hJ_2
      · refine lv_aload_n hx hb dX0_plainPower_25 rfl (lv_at hl 0 rfl) ?_
        refine lv_iload_n hx hb dX0_plainPower_26 rfl (lv_at hl 1 rfl) ?_
        refine W.callV (r := .int (f_X0_powerOf ft a1)) (W.runV (As := [.int a1]) (rest := []) ⟨hx, hb, hml, hown, hts⟩ (c_X0_powerOf l dC dI cI cL h0 qt qf ft ff w lt lk lc a1 (by first | assumption | exact x_reg (by assumption) | exact x_regA (by assumption) | exact x_regB (by assumption))) (cwV 1 hts gX0_plainPower_X0_powerOf rfl rfl rfl (by decide +kernel) ⟨Nat.le_of_ble_eq_true rfl, Nat.le_of_ble_eq_true rfl⟩) (rd_preV hK hP rfl rfl) rfl rfl hl.1 rfl (lv_room (Nat.le_of_ble_eq_true rfl)) dX0_plainPower_27 ⟨Nat.zero_le _, Nat.zero_le _⟩) ?_
        refine W.eq (g2 := F0 m 30 ls ([.int (f_X0_powerOf ft a1)])) rfl ?_
        refine lv_iconst (v := 1) hx hb dX0_plainPower_30 (by decide) ?_
        refine va_mmax hx hb (hml.trans hl.1.symm) hown (hts (.methodLink RX0 83 Lib.Math.max.name) (by decide +kernel)) (hts (.static Lib.Math.max.name) (by decide +kernel)) (hts (.initialized "java/lang/Math") (by decide +kernel)) (hts (.code Lib.Math.max.name Lib.Math.max.code 2 (some .int)) (by decide +kernel)) (Nat.le_of_ble_eq_true rfl) (Nat.le_of_ble_eq_true rfl) (Nat.zero_le _) (Nat.zero_le _) dX0_plainPower_31 ?_
        refine lv_aload_n hx hb dX0_plainPower_34 rfl (lv_at hl 0 rfl) ?_
        refine lv_iload_n hx hb dX0_plainPower_35 rfl (lv_at hl 1 rfl) ?_
        refine W.callV (r := .int (f_X0_plainShift ft ff a1)) (W.runV (As := [.int a1]) (rest := [.int (if (f_X0_powerOf ft a1) < 1 then 1 else (f_X0_powerOf ft a1))]) ⟨hx, hb, hml, hown, hts⟩ (c_X0_plainShift l dC dI cI cL h0 qt qf ft ff w lt lk lc a1 (by first | assumption | exact x_reg (by assumption) | exact x_regA (by assumption) | exact x_regB (by assumption))) (cwV 1 hts gX0_plainPower_X0_plainShift rfl rfl rfl (by decide +kernel) ⟨Nat.le_of_ble_eq_true rfl, Nat.le_of_ble_eq_true rfl⟩) (rd_preV hK hP rfl rfl) rfl rfl hl.1 rfl (lv_room (Nat.le_of_ble_eq_true rfl)) dX0_plainPower_36 ⟨Nat.zero_le _, Nat.zero_le _⟩) ?_
        refine W.eq (g2 := F0 m 39 ls ([.int (f_X0_plainShift ft ff a1), .int (if (f_X0_powerOf ft a1) < 1 then 1 else (f_X0_powerOf ft a1))])) rfl ?_
        refine lv_isub hx hb dX0_plainPower_39 ?_
        refine lv_goto (tgt := 44) hx hb dX0_plainPower_40 (by decide) ?_
        exact W.eq (by rw [if_neg c_3] <;> (repeat (first | rw [if_neg c_3]))) hJ_2
  · refine lv_sipush (v := 32767) hx hb dX0_plainPower_11 (by decide) ?_
    refine w_asi (y := (f_X0_plainPower ft ff a1)) (by unfold f_X0_plainPower; rw [if_pos c_1]) ?_
    exact W.iret (v := (f_X0_plainPower ft ff a1)) hx hb hr (fun t ht _ => ⟨rfl, ht⟩) (fun _ h => nomatch h) dX0_plainPower_14
def f_X0_compareSizes (ft : Nat → Int32) (ff : Nat → Int64) (a1 : Int32) (a2 : Int32) : Int32 :=
  if (f_X0_plainPower ft ff a1) = (f_X0_plainPower ft ff a2) then
    (f_JI_signum (f_JL_compareUnsigned (f_X0_plainFraction ft ff a1) (f_X0_plainFraction ft ff a2)))
  else
    (if (f_X0_plainPower ft ff a2) ≤ (f_X0_plainPower ft ff a1) then 1 else (-1))
set_option maxHeartbeats 1000000 in
set_option maxRecDepth 100000 in
theorem c_X0_compareSizes (l : Launch) (dC : Nat → ClassId) (dI : Nat → Nat → Nat) (cI cL : ClassId) (h0 qt qf : Nat) (ft : Nat → Int32) (ff : Nat → Int64) (w : Int32) (lt : Int32) (lk : Int32) (lc : Int32) (a1 : Int32) (a2 : Int32) (hr1 : vp_in a1 8) (hr2 : vp_in a2 8) : Met l yX0_compareSizes wsX0_compareSizes ({ frames := 5, cells := 0, slots := 0, locals := 106 }) (rd_Pc (dC, dI) (x_W cI cL h0 qt qf ft ff w lt lk lc) (x_T cI cL) [.ref h0, .int a1, .int a2]) (k2_QcV (.int (f_X0_compareSizes ft ff a1 a2))) 0 0 (fun _ => False) := by
  refine Met.ofW (cc := cX0_compareSizes) (maxL := 5) (ret := (some .int)) (by decide) rfl ?_
  intro p e s m args below meth c s₁ B hml hv
  obtain ⟨rfl, hP, hK⟩ := hv
  have hx := B.exec
  have hb := B.bytes
  have hr := B.returns
  have hts := atoms_spec (ws := wsX0_compareSizes) B.pre
  have hown : s.vm.findClass RX0 = some m.cls := findClass_of_methodNamed B.named
  have hlocks := B.notSynchronized
  have hP : va_P (dC, dI) vwCl [(h0, .inr (0, [.ref qt, .ref qf, .int w, .int lt, .int lk, .int lc])), (qt, .inl (cI, 8, .inl ft)), (qf, .inl (cL, 8, .inr (.inl ff)))] s.heap := hP
  have hl := lv_entry ([.ref h0, .int a1, .int a2]) (n := 5) (Nat.le_of_ble_eq_true rfl)
  rw [lg_entry_eq]
  generalize (lg_sl ([.ref h0, .int a1, .int a2]) ++ List.replicate (5 - (lg_sl ([.ref h0, .int a1, .int a2])).length) Slot.unset).toArray = ls at hl ⊢
  have hl : lv_has ls 5 [(0, .ref h0), (1, .int a1), (2, .int a2)] := hl
  refine lv_aload_n hx hb dX0_compareSizes_0 rfl (lv_at hl 0 rfl) ?_
  refine lv_iload_n hx hb dX0_compareSizes_1 rfl (lv_at hl 1 rfl) ?_
  refine W.callV (r := .int (f_X0_plainPower ft ff a1)) (W.runV (As := [.int a1]) (rest := []) ⟨hx, hb, hml, hown, hts⟩ (c_X0_plainPower l dC dI cI cL h0 qt qf ft ff w lt lk lc a1 (by first | assumption | exact x_reg (by assumption) | exact x_regA (by assumption) | exact x_regB (by assumption))) (cwV 1 hts gX0_compareSizes_X0_plainPower rfl rfl rfl (by decide +kernel) ⟨Nat.le_of_ble_eq_true rfl, Nat.le_of_ble_eq_true rfl⟩) (rd_preV hK hP rfl rfl) rfl rfl hl.1 rfl (lv_room (Nat.le_of_ble_eq_true rfl)) dX0_compareSizes_2 ⟨Nat.zero_le _, Nat.zero_le _⟩) ?_
  refine W.eq (g2 := F0 m 5 ls ([.int (f_X0_plainPower ft ff a1)])) rfl ?_
  refine lv_istore_n (lv' := [(3, .int (f_X0_plainPower ft ff a1)), (0, .ref h0), (1, .int a1), (2, .int a2)]) hx hb dX0_compareSizes_5 rfl hl (by decide) rfl (fun ls hl => ?_)
  refine lv_aload_n hx hb dX0_compareSizes_6 rfl (lv_at hl 1 rfl) ?_
  refine lv_iload_n hx hb dX0_compareSizes_7 rfl (lv_at hl 3 rfl) ?_
  refine W.callV (r := .int (f_X0_plainPower ft ff a2)) (W.runV (As := [.int a2]) (rest := []) ⟨hx, hb, hml, hown, hts⟩ (c_X0_plainPower l dC dI cI cL h0 qt qf ft ff w lt lk lc a2 (by first | assumption | exact x_reg (by assumption) | exact x_regA (by assumption) | exact x_regB (by assumption))) (cwV 1 hts gX0_compareSizes_X0_plainPower rfl rfl rfl (by decide +kernel) ⟨Nat.le_of_ble_eq_true rfl, Nat.le_of_ble_eq_true rfl⟩) (rd_preV hK hP rfl rfl) rfl rfl hl.1 rfl (lv_room (Nat.le_of_ble_eq_true rfl)) dX0_compareSizes_8 ⟨Nat.zero_le _, Nat.zero_le _⟩) ?_
  refine W.eq (g2 := F0 m 11 ls ([.int (f_X0_plainPower ft ff a2)])) rfl ?_
  refine lv_istore (lv' := [(4, .int (f_X0_plainPower ft ff a2)), (3, .int (f_X0_plainPower ft ff a1)), (0, .ref h0), (1, .int a1), (2, .int a2)]) hx hb dX0_compareSizes_11 hl (by decide) rfl (fun ls hl => ?_)
  refine lv_iload_n hx hb dX0_compareSizes_13 rfl (lv_at hl 1 rfl) ?_
  refine lv_iload hx hb dX0_compareSizes_14 (lv_at hl 0 rfl) ?_
  refine lv_icmp_eq (tgt := 31) hx hb dX0_compareSizes_16 (by decide) (fun c_1 => ?_) (fun c_1 => ?_)
  · refine lv_aload_n hx hb dX0_compareSizes_31 rfl (lv_at hl 2 rfl) ?_
    refine lv_iload_n hx hb dX0_compareSizes_32 rfl (lv_at hl 3 rfl) ?_
    refine W.callV (r := .long (f_X0_plainFraction ft ff a1)) (W.runV (As := [.int a1]) (rest := []) ⟨hx, hb, hml, hown, hts⟩ (c_X0_plainFraction l dC dI cI cL h0 qt qf ft ff w lt lk lc a1 (by first | assumption | exact x_reg (by assumption) | exact x_regA (by assumption) | exact x_regB (by assumption))) (cwV 1 hts gX0_compareSizes_X0_plainFraction rfl rfl rfl (by decide +kernel) ⟨Nat.le_of_ble_eq_true rfl, Nat.le_of_ble_eq_true rfl⟩) (rd_preV hK hP rfl rfl) rfl rfl hl.1 rfl (lv_room (Nat.le_of_ble_eq_true rfl)) dX0_compareSizes_33 ⟨Nat.zero_le _, Nat.zero_le _⟩) ?_
    refine W.eq (g2 := F0 m 36 ls ([.long (f_X0_plainFraction ft ff a1)])) rfl ?_
    refine lv_aload_n hx hb dX0_compareSizes_36 rfl (lv_at hl 2 rfl) ?_
    refine lv_iload_n hx hb dX0_compareSizes_37 rfl (lv_at hl 4 rfl) ?_
    refine W.callV (r := .long (f_X0_plainFraction ft ff a2)) (W.runV (As := [.int a2]) (rest := [.long (f_X0_plainFraction ft ff a1)]) ⟨hx, hb, hml, hown, hts⟩ (c_X0_plainFraction l dC dI cI cL h0 qt qf ft ff w lt lk lc a2 (by first | assumption | exact x_reg (by assumption) | exact x_regA (by assumption) | exact x_regB (by assumption))) (cwV 1 hts gX0_compareSizes_X0_plainFraction rfl rfl rfl (by decide +kernel) ⟨Nat.le_of_ble_eq_true rfl, Nat.le_of_ble_eq_true rfl⟩) (rd_preV hK hP rfl rfl) rfl rfl hl.1 rfl (lv_room (Nat.le_of_ble_eq_true rfl)) dX0_compareSizes_38 ⟨Nat.zero_le _, Nat.zero_le _⟩) ?_
    refine W.eq (g2 := F0 m 41 ls ([.long (f_X0_plainFraction ft ff a2), .long (f_X0_plainFraction ft ff a1)])) rfl ?_
    refine W.callV (r := .int (f_JL_compareUnsigned (f_X0_plainFraction ft ff a1) (f_X0_plainFraction ft ff a2))) (W.runS (As := [.long (f_X0_plainFraction ft ff a1), .long (f_X0_plainFraction ft ff a2)]) (rest := []) ⟨hx, hb, hml, hown, hts⟩ (c_JL_compareUnsigned l (f_X0_plainFraction ft ff a1) (f_X0_plainFraction ft ff a2) ) (va_cwS 2 hts gX0_compareSizes_JL_compareUnsigned rfl rfl rfl (by decide +kernel) ⟨Nat.le_of_ble_eq_true rfl, Nat.le_of_ble_eq_true rfl⟩) pu_pre rfl rfl hl.1 rfl (lv_room (Nat.le_of_ble_eq_true rfl)) dX0_compareSizes_41 ⟨Nat.zero_le _, Nat.zero_le _⟩) ?_
    refine W.eq (g2 := F0 m 44 ls ([.int (f_JL_compareUnsigned (f_X0_plainFraction ft ff a1) (f_X0_plainFraction ft ff a2))])) rfl ?_
    refine W.callV (r := .int (f_JI_signum (f_JL_compareUnsigned (f_X0_plainFraction ft ff a1) (f_X0_plainFraction ft ff a2)))) (W.runS (As := [.int (f_JL_compareUnsigned (f_X0_plainFraction ft ff a1) (f_X0_plainFraction ft ff a2))]) (rest := []) ⟨hx, hb, hml, hown, hts⟩ (c_JI_signum l (f_JL_compareUnsigned (f_X0_plainFraction ft ff a1) (f_X0_plainFraction ft ff a2)) ) (va_cwS 1 hts gX0_compareSizes_JI_signum rfl rfl rfl (by decide +kernel) ⟨Nat.le_of_ble_eq_true rfl, Nat.le_of_ble_eq_true rfl⟩) pu_pre rfl rfl hl.1 rfl (lv_room (Nat.le_of_ble_eq_true rfl)) dX0_compareSizes_44 ⟨Nat.zero_le _, Nat.zero_le _⟩) ?_
    refine W.eq (g2 := F0 m 47 ls ([.int (f_JI_signum (f_JL_compareUnsigned (f_X0_plainFraction ft ff a1) (f_X0_plainFraction ft ff a2)))])) rfl ?_
    refine w_asi (y := (f_X0_compareSizes ft ff a1 a2)) (by unfold f_X0_compareSizes; rw [if_pos c_1]) ?_
    exact W.iret (v := (f_X0_compareSizes ft ff a1 a2)) hx hb hr (fun t ht _ => ⟨rfl, ht⟩) (fun _ h => nomatch h) dX0_compareSizes_47
  · refine lv_iload_n hx hb dX0_compareSizes_19 rfl (lv_at hl 1 rfl) ?_
    refine lv_iload hx hb dX0_compareSizes_20 (lv_at hl 0 rfl) ?_
    refine w_join (F0 m 30 ls (.int (if (f_X0_plainPower ft ff a2) ≤ (f_X0_plainPower ft ff a1) then 1 else (-1)) :: [])) ?_ (fun hJ_2 => ?_)
    · refine w_asi (y := (f_X0_compareSizes ft ff a1 a2)) (by unfold f_X0_compareSizes; rw [if_neg c_1]) ?_
      exact W.iret (v := (f_X0_compareSizes ft ff a1 a2)) hx hb hr (fun t ht _ => ⟨rfl, ht⟩) (fun _ h => nomatch h) dX0_compareSizes_30
    · refine lv_icmp_ge (tgt := 29) hx hb dX0_compareSizes_22 (by decide) (fun c_3 => ?_) (fun c_3 => ?_)
      · refine lv_iconst (v := 1) hx hb dX0_compareSizes_29 (by decide) ?_
        exact W.eq (by rw [if_pos c_3] <;> (repeat (first | rw [if_pos c_3]))) hJ_2
      · refine lv_iconst (v := (-1)) hx hb dX0_compareSizes_25 (by decide) ?_
        refine lv_goto (tgt := 30) hx hb dX0_compareSizes_26 (by decide) ?_
        exact W.eq (by rw [if_neg c_3] <;> (repeat (first | rw [if_neg c_3]))) hJ_2
