def f_X0_control (ft : Nat → Int32) (ff : Nat → Int64) (w : Int32) (lt : Int32) (lk : Int32) (lc : Int32) (a1 : Int32) : Nat × XS :=
  if (f_X0_hasMoreThan16Bits a1) = 0 then
    (0, ft, ff, a1, lt, lk, lc)
  else
    (2, ft, ff, w, lt, lk, lc)
set_option maxHeartbeats 1000000 in
set_option maxRecDepth 100000 in
theorem c_X0_control (l : Launch) (hfl : l.stackTraces = false) (dC : Nat → ClassId) (dI : Nat → Nat → Nat) (cI cL : ClassId) (h0 qt qf : Nat) (sz : Nat) (ft : Nat → Int32) (ff : Nat → Int64) (w : Int32) (lt : Int32) (lk : Int32) (lc : Int32) (a1 : Int32) : vx_Met l yX0_control wsX0_control ({ frames := 6, cells := 1, slots := 6, locals := 82 }) (tw_Pc (dC, dI) (x_W cI cL h0 qt qf ft ff w lt lk lc) (x_T cI cL) sz [.ref h0, .int a1]) (tw_Qv (dC, dI) (x_WU cI cL h0 qt qf) (f_X0_control ft ff w lt lk lc a1) (va_A (x_W cI cL h0 qt qf ft ff w lt lk lc) sz)) (tw_X (dC, dI) (x_W cI cL h0 qt qf ft ff w lt lk lc) (f_X0_control ft ff w lt lk lc a1).1 (va_A (x_W cI cL h0 qt qf ft ff w lt lk lc) sz)) 1 6 (va_A (x_W cI cL h0 qt qf ft ff w lt lk lc) sz) := by
  refine vx_ofW (cc := cX0_control) (maxL := 2) (ret := none) (by decide) rfl ?_
  intro p e s m args below meth c s₁ B hml hEx hv
  obtain ⟨rfl, hsz, hP, hK, hD0, hE⟩ := hv
  have hx := B.exec
  have hb := B.bytes
  have hr := B.returns
  have hts := atoms_spec (ws := wsX0_control) B.pre
  have hown : s.vm.findClass RX0 = some m.cls := findClass_of_methodNamed B.named
  have hlocks := B.notSynchronized
  have hin_X0 : ∀ w ∈ u_ws RX0 TX0 6, w ∈ wsX0_control := by decide +kernel
  subst hsz
  have hD := hD0.self (sz := s.heap.size)
  generalize hAe : va_A (x_W cI cL h0 qt qf ft ff w lt lk lc) s.heap.size = A at hD hE ⊢
  have hA : ∀ q : Nat, s.heap.size ≤ q → A q := fun q h => by rw [← hAe]; exact Or.inr h
  have hS : va_S A s.heap s.heap [] := va_S.rf
  have hD : va_D A [(h0, .inr (0, [.ref qt, .ref qf, .int w, .int lt, .int lk, .int lc])), (qt, .inl (cI, 8, .inl ft)), (qf, .inl (cL, 8, .inr (.inl ff)))] := hD
  have hP : va_P (dC, dI) vwCl [(h0, .inr (0, [.ref qt, .ref qf, .int w, .int lt, .int lk, .int lc])), (qt, .inl (cI, 8, .inl ft)), (qf, .inl (cL, 8, .inr (.inl ff)))] s.heap := hP
  have hl := lv_entry ([.ref h0, .int a1]) (n := 2) (Nat.le_of_ble_eq_true rfl)
  rw [lg_entry_eq]
  generalize (lg_sl ([.ref h0, .int a1]) ++ List.replicate (2 - (lg_sl ([.ref h0, .int a1])).length) Slot.unset).toArray = ls at hl ⊢
  have hl : lv_has ls 2 [(0, .ref h0), (1, .int a1)] := hl
  refine lv_iload_n hx hb dX0_control_0 rfl (lv_at hl 1 rfl) ?_
  refine W.callV (r := .int (f_X0_hasMoreThan16Bits a1)) (W.runS (As := [.int a1]) (rest := []) ⟨hx, hb, hml, hown, hts⟩ (c_X0_hasMoreThan16Bits l a1 ) (va_cwS 1 hts gX0_control_X0_hasMoreThan16Bits rfl rfl rfl (by decide +kernel) ⟨Nat.le_of_ble_eq_true rfl, Nat.le_of_ble_eq_true rfl⟩) pu_pre rfl rfl hl.1 rfl (lv_room (Nat.le_of_ble_eq_true rfl)) dX0_control_1 ⟨Nat.zero_le _, Nat.zero_le _⟩) ?_
  refine W.eq (g2 := F0 m 4 ls ([.int (f_X0_hasMoreThan16Bits a1)])) rfl ?_
  refine lv_if_eq (tgt := 17) hx hb dX0_control_4 (by decide) (fun c_1 => ?_) (fun c_1 => ?_)
  · refine lv_aload_n hx hb dX0_control_17 rfl (lv_at hl 0 rfl) ?_
    refine lv_iload_n hx hb dX0_control_18 rfl (lv_at hl 1 rfl) ?_
    refine va_put (D := (dC, dI)) (ci := 0) (v := .int a1) (ty := .int) (C := RX0) (T := TX0) (N := 6) hx hb hts hin_X0 tyX0 tyX0_ok nmX0 hown hK hP hD hS 0 rfl rfl 2 (by decide) (hts (.fieldLink RX0 17 "TemporaryReals" "word" "I") (by decide +kernel)) (fun _ h9 => h9) rfl (by decide +kernel) rfl rfl (Nat.le_of_ble_eq_true rfl) dX0_control_19 (fun H locs hP hD hS => ?_)
    have hP : va_P (dC, dI) vwCl [(h0, .inr (0, [.ref qt, .ref qf, .int a1, .int lt, .int lk, .int lc])), (qt, .inl (cI, 8, .inl ft)), (qf, .inl (cL, 8, .inr (.inl ff)))] H := hP
    have hD : va_D A [(h0, .inr (0, [.ref qt, .ref qf, .int a1, .int lt, .int lk, .int lc])), (qt, .inl (cI, 8, .inl ft)), (qf, .inl (cL, 8, .inr (.inl ff)))] := hD
    refine W.widen (k := 1) (n := 6) (Nat.zero_le _) (Nat.zero_le _) ?_
    exact vx_ret (W.vret hx hb hr (fun t ht hW => ⟨⟨(ft, ff, a1, lt, lk, lc), rfl, (show (f_X0_control ft ff w lt lk lc a1) = ((0, (ft, ff, a1, lt, lk, lc)) : Nat × XS) from by unfold f_X0_control; rw [if_pos c_1]; first | done | rfl).symm, by rw [ht, x_WU_mk]; exact hP, by rw [x_WU_mk]; exact hD⟩, hS.F ht⟩) hS.2.2 dX0_control_22)
  · obtain ⟨sa, hsa⟩ := xv_s27 hE.2.2
    refine vx_throwS (own := RX0) (cls := "java/lang/IllegalArgumentException") (names := ["java/lang/RuntimeException", "java/lang/Exception"]) hx hb hfl hown (by decide +kernel) (by decide +kernel) (hts (.classLink RX0 25 "java/lang/IllegalArgumentException") (by decide +kernel)) (hts (.initialized "java/lang/IllegalArgumentException") (by decide +kernel)) hsa (vx_hat (L := vx_atS RX0 29 "java/lang/IllegalArgumentException" ["java/lang/RuntimeException", "java/lang/Exception"]) (B := xB2) (fun w hw => hts w ((by decide +kernel : ∀ w ∈ (vx_atS RX0 29 "java/lang/IllegalArgumentException" ["java/lang/RuntimeException", "java/lang/Exception"]).filter goodWord, w ∈ wsX0_control) w hw)) (by decide +kernel) (xv_B2 hE.2.2)) (by decide +kernel) hE.1 hE.2.1 hS (hl.1.trans hml.symm) dX0_control_7 dX0_control_10 dX0_control_11 dX0_control_13 dX0_control_16 (fun x hx => (hEx x hx).elim) (by decide) (by decide) (by decide) (by decide) hlocks (tw_x (k := ((f_X0_control ft ff w lt lk lc a1)).1) (show tw_E ((f_X0_control ft ff w lt lk lc a1)).1 "java/lang/IllegalArgumentException" from (by rw [show (f_X0_control ft ff w lt lk lc a1) = ((2, ft, ff, w, lt, lk, lc) : Nat × XS) from by unfold f_X0_control; rw [if_neg c_1]]; exact tw_E2)) hP hS) hS.2.2 (by decide) (by decide)
def f_X0_set (ft : Nat → Int32) (ff : Nat → Int64) (w : Int32) (lt : Int32) (lk : Int32) (lc : Int32) (a1 : Int32) (a2 : Int32) (a3 : Int32) (a4 : Int32) : Nat × XS :=
  if (f_X0_isNoRegister a1) = 0 then
    if (f_X0_hasMoreThan16Bits a2) = 0 then
      (0, (upd ft a1.toNatClampNeg a2), (vp_updL ff a1.toNatClampNeg (f_X0_join a3 a4)), w, lt, lk, lc)
    else
      (2, ft, ff, w, lt, lk, lc)
  else
    (1, ft, ff, w, lt, lk, lc)
set_option maxHeartbeats 1000000 in
set_option maxRecDepth 100000 in
theorem c_X0_set (l : Launch) (hfl : l.stackTraces = false) (dC : Nat → ClassId) (dI : Nat → Nat → Nat) (cI cL : ClassId) (h0 qt qf : Nat) (sz : Nat) (ft : Nat → Int32) (ff : Nat → Int64) (w : Int32) (lt : Int32) (lk : Int32) (lc : Int32) (a1 : Int32) (a2 : Int32) (a3 : Int32) (a4 : Int32) : vx_Met l yX0_set wsX0_set ({ frames := 6, cells := 1, slots := 6, locals := 82 }) (tw_Pc (dC, dI) (x_W cI cL h0 qt qf ft ff w lt lk lc) (x_T cI cL) sz [.ref h0, .int a1, .int a2, .int a3, .int a4]) (tw_Qv (dC, dI) (x_WU cI cL h0 qt qf) (f_X0_set ft ff w lt lk lc a1 a2 a3 a4) (va_A (x_W cI cL h0 qt qf ft ff w lt lk lc) sz)) (tw_X (dC, dI) (x_W cI cL h0 qt qf ft ff w lt lk lc) (f_X0_set ft ff w lt lk lc a1 a2 a3 a4).1 (va_A (x_W cI cL h0 qt qf ft ff w lt lk lc) sz)) 1 6 (va_A (x_W cI cL h0 qt qf ft ff w lt lk lc) sz) := by
  refine vx_ofW (cc := cX0_set) (maxL := 5) (ret := none) (by decide) rfl ?_
  intro p e s m args below meth c s₁ B hml hEx hv
  obtain ⟨rfl, hsz, hP, hK, hD0, hE⟩ := hv
  have hx := B.exec
  have hb := B.bytes
  have hr := B.returns
  have hts := atoms_spec (ws := wsX0_set) B.pre
  have hown : s.vm.findClass RX0 = some m.cls := findClass_of_methodNamed B.named
  have hlocks := B.notSynchronized
  have hin_X0 : ∀ w ∈ u_ws RX0 TX0 6, w ∈ wsX0_set := by decide +kernel
  subst hsz
  have hD := hD0.self (sz := s.heap.size)
  generalize hAe : va_A (x_W cI cL h0 qt qf ft ff w lt lk lc) s.heap.size = A at hD hE ⊢
  have hA : ∀ q : Nat, s.heap.size ≤ q → A q := fun q h => by rw [← hAe]; exact Or.inr h
  have hS : va_S A s.heap s.heap [] := va_S.rf
  have hD : va_D A [(h0, .inr (0, [.ref qt, .ref qf, .int w, .int lt, .int lk, .int lc])), (qt, .inl (cI, 8, .inl ft)), (qf, .inl (cL, 8, .inr (.inl ff)))] := hD
  have hP : va_P (dC, dI) vwCl [(h0, .inr (0, [.ref qt, .ref qf, .int w, .int lt, .int lk, .int lc])), (qt, .inl (cI, 8, .inl ft)), (qf, .inl (cL, 8, .inr (.inl ff)))] s.heap := hP
  have hl := lv_entry ([.ref h0, .int a1, .int a2, .int a3, .int a4]) (n := 5) (Nat.le_of_ble_eq_true rfl)
  rw [lg_entry_eq]
  generalize (lg_sl ([.ref h0, .int a1, .int a2, .int a3, .int a4]) ++ List.replicate (5 - (lg_sl ([.ref h0, .int a1, .int a2, .int a3, .int a4])).length) Slot.unset).toArray = ls at hl ⊢
  have hl : lv_has ls 5 [(0, .ref h0), (1, .int a1), (2, .int a2), (3, .int a3), (4, .int a4)] := hl
  refine lv_iload_n hx hb dX0_set_0 rfl (lv_at hl 1 rfl) ?_
  refine W.callV (r := .int (f_X0_isNoRegister a1)) (W.runS (As := [.int a1]) (rest := []) ⟨hx, hb, hml, hown, hts⟩ (c_X0_isNoRegister l a1 ) (va_cwS 1 hts gX0_set_X0_isNoRegister rfl rfl rfl (by decide +kernel) ⟨Nat.le_of_ble_eq_true rfl, Nat.le_of_ble_eq_true rfl⟩) pu_pre rfl rfl hl.1 rfl (lv_room (Nat.le_of_ble_eq_true rfl)) dX0_set_1 ⟨Nat.zero_le _, Nat.zero_le _⟩) ?_
  refine W.eq (g2 := F0 m 4 ls ([.int (f_X0_isNoRegister a1)])) rfl ?_
  refine lv_if_eq (tgt := 17) hx hb dX0_set_4 (by decide) (fun c_1 => ?_) (fun c_1 => ?_)
  · refine lv_iload_n hx hb dX0_set_17 rfl (lv_at hl 2 rfl) ?_
    refine W.callV (r := .int (f_X0_hasMoreThan16Bits a2)) (W.runS (As := [.int a2]) (rest := []) ⟨hx, hb, hml, hown, hts⟩ (c_X0_hasMoreThan16Bits l a2 ) (va_cwS 1 hts gX0_set_X0_hasMoreThan16Bits rfl rfl rfl (by decide +kernel) ⟨Nat.le_of_ble_eq_true rfl, Nat.le_of_ble_eq_true rfl⟩) pu_pre rfl rfl hl.1 rfl (lv_room (Nat.le_of_ble_eq_true rfl)) dX0_set_18 ⟨Nat.zero_le _, Nat.zero_le _⟩) ?_
    refine W.eq (g2 := F0 m 21 ls ([.int (f_X0_hasMoreThan16Bits a2)])) rfl ?_
    refine lv_if_eq (tgt := 34) hx hb dX0_set_21 (by decide) (fun c_2 => ?_) (fun c_2 => ?_)
    · refine lv_aload_n hx hb dX0_set_34 rfl (lv_at hl 0 rfl) ?_
      refine va_get (D := (dC, dI)) (ci := 0) (v := .ref qt) (C := RX0) (T := TX0) (N := 6) hx hb hts hin_X0 hown hK hP 0 rfl rfl 0 (by decide) (hts (.fieldLink RX0 9 "TemporaryReals" "tops" "[I") (by decide +kernel)) (fun _ h9 => h9) rfl dX0_set_35 ?_
      refine lv_iload_n hx hb dX0_set_38 rfl (lv_at hl 1 rfl) ?_
      refine lv_iload_n hx hb dX0_set_39 rfl (lv_at hl 2 rfl) ?_
      refine va_iast hx hb hK hP hD hS 1 0 rfl rfl (by first | assumption | exact x_reg (by assumption) | exact x_regA (by assumption) | exact x_regB (by assumption)) dX0_set_40 (fun H locs hP hD hS => ?_)
      have hP : va_P (dC, dI) vwCl [(h0, .inr (0, [.ref qt, .ref qf, .int w, .int lt, .int lk, .int lc])), (qt, .inl (cI, 8, .inl (upd ft a1.toNatClampNeg a2))), (qf, .inl (cL, 8, .inr (.inl ff)))] H := hP
      have hD : va_D A [(h0, .inr (0, [.ref qt, .ref qf, .int w, .int lt, .int lk, .int lc])), (qt, .inl (cI, 8, .inl (upd ft a1.toNatClampNeg a2))), (qf, .inl (cL, 8, .inr (.inl ff)))] := hD
      refine lv_aload_n hx hb dX0_set_41 rfl (lv_at hl 0 rfl) ?_
      refine va_get (D := (dC, dI)) (ci := 0) (v := .ref qf) (C := RX0) (T := TX0) (N := 6) hx hb hts hin_X0 hown hK hP 0 rfl rfl 1 (by decide) (hts (.fieldLink RX0 13 "TemporaryReals" "fractions" "[J") (by decide +kernel)) (fun _ h9 => h9) rfl dX0_set_42 ?_
      refine lv_iload_n hx hb dX0_set_45 rfl (lv_at hl 1 rfl) ?_
      refine lv_iload_n hx hb dX0_set_46 rfl (lv_at hl 3 rfl) ?_
      refine lv_iload hx hb dX0_set_47 (lv_at hl 4 rfl) ?_
      refine W.callV (r := .long (f_X0_join a3 a4)) (W.runS (As := [.int a3, .int a4]) (rest := [.int a1, .ref qf]) ⟨hx, hb, hml, hown, hts⟩ (c_X0_join l a3 a4 ) (va_cwS 2 hts gX0_set_X0_join rfl rfl rfl (by decide +kernel) ⟨Nat.le_of_ble_eq_true rfl, Nat.le_of_ble_eq_true rfl⟩) pu_pre rfl rfl hl.1 rfl (lv_room (Nat.le_of_ble_eq_true rfl)) dX0_set_49 ⟨Nat.zero_le _, Nat.zero_le _⟩) ?_
      refine W.eq (g2 := F0 m 52 ls ([.long (f_X0_join a3 a4), .int a1, .ref qf])) rfl ?_
      refine va_last hx hb hK hP hD hS 2 1 rfl rfl (by first | assumption | exact x_reg (by assumption) | exact x_regA (by assumption) | exact x_regB (by assumption)) dX0_set_52 (fun H locs hP hD hS => ?_)
      have hP : va_P (dC, dI) vwCl [(h0, .inr (0, [.ref qt, .ref qf, .int w, .int lt, .int lk, .int lc])), (qt, .inl (cI, 8, .inl (upd ft a1.toNatClampNeg a2))), (qf, .inl (cL, 8, .inr (.inl (vp_updL ff a1.toNatClampNeg (f_X0_join a3 a4)))))] H := hP
      have hD : va_D A [(h0, .inr (0, [.ref qt, .ref qf, .int w, .int lt, .int lk, .int lc])), (qt, .inl (cI, 8, .inl (upd ft a1.toNatClampNeg a2))), (qf, .inl (cL, 8, .inr (.inl (vp_updL ff a1.toNatClampNeg (f_X0_join a3 a4)))))] := hD
      refine W.widen (k := 1) (n := 6) (Nat.zero_le _) (Nat.zero_le _) ?_
      exact vx_ret (W.vret hx hb hr (fun t ht hW => ⟨⟨((upd ft a1.toNatClampNeg a2), (vp_updL ff a1.toNatClampNeg (f_X0_join a3 a4)), w, lt, lk, lc), rfl, (show (f_X0_set ft ff w lt lk lc a1 a2 a3 a4) = ((0, ((upd ft a1.toNatClampNeg a2), (vp_updL ff a1.toNatClampNeg (f_X0_join a3 a4)), w, lt, lk, lc)) : Nat × XS) from by unfold f_X0_set; rw [if_pos c_1, if_pos c_2]; first | done | rfl).symm, by rw [ht, x_WU_mk]; exact hP, by rw [x_WU_mk]; exact hD⟩, hS.F ht⟩) hS.2.2 dX0_set_53)
    · obtain ⟨sa, hsa⟩ := xv_s40 hE.2.2
      refine vx_throwS (own := RX0) (cls := "java/lang/IllegalArgumentException") (names := ["java/lang/RuntimeException", "java/lang/Exception"]) hx hb hfl hown (by decide +kernel) (by decide +kernel) (hts (.classLink RX0 25 "java/lang/IllegalArgumentException") (by decide +kernel)) (hts (.initialized "java/lang/IllegalArgumentException") (by decide +kernel)) hsa (vx_hat (L := vx_atS RX0 29 "java/lang/IllegalArgumentException" ["java/lang/RuntimeException", "java/lang/Exception"]) (B := xB2) (fun w hw => hts w ((by decide +kernel : ∀ w ∈ (vx_atS RX0 29 "java/lang/IllegalArgumentException" ["java/lang/RuntimeException", "java/lang/Exception"]).filter goodWord, w ∈ wsX0_set) w hw)) (by decide +kernel) (xv_B2 hE.2.2)) (by decide +kernel) hE.1 hE.2.1 hS (hl.1.trans hml.symm) dX0_set_24 dX0_set_27 dX0_set_28 dX0_set_30 dX0_set_33 (fun x hx => (hEx x hx).elim) (by decide) (by decide) (by decide) (by decide) hlocks (tw_x (k := ((f_X0_set ft ff w lt lk lc a1 a2 a3 a4)).1) (show tw_E ((f_X0_set ft ff w lt lk lc a1 a2 a3 a4)).1 "java/lang/IllegalArgumentException" from (by rw [show (f_X0_set ft ff w lt lk lc a1 a2 a3 a4) = ((2, ft, ff, w, lt, lk, lc) : Nat × XS) from by unfold f_X0_set; rw [if_pos c_1, if_neg c_2]]; exact tw_E2)) hP hS) hS.2.2 (by decide) (by decide)
  · obtain ⟨sa, hsa⟩ := xv_s37 hE.2.2
    refine vx_throwS (own := RX0) (cls := "java/lang/IndexOutOfBoundsException") (names := ["java/lang/RuntimeException", "java/lang/Exception"]) hx hb hfl hown (by decide +kernel) (by decide +kernel) (hts (.classLink RX0 35 "java/lang/IndexOutOfBoundsException") (by decide +kernel)) (hts (.initialized "java/lang/IndexOutOfBoundsException") (by decide +kernel)) hsa (vx_hat (L := vx_atS RX0 39 "java/lang/IndexOutOfBoundsException" ["java/lang/RuntimeException", "java/lang/Exception"]) (B := xB1) (fun w hw => hts w ((by decide +kernel : ∀ w ∈ (vx_atS RX0 39 "java/lang/IndexOutOfBoundsException" ["java/lang/RuntimeException", "java/lang/Exception"]).filter goodWord, w ∈ wsX0_set) w hw)) (by decide +kernel) (xv_B1 hE.2.2)) (by decide +kernel) hE.1 hE.2.1 hS (hl.1.trans hml.symm) dX0_set_7 dX0_set_10 dX0_set_11 dX0_set_13 dX0_set_16 (fun x hx => (hEx x hx).elim) (by decide) (by decide) (by decide) (by decide) hlocks (tw_x (k := ((f_X0_set ft ff w lt lk lc a1 a2 a3 a4)).1) (show tw_E ((f_X0_set ft ff w lt lk lc a1 a2 a3 a4)).1 "java/lang/IndexOutOfBoundsException" from (by rw [show (f_X0_set ft ff w lt lk lc a1 a2 a3 a4) = ((1, ft, ff, w, lt, lk, lc) : Nat × XS) from by unfold f_X0_set; rw [if_neg c_1]]; exact tw_E1)) hP hS) hS.2.2 (by decide) (by decide)
def f_X0_part (ft : Nat → Int32) (ff : Nat → Int64) (w : Int32) (lt : Int32) (lk : Int32) (lc : Int32) (a1 : Int32) (a2 : Int32) : Nat × Int32 × XS :=
  if (f_X0_isNoRegister a1) = 0 then
    if a2 = 0 then
      (0, (ft a1.toNatClampNeg), ft, ff, w, lt, lk, lc)
    else
      if a2 = 1 then
        (0, (Int64.toInt32 ((Int64.toUInt64 (ff a1.toNatClampNeg) >>> ((Int32.toInt64 32).toUInt64 &&& Int64.toUInt64 63)).toInt64)), ft, ff, w, lt, lk, lc)
      else
        if a2 = 2 then
          (0, (Int64.toInt32 (ff a1.toNatClampNeg)), ft, ff, w, lt, lk, lc)
        else
          if a2 = 3 then
            (0, (f_X0_kindOf ft ff a1), ft, ff, w, lt, lk, lc)
          else
            if a2 = 4 then
              (0, (f_JL_numberOfLeadingZeros (ff a1.toNatClampNeg)), ft, ff, w, lt, lk, lc)
            else
              (2, 0, ft, ff, w, lt, lk, lc)
  else
    (1, 0, ft, ff, w, lt, lk, lc)
set_option maxHeartbeats 1000000 in
set_option maxRecDepth 100000 in
theorem c_X0_part (l : Launch) (hfl : l.stackTraces = false) (dC : Nat → ClassId) (dI : Nat → Nat → Nat) (cI cL : ClassId) (h0 qt qf : Nat) (sz : Nat) (ft : Nat → Int32) (ff : Nat → Int64) (w : Int32) (lt : Int32) (lk : Int32) (lc : Int32) (a1 : Int32) (a2 : Int32) : vx_Met l yX0_part wsX0_part ({ frames := 6, cells := 1, slots := 6, locals := 82 }) (tw_Pc (dC, dI) (x_W cI cL h0 qt qf ft ff w lt lk lc) (x_T cI cL) sz [.ref h0, .int a1, .int a2]) (tw_Qi (dC, dI) (x_WU cI cL h0 qt qf) (f_X0_part ft ff w lt lk lc a1 a2) (va_A (x_W cI cL h0 qt qf ft ff w lt lk lc) sz)) (tw_X (dC, dI) (x_W cI cL h0 qt qf ft ff w lt lk lc) (f_X0_part ft ff w lt lk lc a1 a2).1 (va_A (x_W cI cL h0 qt qf ft ff w lt lk lc) sz)) 1 6 (va_A (x_W cI cL h0 qt qf ft ff w lt lk lc) sz) := by
  refine vx_ofW (cc := cX0_part) (maxL := 3) (ret := (some .int)) (by decide) rfl ?_
  intro p e s m args below meth c s₁ B hml hEx hv
  obtain ⟨rfl, hsz, hP, hK, hD0, hE⟩ := hv
  have hx := B.exec
  have hb := B.bytes
  have hr := B.returns
  have hts := atoms_spec (ws := wsX0_part) B.pre
  have hown : s.vm.findClass RX0 = some m.cls := findClass_of_methodNamed B.named
  have hlocks := B.notSynchronized
  have hin_X0 : ∀ w ∈ u_ws RX0 TX0 6, w ∈ wsX0_part := by decide +kernel
  subst hsz
  have hD := hD0.self (sz := s.heap.size)
  generalize hAe : va_A (x_W cI cL h0 qt qf ft ff w lt lk lc) s.heap.size = A at hD hE ⊢
  have hA : ∀ q : Nat, s.heap.size ≤ q → A q := fun q h => by rw [← hAe]; exact Or.inr h
  have hS : va_S A s.heap s.heap [] := va_S.rf
  have hD : va_D A [(h0, .inr (0, [.ref qt, .ref qf, .int w, .int lt, .int lk, .int lc])), (qt, .inl (cI, 8, .inl ft)), (qf, .inl (cL, 8, .inr (.inl ff)))] := hD
  have hP : va_P (dC, dI) vwCl [(h0, .inr (0, [.ref qt, .ref qf, .int w, .int lt, .int lk, .int lc])), (qt, .inl (cI, 8, .inl ft)), (qf, .inl (cL, 8, .inr (.inl ff)))] s.heap := hP
  have hl := lv_entry ([.ref h0, .int a1, .int a2]) (n := 3) (Nat.le_of_ble_eq_true rfl)
  rw [lg_entry_eq]
  generalize (lg_sl ([.ref h0, .int a1, .int a2]) ++ List.replicate (3 - (lg_sl ([.ref h0, .int a1, .int a2])).length) Slot.unset).toArray = ls at hl ⊢
  have hl : lv_has ls 3 [(0, .ref h0), (1, .int a1), (2, .int a2)] := hl
  refine lv_iload_n hx hb dX0_part_0 rfl (lv_at hl 1 rfl) ?_
  refine W.callV (r := .int (f_X0_isNoRegister a1)) (W.runS (As := [.int a1]) (rest := []) ⟨hx, hb, hml, hown, hts⟩ (c_X0_isNoRegister l a1 ) (va_cwS 1 hts gX0_part_X0_isNoRegister rfl rfl rfl (by decide +kernel) ⟨Nat.le_of_ble_eq_true rfl, Nat.le_of_ble_eq_true rfl⟩) pu_pre rfl rfl hl.1 rfl (lv_room (Nat.le_of_ble_eq_true rfl)) dX0_part_1 ⟨Nat.zero_le _, Nat.zero_le _⟩) ?_
  refine W.eq (g2 := F0 m 4 ls ([.int (f_X0_isNoRegister a1)])) rfl ?_
  refine lv_if_eq (tgt := 17) hx hb dX0_part_4 (by decide) (fun c_1 => ?_) (fun c_1 => ?_)
  · refine lv_iload_n hx hb dX0_part_17 rfl (lv_at hl 2 rfl) ?_
    by_cases c_2 : a2 = 0
    · refine lv_tableIn (off := 34) (tgt := 52) hx hb dX0_part_18 (by rw [c_2]; decide) (by rw [c_2]; decide) (by rw [c_2]; rfl) (by decide) ?_
      refine lv_aload_n hx hb dX0_part_52 rfl (lv_at hl 0 rfl) ?_
      refine va_get (D := (dC, dI)) (ci := 0) (v := .ref qt) (C := RX0) (T := TX0) (N := 6) hx hb hts hin_X0 hown hK hP 0 rfl rfl 0 (by decide) (hts (.fieldLink RX0 9 "TemporaryReals" "tops" "[I") (by decide +kernel)) (fun _ h9 => h9) rfl dX0_part_53 ?_
      refine lv_iload_n hx hb dX0_part_56 rfl (lv_at hl 1 rfl) ?_
      refine va_iald hx hb hK hP 1 0 rfl rfl (by first | assumption | exact x_reg (by assumption) | exact x_regA (by assumption) | exact x_regB (by assumption)) dX0_part_57 ?_
      refine W.widen (k := 1) (n := 6) (Nat.zero_le _) (Nat.zero_le _) ?_
      exact vx_ret (W.iret (v := (ft a1.toNatClampNeg)) hx hb hr (fun t ht hW => ⟨⟨(ft a1.toNatClampNeg), (ft, ff, w, lt, lk, lc), rfl, (show (f_X0_part ft ff w lt lk lc a1 a2) = ((0, (ft a1.toNatClampNeg), (ft, ff, w, lt, lk, lc)) : Nat × Int32 × XS) from by unfold f_X0_part; rw [if_pos c_1, if_pos c_2]; first | done | rfl).symm, by rw [ht, x_WU_mk]; exact hP, by rw [x_WU_mk]; exact hD⟩, hS.F ht⟩) hS.2.2 dX0_part_58)
    by_cases c_3 : a2 = 1
    · refine lv_tableIn (off := 41) (tgt := 59) hx hb dX0_part_18 (by rw [c_3]; decide) (by rw [c_3]; decide) (by rw [c_3]; rfl) (by decide) ?_
      refine lv_aload_n hx hb dX0_part_59 rfl (lv_at hl 0 rfl) ?_
      refine va_get (D := (dC, dI)) (ci := 0) (v := .ref qf) (C := RX0) (T := TX0) (N := 6) hx hb hts hin_X0 hown hK hP 0 rfl rfl 1 (by decide) (hts (.fieldLink RX0 13 "TemporaryReals" "fractions" "[J") (by decide +kernel)) (fun _ h9 => h9) rfl dX0_part_60 ?_
      refine lv_iload_n hx hb dX0_part_63 rfl (lv_at hl 1 rfl) ?_
      refine va_lald hx hb hK hP 2 1 rfl rfl (by first | assumption | exact x_reg (by assumption) | exact x_regA (by assumption) | exact x_regB (by assumption)) dX0_part_64 ?_
      refine lv_bipush (v := 32) hx hb dX0_part_65 (by decide) ?_
      refine lv_lushr hx hb dX0_part_67 rfl ?_
      refine lv_l2i hx hb dX0_part_68 rfl ?_
      refine W.widen (k := 1) (n := 6) (Nat.zero_le _) (Nat.zero_le _) ?_
      exact vx_ret (W.iret (v := (Int64.toInt32 ((Int64.toUInt64 (ff a1.toNatClampNeg) >>> ((Int32.toInt64 32).toUInt64 &&& Int64.toUInt64 63)).toInt64))) hx hb hr (fun t ht hW => ⟨⟨(Int64.toInt32 ((Int64.toUInt64 (ff a1.toNatClampNeg) >>> ((Int32.toInt64 32).toUInt64 &&& Int64.toUInt64 63)).toInt64)), (ft, ff, w, lt, lk, lc), rfl, (show (f_X0_part ft ff w lt lk lc a1 a2) = ((0, (Int64.toInt32 ((Int64.toUInt64 (ff a1.toNatClampNeg) >>> ((Int32.toInt64 32).toUInt64 &&& Int64.toUInt64 63)).toInt64)), (ft, ff, w, lt, lk, lc)) : Nat × Int32 × XS) from by unfold f_X0_part; rw [if_pos c_1, if_neg c_2, if_pos c_3]; first | done | rfl).symm, by rw [ht, x_WU_mk]; exact hP, by rw [x_WU_mk]; exact hD⟩, hS.F ht⟩) hS.2.2 dX0_part_69)
    by_cases c_4 : a2 = 2
    · refine lv_tableIn (off := 52) (tgt := 70) hx hb dX0_part_18 (by rw [c_4]; decide) (by rw [c_4]; decide) (by rw [c_4]; rfl) (by decide) ?_
      refine lv_aload_n hx hb dX0_part_70 rfl (lv_at hl 0 rfl) ?_
      refine va_get (D := (dC, dI)) (ci := 0) (v := .ref qf) (C := RX0) (T := TX0) (N := 6) hx hb hts hin_X0 hown hK hP 0 rfl rfl 1 (by decide) (hts (.fieldLink RX0 13 "TemporaryReals" "fractions" "[J") (by decide +kernel)) (fun _ h9 => h9) rfl dX0_part_71 ?_
      refine lv_iload_n hx hb dX0_part_74 rfl (lv_at hl 1 rfl) ?_
      refine va_lald hx hb hK hP 2 1 rfl rfl (by first | assumption | exact x_reg (by assumption) | exact x_regA (by assumption) | exact x_regB (by assumption)) dX0_part_75 ?_
      refine lv_l2i hx hb dX0_part_76 rfl ?_
      refine W.widen (k := 1) (n := 6) (Nat.zero_le _) (Nat.zero_le _) ?_
      exact vx_ret (W.iret (v := (Int64.toInt32 (ff a1.toNatClampNeg))) hx hb hr (fun t ht hW => ⟨⟨(Int64.toInt32 (ff a1.toNatClampNeg)), (ft, ff, w, lt, lk, lc), rfl, (show (f_X0_part ft ff w lt lk lc a1 a2) = ((0, (Int64.toInt32 (ff a1.toNatClampNeg)), (ft, ff, w, lt, lk, lc)) : Nat × Int32 × XS) from by unfold f_X0_part; rw [if_pos c_1, if_neg c_2, if_neg c_3, if_pos c_4]; first | done | rfl).symm, by rw [ht, x_WU_mk]; exact hP, by rw [x_WU_mk]; exact hD⟩, hS.F ht⟩) hS.2.2 dX0_part_77)
    by_cases c_5 : a2 = 3
    · refine lv_tableIn (off := 60) (tgt := 78) hx hb dX0_part_18 (by rw [c_5]; decide) (by rw [c_5]; decide) (by rw [c_5]; rfl) (by decide) ?_
      refine lv_aload_n hx hb dX0_part_78 rfl (lv_at hl 0 rfl) ?_
      refine lv_iload_n hx hb dX0_part_79 rfl (lv_at hl 1 rfl) ?_
      refine W.callV (r := .int (f_X0_kindOf ft ff a1)) (W.runV (As := [.int a1]) (rest := []) ⟨hx, hb, hml, hown, hts⟩ (c_X0_kindOf l dC dI cI cL h0 qt qf ft ff w lt lk lc a1 (by first | assumption | exact x_reg (by assumption) | exact x_regA (by assumption) | exact x_regB (by assumption))) (cwV 1 hts gX0_part_X0_kindOf rfl rfl rfl (by decide +kernel) ⟨Nat.le_of_ble_eq_true rfl, Nat.le_of_ble_eq_true rfl⟩) (rd_preV hK hP rfl rfl) rfl rfl hl.1 rfl (lv_room (Nat.le_of_ble_eq_true rfl)) dX0_part_80 ⟨Nat.zero_le _, Nat.zero_le _⟩) ?_
      refine W.eq (g2 := F0 m 83 ls ([.int (f_X0_kindOf ft ff a1)])) rfl ?_
      refine W.widen (k := 1) (n := 6) (Nat.zero_le _) (Nat.zero_le _) ?_
      exact vx_ret (W.iret (v := (f_X0_kindOf ft ff a1)) hx hb hr (fun t ht hW => ⟨⟨(f_X0_kindOf ft ff a1), (ft, ff, w, lt, lk, lc), rfl, (show (f_X0_part ft ff w lt lk lc a1 a2) = ((0, (f_X0_kindOf ft ff a1), (ft, ff, w, lt, lk, lc)) : Nat × Int32 × XS) from by unfold f_X0_part; rw [if_pos c_1, if_neg c_2, if_neg c_3, if_neg c_4, if_pos c_5]; first | done | rfl).symm, by rw [ht, x_WU_mk]; exact hP, by rw [x_WU_mk]; exact hD⟩, hS.F ht⟩) hS.2.2 dX0_part_83)
    by_cases c_6 : a2 = 4
    · refine lv_tableIn (off := 66) (tgt := 84) hx hb dX0_part_18 (by rw [c_6]; decide) (by rw [c_6]; decide) (by rw [c_6]; rfl) (by decide) ?_
      refine lv_aload_n hx hb dX0_part_84 rfl (lv_at hl 0 rfl) ?_
      refine va_get (D := (dC, dI)) (ci := 0) (v := .ref qf) (C := RX0) (T := TX0) (N := 6) hx hb hts hin_X0 hown hK hP 0 rfl rfl 1 (by decide) (hts (.fieldLink RX0 13 "TemporaryReals" "fractions" "[J") (by decide +kernel)) (fun _ h9 => h9) rfl dX0_part_85 ?_
      refine lv_iload_n hx hb dX0_part_88 rfl (lv_at hl 1 rfl) ?_
      refine va_lald hx hb hK hP 2 1 rfl rfl (by first | assumption | exact x_reg (by assumption) | exact x_regA (by assumption) | exact x_regB (by assumption)) dX0_part_89 ?_
      refine W.callV (r := .int (f_JL_numberOfLeadingZeros (ff a1.toNatClampNeg))) (W.runS (As := [.long (ff a1.toNatClampNeg)]) (rest := []) ⟨hx, hb, hml, hown, hts⟩ (c_JL_numberOfLeadingZeros l (ff a1.toNatClampNeg) ) (va_cwS 1 hts gX0_part_JL_numberOfLeadingZeros rfl rfl rfl (by decide +kernel) ⟨Nat.le_of_ble_eq_true rfl, Nat.le_of_ble_eq_true rfl⟩) pu_pre rfl rfl hl.1 rfl (lv_room (Nat.le_of_ble_eq_true rfl)) dX0_part_90 ⟨Nat.zero_le _, Nat.zero_le _⟩) ?_
      refine W.eq (g2 := F0 m 93 ls ([.int (f_JL_numberOfLeadingZeros (ff a1.toNatClampNeg))])) rfl ?_
      refine W.widen (k := 1) (n := 6) (Nat.zero_le _) (Nat.zero_le _) ?_
      exact vx_ret (W.iret (v := (f_JL_numberOfLeadingZeros (ff a1.toNatClampNeg))) hx hb hr (fun t ht hW => ⟨⟨(f_JL_numberOfLeadingZeros (ff a1.toNatClampNeg)), (ft, ff, w, lt, lk, lc), rfl, (show (f_X0_part ft ff w lt lk lc a1 a2) = ((0, (f_JL_numberOfLeadingZeros (ff a1.toNatClampNeg)), (ft, ff, w, lt, lk, lc)) : Nat × Int32 × XS) from by unfold f_X0_part; rw [if_pos c_1, if_neg c_2, if_neg c_3, if_neg c_4, if_neg c_5, if_pos c_6]; first | done | rfl).symm, by rw [ht, x_WU_mk]; exact hP, by rw [x_WU_mk]; exact hD⟩, hS.F ht⟩) hS.2.2 dX0_part_93)
    have nc_2 := lv_neT c_2 (a := 0) (by decide)
    have nc_3 := lv_neT c_3 (a := 1) (by decide)
    have nc_4 := lv_neT c_4 (a := 2) (by decide)
    have nc_5 := lv_neT c_5 (a := 3) (by decide)
    have nc_6 := lv_neT c_6 (a := 4) (by decide)
    refine lv_tableOut (tgt := 94) hx hb dX0_part_18 (by omega) (by decide) ?_
    obtain ⟨sa, hsa⟩ := xv_s56 hE.2.2
    refine vx_throwS (own := RX0) (cls := "java/lang/IllegalArgumentException") (names := ["java/lang/RuntimeException", "java/lang/Exception"]) hx hb hfl hown (by decide +kernel) (by decide +kernel) (hts (.classLink RX0 25 "java/lang/IllegalArgumentException") (by decide +kernel)) (hts (.initialized "java/lang/IllegalArgumentException") (by decide +kernel)) hsa (vx_hat (L := vx_atS RX0 29 "java/lang/IllegalArgumentException" ["java/lang/RuntimeException", "java/lang/Exception"]) (B := xB2) (fun w hw => hts w ((by decide +kernel : ∀ w ∈ (vx_atS RX0 29 "java/lang/IllegalArgumentException" ["java/lang/RuntimeException", "java/lang/Exception"]).filter goodWord, w ∈ wsX0_part) w hw)) (by decide +kernel) (xv_B2 hE.2.2)) (by decide +kernel) hE.1 hE.2.1 hS (hl.1.trans hml.symm) dX0_part_94 dX0_part_97 dX0_part_98 dX0_part_100 dX0_part_103 (fun x hx => (hEx x hx).elim) (by decide) (by decide) (by decide) (by decide) hlocks (tw_x (k := ((f_X0_part ft ff w lt lk lc a1 a2)).1) (show tw_E ((f_X0_part ft ff w lt lk lc a1 a2)).1 "java/lang/IllegalArgumentException" from (by rw [show (f_X0_part ft ff w lt lk lc a1 a2) = ((2, 0, ft, ff, w, lt, lk, lc) : Nat × Int32 × XS) from by unfold f_X0_part; rw [if_pos c_1, if_neg c_2, if_neg c_3, if_neg c_4, if_neg c_5, if_neg c_6]]; exact tw_E2)) hP hS) hS.2.2 (by decide) (by decide)
  · obtain ⟨sa, hsa⟩ := xv_s37 hE.2.2
    refine vx_throwS (own := RX0) (cls := "java/lang/IndexOutOfBoundsException") (names := ["java/lang/RuntimeException", "java/lang/Exception"]) hx hb hfl hown (by decide +kernel) (by decide +kernel) (hts (.classLink RX0 35 "java/lang/IndexOutOfBoundsException") (by decide +kernel)) (hts (.initialized "java/lang/IndexOutOfBoundsException") (by decide +kernel)) hsa (vx_hat (L := vx_atS RX0 39 "java/lang/IndexOutOfBoundsException" ["java/lang/RuntimeException", "java/lang/Exception"]) (B := xB1) (fun w hw => hts w ((by decide +kernel : ∀ w ∈ (vx_atS RX0 39 "java/lang/IndexOutOfBoundsException" ["java/lang/RuntimeException", "java/lang/Exception"]).filter goodWord, w ∈ wsX0_part) w hw)) (by decide +kernel) (xv_B1 hE.2.2)) (by decide +kernel) hE.1 hE.2.1 hS (hl.1.trans hml.symm) dX0_part_7 dX0_part_10 dX0_part_11 dX0_part_13 dX0_part_16 (fun x hx => (hEx x hx).elim) (by decide) (by decide) (by decide) (by decide) hlocks (tw_x (k := ((f_X0_part ft ff w lt lk lc a1 a2)).1) (show tw_E ((f_X0_part ft ff w lt lk lc a1 a2)).1 "java/lang/IndexOutOfBoundsException" from (by rw [show (f_X0_part ft ff w lt lk lc a1 a2) = ((1, 0, ft, ff, w, lt, lk, lc) : Nat × Int32 × XS) from by unfold f_X0_part; rw [if_neg c_1]]; exact tw_E1)) hP hS) hS.2.2 (by decide) (by decide)
def f_X0_again (ft : Nat → Int32) (ff : Nat → Int64) (w : Int32) (lt : Int32) (lk : Int32) (lc : Int32) (a1 : Int32) (a2 : Int32) : Nat × Int32 × XS :=
  if (if (f_X0_isNoRegister a1) = 0 then (if (f_X0_isNoRegister a2) = 0 then false else true) else true) = true then
    (1, 0, ft, ff, w, lt, lk, lc)
  else
    if (if (f_X0_kindOf ft ff a1) = 4 then true else (if (f_X0_kindOf ft ff a1) = 5 then true else false)) = true then
      (0, 0, (upd ft a2.toNatClampNeg (ft a1.toNatClampNeg)), (vp_updL ff a2.toNatClampNeg (ff a1.toNatClampNeg)), w, 0, 0, 0)
    else
      (0, (f_X0_makeSize ft ff w lt lk lc a2 (f_X0_isNegative ft a1) (((if (f_X0_powerOf ft a1) < 1 then 1 else (f_X0_powerOf ft a1)) - 16383) - (f_JL_numberOfLeadingZeros (ff a1.toNatClampNeg))) (f_X0_shiftIn (ff a1.toNatClampNeg) 0 (f_JL_numberOfLeadingZeros (ff a1.toNatClampNeg))) 0))
set_option maxHeartbeats 1000000 in
set_option maxRecDepth 100000 in
theorem c_X0_again (l : Launch) (hfl : l.stackTraces = false) (dC : Nat → ClassId) (dI : Nat → Nat → Nat) (cI cL : ClassId) (h0 qt qf : Nat) (sz : Nat) (ft : Nat → Int32) (ff : Nat → Int64) (w : Int32) (lt : Int32) (lk : Int32) (lc : Int32) (a1 : Int32) (a2 : Int32) : vx_Met l yX0_again wsX0_again ({ frames := 6, cells := 1, slots := 6, locals := 131 }) (tw_Pc (dC, dI) (x_W cI cL h0 qt qf ft ff w lt lk lc) (x_T cI cL) sz [.ref h0, .int a1, .int a2]) (tw_Qi (dC, dI) (x_WU cI cL h0 qt qf) (f_X0_again ft ff w lt lk lc a1 a2) (va_A (x_W cI cL h0 qt qf ft ff w lt lk lc) sz)) (tw_X (dC, dI) (x_W cI cL h0 qt qf ft ff w lt lk lc) (f_X0_again ft ff w lt lk lc a1 a2).1 (va_A (x_W cI cL h0 qt qf ft ff w lt lk lc) sz)) 1 6 (va_A (x_W cI cL h0 qt qf ft ff w lt lk lc) sz) := by
  refine vx_ofW (cc := cX0_again) (maxL := 8) (ret := (some .int)) (by decide) rfl ?_
  intro p e s m args below meth c s₁ B hml hEx hv
  obtain ⟨rfl, hsz, hP, hK, hD0, hE⟩ := hv
  have hx := B.exec
  have hb := B.bytes
  have hr := B.returns
  have hts := atoms_spec (ws := wsX0_again) B.pre
  have hown : s.vm.findClass RX0 = some m.cls := findClass_of_methodNamed B.named
  have hlocks := B.notSynchronized
  have hin_X0 : ∀ w ∈ u_ws RX0 TX0 6, w ∈ wsX0_again := by decide +kernel
  subst hsz
  have hD := hD0.self (sz := s.heap.size)
  generalize hAe : va_A (x_W cI cL h0 qt qf ft ff w lt lk lc) s.heap.size = A at hD hE ⊢
  have hA : ∀ q : Nat, s.heap.size ≤ q → A q := fun q h => by rw [← hAe]; exact Or.inr h
  have hS : va_S A s.heap s.heap [] := va_S.rf
  have hD : va_D A [(h0, .inr (0, [.ref qt, .ref qf, .int w, .int lt, .int lk, .int lc])), (qt, .inl (cI, 8, .inl ft)), (qf, .inl (cL, 8, .inr (.inl ff)))] := hD
  have hP : va_P (dC, dI) vwCl [(h0, .inr (0, [.ref qt, .ref qf, .int w, .int lt, .int lk, .int lc])), (qt, .inl (cI, 8, .inl ft)), (qf, .inl (cL, 8, .inr (.inl ff)))] s.heap := hP
  have hl := lv_entry ([.ref h0, .int a1, .int a2]) (n := 8) (Nat.le_of_ble_eq_true rfl)
  rw [lg_entry_eq]
  generalize (lg_sl ([.ref h0, .int a1, .int a2]) ++ List.replicate (8 - (lg_sl ([.ref h0, .int a1, .int a2])).length) Slot.unset).toArray = ls at hl ⊢
  have hl : lv_has ls 8 [(0, .ref h0), (1, .int a1), (2, .int a2)] := hl
  refine lv_iload_n hx hb dX0_again_0 rfl (lv_at hl 1 rfl) ?_
  refine W.callV (r := .int (f_X0_isNoRegister a1)) (W.runS (As := [.int a1]) (rest := []) ⟨hx, hb, hml, hown, hts⟩ (c_X0_isNoRegister l a1 ) (va_cwS 1 hts gX0_again_X0_isNoRegister rfl rfl rfl (by decide +kernel) ⟨Nat.le_of_ble_eq_true rfl, Nat.le_of_ble_eq_true rfl⟩) pu_pre rfl rfl hl.1 rfl (lv_room (Nat.le_of_ble_eq_true rfl)) dX0_again_1 ⟨Nat.zero_le _, Nat.zero_le _⟩) ?_
  refine W.eq (g2 := F0 m 4 ls ([.int (f_X0_isNoRegister a1)])) rfl ?_
  by_cases cV_1 : (if (f_X0_isNoRegister a1) = 0 then (if (f_X0_isNoRegister a2) = 0 then false else true) else true) = true
  · refine w_join (F0 m 14 ls ([])) ?_ (fun hJ_2 => ?_)
    · obtain ⟨sa, hsa⟩ := xv_s37 hE.2.2
      refine vx_throwS (own := RX0) (cls := "java/lang/IndexOutOfBoundsException") (names := ["java/lang/RuntimeException", "java/lang/Exception"]) hx hb hfl hown (by decide +kernel) (by decide +kernel) (hts (.classLink RX0 35 "java/lang/IndexOutOfBoundsException") (by decide +kernel)) (hts (.initialized "java/lang/IndexOutOfBoundsException") (by decide +kernel)) hsa (vx_hat (L := vx_atS RX0 39 "java/lang/IndexOutOfBoundsException" ["java/lang/RuntimeException", "java/lang/Exception"]) (B := xB1) (fun w hw => hts w ((by decide +kernel : ∀ w ∈ (vx_atS RX0 39 "java/lang/IndexOutOfBoundsException" ["java/lang/RuntimeException", "java/lang/Exception"]).filter goodWord, w ∈ wsX0_again) w hw)) (by decide +kernel) (xv_B1 hE.2.2)) (by decide +kernel) hE.1 hE.2.1 hS (hl.1.trans hml.symm) dX0_again_14 dX0_again_17 dX0_again_18 dX0_again_20 dX0_again_23 (fun x hx => (hEx x hx).elim) (by decide) (by decide) (by decide) (by decide) hlocks (tw_x (k := ((f_X0_again ft ff w lt lk lc a1 a2)).1) (show tw_E ((f_X0_again ft ff w lt lk lc a1 a2)).1 "java/lang/IndexOutOfBoundsException" from (by rw [show (f_X0_again ft ff w lt lk lc a1 a2) = ((1, 0, ft, ff, w, lt, lk, lc) : Nat × Int32 × XS) from by unfold f_X0_again; rw [if_pos cV_1]]; exact tw_E1)) hP hS) hS.2.2 (by decide) (by decide)
    · refine lv_if_ne (tgt := 14) hx hb dX0_again_4 (by decide) (fun c_3 => ?_) (fun c_3 => ?_)
      · exact hJ_2
      · refine lv_iload_n hx hb dX0_again_7 rfl (lv_at hl 2 rfl) ?_
        refine W.callV (r := .int (f_X0_isNoRegister a2)) (W.runS (As := [.int a2]) (rest := []) ⟨hx, hb, hml, hown, hts⟩ (c_X0_isNoRegister l a2 ) (va_cwS 1 hts gX0_again_X0_isNoRegister rfl rfl rfl (by decide +kernel) ⟨Nat.le_of_ble_eq_true rfl, Nat.le_of_ble_eq_true rfl⟩) pu_pre rfl rfl hl.1 rfl (lv_room (Nat.le_of_ble_eq_true rfl)) dX0_again_8 ⟨Nat.zero_le _, Nat.zero_le _⟩) ?_
        refine W.eq (g2 := F0 m 11 ls ([.int (f_X0_isNoRegister a2)])) rfl ?_
        refine lv_if_eq (tgt := 24) hx hb dX0_again_11 (by decide) (fun c_4 => ?_) (fun c_4 => ?_)
        · exact absurd cV_1 (by rw [if_pos c_3, if_pos c_4]; exact Bool.false_ne_true)
        · exact hJ_2
  · refine w_join (F0 m 24 ls ([])) ?_ (fun hJ_2 => ?_)
    · refine lv_aload_n hx hb dX0_again_24 rfl (lv_at hl 0 rfl) ?_
      refine lv_iload_n hx hb dX0_again_25 rfl (lv_at hl 1 rfl) ?_
      refine W.callV (r := .int (f_X0_kindOf ft ff a1)) (W.runV (As := [.int a1]) (rest := []) ⟨hx, hb, hml, hown, hts⟩ (c_X0_kindOf l dC dI cI cL h0 qt qf ft ff w lt lk lc a1 (by first | assumption | exact x_reg (by assumption) | exact x_regA (by assumption) | exact x_regB (by assumption))) (cwV 1 hts gX0_again_X0_kindOf rfl rfl rfl (by decide +kernel) ⟨Nat.le_of_ble_eq_true rfl, Nat.le_of_ble_eq_true rfl⟩) (rd_preV hK hP rfl rfl) rfl rfl hl.1 rfl (lv_room (Nat.le_of_ble_eq_true rfl)) dX0_again_26 ⟨Nat.zero_le _, Nat.zero_le _⟩) ?_
      refine W.eq (g2 := F0 m 29 ls ([.int (f_X0_kindOf ft ff a1)])) rfl ?_
      refine lv_istore_n (lv' := [(3, .int (f_X0_kindOf ft ff a1)), (0, .ref h0), (1, .int a1), (2, .int a2)]) hx hb dX0_again_29 rfl hl (by decide) rfl (fun ls hl => ?_)
      refine lv_iload_n hx hb dX0_again_30 rfl (lv_at hl 0 rfl) ?_
      refine lv_iconst (v := 4) hx hb dX0_again_31 (by decide) ?_
      by_cases cV_7 : (if (f_X0_kindOf ft ff a1) = 4 then true else (if (f_X0_kindOf ft ff a1) = 5 then true else false)) = true
      · refine w_join (F0 m 40 ls ([])) ?_ (fun hJ_8 => ?_)
        · refine lv_aload_n hx hb dX0_again_40 rfl (lv_at hl 1 rfl) ?_
          refine lv_iload_n hx hb dX0_again_41 rfl (lv_at hl 2 rfl) ?_
          refine lv_iload_n hx hb dX0_again_42 rfl (lv_at hl 3 rfl) ?_
          refine wr_callv (D := (dC, dI)) (v9 := ((upd ft a2.toNatClampNeg (ft a1.toNatClampNeg)), (vp_updL ff a2.toNatClampNeg (ff a1.toNatClampNeg)), w, lt, lk, lc)) (va_runV (As := [.int a1, .int a2]) (rest := []) ⟨hx, hb, hml, hown, hts⟩ (c_X0_copy l dC dI cI cL h0 qt qf s.heap.size ft ff w lt lk lc a1 a2 (by first | assumption | exact x_reg (by assumption) | exact x_regA (by assumption) | exact x_regB (by assumption)) (by first | assumption | exact x_reg (by assumption) | exact x_regA (by assumption) | exact x_regB (by assumption))) (cwV 2 hts gX0_again_X0_copy rfl rfl rfl (by decide +kernel) ⟨Nat.le_of_ble_eq_true rfl, Nat.le_of_ble_eq_true rfl⟩) (wr_preV hK hP hD rfl rfl) rfl rfl hl.1 rfl (lv_room (Nat.le_of_ble_eq_true rfl)) dX0_again_43 ⟨Nat.zero_le _, Nat.zero_le _⟩) rfl hD hS hA (fun H locs hP hD hS => ?_)
          rw [x_WU_mk] at hP hD
          have hP : va_P (dC, dI) vwCl [(h0, .inr (0, [.ref qt, .ref qf, .int w, .int lt, .int lk, .int lc])), (qt, .inl (cI, 8, .inl (upd ft a2.toNatClampNeg (ft a1.toNatClampNeg)))), (qf, .inl (cL, 8, .inr (.inl (vp_updL ff a2.toNatClampNeg (ff a1.toNatClampNeg)))))] H := hP
          have hD : va_D A [(h0, .inr (0, [.ref qt, .ref qf, .int w, .int lt, .int lk, .int lc])), (qt, .inl (cI, 8, .inl (upd ft a2.toNatClampNeg (ft a1.toNatClampNeg)))), (qf, .inl (cL, 8, .inr (.inl (vp_updL ff a2.toNatClampNeg (ff a1.toNatClampNeg)))))] := hD
          refine W.eq (g2 := F0 m 46 ls ([])) rfl ?_
          refine lv_aload_n hx hb dX0_again_46 rfl (lv_at hl 1 rfl) ?_
          refine lv_iconst (v := 0) hx hb dX0_again_47 (by decide) ?_
          refine lv_iconst (v := 0) hx hb dX0_again_48 (by decide) ?_
          refine lv_iconst (v := 0) hx hb dX0_again_49 (by decide) ?_
          refine wr_calli (D := (dC, dI)) (v9 := (0, ((upd ft a2.toNatClampNeg (ft a1.toNatClampNeg)), (vp_updL ff a2.toNatClampNeg (ff a1.toNatClampNeg)), w, 0, 0, 0))) (va_runV (As := [.int 0, .int 0, .int 0]) (rest := []) ⟨hx, hb, hml, hown, hts⟩ (c_X0_tell l dC dI cI cL h0 qt qf H.size (upd ft a2.toNatClampNeg (ft a1.toNatClampNeg)) (vp_updL ff a2.toNatClampNeg (ff a1.toNatClampNeg)) w lt lk lc 0 0 0 ) (cwV 3 hts gX0_again_X0_tell rfl rfl rfl (by decide +kernel) ⟨Nat.le_of_ble_eq_true rfl, Nat.le_of_ble_eq_true rfl⟩) (wr_preV hK hP hD rfl rfl) rfl rfl hl.1 rfl (lv_room (Nat.le_of_ble_eq_true rfl)) dX0_again_50 ⟨Nat.zero_le _, Nat.zero_le _⟩) rfl hD hS hA (fun H locs hP hD hS => ?_)
          rw [x_WU_mk] at hP hD
          have hP : va_P (dC, dI) vwCl [(h0, .inr (0, [.ref qt, .ref qf, .int w, .int 0, .int 0, .int 0])), (qt, .inl (cI, 8, .inl (upd ft a2.toNatClampNeg (ft a1.toNatClampNeg)))), (qf, .inl (cL, 8, .inr (.inl (vp_updL ff a2.toNatClampNeg (ff a1.toNatClampNeg)))))] H := hP
          have hD : va_D A [(h0, .inr (0, [.ref qt, .ref qf, .int w, .int 0, .int 0, .int 0])), (qt, .inl (cI, 8, .inl (upd ft a2.toNatClampNeg (ft a1.toNatClampNeg)))), (qf, .inl (cL, 8, .inr (.inl (vp_updL ff a2.toNatClampNeg (ff a1.toNatClampNeg)))))] := hD
          refine W.eq (g2 := F0 m 53 ls ([.int 0])) rfl ?_
          refine W.widen (k := 1) (n := 6) (Nat.zero_le _) (Nat.zero_le _) ?_
          exact vx_ret (W.iret (v := 0) hx hb hr (fun t ht hW => ⟨⟨0, ((upd ft a2.toNatClampNeg (ft a1.toNatClampNeg)), (vp_updL ff a2.toNatClampNeg (ff a1.toNatClampNeg)), w, 0, 0, 0), rfl, (show (f_X0_again ft ff w lt lk lc a1 a2) = ((0, 0, ((upd ft a2.toNatClampNeg (ft a1.toNatClampNeg)), (vp_updL ff a2.toNatClampNeg (ff a1.toNatClampNeg)), w, 0, 0, 0)) : Nat × Int32 × XS) from by unfold f_X0_again; rw [if_neg cV_1, if_pos cV_7]; first | done | rfl).symm, by rw [ht, x_WU_mk]; exact hP, by rw [x_WU_mk]; exact hD⟩, hS.F ht⟩) hS.2.2 dX0_again_53)
        · refine lv_icmp_eq (tgt := 40) hx hb dX0_again_32 (by decide) (fun c_9 => ?_) (fun c_9 => ?_)
          · exact hJ_8
          · refine lv_iload_n hx hb dX0_again_35 rfl (lv_at hl 0 rfl) ?_
            refine lv_iconst (v := 5) hx hb dX0_again_36 (by decide) ?_
            refine lv_icmp_ne (tgt := 54) hx hb dX0_again_37 (by decide) (fun c_10 => ?_) (fun c_10 => ?_)
            · exact absurd cV_7 (by rw [if_neg c_9, if_neg c_10]; exact Bool.false_ne_true)
            · exact hJ_8
      · refine w_join (F0 m 54 ls ([])) ?_ (fun hJ_8 => ?_)
        · refine lv_aload_n hx hb dX0_again_54 rfl (lv_at hl 1 rfl) ?_
          refine va_get (D := (dC, dI)) (ci := 0) (v := .ref qf) (C := RX0) (T := TX0) (N := 6) hx hb hts hin_X0 hown hK hP 0 rfl rfl 1 (by decide) (hts (.fieldLink RX0 13 "TemporaryReals" "fractions" "[J") (by decide +kernel)) (fun _ h9 => h9) rfl dX0_again_55 ?_
          refine lv_iload_n hx hb dX0_again_58 rfl (lv_at hl 2 rfl) ?_
          refine va_lald hx hb hK hP 2 1 rfl rfl (by first | assumption | exact x_reg (by assumption) | exact x_regA (by assumption) | exact x_regB (by assumption)) dX0_again_59 ?_
          refine lv_lstore (lv' := [(4, .long (ff a1.toNatClampNeg)), (3, .int (f_X0_kindOf ft ff a1)), (0, .ref h0), (1, .int a1), (2, .int a2)]) hx hb dX0_again_60 hl (by decide) rfl (fun ls hl => ?_)
          refine lv_lload hx hb dX0_again_62 (lv_at hl 0 rfl) ?_
          refine W.callV (r := .int (f_JL_numberOfLeadingZeros (ff a1.toNatClampNeg))) (W.runS (As := [.long (ff a1.toNatClampNeg)]) (rest := []) ⟨hx, hb, hml, hown, hts⟩ (c_JL_numberOfLeadingZeros l (ff a1.toNatClampNeg) ) (va_cwS 1 hts gX0_again_JL_numberOfLeadingZeros rfl rfl rfl (by decide +kernel) ⟨Nat.le_of_ble_eq_true rfl, Nat.le_of_ble_eq_true rfl⟩) pu_pre rfl rfl hl.1 rfl (lv_room (Nat.le_of_ble_eq_true rfl)) dX0_again_64 ⟨Nat.zero_le _, Nat.zero_le _⟩) ?_
          refine W.eq (g2 := F0 m 67 ls ([.int (f_JL_numberOfLeadingZeros (ff a1.toNatClampNeg))])) rfl ?_
          refine lv_istore (lv' := [(6, .int (f_JL_numberOfLeadingZeros (ff a1.toNatClampNeg))), (4, .long (ff a1.toNatClampNeg)), (3, .int (f_X0_kindOf ft ff a1)), (0, .ref h0), (1, .int a1), (2, .int a2)]) hx hb dX0_again_67 hl (by decide) rfl (fun ls hl => ?_)
          refine lv_aload_n hx hb dX0_again_69 rfl (lv_at hl 3 rfl) ?_
          refine lv_iload_n hx hb dX0_again_70 rfl (lv_at hl 4 rfl) ?_
          refine W.callV (r := .int (f_X0_powerOf ft a1)) (W.runV (As := [.int a1]) (rest := []) ⟨hx, hb, hml, hown, hts⟩ (c_X0_powerOf l dC dI cI cL h0 qt qf ft ff w lt lk lc a1 (by first | assumption | exact x_reg (by assumption) | exact x_regA (by assumption) | exact x_regB (by assumption))) (cwV 1 hts gX0_again_X0_powerOf rfl rfl rfl (by decide +kernel) ⟨Nat.le_of_ble_eq_true rfl, Nat.le_of_ble_eq_true rfl⟩) (rd_preV hK hP rfl rfl) rfl rfl hl.1 rfl (lv_room (Nat.le_of_ble_eq_true rfl)) dX0_again_71 ⟨Nat.zero_le _, Nat.zero_le _⟩) ?_
          refine W.eq (g2 := F0 m 74 ls ([.int (f_X0_powerOf ft a1)])) rfl ?_
          refine lv_iconst (v := 1) hx hb dX0_again_74 (by decide) ?_
          refine va_mmax hx hb (hml.trans hl.1.symm) hown (hts (.methodLink RX0 83 Lib.Math.max.name) (by decide +kernel)) (hts (.static Lib.Math.max.name) (by decide +kernel)) (hts (.initialized "java/lang/Math") (by decide +kernel)) (hts (.code Lib.Math.max.name Lib.Math.max.code 2 (some .int)) (by decide +kernel)) (Nat.le_of_ble_eq_true rfl) (Nat.le_of_ble_eq_true rfl) (Nat.zero_le _) (Nat.zero_le _) dX0_again_75 ?_
          refine lv_sipush (v := 16383) hx hb dX0_again_78 (by decide) ?_
          refine lv_isub hx hb dX0_again_81 ?_
          refine lv_iload hx hb dX0_again_82 (lv_at hl 0 rfl) ?_
          refine lv_isub hx hb dX0_again_84 ?_
          refine lv_istore (lv' := [(7, .int (((if (f_X0_powerOf ft a1) < 1 then 1 else (f_X0_powerOf ft a1)) - 16383) - (f_JL_numberOfLeadingZeros (ff a1.toNatClampNeg)))), (6, .int (f_JL_numberOfLeadingZeros (ff a1.toNatClampNeg))), (4, .long (ff a1.toNatClampNeg)), (3, .int (f_X0_kindOf ft ff a1)), (0, .ref h0), (1, .int a1), (2, .int a2)]) hx hb dX0_again_85 hl (by decide) rfl (fun ls hl => ?_)
          refine lv_aload_n hx hb dX0_again_87 rfl (lv_at hl 4 rfl) ?_
          refine lv_iload_n hx hb dX0_again_88 rfl (lv_at hl 6 rfl) ?_
          refine lv_aload_n hx hb dX0_again_89 rfl (lv_at hl 4 rfl) ?_
          refine lv_iload_n hx hb dX0_again_90 rfl (lv_at hl 5 rfl) ?_
          refine W.callV (r := .int (f_X0_isNegative ft a1)) (W.runV (As := [.int a1]) (rest := [.int a2, .ref h0]) ⟨hx, hb, hml, hown, hts⟩ (c_X0_isNegative l dC dI cI cL h0 qt qf ft ff w lt lk lc a1 (by first | assumption | exact x_reg (by assumption) | exact x_regA (by assumption) | exact x_regB (by assumption))) (cwV 1 hts gX0_again_X0_isNegative rfl rfl rfl (by decide +kernel) ⟨Nat.le_of_ble_eq_true rfl, Nat.le_of_ble_eq_true rfl⟩) (rd_preV hK hP rfl rfl) rfl rfl hl.1 rfl (lv_room (Nat.le_of_ble_eq_true rfl)) dX0_again_91 ⟨Nat.zero_le _, Nat.zero_le _⟩) ?_
          refine W.eq (g2 := F0 m 94 ls ([.int (f_X0_isNegative ft a1), .int a2, .ref h0])) rfl ?_
          refine lv_iload hx hb dX0_again_94 (lv_at hl 0 rfl) ?_
          refine lv_lload hx hb dX0_again_96 (lv_at hl 2 rfl) ?_
          refine lv_lconst (v := 0) hx hb dX0_again_98 (by decide) ?_
          refine lv_iload hx hb dX0_again_99 (lv_at hl 1 rfl) ?_
          refine W.callV (r := .long (f_X0_shiftIn (ff a1.toNatClampNeg) 0 (f_JL_numberOfLeadingZeros (ff a1.toNatClampNeg)))) (W.runS (As := [.long (ff a1.toNatClampNeg), .long 0, .int (f_JL_numberOfLeadingZeros (ff a1.toNatClampNeg))]) (rest := [.int (((if (f_X0_powerOf ft a1) < 1 then 1 else (f_X0_powerOf ft a1)) - 16383) - (f_JL_numberOfLeadingZeros (ff a1.toNatClampNeg))), .int (f_X0_isNegative ft a1), .int a2, .ref h0]) ⟨hx, hb, hml, hown, hts⟩ (c_X0_shiftIn l (ff a1.toNatClampNeg) 0 (f_JL_numberOfLeadingZeros (ff a1.toNatClampNeg)) ) (va_cwS 3 hts gX0_again_X0_shiftIn rfl rfl rfl (by decide +kernel) ⟨Nat.le_of_ble_eq_true rfl, Nat.le_of_ble_eq_true rfl⟩) pu_pre rfl rfl hl.1 rfl (lv_room (Nat.le_of_ble_eq_true rfl)) dX0_again_101 ⟨Nat.zero_le _, Nat.zero_le _⟩) ?_
          refine W.eq (g2 := F0 m 104 ls ([.long (f_X0_shiftIn (ff a1.toNatClampNeg) 0 (f_JL_numberOfLeadingZeros (ff a1.toNatClampNeg))), .int (((if (f_X0_powerOf ft a1) < 1 then 1 else (f_X0_powerOf ft a1)) - 16383) - (f_JL_numberOfLeadingZeros (ff a1.toNatClampNeg))), .int (f_X0_isNegative ft a1), .int a2, .ref h0])) rfl ?_
          refine lv_lconst (v := 0) hx hb dX0_again_104 (by decide) ?_
          refine wr_calli (D := (dC, dI)) (v9 := (f_X0_makeSize ft ff w lt lk lc a2 (f_X0_isNegative ft a1) (((if (f_X0_powerOf ft a1) < 1 then 1 else (f_X0_powerOf ft a1)) - 16383) - (f_JL_numberOfLeadingZeros (ff a1.toNatClampNeg))) (f_X0_shiftIn (ff a1.toNatClampNeg) 0 (f_JL_numberOfLeadingZeros (ff a1.toNatClampNeg))) 0)) (va_runV (As := [.int a2, .int (f_X0_isNegative ft a1), .int (((if (f_X0_powerOf ft a1) < 1 then 1 else (f_X0_powerOf ft a1)) - 16383) - (f_JL_numberOfLeadingZeros (ff a1.toNatClampNeg))), .long (f_X0_shiftIn (ff a1.toNatClampNeg) 0 (f_JL_numberOfLeadingZeros (ff a1.toNatClampNeg))), .long 0]) (rest := []) ⟨hx, hb, hml, hown, hts⟩ (c_X0_makeSize l dC dI cI cL h0 qt qf s.heap.size ft ff w lt lk lc a2 (f_X0_isNegative ft a1) (((if (f_X0_powerOf ft a1) < 1 then 1 else (f_X0_powerOf ft a1)) - 16383) - (f_JL_numberOfLeadingZeros (ff a1.toNatClampNeg))) (f_X0_shiftIn (ff a1.toNatClampNeg) 0 (f_JL_numberOfLeadingZeros (ff a1.toNatClampNeg))) 0 (by first | assumption | exact x_reg (by assumption) | exact x_regA (by assumption) | exact x_regB (by assumption))) (cwV 5 hts gX0_again_X0_makeSize rfl rfl rfl (by decide +kernel) ⟨Nat.le_of_ble_eq_true rfl, Nat.le_of_ble_eq_true rfl⟩) (wr_preV hK hP hD rfl rfl) rfl rfl hl.1 rfl (lv_room (Nat.le_of_ble_eq_true rfl)) dX0_again_105 ⟨Nat.zero_le _, Nat.zero_le _⟩) rfl hD hS hA (fun H locs hP hD hS => ?_)
          have hP : va_P (dC, dI) vwCl [(h0, .inr (0, [.ref qt, .ref qf, .int ((f_X0_makeSize ft ff w lt lk lc a2 (f_X0_isNegative ft a1) (((if (f_X0_powerOf ft a1) < 1 then 1 else (f_X0_powerOf ft a1)) - 16383) - (f_JL_numberOfLeadingZeros (ff a1.toNatClampNeg))) (f_X0_shiftIn (ff a1.toNatClampNeg) 0 (f_JL_numberOfLeadingZeros (ff a1.toNatClampNeg))) 0).2.2.2.1), .int ((f_X0_makeSize ft ff w lt lk lc a2 (f_X0_isNegative ft a1) (((if (f_X0_powerOf ft a1) < 1 then 1 else (f_X0_powerOf ft a1)) - 16383) - (f_JL_numberOfLeadingZeros (ff a1.toNatClampNeg))) (f_X0_shiftIn (ff a1.toNatClampNeg) 0 (f_JL_numberOfLeadingZeros (ff a1.toNatClampNeg))) 0).2.2.2.2.1), .int ((f_X0_makeSize ft ff w lt lk lc a2 (f_X0_isNegative ft a1) (((if (f_X0_powerOf ft a1) < 1 then 1 else (f_X0_powerOf ft a1)) - 16383) - (f_JL_numberOfLeadingZeros (ff a1.toNatClampNeg))) (f_X0_shiftIn (ff a1.toNatClampNeg) 0 (f_JL_numberOfLeadingZeros (ff a1.toNatClampNeg))) 0).2.2.2.2.2.1), .int ((f_X0_makeSize ft ff w lt lk lc a2 (f_X0_isNegative ft a1) (((if (f_X0_powerOf ft a1) < 1 then 1 else (f_X0_powerOf ft a1)) - 16383) - (f_JL_numberOfLeadingZeros (ff a1.toNatClampNeg))) (f_X0_shiftIn (ff a1.toNatClampNeg) 0 (f_JL_numberOfLeadingZeros (ff a1.toNatClampNeg))) 0).2.2.2.2.2.2)])), (qt, .inl (cI, 8, .inl ((f_X0_makeSize ft ff w lt lk lc a2 (f_X0_isNegative ft a1) (((if (f_X0_powerOf ft a1) < 1 then 1 else (f_X0_powerOf ft a1)) - 16383) - (f_JL_numberOfLeadingZeros (ff a1.toNatClampNeg))) (f_X0_shiftIn (ff a1.toNatClampNeg) 0 (f_JL_numberOfLeadingZeros (ff a1.toNatClampNeg))) 0).2.1))), (qf, .inl (cL, 8, .inr (.inl ((f_X0_makeSize ft ff w lt lk lc a2 (f_X0_isNegative ft a1) (((if (f_X0_powerOf ft a1) < 1 then 1 else (f_X0_powerOf ft a1)) - 16383) - (f_JL_numberOfLeadingZeros (ff a1.toNatClampNeg))) (f_X0_shiftIn (ff a1.toNatClampNeg) 0 (f_JL_numberOfLeadingZeros (ff a1.toNatClampNeg))) 0).2.2.1))))] H := hP
          have hD : va_D A [(h0, .inr (0, [.ref qt, .ref qf, .int ((f_X0_makeSize ft ff w lt lk lc a2 (f_X0_isNegative ft a1) (((if (f_X0_powerOf ft a1) < 1 then 1 else (f_X0_powerOf ft a1)) - 16383) - (f_JL_numberOfLeadingZeros (ff a1.toNatClampNeg))) (f_X0_shiftIn (ff a1.toNatClampNeg) 0 (f_JL_numberOfLeadingZeros (ff a1.toNatClampNeg))) 0).2.2.2.1), .int ((f_X0_makeSize ft ff w lt lk lc a2 (f_X0_isNegative ft a1) (((if (f_X0_powerOf ft a1) < 1 then 1 else (f_X0_powerOf ft a1)) - 16383) - (f_JL_numberOfLeadingZeros (ff a1.toNatClampNeg))) (f_X0_shiftIn (ff a1.toNatClampNeg) 0 (f_JL_numberOfLeadingZeros (ff a1.toNatClampNeg))) 0).2.2.2.2.1), .int ((f_X0_makeSize ft ff w lt lk lc a2 (f_X0_isNegative ft a1) (((if (f_X0_powerOf ft a1) < 1 then 1 else (f_X0_powerOf ft a1)) - 16383) - (f_JL_numberOfLeadingZeros (ff a1.toNatClampNeg))) (f_X0_shiftIn (ff a1.toNatClampNeg) 0 (f_JL_numberOfLeadingZeros (ff a1.toNatClampNeg))) 0).2.2.2.2.2.1), .int ((f_X0_makeSize ft ff w lt lk lc a2 (f_X0_isNegative ft a1) (((if (f_X0_powerOf ft a1) < 1 then 1 else (f_X0_powerOf ft a1)) - 16383) - (f_JL_numberOfLeadingZeros (ff a1.toNatClampNeg))) (f_X0_shiftIn (ff a1.toNatClampNeg) 0 (f_JL_numberOfLeadingZeros (ff a1.toNatClampNeg))) 0).2.2.2.2.2.2)])), (qt, .inl (cI, 8, .inl ((f_X0_makeSize ft ff w lt lk lc a2 (f_X0_isNegative ft a1) (((if (f_X0_powerOf ft a1) < 1 then 1 else (f_X0_powerOf ft a1)) - 16383) - (f_JL_numberOfLeadingZeros (ff a1.toNatClampNeg))) (f_X0_shiftIn (ff a1.toNatClampNeg) 0 (f_JL_numberOfLeadingZeros (ff a1.toNatClampNeg))) 0).2.1))), (qf, .inl (cL, 8, .inr (.inl ((f_X0_makeSize ft ff w lt lk lc a2 (f_X0_isNegative ft a1) (((if (f_X0_powerOf ft a1) < 1 then 1 else (f_X0_powerOf ft a1)) - 16383) - (f_JL_numberOfLeadingZeros (ff a1.toNatClampNeg))) (f_X0_shiftIn (ff a1.toNatClampNeg) 0 (f_JL_numberOfLeadingZeros (ff a1.toNatClampNeg))) 0).2.2.1))))] := hD
          refine W.eq (g2 := F0 m 108 ls ([.int ((f_X0_makeSize ft ff w lt lk lc a2 (f_X0_isNegative ft a1) (((if (f_X0_powerOf ft a1) < 1 then 1 else (f_X0_powerOf ft a1)) - 16383) - (f_JL_numberOfLeadingZeros (ff a1.toNatClampNeg))) (f_X0_shiftIn (ff a1.toNatClampNeg) 0 (f_JL_numberOfLeadingZeros (ff a1.toNatClampNeg))) 0).1)])) rfl ?_
          refine W.widen (k := 1) (n := 6) (Nat.zero_le _) (Nat.zero_le _) ?_
          exact vx_ret (W.iret (v := (f_X0_makeSize ft ff w lt lk lc a2 (f_X0_isNegative ft a1) (((if (f_X0_powerOf ft a1) < 1 then 1 else (f_X0_powerOf ft a1)) - 16383) - (f_JL_numberOfLeadingZeros (ff a1.toNatClampNeg))) (f_X0_shiftIn (ff a1.toNatClampNeg) 0 (f_JL_numberOfLeadingZeros (ff a1.toNatClampNeg))) 0).1) hx hb hr (fun t ht hW => ⟨⟨((f_X0_makeSize ft ff w lt lk lc a2 (f_X0_isNegative ft a1) (((if (f_X0_powerOf ft a1) < 1 then 1 else (f_X0_powerOf ft a1)) - 16383) - (f_JL_numberOfLeadingZeros (ff a1.toNatClampNeg))) (f_X0_shiftIn (ff a1.toNatClampNeg) 0 (f_JL_numberOfLeadingZeros (ff a1.toNatClampNeg))) 0).1), (f_X0_makeSize ft ff w lt lk lc a2 (f_X0_isNegative ft a1) (((if (f_X0_powerOf ft a1) < 1 then 1 else (f_X0_powerOf ft a1)) - 16383) - (f_JL_numberOfLeadingZeros (ff a1.toNatClampNeg))) (f_X0_shiftIn (ff a1.toNatClampNeg) 0 (f_JL_numberOfLeadingZeros (ff a1.toNatClampNeg))) 0).2, rfl, (congrArg (Prod.mk (0 : Nat)) (w_eta (f_X0_makeSize ft ff w lt lk lc a2 (f_X0_isNegative ft a1) (((if (f_X0_powerOf ft a1) < 1 then 1 else (f_X0_powerOf ft a1)) - 16383) - (f_JL_numberOfLeadingZeros (ff a1.toNatClampNeg))) (f_X0_shiftIn (ff a1.toNatClampNeg) 0 (f_JL_numberOfLeadingZeros (ff a1.toNatClampNeg))) 0))).trans (show (f_X0_again ft ff w lt lk lc a1 a2) = ((0, (f_X0_makeSize ft ff w lt lk lc a2 (f_X0_isNegative ft a1) (((if (f_X0_powerOf ft a1) < 1 then 1 else (f_X0_powerOf ft a1)) - 16383) - (f_JL_numberOfLeadingZeros (ff a1.toNatClampNeg))) (f_X0_shiftIn (ff a1.toNatClampNeg) 0 (f_JL_numberOfLeadingZeros (ff a1.toNatClampNeg))) 0)) : Nat × Int32 × XS) from by unfold f_X0_again; rw [if_neg cV_1, if_neg cV_7]).symm, by rw [ht]; exact hP, hD⟩, hS.F ht⟩) hS.2.2 dX0_again_108)
        · refine lv_icmp_eq (tgt := 40) hx hb dX0_again_32 (by decide) (fun c_11 => ?_) (fun c_11 => ?_)
          · exact absurd (by rw [if_pos c_11]) cV_7
          · refine lv_iload_n hx hb dX0_again_35 rfl (lv_at hl 0 rfl) ?_
            refine lv_iconst (v := 5) hx hb dX0_again_36 (by decide) ?_
            refine lv_icmp_ne (tgt := 54) hx hb dX0_again_37 (by decide) (fun c_12 => ?_) (fun c_12 => ?_)
            · exact hJ_8
            · exact absurd (by rw [if_neg c_11, if_pos c_12]) cV_7
    · refine lv_if_ne (tgt := 14) hx hb dX0_again_4 (by decide) (fun c_5 => ?_) (fun c_5 => ?_)
      · exact absurd (by rw [if_neg c_5]) cV_1
      · refine lv_iload_n hx hb dX0_again_7 rfl (lv_at hl 2 rfl) ?_
        refine W.callV (r := .int (f_X0_isNoRegister a2)) (W.runS (As := [.int a2]) (rest := []) ⟨hx, hb, hml, hown, hts⟩ (c_X0_isNoRegister l a2 ) (va_cwS 1 hts gX0_again_X0_isNoRegister rfl rfl rfl (by decide +kernel) ⟨Nat.le_of_ble_eq_true rfl, Nat.le_of_ble_eq_true rfl⟩) pu_pre rfl rfl hl.1 rfl (lv_room (Nat.le_of_ble_eq_true rfl)) dX0_again_8 ⟨Nat.zero_le _, Nat.zero_le _⟩) ?_
        refine W.eq (g2 := F0 m 11 ls ([.int (f_X0_isNoRegister a2)])) rfl ?_
        refine lv_if_eq (tgt := 24) hx hb dX0_again_11 (by decide) (fun c_6 => ?_) (fun c_6 => ?_)
        · exact hJ_2
        · exact absurd (by rw [if_pos c_5, if_neg c_6]) cV_1
def f_X0_last (ft : Nat → Int32) (ff : Nat → Int64) (w : Int32) (lt : Int32) (lk : Int32) (lc : Int32) (a1 : Int32) : Nat × Int32 × XS :=
  if a1 = 0 then
    (0, lt, ft, ff, w, lt, lk, lc)
  else
    if a1 = 1 then
      (0, lk, ft, ff, w, lt, lk, lc)
    else
      if a1 = 2 then
        (0, lc, ft, ff, w, lt, lk, lc)
      else
        (2, 0, ft, ff, w, lt, lk, lc)
set_option maxHeartbeats 1000000 in
set_option maxRecDepth 100000 in
theorem c_X0_last (l : Launch) (hfl : l.stackTraces = false) (dC : Nat → ClassId) (dI : Nat → Nat → Nat) (cI cL : ClassId) (h0 qt qf : Nat) (sz : Nat) (ft : Nat → Int32) (ff : Nat → Int64) (w : Int32) (lt : Int32) (lk : Int32) (lc : Int32) (a1 : Int32) : vx_Met l yX0_last wsX0_last ({ frames := 6, cells := 1, slots := 6, locals := 82 }) (tw_Pc (dC, dI) (x_W cI cL h0 qt qf ft ff w lt lk lc) (x_T cI cL) sz [.ref h0, .int a1]) (tw_Qi (dC, dI) (x_WU cI cL h0 qt qf) (f_X0_last ft ff w lt lk lc a1) (va_A (x_W cI cL h0 qt qf ft ff w lt lk lc) sz)) (tw_X (dC, dI) (x_W cI cL h0 qt qf ft ff w lt lk lc) (f_X0_last ft ff w lt lk lc a1).1 (va_A (x_W cI cL h0 qt qf ft ff w lt lk lc) sz)) 1 6 (va_A (x_W cI cL h0 qt qf ft ff w lt lk lc) sz) := by
  refine vx_ofW (cc := cX0_last) (maxL := 2) (ret := (some .int)) (by decide) rfl ?_
  intro p e s m args below meth c s₁ B hml hEx hv
  obtain ⟨rfl, hsz, hP, hK, hD0, hE⟩ := hv
  have hx := B.exec
  have hb := B.bytes
  have hr := B.returns
  have hts := atoms_spec (ws := wsX0_last) B.pre
  have hown : s.vm.findClass RX0 = some m.cls := findClass_of_methodNamed B.named
  have hlocks := B.notSynchronized
  have hin_X0 : ∀ w ∈ u_ws RX0 TX0 6, w ∈ wsX0_last := by decide +kernel
  subst hsz
  have hD := hD0.self (sz := s.heap.size)
  generalize hAe : va_A (x_W cI cL h0 qt qf ft ff w lt lk lc) s.heap.size = A at hD hE ⊢
  have hA : ∀ q : Nat, s.heap.size ≤ q → A q := fun q h => by rw [← hAe]; exact Or.inr h
  have hS : va_S A s.heap s.heap [] := va_S.rf
  have hD : va_D A [(h0, .inr (0, [.ref qt, .ref qf, .int w, .int lt, .int lk, .int lc])), (qt, .inl (cI, 8, .inl ft)), (qf, .inl (cL, 8, .inr (.inl ff)))] := hD
  have hP : va_P (dC, dI) vwCl [(h0, .inr (0, [.ref qt, .ref qf, .int w, .int lt, .int lk, .int lc])), (qt, .inl (cI, 8, .inl ft)), (qf, .inl (cL, 8, .inr (.inl ff)))] s.heap := hP
  have hl := lv_entry ([.ref h0, .int a1]) (n := 2) (Nat.le_of_ble_eq_true rfl)
  rw [lg_entry_eq]
  generalize (lg_sl ([.ref h0, .int a1]) ++ List.replicate (2 - (lg_sl ([.ref h0, .int a1])).length) Slot.unset).toArray = ls at hl ⊢
  have hl : lv_has ls 2 [(0, .ref h0), (1, .int a1)] := hl
  refine lv_iload_n hx hb dX0_last_0 rfl (lv_at hl 1 rfl) ?_
  by_cases c_1 : a1 = 0
  · refine lv_tableIn (off := 27) (tgt := 28) hx hb dX0_last_1 (by rw [c_1]; decide) (by rw [c_1]; decide) (by rw [c_1]; rfl) (by decide) ?_
    refine lv_aload_n hx hb dX0_last_28 rfl (lv_at hl 0 rfl) ?_
    refine va_get (D := (dC, dI)) (ci := 0) (v := .int lt) (C := RX0) (T := TX0) (N := 6) hx hb hts hin_X0 hown hK hP 0 rfl rfl 3 (by decide) (hts (.fieldLink RX0 92 "TemporaryReals" "lastTold" "I") (by decide +kernel)) (fun _ h9 => h9) rfl dX0_last_29 ?_
    refine W.widen (k := 1) (n := 6) (Nat.zero_le _) (Nat.zero_le _) ?_
    exact vx_ret (W.iret (v := lt) hx hb hr (fun t ht hW => ⟨⟨lt, (ft, ff, w, lt, lk, lc), rfl, (show (f_X0_last ft ff w lt lk lc a1) = ((0, lt, (ft, ff, w, lt, lk, lc)) : Nat × Int32 × XS) from by unfold f_X0_last; rw [if_pos c_1]; first | done | rfl).symm, by rw [ht, x_WU_mk]; exact hP, by rw [x_WU_mk]; exact hD⟩, hS.F ht⟩) hS.2.2 dX0_last_32)
  by_cases c_2 : a1 = 1
  · refine lv_tableIn (off := 32) (tgt := 33) hx hb dX0_last_1 (by rw [c_2]; decide) (by rw [c_2]; decide) (by rw [c_2]; rfl) (by decide) ?_
    refine lv_aload_n hx hb dX0_last_33 rfl (lv_at hl 0 rfl) ?_
    refine va_get (D := (dC, dI)) (ci := 0) (v := .int lk) (C := RX0) (T := TX0) (N := 6) hx hb hts hin_X0 hown hK hP 0 rfl rfl 4 (by decide) (hts (.fieldLink RX0 95 "TemporaryReals" "lastK" "I") (by decide +kernel)) (fun _ h9 => h9) rfl dX0_last_34 ?_
    refine W.widen (k := 1) (n := 6) (Nat.zero_le _) (Nat.zero_le _) ?_
    exact vx_ret (W.iret (v := lk) hx hb hr (fun t ht hW => ⟨⟨lk, (ft, ff, w, lt, lk, lc), rfl, (show (f_X0_last ft ff w lt lk lc a1) = ((0, lk, (ft, ff, w, lt, lk, lc)) : Nat × Int32 × XS) from by unfold f_X0_last; rw [if_neg c_1, if_pos c_2]; first | done | rfl).symm, by rw [ht, x_WU_mk]; exact hP, by rw [x_WU_mk]; exact hD⟩, hS.F ht⟩) hS.2.2 dX0_last_37)
  by_cases c_3 : a1 = 2
  · refine lv_tableIn (off := 37) (tgt := 38) hx hb dX0_last_1 (by rw [c_3]; decide) (by rw [c_3]; decide) (by rw [c_3]; rfl) (by decide) ?_
    refine lv_aload_n hx hb dX0_last_38 rfl (lv_at hl 0 rfl) ?_
    refine va_get (D := (dC, dI)) (ci := 0) (v := .int lc) (C := RX0) (T := TX0) (N := 6) hx hb hts hin_X0 hown hK hP 0 rfl rfl 5 (by decide) (hts (.fieldLink RX0 98 "TemporaryReals" "lastChange" "I") (by decide +kernel)) (fun _ h9 => h9) rfl dX0_last_39 ?_
    refine W.widen (k := 1) (n := 6) (Nat.zero_le _) (Nat.zero_le _) ?_
    exact vx_ret (W.iret (v := lc) hx hb hr (fun t ht hW => ⟨⟨lc, (ft, ff, w, lt, lk, lc), rfl, (show (f_X0_last ft ff w lt lk lc a1) = ((0, lc, (ft, ff, w, lt, lk, lc)) : Nat × Int32 × XS) from by unfold f_X0_last; rw [if_neg c_1, if_neg c_2, if_pos c_3]; first | done | rfl).symm, by rw [ht, x_WU_mk]; exact hP, by rw [x_WU_mk]; exact hD⟩, hS.F ht⟩) hS.2.2 dX0_last_42)
  have nc_1 := lv_neT c_1 (a := 0) (by decide)
  have nc_2 := lv_neT c_2 (a := 1) (by decide)
  have nc_3 := lv_neT c_3 (a := 2) (by decide)
  refine lv_tableOut (tgt := 43) hx hb dX0_last_1 (by omega) (by decide) ?_
  obtain ⟨sa, hsa⟩ := xv_s101 hE.2.2
  refine vx_throwS (own := RX0) (cls := "java/lang/IllegalArgumentException") (names := ["java/lang/RuntimeException", "java/lang/Exception"]) hx hb hfl hown (by decide +kernel) (by decide +kernel) (hts (.classLink RX0 25 "java/lang/IllegalArgumentException") (by decide +kernel)) (hts (.initialized "java/lang/IllegalArgumentException") (by decide +kernel)) hsa (vx_hat (L := vx_atS RX0 29 "java/lang/IllegalArgumentException" ["java/lang/RuntimeException", "java/lang/Exception"]) (B := xB2) (fun w hw => hts w ((by decide +kernel : ∀ w ∈ (vx_atS RX0 29 "java/lang/IllegalArgumentException" ["java/lang/RuntimeException", "java/lang/Exception"]).filter goodWord, w ∈ wsX0_last) w hw)) (by decide +kernel) (xv_B2 hE.2.2)) (by decide +kernel) hE.1 hE.2.1 hS (hl.1.trans hml.symm) dX0_last_43 dX0_last_46 dX0_last_47 dX0_last_49 dX0_last_52 (fun x hx => (hEx x hx).elim) (by decide) (by decide) (by decide) (by decide) hlocks (tw_x (k := ((f_X0_last ft ff w lt lk lc a1)).1) (show tw_E ((f_X0_last ft ff w lt lk lc a1)).1 "java/lang/IllegalArgumentException" from (by rw [show (f_X0_last ft ff w lt lk lc a1) = ((2, 0, ft, ff, w, lt, lk, lc) : Nat × Int32 × XS) from by unfold f_X0_last; rw [if_neg c_1, if_neg c_2, if_neg c_3]]; exact tw_E2)) hP hS) hS.2.2 (by decide) (by decide)
def f_X0_compare (ft : Nat → Int32) (ff : Nat → Int64) (w : Int32) (lt : Int32) (lk : Int32) (lc : Int32) (a1 : Int32) (a2 : Int32) : Nat × Int32 × XS :=
  if (if (f_X0_isNoRegister a1) = 0 then (if (f_X0_isNoRegister a2) = 0 then false else true) else true) = true then
    (1, 0, ft, ff, w, lt, lk, lc)
  else
    if (if (f_X0_kindOf ft ff a1) = 5 then true else (if (f_X0_kindOf ft ff a2) = 5 then true else false)) = true then
      (0, 2, ft, ff, w, lt, lk, lc)
    else
      if (f_X0_signum ft ff a1) = (f_X0_signum ft ff a2) then
        (0, ((f_X0_signum ft ff a1) * (f_X0_compareSizes ft ff a1 a2)), ft, ff, w, lt, lk, lc)
      else
        (0, (if (f_X0_signum ft ff a2) ≤ (f_X0_signum ft ff a1) then 1 else (-1)), ft, ff, w, lt, lk, lc)
set_option maxHeartbeats 1000000 in
set_option maxRecDepth 100000 in
theorem c_X0_compare (l : Launch) (hfl : l.stackTraces = false) (dC : Nat → ClassId) (dI : Nat → Nat → Nat) (cI cL : ClassId) (h0 qt qf : Nat) (sz : Nat) (ft : Nat → Int32) (ff : Nat → Int64) (w : Int32) (lt : Int32) (lk : Int32) (lc : Int32) (a1 : Int32) (a2 : Int32) : vx_Met l yX0_compare wsX0_compare ({ frames := 6, cells := 1, slots := 6, locals := 130 }) (tw_Pc (dC, dI) (x_W cI cL h0 qt qf ft ff w lt lk lc) (x_T cI cL) sz [.ref h0, .int a1, .int a2]) (tw_Qi (dC, dI) (x_WU cI cL h0 qt qf) (f_X0_compare ft ff w lt lk lc a1 a2) (va_A (x_W cI cL h0 qt qf ft ff w lt lk lc) sz)) (tw_X (dC, dI) (x_W cI cL h0 qt qf ft ff w lt lk lc) (f_X0_compare ft ff w lt lk lc a1 a2).1 (va_A (x_W cI cL h0 qt qf ft ff w lt lk lc) sz)) 1 6 (va_A (x_W cI cL h0 qt qf ft ff w lt lk lc) sz) := by
  refine vx_ofW (cc := cX0_compare) (maxL := 5) (ret := (some .int)) (by decide) rfl ?_
  intro p e s m args below meth c s₁ B hml hEx hv
  obtain ⟨rfl, hsz, hP, hK, hD0, hE⟩ := hv
  have hx := B.exec
  have hb := B.bytes
  have hr := B.returns
  have hts := atoms_spec (ws := wsX0_compare) B.pre
  have hown : s.vm.findClass RX0 = some m.cls := findClass_of_methodNamed B.named
  have hlocks := B.notSynchronized
  subst hsz
  have hD := hD0.self (sz := s.heap.size)
  generalize hAe : va_A (x_W cI cL h0 qt qf ft ff w lt lk lc) s.heap.size = A at hD hE ⊢
  have hA : ∀ q : Nat, s.heap.size ≤ q → A q := fun q h => by rw [← hAe]; exact Or.inr h
  have hS : va_S A s.heap s.heap [] := va_S.rf
  have hD : va_D A [(h0, .inr (0, [.ref qt, .ref qf, .int w, .int lt, .int lk, .int lc])), (qt, .inl (cI, 8, .inl ft)), (qf, .inl (cL, 8, .inr (.inl ff)))] := hD
  have hP : va_P (dC, dI) vwCl [(h0, .inr (0, [.ref qt, .ref qf, .int w, .int lt, .int lk, .int lc])), (qt, .inl (cI, 8, .inl ft)), (qf, .inl (cL, 8, .inr (.inl ff)))] s.heap := hP
  have hl := lv_entry ([.ref h0, .int a1, .int a2]) (n := 5) (Nat.le_of_ble_eq_true rfl)
  rw [lg_entry_eq]
  generalize (lg_sl ([.ref h0, .int a1, .int a2]) ++ List.replicate (5 - (lg_sl ([.ref h0, .int a1, .int a2])).length) Slot.unset).toArray = ls at hl ⊢
  have hl : lv_has ls 5 [(0, .ref h0), (1, .int a1), (2, .int a2)] := hl
  refine lv_iload_n hx hb dX0_compare_0 rfl (lv_at hl 1 rfl) ?_
  refine W.callV (r := .int (f_X0_isNoRegister a1)) (W.runS (As := [.int a1]) (rest := []) ⟨hx, hb, hml, hown, hts⟩ (c_X0_isNoRegister l a1 ) (va_cwS 1 hts gX0_compare_X0_isNoRegister rfl rfl rfl (by decide +kernel) ⟨Nat.le_of_ble_eq_true rfl, Nat.le_of_ble_eq_true rfl⟩) pu_pre rfl rfl hl.1 rfl (lv_room (Nat.le_of_ble_eq_true rfl)) dX0_compare_1 ⟨Nat.zero_le _, Nat.zero_le _⟩) ?_
  refine W.eq (g2 := F0 m 4 ls ([.int (f_X0_isNoRegister a1)])) rfl ?_
  by_cases cV_1 : (if (f_X0_isNoRegister a1) = 0 then (if (f_X0_isNoRegister a2) = 0 then false else true) else true) = true
  · refine w_join (F0 m 14 ls ([])) ?_ (fun hJ_2 => ?_)
    · obtain ⟨sa, hsa⟩ := xv_s37 hE.2.2
      refine vx_throwS (own := RX0) (cls := "java/lang/IndexOutOfBoundsException") (names := ["java/lang/RuntimeException", "java/lang/Exception"]) hx hb hfl hown (by decide +kernel) (by decide +kernel) (hts (.classLink RX0 35 "java/lang/IndexOutOfBoundsException") (by decide +kernel)) (hts (.initialized "java/lang/IndexOutOfBoundsException") (by decide +kernel)) hsa (vx_hat (L := vx_atS RX0 39 "java/lang/IndexOutOfBoundsException" ["java/lang/RuntimeException", "java/lang/Exception"]) (B := xB1) (fun w hw => hts w ((by decide +kernel : ∀ w ∈ (vx_atS RX0 39 "java/lang/IndexOutOfBoundsException" ["java/lang/RuntimeException", "java/lang/Exception"]).filter goodWord, w ∈ wsX0_compare) w hw)) (by decide +kernel) (xv_B1 hE.2.2)) (by decide +kernel) hE.1 hE.2.1 hS (hl.1.trans hml.symm) dX0_compare_14 dX0_compare_17 dX0_compare_18 dX0_compare_20 dX0_compare_23 (fun x hx => (hEx x hx).elim) (by decide) (by decide) (by decide) (by decide) hlocks (tw_x (k := ((f_X0_compare ft ff w lt lk lc a1 a2)).1) (show tw_E ((f_X0_compare ft ff w lt lk lc a1 a2)).1 "java/lang/IndexOutOfBoundsException" from (by rw [show (f_X0_compare ft ff w lt lk lc a1 a2) = ((1, 0, ft, ff, w, lt, lk, lc) : Nat × Int32 × XS) from by unfold f_X0_compare; rw [if_pos cV_1]]; exact tw_E1)) hP hS) hS.2.2 (by decide) (by decide)
    · refine lv_if_ne (tgt := 14) hx hb dX0_compare_4 (by decide) (fun c_3 => ?_) (fun c_3 => ?_)
      · exact hJ_2
      · refine lv_iload_n hx hb dX0_compare_7 rfl (lv_at hl 2 rfl) ?_
        refine W.callV (r := .int (f_X0_isNoRegister a2)) (W.runS (As := [.int a2]) (rest := []) ⟨hx, hb, hml, hown, hts⟩ (c_X0_isNoRegister l a2 ) (va_cwS 1 hts gX0_compare_X0_isNoRegister rfl rfl rfl (by decide +kernel) ⟨Nat.le_of_ble_eq_true rfl, Nat.le_of_ble_eq_true rfl⟩) pu_pre rfl rfl hl.1 rfl (lv_room (Nat.le_of_ble_eq_true rfl)) dX0_compare_8 ⟨Nat.zero_le _, Nat.zero_le _⟩) ?_
        refine W.eq (g2 := F0 m 11 ls ([.int (f_X0_isNoRegister a2)])) rfl ?_
        refine lv_if_eq (tgt := 24) hx hb dX0_compare_11 (by decide) (fun c_4 => ?_) (fun c_4 => ?_)
        · exact absurd cV_1 (by rw [if_pos c_3, if_pos c_4]; exact Bool.false_ne_true)
        · exact hJ_2
  · refine w_join (F0 m 24 ls ([])) ?_ (fun hJ_2 => ?_)
    · refine lv_aload_n hx hb dX0_compare_24 rfl (lv_at hl 0 rfl) ?_
      refine lv_iload_n hx hb dX0_compare_25 rfl (lv_at hl 1 rfl) ?_
      refine W.callV (r := .int (f_X0_kindOf ft ff a1)) (W.runV (As := [.int a1]) (rest := []) ⟨hx, hb, hml, hown, hts⟩ (c_X0_kindOf l dC dI cI cL h0 qt qf ft ff w lt lk lc a1 (by first | assumption | exact x_reg (by assumption) | exact x_regA (by assumption) | exact x_regB (by assumption))) (cwV 1 hts gX0_compare_X0_kindOf rfl rfl rfl (by decide +kernel) ⟨Nat.le_of_ble_eq_true rfl, Nat.le_of_ble_eq_true rfl⟩) (rd_preV hK hP rfl rfl) rfl rfl hl.1 rfl (lv_room (Nat.le_of_ble_eq_true rfl)) dX0_compare_26 ⟨Nat.zero_le _, Nat.zero_le _⟩) ?_
      refine W.eq (g2 := F0 m 29 ls ([.int (f_X0_kindOf ft ff a1)])) rfl ?_
      refine lv_iconst (v := 5) hx hb dX0_compare_29 (by decide) ?_
      by_cases cV_7 : (if (f_X0_kindOf ft ff a1) = 5 then true else (if (f_X0_kindOf ft ff a2) = 5 then true else false)) = true
      · refine w_join (F0 m 42 ls ([])) ?_ (fun hJ_8 => ?_)
        · refine lv_iconst (v := 2) hx hb dX0_compare_42 (by decide) ?_
          refine W.widen (k := 1) (n := 6) (Nat.zero_le _) (Nat.zero_le _) ?_
          exact vx_ret (W.iret (v := 2) hx hb hr (fun t ht hW => ⟨⟨2, (ft, ff, w, lt, lk, lc), rfl, (show (f_X0_compare ft ff w lt lk lc a1 a2) = ((0, 2, (ft, ff, w, lt, lk, lc)) : Nat × Int32 × XS) from by unfold f_X0_compare; rw [if_neg cV_1, if_pos cV_7]; first | done | rfl).symm, by rw [ht, x_WU_mk]; exact hP, by rw [x_WU_mk]; exact hD⟩, hS.F ht⟩) hS.2.2 dX0_compare_43)
        · refine lv_icmp_eq (tgt := 42) hx hb dX0_compare_30 (by decide) (fun c_9 => ?_) (fun c_9 => ?_)
          · exact hJ_8
          · refine lv_aload_n hx hb dX0_compare_33 rfl (lv_at hl 0 rfl) ?_
            refine lv_iload_n hx hb dX0_compare_34 rfl (lv_at hl 2 rfl) ?_
            refine W.callV (r := .int (f_X0_kindOf ft ff a2)) (W.runV (As := [.int a2]) (rest := []) ⟨hx, hb, hml, hown, hts⟩ (c_X0_kindOf l dC dI cI cL h0 qt qf ft ff w lt lk lc a2 (by first | assumption | exact x_reg (by assumption) | exact x_regA (by assumption) | exact x_regB (by assumption))) (cwV 1 hts gX0_compare_X0_kindOf rfl rfl rfl (by decide +kernel) ⟨Nat.le_of_ble_eq_true rfl, Nat.le_of_ble_eq_true rfl⟩) (rd_preV hK hP rfl rfl) rfl rfl hl.1 rfl (lv_room (Nat.le_of_ble_eq_true rfl)) dX0_compare_35 ⟨Nat.zero_le _, Nat.zero_le _⟩) ?_
            refine W.eq (g2 := F0 m 38 ls ([.int (f_X0_kindOf ft ff a2)])) rfl ?_
            refine lv_iconst (v := 5) hx hb dX0_compare_38 (by decide) ?_
            refine lv_icmp_ne (tgt := 44) hx hb dX0_compare_39 (by decide) (fun c_10 => ?_) (fun c_10 => ?_)
            · exact absurd cV_7 (by rw [if_neg c_9, if_neg c_10]; exact Bool.false_ne_true)
            · exact hJ_8
      · refine w_join (F0 m 44 ls ([])) ?_ (fun hJ_8 => ?_)
        · refine lv_aload_n hx hb dX0_compare_44 rfl (lv_at hl 0 rfl) ?_
          refine lv_iload_n hx hb dX0_compare_45 rfl (lv_at hl 1 rfl) ?_
          refine W.callV (r := .int (f_X0_signum ft ff a1)) (W.runV (As := [.int a1]) (rest := []) ⟨hx, hb, hml, hown, hts⟩ (c_X0_signum l dC dI cI cL h0 qt qf ft ff w lt lk lc a1 (by first | assumption | exact x_reg (by assumption) | exact x_regA (by assumption) | exact x_regB (by assumption))) (cwV 1 hts gX0_compare_X0_signum rfl rfl rfl (by decide +kernel) ⟨Nat.le_of_ble_eq_true rfl, Nat.le_of_ble_eq_true rfl⟩) (rd_preV hK hP rfl rfl) rfl rfl hl.1 rfl (lv_room (Nat.le_of_ble_eq_true rfl)) dX0_compare_46 ⟨Nat.zero_le _, Nat.zero_le _⟩) ?_
          refine W.eq (g2 := F0 m 49 ls ([.int (f_X0_signum ft ff a1)])) rfl ?_
          refine lv_istore_n (lv' := [(3, .int (f_X0_signum ft ff a1)), (0, .ref h0), (1, .int a1), (2, .int a2)]) hx hb dX0_compare_49 rfl hl (by decide) rfl (fun ls hl => ?_)
          refine lv_aload_n hx hb dX0_compare_50 rfl (lv_at hl 1 rfl) ?_
          refine lv_iload_n hx hb dX0_compare_51 rfl (lv_at hl 3 rfl) ?_
          refine W.callV (r := .int (f_X0_signum ft ff a2)) (W.runV (As := [.int a2]) (rest := []) ⟨hx, hb, hml, hown, hts⟩ (c_X0_signum l dC dI cI cL h0 qt qf ft ff w lt lk lc a2 (by first | assumption | exact x_reg (by assumption) | exact x_regA (by assumption) | exact x_regB (by assumption))) (cwV 1 hts gX0_compare_X0_signum rfl rfl rfl (by decide +kernel) ⟨Nat.le_of_ble_eq_true rfl, Nat.le_of_ble_eq_true rfl⟩) (rd_preV hK hP rfl rfl) rfl rfl hl.1 rfl (lv_room (Nat.le_of_ble_eq_true rfl)) dX0_compare_52 ⟨Nat.zero_le _, Nat.zero_le _⟩) ?_
          refine W.eq (g2 := F0 m 55 ls ([.int (f_X0_signum ft ff a2)])) rfl ?_
          refine lv_istore (lv' := [(4, .int (f_X0_signum ft ff a2)), (3, .int (f_X0_signum ft ff a1)), (0, .ref h0), (1, .int a1), (2, .int a2)]) hx hb dX0_compare_55 hl (by decide) rfl (fun ls hl => ?_)
          refine lv_iload_n hx hb dX0_compare_57 rfl (lv_at hl 1 rfl) ?_
          refine lv_iload hx hb dX0_compare_58 (lv_at hl 0 rfl) ?_
          refine lv_icmp_eq (tgt := 75) hx hb dX0_compare_60 (by decide) (fun c_13 => ?_) (fun c_13 => ?_)
          · refine lv_iload_n hx hb dX0_compare_75 rfl (lv_at hl 1 rfl) ?_
            refine lv_aload_n hx hb dX0_compare_76 rfl (lv_at hl 2 rfl) ?_
            refine lv_iload_n hx hb dX0_compare_77 rfl (lv_at hl 3 rfl) ?_
            refine lv_iload_n hx hb dX0_compare_78 rfl (lv_at hl 4 rfl) ?_
            refine W.callV (r := .int (f_X0_compareSizes ft ff a1 a2)) (W.runV (As := [.int a1, .int a2]) (rest := [.int (f_X0_signum ft ff a1)]) ⟨hx, hb, hml, hown, hts⟩ (c_X0_compareSizes l dC dI cI cL h0 qt qf ft ff w lt lk lc a1 a2 (by first | assumption | exact x_reg (by assumption) | exact x_regA (by assumption) | exact x_regB (by assumption)) (by first | assumption | exact x_reg (by assumption) | exact x_regA (by assumption) | exact x_regB (by assumption))) (cwV 2 hts gX0_compare_X0_compareSizes rfl rfl rfl (by decide +kernel) ⟨Nat.le_of_ble_eq_true rfl, Nat.le_of_ble_eq_true rfl⟩) (rd_preV hK hP rfl rfl) rfl rfl hl.1 rfl (lv_room (Nat.le_of_ble_eq_true rfl)) dX0_compare_79 ⟨Nat.zero_le _, Nat.zero_le _⟩) ?_
            refine W.eq (g2 := F0 m 82 ls ([.int (f_X0_compareSizes ft ff a1 a2), .int (f_X0_signum ft ff a1)])) rfl ?_
            refine lv_imul hx hb dX0_compare_82 ?_
            refine W.widen (k := 1) (n := 6) (Nat.zero_le _) (Nat.zero_le _) ?_
            exact vx_ret (W.iret (v := ((f_X0_signum ft ff a1) * (f_X0_compareSizes ft ff a1 a2))) hx hb hr (fun t ht hW => ⟨⟨((f_X0_signum ft ff a1) * (f_X0_compareSizes ft ff a1 a2)), (ft, ff, w, lt, lk, lc), rfl, (show (f_X0_compare ft ff w lt lk lc a1 a2) = ((0, ((f_X0_signum ft ff a1) * (f_X0_compareSizes ft ff a1 a2)), (ft, ff, w, lt, lk, lc)) : Nat × Int32 × XS) from by unfold f_X0_compare; rw [if_neg cV_1, if_neg cV_7, if_pos c_13]; first | done | rfl).symm, by rw [ht, x_WU_mk]; exact hP, by rw [x_WU_mk]; exact hD⟩, hS.F ht⟩) hS.2.2 dX0_compare_83)
          · refine lv_iload_n hx hb dX0_compare_63 rfl (lv_at hl 1 rfl) ?_
            refine lv_iload hx hb dX0_compare_64 (lv_at hl 0 rfl) ?_
            refine w_join (F0 m 74 ls (.int (if (f_X0_signum ft ff a2) ≤ (f_X0_signum ft ff a1) then 1 else (-1)) :: [])) ?_ (fun hJ_14 => ?_)
            · refine W.widen (k := 1) (n := 6) (Nat.zero_le _) (Nat.zero_le _) ?_
              exact vx_ret (W.iret (v := (if (f_X0_signum ft ff a2) ≤ (f_X0_signum ft ff a1) then 1 else (-1))) hx hb hr (fun t ht hW => ⟨⟨(if (f_X0_signum ft ff a2) ≤ (f_X0_signum ft ff a1) then 1 else (-1)), (ft, ff, w, lt, lk, lc), rfl, (show (f_X0_compare ft ff w lt lk lc a1 a2) = ((0, (if (f_X0_signum ft ff a2) ≤ (f_X0_signum ft ff a1) then 1 else (-1)), (ft, ff, w, lt, lk, lc)) : Nat × Int32 × XS) from by unfold f_X0_compare; rw [if_neg cV_1, if_neg cV_7, if_neg c_13]; first | done | rfl).symm, by rw [ht, x_WU_mk]; exact hP, by rw [x_WU_mk]; exact hD⟩, hS.F ht⟩) hS.2.2 dX0_compare_74)
            · refine lv_icmp_ge (tgt := 73) hx hb dX0_compare_66 (by decide) (fun c_15 => ?_) (fun c_15 => ?_)
              · refine lv_iconst (v := 1) hx hb dX0_compare_73 (by decide) ?_
                exact W.eq (by rw [if_pos c_15] <;> (repeat (first | rw [if_pos c_15]))) hJ_14
              · refine lv_iconst (v := (-1)) hx hb dX0_compare_69 (by decide) ?_
                refine lv_goto (tgt := 74) hx hb dX0_compare_70 (by decide) ?_
                exact W.eq (by rw [if_neg c_15] <;> (repeat (first | rw [if_neg c_15]))) hJ_14
        · refine lv_icmp_eq (tgt := 42) hx hb dX0_compare_30 (by decide) (fun c_11 => ?_) (fun c_11 => ?_)
          · exact absurd (by rw [if_pos c_11]) cV_7
          · refine lv_aload_n hx hb dX0_compare_33 rfl (lv_at hl 0 rfl) ?_
            refine lv_iload_n hx hb dX0_compare_34 rfl (lv_at hl 2 rfl) ?_
            refine W.callV (r := .int (f_X0_kindOf ft ff a2)) (W.runV (As := [.int a2]) (rest := []) ⟨hx, hb, hml, hown, hts⟩ (c_X0_kindOf l dC dI cI cL h0 qt qf ft ff w lt lk lc a2 (by first | assumption | exact x_reg (by assumption) | exact x_regA (by assumption) | exact x_regB (by assumption))) (cwV 1 hts gX0_compare_X0_kindOf rfl rfl rfl (by decide +kernel) ⟨Nat.le_of_ble_eq_true rfl, Nat.le_of_ble_eq_true rfl⟩) (rd_preV hK hP rfl rfl) rfl rfl hl.1 rfl (lv_room (Nat.le_of_ble_eq_true rfl)) dX0_compare_35 ⟨Nat.zero_le _, Nat.zero_le _⟩) ?_
            refine W.eq (g2 := F0 m 38 ls ([.int (f_X0_kindOf ft ff a2)])) rfl ?_
            refine lv_iconst (v := 5) hx hb dX0_compare_38 (by decide) ?_
            refine lv_icmp_ne (tgt := 44) hx hb dX0_compare_39 (by decide) (fun c_12 => ?_) (fun c_12 => ?_)
            · exact hJ_8
            · exact absurd (by rw [if_neg c_11, if_pos c_12]) cV_7
    · refine lv_if_ne (tgt := 14) hx hb dX0_compare_4 (by decide) (fun c_5 => ?_) (fun c_5 => ?_)
      · exact absurd (by rw [if_neg c_5]) cV_1
      · refine lv_iload_n hx hb dX0_compare_7 rfl (lv_at hl 2 rfl) ?_
        refine W.callV (r := .int (f_X0_isNoRegister a2)) (W.runS (As := [.int a2]) (rest := []) ⟨hx, hb, hml, hown, hts⟩ (c_X0_isNoRegister l a2 ) (va_cwS 1 hts gX0_compare_X0_isNoRegister rfl rfl rfl (by decide +kernel) ⟨Nat.le_of_ble_eq_true rfl, Nat.le_of_ble_eq_true rfl⟩) pu_pre rfl rfl hl.1 rfl (lv_room (Nat.le_of_ble_eq_true rfl)) dX0_compare_8 ⟨Nat.zero_le _, Nat.zero_le _⟩) ?_
        refine W.eq (g2 := F0 m 11 ls ([.int (f_X0_isNoRegister a2)])) rfl ?_
        refine lv_if_eq (tgt := 24) hx hb dX0_compare_11 (by decide) (fun c_6 => ?_) (fun c_6 => ?_)
        · exact hJ_2
        · exact absurd (by rw [if_pos c_5, if_neg c_6]) cV_1
