theorem no1_X0_control (ft : Nat → Int32) (ff : Nat → Int64) (w : Int32) (lt : Int32) (lk : Int32) (lc : Int32) (a1 : Int32) : ¬ (f_X0_control ft ff w lt lk lc a1).1 = 1 := by
  unfold f_X0_control
  (repeat' split) <;> first | exact (show ¬ (0 : Nat) = 1 by decide) | exact (show ¬ (1 : Nat) = 2 by decide) | exact (show ¬ (2 : Nat) = 1 by decide)
theorem no1_X0_last (ft : Nat → Int32) (ff : Nat → Int64) (w : Int32) (lt : Int32) (lk : Int32) (lc : Int32) (a1 : Int32) : ¬ (f_X0_last ft ff w lt lk lc a1).1 = 1 := by
  unfold f_X0_last
  (repeat' split) <;> first | exact (show ¬ (0 : Nat) = 1 by decide) | exact (show ¬ (1 : Nat) = 2 by decide) | exact (show ¬ (2 : Nat) = 1 by decide)
theorem no2_X0_again (ft : Nat → Int32) (ff : Nat → Int64) (w : Int32) (lt : Int32) (lk : Int32) (lc : Int32) (a1 : Int32) (a2 : Int32) : ¬ (f_X0_again ft ff w lt lk lc a1 a2).1 = 2 := by
  unfold f_X0_again
  (repeat' split) <;> first | exact (show ¬ (0 : Nat) = 2 by decide) | exact (show ¬ (1 : Nat) = 2 by decide) | exact (show ¬ (2 : Nat) = 1 by decide)
theorem no2_X0_compare (ft : Nat → Int32) (ff : Nat → Int64) (w : Int32) (lt : Int32) (lk : Int32) (lc : Int32) (a1 : Int32) (a2 : Int32) : ¬ (f_X0_compare ft ff w lt lk lc a1 a2).1 = 2 := by
  unfold f_X0_compare
  (repeat' split) <;> first | exact (show ¬ (0 : Nat) = 2 by decide) | exact (show ¬ (1 : Nat) = 2 by decide) | exact (show ¬ (2 : Nat) = 1 by decide)
theorem no2_X0_neighbour (ft : Nat → Int32) (ff : Nat → Int64) (w : Int32) (lt : Int32) (lk : Int32) (lc : Int32) (a1 : Int32) (a2 : Int32) (a3 : Int32) : ¬ (f_X0_neighbour ft ff w lt lk lc a1 a2 a3).1 = 2 := by
  unfold f_X0_neighbour
  (repeat' split) <;> first | exact (show ¬ (0 : Nat) = 2 by decide) | exact (show ¬ (1 : Nat) = 2 by decide) | exact (show ¬ (2 : Nat) = 1 by decide)
def f_L_control (ft : Nat → Int32) (ff : Nat → Int64) (w : Int32) (lt : Int32) (lk : Int32) (lc : Int32) (a2 : Int32) : Int32 × XS :=
  if (f_X0_control ft ff w lt lk lc a2).1 = 0 then (0, ((f_X0_control ft ff w lt lk lc a2).2.1, (f_X0_control ft ff w lt lk lc a2).2.2.1, (f_X0_control ft ff w lt lk lc a2).2.2.2.1, (f_X0_control ft ff w lt lk lc a2).2.2.2.2.1, (f_X0_control ft ff w lt lk lc a2).2.2.2.2.2.1, (f_X0_control ft ff w lt lk lc a2).2.2.2.2.2.2)) else (1, (ft, ff, w, lt, lk, lc))
set_option maxHeartbeats 1000000 in
set_option maxRecDepth 100000 in
theorem c_L_control (l : Launch) (hfl : l.stackTraces = false) (dC : Nat → ClassId) (dI : Nat → Nat → Nat) (cI cL : ClassId) (h0 qt qf : Nat) (sz : Nat) (ft : Nat → Int32) (ff : Nat → Int64) (w : Int32) (lt : Int32) (lk : Int32) (lc : Int32) (a2 : Int32) : Met l yL_control wsL_control ({ frames := 7, cells := 1, slots := 6, locals := 103 }) (tw_Pc (dC, dI) (x_W cI cL h0 qt qf ft ff w lt lk lc) (x_T cI cL) sz [.ref h0, .int a2]) (wr_Qi (dC, dI) (x_WU cI cL h0 qt qf) (f_L_control ft ff w lt lk lc a2) (va_A (x_W cI cL h0 qt qf ft ff w lt lk lc) sz)) 1 6 (va_A (x_W cI cL h0 qt qf ft ff w lt lk lc) sz) := by
  refine va_MetW (cc := cL_control) (maxL := 3) (ret := (some .int)) (by decide) rfl ?_
  intro p e s m args below meth c s₁ B hml hv
  obtain ⟨rfl, hsz, hP, hK, hD0, hE⟩ := hv
  have hx := B.exec
  have hb := B.bytes
  have hr := B.returns
  have hts := atoms_spec (ws := wsL_control) B.pre
  have hown : s.vm.findClass RL = some m.cls := findClass_of_methodNamed B.named
  have hlocks := B.notSynchronized
  have hTab : c.exceptionTable.toList = tableOf [(0, 5, 8, 13)] := vx_table (x := yL_control) B (hts (.codeWith yL_control cL_control 3 (some .int) [(0, 5, 8, 13)]) (List.mem_append_left _ List.mem_cons_self))
  subst hsz
  have hD := hD0.self (sz := s.heap.size)
  generalize hAe : va_A (x_W cI cL h0 qt qf ft ff w lt lk lc) s.heap.size = A at hD hE ⊢
  have hA : ∀ q : Nat, s.heap.size ≤ q → A q := fun q h => by rw [← hAe]; exact Or.inr h
  have hS : va_S A s.heap s.heap [] := va_S.rf
  have hD : va_D A [(h0, .inr (0, [.ref qt, .ref qf, .int w, .int lt, .int lk, .int lc])), (qt, .inl (cI, 8, .inl ft)), (qf, .inl (cL, 8, .inr (.inl ff)))] := hD
  have hP : va_P (dC, dI) vwCl [(h0, .inr (0, [.ref qt, .ref qf, .int w, .int lt, .int lk, .int lc])), (qt, .inl (cI, 8, .inl ft)), (qf, .inl (cL, 8, .inr (.inl ff)))] s.heap := hP
  have hl := lv_entry ([.ref h0, .int a2]) (n := 3) (Nat.le_of_ble_eq_true rfl)
  rw [lg_entry_eq]
  generalize (lg_sl ([.ref h0, .int a2]) ++ List.replicate (3 - (lg_sl ([.ref h0, .int a2])).length) Slot.unset).toArray = ls at hl ⊢
  have hl : lv_has ls 3 [(0, .ref h0), (1, .int a2)] := hl
  refine lv_aload_n hx hb dL_control_0 rfl (lv_at hl 0 rfl) ?_
  refine lv_iload_n hx hb dL_control_1 rfl (lv_at hl 1 rfl) ?_
  have hPc := hP.sub (ws' := [(h0, .inr (0, [.ref qt, .ref qf, .int w, .int lt, .int lk, .int lc])), (qt, .inl (cI, 8, .inl ft)), (qf, .inl (cL, 8, .inr (.inl ff)))]) [0, 1, 2] rfl
  have hDc := hD.sub (ws' := [(h0, .inr (0, [.ref qt, .ref qf, .int w, .int lt, .int lk, .int lc])), (qt, .inl (cI, 8, .inl ft)), (qf, .inl (cL, 8, .inr (.inl ff)))]) [0, 1, 2] (by decide) rfl
  have hFc := va_free (wc := [(h0, .inr (0, [.ref qt, .ref qf, .int w, .int lt, .int lk, .int lc])), (qt, .inl (cI, 8, .inl ft)), (qf, .inl (cL, 8, .inr (.inl ff)))]) hD hS hA [0, 1, 2] rfl
  refine tw_callv (D := (dC, dI)) (wr := []) (wc := [(h0, .inr (0, [.ref qt, .ref qf, .int w, .int lt, .int lk, .int lc])), (qt, .inl (cI, 8, .inl ft)), (qf, .inl (cL, 8, .inr (.inl ff)))]) (vx_runV (As := [.int a2]) (rest := []) ⟨hx, hb, hml, hown, hts⟩ (c_X0_control l hfl dC dI cI cL h0 qt qf s.heap.size ft ff w lt lk lc a2) (cwV 1 hts gL_control_X0_control rfl rfl rfl (by decide +kernel) ⟨Nat.le_of_ble_eq_true rfl, Nat.le_of_ble_eq_true rfl⟩) (tw_preV hK hPc hDc (fun U hU hW => hE.go hS hFc hU hW) rfl rfl) rfl rfl hl.1 rfl (lv_room (Nat.le_of_ble_eq_true rfl)) dL_control_2 ⟨Nat.le_of_ble_eq_true rfl, Nat.le_of_ble_eq_true rfl⟩) hP hD hS hA [0, 1, 2] [] rfl rfl (by decide) (by decide) (by decide) (fun E ce q9 H locs hE9 hP hD hS hce hcv hcl => ?_) (fun hv0 H locs hP hD hS => ?_)
  · have hP : va_P (dC, dI) vwCl [(h0, .inr (0, [.ref qt, .ref qf, .int w, .int lt, .int lk, .int lc])), (qt, .inl (cI, 8, .inl ft)), (qf, .inl (cL, 8, .inr (.inl ff)))] H := hP
    have hD : va_D A [(h0, .inr (0, [.ref qt, .ref qf, .int w, .int lt, .int lk, .int lc])), (qt, .inl (cI, 8, .inl ft)), (qf, .inl (cL, 8, .inr (.inl ff)))] := hD
    rcases hE9 with ⟨hk9, rfl⟩ | ⟨hk9, rfl⟩
    · exact absurd hk9 (no1_X0_control _ _ _ _ _ _ _)
    · refine vx_catch (own := RL) (name := "java/lang/IllegalArgumentException") (E := "java/lang/IllegalArgumentException") hown [] ⟨0, 5, 8, 13⟩ [] (by rw [hTab]; rfl) (fun z hz => nomatch hz) (by decide) (by decide) (hts (.classLink RL 13 "java/lang/IllegalArgumentException") (by decide +kernel)) (va_Nw.use rfl (xv_c2 hE.2.2)) hce hcv hcl ?_
      refine W.eq (g2 := F0 m 8 ls [.ref q9]) rfl ?_
      refine lv_astore_n (lv' := [(2, .ref q9), (0, .ref h0), (1, .int a2)]) hx hb dL_control_8 rfl hl (by decide) rfl (fun ls hl => ?_)
      refine lv_iconst (v := 1) hx hb dL_control_9 (by decide) ?_
      refine W.widen (k := 1) (n := 6) (Nat.le_refl _) (Nat.le_refl _) ?_
      exact W.iret (v := 1) hx hb hr (fun t ht hW => ⟨⟨1, (ft, ff, w, lt, lk, lc), rfl, (show (f_L_control ft ff w lt lk lc a2) = ((1, (ft, ff, w, lt, lk, lc)) : Int32 × XS) from by unfold f_L_control; rw [if_neg (by rw [hk9]; decide)]; try rw [if_neg (by rw [hk9]; decide)]).symm, by rw [ht, x_WU_mk]; exact hP, by rw [x_WU_mk]; exact hD⟩, hS.F ht⟩) hS.2.2 dL_control_10
  · have hP : va_P (dC, dI) vwCl [(h0, .inr (0, [.ref qt, .ref qf, .int ((f_X0_control ft ff w lt lk lc a2).2.2.2.1), .int ((f_X0_control ft ff w lt lk lc a2).2.2.2.2.1), .int ((f_X0_control ft ff w lt lk lc a2).2.2.2.2.2.1), .int ((f_X0_control ft ff w lt lk lc a2).2.2.2.2.2.2)])), (qt, .inl (cI, 8, .inl ((f_X0_control ft ff w lt lk lc a2).2.1))), (qf, .inl (cL, 8, .inr (.inl ((f_X0_control ft ff w lt lk lc a2).2.2.1))))] H := hP
    have hD : va_D A [(h0, .inr (0, [.ref qt, .ref qf, .int ((f_X0_control ft ff w lt lk lc a2).2.2.2.1), .int ((f_X0_control ft ff w lt lk lc a2).2.2.2.2.1), .int ((f_X0_control ft ff w lt lk lc a2).2.2.2.2.2.1), .int ((f_X0_control ft ff w lt lk lc a2).2.2.2.2.2.2)])), (qt, .inl (cI, 8, .inl ((f_X0_control ft ff w lt lk lc a2).2.1))), (qf, .inl (cL, 8, .inr (.inl ((f_X0_control ft ff w lt lk lc a2).2.2.1))))] := hD
    refine W.eq (g2 := F0 m 5 ls ([])) rfl ?_
    refine lv_goto (tgt := 11) hx hb dL_control_5 (by decide) ?_
    refine lv_iconst (v := 0) hx hb dL_control_11 (by decide) ?_
    refine W.widen (k := 1) (n := 6) (Nat.le_refl _) (Nat.le_refl _) ?_
    exact W.iret (v := 0) hx hb hr (fun t ht hW => ⟨⟨0, ((f_X0_control ft ff w lt lk lc a2).2.1, (f_X0_control ft ff w lt lk lc a2).2.2.1, (f_X0_control ft ff w lt lk lc a2).2.2.2.1, (f_X0_control ft ff w lt lk lc a2).2.2.2.2.1, (f_X0_control ft ff w lt lk lc a2).2.2.2.2.2.1, (f_X0_control ft ff w lt lk lc a2).2.2.2.2.2.2), rfl, (show (f_L_control ft ff w lt lk lc a2) = ((0, ((f_X0_control ft ff w lt lk lc a2).2.1, (f_X0_control ft ff w lt lk lc a2).2.2.1, (f_X0_control ft ff w lt lk lc a2).2.2.2.1, (f_X0_control ft ff w lt lk lc a2).2.2.2.2.1, (f_X0_control ft ff w lt lk lc a2).2.2.2.2.2.1, (f_X0_control ft ff w lt lk lc a2).2.2.2.2.2.2)) : Int32 × XS) from by unfold f_L_control; rw [if_pos hv0]).symm, by rw [ht, x_WU_mk]; exact hP, by rw [x_WU_mk]; exact hD⟩, hS.F ht⟩) hS.2.2 dL_control_12
def f_L_set (ft : Nat → Int32) (ff : Nat → Int64) (w : Int32) (lt : Int32) (lk : Int32) (lc : Int32) (a2 : Int32) (a3 : Int32) (a4 : Int32) (a5 : Int32) : Int32 × XS :=
  if (f_X0_set ft ff w lt lk lc a2 a3 a4 a5).1 = 0 then (0, ((f_X0_set ft ff w lt lk lc a2 a3 a4 a5).2.1, (f_X0_set ft ff w lt lk lc a2 a3 a4 a5).2.2.1, (f_X0_set ft ff w lt lk lc a2 a3 a4 a5).2.2.2.1, (f_X0_set ft ff w lt lk lc a2 a3 a4 a5).2.2.2.2.1, (f_X0_set ft ff w lt lk lc a2 a3 a4 a5).2.2.2.2.2.1, (f_X0_set ft ff w lt lk lc a2 a3 a4 a5).2.2.2.2.2.2)) else if (f_X0_set ft ff w lt lk lc a2 a3 a4 a5).1 = 1 then (1, (ft, ff, w, lt, lk, lc)) else (2, (ft, ff, w, lt, lk, lc))
set_option maxHeartbeats 1000000 in
set_option maxRecDepth 100000 in
theorem c_L_set (l : Launch) (hfl : l.stackTraces = false) (dC : Nat → ClassId) (dI : Nat → Nat → Nat) (cI cL : ClassId) (h0 qt qf : Nat) (sz : Nat) (ft : Nat → Int32) (ff : Nat → Int64) (w : Int32) (lt : Int32) (lk : Int32) (lc : Int32) (a2 : Int32) (a3 : Int32) (a4 : Int32) (a5 : Int32) : Met l yL_set wsL_set ({ frames := 7, cells := 1, slots := 6, locals := 106 }) (tw_Pc (dC, dI) (x_W cI cL h0 qt qf ft ff w lt lk lc) (x_T cI cL) sz [.ref h0, .int a2, .int a3, .int a4, .int a5]) (wr_Qi (dC, dI) (x_WU cI cL h0 qt qf) (f_L_set ft ff w lt lk lc a2 a3 a4 a5) (va_A (x_W cI cL h0 qt qf ft ff w lt lk lc) sz)) 1 6 (va_A (x_W cI cL h0 qt qf ft ff w lt lk lc) sz) := by
  refine va_MetW (cc := cL_set) (maxL := 6) (ret := (some .int)) (by decide) rfl ?_
  intro p e s m args below meth c s₁ B hml hv
  obtain ⟨rfl, hsz, hP, hK, hD0, hE⟩ := hv
  have hx := B.exec
  have hb := B.bytes
  have hr := B.returns
  have hts := atoms_spec (ws := wsL_set) B.pre
  have hown : s.vm.findClass RL = some m.cls := findClass_of_methodNamed B.named
  have hlocks := B.notSynchronized
  have hTab : c.exceptionTable.toList = tableOf [(0, 9, 12, 19), (0, 9, 16, 13)] := vx_table (x := yL_set) B (hts (.codeWith yL_set cL_set 6 (some .int) [(0, 9, 12, 19), (0, 9, 16, 13)]) (List.mem_append_left _ List.mem_cons_self))
  subst hsz
  have hD := hD0.self (sz := s.heap.size)
  generalize hAe : va_A (x_W cI cL h0 qt qf ft ff w lt lk lc) s.heap.size = A at hD hE ⊢
  have hA : ∀ q : Nat, s.heap.size ≤ q → A q := fun q h => by rw [← hAe]; exact Or.inr h
  have hS : va_S A s.heap s.heap [] := va_S.rf
  have hD : va_D A [(h0, .inr (0, [.ref qt, .ref qf, .int w, .int lt, .int lk, .int lc])), (qt, .inl (cI, 8, .inl ft)), (qf, .inl (cL, 8, .inr (.inl ff)))] := hD
  have hP : va_P (dC, dI) vwCl [(h0, .inr (0, [.ref qt, .ref qf, .int w, .int lt, .int lk, .int lc])), (qt, .inl (cI, 8, .inl ft)), (qf, .inl (cL, 8, .inr (.inl ff)))] s.heap := hP
  have hl := lv_entry ([.ref h0, .int a2, .int a3, .int a4, .int a5]) (n := 6) (Nat.le_of_ble_eq_true rfl)
  rw [lg_entry_eq]
  generalize (lg_sl ([.ref h0, .int a2, .int a3, .int a4, .int a5]) ++ List.replicate (6 - (lg_sl ([.ref h0, .int a2, .int a3, .int a4, .int a5])).length) Slot.unset).toArray = ls at hl ⊢
  have hl : lv_has ls 6 [(0, .ref h0), (1, .int a2), (2, .int a3), (3, .int a4), (4, .int a5)] := hl
  refine lv_aload_n hx hb dL_set_0 rfl (lv_at hl 0 rfl) ?_
  refine lv_iload_n hx hb dL_set_1 rfl (lv_at hl 1 rfl) ?_
  refine lv_iload_n hx hb dL_set_2 rfl (lv_at hl 2 rfl) ?_
  refine lv_iload_n hx hb dL_set_3 rfl (lv_at hl 3 rfl) ?_
  refine lv_iload hx hb dL_set_4 (lv_at hl 4 rfl) ?_
  have hPc := hP.sub (ws' := [(h0, .inr (0, [.ref qt, .ref qf, .int w, .int lt, .int lk, .int lc])), (qt, .inl (cI, 8, .inl ft)), (qf, .inl (cL, 8, .inr (.inl ff)))]) [0, 1, 2] rfl
  have hDc := hD.sub (ws' := [(h0, .inr (0, [.ref qt, .ref qf, .int w, .int lt, .int lk, .int lc])), (qt, .inl (cI, 8, .inl ft)), (qf, .inl (cL, 8, .inr (.inl ff)))]) [0, 1, 2] (by decide) rfl
  have hFc := va_free (wc := [(h0, .inr (0, [.ref qt, .ref qf, .int w, .int lt, .int lk, .int lc])), (qt, .inl (cI, 8, .inl ft)), (qf, .inl (cL, 8, .inr (.inl ff)))]) hD hS hA [0, 1, 2] rfl
  refine tw_callv (D := (dC, dI)) (wr := []) (wc := [(h0, .inr (0, [.ref qt, .ref qf, .int w, .int lt, .int lk, .int lc])), (qt, .inl (cI, 8, .inl ft)), (qf, .inl (cL, 8, .inr (.inl ff)))]) (vx_runV (As := [.int a2, .int a3, .int a4, .int a5]) (rest := []) ⟨hx, hb, hml, hown, hts⟩ (c_X0_set l hfl dC dI cI cL h0 qt qf s.heap.size ft ff w lt lk lc a2 a3 a4 a5) (cwV 4 hts gL_set_X0_set rfl rfl rfl (by decide +kernel) ⟨Nat.le_of_ble_eq_true rfl, Nat.le_of_ble_eq_true rfl⟩) (tw_preV hK hPc hDc (fun U hU hW => hE.go hS hFc hU hW) rfl rfl) rfl rfl hl.1 rfl (lv_room (Nat.le_of_ble_eq_true rfl)) dL_set_6 ⟨Nat.le_of_ble_eq_true rfl, Nat.le_of_ble_eq_true rfl⟩) hP hD hS hA [0, 1, 2] [] rfl rfl (by decide) (by decide) (by decide) (fun E ce q9 H locs hE9 hP hD hS hce hcv hcl => ?_) (fun hv0 H locs hP hD hS => ?_)
  · have hP : va_P (dC, dI) vwCl [(h0, .inr (0, [.ref qt, .ref qf, .int w, .int lt, .int lk, .int lc])), (qt, .inl (cI, 8, .inl ft)), (qf, .inl (cL, 8, .inr (.inl ff)))] H := hP
    have hD : va_D A [(h0, .inr (0, [.ref qt, .ref qf, .int w, .int lt, .int lk, .int lc])), (qt, .inl (cI, 8, .inl ft)), (qf, .inl (cL, 8, .inr (.inl ff)))] := hD
    rcases hE9 with ⟨hk9, rfl⟩ | ⟨hk9, rfl⟩
    · refine vx_catch (own := RL) (name := "java/lang/IndexOutOfBoundsException") (E := "java/lang/IndexOutOfBoundsException") hown [] ⟨0, 9, 12, 19⟩ [⟨0, 9, 16, 13⟩] (by rw [hTab]; rfl) (fun z hz => nomatch hz) (by decide) (by decide) (hts (.classLink RL 19 "java/lang/IndexOutOfBoundsException") (by decide +kernel)) (va_Nw.use rfl (xv_c1 hE.2.2)) hce hcv hcl ?_
      refine W.eq (g2 := F0 m 12 ls [.ref q9]) rfl ?_
      refine lv_astore (lv' := [(5, .ref q9), (0, .ref h0), (1, .int a2), (2, .int a3), (3, .int a4), (4, .int a5)]) hx hb dL_set_12 hl (by decide) rfl (fun ls hl => ?_)
      refine lv_iconst (v := 1) hx hb dL_set_14 (by decide) ?_
      refine W.widen (k := 1) (n := 6) (Nat.le_refl _) (Nat.le_refl _) ?_
      exact W.iret (v := 1) hx hb hr (fun t ht hW => ⟨⟨1, (ft, ff, w, lt, lk, lc), rfl, (show (f_L_set ft ff w lt lk lc a2 a3 a4 a5) = ((1, (ft, ff, w, lt, lk, lc)) : Int32 × XS) from by unfold f_L_set; rw [if_neg (by rw [hk9]; decide)]; try rw [if_pos hk9]).symm, by rw [ht, x_WU_mk]; exact hP, by rw [x_WU_mk]; exact hD⟩, hS.F ht⟩) hS.2.2 dL_set_15
    · refine vx_catch (own := RL) (name := "java/lang/IllegalArgumentException") (E := "java/lang/IllegalArgumentException") hown [⟨0, 9, 12, 19⟩] ⟨0, 9, 16, 13⟩ [] (by rw [hTab]; rfl) (by intro z hz; rcases List.mem_cons.mp hz with hq | hz; (subst hq; exact Or.inr ⟨by decide, "java/lang/IndexOutOfBoundsException", hts (.classLink RL 19 "java/lang/IndexOutOfBoundsException") (by decide +kernel), xv_nc hE.2.2⟩); cases hz) (by decide) (by decide) (hts (.classLink RL 13 "java/lang/IllegalArgumentException") (by decide +kernel)) (va_Nw.use rfl (xv_c2 hE.2.2)) hce hcv hcl ?_
      refine W.eq (g2 := F0 m 16 ls [.ref q9]) rfl ?_
      refine lv_astore (lv' := [(5, .ref q9), (0, .ref h0), (1, .int a2), (2, .int a3), (3, .int a4), (4, .int a5)]) hx hb dL_set_16 hl (by decide) rfl (fun ls hl => ?_)
      refine lv_iconst (v := 2) hx hb dL_set_18 (by decide) ?_
      refine W.widen (k := 1) (n := 6) (Nat.le_refl _) (Nat.le_refl _) ?_
      exact W.iret (v := 2) hx hb hr (fun t ht hW => ⟨⟨2, (ft, ff, w, lt, lk, lc), rfl, (show (f_L_set ft ff w lt lk lc a2 a3 a4 a5) = ((2, (ft, ff, w, lt, lk, lc)) : Int32 × XS) from by unfold f_L_set; rw [if_neg (by rw [hk9]; decide)]; try rw [if_neg (by rw [hk9]; decide)]).symm, by rw [ht, x_WU_mk]; exact hP, by rw [x_WU_mk]; exact hD⟩, hS.F ht⟩) hS.2.2 dL_set_19
  · have hP : va_P (dC, dI) vwCl [(h0, .inr (0, [.ref qt, .ref qf, .int ((f_X0_set ft ff w lt lk lc a2 a3 a4 a5).2.2.2.1), .int ((f_X0_set ft ff w lt lk lc a2 a3 a4 a5).2.2.2.2.1), .int ((f_X0_set ft ff w lt lk lc a2 a3 a4 a5).2.2.2.2.2.1), .int ((f_X0_set ft ff w lt lk lc a2 a3 a4 a5).2.2.2.2.2.2)])), (qt, .inl (cI, 8, .inl ((f_X0_set ft ff w lt lk lc a2 a3 a4 a5).2.1))), (qf, .inl (cL, 8, .inr (.inl ((f_X0_set ft ff w lt lk lc a2 a3 a4 a5).2.2.1))))] H := hP
    have hD : va_D A [(h0, .inr (0, [.ref qt, .ref qf, .int ((f_X0_set ft ff w lt lk lc a2 a3 a4 a5).2.2.2.1), .int ((f_X0_set ft ff w lt lk lc a2 a3 a4 a5).2.2.2.2.1), .int ((f_X0_set ft ff w lt lk lc a2 a3 a4 a5).2.2.2.2.2.1), .int ((f_X0_set ft ff w lt lk lc a2 a3 a4 a5).2.2.2.2.2.2)])), (qt, .inl (cI, 8, .inl ((f_X0_set ft ff w lt lk lc a2 a3 a4 a5).2.1))), (qf, .inl (cL, 8, .inr (.inl ((f_X0_set ft ff w lt lk lc a2 a3 a4 a5).2.2.1))))] := hD
    refine W.eq (g2 := F0 m 9 ls ([])) rfl ?_
    refine lv_goto (tgt := 20) hx hb dL_set_9 (by decide) ?_
    refine lv_iconst (v := 0) hx hb dL_set_20 (by decide) ?_
    refine W.widen (k := 1) (n := 6) (Nat.le_refl _) (Nat.le_refl _) ?_
    exact W.iret (v := 0) hx hb hr (fun t ht hW => ⟨⟨0, ((f_X0_set ft ff w lt lk lc a2 a3 a4 a5).2.1, (f_X0_set ft ff w lt lk lc a2 a3 a4 a5).2.2.1, (f_X0_set ft ff w lt lk lc a2 a3 a4 a5).2.2.2.1, (f_X0_set ft ff w lt lk lc a2 a3 a4 a5).2.2.2.2.1, (f_X0_set ft ff w lt lk lc a2 a3 a4 a5).2.2.2.2.2.1, (f_X0_set ft ff w lt lk lc a2 a3 a4 a5).2.2.2.2.2.2), rfl, (show (f_L_set ft ff w lt lk lc a2 a3 a4 a5) = ((0, ((f_X0_set ft ff w lt lk lc a2 a3 a4 a5).2.1, (f_X0_set ft ff w lt lk lc a2 a3 a4 a5).2.2.1, (f_X0_set ft ff w lt lk lc a2 a3 a4 a5).2.2.2.1, (f_X0_set ft ff w lt lk lc a2 a3 a4 a5).2.2.2.2.1, (f_X0_set ft ff w lt lk lc a2 a3 a4 a5).2.2.2.2.2.1, (f_X0_set ft ff w lt lk lc a2 a3 a4 a5).2.2.2.2.2.2)) : Int32 × XS) from by unfold f_L_set; rw [if_pos hv0]).symm, by rw [ht, x_WU_mk]; exact hP, by rw [x_WU_mk]; exact hD⟩, hS.F ht⟩) hS.2.2 dL_set_21
def f_L_part (fo : Nat → Int64) (ft : Nat → Int32) (ff : Nat → Int64) (w : Int32) (lt : Int32) (lk : Int32) (lc : Int32) (a2 : Int32) (a3 : Int32) : Int32 × (XS × (Nat → Int64)) :=
  if (f_X0_part ft ff w lt lk lc a2 a3).1 = 0 then (0, (((f_X0_part ft ff w lt lk lc a2 a3).2.2.1, (f_X0_part ft ff w lt lk lc a2 a3).2.2.2.1, (f_X0_part ft ff w lt lk lc a2 a3).2.2.2.2.1, (f_X0_part ft ff w lt lk lc a2 a3).2.2.2.2.2.1, (f_X0_part ft ff w lt lk lc a2 a3).2.2.2.2.2.2.1, (f_X0_part ft ff w lt lk lc a2 a3).2.2.2.2.2.2.2), (vp_updL fo ((0 : Int32).toNatClampNeg) (Int32.toInt64 ((f_X0_part ft ff w lt lk lc a2 a3).2.1))))) else if (f_X0_part ft ff w lt lk lc a2 a3).1 = 1 then (1, ((ft, ff, w, lt, lk, lc), fo)) else (2, ((ft, ff, w, lt, lk, lc), fo))
set_option maxHeartbeats 1000000 in
set_option maxRecDepth 100000 in
theorem c_L_part (l : Launch) (hfl : l.stackTraces = false) (dC : Nat → ClassId) (dI : Nat → Nat → Nat) (cI cL cO : ClassId) (h0 qt qf qo : Nat) (sz : Nat) (fo : Nat → Int64) (ft : Nat → Int32) (ff : Nat → Int64) (w : Int32) (lt : Int32) (lk : Int32) (lc : Int32) (a2 : Int32) (a3 : Int32) : Met l yL_part wsL_part ({ frames := 7, cells := 1, slots := 6, locals := 104 }) (tw_Pc (dC, dI) (w_W cI cL cO h0 qt qf qo fo ft ff w lt lk lc) (w_T cI cL cO) sz [.ref h0, .int a2, .int a3, .ref qo]) (wr_Qi (dC, dI) (w_WU cI cL cO h0 qt qf qo) (f_L_part fo ft ff w lt lk lc a2 a3) (va_A (w_W cI cL cO h0 qt qf qo fo ft ff w lt lk lc) sz)) 1 6 (va_A (w_W cI cL cO h0 qt qf qo fo ft ff w lt lk lc) sz) := by
  refine va_MetW (cc := cL_part) (maxL := 5) (ret := (some .int)) (by decide) rfl ?_
  intro p e s m args below meth c s₁ B hml hv
  obtain ⟨rfl, hsz, hP, hK, hD0, hE⟩ := hv
  have hx := B.exec
  have hb := B.bytes
  have hr := B.returns
  have hts := atoms_spec (ws := wsL_part) B.pre
  have hown : s.vm.findClass RL = some m.cls := findClass_of_methodNamed B.named
  have hlocks := B.notSynchronized
  have hTab : c.exceptionTable.toList = tableOf [(0, 10, 13, 19), (0, 10, 17, 13)] := vx_table (x := yL_part) B (hts (.codeWith yL_part cL_part 5 (some .int) [(0, 10, 13, 19), (0, 10, 17, 13)]) (List.mem_append_left _ List.mem_cons_self))
  subst hsz
  have hD := hD0.self (sz := s.heap.size)
  generalize hAe : va_A (w_W cI cL cO h0 qt qf qo fo ft ff w lt lk lc) s.heap.size = A at hD hE ⊢
  have hA : ∀ q : Nat, s.heap.size ≤ q → A q := fun q h => by rw [← hAe]; exact Or.inr h
  have hS : va_S A s.heap s.heap [] := va_S.rf
  have hD : va_D A [(qo, .inl (cO, 1, .inr (.inl fo))), (h0, .inr (0, [.ref qt, .ref qf, .int w, .int lt, .int lk, .int lc])), (qt, .inl (cI, 8, .inl ft)), (qf, .inl (cL, 8, .inr (.inl ff)))] := hD
  have hP : va_P (dC, dI) vwCl [(qo, .inl (cO, 1, .inr (.inl fo))), (h0, .inr (0, [.ref qt, .ref qf, .int w, .int lt, .int lk, .int lc])), (qt, .inl (cI, 8, .inl ft)), (qf, .inl (cL, 8, .inr (.inl ff)))] s.heap := hP
  have hl := lv_entry ([.ref h0, .int a2, .int a3, .ref qo]) (n := 5) (Nat.le_of_ble_eq_true rfl)
  rw [lg_entry_eq]
  generalize (lg_sl ([.ref h0, .int a2, .int a3, .ref qo]) ++ List.replicate (5 - (lg_sl ([.ref h0, .int a2, .int a3, .ref qo])).length) Slot.unset).toArray = ls at hl ⊢
  have hl : lv_has ls 5 [(0, .ref h0), (1, .int a2), (2, .int a3), (3, .ref qo)] := hl
  refine lv_aload_n hx hb dL_part_0 rfl (lv_at hl 3 rfl) ?_
  refine lv_iconst (v := 0) hx hb dL_part_1 (by decide) ?_
  refine lv_aload_n hx hb dL_part_2 rfl (lv_at hl 0 rfl) ?_
  refine lv_iload_n hx hb dL_part_3 rfl (lv_at hl 1 rfl) ?_
  refine lv_iload_n hx hb dL_part_4 rfl (lv_at hl 2 rfl) ?_
  have hPc := hP.sub (ws' := [(h0, .inr (0, [.ref qt, .ref qf, .int w, .int lt, .int lk, .int lc])), (qt, .inl (cI, 8, .inl ft)), (qf, .inl (cL, 8, .inr (.inl ff)))]) [1, 2, 3] rfl
  have hDc := hD.sub (ws' := [(h0, .inr (0, [.ref qt, .ref qf, .int w, .int lt, .int lk, .int lc])), (qt, .inl (cI, 8, .inl ft)), (qf, .inl (cL, 8, .inr (.inl ff)))]) [1, 2, 3] (by decide) rfl
  have hFc := va_free (wc := [(h0, .inr (0, [.ref qt, .ref qf, .int w, .int lt, .int lk, .int lc])), (qt, .inl (cI, 8, .inl ft)), (qf, .inl (cL, 8, .inr (.inl ff)))]) hD hS hA [1, 2, 3] rfl
  refine tw_calli (D := (dC, dI)) (wr := [(qo, .inl (cO, 1, .inr (.inl fo)))]) (wc := [(h0, .inr (0, [.ref qt, .ref qf, .int w, .int lt, .int lk, .int lc])), (qt, .inl (cI, 8, .inl ft)), (qf, .inl (cL, 8, .inr (.inl ff)))]) (vx_runV (As := [.int a2, .int a3]) (rest := [.int 0, .ref qo]) ⟨hx, hb, hml, hown, hts⟩ (c_X0_part l hfl dC dI cI cL h0 qt qf s.heap.size ft ff w lt lk lc a2 a3) (cwV 2 hts gL_part_X0_part rfl rfl rfl (by decide +kernel) ⟨Nat.le_of_ble_eq_true rfl, Nat.le_of_ble_eq_true rfl⟩) (tw_preV (hK.sub (tys' := x_T cI cL) [1, 2] rfl) hPc hDc (fun U hU hW => hE.go hS hFc hU hW) rfl rfl) rfl rfl hl.1 rfl (lv_room (Nat.le_of_ble_eq_true rfl)) dL_part_5 ⟨Nat.le_of_ble_eq_true rfl, Nat.le_of_ble_eq_true rfl⟩) hP hD hS hA [1, 2, 3] [0] rfl rfl (by decide) (by decide) (by decide) (fun E ce q9 H locs hE9 hP hD hS hce hcv hcl => ?_) (fun hv0 H locs hP hD hS => ?_)
  · have hP : va_P (dC, dI) vwCl [(qo, .inl (cO, 1, .inr (.inl fo))), (h0, .inr (0, [.ref qt, .ref qf, .int w, .int lt, .int lk, .int lc])), (qt, .inl (cI, 8, .inl ft)), (qf, .inl (cL, 8, .inr (.inl ff)))] H := hP
    have hD : va_D A [(qo, .inl (cO, 1, .inr (.inl fo))), (h0, .inr (0, [.ref qt, .ref qf, .int w, .int lt, .int lk, .int lc])), (qt, .inl (cI, 8, .inl ft)), (qf, .inl (cL, 8, .inr (.inl ff)))] := hD
    rcases hE9 with ⟨hk9, rfl⟩ | ⟨hk9, rfl⟩
    · refine vx_catch (own := RL) (name := "java/lang/IndexOutOfBoundsException") (E := "java/lang/IndexOutOfBoundsException") hown [] ⟨0, 10, 13, 19⟩ [⟨0, 10, 17, 13⟩] (by rw [hTab]; rfl) (fun z hz => nomatch hz) (by decide) (by decide) (hts (.classLink RL 19 "java/lang/IndexOutOfBoundsException") (by decide +kernel)) (va_Nw.use rfl (xv_c1 hE.2.2)) hce hcv hcl ?_
      refine W.eq (g2 := F0 m 13 ls [.ref q9]) rfl ?_
      refine lv_astore (lv' := [(4, .ref q9), (0, .ref h0), (1, .int a2), (2, .int a3), (3, .ref qo)]) hx hb dL_part_13 hl (by decide) rfl (fun ls hl => ?_)
      refine lv_iconst (v := 1) hx hb dL_part_15 (by decide) ?_
      refine W.widen (k := 1) (n := 6) (Nat.le_refl _) (Nat.le_refl _) ?_
      exact W.iret (v := 1) hx hb hr (fun t ht hW => ⟨⟨1, ((ft, ff, w, lt, lk, lc), fo), rfl, (show (f_L_part fo ft ff w lt lk lc a2 a3) = ((1, ((ft, ff, w, lt, lk, lc), fo)) : Int32 × (XS × (Nat → Int64))) from by unfold f_L_part; rw [if_neg (by rw [hk9]; decide)]; try rw [if_pos hk9]).symm, by rw [ht, w_WU_mk]; exact hP, by rw [w_WU_mk]; exact hD⟩, hS.F ht⟩) hS.2.2 dL_part_16
    · refine vx_catch (own := RL) (name := "java/lang/IllegalArgumentException") (E := "java/lang/IllegalArgumentException") hown [⟨0, 10, 13, 19⟩] ⟨0, 10, 17, 13⟩ [] (by rw [hTab]; rfl) (by intro z hz; rcases List.mem_cons.mp hz with hq | hz; (subst hq; exact Or.inr ⟨by decide, "java/lang/IndexOutOfBoundsException", hts (.classLink RL 19 "java/lang/IndexOutOfBoundsException") (by decide +kernel), xv_nc hE.2.2⟩); cases hz) (by decide) (by decide) (hts (.classLink RL 13 "java/lang/IllegalArgumentException") (by decide +kernel)) (va_Nw.use rfl (xv_c2 hE.2.2)) hce hcv hcl ?_
      refine W.eq (g2 := F0 m 17 ls [.ref q9]) rfl ?_
      refine lv_astore (lv' := [(4, .ref q9), (0, .ref h0), (1, .int a2), (2, .int a3), (3, .ref qo)]) hx hb dL_part_17 hl (by decide) rfl (fun ls hl => ?_)
      refine lv_iconst (v := 2) hx hb dL_part_19 (by decide) ?_
      refine W.widen (k := 1) (n := 6) (Nat.le_refl _) (Nat.le_refl _) ?_
      exact W.iret (v := 2) hx hb hr (fun t ht hW => ⟨⟨2, ((ft, ff, w, lt, lk, lc), fo), rfl, (show (f_L_part fo ft ff w lt lk lc a2 a3) = ((2, ((ft, ff, w, lt, lk, lc), fo)) : Int32 × (XS × (Nat → Int64))) from by unfold f_L_part; rw [if_neg (by rw [hk9]; decide)]; try rw [if_neg (by rw [hk9]; decide)]).symm, by rw [ht, w_WU_mk]; exact hP, by rw [w_WU_mk]; exact hD⟩, hS.F ht⟩) hS.2.2 dL_part_20
  · have hP : va_P (dC, dI) vwCl [(qo, .inl (cO, 1, .inr (.inl fo))), (h0, .inr (0, [.ref qt, .ref qf, .int ((f_X0_part ft ff w lt lk lc a2 a3).2.2.2.2.1), .int ((f_X0_part ft ff w lt lk lc a2 a3).2.2.2.2.2.1), .int ((f_X0_part ft ff w lt lk lc a2 a3).2.2.2.2.2.2.1), .int ((f_X0_part ft ff w lt lk lc a2 a3).2.2.2.2.2.2.2)])), (qt, .inl (cI, 8, .inl ((f_X0_part ft ff w lt lk lc a2 a3).2.2.1))), (qf, .inl (cL, 8, .inr (.inl ((f_X0_part ft ff w lt lk lc a2 a3).2.2.2.1))))] H := hP
    have hD : va_D A [(qo, .inl (cO, 1, .inr (.inl fo))), (h0, .inr (0, [.ref qt, .ref qf, .int ((f_X0_part ft ff w lt lk lc a2 a3).2.2.2.2.1), .int ((f_X0_part ft ff w lt lk lc a2 a3).2.2.2.2.2.1), .int ((f_X0_part ft ff w lt lk lc a2 a3).2.2.2.2.2.2.1), .int ((f_X0_part ft ff w lt lk lc a2 a3).2.2.2.2.2.2.2)])), (qt, .inl (cI, 8, .inl ((f_X0_part ft ff w lt lk lc a2 a3).2.2.1))), (qf, .inl (cL, 8, .inr (.inl ((f_X0_part ft ff w lt lk lc a2 a3).2.2.2.1))))] := hD
    refine W.eq (g2 := F0 m 8 ls ([.int ((f_X0_part ft ff w lt lk lc a2 a3).2.1), .int 0, .ref qo])) rfl ?_
    refine lv_i2l hx hb dL_part_8 rfl ?_
    refine va_last hx hb hK hP hD hS 0 0 rfl rfl (vp_in_nI (n := 0) (by decide) (by decide)) dL_part_9 (fun H locs hP hD hS => ?_)
    have hP : va_P (dC, dI) vwCl [(qo, .inl (cO, 1, .inr (.inl (vp_updL fo ((0 : Int32).toNatClampNeg) (Int32.toInt64 ((f_X0_part ft ff w lt lk lc a2 a3).2.1)))))), (h0, .inr (0, [.ref qt, .ref qf, .int ((f_X0_part ft ff w lt lk lc a2 a3).2.2.2.2.1), .int ((f_X0_part ft ff w lt lk lc a2 a3).2.2.2.2.2.1), .int ((f_X0_part ft ff w lt lk lc a2 a3).2.2.2.2.2.2.1), .int ((f_X0_part ft ff w lt lk lc a2 a3).2.2.2.2.2.2.2)])), (qt, .inl (cI, 8, .inl ((f_X0_part ft ff w lt lk lc a2 a3).2.2.1))), (qf, .inl (cL, 8, .inr (.inl ((f_X0_part ft ff w lt lk lc a2 a3).2.2.2.1))))] H := hP
    have hD : va_D A [(qo, .inl (cO, 1, .inr (.inl (vp_updL fo ((0 : Int32).toNatClampNeg) (Int32.toInt64 ((f_X0_part ft ff w lt lk lc a2 a3).2.1)))))), (h0, .inr (0, [.ref qt, .ref qf, .int ((f_X0_part ft ff w lt lk lc a2 a3).2.2.2.2.1), .int ((f_X0_part ft ff w lt lk lc a2 a3).2.2.2.2.2.1), .int ((f_X0_part ft ff w lt lk lc a2 a3).2.2.2.2.2.2.1), .int ((f_X0_part ft ff w lt lk lc a2 a3).2.2.2.2.2.2.2)])), (qt, .inl (cI, 8, .inl ((f_X0_part ft ff w lt lk lc a2 a3).2.2.1))), (qf, .inl (cL, 8, .inr (.inl ((f_X0_part ft ff w lt lk lc a2 a3).2.2.2.1))))] := hD
    refine lv_goto (tgt := 21) hx hb dL_part_10 (by decide) ?_
    refine lv_iconst (v := 0) hx hb dL_part_21 (by decide) ?_
    refine W.widen (k := 1) (n := 6) (Nat.le_refl _) (Nat.le_refl _) ?_
    exact W.iret (v := 0) hx hb hr (fun t ht hW => ⟨⟨0, (((f_X0_part ft ff w lt lk lc a2 a3).2.2.1, (f_X0_part ft ff w lt lk lc a2 a3).2.2.2.1, (f_X0_part ft ff w lt lk lc a2 a3).2.2.2.2.1, (f_X0_part ft ff w lt lk lc a2 a3).2.2.2.2.2.1, (f_X0_part ft ff w lt lk lc a2 a3).2.2.2.2.2.2.1, (f_X0_part ft ff w lt lk lc a2 a3).2.2.2.2.2.2.2), (vp_updL fo ((0 : Int32).toNatClampNeg) (Int32.toInt64 ((f_X0_part ft ff w lt lk lc a2 a3).2.1)))), rfl, (show (f_L_part fo ft ff w lt lk lc a2 a3) = ((0, (((f_X0_part ft ff w lt lk lc a2 a3).2.2.1, (f_X0_part ft ff w lt lk lc a2 a3).2.2.2.1, (f_X0_part ft ff w lt lk lc a2 a3).2.2.2.2.1, (f_X0_part ft ff w lt lk lc a2 a3).2.2.2.2.2.1, (f_X0_part ft ff w lt lk lc a2 a3).2.2.2.2.2.2.1, (f_X0_part ft ff w lt lk lc a2 a3).2.2.2.2.2.2.2), (vp_updL fo ((0 : Int32).toNatClampNeg) (Int32.toInt64 ((f_X0_part ft ff w lt lk lc a2 a3).2.1))))) : Int32 × (XS × (Nat → Int64))) from by unfold f_L_part; rw [if_pos hv0]).symm, by rw [ht, w_WU_mk]; exact hP, by rw [w_WU_mk]; exact hD⟩, hS.F ht⟩) hS.2.2 dL_part_22
def f_L_make (fo : Nat → Int64) (ft : Nat → Int32) (ff : Nat → Int64) (w : Int32) (lt : Int32) (lk : Int32) (lc : Int32) (a2 : Int32) (a3 : Int32) (a4 : Int32) (a5 : Int32) (a6 : Int32) (a7 : Int32) (a8 : Int32) (a9 : Int32) : Int32 × (XS × (Nat → Int64)) :=
  if (f_X0_make ft ff w lt lk lc a2 a3 a4 a5 a6 a7 a8 a9).1 = 0 then (0, (((f_X0_make ft ff w lt lk lc a2 a3 a4 a5 a6 a7 a8 a9).2.2.1, (f_X0_make ft ff w lt lk lc a2 a3 a4 a5 a6 a7 a8 a9).2.2.2.1, (f_X0_make ft ff w lt lk lc a2 a3 a4 a5 a6 a7 a8 a9).2.2.2.2.1, (f_X0_make ft ff w lt lk lc a2 a3 a4 a5 a6 a7 a8 a9).2.2.2.2.2.1, (f_X0_make ft ff w lt lk lc a2 a3 a4 a5 a6 a7 a8 a9).2.2.2.2.2.2.1, (f_X0_make ft ff w lt lk lc a2 a3 a4 a5 a6 a7 a8 a9).2.2.2.2.2.2.2), (vp_updL fo ((0 : Int32).toNatClampNeg) (Int32.toInt64 ((f_X0_make ft ff w lt lk lc a2 a3 a4 a5 a6 a7 a8 a9).2.1))))) else if (f_X0_make ft ff w lt lk lc a2 a3 a4 a5 a6 a7 a8 a9).1 = 1 then (1, ((ft, ff, w, lt, lk, lc), fo)) else (2, ((ft, ff, w, lt, lk, lc), fo))
set_option maxHeartbeats 1000000 in
set_option maxRecDepth 100000 in
theorem c_L_make (l : Launch) (hfl : l.stackTraces = false) (dC : Nat → ClassId) (dI : Nat → Nat → Nat) (cI cL cO : ClassId) (h0 qt qf qo : Nat) (sz : Nat) (fo : Nat → Int64) (ft : Nat → Int32) (ff : Nat → Int64) (w : Int32) (lt : Int32) (lk : Int32) (lc : Int32) (a2 : Int32) (a3 : Int32) (a4 : Int32) (a5 : Int32) (a6 : Int32) (a7 : Int32) (a8 : Int32) (a9 : Int32) : Met l yL_make wsL_make ({ frames := 7, cells := 1, slots := 6, locals := 171 }) (tw_Pc (dC, dI) (w_W cI cL cO h0 qt qf qo fo ft ff w lt lk lc) (w_T cI cL cO) sz [.ref h0, .int a2, .int a3, .int a4, .int a5, .int a6, .int a7, .int a8, .int a9, .ref qo]) (wr_Qi (dC, dI) (w_WU cI cL cO h0 qt qf qo) (f_L_make fo ft ff w lt lk lc a2 a3 a4 a5 a6 a7 a8 a9) (va_A (w_W cI cL cO h0 qt qf qo fo ft ff w lt lk lc) sz)) 1 6 (va_A (w_W cI cL cO h0 qt qf qo fo ft ff w lt lk lc) sz) := by
  refine va_MetW (cc := cL_make) (maxL := 11) (ret := (some .int)) (by decide) rfl ?_
  intro p e s m args below meth c s₁ B hml hv
  obtain ⟨rfl, hsz, hP, hK, hD0, hE⟩ := hv
  have hx := B.exec
  have hb := B.bytes
  have hr := B.returns
  have hts := atoms_spec (ws := wsL_make) B.pre
  have hown : s.vm.findClass RL = some m.cls := findClass_of_methodNamed B.named
  have hlocks := B.notSynchronized
  have hTab : c.exceptionTable.toList = tableOf [(0, 22, 25, 19), (0, 22, 29, 13)] := vx_table (x := yL_make) B (hts (.codeWith yL_make cL_make 11 (some .int) [(0, 22, 25, 19), (0, 22, 29, 13)]) (List.mem_append_left _ List.mem_cons_self))
  subst hsz
  have hD := hD0.self (sz := s.heap.size)
  generalize hAe : va_A (w_W cI cL cO h0 qt qf qo fo ft ff w lt lk lc) s.heap.size = A at hD hE ⊢
  have hA : ∀ q : Nat, s.heap.size ≤ q → A q := fun q h => by rw [← hAe]; exact Or.inr h
  have hS : va_S A s.heap s.heap [] := va_S.rf
  have hD : va_D A [(qo, .inl (cO, 1, .inr (.inl fo))), (h0, .inr (0, [.ref qt, .ref qf, .int w, .int lt, .int lk, .int lc])), (qt, .inl (cI, 8, .inl ft)), (qf, .inl (cL, 8, .inr (.inl ff)))] := hD
  have hP : va_P (dC, dI) vwCl [(qo, .inl (cO, 1, .inr (.inl fo))), (h0, .inr (0, [.ref qt, .ref qf, .int w, .int lt, .int lk, .int lc])), (qt, .inl (cI, 8, .inl ft)), (qf, .inl (cL, 8, .inr (.inl ff)))] s.heap := hP
  have hl := lv_entry ([.ref h0, .int a2, .int a3, .int a4, .int a5, .int a6, .int a7, .int a8, .int a9, .ref qo]) (n := 11) (Nat.le_of_ble_eq_true rfl)
  rw [lg_entry_eq]
  generalize (lg_sl ([.ref h0, .int a2, .int a3, .int a4, .int a5, .int a6, .int a7, .int a8, .int a9, .ref qo]) ++ List.replicate (11 - (lg_sl ([.ref h0, .int a2, .int a3, .int a4, .int a5, .int a6, .int a7, .int a8, .int a9, .ref qo])).length) Slot.unset).toArray = ls at hl ⊢
  have hl : lv_has ls 11 [(0, .ref h0), (1, .int a2), (2, .int a3), (3, .int a4), (4, .int a5), (5, .int a6), (6, .int a7), (7, .int a8), (8, .int a9), (9, .ref qo)] := hl
  refine lv_aload hx hb dL_make_0 (lv_at hl 9 rfl) ?_
  refine lv_iconst (v := 0) hx hb dL_make_2 (by decide) ?_
  refine lv_aload_n hx hb dL_make_3 rfl (lv_at hl 0 rfl) ?_
  refine lv_iload_n hx hb dL_make_4 rfl (lv_at hl 1 rfl) ?_
  refine lv_iload_n hx hb dL_make_5 rfl (lv_at hl 2 rfl) ?_
  refine lv_iload_n hx hb dL_make_6 rfl (lv_at hl 3 rfl) ?_
  refine lv_iload hx hb dL_make_7 (lv_at hl 4 rfl) ?_
  refine lv_iload hx hb dL_make_9 (lv_at hl 5 rfl) ?_
  refine lv_iload hx hb dL_make_11 (lv_at hl 6 rfl) ?_
  refine lv_iload hx hb dL_make_13 (lv_at hl 7 rfl) ?_
  refine lv_iload hx hb dL_make_15 (lv_at hl 8 rfl) ?_
  have hPc := hP.sub (ws' := [(h0, .inr (0, [.ref qt, .ref qf, .int w, .int lt, .int lk, .int lc])), (qt, .inl (cI, 8, .inl ft)), (qf, .inl (cL, 8, .inr (.inl ff)))]) [1, 2, 3] rfl
  have hDc := hD.sub (ws' := [(h0, .inr (0, [.ref qt, .ref qf, .int w, .int lt, .int lk, .int lc])), (qt, .inl (cI, 8, .inl ft)), (qf, .inl (cL, 8, .inr (.inl ff)))]) [1, 2, 3] (by decide) rfl
  have hFc := va_free (wc := [(h0, .inr (0, [.ref qt, .ref qf, .int w, .int lt, .int lk, .int lc])), (qt, .inl (cI, 8, .inl ft)), (qf, .inl (cL, 8, .inr (.inl ff)))]) hD hS hA [1, 2, 3] rfl
  refine tw_calli (D := (dC, dI)) (wr := [(qo, .inl (cO, 1, .inr (.inl fo)))]) (wc := [(h0, .inr (0, [.ref qt, .ref qf, .int w, .int lt, .int lk, .int lc])), (qt, .inl (cI, 8, .inl ft)), (qf, .inl (cL, 8, .inr (.inl ff)))]) (vx_runV (As := [.int a2, .int a3, .int a4, .int a5, .int a6, .int a7, .int a8, .int a9]) (rest := [.int 0, .ref qo]) ⟨hx, hb, hml, hown, hts⟩ (c_X0_make l hfl dC dI cI cL h0 qt qf s.heap.size ft ff w lt lk lc a2 a3 a4 a5 a6 a7 a8 a9) (cwV 8 hts gL_make_X0_make rfl rfl rfl (by decide +kernel) ⟨Nat.le_of_ble_eq_true rfl, Nat.le_of_ble_eq_true rfl⟩) (tw_preV (hK.sub (tys' := x_T cI cL) [1, 2] rfl) hPc hDc (fun U hU hW => hE.go hS hFc hU hW) rfl rfl) rfl rfl hl.1 rfl (lv_room (Nat.le_of_ble_eq_true rfl)) dL_make_17 ⟨Nat.le_of_ble_eq_true rfl, Nat.le_of_ble_eq_true rfl⟩) hP hD hS hA [1, 2, 3] [0] rfl rfl (by decide) (by decide) (by decide) (fun E ce q9 H locs hE9 hP hD hS hce hcv hcl => ?_) (fun hv0 H locs hP hD hS => ?_)
  · have hP : va_P (dC, dI) vwCl [(qo, .inl (cO, 1, .inr (.inl fo))), (h0, .inr (0, [.ref qt, .ref qf, .int w, .int lt, .int lk, .int lc])), (qt, .inl (cI, 8, .inl ft)), (qf, .inl (cL, 8, .inr (.inl ff)))] H := hP
    have hD : va_D A [(qo, .inl (cO, 1, .inr (.inl fo))), (h0, .inr (0, [.ref qt, .ref qf, .int w, .int lt, .int lk, .int lc])), (qt, .inl (cI, 8, .inl ft)), (qf, .inl (cL, 8, .inr (.inl ff)))] := hD
    rcases hE9 with ⟨hk9, rfl⟩ | ⟨hk9, rfl⟩
    · refine vx_catch (own := RL) (name := "java/lang/IndexOutOfBoundsException") (E := "java/lang/IndexOutOfBoundsException") hown [] ⟨0, 22, 25, 19⟩ [⟨0, 22, 29, 13⟩] (by rw [hTab]; rfl) (fun z hz => nomatch hz) (by decide) (by decide) (hts (.classLink RL 19 "java/lang/IndexOutOfBoundsException") (by decide +kernel)) (va_Nw.use rfl (xv_c1 hE.2.2)) hce hcv hcl ?_
      refine W.eq (g2 := F0 m 25 ls [.ref q9]) rfl ?_
      refine lv_astore (lv' := [(10, .ref q9), (0, .ref h0), (1, .int a2), (2, .int a3), (3, .int a4), (4, .int a5), (5, .int a6), (6, .int a7), (7, .int a8), (8, .int a9), (9, .ref qo)]) hx hb dL_make_25 hl (by decide) rfl (fun ls hl => ?_)
      refine lv_iconst (v := 1) hx hb dL_make_27 (by decide) ?_
      refine W.widen (k := 1) (n := 6) (Nat.le_refl _) (Nat.le_refl _) ?_
      exact W.iret (v := 1) hx hb hr (fun t ht hW => ⟨⟨1, ((ft, ff, w, lt, lk, lc), fo), rfl, (show (f_L_make fo ft ff w lt lk lc a2 a3 a4 a5 a6 a7 a8 a9) = ((1, ((ft, ff, w, lt, lk, lc), fo)) : Int32 × (XS × (Nat → Int64))) from by unfold f_L_make; rw [if_neg (by rw [hk9]; decide)]; try rw [if_pos hk9]).symm, by rw [ht, w_WU_mk]; exact hP, by rw [w_WU_mk]; exact hD⟩, hS.F ht⟩) hS.2.2 dL_make_28
    · refine vx_catch (own := RL) (name := "java/lang/IllegalArgumentException") (E := "java/lang/IllegalArgumentException") hown [⟨0, 22, 25, 19⟩] ⟨0, 22, 29, 13⟩ [] (by rw [hTab]; rfl) (by intro z hz; rcases List.mem_cons.mp hz with hq | hz; (subst hq; exact Or.inr ⟨by decide, "java/lang/IndexOutOfBoundsException", hts (.classLink RL 19 "java/lang/IndexOutOfBoundsException") (by decide +kernel), xv_nc hE.2.2⟩); cases hz) (by decide) (by decide) (hts (.classLink RL 13 "java/lang/IllegalArgumentException") (by decide +kernel)) (va_Nw.use rfl (xv_c2 hE.2.2)) hce hcv hcl ?_
      refine W.eq (g2 := F0 m 29 ls [.ref q9]) rfl ?_
      refine lv_astore (lv' := [(10, .ref q9), (0, .ref h0), (1, .int a2), (2, .int a3), (3, .int a4), (4, .int a5), (5, .int a6), (6, .int a7), (7, .int a8), (8, .int a9), (9, .ref qo)]) hx hb dL_make_29 hl (by decide) rfl (fun ls hl => ?_)
      refine lv_iconst (v := 2) hx hb dL_make_31 (by decide) ?_
      refine W.widen (k := 1) (n := 6) (Nat.le_refl _) (Nat.le_refl _) ?_
      exact W.iret (v := 2) hx hb hr (fun t ht hW => ⟨⟨2, ((ft, ff, w, lt, lk, lc), fo), rfl, (show (f_L_make fo ft ff w lt lk lc a2 a3 a4 a5 a6 a7 a8 a9) = ((2, ((ft, ff, w, lt, lk, lc), fo)) : Int32 × (XS × (Nat → Int64))) from by unfold f_L_make; rw [if_neg (by rw [hk9]; decide)]; try rw [if_neg (by rw [hk9]; decide)]).symm, by rw [ht, w_WU_mk]; exact hP, by rw [w_WU_mk]; exact hD⟩, hS.F ht⟩) hS.2.2 dL_make_32
  · have hP : va_P (dC, dI) vwCl [(qo, .inl (cO, 1, .inr (.inl fo))), (h0, .inr (0, [.ref qt, .ref qf, .int ((f_X0_make ft ff w lt lk lc a2 a3 a4 a5 a6 a7 a8 a9).2.2.2.2.1), .int ((f_X0_make ft ff w lt lk lc a2 a3 a4 a5 a6 a7 a8 a9).2.2.2.2.2.1), .int ((f_X0_make ft ff w lt lk lc a2 a3 a4 a5 a6 a7 a8 a9).2.2.2.2.2.2.1), .int ((f_X0_make ft ff w lt lk lc a2 a3 a4 a5 a6 a7 a8 a9).2.2.2.2.2.2.2)])), (qt, .inl (cI, 8, .inl ((f_X0_make ft ff w lt lk lc a2 a3 a4 a5 a6 a7 a8 a9).2.2.1))), (qf, .inl (cL, 8, .inr (.inl ((f_X0_make ft ff w lt lk lc a2 a3 a4 a5 a6 a7 a8 a9).2.2.2.1))))] H := hP
    have hD : va_D A [(qo, .inl (cO, 1, .inr (.inl fo))), (h0, .inr (0, [.ref qt, .ref qf, .int ((f_X0_make ft ff w lt lk lc a2 a3 a4 a5 a6 a7 a8 a9).2.2.2.2.1), .int ((f_X0_make ft ff w lt lk lc a2 a3 a4 a5 a6 a7 a8 a9).2.2.2.2.2.1), .int ((f_X0_make ft ff w lt lk lc a2 a3 a4 a5 a6 a7 a8 a9).2.2.2.2.2.2.1), .int ((f_X0_make ft ff w lt lk lc a2 a3 a4 a5 a6 a7 a8 a9).2.2.2.2.2.2.2)])), (qt, .inl (cI, 8, .inl ((f_X0_make ft ff w lt lk lc a2 a3 a4 a5 a6 a7 a8 a9).2.2.1))), (qf, .inl (cL, 8, .inr (.inl ((f_X0_make ft ff w lt lk lc a2 a3 a4 a5 a6 a7 a8 a9).2.2.2.1))))] := hD
    refine W.eq (g2 := F0 m 20 ls ([.int ((f_X0_make ft ff w lt lk lc a2 a3 a4 a5 a6 a7 a8 a9).2.1), .int 0, .ref qo])) rfl ?_
    refine lv_i2l hx hb dL_make_20 rfl ?_
    refine va_last hx hb hK hP hD hS 0 0 rfl rfl (vp_in_nI (n := 0) (by decide) (by decide)) dL_make_21 (fun H locs hP hD hS => ?_)
    have hP : va_P (dC, dI) vwCl [(qo, .inl (cO, 1, .inr (.inl (vp_updL fo ((0 : Int32).toNatClampNeg) (Int32.toInt64 ((f_X0_make ft ff w lt lk lc a2 a3 a4 a5 a6 a7 a8 a9).2.1)))))), (h0, .inr (0, [.ref qt, .ref qf, .int ((f_X0_make ft ff w lt lk lc a2 a3 a4 a5 a6 a7 a8 a9).2.2.2.2.1), .int ((f_X0_make ft ff w lt lk lc a2 a3 a4 a5 a6 a7 a8 a9).2.2.2.2.2.1), .int ((f_X0_make ft ff w lt lk lc a2 a3 a4 a5 a6 a7 a8 a9).2.2.2.2.2.2.1), .int ((f_X0_make ft ff w lt lk lc a2 a3 a4 a5 a6 a7 a8 a9).2.2.2.2.2.2.2)])), (qt, .inl (cI, 8, .inl ((f_X0_make ft ff w lt lk lc a2 a3 a4 a5 a6 a7 a8 a9).2.2.1))), (qf, .inl (cL, 8, .inr (.inl ((f_X0_make ft ff w lt lk lc a2 a3 a4 a5 a6 a7 a8 a9).2.2.2.1))))] H := hP
    have hD : va_D A [(qo, .inl (cO, 1, .inr (.inl (vp_updL fo ((0 : Int32).toNatClampNeg) (Int32.toInt64 ((f_X0_make ft ff w lt lk lc a2 a3 a4 a5 a6 a7 a8 a9).2.1)))))), (h0, .inr (0, [.ref qt, .ref qf, .int ((f_X0_make ft ff w lt lk lc a2 a3 a4 a5 a6 a7 a8 a9).2.2.2.2.1), .int ((f_X0_make ft ff w lt lk lc a2 a3 a4 a5 a6 a7 a8 a9).2.2.2.2.2.1), .int ((f_X0_make ft ff w lt lk lc a2 a3 a4 a5 a6 a7 a8 a9).2.2.2.2.2.2.1), .int ((f_X0_make ft ff w lt lk lc a2 a3 a4 a5 a6 a7 a8 a9).2.2.2.2.2.2.2)])), (qt, .inl (cI, 8, .inl ((f_X0_make ft ff w lt lk lc a2 a3 a4 a5 a6 a7 a8 a9).2.2.1))), (qf, .inl (cL, 8, .inr (.inl ((f_X0_make ft ff w lt lk lc a2 a3 a4 a5 a6 a7 a8 a9).2.2.2.1))))] := hD
    refine lv_goto (tgt := 33) hx hb dL_make_22 (by decide) ?_
    refine lv_iconst (v := 0) hx hb dL_make_33 (by decide) ?_
    refine W.widen (k := 1) (n := 6) (Nat.le_refl _) (Nat.le_refl _) ?_
    exact W.iret (v := 0) hx hb hr (fun t ht hW => ⟨⟨0, (((f_X0_make ft ff w lt lk lc a2 a3 a4 a5 a6 a7 a8 a9).2.2.1, (f_X0_make ft ff w lt lk lc a2 a3 a4 a5 a6 a7 a8 a9).2.2.2.1, (f_X0_make ft ff w lt lk lc a2 a3 a4 a5 a6 a7 a8 a9).2.2.2.2.1, (f_X0_make ft ff w lt lk lc a2 a3 a4 a5 a6 a7 a8 a9).2.2.2.2.2.1, (f_X0_make ft ff w lt lk lc a2 a3 a4 a5 a6 a7 a8 a9).2.2.2.2.2.2.1, (f_X0_make ft ff w lt lk lc a2 a3 a4 a5 a6 a7 a8 a9).2.2.2.2.2.2.2), (vp_updL fo ((0 : Int32).toNatClampNeg) (Int32.toInt64 ((f_X0_make ft ff w lt lk lc a2 a3 a4 a5 a6 a7 a8 a9).2.1)))), rfl, (show (f_L_make fo ft ff w lt lk lc a2 a3 a4 a5 a6 a7 a8 a9) = ((0, (((f_X0_make ft ff w lt lk lc a2 a3 a4 a5 a6 a7 a8 a9).2.2.1, (f_X0_make ft ff w lt lk lc a2 a3 a4 a5 a6 a7 a8 a9).2.2.2.1, (f_X0_make ft ff w lt lk lc a2 a3 a4 a5 a6 a7 a8 a9).2.2.2.2.1, (f_X0_make ft ff w lt lk lc a2 a3 a4 a5 a6 a7 a8 a9).2.2.2.2.2.1, (f_X0_make ft ff w lt lk lc a2 a3 a4 a5 a6 a7 a8 a9).2.2.2.2.2.2.1, (f_X0_make ft ff w lt lk lc a2 a3 a4 a5 a6 a7 a8 a9).2.2.2.2.2.2.2), (vp_updL fo ((0 : Int32).toNatClampNeg) (Int32.toInt64 ((f_X0_make ft ff w lt lk lc a2 a3 a4 a5 a6 a7 a8 a9).2.1))))) : Int32 × (XS × (Nat → Int64))) from by unfold f_L_make; rw [if_pos hv0]).symm, by rw [ht, w_WU_mk]; exact hP, by rw [w_WU_mk]; exact hD⟩, hS.F ht⟩) hS.2.2 dL_make_34
def f_L_again (fo : Nat → Int64) (ft : Nat → Int32) (ff : Nat → Int64) (w : Int32) (lt : Int32) (lk : Int32) (lc : Int32) (a2 : Int32) (a3 : Int32) : Int32 × (XS × (Nat → Int64)) :=
  if (f_X0_again ft ff w lt lk lc a2 a3).1 = 0 then (0, (((f_X0_again ft ff w lt lk lc a2 a3).2.2.1, (f_X0_again ft ff w lt lk lc a2 a3).2.2.2.1, (f_X0_again ft ff w lt lk lc a2 a3).2.2.2.2.1, (f_X0_again ft ff w lt lk lc a2 a3).2.2.2.2.2.1, (f_X0_again ft ff w lt lk lc a2 a3).2.2.2.2.2.2.1, (f_X0_again ft ff w lt lk lc a2 a3).2.2.2.2.2.2.2), (vp_updL fo ((0 : Int32).toNatClampNeg) (Int32.toInt64 ((f_X0_again ft ff w lt lk lc a2 a3).2.1))))) else (1, ((ft, ff, w, lt, lk, lc), fo))
set_option maxHeartbeats 1000000 in
set_option maxRecDepth 100000 in
theorem c_L_again (l : Launch) (hfl : l.stackTraces = false) (dC : Nat → ClassId) (dI : Nat → Nat → Nat) (cI cL cO : ClassId) (h0 qt qf qo : Nat) (sz : Nat) (fo : Nat → Int64) (ft : Nat → Int32) (ff : Nat → Int64) (w : Int32) (lt : Int32) (lk : Int32) (lc : Int32) (a2 : Int32) (a3 : Int32) : Met l yL_again wsL_again ({ frames := 7, cells := 1, slots := 6, locals := 158 }) (tw_Pc (dC, dI) (w_W cI cL cO h0 qt qf qo fo ft ff w lt lk lc) (w_T cI cL cO) sz [.ref h0, .int a2, .int a3, .ref qo]) (wr_Qi (dC, dI) (w_WU cI cL cO h0 qt qf qo) (f_L_again fo ft ff w lt lk lc a2 a3) (va_A (w_W cI cL cO h0 qt qf qo fo ft ff w lt lk lc) sz)) 1 6 (va_A (w_W cI cL cO h0 qt qf qo fo ft ff w lt lk lc) sz) := by
  refine va_MetW (cc := cL_again) (maxL := 5) (ret := (some .int)) (by decide) rfl ?_
  intro p e s m args below meth c s₁ B hml hv
  obtain ⟨rfl, hsz, hP, hK, hD0, hE⟩ := hv
  have hx := B.exec
  have hb := B.bytes
  have hr := B.returns
  have hts := atoms_spec (ws := wsL_again) B.pre
  have hown : s.vm.findClass RL = some m.cls := findClass_of_methodNamed B.named
  have hlocks := B.notSynchronized
  have hTab : c.exceptionTable.toList = tableOf [(0, 10, 13, 19)] := vx_table (x := yL_again) B (hts (.codeWith yL_again cL_again 5 (some .int) [(0, 10, 13, 19)]) (List.mem_append_left _ List.mem_cons_self))
  subst hsz
  have hD := hD0.self (sz := s.heap.size)
  generalize hAe : va_A (w_W cI cL cO h0 qt qf qo fo ft ff w lt lk lc) s.heap.size = A at hD hE ⊢
  have hA : ∀ q : Nat, s.heap.size ≤ q → A q := fun q h => by rw [← hAe]; exact Or.inr h
  have hS : va_S A s.heap s.heap [] := va_S.rf
  have hD : va_D A [(qo, .inl (cO, 1, .inr (.inl fo))), (h0, .inr (0, [.ref qt, .ref qf, .int w, .int lt, .int lk, .int lc])), (qt, .inl (cI, 8, .inl ft)), (qf, .inl (cL, 8, .inr (.inl ff)))] := hD
  have hP : va_P (dC, dI) vwCl [(qo, .inl (cO, 1, .inr (.inl fo))), (h0, .inr (0, [.ref qt, .ref qf, .int w, .int lt, .int lk, .int lc])), (qt, .inl (cI, 8, .inl ft)), (qf, .inl (cL, 8, .inr (.inl ff)))] s.heap := hP
  have hl := lv_entry ([.ref h0, .int a2, .int a3, .ref qo]) (n := 5) (Nat.le_of_ble_eq_true rfl)
  rw [lg_entry_eq]
  generalize (lg_sl ([.ref h0, .int a2, .int a3, .ref qo]) ++ List.replicate (5 - (lg_sl ([.ref h0, .int a2, .int a3, .ref qo])).length) Slot.unset).toArray = ls at hl ⊢
  have hl : lv_has ls 5 [(0, .ref h0), (1, .int a2), (2, .int a3), (3, .ref qo)] := hl
  refine lv_aload_n hx hb dL_again_0 rfl (lv_at hl 3 rfl) ?_
  refine lv_iconst (v := 0) hx hb dL_again_1 (by decide) ?_
  refine lv_aload_n hx hb dL_again_2 rfl (lv_at hl 0 rfl) ?_
  refine lv_iload_n hx hb dL_again_3 rfl (lv_at hl 1 rfl) ?_
  refine lv_iload_n hx hb dL_again_4 rfl (lv_at hl 2 rfl) ?_
  have hPc := hP.sub (ws' := [(h0, .inr (0, [.ref qt, .ref qf, .int w, .int lt, .int lk, .int lc])), (qt, .inl (cI, 8, .inl ft)), (qf, .inl (cL, 8, .inr (.inl ff)))]) [1, 2, 3] rfl
  have hDc := hD.sub (ws' := [(h0, .inr (0, [.ref qt, .ref qf, .int w, .int lt, .int lk, .int lc])), (qt, .inl (cI, 8, .inl ft)), (qf, .inl (cL, 8, .inr (.inl ff)))]) [1, 2, 3] (by decide) rfl
  have hFc := va_free (wc := [(h0, .inr (0, [.ref qt, .ref qf, .int w, .int lt, .int lk, .int lc])), (qt, .inl (cI, 8, .inl ft)), (qf, .inl (cL, 8, .inr (.inl ff)))]) hD hS hA [1, 2, 3] rfl
  refine tw_calli (D := (dC, dI)) (wr := [(qo, .inl (cO, 1, .inr (.inl fo)))]) (wc := [(h0, .inr (0, [.ref qt, .ref qf, .int w, .int lt, .int lk, .int lc])), (qt, .inl (cI, 8, .inl ft)), (qf, .inl (cL, 8, .inr (.inl ff)))]) (vx_runV (As := [.int a2, .int a3]) (rest := [.int 0, .ref qo]) ⟨hx, hb, hml, hown, hts⟩ (c_X0_again l hfl dC dI cI cL h0 qt qf s.heap.size ft ff w lt lk lc a2 a3) (cwV 2 hts gL_again_X0_again rfl rfl rfl (by decide +kernel) ⟨Nat.le_of_ble_eq_true rfl, Nat.le_of_ble_eq_true rfl⟩) (tw_preV (hK.sub (tys' := x_T cI cL) [1, 2] rfl) hPc hDc (fun U hU hW => hE.go hS hFc hU hW) rfl rfl) rfl rfl hl.1 rfl (lv_room (Nat.le_of_ble_eq_true rfl)) dL_again_5 ⟨Nat.le_of_ble_eq_true rfl, Nat.le_of_ble_eq_true rfl⟩) hP hD hS hA [1, 2, 3] [0] rfl rfl (by decide) (by decide) (by decide) (fun E ce q9 H locs hE9 hP hD hS hce hcv hcl => ?_) (fun hv0 H locs hP hD hS => ?_)
  · have hP : va_P (dC, dI) vwCl [(qo, .inl (cO, 1, .inr (.inl fo))), (h0, .inr (0, [.ref qt, .ref qf, .int w, .int lt, .int lk, .int lc])), (qt, .inl (cI, 8, .inl ft)), (qf, .inl (cL, 8, .inr (.inl ff)))] H := hP
    have hD : va_D A [(qo, .inl (cO, 1, .inr (.inl fo))), (h0, .inr (0, [.ref qt, .ref qf, .int w, .int lt, .int lk, .int lc])), (qt, .inl (cI, 8, .inl ft)), (qf, .inl (cL, 8, .inr (.inl ff)))] := hD
    rcases hE9 with ⟨hk9, rfl⟩ | ⟨hk9, rfl⟩
    · refine vx_catch (own := RL) (name := "java/lang/IndexOutOfBoundsException") (E := "java/lang/IndexOutOfBoundsException") hown [] ⟨0, 10, 13, 19⟩ [] (by rw [hTab]; rfl) (fun z hz => nomatch hz) (by decide) (by decide) (hts (.classLink RL 19 "java/lang/IndexOutOfBoundsException") (by decide +kernel)) (va_Nw.use rfl (xv_c1 hE.2.2)) hce hcv hcl ?_
      refine W.eq (g2 := F0 m 13 ls [.ref q9]) rfl ?_
      refine lv_astore (lv' := [(4, .ref q9), (0, .ref h0), (1, .int a2), (2, .int a3), (3, .ref qo)]) hx hb dL_again_13 hl (by decide) rfl (fun ls hl => ?_)
      refine lv_iconst (v := 1) hx hb dL_again_15 (by decide) ?_
      refine W.widen (k := 1) (n := 6) (Nat.le_refl _) (Nat.le_refl _) ?_
      exact W.iret (v := 1) hx hb hr (fun t ht hW => ⟨⟨1, ((ft, ff, w, lt, lk, lc), fo), rfl, (show (f_L_again fo ft ff w lt lk lc a2 a3) = ((1, ((ft, ff, w, lt, lk, lc), fo)) : Int32 × (XS × (Nat → Int64))) from by unfold f_L_again; rw [if_neg (by rw [hk9]; decide)]; try rw [if_pos hk9]).symm, by rw [ht, w_WU_mk]; exact hP, by rw [w_WU_mk]; exact hD⟩, hS.F ht⟩) hS.2.2 dL_again_16
    · exact absurd hk9 (no2_X0_again _ _ _ _ _ _ _ _)
  · have hP : va_P (dC, dI) vwCl [(qo, .inl (cO, 1, .inr (.inl fo))), (h0, .inr (0, [.ref qt, .ref qf, .int ((f_X0_again ft ff w lt lk lc a2 a3).2.2.2.2.1), .int ((f_X0_again ft ff w lt lk lc a2 a3).2.2.2.2.2.1), .int ((f_X0_again ft ff w lt lk lc a2 a3).2.2.2.2.2.2.1), .int ((f_X0_again ft ff w lt lk lc a2 a3).2.2.2.2.2.2.2)])), (qt, .inl (cI, 8, .inl ((f_X0_again ft ff w lt lk lc a2 a3).2.2.1))), (qf, .inl (cL, 8, .inr (.inl ((f_X0_again ft ff w lt lk lc a2 a3).2.2.2.1))))] H := hP
    have hD : va_D A [(qo, .inl (cO, 1, .inr (.inl fo))), (h0, .inr (0, [.ref qt, .ref qf, .int ((f_X0_again ft ff w lt lk lc a2 a3).2.2.2.2.1), .int ((f_X0_again ft ff w lt lk lc a2 a3).2.2.2.2.2.1), .int ((f_X0_again ft ff w lt lk lc a2 a3).2.2.2.2.2.2.1), .int ((f_X0_again ft ff w lt lk lc a2 a3).2.2.2.2.2.2.2)])), (qt, .inl (cI, 8, .inl ((f_X0_again ft ff w lt lk lc a2 a3).2.2.1))), (qf, .inl (cL, 8, .inr (.inl ((f_X0_again ft ff w lt lk lc a2 a3).2.2.2.1))))] := hD
    refine W.eq (g2 := F0 m 8 ls ([.int ((f_X0_again ft ff w lt lk lc a2 a3).2.1), .int 0, .ref qo])) rfl ?_
    refine lv_i2l hx hb dL_again_8 rfl ?_
    refine va_last hx hb hK hP hD hS 0 0 rfl rfl (vp_in_nI (n := 0) (by decide) (by decide)) dL_again_9 (fun H locs hP hD hS => ?_)
    have hP : va_P (dC, dI) vwCl [(qo, .inl (cO, 1, .inr (.inl (vp_updL fo ((0 : Int32).toNatClampNeg) (Int32.toInt64 ((f_X0_again ft ff w lt lk lc a2 a3).2.1)))))), (h0, .inr (0, [.ref qt, .ref qf, .int ((f_X0_again ft ff w lt lk lc a2 a3).2.2.2.2.1), .int ((f_X0_again ft ff w lt lk lc a2 a3).2.2.2.2.2.1), .int ((f_X0_again ft ff w lt lk lc a2 a3).2.2.2.2.2.2.1), .int ((f_X0_again ft ff w lt lk lc a2 a3).2.2.2.2.2.2.2)])), (qt, .inl (cI, 8, .inl ((f_X0_again ft ff w lt lk lc a2 a3).2.2.1))), (qf, .inl (cL, 8, .inr (.inl ((f_X0_again ft ff w lt lk lc a2 a3).2.2.2.1))))] H := hP
    have hD : va_D A [(qo, .inl (cO, 1, .inr (.inl (vp_updL fo ((0 : Int32).toNatClampNeg) (Int32.toInt64 ((f_X0_again ft ff w lt lk lc a2 a3).2.1)))))), (h0, .inr (0, [.ref qt, .ref qf, .int ((f_X0_again ft ff w lt lk lc a2 a3).2.2.2.2.1), .int ((f_X0_again ft ff w lt lk lc a2 a3).2.2.2.2.2.1), .int ((f_X0_again ft ff w lt lk lc a2 a3).2.2.2.2.2.2.1), .int ((f_X0_again ft ff w lt lk lc a2 a3).2.2.2.2.2.2.2)])), (qt, .inl (cI, 8, .inl ((f_X0_again ft ff w lt lk lc a2 a3).2.2.1))), (qf, .inl (cL, 8, .inr (.inl ((f_X0_again ft ff w lt lk lc a2 a3).2.2.2.1))))] := hD
    refine lv_goto (tgt := 17) hx hb dL_again_10 (by decide) ?_
    refine lv_iconst (v := 0) hx hb dL_again_17 (by decide) ?_
    refine W.widen (k := 1) (n := 6) (Nat.le_refl _) (Nat.le_refl _) ?_
    exact W.iret (v := 0) hx hb hr (fun t ht hW => ⟨⟨0, (((f_X0_again ft ff w lt lk lc a2 a3).2.2.1, (f_X0_again ft ff w lt lk lc a2 a3).2.2.2.1, (f_X0_again ft ff w lt lk lc a2 a3).2.2.2.2.1, (f_X0_again ft ff w lt lk lc a2 a3).2.2.2.2.2.1, (f_X0_again ft ff w lt lk lc a2 a3).2.2.2.2.2.2.1, (f_X0_again ft ff w lt lk lc a2 a3).2.2.2.2.2.2.2), (vp_updL fo ((0 : Int32).toNatClampNeg) (Int32.toInt64 ((f_X0_again ft ff w lt lk lc a2 a3).2.1)))), rfl, (show (f_L_again fo ft ff w lt lk lc a2 a3) = ((0, (((f_X0_again ft ff w lt lk lc a2 a3).2.2.1, (f_X0_again ft ff w lt lk lc a2 a3).2.2.2.1, (f_X0_again ft ff w lt lk lc a2 a3).2.2.2.2.1, (f_X0_again ft ff w lt lk lc a2 a3).2.2.2.2.2.1, (f_X0_again ft ff w lt lk lc a2 a3).2.2.2.2.2.2.1, (f_X0_again ft ff w lt lk lc a2 a3).2.2.2.2.2.2.2), (vp_updL fo ((0 : Int32).toNatClampNeg) (Int32.toInt64 ((f_X0_again ft ff w lt lk lc a2 a3).2.1))))) : Int32 × (XS × (Nat → Int64))) from by unfold f_L_again; rw [if_pos hv0]).symm, by rw [ht, w_WU_mk]; exact hP, by rw [w_WU_mk]; exact hD⟩, hS.F ht⟩) hS.2.2 dL_again_18
def f_L_last (fo : Nat → Int64) (ft : Nat → Int32) (ff : Nat → Int64) (w : Int32) (lt : Int32) (lk : Int32) (lc : Int32) (a2 : Int32) : Int32 × (XS × (Nat → Int64)) :=
  if (f_X0_last ft ff w lt lk lc a2).1 = 0 then (0, (((f_X0_last ft ff w lt lk lc a2).2.2.1, (f_X0_last ft ff w lt lk lc a2).2.2.2.1, (f_X0_last ft ff w lt lk lc a2).2.2.2.2.1, (f_X0_last ft ff w lt lk lc a2).2.2.2.2.2.1, (f_X0_last ft ff w lt lk lc a2).2.2.2.2.2.2.1, (f_X0_last ft ff w lt lk lc a2).2.2.2.2.2.2.2), (vp_updL fo ((0 : Int32).toNatClampNeg) (Int32.toInt64 ((f_X0_last ft ff w lt lk lc a2).2.1))))) else (1, ((ft, ff, w, lt, lk, lc), fo))
set_option maxHeartbeats 1000000 in
set_option maxRecDepth 100000 in
theorem c_L_last (l : Launch) (hfl : l.stackTraces = false) (dC : Nat → ClassId) (dI : Nat → Nat → Nat) (cI cL cO : ClassId) (h0 qt qf qo : Nat) (sz : Nat) (fo : Nat → Int64) (ft : Nat → Int32) (ff : Nat → Int64) (w : Int32) (lt : Int32) (lk : Int32) (lc : Int32) (a2 : Int32) : Met l yL_last wsL_last ({ frames := 7, cells := 1, slots := 6, locals := 103 }) (tw_Pc (dC, dI) (w_W cI cL cO h0 qt qf qo fo ft ff w lt lk lc) (w_T cI cL cO) sz [.ref h0, .int a2, .ref qo]) (wr_Qi (dC, dI) (w_WU cI cL cO h0 qt qf qo) (f_L_last fo ft ff w lt lk lc a2) (va_A (w_W cI cL cO h0 qt qf qo fo ft ff w lt lk lc) sz)) 1 6 (va_A (w_W cI cL cO h0 qt qf qo fo ft ff w lt lk lc) sz) := by
  refine va_MetW (cc := cL_last) (maxL := 4) (ret := (some .int)) (by decide) rfl ?_
  intro p e s m args below meth c s₁ B hml hv
  obtain ⟨rfl, hsz, hP, hK, hD0, hE⟩ := hv
  have hx := B.exec
  have hb := B.bytes
  have hr := B.returns
  have hts := atoms_spec (ws := wsL_last) B.pre
  have hown : s.vm.findClass RL = some m.cls := findClass_of_methodNamed B.named
  have hlocks := B.notSynchronized
  have hTab : c.exceptionTable.toList = tableOf [(0, 9, 12, 13)] := vx_table (x := yL_last) B (hts (.codeWith yL_last cL_last 4 (some .int) [(0, 9, 12, 13)]) (List.mem_append_left _ List.mem_cons_self))
  subst hsz
  have hD := hD0.self (sz := s.heap.size)
  generalize hAe : va_A (w_W cI cL cO h0 qt qf qo fo ft ff w lt lk lc) s.heap.size = A at hD hE ⊢
  have hA : ∀ q : Nat, s.heap.size ≤ q → A q := fun q h => by rw [← hAe]; exact Or.inr h
  have hS : va_S A s.heap s.heap [] := va_S.rf
  have hD : va_D A [(qo, .inl (cO, 1, .inr (.inl fo))), (h0, .inr (0, [.ref qt, .ref qf, .int w, .int lt, .int lk, .int lc])), (qt, .inl (cI, 8, .inl ft)), (qf, .inl (cL, 8, .inr (.inl ff)))] := hD
  have hP : va_P (dC, dI) vwCl [(qo, .inl (cO, 1, .inr (.inl fo))), (h0, .inr (0, [.ref qt, .ref qf, .int w, .int lt, .int lk, .int lc])), (qt, .inl (cI, 8, .inl ft)), (qf, .inl (cL, 8, .inr (.inl ff)))] s.heap := hP
  have hl := lv_entry ([.ref h0, .int a2, .ref qo]) (n := 4) (Nat.le_of_ble_eq_true rfl)
  rw [lg_entry_eq]
  generalize (lg_sl ([.ref h0, .int a2, .ref qo]) ++ List.replicate (4 - (lg_sl ([.ref h0, .int a2, .ref qo])).length) Slot.unset).toArray = ls at hl ⊢
  have hl : lv_has ls 4 [(0, .ref h0), (1, .int a2), (2, .ref qo)] := hl
  refine lv_aload_n hx hb dL_last_0 rfl (lv_at hl 2 rfl) ?_
  refine lv_iconst (v := 0) hx hb dL_last_1 (by decide) ?_
  refine lv_aload_n hx hb dL_last_2 rfl (lv_at hl 0 rfl) ?_
  refine lv_iload_n hx hb dL_last_3 rfl (lv_at hl 1 rfl) ?_
  have hPc := hP.sub (ws' := [(h0, .inr (0, [.ref qt, .ref qf, .int w, .int lt, .int lk, .int lc])), (qt, .inl (cI, 8, .inl ft)), (qf, .inl (cL, 8, .inr (.inl ff)))]) [1, 2, 3] rfl
  have hDc := hD.sub (ws' := [(h0, .inr (0, [.ref qt, .ref qf, .int w, .int lt, .int lk, .int lc])), (qt, .inl (cI, 8, .inl ft)), (qf, .inl (cL, 8, .inr (.inl ff)))]) [1, 2, 3] (by decide) rfl
  have hFc := va_free (wc := [(h0, .inr (0, [.ref qt, .ref qf, .int w, .int lt, .int lk, .int lc])), (qt, .inl (cI, 8, .inl ft)), (qf, .inl (cL, 8, .inr (.inl ff)))]) hD hS hA [1, 2, 3] rfl
  refine tw_calli (D := (dC, dI)) (wr := [(qo, .inl (cO, 1, .inr (.inl fo)))]) (wc := [(h0, .inr (0, [.ref qt, .ref qf, .int w, .int lt, .int lk, .int lc])), (qt, .inl (cI, 8, .inl ft)), (qf, .inl (cL, 8, .inr (.inl ff)))]) (vx_runV (As := [.int a2]) (rest := [.int 0, .ref qo]) ⟨hx, hb, hml, hown, hts⟩ (c_X0_last l hfl dC dI cI cL h0 qt qf s.heap.size ft ff w lt lk lc a2) (cwV 1 hts gL_last_X0_last rfl rfl rfl (by decide +kernel) ⟨Nat.le_of_ble_eq_true rfl, Nat.le_of_ble_eq_true rfl⟩) (tw_preV (hK.sub (tys' := x_T cI cL) [1, 2] rfl) hPc hDc (fun U hU hW => hE.go hS hFc hU hW) rfl rfl) rfl rfl hl.1 rfl (lv_room (Nat.le_of_ble_eq_true rfl)) dL_last_4 ⟨Nat.le_of_ble_eq_true rfl, Nat.le_of_ble_eq_true rfl⟩) hP hD hS hA [1, 2, 3] [0] rfl rfl (by decide) (by decide) (by decide) (fun E ce q9 H locs hE9 hP hD hS hce hcv hcl => ?_) (fun hv0 H locs hP hD hS => ?_)
  · have hP : va_P (dC, dI) vwCl [(qo, .inl (cO, 1, .inr (.inl fo))), (h0, .inr (0, [.ref qt, .ref qf, .int w, .int lt, .int lk, .int lc])), (qt, .inl (cI, 8, .inl ft)), (qf, .inl (cL, 8, .inr (.inl ff)))] H := hP
    have hD : va_D A [(qo, .inl (cO, 1, .inr (.inl fo))), (h0, .inr (0, [.ref qt, .ref qf, .int w, .int lt, .int lk, .int lc])), (qt, .inl (cI, 8, .inl ft)), (qf, .inl (cL, 8, .inr (.inl ff)))] := hD
    rcases hE9 with ⟨hk9, rfl⟩ | ⟨hk9, rfl⟩
    · exact absurd hk9 (no1_X0_last _ _ _ _ _ _ _)
    · refine vx_catch (own := RL) (name := "java/lang/IllegalArgumentException") (E := "java/lang/IllegalArgumentException") hown [] ⟨0, 9, 12, 13⟩ [] (by rw [hTab]; rfl) (fun z hz => nomatch hz) (by decide) (by decide) (hts (.classLink RL 13 "java/lang/IllegalArgumentException") (by decide +kernel)) (va_Nw.use rfl (xv_c2 hE.2.2)) hce hcv hcl ?_
      refine W.eq (g2 := F0 m 12 ls [.ref q9]) rfl ?_
      refine lv_astore_n (lv' := [(3, .ref q9), (0, .ref h0), (1, .int a2), (2, .ref qo)]) hx hb dL_last_12 rfl hl (by decide) rfl (fun ls hl => ?_)
      refine lv_iconst (v := 1) hx hb dL_last_13 (by decide) ?_
      refine W.widen (k := 1) (n := 6) (Nat.le_refl _) (Nat.le_refl _) ?_
      exact W.iret (v := 1) hx hb hr (fun t ht hW => ⟨⟨1, ((ft, ff, w, lt, lk, lc), fo), rfl, (show (f_L_last fo ft ff w lt lk lc a2) = ((1, ((ft, ff, w, lt, lk, lc), fo)) : Int32 × (XS × (Nat → Int64))) from by unfold f_L_last; rw [if_neg (by rw [hk9]; decide)]; try rw [if_neg (by rw [hk9]; decide)]).symm, by rw [ht, w_WU_mk]; exact hP, by rw [w_WU_mk]; exact hD⟩, hS.F ht⟩) hS.2.2 dL_last_14
  · have hP : va_P (dC, dI) vwCl [(qo, .inl (cO, 1, .inr (.inl fo))), (h0, .inr (0, [.ref qt, .ref qf, .int ((f_X0_last ft ff w lt lk lc a2).2.2.2.2.1), .int ((f_X0_last ft ff w lt lk lc a2).2.2.2.2.2.1), .int ((f_X0_last ft ff w lt lk lc a2).2.2.2.2.2.2.1), .int ((f_X0_last ft ff w lt lk lc a2).2.2.2.2.2.2.2)])), (qt, .inl (cI, 8, .inl ((f_X0_last ft ff w lt lk lc a2).2.2.1))), (qf, .inl (cL, 8, .inr (.inl ((f_X0_last ft ff w lt lk lc a2).2.2.2.1))))] H := hP
    have hD : va_D A [(qo, .inl (cO, 1, .inr (.inl fo))), (h0, .inr (0, [.ref qt, .ref qf, .int ((f_X0_last ft ff w lt lk lc a2).2.2.2.2.1), .int ((f_X0_last ft ff w lt lk lc a2).2.2.2.2.2.1), .int ((f_X0_last ft ff w lt lk lc a2).2.2.2.2.2.2.1), .int ((f_X0_last ft ff w lt lk lc a2).2.2.2.2.2.2.2)])), (qt, .inl (cI, 8, .inl ((f_X0_last ft ff w lt lk lc a2).2.2.1))), (qf, .inl (cL, 8, .inr (.inl ((f_X0_last ft ff w lt lk lc a2).2.2.2.1))))] := hD
    refine W.eq (g2 := F0 m 7 ls ([.int ((f_X0_last ft ff w lt lk lc a2).2.1), .int 0, .ref qo])) rfl ?_
    refine lv_i2l hx hb dL_last_7 rfl ?_
    refine va_last hx hb hK hP hD hS 0 0 rfl rfl (vp_in_nI (n := 0) (by decide) (by decide)) dL_last_8 (fun H locs hP hD hS => ?_)
    have hP : va_P (dC, dI) vwCl [(qo, .inl (cO, 1, .inr (.inl (vp_updL fo ((0 : Int32).toNatClampNeg) (Int32.toInt64 ((f_X0_last ft ff w lt lk lc a2).2.1)))))), (h0, .inr (0, [.ref qt, .ref qf, .int ((f_X0_last ft ff w lt lk lc a2).2.2.2.2.1), .int ((f_X0_last ft ff w lt lk lc a2).2.2.2.2.2.1), .int ((f_X0_last ft ff w lt lk lc a2).2.2.2.2.2.2.1), .int ((f_X0_last ft ff w lt lk lc a2).2.2.2.2.2.2.2)])), (qt, .inl (cI, 8, .inl ((f_X0_last ft ff w lt lk lc a2).2.2.1))), (qf, .inl (cL, 8, .inr (.inl ((f_X0_last ft ff w lt lk lc a2).2.2.2.1))))] H := hP
    have hD : va_D A [(qo, .inl (cO, 1, .inr (.inl (vp_updL fo ((0 : Int32).toNatClampNeg) (Int32.toInt64 ((f_X0_last ft ff w lt lk lc a2).2.1)))))), (h0, .inr (0, [.ref qt, .ref qf, .int ((f_X0_last ft ff w lt lk lc a2).2.2.2.2.1), .int ((f_X0_last ft ff w lt lk lc a2).2.2.2.2.2.1), .int ((f_X0_last ft ff w lt lk lc a2).2.2.2.2.2.2.1), .int ((f_X0_last ft ff w lt lk lc a2).2.2.2.2.2.2.2)])), (qt, .inl (cI, 8, .inl ((f_X0_last ft ff w lt lk lc a2).2.2.1))), (qf, .inl (cL, 8, .inr (.inl ((f_X0_last ft ff w lt lk lc a2).2.2.2.1))))] := hD
    refine lv_goto (tgt := 15) hx hb dL_last_9 (by decide) ?_
    refine lv_iconst (v := 0) hx hb dL_last_15 (by decide) ?_
    refine W.widen (k := 1) (n := 6) (Nat.le_refl _) (Nat.le_refl _) ?_
    exact W.iret (v := 0) hx hb hr (fun t ht hW => ⟨⟨0, (((f_X0_last ft ff w lt lk lc a2).2.2.1, (f_X0_last ft ff w lt lk lc a2).2.2.2.1, (f_X0_last ft ff w lt lk lc a2).2.2.2.2.1, (f_X0_last ft ff w lt lk lc a2).2.2.2.2.2.1, (f_X0_last ft ff w lt lk lc a2).2.2.2.2.2.2.1, (f_X0_last ft ff w lt lk lc a2).2.2.2.2.2.2.2), (vp_updL fo ((0 : Int32).toNatClampNeg) (Int32.toInt64 ((f_X0_last ft ff w lt lk lc a2).2.1)))), rfl, (show (f_L_last fo ft ff w lt lk lc a2) = ((0, (((f_X0_last ft ff w lt lk lc a2).2.2.1, (f_X0_last ft ff w lt lk lc a2).2.2.2.1, (f_X0_last ft ff w lt lk lc a2).2.2.2.2.1, (f_X0_last ft ff w lt lk lc a2).2.2.2.2.2.1, (f_X0_last ft ff w lt lk lc a2).2.2.2.2.2.2.1, (f_X0_last ft ff w lt lk lc a2).2.2.2.2.2.2.2), (vp_updL fo ((0 : Int32).toNatClampNeg) (Int32.toInt64 ((f_X0_last ft ff w lt lk lc a2).2.1))))) : Int32 × (XS × (Nat → Int64))) from by unfold f_L_last; rw [if_pos hv0]).symm, by rw [ht, w_WU_mk]; exact hP, by rw [w_WU_mk]; exact hD⟩, hS.F ht⟩) hS.2.2 dL_last_16
def f_L_compare (fo : Nat → Int64) (ft : Nat → Int32) (ff : Nat → Int64) (w : Int32) (lt : Int32) (lk : Int32) (lc : Int32) (a2 : Int32) (a3 : Int32) : Int32 × (XS × (Nat → Int64)) :=
  if (f_X0_compare ft ff w lt lk lc a2 a3).1 = 0 then (0, (((f_X0_compare ft ff w lt lk lc a2 a3).2.2.1, (f_X0_compare ft ff w lt lk lc a2 a3).2.2.2.1, (f_X0_compare ft ff w lt lk lc a2 a3).2.2.2.2.1, (f_X0_compare ft ff w lt lk lc a2 a3).2.2.2.2.2.1, (f_X0_compare ft ff w lt lk lc a2 a3).2.2.2.2.2.2.1, (f_X0_compare ft ff w lt lk lc a2 a3).2.2.2.2.2.2.2), (vp_updL fo ((0 : Int32).toNatClampNeg) (Int32.toInt64 ((f_X0_compare ft ff w lt lk lc a2 a3).2.1))))) else (1, ((ft, ff, w, lt, lk, lc), fo))
set_option maxHeartbeats 1000000 in
set_option maxRecDepth 100000 in
theorem c_L_compare (l : Launch) (hfl : l.stackTraces = false) (dC : Nat → ClassId) (dI : Nat → Nat → Nat) (cI cL cO : ClassId) (h0 qt qf qo : Nat) (sz : Nat) (fo : Nat → Int64) (ft : Nat → Int32) (ff : Nat → Int64) (w : Int32) (lt : Int32) (lk : Int32) (lc : Int32) (a2 : Int32) (a3 : Int32) : Met l yL_compare wsL_compare ({ frames := 7, cells := 1, slots := 6, locals := 154 }) (tw_Pc (dC, dI) (w_W cI cL cO h0 qt qf qo fo ft ff w lt lk lc) (w_T cI cL cO) sz [.ref h0, .int a2, .int a3, .ref qo]) (wr_Qi (dC, dI) (w_WU cI cL cO h0 qt qf qo) (f_L_compare fo ft ff w lt lk lc a2 a3) (va_A (w_W cI cL cO h0 qt qf qo fo ft ff w lt lk lc) sz)) 1 6 (va_A (w_W cI cL cO h0 qt qf qo fo ft ff w lt lk lc) sz) := by
  refine va_MetW (cc := cL_compare) (maxL := 5) (ret := (some .int)) (by decide) rfl ?_
  intro p e s m args below meth c s₁ B hml hv
  obtain ⟨rfl, hsz, hP, hK, hD0, hE⟩ := hv
  have hx := B.exec
  have hb := B.bytes
  have hr := B.returns
  have hts := atoms_spec (ws := wsL_compare) B.pre
  have hown : s.vm.findClass RL = some m.cls := findClass_of_methodNamed B.named
  have hlocks := B.notSynchronized
  have hTab : c.exceptionTable.toList = tableOf [(0, 10, 13, 19)] := vx_table (x := yL_compare) B (hts (.codeWith yL_compare cL_compare 5 (some .int) [(0, 10, 13, 19)]) (List.mem_append_left _ List.mem_cons_self))
  subst hsz
  have hD := hD0.self (sz := s.heap.size)
  generalize hAe : va_A (w_W cI cL cO h0 qt qf qo fo ft ff w lt lk lc) s.heap.size = A at hD hE ⊢
  have hA : ∀ q : Nat, s.heap.size ≤ q → A q := fun q h => by rw [← hAe]; exact Or.inr h
  have hS : va_S A s.heap s.heap [] := va_S.rf
  have hD : va_D A [(qo, .inl (cO, 1, .inr (.inl fo))), (h0, .inr (0, [.ref qt, .ref qf, .int w, .int lt, .int lk, .int lc])), (qt, .inl (cI, 8, .inl ft)), (qf, .inl (cL, 8, .inr (.inl ff)))] := hD
  have hP : va_P (dC, dI) vwCl [(qo, .inl (cO, 1, .inr (.inl fo))), (h0, .inr (0, [.ref qt, .ref qf, .int w, .int lt, .int lk, .int lc])), (qt, .inl (cI, 8, .inl ft)), (qf, .inl (cL, 8, .inr (.inl ff)))] s.heap := hP
  have hl := lv_entry ([.ref h0, .int a2, .int a3, .ref qo]) (n := 5) (Nat.le_of_ble_eq_true rfl)
  rw [lg_entry_eq]
  generalize (lg_sl ([.ref h0, .int a2, .int a3, .ref qo]) ++ List.replicate (5 - (lg_sl ([.ref h0, .int a2, .int a3, .ref qo])).length) Slot.unset).toArray = ls at hl ⊢
  have hl : lv_has ls 5 [(0, .ref h0), (1, .int a2), (2, .int a3), (3, .ref qo)] := hl
  refine lv_aload_n hx hb dL_compare_0 rfl (lv_at hl 3 rfl) ?_
  refine lv_iconst (v := 0) hx hb dL_compare_1 (by decide) ?_
  refine lv_aload_n hx hb dL_compare_2 rfl (lv_at hl 0 rfl) ?_
  refine lv_iload_n hx hb dL_compare_3 rfl (lv_at hl 1 rfl) ?_
  refine lv_iload_n hx hb dL_compare_4 rfl (lv_at hl 2 rfl) ?_
  have hPc := hP.sub (ws' := [(h0, .inr (0, [.ref qt, .ref qf, .int w, .int lt, .int lk, .int lc])), (qt, .inl (cI, 8, .inl ft)), (qf, .inl (cL, 8, .inr (.inl ff)))]) [1, 2, 3] rfl
  have hDc := hD.sub (ws' := [(h0, .inr (0, [.ref qt, .ref qf, .int w, .int lt, .int lk, .int lc])), (qt, .inl (cI, 8, .inl ft)), (qf, .inl (cL, 8, .inr (.inl ff)))]) [1, 2, 3] (by decide) rfl
  have hFc := va_free (wc := [(h0, .inr (0, [.ref qt, .ref qf, .int w, .int lt, .int lk, .int lc])), (qt, .inl (cI, 8, .inl ft)), (qf, .inl (cL, 8, .inr (.inl ff)))]) hD hS hA [1, 2, 3] rfl
  refine tw_calli (D := (dC, dI)) (wr := [(qo, .inl (cO, 1, .inr (.inl fo)))]) (wc := [(h0, .inr (0, [.ref qt, .ref qf, .int w, .int lt, .int lk, .int lc])), (qt, .inl (cI, 8, .inl ft)), (qf, .inl (cL, 8, .inr (.inl ff)))]) (vx_runV (As := [.int a2, .int a3]) (rest := [.int 0, .ref qo]) ⟨hx, hb, hml, hown, hts⟩ (c_X0_compare l hfl dC dI cI cL h0 qt qf s.heap.size ft ff w lt lk lc a2 a3) (cwV 2 hts gL_compare_X0_compare rfl rfl rfl (by decide +kernel) ⟨Nat.le_of_ble_eq_true rfl, Nat.le_of_ble_eq_true rfl⟩) (tw_preV (hK.sub (tys' := x_T cI cL) [1, 2] rfl) hPc hDc (fun U hU hW => hE.go hS hFc hU hW) rfl rfl) rfl rfl hl.1 rfl (lv_room (Nat.le_of_ble_eq_true rfl)) dL_compare_5 ⟨Nat.le_of_ble_eq_true rfl, Nat.le_of_ble_eq_true rfl⟩) hP hD hS hA [1, 2, 3] [0] rfl rfl (by decide) (by decide) (by decide) (fun E ce q9 H locs hE9 hP hD hS hce hcv hcl => ?_) (fun hv0 H locs hP hD hS => ?_)
  · have hP : va_P (dC, dI) vwCl [(qo, .inl (cO, 1, .inr (.inl fo))), (h0, .inr (0, [.ref qt, .ref qf, .int w, .int lt, .int lk, .int lc])), (qt, .inl (cI, 8, .inl ft)), (qf, .inl (cL, 8, .inr (.inl ff)))] H := hP
    have hD : va_D A [(qo, .inl (cO, 1, .inr (.inl fo))), (h0, .inr (0, [.ref qt, .ref qf, .int w, .int lt, .int lk, .int lc])), (qt, .inl (cI, 8, .inl ft)), (qf, .inl (cL, 8, .inr (.inl ff)))] := hD
    rcases hE9 with ⟨hk9, rfl⟩ | ⟨hk9, rfl⟩
    · refine vx_catch (own := RL) (name := "java/lang/IndexOutOfBoundsException") (E := "java/lang/IndexOutOfBoundsException") hown [] ⟨0, 10, 13, 19⟩ [] (by rw [hTab]; rfl) (fun z hz => nomatch hz) (by decide) (by decide) (hts (.classLink RL 19 "java/lang/IndexOutOfBoundsException") (by decide +kernel)) (va_Nw.use rfl (xv_c1 hE.2.2)) hce hcv hcl ?_
      refine W.eq (g2 := F0 m 13 ls [.ref q9]) rfl ?_
      refine lv_astore (lv' := [(4, .ref q9), (0, .ref h0), (1, .int a2), (2, .int a3), (3, .ref qo)]) hx hb dL_compare_13 hl (by decide) rfl (fun ls hl => ?_)
      refine lv_iconst (v := 1) hx hb dL_compare_15 (by decide) ?_
      refine W.widen (k := 1) (n := 6) (Nat.le_refl _) (Nat.le_refl _) ?_
      exact W.iret (v := 1) hx hb hr (fun t ht hW => ⟨⟨1, ((ft, ff, w, lt, lk, lc), fo), rfl, (show (f_L_compare fo ft ff w lt lk lc a2 a3) = ((1, ((ft, ff, w, lt, lk, lc), fo)) : Int32 × (XS × (Nat → Int64))) from by unfold f_L_compare; rw [if_neg (by rw [hk9]; decide)]; try rw [if_pos hk9]).symm, by rw [ht, w_WU_mk]; exact hP, by rw [w_WU_mk]; exact hD⟩, hS.F ht⟩) hS.2.2 dL_compare_16
    · exact absurd hk9 (no2_X0_compare _ _ _ _ _ _ _ _)
  · have hP : va_P (dC, dI) vwCl [(qo, .inl (cO, 1, .inr (.inl fo))), (h0, .inr (0, [.ref qt, .ref qf, .int ((f_X0_compare ft ff w lt lk lc a2 a3).2.2.2.2.1), .int ((f_X0_compare ft ff w lt lk lc a2 a3).2.2.2.2.2.1), .int ((f_X0_compare ft ff w lt lk lc a2 a3).2.2.2.2.2.2.1), .int ((f_X0_compare ft ff w lt lk lc a2 a3).2.2.2.2.2.2.2)])), (qt, .inl (cI, 8, .inl ((f_X0_compare ft ff w lt lk lc a2 a3).2.2.1))), (qf, .inl (cL, 8, .inr (.inl ((f_X0_compare ft ff w lt lk lc a2 a3).2.2.2.1))))] H := hP
    have hD : va_D A [(qo, .inl (cO, 1, .inr (.inl fo))), (h0, .inr (0, [.ref qt, .ref qf, .int ((f_X0_compare ft ff w lt lk lc a2 a3).2.2.2.2.1), .int ((f_X0_compare ft ff w lt lk lc a2 a3).2.2.2.2.2.1), .int ((f_X0_compare ft ff w lt lk lc a2 a3).2.2.2.2.2.2.1), .int ((f_X0_compare ft ff w lt lk lc a2 a3).2.2.2.2.2.2.2)])), (qt, .inl (cI, 8, .inl ((f_X0_compare ft ff w lt lk lc a2 a3).2.2.1))), (qf, .inl (cL, 8, .inr (.inl ((f_X0_compare ft ff w lt lk lc a2 a3).2.2.2.1))))] := hD
    refine W.eq (g2 := F0 m 8 ls ([.int ((f_X0_compare ft ff w lt lk lc a2 a3).2.1), .int 0, .ref qo])) rfl ?_
    refine lv_i2l hx hb dL_compare_8 rfl ?_
    refine va_last hx hb hK hP hD hS 0 0 rfl rfl (vp_in_nI (n := 0) (by decide) (by decide)) dL_compare_9 (fun H locs hP hD hS => ?_)
    have hP : va_P (dC, dI) vwCl [(qo, .inl (cO, 1, .inr (.inl (vp_updL fo ((0 : Int32).toNatClampNeg) (Int32.toInt64 ((f_X0_compare ft ff w lt lk lc a2 a3).2.1)))))), (h0, .inr (0, [.ref qt, .ref qf, .int ((f_X0_compare ft ff w lt lk lc a2 a3).2.2.2.2.1), .int ((f_X0_compare ft ff w lt lk lc a2 a3).2.2.2.2.2.1), .int ((f_X0_compare ft ff w lt lk lc a2 a3).2.2.2.2.2.2.1), .int ((f_X0_compare ft ff w lt lk lc a2 a3).2.2.2.2.2.2.2)])), (qt, .inl (cI, 8, .inl ((f_X0_compare ft ff w lt lk lc a2 a3).2.2.1))), (qf, .inl (cL, 8, .inr (.inl ((f_X0_compare ft ff w lt lk lc a2 a3).2.2.2.1))))] H := hP
    have hD : va_D A [(qo, .inl (cO, 1, .inr (.inl (vp_updL fo ((0 : Int32).toNatClampNeg) (Int32.toInt64 ((f_X0_compare ft ff w lt lk lc a2 a3).2.1)))))), (h0, .inr (0, [.ref qt, .ref qf, .int ((f_X0_compare ft ff w lt lk lc a2 a3).2.2.2.2.1), .int ((f_X0_compare ft ff w lt lk lc a2 a3).2.2.2.2.2.1), .int ((f_X0_compare ft ff w lt lk lc a2 a3).2.2.2.2.2.2.1), .int ((f_X0_compare ft ff w lt lk lc a2 a3).2.2.2.2.2.2.2)])), (qt, .inl (cI, 8, .inl ((f_X0_compare ft ff w lt lk lc a2 a3).2.2.1))), (qf, .inl (cL, 8, .inr (.inl ((f_X0_compare ft ff w lt lk lc a2 a3).2.2.2.1))))] := hD
    refine lv_goto (tgt := 17) hx hb dL_compare_10 (by decide) ?_
    refine lv_iconst (v := 0) hx hb dL_compare_17 (by decide) ?_
    refine W.widen (k := 1) (n := 6) (Nat.le_refl _) (Nat.le_refl _) ?_
    exact W.iret (v := 0) hx hb hr (fun t ht hW => ⟨⟨0, (((f_X0_compare ft ff w lt lk lc a2 a3).2.2.1, (f_X0_compare ft ff w lt lk lc a2 a3).2.2.2.1, (f_X0_compare ft ff w lt lk lc a2 a3).2.2.2.2.1, (f_X0_compare ft ff w lt lk lc a2 a3).2.2.2.2.2.1, (f_X0_compare ft ff w lt lk lc a2 a3).2.2.2.2.2.2.1, (f_X0_compare ft ff w lt lk lc a2 a3).2.2.2.2.2.2.2), (vp_updL fo ((0 : Int32).toNatClampNeg) (Int32.toInt64 ((f_X0_compare ft ff w lt lk lc a2 a3).2.1)))), rfl, (show (f_L_compare fo ft ff w lt lk lc a2 a3) = ((0, (((f_X0_compare ft ff w lt lk lc a2 a3).2.2.1, (f_X0_compare ft ff w lt lk lc a2 a3).2.2.2.1, (f_X0_compare ft ff w lt lk lc a2 a3).2.2.2.2.1, (f_X0_compare ft ff w lt lk lc a2 a3).2.2.2.2.2.1, (f_X0_compare ft ff w lt lk lc a2 a3).2.2.2.2.2.2.1, (f_X0_compare ft ff w lt lk lc a2 a3).2.2.2.2.2.2.2), (vp_updL fo ((0 : Int32).toNatClampNeg) (Int32.toInt64 ((f_X0_compare ft ff w lt lk lc a2 a3).2.1))))) : Int32 × (XS × (Nat → Int64))) from by unfold f_L_compare; rw [if_pos hv0]).symm, by rw [ht, w_WU_mk]; exact hP, by rw [w_WU_mk]; exact hD⟩, hS.F ht⟩) hS.2.2 dL_compare_18
def f_L_neighbour (ft : Nat → Int32) (ff : Nat → Int64) (w : Int32) (lt : Int32) (lk : Int32) (lc : Int32) (a2 : Int32) (a3 : Int32) (a4 : Int32) : Int32 × XS :=
  if (f_X0_neighbour ft ff w lt lk lc a2 a3 a4).1 = 0 then (0, ((f_X0_neighbour ft ff w lt lk lc a2 a3 a4).2.1, (f_X0_neighbour ft ff w lt lk lc a2 a3 a4).2.2.1, (f_X0_neighbour ft ff w lt lk lc a2 a3 a4).2.2.2.1, (f_X0_neighbour ft ff w lt lk lc a2 a3 a4).2.2.2.2.1, (f_X0_neighbour ft ff w lt lk lc a2 a3 a4).2.2.2.2.2.1, (f_X0_neighbour ft ff w lt lk lc a2 a3 a4).2.2.2.2.2.2)) else (1, (ft, ff, w, lt, lk, lc))
set_option maxHeartbeats 1000000 in
set_option maxRecDepth 100000 in
theorem c_L_neighbour (l : Launch) (hfl : l.stackTraces = false) (dC : Nat → ClassId) (dI : Nat → Nat → Nat) (cI cL : ClassId) (h0 qt qf : Nat) (sz : Nat) (ft : Nat → Int32) (ff : Nat → Int64) (w : Int32) (lt : Int32) (lk : Int32) (lc : Int32) (a2 : Int32) (a3 : Int32) (a4 : Int32) : Met l yL_neighbour wsL_neighbour ({ frames := 7, cells := 1, slots := 6, locals := 132 }) (tw_Pc (dC, dI) (x_W cI cL h0 qt qf ft ff w lt lk lc) (x_T cI cL) sz [.ref h0, .int a2, .int a3, .int a4]) (wr_Qi (dC, dI) (x_WU cI cL h0 qt qf) (f_L_neighbour ft ff w lt lk lc a2 a3 a4) (va_A (x_W cI cL h0 qt qf ft ff w lt lk lc) sz)) 1 6 (va_A (x_W cI cL h0 qt qf ft ff w lt lk lc) sz) := by
  refine va_MetW (cc := cL_neighbour) (maxL := 5) (ret := (some .int)) (by decide) rfl ?_
  intro p e s m args below meth c s₁ B hml hv
  obtain ⟨rfl, hsz, hP, hK, hD0, hE⟩ := hv
  have hx := B.exec
  have hb := B.bytes
  have hr := B.returns
  have hts := atoms_spec (ws := wsL_neighbour) B.pre
  have hown : s.vm.findClass RL = some m.cls := findClass_of_methodNamed B.named
  have hlocks := B.notSynchronized
  have hTab : c.exceptionTable.toList = tableOf [(0, 7, 10, 19)] := vx_table (x := yL_neighbour) B (hts (.codeWith yL_neighbour cL_neighbour 5 (some .int) [(0, 7, 10, 19)]) (List.mem_append_left _ List.mem_cons_self))
  subst hsz
  have hD := hD0.self (sz := s.heap.size)
  generalize hAe : va_A (x_W cI cL h0 qt qf ft ff w lt lk lc) s.heap.size = A at hD hE ⊢
  have hA : ∀ q : Nat, s.heap.size ≤ q → A q := fun q h => by rw [← hAe]; exact Or.inr h
  have hS : va_S A s.heap s.heap [] := va_S.rf
  have hD : va_D A [(h0, .inr (0, [.ref qt, .ref qf, .int w, .int lt, .int lk, .int lc])), (qt, .inl (cI, 8, .inl ft)), (qf, .inl (cL, 8, .inr (.inl ff)))] := hD
  have hP : va_P (dC, dI) vwCl [(h0, .inr (0, [.ref qt, .ref qf, .int w, .int lt, .int lk, .int lc])), (qt, .inl (cI, 8, .inl ft)), (qf, .inl (cL, 8, .inr (.inl ff)))] s.heap := hP
  have hl := lv_entry ([.ref h0, .int a2, .int a3, .int a4]) (n := 5) (Nat.le_of_ble_eq_true rfl)
  rw [lg_entry_eq]
  generalize (lg_sl ([.ref h0, .int a2, .int a3, .int a4]) ++ List.replicate (5 - (lg_sl ([.ref h0, .int a2, .int a3, .int a4])).length) Slot.unset).toArray = ls at hl ⊢
  have hl : lv_has ls 5 [(0, .ref h0), (1, .int a2), (2, .int a3), (3, .int a4)] := hl
  refine lv_aload_n hx hb dL_neighbour_0 rfl (lv_at hl 0 rfl) ?_
  refine lv_iload_n hx hb dL_neighbour_1 rfl (lv_at hl 1 rfl) ?_
  refine lv_iload_n hx hb dL_neighbour_2 rfl (lv_at hl 2 rfl) ?_
  refine lv_iload_n hx hb dL_neighbour_3 rfl (lv_at hl 3 rfl) ?_
  have hPc := hP.sub (ws' := [(h0, .inr (0, [.ref qt, .ref qf, .int w, .int lt, .int lk, .int lc])), (qt, .inl (cI, 8, .inl ft)), (qf, .inl (cL, 8, .inr (.inl ff)))]) [0, 1, 2] rfl
  have hDc := hD.sub (ws' := [(h0, .inr (0, [.ref qt, .ref qf, .int w, .int lt, .int lk, .int lc])), (qt, .inl (cI, 8, .inl ft)), (qf, .inl (cL, 8, .inr (.inl ff)))]) [0, 1, 2] (by decide) rfl
  have hFc := va_free (wc := [(h0, .inr (0, [.ref qt, .ref qf, .int w, .int lt, .int lk, .int lc])), (qt, .inl (cI, 8, .inl ft)), (qf, .inl (cL, 8, .inr (.inl ff)))]) hD hS hA [0, 1, 2] rfl
  refine tw_callv (D := (dC, dI)) (wr := []) (wc := [(h0, .inr (0, [.ref qt, .ref qf, .int w, .int lt, .int lk, .int lc])), (qt, .inl (cI, 8, .inl ft)), (qf, .inl (cL, 8, .inr (.inl ff)))]) (vx_runV (As := [.int a2, .int a3, .int a4]) (rest := []) ⟨hx, hb, hml, hown, hts⟩ (c_X0_neighbour l hfl dC dI cI cL h0 qt qf s.heap.size ft ff w lt lk lc a2 a3 a4) (cwV 3 hts gL_neighbour_X0_neighbour rfl rfl rfl (by decide +kernel) ⟨Nat.le_of_ble_eq_true rfl, Nat.le_of_ble_eq_true rfl⟩) (tw_preV hK hPc hDc (fun U hU hW => hE.go hS hFc hU hW) rfl rfl) rfl rfl hl.1 rfl (lv_room (Nat.le_of_ble_eq_true rfl)) dL_neighbour_4 ⟨Nat.le_of_ble_eq_true rfl, Nat.le_of_ble_eq_true rfl⟩) hP hD hS hA [0, 1, 2] [] rfl rfl (by decide) (by decide) (by decide) (fun E ce q9 H locs hE9 hP hD hS hce hcv hcl => ?_) (fun hv0 H locs hP hD hS => ?_)
  · have hP : va_P (dC, dI) vwCl [(h0, .inr (0, [.ref qt, .ref qf, .int w, .int lt, .int lk, .int lc])), (qt, .inl (cI, 8, .inl ft)), (qf, .inl (cL, 8, .inr (.inl ff)))] H := hP
    have hD : va_D A [(h0, .inr (0, [.ref qt, .ref qf, .int w, .int lt, .int lk, .int lc])), (qt, .inl (cI, 8, .inl ft)), (qf, .inl (cL, 8, .inr (.inl ff)))] := hD
    rcases hE9 with ⟨hk9, rfl⟩ | ⟨hk9, rfl⟩
    · refine vx_catch (own := RL) (name := "java/lang/IndexOutOfBoundsException") (E := "java/lang/IndexOutOfBoundsException") hown [] ⟨0, 7, 10, 19⟩ [] (by rw [hTab]; rfl) (fun z hz => nomatch hz) (by decide) (by decide) (hts (.classLink RL 19 "java/lang/IndexOutOfBoundsException") (by decide +kernel)) (va_Nw.use rfl (xv_c1 hE.2.2)) hce hcv hcl ?_
      refine W.eq (g2 := F0 m 10 ls [.ref q9]) rfl ?_
      refine lv_astore (lv' := [(4, .ref q9), (0, .ref h0), (1, .int a2), (2, .int a3), (3, .int a4)]) hx hb dL_neighbour_10 hl (by decide) rfl (fun ls hl => ?_)
      refine lv_iconst (v := 1) hx hb dL_neighbour_12 (by decide) ?_
      refine W.widen (k := 1) (n := 6) (Nat.le_refl _) (Nat.le_refl _) ?_
      exact W.iret (v := 1) hx hb hr (fun t ht hW => ⟨⟨1, (ft, ff, w, lt, lk, lc), rfl, (show (f_L_neighbour ft ff w lt lk lc a2 a3 a4) = ((1, (ft, ff, w, lt, lk, lc)) : Int32 × XS) from by unfold f_L_neighbour; rw [if_neg (by rw [hk9]; decide)]; try rw [if_pos hk9]).symm, by rw [ht, x_WU_mk]; exact hP, by rw [x_WU_mk]; exact hD⟩, hS.F ht⟩) hS.2.2 dL_neighbour_13
    · exact absurd hk9 (no2_X0_neighbour _ _ _ _ _ _ _ _ _)
  · have hP : va_P (dC, dI) vwCl [(h0, .inr (0, [.ref qt, .ref qf, .int ((f_X0_neighbour ft ff w lt lk lc a2 a3 a4).2.2.2.1), .int ((f_X0_neighbour ft ff w lt lk lc a2 a3 a4).2.2.2.2.1), .int ((f_X0_neighbour ft ff w lt lk lc a2 a3 a4).2.2.2.2.2.1), .int ((f_X0_neighbour ft ff w lt lk lc a2 a3 a4).2.2.2.2.2.2)])), (qt, .inl (cI, 8, .inl ((f_X0_neighbour ft ff w lt lk lc a2 a3 a4).2.1))), (qf, .inl (cL, 8, .inr (.inl ((f_X0_neighbour ft ff w lt lk lc a2 a3 a4).2.2.1))))] H := hP
    have hD : va_D A [(h0, .inr (0, [.ref qt, .ref qf, .int ((f_X0_neighbour ft ff w lt lk lc a2 a3 a4).2.2.2.1), .int ((f_X0_neighbour ft ff w lt lk lc a2 a3 a4).2.2.2.2.1), .int ((f_X0_neighbour ft ff w lt lk lc a2 a3 a4).2.2.2.2.2.1), .int ((f_X0_neighbour ft ff w lt lk lc a2 a3 a4).2.2.2.2.2.2)])), (qt, .inl (cI, 8, .inl ((f_X0_neighbour ft ff w lt lk lc a2 a3 a4).2.1))), (qf, .inl (cL, 8, .inr (.inl ((f_X0_neighbour ft ff w lt lk lc a2 a3 a4).2.2.1))))] := hD
    refine W.eq (g2 := F0 m 7 ls ([])) rfl ?_
    refine lv_goto (tgt := 14) hx hb dL_neighbour_7 (by decide) ?_
    refine lv_iconst (v := 0) hx hb dL_neighbour_14 (by decide) ?_
    refine W.widen (k := 1) (n := 6) (Nat.le_refl _) (Nat.le_refl _) ?_
    exact W.iret (v := 0) hx hb hr (fun t ht hW => ⟨⟨0, ((f_X0_neighbour ft ff w lt lk lc a2 a3 a4).2.1, (f_X0_neighbour ft ff w lt lk lc a2 a3 a4).2.2.1, (f_X0_neighbour ft ff w lt lk lc a2 a3 a4).2.2.2.1, (f_X0_neighbour ft ff w lt lk lc a2 a3 a4).2.2.2.2.1, (f_X0_neighbour ft ff w lt lk lc a2 a3 a4).2.2.2.2.2.1, (f_X0_neighbour ft ff w lt lk lc a2 a3 a4).2.2.2.2.2.2), rfl, (show (f_L_neighbour ft ff w lt lk lc a2 a3 a4) = ((0, ((f_X0_neighbour ft ff w lt lk lc a2 a3 a4).2.1, (f_X0_neighbour ft ff w lt lk lc a2 a3 a4).2.2.1, (f_X0_neighbour ft ff w lt lk lc a2 a3 a4).2.2.2.1, (f_X0_neighbour ft ff w lt lk lc a2 a3 a4).2.2.2.2.1, (f_X0_neighbour ft ff w lt lk lc a2 a3 a4).2.2.2.2.2.1, (f_X0_neighbour ft ff w lt lk lc a2 a3 a4).2.2.2.2.2.2)) : Int32 × XS) from by unfold f_L_neighbour; rw [if_pos hv0]).symm, by rw [ht, x_WU_mk]; exact hP, by rw [x_WU_mk]; exact hD⟩, hS.F ht⟩) hS.2.2 dL_neighbour_15
set_option maxHeartbeats 1000000 in
set_option maxRecDepth 100000 in
theorem c_X0_init (l : Launch) (dC : Nat → ClassId) (dI : Nat → Nat → Nat) (h0 : Nat) (sz : Nat) : Met l yX0_init wsX0_init ({ frames := 1, cells := 2, slots := 16, locals := 12 }) (wr_Pc (dC, dI) [(h0, .inr (0, [.null, .null, .int 0, .int 0, .int 0, .int 0]))] [] sz [.ref h0]) (va_Qv (fun _ : ClassId × ClassId × Nat × Nat => True) (fun u t => va_P (dC, dI) vwCl [(h0, .inr (0, [.ref u.2.2.1, .ref u.2.2.2, .int 1023, .int 0, .int 0, .int 0])), (u.2.2.1, .inl (u.1, 8, .inl (fun _ => 0))), (u.2.2.2, .inl (u.2.1, 8, .inr (.inl (fun _ => 0))))] t.heap ∧ va_K (dC, dI) vwCl [(u.1, .int), (u.2.1, .long)] t ∧ va_D (va_A [(h0, .inr (0, [.null, .null, .int 0, .int 0, .int 0, .int 0]))] sz) [(h0, .inr (0, [.ref u.2.2.1, .ref u.2.2.2, .int 1023, .int 0, .int 0, .int 0])), (u.2.2.1, .inl (u.1, 8, .inl (fun _ => 0))), (u.2.2.2, .inl (u.2.1, 8, .inr (.inl (fun _ => 0))))]) (va_A [(h0, .inr (0, [.null, .null, .int 0, .int 0, .int 0, .int 0]))] sz)) 2 16 (va_A [(h0, .inr (0, [.null, .null, .int 0, .int 0, .int 0, .int 0]))] sz) := by
  refine Met.ofW (cc := cX0_init) (maxL := 1) (ret := none) (by decide) rfl ?_
  intro p e s m args below meth c s₁ B hml hv
  obtain ⟨rfl, hsz, hP, hK, hD0⟩ := hv
  have hx := B.exec
  have hb := B.bytes
  have hr := B.returns
  have hts := atoms_spec (ws := wsX0_init) B.pre
  have hown : s.vm.findClass RX0 = some m.cls := findClass_of_methodNamed B.named
  have hlocks := B.notSynchronized
  have hin : meth.name = "<init>" := (name_of_methodNamed B.named B.method).1
  have hin_X0 : ∀ w ∈ u_ws RX0 TX0 6, w ∈ wsX0_init := by decide +kernel
  subst hsz
  have hD := hD0.self (sz := s.heap.size)
  generalize hAe : va_A [(h0, .inr (0, [.null, .null, .int 0, .int 0, .int 0, .int 0]))] s.heap.size = A at hD ⊢
  have hA : ∀ q : Nat, s.heap.size ≤ q → A q := fun q h => by rw [← hAe]; exact Or.inr h
  have hS : va_S A s.heap s.heap [] := va_S.rf
  have hD : va_D A [(h0, .inr (0, [.null, .null, .int 0, .int 0, .int 0, .int 0]))] := hD
  have hP : va_P (dC, dI) vwCl [(h0, .inr (0, [.null, .null, .int 0, .int 0, .int 0, .int 0]))] s.heap := hP
  have hl := lv_entry ([.ref h0]) (n := 1) (Nat.le_of_ble_eq_true rfl)
  rw [lg_entry_eq]
  generalize (lg_sl ([.ref h0]) ++ List.replicate (1 - (lg_sl ([.ref h0])).length) Slot.unset).toArray = ls at hl ⊢
  have hl : lv_has ls 1 [(0, .ref h0)] := hl
  refine lv_aload_n hx hb dX0_init_0 rfl (lv_at hl 0 rfl) ?_
  refine W.objInit hx hb hown (hts (.methodLink RX0 1 objectInit) (by decide +kernel)) (hts (.instanceMethod objectInit) (by decide +kernel)) (hts (.code objectInit ⟨#[0xb1]⟩ 1 none) (by decide +kernel)) rfl (by rw [hml]; exact hl.1) rfl dX0_init_1 (Nat.le_of_ble_eq_true rfl) (Nat.le_of_ble_eq_true rfl) ?_
  refine W.eq (g2 := F0 m 4 ls ([])) rfl ?_
  refine lv_aload_n hx hb dX0_init_4 rfl (lv_at hl 0 rfl) ?_
  refine lv_bipush (v := 8) hx hb dX0_init_5 (by decide) ?_
  refine va_newa (atype := .int) (N' := 8) (a0 := (8, .inl (fun _ => 0))) (ty := .int) (n := 8) hx hb (hts (.arrayClass .int) (by decide +kernel)) rfl hK hP hD hS hA (fun _ => rfl) (by decide) rfl (by decide) (Nat.le_of_ble_eq_true rfl) (Nat.le_of_ble_eq_true rfl) dX0_init_7 (fun q1 cA1 H hK hP hD hS => ?_)
  have hP : va_P (dC, dI) vwCl [(h0, .inr (0, [.null, .null, .int 0, .int 0, .int 0, .int 0])), (q1, .inl (cA1, 8, .inl (fun _ => 0)))] H := hP
  have hD : va_D A [(h0, .inr (0, [.null, .null, .int 0, .int 0, .int 0, .int 0])), (q1, .inl (cA1, 8, .inl (fun _ => 0)))] := hD
  have hK : va_K (dC, dI) vwCl [(cA1, .int)] s := hK
  refine W.widen (k := 1) (n := 8) (by decide) (by decide) ?_
  refine va_putF (D := (dC, dI)) (ci := 0) (v := .ref q1) (ty := (.array .int)) (C := RX0) (T := TX0) (N := 6) hx hb hts hin_X0 tyX0 tyX0_ok nmX0 hown hK hP hD hS 0 rfl rfl 0 (by decide) (hts (.fieldLink RX0 9 "TemporaryReals" "tops" "[I") (by decide +kernel)) (fun _ h9 => h9) rfl hin rfl (by decide +kernel) rfl rfl (Nat.le_of_ble_eq_true rfl) dX0_init_9 (fun H locs hP hD hS => ?_)
  have hP : va_P (dC, dI) vwCl [(h0, .inr (0, [.ref q1, .null, .int 0, .int 0, .int 0, .int 0])), (q1, .inl (cA1, 8, .inl (fun _ => 0)))] H := hP
  have hD : va_D A [(h0, .inr (0, [.ref q1, .null, .int 0, .int 0, .int 0, .int 0])), (q1, .inl (cA1, 8, .inl (fun _ => 0)))] := hD
  refine lv_aload_n hx hb dX0_init_12 rfl (lv_at hl 0 rfl) ?_
  refine lv_bipush (v := 8) hx hb dX0_init_13 (by decide) ?_
  refine va_newa (atype := .long) (N' := 8) (a0 := (8, .inr (.inl (fun _ => 0)))) (ty := .long) (n := 8) hx hb (hts (.arrayClass .long) (by decide +kernel)) rfl hK hP hD hS hA (fun _ => rfl) (by decide) rfl (by decide) (Nat.le_of_ble_eq_true rfl) (Nat.le_of_ble_eq_true rfl) dX0_init_15 (fun q2 cA2 H hK hP hD hS => ?_)
  have hP : va_P (dC, dI) vwCl [(h0, .inr (0, [.ref q1, .null, .int 0, .int 0, .int 0, .int 0])), (q1, .inl (cA1, 8, .inl (fun _ => 0))), (q2, .inl (cA2, 8, .inr (.inl (fun _ => 0))))] H := hP
  have hD : va_D A [(h0, .inr (0, [.ref q1, .null, .int 0, .int 0, .int 0, .int 0])), (q1, .inl (cA1, 8, .inl (fun _ => 0))), (q2, .inl (cA2, 8, .inr (.inl (fun _ => 0))))] := hD
  have hK : va_K (dC, dI) vwCl [(cA1, .int), (cA2, .long)] s := hK
  refine W.widen (k := 2) (n := 16) (by decide) (by decide) ?_
  refine va_putF (D := (dC, dI)) (ci := 0) (v := .ref q2) (ty := (.array .long)) (C := RX0) (T := TX0) (N := 6) hx hb hts hin_X0 tyX0 tyX0_ok nmX0 hown hK hP hD hS 0 rfl rfl 1 (by decide) (hts (.fieldLink RX0 13 "TemporaryReals" "fractions" "[J") (by decide +kernel)) (fun _ h9 => h9) rfl hin rfl (by decide +kernel) rfl rfl (Nat.le_of_ble_eq_true rfl) dX0_init_17 (fun H locs hP hD hS => ?_)
  have hP : va_P (dC, dI) vwCl [(h0, .inr (0, [.ref q1, .ref q2, .int 0, .int 0, .int 0, .int 0])), (q1, .inl (cA1, 8, .inl (fun _ => 0))), (q2, .inl (cA2, 8, .inr (.inl (fun _ => 0))))] H := hP
  have hD : va_D A [(h0, .inr (0, [.ref q1, .ref q2, .int 0, .int 0, .int 0, .int 0])), (q1, .inl (cA1, 8, .inl (fun _ => 0))), (q2, .inl (cA2, 8, .inr (.inl (fun _ => 0))))] := hD
  refine lv_aload_n hx hb dX0_init_20 rfl (lv_at hl 0 rfl) ?_
  refine lv_sipush (v := 1023) hx hb dX0_init_21 (by decide) ?_
  refine va_put (D := (dC, dI)) (ci := 0) (v := .int 1023) (ty := .int) (C := RX0) (T := TX0) (N := 6) hx hb hts hin_X0 tyX0 tyX0_ok nmX0 hown hK hP hD hS 0 rfl rfl 2 (by decide) (hts (.fieldLink RX0 17 "TemporaryReals" "word" "I") (by decide +kernel)) (fun _ h9 => h9) rfl (by decide +kernel) rfl rfl (Nat.le_of_ble_eq_true rfl) dX0_init_24 (fun H locs hP hD hS => ?_)
  have hP : va_P (dC, dI) vwCl [(h0, .inr (0, [.ref q1, .ref q2, .int 1023, .int 0, .int 0, .int 0])), (q1, .inl (cA1, 8, .inl (fun _ => 0))), (q2, .inl (cA2, 8, .inr (.inl (fun _ => 0))))] H := hP
  have hD : va_D A [(h0, .inr (0, [.ref q1, .ref q2, .int 1023, .int 0, .int 0, .int 0])), (q1, .inl (cA1, 8, .inl (fun _ => 0))), (q2, .inl (cA2, 8, .inr (.inl (fun _ => 0))))] := hD
  exact W.vret hx hb hr (fun t ht hW => ⟨⟨(cA1, cA2, q1, q2), rfl, trivial, by rw [ht]; exact hP, va_K.moved hW.alike hK, hD⟩, hS.F ht⟩) hS.2.2 dX0_init_27
set_option maxHeartbeats 1000000 in
set_option maxRecDepth 100000 in
theorem c_X1_init (l : Launch) (dC : Nat → ClassId) (dI : Nat → Nat → Nat) (h0 : Nat) (sz : Nat) : Met l yX1_init wsX1_init ({ frames := 1, cells := 3, slots := 145, locals := 12 }) (wr_Pc (dC, dI) [(h0, .inr (1, [.int 0, .int 0, .null, .null, .null, .int 0, .int 0, .int 0, .long 0, .int 0, .int 0, .int 0, .int 0, .int 0, .long 0]))] [] sz [.ref h0]) (va_Qv (fun _ : ClassId × ClassId × ClassId × Nat × Nat × Nat => True) (fun u t => va_P (dC, dI) vwCl [(h0, .inr (1, [.int 0, .int 1023, .ref u.2.2.2.1, .ref u.2.2.2.2.1, .ref u.2.2.2.2.2, .int 0, .int 0, .int 0, .long 0, .int 0, .int 0, .int 0, .int 0, .int 0, .long 0])), (u.2.2.2.1, .inl (u.1, 8, .inl (fun _ => 0))), (u.2.2.2.2.1, .inl (u.2.1, 8, .inr (.inl (fun _ => 0)))), (u.2.2.2.2.2, .inl (u.2.2.1, 129, .inl (fun _ => 0)))] t.heap ∧ va_K (dC, dI) vwCl [(u.1, .int), (u.2.1, .long), (u.2.2.1, .int)] t ∧ va_D (va_A [(h0, .inr (1, [.int 0, .int 0, .null, .null, .null, .int 0, .int 0, .int 0, .long 0, .int 0, .int 0, .int 0, .int 0, .int 0, .long 0]))] sz) [(h0, .inr (1, [.int 0, .int 1023, .ref u.2.2.2.1, .ref u.2.2.2.2.1, .ref u.2.2.2.2.2, .int 0, .int 0, .int 0, .long 0, .int 0, .int 0, .int 0, .int 0, .int 0, .long 0])), (u.2.2.2.1, .inl (u.1, 8, .inl (fun _ => 0))), (u.2.2.2.2.1, .inl (u.2.1, 8, .inr (.inl (fun _ => 0)))), (u.2.2.2.2.2, .inl (u.2.2.1, 129, .inl (fun _ => 0)))]) (va_A [(h0, .inr (1, [.int 0, .int 0, .null, .null, .null, .int 0, .int 0, .int 0, .long 0, .int 0, .int 0, .int 0, .int 0, .int 0, .long 0]))] sz)) 3 145 (va_A [(h0, .inr (1, [.int 0, .int 0, .null, .null, .null, .int 0, .int 0, .int 0, .long 0, .int 0, .int 0, .int 0, .int 0, .int 0, .long 0]))] sz) := by
  refine Met.ofW (cc := cX1_init) (maxL := 1) (ret := none) (by decide) rfl ?_
  intro p e s m args below meth c s₁ B hml hv
  obtain ⟨rfl, hsz, hP, hK, hD0⟩ := hv
  have hx := B.exec
  have hb := B.bytes
  have hr := B.returns
  have hts := atoms_spec (ws := wsX1_init) B.pre
  have hown : s.vm.findClass RX1 = some m.cls := findClass_of_methodNamed B.named
  have hlocks := B.notSynchronized
  have hin : meth.name = "<init>" := (name_of_methodNamed B.named B.method).1
  have hin_X1 : ∀ w ∈ u_ws RX1 TX1 15, w ∈ wsX1_init := by decide +kernel
  subst hsz
  have hD := hD0.self (sz := s.heap.size)
  generalize hAe : va_A [(h0, .inr (1, [.int 0, .int 0, .null, .null, .null, .int 0, .int 0, .int 0, .long 0, .int 0, .int 0, .int 0, .int 0, .int 0, .long 0]))] s.heap.size = A at hD ⊢
  have hA : ∀ q : Nat, s.heap.size ≤ q → A q := fun q h => by rw [← hAe]; exact Or.inr h
  have hS : va_S A s.heap s.heap [] := va_S.rf
  have hD : va_D A [(h0, .inr (1, [.int 0, .int 0, .null, .null, .null, .int 0, .int 0, .int 0, .long 0, .int 0, .int 0, .int 0, .int 0, .int 0, .long 0]))] := hD
  have hP : va_P (dC, dI) vwCl [(h0, .inr (1, [.int 0, .int 0, .null, .null, .null, .int 0, .int 0, .int 0, .long 0, .int 0, .int 0, .int 0, .int 0, .int 0, .long 0]))] s.heap := hP
  have hl := lv_entry ([.ref h0]) (n := 1) (Nat.le_of_ble_eq_true rfl)
  rw [lg_entry_eq]
  generalize (lg_sl ([.ref h0]) ++ List.replicate (1 - (lg_sl ([.ref h0])).length) Slot.unset).toArray = ls at hl ⊢
  have hl : lv_has ls 1 [(0, .ref h0)] := hl
  refine lv_aload_n hx hb dX1_init_0 rfl (lv_at hl 0 rfl) ?_
  refine W.objInit hx hb hown (hts (.methodLink RX1 1 objectInit) (by decide +kernel)) (hts (.instanceMethod objectInit) (by decide +kernel)) (hts (.code objectInit ⟨#[0xb1]⟩ 1 none) (by decide +kernel)) rfl (by rw [hml]; exact hl.1) rfl dX1_init_1 (Nat.le_of_ble_eq_true rfl) (Nat.le_of_ble_eq_true rfl) ?_
  refine W.eq (g2 := F0 m 4 ls ([])) rfl ?_
  refine lv_aload_n hx hb dX1_init_4 rfl (lv_at hl 0 rfl) ?_
  refine lv_sipush (v := 1023) hx hb dX1_init_5 (by decide) ?_
  refine va_put (D := (dC, dI)) (ci := 1) (v := .int 1023) (ty := .int) (C := RX1) (T := TX1) (N := 15) hx hb hts hin_X1 tyX1 tyX1_ok nmX1 hown hK hP hD hS 0 rfl rfl 1 (by decide) (hts (.fieldLink RX1 7 "TemporaryRealsModel" "control" "I") (by decide +kernel)) (fun _ h9 => h9) rfl (by decide +kernel) rfl rfl (Nat.le_of_ble_eq_true rfl) dX1_init_8 (fun H locs hP hD hS => ?_)
  have hP : va_P (dC, dI) vwCl [(h0, .inr (1, [.int 0, .int 1023, .null, .null, .null, .int 0, .int 0, .int 0, .long 0, .int 0, .int 0, .int 0, .int 0, .int 0, .long 0]))] H := hP
  have hD : va_D A [(h0, .inr (1, [.int 0, .int 1023, .null, .null, .null, .int 0, .int 0, .int 0, .long 0, .int 0, .int 0, .int 0, .int 0, .int 0, .long 0]))] := hD
  refine lv_aload_n hx hb dX1_init_11 rfl (lv_at hl 0 rfl) ?_
  refine lv_bipush (v := 8) hx hb dX1_init_12 (by decide) ?_
  refine va_newa (atype := .int) (N' := 8) (a0 := (8, .inl (fun _ => 0))) (ty := .int) (n := 8) hx hb (hts (.arrayClass .int) (by decide +kernel)) rfl hK hP hD hS hA (fun _ => rfl) (by decide) rfl (by decide) (Nat.le_of_ble_eq_true rfl) (Nat.le_of_ble_eq_true rfl) dX1_init_14 (fun q1 cA1 H hK hP hD hS => ?_)
  have hP : va_P (dC, dI) vwCl [(h0, .inr (1, [.int 0, .int 1023, .null, .null, .null, .int 0, .int 0, .int 0, .long 0, .int 0, .int 0, .int 0, .int 0, .int 0, .long 0])), (q1, .inl (cA1, 8, .inl (fun _ => 0)))] H := hP
  have hD : va_D A [(h0, .inr (1, [.int 0, .int 1023, .null, .null, .null, .int 0, .int 0, .int 0, .long 0, .int 0, .int 0, .int 0, .int 0, .int 0, .long 0])), (q1, .inl (cA1, 8, .inl (fun _ => 0)))] := hD
  have hK : va_K (dC, dI) vwCl [(cA1, .int)] s := hK
  refine W.widen (k := 1) (n := 8) (by decide) (by decide) ?_
  refine va_putF (D := (dC, dI)) (ci := 1) (v := .ref q1) (ty := (.array .int)) (C := RX1) (T := TX1) (N := 15) hx hb hts hin_X1 tyX1 tyX1_ok nmX1 hown hK hP hD hS 0 rfl rfl 2 (by decide) (hts (.fieldLink RX1 13 "TemporaryRealsModel" "top" "[I") (by decide +kernel)) (fun _ h9 => h9) rfl hin rfl (by decide +kernel) rfl rfl (Nat.le_of_ble_eq_true rfl) dX1_init_16 (fun H locs hP hD hS => ?_)
  have hP : va_P (dC, dI) vwCl [(h0, .inr (1, [.int 0, .int 1023, .ref q1, .null, .null, .int 0, .int 0, .int 0, .long 0, .int 0, .int 0, .int 0, .int 0, .int 0, .long 0])), (q1, .inl (cA1, 8, .inl (fun _ => 0)))] H := hP
  have hD : va_D A [(h0, .inr (1, [.int 0, .int 1023, .ref q1, .null, .null, .int 0, .int 0, .int 0, .long 0, .int 0, .int 0, .int 0, .int 0, .int 0, .long 0])), (q1, .inl (cA1, 8, .inl (fun _ => 0)))] := hD
  refine lv_aload_n hx hb dX1_init_19 rfl (lv_at hl 0 rfl) ?_
  refine lv_bipush (v := 8) hx hb dX1_init_20 (by decide) ?_
  refine va_newa (atype := .long) (N' := 8) (a0 := (8, .inr (.inl (fun _ => 0)))) (ty := .long) (n := 8) hx hb (hts (.arrayClass .long) (by decide +kernel)) rfl hK hP hD hS hA (fun _ => rfl) (by decide) rfl (by decide) (Nat.le_of_ble_eq_true rfl) (Nat.le_of_ble_eq_true rfl) dX1_init_22 (fun q2 cA2 H hK hP hD hS => ?_)
  have hP : va_P (dC, dI) vwCl [(h0, .inr (1, [.int 0, .int 1023, .ref q1, .null, .null, .int 0, .int 0, .int 0, .long 0, .int 0, .int 0, .int 0, .int 0, .int 0, .long 0])), (q1, .inl (cA1, 8, .inl (fun _ => 0))), (q2, .inl (cA2, 8, .inr (.inl (fun _ => 0))))] H := hP
  have hD : va_D A [(h0, .inr (1, [.int 0, .int 1023, .ref q1, .null, .null, .int 0, .int 0, .int 0, .long 0, .int 0, .int 0, .int 0, .int 0, .int 0, .long 0])), (q1, .inl (cA1, 8, .inl (fun _ => 0))), (q2, .inl (cA2, 8, .inr (.inl (fun _ => 0))))] := hD
  have hK : va_K (dC, dI) vwCl [(cA1, .int), (cA2, .long)] s := hK
  refine W.widen (k := 2) (n := 16) (by decide) (by decide) ?_
  refine va_putF (D := (dC, dI)) (ci := 1) (v := .ref q2) (ty := (.array .long)) (C := RX1) (T := TX1) (N := 15) hx hb hts hin_X1 tyX1 tyX1_ok nmX1 hown hK hP hD hS 0 rfl rfl 3 (by decide) (hts (.fieldLink RX1 17 "TemporaryRealsModel" "fraction" "[J") (by decide +kernel)) (fun _ h9 => h9) rfl hin rfl (by decide +kernel) rfl rfl (Nat.le_of_ble_eq_true rfl) dX1_init_24 (fun H locs hP hD hS => ?_)
  have hP : va_P (dC, dI) vwCl [(h0, .inr (1, [.int 0, .int 1023, .ref q1, .ref q2, .null, .int 0, .int 0, .int 0, .long 0, .int 0, .int 0, .int 0, .int 0, .int 0, .long 0])), (q1, .inl (cA1, 8, .inl (fun _ => 0))), (q2, .inl (cA2, 8, .inr (.inl (fun _ => 0))))] H := hP
  have hD : va_D A [(h0, .inr (1, [.int 0, .int 1023, .ref q1, .ref q2, .null, .int 0, .int 0, .int 0, .long 0, .int 0, .int 0, .int 0, .int 0, .int 0, .long 0])), (q1, .inl (cA1, 8, .inl (fun _ => 0))), (q2, .inl (cA2, 8, .inr (.inl (fun _ => 0))))] := hD
  refine lv_aload_n hx hb dX1_init_27 rfl (lv_at hl 0 rfl) ?_
  refine lv_sipush (v := 129) hx hb dX1_init_28 (by decide) ?_
  refine va_newa (atype := .int) (N' := 129) (a0 := (129, .inl (fun _ => 0))) (ty := .int) (n := 129) hx hb (hts (.arrayClass .int) (by decide +kernel)) rfl hK hP hD hS hA (fun _ => rfl) (by decide) rfl (by decide) (Nat.le_of_ble_eq_true rfl) (Nat.le_of_ble_eq_true rfl) dX1_init_31 (fun q3 cA3 H hK hP hD hS => ?_)
  have hP : va_P (dC, dI) vwCl [(h0, .inr (1, [.int 0, .int 1023, .ref q1, .ref q2, .null, .int 0, .int 0, .int 0, .long 0, .int 0, .int 0, .int 0, .int 0, .int 0, .long 0])), (q1, .inl (cA1, 8, .inl (fun _ => 0))), (q2, .inl (cA2, 8, .inr (.inl (fun _ => 0)))), (q3, .inl (cA3, 129, .inl (fun _ => 0)))] H := hP
  have hD : va_D A [(h0, .inr (1, [.int 0, .int 1023, .ref q1, .ref q2, .null, .int 0, .int 0, .int 0, .long 0, .int 0, .int 0, .int 0, .int 0, .int 0, .long 0])), (q1, .inl (cA1, 8, .inl (fun _ => 0))), (q2, .inl (cA2, 8, .inr (.inl (fun _ => 0)))), (q3, .inl (cA3, 129, .inl (fun _ => 0)))] := hD
  have hK : va_K (dC, dI) vwCl [(cA1, .int), (cA2, .long), (cA3, .int)] s := hK
  refine W.widen (k := 3) (n := 145) (by decide) (by decide) ?_
  refine va_putF (D := (dC, dI)) (ci := 1) (v := .ref q3) (ty := (.array .int)) (C := RX1) (T := TX1) (N := 15) hx hb hts hin_X1 tyX1 tyX1_ok nmX1 hown hK hP hD hS 0 rfl rfl 4 (by decide) (hts (.fieldLink RX1 21 "TemporaryRealsModel" "bits" "[I") (by decide +kernel)) (fun _ h9 => h9) rfl hin rfl (by decide +kernel) rfl rfl (Nat.le_of_ble_eq_true rfl) dX1_init_33 (fun H locs hP hD hS => ?_)
  have hP : va_P (dC, dI) vwCl [(h0, .inr (1, [.int 0, .int 1023, .ref q1, .ref q2, .ref q3, .int 0, .int 0, .int 0, .long 0, .int 0, .int 0, .int 0, .int 0, .int 0, .long 0])), (q1, .inl (cA1, 8, .inl (fun _ => 0))), (q2, .inl (cA2, 8, .inr (.inl (fun _ => 0)))), (q3, .inl (cA3, 129, .inl (fun _ => 0)))] H := hP
  have hD : va_D A [(h0, .inr (1, [.int 0, .int 1023, .ref q1, .ref q2, .ref q3, .int 0, .int 0, .int 0, .long 0, .int 0, .int 0, .int 0, .int 0, .int 0, .long 0])), (q1, .inl (cA1, 8, .inl (fun _ => 0))), (q2, .inl (cA2, 8, .inr (.inl (fun _ => 0)))), (q3, .inl (cA3, 129, .inl (fun _ => 0)))] := hD
  exact W.vret hx hb hr (fun t ht hW => ⟨⟨(cA1, cA2, cA3, q1, q2, q3), rfl, trivial, by rw [ht]; exact hP, va_K.moved hW.alike hK, hD⟩, hS.F ht⟩) hS.2.2 dX1_init_36
