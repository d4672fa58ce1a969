def f_X0_store (ft : Nat → Int32) (ff : Nat → Int64) (w : Int32) (lt : Int32) (lk : Int32) (lc : Int32) (a1 : Int32) (a2 : Int32) (a3 : Int32) (a4 : Int64) : XS :=
  ((upd ft a1.toNatClampNeg ((if a2 = 0 then 0 else 32768) ||| a3)), (vp_updL ff a1.toNatClampNeg a4), w, lt, lk, lc)
set_option maxHeartbeats 1000000 in
set_option maxRecDepth 100000 in
theorem c_X0_store (l : Launch) (dC : Nat → ClassId) (dI : Nat → Nat → Nat) (cI cL : ClassId) (h0 qt qf : Nat) (sz : Nat) (ft : Nat → Int32) (ff : Nat → Int64) (w : Int32) (lt : Int32) (lk : Int32) (lc : Int32) (a1 : Int32) (a2 : Int32) (a3 : Int32) (a4 : Int64) (hr1 : vp_in a1 8) : Met l yX0_store wsX0_store ({ frames := 0, cells := 0, slots := 0, locals := 0 }) (wr_Pc (dC, dI) (x_W cI cL h0 qt qf ft ff w lt lk lc) (x_T cI cL) sz [.ref h0, .int a1, .int a2, .int a3, .long a4]) (wr_Qv (dC, dI) (x_WU cI cL h0 qt qf) (f_X0_store ft ff w lt lk lc a1 a2 a3 a4) (va_A (x_W cI cL h0 qt qf ft ff w lt lk lc) sz)) 0 0 (va_A (x_W cI cL h0 qt qf ft ff w lt lk lc) sz) := by
  refine Met.ofW (cc := cX0_store) (maxL := 6) (ret := none) (by decide) rfl ?_
  intro p e s m args below meth c s₁ B hml hv
  obtain ⟨rfl, hsz, hP, hK, hD0⟩ := hv
  have hx := B.exec
  have hb := B.bytes
  have hr := B.returns
  have hts := atoms_spec (ws := wsX0_store) B.pre
  have hown : s.vm.findClass RX0 = some m.cls := findClass_of_methodNamed B.named
  have hlocks := B.notSynchronized
  have hin_X0 : ∀ w ∈ u_ws RX0 TX0 6, w ∈ wsX0_store := by decide +kernel
  subst hsz
  have hD := hD0.self (sz := s.heap.size)
  generalize hAe : va_A (x_W cI cL h0 qt qf ft ff w lt lk lc) s.heap.size = A at hD ⊢
  have hA : ∀ q : Nat, s.heap.size ≤ q → A q := fun q h => by rw [← hAe]; exact Or.inr h
  have hS : va_S A s.heap s.heap [] := va_S.rf
  have hD : va_D A [(h0, .inr (0, [.ref qt, .ref qf, .int w, .int lt, .int lk, .int lc])), (qt, .inl (cI, 8, .inl ft)), (qf, .inl (cL, 8, .inr (.inl ff)))] := hD
  have hP : va_P (dC, dI) vwCl [(h0, .inr (0, [.ref qt, .ref qf, .int w, .int lt, .int lk, .int lc])), (qt, .inl (cI, 8, .inl ft)), (qf, .inl (cL, 8, .inr (.inl ff)))] s.heap := hP
  have hl := lv_entry ([.ref h0, .int a1, .int a2, .int a3, .long a4]) (n := 6) (Nat.le_of_ble_eq_true rfl)
  rw [lg_entry_eq]
  generalize (lg_sl ([.ref h0, .int a1, .int a2, .int a3, .long a4]) ++ List.replicate (6 - (lg_sl ([.ref h0, .int a1, .int a2, .int a3, .long a4])).length) Slot.unset).toArray = ls at hl ⊢
  have hl : lv_has ls 6 [(0, .ref h0), (1, .int a1), (2, .int a2), (3, .int a3), (4, .long a4)] := hl
  refine lv_aload_n hx hb dX0_store_0 rfl (lv_at hl 0 rfl) ?_
  refine va_get (D := (dC, dI)) (ci := 0) (v := .ref qt) (C := RX0) (T := TX0) (N := 6) hx hb hts hin_X0 hown hK hP 0 rfl rfl 0 (by decide) (hts (.fieldLink RX0 9 "TemporaryReals" "tops" "[I") (by decide +kernel)) (fun _ h9 => h9) rfl dX0_store_1 ?_
  refine lv_iload_n hx hb dX0_store_4 rfl (lv_at hl 1 rfl) ?_
  refine lv_iload_n hx hb dX0_store_5 rfl (lv_at hl 2 rfl) ?_
  refine w_join (F0 m 15 ls (.int (if a2 = 0 then 0 else 32768) :: [.int a1, .ref qt])) ?_ (fun hJ_1 => ?_)
  · refine lv_iload_n hx hb dX0_store_15 rfl (lv_at hl 3 rfl) ?_
    refine lv_ior hx hb dX0_store_16 ?_
    refine va_iast hx hb hK hP hD hS 1 0 rfl rfl (by first | assumption | exact x_reg (by assumption) | exact x_regA (by assumption) | exact x_regB (by assumption)) dX0_store_17 (fun H locs hP hD hS => ?_)
    have hP : va_P (dC, dI) vwCl [(h0, .inr (0, [.ref qt, .ref qf, .int w, .int lt, .int lk, .int lc])), (qt, .inl (cI, 8, .inl (upd ft a1.toNatClampNeg ((if a2 = 0 then 0 else 32768) ||| a3)))), (qf, .inl (cL, 8, .inr (.inl ff)))] H := hP
    have hD : va_D A [(h0, .inr (0, [.ref qt, .ref qf, .int w, .int lt, .int lk, .int lc])), (qt, .inl (cI, 8, .inl (upd ft a1.toNatClampNeg ((if a2 = 0 then 0 else 32768) ||| a3)))), (qf, .inl (cL, 8, .inr (.inl ff)))] := hD
    refine lv_aload_n hx hb dX0_store_18 rfl (lv_at hl 0 rfl) ?_
    refine va_get (D := (dC, dI)) (ci := 0) (v := .ref qf) (C := RX0) (T := TX0) (N := 6) hx hb hts hin_X0 hown hK hP 0 rfl rfl 1 (by decide) (hts (.fieldLink RX0 13 "TemporaryReals" "fractions" "[J") (by decide +kernel)) (fun _ h9 => h9) rfl dX0_store_19 ?_
    refine lv_iload_n hx hb dX0_store_22 rfl (lv_at hl 1 rfl) ?_
    refine lv_lload hx hb dX0_store_23 (lv_at hl 4 rfl) ?_
    refine va_last hx hb hK hP hD hS 2 1 rfl rfl (by first | assumption | exact x_reg (by assumption) | exact x_regA (by assumption) | exact x_regB (by assumption)) dX0_store_25 (fun H locs hP hD hS => ?_)
    have hP : va_P (dC, dI) vwCl [(h0, .inr (0, [.ref qt, .ref qf, .int w, .int lt, .int lk, .int lc])), (qt, .inl (cI, 8, .inl (upd ft a1.toNatClampNeg ((if a2 = 0 then 0 else 32768) ||| a3)))), (qf, .inl (cL, 8, .inr (.inl (vp_updL ff a1.toNatClampNeg a4))))] H := hP
    have hD : va_D A [(h0, .inr (0, [.ref qt, .ref qf, .int w, .int lt, .int lk, .int lc])), (qt, .inl (cI, 8, .inl (upd ft a1.toNatClampNeg ((if a2 = 0 then 0 else 32768) ||| a3)))), (qf, .inl (cL, 8, .inr (.inl (vp_updL ff a1.toNatClampNeg a4))))] := hD
    exact W.vret hx hb hr (fun t ht hW => ⟨⟨((upd ft a1.toNatClampNeg ((if a2 = 0 then 0 else 32768) ||| a3)), (vp_updL ff a1.toNatClampNeg a4), w, lt, lk, lc), rfl, (show (f_X0_store ft ff w lt lk lc a1 a2 a3 a4) = (((upd ft a1.toNatClampNeg ((if a2 = 0 then 0 else 32768) ||| a3)), (vp_updL ff a1.toNatClampNeg a4), w, lt, lk, lc) : XS) from by unfold f_X0_store; rfl).symm, by rw [ht, x_WU_mk]; exact hP, by rw [x_WU_mk]; exact hD⟩, hS.F ht⟩) hS.2.2 dX0_store_26
  · refine lv_if_eq (tgt := 14) hx hb dX0_store_6 (by decide) (fun c_2 => ?_) (fun c_2 => ?_)
    · refine lv_iconst (v := 0) hx hb dX0_store_14 (by decide) ?_
      exact W.eq (by rw [if_pos c_2] <;> (repeat (first | rw [if_pos c_2]))) hJ_1
    · refine lv_ldc (v := 32768) hx hb hown (hts (.constant RX0 129 32768) (by decide +kernel)) dX0_store_9 ?_
      refine lv_goto (tgt := 15) hx hb dX0_store_11 (by decide) ?_
      exact W.eq (by rw [if_neg c_2] <;> (repeat (first | rw [if_neg c_2]))) hJ_1
def f_X0_copy (ft : Nat → Int32) (ff : Nat → Int64) (w : Int32) (lt : Int32) (lk : Int32) (lc : Int32) (a1 : Int32) (a2 : Int32) : XS :=
  ((upd ft a2.toNatClampNeg (ft a1.toNatClampNeg)), (vp_updL ff a2.toNatClampNeg (ff a1.toNatClampNeg)), w, lt, lk, lc)
set_option maxHeartbeats 1000000 in
set_option maxRecDepth 100000 in
theorem c_X0_copy (l : Launch) (dC : Nat → ClassId) (dI : Nat → Nat → Nat) (cI cL : ClassId) (h0 qt qf : Nat) (sz : Nat) (ft : Nat → Int32) (ff : Nat → Int64) (w : Int32) (lt : Int32) (lk : Int32) (lc : Int32) (a1 : Int32) (a2 : Int32) (hr1 : vp_in a1 8) (hr2 : vp_in a2 8) : Met l yX0_copy wsX0_copy ({ frames := 0, cells := 0, slots := 0, locals := 0 }) (wr_Pc (dC, dI) (x_W cI cL h0 qt qf ft ff w lt lk lc) (x_T cI cL) sz [.ref h0, .int a1, .int a2]) (wr_Qv (dC, dI) (x_WU cI cL h0 qt qf) (f_X0_copy ft ff w lt lk lc a1 a2) (va_A (x_W cI cL h0 qt qf ft ff w lt lk lc) sz)) 0 0 (va_A (x_W cI cL h0 qt qf ft ff w lt lk lc) sz) := by
  refine Met.ofW (cc := cX0_copy) (maxL := 3) (ret := none) (by decide) rfl ?_
  intro p e s m args below meth c s₁ B hml hv
  obtain ⟨rfl, hsz, hP, hK, hD0⟩ := hv
  have hx := B.exec
  have hb := B.bytes
  have hr := B.returns
  have hts := atoms_spec (ws := wsX0_copy) B.pre
  have hown : s.vm.findClass RX0 = some m.cls := findClass_of_methodNamed B.named
  have hlocks := B.notSynchronized
  have hin_X0 : ∀ w ∈ u_ws RX0 TX0 6, w ∈ wsX0_copy := by decide +kernel
  subst hsz
  have hD := hD0.self (sz := s.heap.size)
  generalize hAe : va_A (x_W cI cL h0 qt qf ft ff w lt lk lc) s.heap.size = A at hD ⊢
  have hA : ∀ q : Nat, s.heap.size ≤ q → A q := fun q h => by rw [← hAe]; exact Or.inr h
  have hS : va_S A s.heap s.heap [] := va_S.rf
  have hD : va_D A [(h0, .inr (0, [.ref qt, .ref qf, .int w, .int lt, .int lk, .int lc])), (qt, .inl (cI, 8, .inl ft)), (qf, .inl (cL, 8, .inr (.inl ff)))] := hD
  have hP : va_P (dC, dI) vwCl [(h0, .inr (0, [.ref qt, .ref qf, .int w, .int lt, .int lk, .int lc])), (qt, .inl (cI, 8, .inl ft)), (qf, .inl (cL, 8, .inr (.inl ff)))] s.heap := hP
  have hl := lv_entry ([.ref h0, .int a1, .int a2]) (n := 3) (Nat.le_of_ble_eq_true rfl)
  rw [lg_entry_eq]
  generalize (lg_sl ([.ref h0, .int a1, .int a2]) ++ List.replicate (3 - (lg_sl ([.ref h0, .int a1, .int a2])).length) Slot.unset).toArray = ls at hl ⊢
  have hl : lv_has ls 3 [(0, .ref h0), (1, .int a1), (2, .int a2)] := hl
  refine lv_aload_n hx hb dX0_copy_0 rfl (lv_at hl 0 rfl) ?_
  refine va_get (D := (dC, dI)) (ci := 0) (v := .ref qt) (C := RX0) (T := TX0) (N := 6) hx hb hts hin_X0 hown hK hP 0 rfl rfl 0 (by decide) (hts (.fieldLink RX0 9 "TemporaryReals" "tops" "[I") (by decide +kernel)) (fun _ h9 => h9) rfl dX0_copy_1 ?_
  refine lv_iload_n hx hb dX0_copy_4 rfl (lv_at hl 2 rfl) ?_
  refine lv_aload_n hx hb dX0_copy_5 rfl (lv_at hl 0 rfl) ?_
  refine va_get (D := (dC, dI)) (ci := 0) (v := .ref qt) (C := RX0) (T := TX0) (N := 6) hx hb hts hin_X0 hown hK hP 0 rfl rfl 0 (by decide) (hts (.fieldLink RX0 9 "TemporaryReals" "tops" "[I") (by decide +kernel)) (fun _ h9 => h9) rfl dX0_copy_6 ?_
  refine lv_iload_n hx hb dX0_copy_9 rfl (lv_at hl 1 rfl) ?_
  refine va_iald hx hb hK hP 1 0 rfl rfl (by first | assumption | exact x_reg (by assumption) | exact x_regA (by assumption) | exact x_regB (by assumption)) dX0_copy_10 ?_
  refine va_iast hx hb hK hP hD hS 1 0 rfl rfl (by first | assumption | exact x_reg (by assumption) | exact x_regA (by assumption) | exact x_regB (by assumption)) dX0_copy_11 (fun H locs hP hD hS => ?_)
  have hP : va_P (dC, dI) vwCl [(h0, .inr (0, [.ref qt, .ref qf, .int w, .int lt, .int lk, .int lc])), (qt, .inl (cI, 8, .inl (upd ft a2.toNatClampNeg (ft a1.toNatClampNeg)))), (qf, .inl (cL, 8, .inr (.inl ff)))] H := hP
  have hD : va_D A [(h0, .inr (0, [.ref qt, .ref qf, .int w, .int lt, .int lk, .int lc])), (qt, .inl (cI, 8, .inl (upd ft a2.toNatClampNeg (ft a1.toNatClampNeg)))), (qf, .inl (cL, 8, .inr (.inl ff)))] := hD
  refine lv_aload_n hx hb dX0_copy_12 rfl (lv_at hl 0 rfl) ?_
  refine va_get (D := (dC, dI)) (ci := 0) (v := .ref qf) (C := RX0) (T := TX0) (N := 6) hx hb hts hin_X0 hown hK hP 0 rfl rfl 1 (by decide) (hts (.fieldLink RX0 13 "TemporaryReals" "fractions" "[J") (by decide +kernel)) (fun _ h9 => h9) rfl dX0_copy_13 ?_
  refine lv_iload_n hx hb dX0_copy_16 rfl (lv_at hl 2 rfl) ?_
  refine lv_aload_n hx hb dX0_copy_17 rfl (lv_at hl 0 rfl) ?_
  refine va_get (D := (dC, dI)) (ci := 0) (v := .ref qf) (C := RX0) (T := TX0) (N := 6) hx hb hts hin_X0 hown hK hP 0 rfl rfl 1 (by decide) (hts (.fieldLink RX0 13 "TemporaryReals" "fractions" "[J") (by decide +kernel)) (fun _ h9 => h9) rfl dX0_copy_18 ?_
  refine lv_iload_n hx hb dX0_copy_21 rfl (lv_at hl 1 rfl) ?_
  refine va_lald hx hb hK hP 2 1 rfl rfl (by first | assumption | exact x_reg (by assumption) | exact x_regA (by assumption) | exact x_regB (by assumption)) dX0_copy_22 ?_
  refine va_last hx hb hK hP hD hS 2 1 rfl rfl (by first | assumption | exact x_reg (by assumption) | exact x_regA (by assumption) | exact x_regB (by assumption)) dX0_copy_23 (fun H locs hP hD hS => ?_)
  have hP : va_P (dC, dI) vwCl [(h0, .inr (0, [.ref qt, .ref qf, .int w, .int lt, .int lk, .int lc])), (qt, .inl (cI, 8, .inl (upd ft a2.toNatClampNeg (ft a1.toNatClampNeg)))), (qf, .inl (cL, 8, .inr (.inl (vp_updL ff a2.toNatClampNeg (ff a1.toNatClampNeg)))))] H := hP
  have hD : va_D A [(h0, .inr (0, [.ref qt, .ref qf, .int w, .int lt, .int lk, .int lc])), (qt, .inl (cI, 8, .inl (upd ft a2.toNatClampNeg (ft a1.toNatClampNeg)))), (qf, .inl (cL, 8, .inr (.inl (vp_updL ff a2.toNatClampNeg (ff a1.toNatClampNeg)))))] := hD
  exact W.vret hx hb hr (fun t ht hW => ⟨⟨((upd ft a2.toNatClampNeg (ft a1.toNatClampNeg)), (vp_updL ff a2.toNatClampNeg (ff a1.toNatClampNeg)), w, lt, lk, lc), rfl, (show (f_X0_copy ft ff w lt lk lc a1 a2) = (((upd ft a2.toNatClampNeg (ft a1.toNatClampNeg)), (vp_updL ff a2.toNatClampNeg (ff a1.toNatClampNeg)), w, lt, lk, lc) : XS) from by unfold f_X0_copy; rfl).symm, by rw [ht, x_WU_mk]; exact hP, by rw [x_WU_mk]; exact hD⟩, hS.F ht⟩) hS.2.2 dX0_copy_24
def f_X0_tell (ft : Nat → Int32) (ff : Nat → Int64) (w : Int32) (lt : Int32) (lk : Int32) (lc : Int32) (a1 : Int32) (a2 : Int32) (a3 : Int32) : Int32 × XS :=
  (a1, (ft, ff, w, a1, a2, a3))
set_option maxHeartbeats 1000000 in
set_option maxRecDepth 100000 in
theorem c_X0_tell (l : Launch) (dC : Nat → ClassId) (dI : Nat → Nat → Nat) (cI cL : ClassId) (h0 qt qf : Nat) (sz : Nat) (ft : Nat → Int32) (ff : Nat → Int64) (w : Int32) (lt : Int32) (lk : Int32) (lc : Int32) (a1 : Int32) (a2 : Int32) (a3 : Int32) : Met l yX0_tell wsX0_tell ({ frames := 0, cells := 0, slots := 0, locals := 0 }) (wr_Pc (dC, dI) (x_W cI cL h0 qt qf ft ff w lt lk lc) (x_T cI cL) sz [.ref h0, .int a1, .int a2, .int a3]) (wr_Qi (dC, dI) (x_WU cI cL h0 qt qf) (f_X0_tell ft ff w lt lk lc a1 a2 a3) (va_A (x_W cI cL h0 qt qf ft ff w lt lk lc) sz)) 0 0 (va_A (x_W cI cL h0 qt qf ft ff w lt lk lc) sz) := by
  refine Met.ofW (cc := cX0_tell) (maxL := 4) (ret := (some .int)) (by decide) rfl ?_
  intro p e s m args below meth c s₁ B hml hv
  obtain ⟨rfl, hsz, hP, hK, hD0⟩ := hv
  have hx := B.exec
  have hb := B.bytes
  have hr := B.returns
  have hts := atoms_spec (ws := wsX0_tell) B.pre
  have hown : s.vm.findClass RX0 = some m.cls := findClass_of_methodNamed B.named
  have hlocks := B.notSynchronized
  have hin_X0 : ∀ w ∈ u_ws RX0 TX0 6, w ∈ wsX0_tell := by decide +kernel
  subst hsz
  have hD := hD0.self (sz := s.heap.size)
  generalize hAe : va_A (x_W cI cL h0 qt qf ft ff w lt lk lc) s.heap.size = A at hD ⊢
  have hA : ∀ q : Nat, s.heap.size ≤ q → A q := fun q h => by rw [← hAe]; exact Or.inr h
  have hS : va_S A s.heap s.heap [] := va_S.rf
  have hD : va_D A [(h0, .inr (0, [.ref qt, .ref qf, .int w, .int lt, .int lk, .int lc])), (qt, .inl (cI, 8, .inl ft)), (qf, .inl (cL, 8, .inr (.inl ff)))] := hD
  have hP : va_P (dC, dI) vwCl [(h0, .inr (0, [.ref qt, .ref qf, .int w, .int lt, .int lk, .int lc])), (qt, .inl (cI, 8, .inl ft)), (qf, .inl (cL, 8, .inr (.inl ff)))] s.heap := hP
  have hl := lv_entry ([.ref h0, .int a1, .int a2, .int a3]) (n := 4) (Nat.le_of_ble_eq_true rfl)
  rw [lg_entry_eq]
  generalize (lg_sl ([.ref h0, .int a1, .int a2, .int a3]) ++ List.replicate (4 - (lg_sl ([.ref h0, .int a1, .int a2, .int a3])).length) Slot.unset).toArray = ls at hl ⊢
  have hl : lv_has ls 4 [(0, .ref h0), (1, .int a1), (2, .int a2), (3, .int a3)] := hl
  refine lv_aload_n hx hb dX0_tell_0 rfl (lv_at hl 0 rfl) ?_
  refine lv_iload_n hx hb dX0_tell_1 rfl (lv_at hl 1 rfl) ?_
  refine va_put (D := (dC, dI)) (ci := 0) (v := .int a1) (ty := .int) (C := RX0) (T := TX0) (N := 6) hx hb hts hin_X0 tyX0 tyX0_ok nmX0 hown hK hP hD hS 0 rfl rfl 3 (by decide) (hts (.fieldLink RX0 92 "TemporaryReals" "lastTold" "I") (by decide +kernel)) (fun _ h9 => h9) rfl (by decide +kernel) rfl rfl (Nat.le_of_ble_eq_true rfl) dX0_tell_2 (fun H locs hP hD hS => ?_)
  have hP : va_P (dC, dI) vwCl [(h0, .inr (0, [.ref qt, .ref qf, .int w, .int a1, .int lk, .int lc])), (qt, .inl (cI, 8, .inl ft)), (qf, .inl (cL, 8, .inr (.inl ff)))] H := hP
  have hD : va_D A [(h0, .inr (0, [.ref qt, .ref qf, .int w, .int a1, .int lk, .int lc])), (qt, .inl (cI, 8, .inl ft)), (qf, .inl (cL, 8, .inr (.inl ff)))] := hD
  refine lv_aload_n hx hb dX0_tell_5 rfl (lv_at hl 0 rfl) ?_
  refine lv_iload_n hx hb dX0_tell_6 rfl (lv_at hl 2 rfl) ?_
  refine va_put (D := (dC, dI)) (ci := 0) (v := .int a2) (ty := .int) (C := RX0) (T := TX0) (N := 6) hx hb hts hin_X0 tyX0 tyX0_ok nmX0 hown hK hP hD hS 0 rfl rfl 4 (by decide) (hts (.fieldLink RX0 95 "TemporaryReals" "lastK" "I") (by decide +kernel)) (fun _ h9 => h9) rfl (by decide +kernel) rfl rfl (Nat.le_of_ble_eq_true rfl) dX0_tell_7 (fun H locs hP hD hS => ?_)
  have hP : va_P (dC, dI) vwCl [(h0, .inr (0, [.ref qt, .ref qf, .int w, .int a1, .int a2, .int lc])), (qt, .inl (cI, 8, .inl ft)), (qf, .inl (cL, 8, .inr (.inl ff)))] H := hP
  have hD : va_D A [(h0, .inr (0, [.ref qt, .ref qf, .int w, .int a1, .int a2, .int lc])), (qt, .inl (cI, 8, .inl ft)), (qf, .inl (cL, 8, .inr (.inl ff)))] := hD
  refine lv_aload_n hx hb dX0_tell_10 rfl (lv_at hl 0 rfl) ?_
  refine lv_iload_n hx hb dX0_tell_11 rfl (lv_at hl 3 rfl) ?_
  refine va_put (D := (dC, dI)) (ci := 0) (v := .int a3) (ty := .int) (C := RX0) (T := TX0) (N := 6) hx hb hts hin_X0 tyX0 tyX0_ok nmX0 hown hK hP hD hS 0 rfl rfl 5 (by decide) (hts (.fieldLink RX0 98 "TemporaryReals" "lastChange" "I") (by decide +kernel)) (fun _ h9 => h9) rfl (by decide +kernel) rfl rfl (Nat.le_of_ble_eq_true rfl) dX0_tell_12 (fun H locs hP hD hS => ?_)
  have hP : va_P (dC, dI) vwCl [(h0, .inr (0, [.ref qt, .ref qf, .int w, .int a1, .int a2, .int a3])), (qt, .inl (cI, 8, .inl ft)), (qf, .inl (cL, 8, .inr (.inl ff)))] H := hP
  have hD : va_D A [(h0, .inr (0, [.ref qt, .ref qf, .int w, .int a1, .int a2, .int a3])), (qt, .inl (cI, 8, .inl ft)), (qf, .inl (cL, 8, .inr (.inl ff)))] := hD
  refine lv_iload_n hx hb dX0_tell_15 rfl (lv_at hl 1 rfl) ?_
  exact W.iret (v := a1) hx hb hr (fun t ht hW => ⟨⟨a1, (ft, ff, w, a1, a2, a3), rfl, (show (f_X0_tell ft ff w lt lk lc a1 a2 a3) = ((a1, (ft, ff, w, a1, a2, a3)) : Int32 × XS) from by unfold f_X0_tell; rfl).symm, by rw [ht, x_WU_mk]; exact hP, by rw [x_WU_mk]; exact hD⟩, hS.F ht⟩) hS.2.2 dX0_tell_16
def k_X0_makeSmall_69 (u : XS) (x1 : Int32) (x2 : Int32) (x3 : Int32) (x12 : Int64) (x14 : Int32) (x15 : Int64) : Int32 × XS :=
  (((if (lg_cmp x12 0) = 0 then 0 else 48) : Int32), ((upd u.1 x1.toNatClampNeg ((if x2 = 0 then 0 else 32768) ||| ((if 0 ≤ (lg_cmp x15 0) then 0 else 1) : Int32))), (vp_updL u.2.1 x1.toNatClampNeg x15), u.2.2.1, ((if (lg_cmp x12 0) = 0 then 0 else 48) : Int32), x3, (f_X0_changeOf x12 x14)))
set_option maxHeartbeats 1000000 in
set_option maxRecDepth 100000 in
theorem ct_X0_makeSmall_69 {p : Program} {l : Launch} {e : Env} {R : Room} {s : State} {m : MethodId} {args : Array Value} {below : List Frame} {meth : Method} {c : Code} {dC : Nat → ClassId} {dI : Nat → Nat → Nat} {cI cL : ClassId} {h0 qt qf : Nat} {A : Nat → Prop} {v : Int32 × XS} (hx : p.tables.exec = Jvm.exec) (hb : c.code = cX0_makeSmall) (hr : meth.sig.returnType = (some .int)) (hml : c.maxLocals = 17) (hts : ∀ w ∈ wsX0_makeSmall, w.before args s = true) (hown : s.vm.findClass RX0 = some m.cls) (hlocks : meth.locks = false) (hK : va_K (dC, dI) vwCl (x_T cI cL) s) (hRf : 1 ≤ R.frames) (hRl : 25 ≤ R.locals) (hA : ∀ q : Nat, s.heap.size ≤ q → A q) (u : XS) (x1 : Int32) (x2 : Int32) (x3 : Int32) (x12 : Int64) (x14 : Int32) (x15 : Int64) (hr1 : vp_in x1 8) (hv : v = (k_X0_makeSmall_69 u x1 x2 x3 x12 x14 x15)) {H : Heap} {locs : List Loc} (hP : va_P (dC, dI) vwCl [(h0, .inr (0, [.ref qt, .ref qf, .int u.2.2.1, .int u.2.2.2.1, .int u.2.2.2.2.1, .int u.2.2.2.2.2])), (qt, .inl (cI, 8, .inl u.1)), (qf, .inl (cL, 8, .inr (.inl u.2.1)))] H) (hD : va_D A [(h0, .inr (0, [.ref qt, .ref qf, .int u.2.2.1, .int u.2.2.2.1, .int u.2.2.2.2.1, .int u.2.2.2.2.2])), (qt, .inl (cI, 8, .inl u.1)), (qf, .inl (cL, 8, .inr (.inl u.2.1)))]) (hS : va_S A s.heap H locs) {ls : Array Slot} (hl : lv_has ls 17 [(0, .ref h0), (1, .int x1), (2, .int x2), (3, .int x3), (12, .long x12), (14, .int x14), (15, .long x15)]) : W p l e R s m args below meth c H locs 0 0 (MQ below (wr_Qi (dC, dI) (x_WU cI cL h0 qt qf) v A) args s 0 0 A) (F0 m 69 ls []) := by
  subst hv
  refine lv_aload_n hx hb dX0_makeSmall_69 rfl (lv_at hl 0 rfl) ?_
  refine lv_iload_n hx hb dX0_makeSmall_70 rfl (lv_at hl 1 rfl) ?_
  refine lv_iload_n hx hb dX0_makeSmall_71 rfl (lv_at hl 2 rfl) ?_
  refine lv_lload hx hb dX0_makeSmall_72 (lv_at hl 6 rfl) ?_
  refine lv_lconst (v := 0) hx hb dX0_makeSmall_74 (by decide) ?_
  refine W.lcmp hx hb dX0_makeSmall_75 ?_
  refine w_join (F0 m 84 ls (.int (if 0 ≤ (lg_cmp x15 0) then 0 else 1) :: [.int x2, .int x1, .ref h0])) ?_ (fun hJ_1 => ?_)
  · refine lv_lload hx hb dX0_makeSmall_84 (lv_at hl 6 rfl) ?_
    refine wr_callv (D := (dC, dI)) (v9 := ((upd u.1 x1.toNatClampNeg ((if x2 = 0 then 0 else 32768) ||| ((if 0 ≤ (lg_cmp x15 0) then 0 else 1) : Int32))), (vp_updL u.2.1 x1.toNatClampNeg x15), u.2.2.1, u.2.2.2.1, u.2.2.2.2.1, u.2.2.2.2.2)) (va_runV (As := [.int x1, .int x2, .int (if 0 ≤ (lg_cmp x15 0) then 0 else 1), .long x15]) (rest := []) ⟨hx, hb, hml, hown, hts⟩ (c_X0_store l dC dI cI cL h0 qt qf H.size u.1 u.2.1 u.2.2.1 u.2.2.2.1 u.2.2.2.2.1 u.2.2.2.2.2 x1 x2 (if 0 ≤ (lg_cmp x15 0) then 0 else 1) x15 (by first | assumption | exact x_reg (by assumption) | exact x_regA (by assumption) | exact x_regB (by assumption))) (cwV 4 hts gX0_makeSmall_X0_store rfl rfl rfl (by decide +kernel) ⟨Nat.le_trans (Nat.le_of_ble_eq_true rfl) hRf, Nat.le_trans (Nat.le_of_ble_eq_true rfl) hRl⟩) (wr_preV hK hP hD rfl rfl) rfl rfl hl.1 rfl (lv_room (Nat.le_of_ble_eq_true rfl)) dX0_makeSmall_86 ⟨Nat.zero_le _, Nat.zero_le _⟩) rfl hD hS hA (fun H locs hP hD hS => ?_)
    rw [x_WU_mk] at hP hD
    have hP : va_P (dC, dI) vwCl [(h0, .inr (0, [.ref qt, .ref qf, .int u.2.2.1, .int u.2.2.2.1, .int u.2.2.2.2.1, .int u.2.2.2.2.2])), (qt, .inl (cI, 8, .inl (upd u.1 x1.toNatClampNeg ((if x2 = 0 then 0 else 32768) ||| ((if 0 ≤ (lg_cmp x15 0) then 0 else 1) : Int32))))), (qf, .inl (cL, 8, .inr (.inl (vp_updL u.2.1 x1.toNatClampNeg x15))))] H := hP
    have hD : va_D A [(h0, .inr (0, [.ref qt, .ref qf, .int u.2.2.1, .int u.2.2.2.1, .int u.2.2.2.2.1, .int u.2.2.2.2.2])), (qt, .inl (cI, 8, .inl (upd u.1 x1.toNatClampNeg ((if x2 = 0 then 0 else 32768) ||| ((if 0 ≤ (lg_cmp x15 0) then 0 else 1) : Int32))))), (qf, .inl (cL, 8, .inr (.inl (vp_updL u.2.1 x1.toNatClampNeg x15))))] := hD
    refine W.eq (g2 := F0 m 89 ls ([])) rfl ?_
    refine lv_aload_n hx hb dX0_makeSmall_89 rfl (lv_at hl 0 rfl) ?_
    refine lv_lload hx hb dX0_makeSmall_90 (lv_at hl 4 rfl) ?_
    refine lv_lconst (v := 0) hx hb dX0_makeSmall_92 (by decide) ?_
    refine W.lcmp hx hb dX0_makeSmall_93 ?_
    refine w_join (F0 m 103 ls (.int (if (lg_cmp x12 0) = 0 then 0 else 48) :: [.ref h0])) ?_ (fun hJ_3 => ?_)
    · refine lv_iload_n hx hb dX0_makeSmall_103 rfl (lv_at hl 3 rfl) ?_
      refine lv_lload hx hb dX0_makeSmall_104 (lv_at hl 4 rfl) ?_
      refine lv_iload hx hb dX0_makeSmall_106 (lv_at hl 5 rfl) ?_
      refine W.callV (r := .int (f_X0_changeOf x12 x14)) (W.runS (As := [.long x12, .int x14]) (rest := [.int x3, .int (if (lg_cmp x12 0) = 0 then 0 else 48), .ref h0]) ⟨hx, hb, hml, hown, hts⟩ (c_X0_changeOf l x12 x14 ) (va_cwS 2 hts gX0_makeSmall_X0_changeOf rfl rfl rfl (by decide +kernel) ⟨Nat.le_trans (Nat.le_of_ble_eq_true rfl) hRf, Nat.le_trans (Nat.le_of_ble_eq_true rfl) hRl⟩) pu_pre rfl rfl hl.1 rfl (lv_room (Nat.le_of_ble_eq_true rfl)) dX0_makeSmall_108 ⟨Nat.zero_le _, Nat.zero_le _⟩) ?_
      refine W.eq (g2 := F0 m 111 ls ([.int (f_X0_changeOf x12 x14), .int x3, .int (if (lg_cmp x12 0) = 0 then 0 else 48), .ref h0])) rfl ?_
      refine wr_calli (D := (dC, dI)) (v9 := (((if (lg_cmp x12 0) = 0 then 0 else 48) : Int32), ((upd u.1 x1.toNatClampNeg ((if x2 = 0 then 0 else 32768) ||| ((if 0 ≤ (lg_cmp x15 0) then 0 else 1) : Int32))), (vp_updL u.2.1 x1.toNatClampNeg x15), u.2.2.1, ((if (lg_cmp x12 0) = 0 then 0 else 48) : Int32), x3, (f_X0_changeOf x12 x14)))) (va_runV (As := [.int (if (lg_cmp x12 0) = 0 then 0 else 48), .int x3, .int (f_X0_changeOf x12 x14)]) (rest := []) ⟨hx, hb, hml, hown, hts⟩ (c_X0_tell l dC dI cI cL h0 qt qf H.size (upd u.1 x1.toNatClampNeg ((if x2 = 0 then 0 else 32768) ||| ((if 0 ≤ (lg_cmp x15 0) then 0 else 1) : Int32))) (vp_updL u.2.1 x1.toNatClampNeg x15) u.2.2.1 u.2.2.2.1 u.2.2.2.2.1 u.2.2.2.2.2 (if (lg_cmp x12 0) = 0 then 0 else 48) x3 (f_X0_changeOf x12 x14) ) (cwV 3 hts gX0_makeSmall_X0_tell rfl rfl rfl (by decide +kernel) ⟨Nat.le_trans (Nat.le_of_ble_eq_true rfl) hRf, Nat.le_trans (Nat.le_of_ble_eq_true rfl) hRl⟩) (wr_preV hK hP hD rfl rfl) rfl rfl hl.1 rfl (lv_room (Nat.le_of_ble_eq_true rfl)) dX0_makeSmall_111 ⟨Nat.zero_le _, Nat.zero_le _⟩) rfl hD hS hA (fun H locs hP hD hS => ?_)
      rw [x_WU_mk] at hP hD
      have hP : va_P (dC, dI) vwCl [(h0, .inr (0, [.ref qt, .ref qf, .int u.2.2.1, .int ((if (lg_cmp x12 0) = 0 then 0 else 48) : Int32), .int x3, .int (f_X0_changeOf x12 x14)])), (qt, .inl (cI, 8, .inl (upd u.1 x1.toNatClampNeg ((if x2 = 0 then 0 else 32768) ||| ((if 0 ≤ (lg_cmp x15 0) then 0 else 1) : Int32))))), (qf, .inl (cL, 8, .inr (.inl (vp_updL u.2.1 x1.toNatClampNeg x15))))] H := hP
      have hD : va_D A [(h0, .inr (0, [.ref qt, .ref qf, .int u.2.2.1, .int ((if (lg_cmp x12 0) = 0 then 0 else 48) : Int32), .int x3, .int (f_X0_changeOf x12 x14)])), (qt, .inl (cI, 8, .inl (upd u.1 x1.toNatClampNeg ((if x2 = 0 then 0 else 32768) ||| ((if 0 ≤ (lg_cmp x15 0) then 0 else 1) : Int32))))), (qf, .inl (cL, 8, .inr (.inl (vp_updL u.2.1 x1.toNatClampNeg x15))))] := hD
      refine W.eq (g2 := F0 m 114 ls ([.int ((if (lg_cmp x12 0) = 0 then 0 else 48) : Int32)])) rfl ?_
      exact W.iret (v := ((if (lg_cmp x12 0) = 0 then 0 else 48) : Int32)) hx hb hr (fun t ht hW => ⟨⟨((if (lg_cmp x12 0) = 0 then 0 else 48) : Int32), ((upd u.1 x1.toNatClampNeg ((if x2 = 0 then 0 else 32768) ||| ((if 0 ≤ (lg_cmp x15 0) then 0 else 1) : Int32))), (vp_updL u.2.1 x1.toNatClampNeg x15), u.2.2.1, ((if (lg_cmp x12 0) = 0 then 0 else 48) : Int32), x3, (f_X0_changeOf x12 x14)), rfl, (show (k_X0_makeSmall_69 u x1 x2 x3 x12 x14 x15) = ((((if (lg_cmp x12 0) = 0 then 0 else 48) : Int32), ((upd u.1 x1.toNatClampNeg ((if x2 = 0 then 0 else 32768) ||| ((if 0 ≤ (lg_cmp x15 0) then 0 else 1) : Int32))), (vp_updL u.2.1 x1.toNatClampNeg x15), u.2.2.1, ((if (lg_cmp x12 0) = 0 then 0 else 48) : Int32), x3, (f_X0_changeOf x12 x14))) : Int32 × XS) from by unfold k_X0_makeSmall_69; rfl).symm, by rw [ht, x_WU_mk]; exact hP, by rw [x_WU_mk]; exact hD⟩, hS.F ht⟩) hS.2.2 dX0_makeSmall_114
    · refine lv_if_ne (tgt := 101) hx hb dX0_makeSmall_94 (by decide) (fun c_4 => ?_) (fun c_4 => ?_)
      · refine lv_bipush (v := 48) hx hb dX0_makeSmall_101 (by decide) ?_
        exact W.eq (by rw [if_neg c_4] <;> (repeat (first | rw [if_neg c_4]))) hJ_3
      · refine lv_iconst (v := 0) hx hb dX0_makeSmall_97 (by decide) ?_
        refine lv_goto (tgt := 103) hx hb dX0_makeSmall_98 (by decide) ?_
        exact W.eq (by rw [if_pos c_4] <;> (repeat (first | rw [if_pos c_4]))) hJ_3
  · refine lv_if_ge (tgt := 83) hx hb dX0_makeSmall_76 (by decide) (fun c_2 => ?_) (fun c_2 => ?_)
    · refine lv_iconst (v := 0) hx hb dX0_makeSmall_83 (by decide) ?_
      exact W.eq (by rw [if_pos c_2] <;> (repeat (first | rw [if_pos c_2]))) hJ_1
    · refine lv_iconst (v := 1) hx hb dX0_makeSmall_79 (by decide) ?_
      refine lv_goto (tgt := 84) hx hb dX0_makeSmall_80 (by decide) ?_
      exact W.eq (by rw [if_neg c_2] <;> (repeat (first | rw [if_neg c_2]))) hJ_1
theorem cs_X0_makeSmall_69 {p : Program} {l : Launch} {e : Env} {R : Room} {s : State} {m : MethodId} {args : Array Value} {below : List Frame} {meth : Method} {c : Code} {dC : Nat → ClassId} {dI : Nat → Nat → Nat} {cI cL : ClassId} {h0 qt qf : Nat} {A : Nat → Prop} {v : Int32 × XS} (hx : p.tables.exec = Jvm.exec) (hb : c.code = cX0_makeSmall) (hr : meth.sig.returnType = (some .int)) (hml : c.maxLocals = 17) (hts : ∀ w ∈ wsX0_makeSmall, w.before args s = true) (hown : s.vm.findClass RX0 = some m.cls) (hlocks : meth.locks = false) (hK : va_K (dC, dI) vwCl (x_T cI cL) s) (hRf : 1 ≤ R.frames) (hRl : 25 ≤ R.locals) (hA : ∀ q : Nat, s.heap.size ≤ q → A q) (ft : Nat → Int32) (ff : Nat → Int64) (w : Int32) (lt : Int32) (lk : Int32) (lc : Int32) (x1 : Int32) (x2 : Int32) (x3 : Int32) (x12 : Int64) (x14 : Int32) (x15 : Int64) (hr1 : vp_in x1 8) (hv : v = (k_X0_makeSmall_69 (ft, ff, w, lt, lk, lc) x1 x2 x3 x12 x14 x15)) {H : Heap} {locs : List Loc} (hP : va_P (dC, dI) vwCl [(h0, .inr (0, [.ref qt, .ref qf, .int w, .int lt, .int lk, .int lc])), (qt, .inl (cI, 8, .inl ft)), (qf, .inl (cL, 8, .inr (.inl ff)))] H) (hD : va_D A [(h0, .inr (0, [.ref qt, .ref qf, .int w, .int lt, .int lk, .int lc])), (qt, .inl (cI, 8, .inl ft)), (qf, .inl (cL, 8, .inr (.inl ff)))]) (hS : va_S A s.heap H locs) {ls : Array Slot} (hl : lv_has ls 17 [(0, .ref h0), (1, .int x1), (2, .int x2), (3, .int x3), (12, .long x12), (14, .int x14), (15, .long x15)]) : W p l e R s m args below meth c H locs 0 0 (MQ below (wr_Qi (dC, dI) (x_WU cI cL h0 qt qf) v A) args s 0 0 A) (F0 m 69 ls []) := ct_X0_makeSmall_69 hx hb hr hml hts hown hlocks hK hRf hRl hA (ft, ff, w, lt, lk, lc) x1 x2 x3 x12 x14 x15 hr1 hv hP hD hS hl
def f_X0_makeSmall (ft : Nat → Int32) (ff : Nat → Int64) (w : Int32) (lt : Int32) (lk : Int32) (lc : Int32) (a1 : Int32) (a2 : Int32) (a3 : Int32) (a4 : Int64) (a5 : Int64) : Int32 × XS :=
  k_X0_makeSmall_69 (ft, ff, w, lt, lk, lc) a1 a2 a3 (f_X0_lostPart a4 a5 (((-16382) - a3) + (64 - (f_X0_digits w)))) (f_X0_takesAbove w (f_X0_wholePart a4 (((-16382) - a3) + (64 - (f_X0_digits w)))) (f_X0_lostPart a4 a5 (((-16382) - a3) + (64 - (f_X0_digits w)))) a2) ((if (f_X0_takesAbove w (f_X0_wholePart a4 (((-16382) - a3) + (64 - (f_X0_digits w)))) (f_X0_lostPart a4 a5 (((-16382) - a3) + (64 - (f_X0_digits w)))) a2) = 0 then (f_X0_wholePart a4 (((-16382) - a3) + (64 - (f_X0_digits w)))) else ((f_X0_wholePart a4 (((-16382) - a3) + (64 - (f_X0_digits w)))) + 1)) <<< (Int32.toInt64 (64 - (f_X0_digits w)) &&& 63))
set_option maxHeartbeats 1000000 in
set_option maxRecDepth 100000 in
theorem c_X0_makeSmall (l : Launch) (dC : Nat → ClassId) (dI : Nat → Nat → Nat) (cI cL : ClassId) (h0 qt qf : Nat) (sz : Nat) (ft : Nat → Int32) (ff : Nat → Int64) (w : Int32) (lt : Int32) (lk : Int32) (lc : Int32) (a1 : Int32) (a2 : Int32) (a3 : Int32) (a4 : Int64) (a5 : Int64) (hr1 : vp_in a1 8) : Met l yX0_makeSmall wsX0_makeSmall ({ frames := 3, cells := 0, slots := 0, locals := 67 }) (wr_Pc (dC, dI) (x_W cI cL h0 qt qf ft ff w lt lk lc) (x_T cI cL) sz [.ref h0, .int a1, .int a2, .int a3, .long a4, .long a5]) (wr_Qi (dC, dI) (x_WU cI cL h0 qt qf) (f_X0_makeSmall ft ff w lt lk lc a1 a2 a3 a4 a5) (va_A (x_W cI cL h0 qt qf ft ff w lt lk lc) sz)) 0 0 (va_A (x_W cI cL h0 qt qf ft ff w lt lk lc) sz) := by
  refine Met.ofW (cc := cX0_makeSmall) (maxL := 17) (ret := (some .int)) (by decide) rfl ?_
  intro p e s m args below meth c s₁ B hml hv
  obtain ⟨rfl, hsz, hP, hK, hD0⟩ := hv
  have hx := B.exec
  have hb := B.bytes
  have hr := B.returns
  have hts := atoms_spec (ws := wsX0_makeSmall) B.pre
  have hown : s.vm.findClass RX0 = some m.cls := findClass_of_methodNamed B.named
  have hlocks := B.notSynchronized
  subst hsz
  have hD := hD0.self (sz := s.heap.size)
  generalize hAe : va_A (x_W cI cL h0 qt qf ft ff w lt lk lc) s.heap.size = A at hD ⊢
  have hA : ∀ q : Nat, s.heap.size ≤ q → A q := fun q h => by rw [← hAe]; exact Or.inr h
  have hS : va_S A s.heap s.heap [] := va_S.rf
  have hD : va_D A [(h0, .inr (0, [.ref qt, .ref qf, .int w, .int lt, .int lk, .int lc])), (qt, .inl (cI, 8, .inl ft)), (qf, .inl (cL, 8, .inr (.inl ff)))] := hD
  have hP : va_P (dC, dI) vwCl [(h0, .inr (0, [.ref qt, .ref qf, .int w, .int lt, .int lk, .int lc])), (qt, .inl (cI, 8, .inl ft)), (qf, .inl (cL, 8, .inr (.inl ff)))] s.heap := hP
  have hl := lv_entry ([.ref h0, .int a1, .int a2, .int a3, .long a4, .long a5]) (n := 17) (Nat.le_of_ble_eq_true rfl)
  rw [lg_entry_eq]
  generalize (lg_sl ([.ref h0, .int a1, .int a2, .int a3, .long a4, .long a5]) ++ List.replicate (17 - (lg_sl ([.ref h0, .int a1, .int a2, .int a3, .long a4, .long a5])).length) Slot.unset).toArray = ls at hl ⊢
  have hl : lv_has ls 17 [(0, .ref h0), (1, .int a1), (2, .int a2), (3, .int a3), (4, .long a4), (6, .long a5)] := hl
  refine lv_bipush (v := 64) hx hb dX0_makeSmall_0 (by decide) ?_
  refine lv_aload_n hx hb dX0_makeSmall_2 rfl (lv_at hl 0 rfl) ?_
  refine W.callV (r := .int (f_X0_digits w)) (W.runV (As := []) (rest := [.int 64]) ⟨hx, hb, hml, hown, hts⟩ (c_X0_digits l dC dI cI cL h0 qt qf ft ff w lt lk lc  ) (cwV 0 hts gX0_makeSmall_X0_digits rfl rfl rfl (by decide +kernel) ⟨Nat.le_of_ble_eq_true rfl, Nat.le_of_ble_eq_true rfl⟩) (rd_preV hK hP rfl rfl) rfl rfl hl.1 rfl (lv_room (Nat.le_of_ble_eq_true rfl)) dX0_makeSmall_3 ⟨Nat.zero_le _, Nat.zero_le _⟩) ?_
  refine W.eq (g2 := F0 m 6 ls ([.int (f_X0_digits w), .int 64])) rfl ?_
  refine lv_isub hx hb dX0_makeSmall_6 ?_
  refine lv_istore (lv' := [(8, .int (64 - (f_X0_digits w))), (0, .ref h0), (1, .int a1), (2, .int a2), (3, .int a3), (4, .long a4), (6, .long a5)]) hx hb dX0_makeSmall_7 hl (by decide) rfl (fun ls hl => ?_)
  refine lv_sipush (v := (-16382)) hx hb dX0_makeSmall_9 (by decide) ?_
  refine lv_iload_n hx hb dX0_makeSmall_12 rfl (lv_at hl 4 rfl) ?_
  refine lv_isub hx hb dX0_makeSmall_13 ?_
  refine lv_iload hx hb dX0_makeSmall_14 (lv_at hl 0 rfl) ?_
  refine lv_iadd hx hb dX0_makeSmall_16 ?_
  refine lv_istore (lv' := [(9, .int (((-16382) - a3) + (64 - (f_X0_digits w)))), (8, .int (64 - (f_X0_digits w))), (0, .ref h0), (1, .int a1), (2, .int a2), (3, .int a3), (4, .long a4), (6, .long a5)]) hx hb dX0_makeSmall_17 hl (by decide) rfl (fun ls hl => ?_)
  refine lv_lload hx hb dX0_makeSmall_19 (lv_at hl 6 rfl) ?_
  refine lv_iload hx hb dX0_makeSmall_21 (lv_at hl 0 rfl) ?_
  refine W.callV (r := .long (f_X0_wholePart a4 (((-16382) - a3) + (64 - (f_X0_digits w))))) (W.runS (As := [.long a4, .int (((-16382) - a3) + (64 - (f_X0_digits w)))]) (rest := []) ⟨hx, hb, hml, hown, hts⟩ (c_X0_wholePart l a4 (((-16382) - a3) + (64 - (f_X0_digits w))) ) (va_cwS 2 hts gX0_makeSmall_X0_wholePart rfl rfl rfl (by decide +kernel) ⟨Nat.le_of_ble_eq_true rfl, Nat.le_of_ble_eq_true rfl⟩) pu_pre rfl rfl hl.1 rfl (lv_room (Nat.le_of_ble_eq_true rfl)) dX0_makeSmall_23 ⟨Nat.zero_le _, Nat.zero_le _⟩) ?_
  refine W.eq (g2 := F0 m 26 ls ([.long (f_X0_wholePart a4 (((-16382) - a3) + (64 - (f_X0_digits w))))])) rfl ?_
  refine lv_lstore (lv' := [(10, .long (f_X0_wholePart a4 (((-16382) - a3) + (64 - (f_X0_digits w))))), (9, .int (((-16382) - a3) + (64 - (f_X0_digits w)))), (8, .int (64 - (f_X0_digits w))), (0, .ref h0), (1, .int a1), (2, .int a2), (3, .int a3), (4, .long a4), (6, .long a5)]) hx hb dX0_makeSmall_26 hl (by decide) rfl (fun ls hl => ?_)
  refine lv_lload hx hb dX0_makeSmall_28 (lv_at hl 7 rfl) ?_
  refine lv_lload hx hb dX0_makeSmall_30 (lv_at hl 8 rfl) ?_
  refine lv_iload hx hb dX0_makeSmall_32 (lv_at hl 1 rfl) ?_
  refine W.callV (r := .long (f_X0_lostPart a4 a5 (((-16382) - a3) + (64 - (f_X0_digits w))))) (W.runS (As := [.long a4, .long a5, .int (((-16382) - a3) + (64 - (f_X0_digits w)))]) (rest := []) ⟨hx, hb, hml, hown, hts⟩ (c_X0_lostPart l a4 a5 (((-16382) - a3) + (64 - (f_X0_digits w))) ) (va_cwS 3 hts gX0_makeSmall_X0_lostPart rfl rfl rfl (by decide +kernel) ⟨Nat.le_of_ble_eq_true rfl, Nat.le_of_ble_eq_true rfl⟩) pu_pre rfl rfl hl.1 rfl (lv_room (Nat.le_of_ble_eq_true rfl)) dX0_makeSmall_34 ⟨Nat.zero_le _, Nat.zero_le _⟩) ?_
  refine W.eq (g2 := F0 m 37 ls ([.long (f_X0_lostPart a4 a5 (((-16382) - a3) + (64 - (f_X0_digits w))))])) rfl ?_
  refine lv_lstore (lv' := [(12, .long (f_X0_lostPart a4 a5 (((-16382) - a3) + (64 - (f_X0_digits w))))), (10, .long (f_X0_wholePart a4 (((-16382) - a3) + (64 - (f_X0_digits w))))), (9, .int (((-16382) - a3) + (64 - (f_X0_digits w)))), (8, .int (64 - (f_X0_digits w))), (0, .ref h0), (1, .int a1), (2, .int a2), (3, .int a3), (4, .long a4), (6, .long a5)]) hx hb dX0_makeSmall_37 hl (by decide) rfl (fun ls hl => ?_)
  refine lv_aload_n hx hb dX0_makeSmall_39 rfl (lv_at hl 4 rfl) ?_
  refine lv_lload hx hb dX0_makeSmall_40 (lv_at hl 1 rfl) ?_
  refine lv_lload hx hb dX0_makeSmall_42 (lv_at hl 0 rfl) ?_
  refine lv_iload_n hx hb dX0_makeSmall_44 rfl (lv_at hl 6 rfl) ?_
  refine W.callV (r := .int (f_X0_takesAbove w (f_X0_wholePart a4 (((-16382) - a3) + (64 - (f_X0_digits w)))) (f_X0_lostPart a4 a5 (((-16382) - a3) + (64 - (f_X0_digits w)))) a2)) (W.runV (As := [.long (f_X0_wholePart a4 (((-16382) - a3) + (64 - (f_X0_digits w)))), .long (f_X0_lostPart a4 a5 (((-16382) - a3) + (64 - (f_X0_digits w)))), .int a2]) (rest := []) ⟨hx, hb, hml, hown, hts⟩ (c_X0_takesAbove l dC dI cI cL h0 qt qf ft ff w lt lk lc (f_X0_wholePart a4 (((-16382) - a3) + (64 - (f_X0_digits w)))) (f_X0_lostPart a4 a5 (((-16382) - a3) + (64 - (f_X0_digits w)))) a2 ) (cwV 3 hts gX0_makeSmall_X0_takesAbove rfl rfl rfl (by decide +kernel) ⟨Nat.le_of_ble_eq_true rfl, Nat.le_of_ble_eq_true rfl⟩) (rd_preV hK hP rfl rfl) rfl rfl hl.1 rfl (lv_room (Nat.le_of_ble_eq_true rfl)) dX0_makeSmall_45 ⟨Nat.zero_le _, Nat.zero_le _⟩) ?_
  refine W.eq (g2 := F0 m 48 ls ([.int (f_X0_takesAbove w (f_X0_wholePart a4 (((-16382) - a3) + (64 - (f_X0_digits w)))) (f_X0_lostPart a4 a5 (((-16382) - a3) + (64 - (f_X0_digits w)))) a2)])) rfl ?_
  refine lv_istore (lv' := [(14, .int (f_X0_takesAbove w (f_X0_wholePart a4 (((-16382) - a3) + (64 - (f_X0_digits w)))) (f_X0_lostPart a4 a5 (((-16382) - a3) + (64 - (f_X0_digits w)))) a2)), (12, .long (f_X0_lostPart a4 a5 (((-16382) - a3) + (64 - (f_X0_digits w))))), (10, .long (f_X0_wholePart a4 (((-16382) - a3) + (64 - (f_X0_digits w))))), (9, .int (((-16382) - a3) + (64 - (f_X0_digits w)))), (8, .int (64 - (f_X0_digits w))), (0, .ref h0), (1, .int a1), (2, .int a2), (3, .int a3), (4, .long a4), (6, .long a5)]) hx hb dX0_makeSmall_48 hl (by decide) rfl (fun ls hl => ?_)
  refine lv_iload hx hb dX0_makeSmall_50 (lv_at hl 0 rfl) ?_
  refine w_join (F0 m 64 ls (.long (if (f_X0_takesAbove w (f_X0_wholePart a4 (((-16382) - a3) + (64 - (f_X0_digits w)))) (f_X0_lostPart a4 a5 (((-16382) - a3) + (64 - (f_X0_digits w)))) a2) = 0 then (f_X0_wholePart a4 (((-16382) - a3) + (64 - (f_X0_digits w)))) else ((f_X0_wholePart a4 (((-16382) - a3) + (64 - (f_X0_digits w)))) + 1)) :: [])) ?_ (fun hJ_1 => ?_)
  · refine lv_iload hx hb dX0_makeSmall_64 (lv_at hl 4 rfl) ?_
    refine lv_lshl hx hb dX0_makeSmall_66 rfl ?_
    refine lv_lstore (lv' := [(15, .long ((if (f_X0_takesAbove w (f_X0_wholePart a4 (((-16382) - a3) + (64 - (f_X0_digits w)))) (f_X0_lostPart a4 a5 (((-16382) - a3) + (64 - (f_X0_digits w)))) a2) = 0 then (f_X0_wholePart a4 (((-16382) - a3) + (64 - (f_X0_digits w)))) else ((f_X0_wholePart a4 (((-16382) - a3) + (64 - (f_X0_digits w)))) + 1)) <<< (Int32.toInt64 (64 - (f_X0_digits w)) &&& 63))), (14, .int (f_X0_takesAbove w (f_X0_wholePart a4 (((-16382) - a3) + (64 - (f_X0_digits w)))) (f_X0_lostPart a4 a5 (((-16382) - a3) + (64 - (f_X0_digits w)))) a2)), (12, .long (f_X0_lostPart a4 a5 (((-16382) - a3) + (64 - (f_X0_digits w))))), (10, .long (f_X0_wholePart a4 (((-16382) - a3) + (64 - (f_X0_digits w))))), (9, .int (((-16382) - a3) + (64 - (f_X0_digits w)))), (8, .int (64 - (f_X0_digits w))), (0, .ref h0), (1, .int a1), (2, .int a2), (3, .int a3), (4, .long a4), (6, .long a5)]) hx hb dX0_makeSmall_67 hl (by decide) rfl (fun ls hl => ?_)
    exact cs_X0_makeSmall_69 hx hb hr hml hts hown hlocks hK (Nat.le_of_ble_eq_true rfl) (Nat.le_of_ble_eq_true rfl) hA ft ff w lt lk lc a1 a2 a3 (f_X0_lostPart a4 a5 (((-16382) - a3) + (64 - (f_X0_digits w)))) (f_X0_takesAbove w (f_X0_wholePart a4 (((-16382) - a3) + (64 - (f_X0_digits w)))) (f_X0_lostPart a4 a5 (((-16382) - a3) + (64 - (f_X0_digits w)))) a2) ((if (f_X0_takesAbove w (f_X0_wholePart a4 (((-16382) - a3) + (64 - (f_X0_digits w)))) (f_X0_lostPart a4 a5 (((-16382) - a3) + (64 - (f_X0_digits w)))) a2) = 0 then (f_X0_wholePart a4 (((-16382) - a3) + (64 - (f_X0_digits w)))) else ((f_X0_wholePart a4 (((-16382) - a3) + (64 - (f_X0_digits w)))) + 1)) <<< (Int32.toInt64 (64 - (f_X0_digits w)) &&& 63)) hr1 (show (f_X0_makeSmall ft ff w lt lk lc a1 a2 a3 a4 a5) = k_X0_makeSmall_69 (ft, ff, w, lt, lk, lc) a1 a2 a3 (f_X0_lostPart a4 a5 (((-16382) - a3) + (64 - (f_X0_digits w)))) (f_X0_takesAbove w (f_X0_wholePart a4 (((-16382) - a3) + (64 - (f_X0_digits w)))) (f_X0_lostPart a4 a5 (((-16382) - a3) + (64 - (f_X0_digits w)))) a2) ((if (f_X0_takesAbove w (f_X0_wholePart a4 (((-16382) - a3) + (64 - (f_X0_digits w)))) (f_X0_lostPart a4 a5 (((-16382) - a3) + (64 - (f_X0_digits w)))) a2) = 0 then (f_X0_wholePart a4 (((-16382) - a3) + (64 - (f_X0_digits w)))) else ((f_X0_wholePart a4 (((-16382) - a3) + (64 - (f_X0_digits w)))) + 1)) <<< (Int32.toInt64 (64 - (f_X0_digits w)) &&& 63)) from by unfold f_X0_makeSmall; rfl) hP hD hS (lv_sub hl [6, 7, 8, 9, 2, 1, 0] rfl)
  · refine lv_if_eq (tgt := 62) hx hb dX0_makeSmall_52 (by decide) (fun c_2 => ?_) (fun c_2 => ?_)
    · refine lv_lload hx hb dX0_makeSmall_62 (lv_at hl 2 rfl) ?_
      exact W.eq (by rw [if_pos c_2] <;> (repeat (first | rw [if_pos c_2]))) hJ_1
    · refine lv_lload hx hb dX0_makeSmall_55 (lv_at hl 2 rfl) ?_
      refine lv_lconst (v := 1) hx hb dX0_makeSmall_57 (by decide) ?_
      refine lv_ladd hx hb dX0_makeSmall_58 ?_
      refine lv_goto (tgt := 64) hx hb dX0_makeSmall_59 (by decide) ?_
      exact W.eq (by rw [if_neg c_2] <;> (repeat (first | rw [if_neg c_2]))) hJ_1
def f_X0_makeTooGreat (ft : Nat → Int32) (ff : Nat → Int64) (w : Int32) (lt : Int32) (lk : Int32) (lc : Int32) (a1 : Int32) (a2 : Int32) (a3 : Int32) : Int32 × XS :=
  if (if (f_X0_rounding w) = 0 then true else (if (f_X0_goesAway w a2) = 0 then false else true)) = true then
    (40, ((upd ft a1.toNatClampNeg ((if a2 = 0 then 0 else 32768) ||| 32767)), (vp_updL ff a1.toNatClampNeg (-9223372036854775808)), w, 40, a3, 1))
  else
    (40, ((upd ft a1.toNatClampNeg ((if a2 = 0 then 0 else 32768) ||| 32766)), (vp_updL ff a1.toNatClampNeg (((-1) : Int64) <<< (Int32.toInt64 (64 - (f_X0_digits w)) &&& 63))), w, 40, a3, (-1)))
set_option maxHeartbeats 1000000 in
set_option maxRecDepth 100000 in
theorem c_X0_makeTooGreat (l : Launch) (dC : Nat → ClassId) (dI : Nat → Nat → Nat) (cI cL : ClassId) (h0 qt qf : Nat) (sz : Nat) (ft : Nat → Int32) (ff : Nat → Int64) (w : Int32) (lt : Int32) (lk : Int32) (lc : Int32) (a1 : Int32) (a2 : Int32) (a3 : Int32) (hr1 : vp_in a1 8) : Met l yX0_makeTooGreat wsX0_makeTooGreat ({ frames := 2, cells := 0, slots := 0, locals := 42 }) (wr_Pc (dC, dI) (x_W cI cL h0 qt qf ft ff w lt lk lc) (x_T cI cL) sz [.ref h0, .int a1, .int a2, .int a3]) (wr_Qi (dC, dI) (x_WU cI cL h0 qt qf) (f_X0_makeTooGreat ft ff w lt lk lc a1 a2 a3) (va_A (x_W cI cL h0 qt qf ft ff w lt lk lc) sz)) 0 0 (va_A (x_W cI cL h0 qt qf ft ff w lt lk lc) sz) := by
  refine Met.ofW (cc := cX0_makeTooGreat) (maxL := 4) (ret := (some .int)) (by decide) rfl ?_
  intro p e s m args below meth c s₁ B hml hv
  obtain ⟨rfl, hsz, hP, hK, hD0⟩ := hv
  have hx := B.exec
  have hb := B.bytes
  have hr := B.returns
  have hts := atoms_spec (ws := wsX0_makeTooGreat) B.pre
  have hown : s.vm.findClass RX0 = some m.cls := findClass_of_methodNamed B.named
  have hlocks := B.notSynchronized
  subst hsz
  have hD := hD0.self (sz := s.heap.size)
  generalize hAe : va_A (x_W cI cL h0 qt qf ft ff w lt lk lc) s.heap.size = A at hD ⊢
  have hA : ∀ q : Nat, s.heap.size ≤ q → A q := fun q h => by rw [← hAe]; exact Or.inr h
  have hS : va_S A s.heap s.heap [] := va_S.rf
  have hD : va_D A [(h0, .inr (0, [.ref qt, .ref qf, .int w, .int lt, .int lk, .int lc])), (qt, .inl (cI, 8, .inl ft)), (qf, .inl (cL, 8, .inr (.inl ff)))] := hD
  have hP : va_P (dC, dI) vwCl [(h0, .inr (0, [.ref qt, .ref qf, .int w, .int lt, .int lk, .int lc])), (qt, .inl (cI, 8, .inl ft)), (qf, .inl (cL, 8, .inr (.inl ff)))] s.heap := hP
  have hl := lv_entry ([.ref h0, .int a1, .int a2, .int a3]) (n := 4) (Nat.le_of_ble_eq_true rfl)
  rw [lg_entry_eq]
  generalize (lg_sl ([.ref h0, .int a1, .int a2, .int a3]) ++ List.replicate (4 - (lg_sl ([.ref h0, .int a1, .int a2, .int a3])).length) Slot.unset).toArray = ls at hl ⊢
  have hl : lv_has ls 4 [(0, .ref h0), (1, .int a1), (2, .int a2), (3, .int a3)] := hl
  refine lv_aload_n hx hb dX0_makeTooGreat_0 rfl (lv_at hl 0 rfl) ?_
  refine W.callV (r := .int (f_X0_rounding w)) (W.runV (As := []) (rest := []) ⟨hx, hb, hml, hown, hts⟩ (c_X0_rounding l dC dI cI cL h0 qt qf ft ff w lt lk lc  ) (cwV 0 hts gX0_makeTooGreat_X0_rounding rfl rfl rfl (by decide +kernel) ⟨Nat.le_of_ble_eq_true rfl, Nat.le_of_ble_eq_true rfl⟩) (rd_preV hK hP rfl rfl) rfl rfl hl.1 rfl (lv_room (Nat.le_of_ble_eq_true rfl)) dX0_makeTooGreat_1 ⟨Nat.zero_le _, Nat.zero_le _⟩) ?_
  refine W.eq (g2 := F0 m 4 ls ([.int (f_X0_rounding w)])) rfl ?_
  by_cases cV_1 : (if (f_X0_rounding w) = 0 then true else (if (f_X0_goesAway w a2) = 0 then false else true)) = true
  · refine w_join (F0 m 15 ls ([])) ?_ (fun hJ_2 => ?_)
    · refine lv_aload_n hx hb dX0_makeTooGreat_15 rfl (lv_at hl 0 rfl) ?_
      refine lv_iload_n hx hb dX0_makeTooGreat_16 rfl (lv_at hl 1 rfl) ?_
      refine lv_iload_n hx hb dX0_makeTooGreat_17 rfl (lv_at hl 2 rfl) ?_
      refine lv_sipush (v := 32767) hx hb dX0_makeTooGreat_18 (by decide) ?_
      refine lv_ldc2 (v := (-9223372036854775808)) hx hb hown (hts (.constantLong RX0 62 (-9223372036854775808)) (by decide +kernel)) dX0_makeTooGreat_21 ?_
      refine wr_callv (D := (dC, dI)) (v9 := ((upd ft a1.toNatClampNeg ((if a2 = 0 then 0 else 32768) ||| 32767)), (vp_updL ff a1.toNatClampNeg (-9223372036854775808)), w, lt, lk, lc)) (va_runV (As := [.int a1, .int a2, .int 32767, .long (-9223372036854775808)]) (rest := []) ⟨hx, hb, hml, hown, hts⟩ (c_X0_store l dC dI cI cL h0 qt qf s.heap.size ft ff w lt lk lc a1 a2 32767 (-9223372036854775808) (by first | assumption | exact x_reg (by assumption) | exact x_regA (by assumption) | exact x_regB (by assumption))) (cwV 4 hts gX0_makeTooGreat_X0_store rfl rfl rfl (by decide +kernel) ⟨Nat.le_of_ble_eq_true rfl, Nat.le_of_ble_eq_true rfl⟩) (wr_preV hK hP hD rfl rfl) rfl rfl hl.1 rfl (lv_room (Nat.le_of_ble_eq_true rfl)) dX0_makeTooGreat_24 ⟨Nat.zero_le _, Nat.zero_le _⟩) rfl hD hS hA (fun H locs hP hD hS => ?_)
      rw [x_WU_mk] at hP hD
      have hP : va_P (dC, dI) vwCl [(h0, .inr (0, [.ref qt, .ref qf, .int w, .int lt, .int lk, .int lc])), (qt, .inl (cI, 8, .inl (upd ft a1.toNatClampNeg ((if a2 = 0 then 0 else 32768) ||| 32767)))), (qf, .inl (cL, 8, .inr (.inl (vp_updL ff a1.toNatClampNeg (-9223372036854775808)))))] H := hP
      have hD : va_D A [(h0, .inr (0, [.ref qt, .ref qf, .int w, .int lt, .int lk, .int lc])), (qt, .inl (cI, 8, .inl (upd ft a1.toNatClampNeg ((if a2 = 0 then 0 else 32768) ||| 32767)))), (qf, .inl (cL, 8, .inr (.inl (vp_updL ff a1.toNatClampNeg (-9223372036854775808)))))] := hD
      refine W.eq (g2 := F0 m 27 ls ([])) rfl ?_
      refine lv_aload_n hx hb dX0_makeTooGreat_27 rfl (lv_at hl 0 rfl) ?_
      refine lv_bipush (v := 40) hx hb dX0_makeTooGreat_28 (by decide) ?_
      refine lv_iload_n hx hb dX0_makeTooGreat_30 rfl (lv_at hl 3 rfl) ?_
      refine lv_iconst (v := 1) hx hb dX0_makeTooGreat_31 (by decide) ?_
      refine wr_calli (D := (dC, dI)) (v9 := (40, ((upd ft a1.toNatClampNeg ((if a2 = 0 then 0 else 32768) ||| 32767)), (vp_updL ff a1.toNatClampNeg (-9223372036854775808)), w, 40, a3, 1))) (va_runV (As := [.int 40, .int a3, .int 1]) (rest := []) ⟨hx, hb, hml, hown, hts⟩ (c_X0_tell l dC dI cI cL h0 qt qf H.size (upd ft a1.toNatClampNeg ((if a2 = 0 then 0 else 32768) ||| 32767)) (vp_updL ff a1.toNatClampNeg (-9223372036854775808)) w lt lk lc 40 a3 1 ) (cwV 3 hts gX0_makeTooGreat_X0_tell rfl rfl rfl (by decide +kernel) ⟨Nat.le_of_ble_eq_true rfl, Nat.le_of_ble_eq_true rfl⟩) (wr_preV hK hP hD rfl rfl) rfl rfl hl.1 rfl (lv_room (Nat.le_of_ble_eq_true rfl)) dX0_makeTooGreat_32 ⟨Nat.zero_le _, Nat.zero_le _⟩) rfl hD hS hA (fun H locs hP hD hS => ?_)
      rw [x_WU_mk] at hP hD
      have hP : va_P (dC, dI) vwCl [(h0, .inr (0, [.ref qt, .ref qf, .int w, .int 40, .int a3, .int 1])), (qt, .inl (cI, 8, .inl (upd ft a1.toNatClampNeg ((if a2 = 0 then 0 else 32768) ||| 32767)))), (qf, .inl (cL, 8, .inr (.inl (vp_updL ff a1.toNatClampNeg (-9223372036854775808)))))] H := hP
      have hD : va_D A [(h0, .inr (0, [.ref qt, .ref qf, .int w, .int 40, .int a3, .int 1])), (qt, .inl (cI, 8, .inl (upd ft a1.toNatClampNeg ((if a2 = 0 then 0 else 32768) ||| 32767)))), (qf, .inl (cL, 8, .inr (.inl (vp_updL ff a1.toNatClampNeg (-9223372036854775808)))))] := hD
      refine W.eq (g2 := F0 m 35 ls ([.int 40])) rfl ?_
      exact W.iret (v := 40) hx hb hr (fun t ht hW => ⟨⟨40, ((upd ft a1.toNatClampNeg ((if a2 = 0 then 0 else 32768) ||| 32767)), (vp_updL ff a1.toNatClampNeg (-9223372036854775808)), w, 40, a3, 1), rfl, (show (f_X0_makeTooGreat ft ff w lt lk lc a1 a2 a3) = ((40, ((upd ft a1.toNatClampNeg ((if a2 = 0 then 0 else 32768) ||| 32767)), (vp_updL ff a1.toNatClampNeg (-9223372036854775808)), w, 40, a3, 1)) : Int32 × XS) from by unfold f_X0_makeTooGreat; rw [if_pos cV_1]).symm, by rw [ht, x_WU_mk]; exact hP, by rw [x_WU_mk]; exact hD⟩, hS.F ht⟩) hS.2.2 dX0_makeTooGreat_35
    · refine lv_if_eq (tgt := 15) hx hb dX0_makeTooGreat_4 (by decide) (fun c_3 => ?_) (fun c_3 => ?_)
      · exact hJ_2
      · refine lv_aload_n hx hb dX0_makeTooGreat_7 rfl (lv_at hl 0 rfl) ?_
        refine lv_iload_n hx hb dX0_makeTooGreat_8 rfl (lv_at hl 2 rfl) ?_
        refine W.callV (r := .int (f_X0_goesAway w a2)) (W.runV (As := [.int a2]) (rest := []) ⟨hx, hb, hml, hown, hts⟩ (c_X0_goesAway l dC dI cI cL h0 qt qf ft ff w lt lk lc a2 ) (cwV 1 hts gX0_makeTooGreat_X0_goesAway rfl rfl rfl (by decide +kernel) ⟨Nat.le_of_ble_eq_true rfl, Nat.le_of_ble_eq_true rfl⟩) (rd_preV hK hP rfl rfl) rfl rfl hl.1 rfl (lv_room (Nat.le_of_ble_eq_true rfl)) dX0_makeTooGreat_9 ⟨Nat.zero_le _, Nat.zero_le _⟩) ?_
        refine W.eq (g2 := F0 m 12 ls ([.int (f_X0_goesAway w a2)])) rfl ?_
        refine lv_if_eq (tgt := 36) hx hb dX0_makeTooGreat_12 (by decide) (fun c_4 => ?_) (fun c_4 => ?_)
        · exact absurd cV_1 (by rw [if_neg c_3, if_pos c_4]; exact Bool.false_ne_true)
        · exact hJ_2
  · refine w_join (F0 m 36 ls ([])) ?_ (fun hJ_2 => ?_)
    · refine lv_aload_n hx hb dX0_makeTooGreat_36 rfl (lv_at hl 0 rfl) ?_
      refine lv_iload_n hx hb dX0_makeTooGreat_37 rfl (lv_at hl 1 rfl) ?_
      refine lv_iload_n hx hb dX0_makeTooGreat_38 rfl (lv_at hl 2 rfl) ?_
      refine lv_sipush (v := 32766) hx hb dX0_makeTooGreat_39 (by decide) ?_
      refine lv_ldc2 (v := (-1)) hx hb hown (hts (.constantLong RX0 171 (-1)) (by decide +kernel)) dX0_makeTooGreat_42 ?_
      refine lv_bipush (v := 64) hx hb dX0_makeTooGreat_45 (by decide) ?_
      refine lv_aload_n hx hb dX0_makeTooGreat_47 rfl (lv_at hl 0 rfl) ?_
      refine W.callV (r := .int (f_X0_digits w)) (W.runV (As := []) (rest := [.int 64, .long (-1), .int 32766, .int a2, .int a1, .ref h0]) ⟨hx, hb, hml, hown, hts⟩ (c_X0_digits l dC dI cI cL h0 qt qf ft ff w lt lk lc  ) (cwV 0 hts gX0_makeTooGreat_X0_digits rfl rfl rfl (by decide +kernel) ⟨Nat.le_of_ble_eq_true rfl, Nat.le_of_ble_eq_true rfl⟩) (rd_preV hK hP rfl rfl) rfl rfl hl.1 rfl (lv_room (Nat.le_of_ble_eq_true rfl)) dX0_makeTooGreat_48 ⟨Nat.zero_le _, Nat.zero_le _⟩) ?_
      refine W.eq (g2 := F0 m 51 ls ([.int (f_X0_digits w), .int 64, .long (-1), .int 32766, .int a2, .int a1, .ref h0])) rfl ?_
      refine lv_isub hx hb dX0_makeTooGreat_51 ?_
      refine lv_lshl hx hb dX0_makeTooGreat_52 rfl ?_
      refine wr_callv (D := (dC, dI)) (v9 := ((upd ft a1.toNatClampNeg ((if a2 = 0 then 0 else 32768) ||| 32766)), (vp_updL ff a1.toNatClampNeg (((-1) : Int64) <<< (Int32.toInt64 (64 - (f_X0_digits w)) &&& 63))), w, lt, lk, lc)) (va_runV (As := [.int a1, .int a2, .int 32766, .long (((-1) : Int64) <<< (Int32.toInt64 (64 - (f_X0_digits w)) &&& 63))]) (rest := []) ⟨hx, hb, hml, hown, hts⟩ (c_X0_store l dC dI cI cL h0 qt qf s.heap.size ft ff w lt lk lc a1 a2 32766 (((-1) : Int64) <<< (Int32.toInt64 (64 - (f_X0_digits w)) &&& 63)) (by first | assumption | exact x_reg (by assumption) | exact x_regA (by assumption) | exact x_regB (by assumption))) (cwV 4 hts gX0_makeTooGreat_X0_store rfl rfl rfl (by decide +kernel) ⟨Nat.le_of_ble_eq_true rfl, Nat.le_of_ble_eq_true rfl⟩) (wr_preV hK hP hD rfl rfl) rfl rfl hl.1 rfl (lv_room (Nat.le_of_ble_eq_true rfl)) dX0_makeTooGreat_53 ⟨Nat.zero_le _, Nat.zero_le _⟩) rfl hD hS hA (fun H locs hP hD hS => ?_)
      rw [x_WU_mk] at hP hD
      have hP : va_P (dC, dI) vwCl [(h0, .inr (0, [.ref qt, .ref qf, .int w, .int lt, .int lk, .int lc])), (qt, .inl (cI, 8, .inl (upd ft a1.toNatClampNeg ((if a2 = 0 then 0 else 32768) ||| 32766)))), (qf, .inl (cL, 8, .inr (.inl (vp_updL ff a1.toNatClampNeg (((-1) : Int64) <<< (Int32.toInt64 (64 - (f_X0_digits w)) &&& 63))))))] H := hP
      have hD : va_D A [(h0, .inr (0, [.ref qt, .ref qf, .int w, .int lt, .int lk, .int lc])), (qt, .inl (cI, 8, .inl (upd ft a1.toNatClampNeg ((if a2 = 0 then 0 else 32768) ||| 32766)))), (qf, .inl (cL, 8, .inr (.inl (vp_updL ff a1.toNatClampNeg (((-1) : Int64) <<< (Int32.toInt64 (64 - (f_X0_digits w)) &&& 63))))))] := hD
      refine W.eq (g2 := F0 m 56 ls ([])) rfl ?_
      refine lv_aload_n hx hb dX0_makeTooGreat_56 rfl (lv_at hl 0 rfl) ?_
      refine lv_bipush (v := 40) hx hb dX0_makeTooGreat_57 (by decide) ?_
      refine lv_iload_n hx hb dX0_makeTooGreat_59 rfl (lv_at hl 3 rfl) ?_
      refine lv_iconst (v := (-1)) hx hb dX0_makeTooGreat_60 (by decide) ?_
      refine wr_calli (D := (dC, dI)) (v9 := (40, ((upd ft a1.toNatClampNeg ((if a2 = 0 then 0 else 32768) ||| 32766)), (vp_updL ff a1.toNatClampNeg (((-1) : Int64) <<< (Int32.toInt64 (64 - (f_X0_digits w)) &&& 63))), w, 40, a3, (-1)))) (va_runV (As := [.int 40, .int a3, .int (-1)]) (rest := []) ⟨hx, hb, hml, hown, hts⟩ (c_X0_tell l dC dI cI cL h0 qt qf H.size (upd ft a1.toNatClampNeg ((if a2 = 0 then 0 else 32768) ||| 32766)) (vp_updL ff a1.toNatClampNeg (((-1) : Int64) <<< (Int32.toInt64 (64 - (f_X0_digits w)) &&& 63))) w lt lk lc 40 a3 (-1) ) (cwV 3 hts gX0_makeTooGreat_X0_tell rfl rfl rfl (by decide +kernel) ⟨Nat.le_of_ble_eq_true rfl, Nat.le_of_ble_eq_true rfl⟩) (wr_preV hK hP hD rfl rfl) rfl rfl hl.1 rfl (lv_room (Nat.le_of_ble_eq_true rfl)) dX0_makeTooGreat_61 ⟨Nat.zero_le _, Nat.zero_le _⟩) rfl hD hS hA (fun H locs hP hD hS => ?_)
      rw [x_WU_mk] at hP hD
      have hP : va_P (dC, dI) vwCl [(h0, .inr (0, [.ref qt, .ref qf, .int w, .int 40, .int a3, .int (-1)])), (qt, .inl (cI, 8, .inl (upd ft a1.toNatClampNeg ((if a2 = 0 then 0 else 32768) ||| 32766)))), (qf, .inl (cL, 8, .inr (.inl (vp_updL ff a1.toNatClampNeg (((-1) : Int64) <<< (Int32.toInt64 (64 - (f_X0_digits w)) &&& 63))))))] H := hP
      have hD : va_D A [(h0, .inr (0, [.ref qt, .ref qf, .int w, .int 40, .int a3, .int (-1)])), (qt, .inl (cI, 8, .inl (upd ft a1.toNatClampNeg ((if a2 = 0 then 0 else 32768) ||| 32766)))), (qf, .inl (cL, 8, .inr (.inl (vp_updL ff a1.toNatClampNeg (((-1) : Int64) <<< (Int32.toInt64 (64 - (f_X0_digits w)) &&& 63))))))] := hD
      refine W.eq (g2 := F0 m 64 ls ([.int 40])) rfl ?_
      exact W.iret (v := 40) hx hb hr (fun t ht hW => ⟨⟨40, ((upd ft a1.toNatClampNeg ((if a2 = 0 then 0 else 32768) ||| 32766)), (vp_updL ff a1.toNatClampNeg (((-1) : Int64) <<< (Int32.toInt64 (64 - (f_X0_digits w)) &&& 63))), w, 40, a3, (-1)), rfl, (show (f_X0_makeTooGreat ft ff w lt lk lc a1 a2 a3) = ((40, ((upd ft a1.toNatClampNeg ((if a2 = 0 then 0 else 32768) ||| 32766)), (vp_updL ff a1.toNatClampNeg (((-1) : Int64) <<< (Int32.toInt64 (64 - (f_X0_digits w)) &&& 63))), w, 40, a3, (-1))) : Int32 × XS) from by unfold f_X0_makeTooGreat; rw [if_neg cV_1]).symm, by rw [ht, x_WU_mk]; exact hP, by rw [x_WU_mk]; exact hD⟩, hS.F ht⟩) hS.2.2 dX0_makeTooGreat_64
    · refine lv_if_eq (tgt := 15) hx hb dX0_makeTooGreat_4 (by decide) (fun c_5 => ?_) (fun c_5 => ?_)
      · exact absurd (by rw [if_pos c_5]) cV_1
      · refine lv_aload_n hx hb dX0_makeTooGreat_7 rfl (lv_at hl 0 rfl) ?_
        refine lv_iload_n hx hb dX0_makeTooGreat_8 rfl (lv_at hl 2 rfl) ?_
        refine W.callV (r := .int (f_X0_goesAway w a2)) (W.runV (As := [.int a2]) (rest := []) ⟨hx, hb, hml, hown, hts⟩ (c_X0_goesAway l dC dI cI cL h0 qt qf ft ff w lt lk lc a2 ) (cwV 1 hts gX0_makeTooGreat_X0_goesAway rfl rfl rfl (by decide +kernel) ⟨Nat.le_of_ble_eq_true rfl, Nat.le_of_ble_eq_true rfl⟩) (rd_preV hK hP rfl rfl) rfl rfl hl.1 rfl (lv_room (Nat.le_of_ble_eq_true rfl)) dX0_makeTooGreat_9 ⟨Nat.zero_le _, Nat.zero_le _⟩) ?_
        refine W.eq (g2 := F0 m 12 ls ([.int (f_X0_goesAway w a2)])) rfl ?_
        refine lv_if_eq (tgt := 36) hx hb dX0_makeTooGreat_12 (by decide) (fun c_6 => ?_) (fun c_6 => ?_)
        · exact hJ_2
        · exact absurd (by rw [if_neg c_5, if_neg c_6]) cV_1
def f_X0_storeNextGreater (ft : Nat → Int32) (ff : Nat → Int64) (w : Int32) (lt : Int32) (lk : Int32) (lc : Int32) (a1 : Int32) (a2 : Int32) (a3 : Int32) (a4 : Int64) : XS :=
  if (lg_cmp a4 (-1)) = 0 then
    ((upd ft a1.toNatClampNeg ((if a2 = 0 then 0 else 32768) ||| (a3 + 1))), (vp_updL ff a1.toNatClampNeg (-9223372036854775808)), w, lt, lk, lc)
  else
    ((upd ft a1.toNatClampNeg ((if a2 = 0 then 0 else 32768) ||| ((if 0 ≤ (lg_cmp (a4 + 1) 0) then 0 else (if a3 < 1 then 1 else a3)) : Int32))), (vp_updL ff a1.toNatClampNeg (a4 + 1)), w, lt, lk, lc)
set_option maxHeartbeats 1000000 in
set_option maxRecDepth 100000 in
theorem c_X0_storeNextGreater (l : Launch) (dC : Nat → ClassId) (dI : Nat → Nat → Nat) (cI cL : ClassId) (h0 qt qf : Nat) (sz : Nat) (ft : Nat → Int32) (ff : Nat → Int64) (w : Int32) (lt : Int32) (lk : Int32) (lc : Int32) (a1 : Int32) (a2 : Int32) (a3 : Int32) (a4 : Int64) (hr1 : vp_in a1 8) : Met l yX0_storeNextGreater wsX0_storeNextGreater ({ frames := 1, cells := 0, slots := 0, locals := 25 }) (wr_Pc (dC, dI) (x_W cI cL h0 qt qf ft ff w lt lk lc) (x_T cI cL) sz [.ref h0, .int a1, .int a2, .int a3, .long a4]) (wr_Qv (dC, dI) (x_WU cI cL h0 qt qf) (f_X0_storeNextGreater ft ff w lt lk lc a1 a2 a3 a4) (va_A (x_W cI cL h0 qt qf ft ff w lt lk lc) sz)) 0 0 (va_A (x_W cI cL h0 qt qf ft ff w lt lk lc) sz) := by
  refine Met.ofW (cc := cX0_storeNextGreater) (maxL := 8) (ret := none) (by decide) rfl ?_
  intro p e s m args below meth c s₁ B hml hv
  obtain ⟨rfl, hsz, hP, hK, hD0⟩ := hv
  have hx := B.exec
  have hb := B.bytes
  have hr := B.returns
  have hts := atoms_spec (ws := wsX0_storeNextGreater) B.pre
  have hown : s.vm.findClass RX0 = some m.cls := findClass_of_methodNamed B.named
  have hlocks := B.notSynchronized
  subst hsz
  have hD := hD0.self (sz := s.heap.size)
  generalize hAe : va_A (x_W cI cL h0 qt qf ft ff w lt lk lc) s.heap.size = A at hD ⊢
  have hA : ∀ q : Nat, s.heap.size ≤ q → A q := fun q h => by rw [← hAe]; exact Or.inr h
  have hS : va_S A s.heap s.heap [] := va_S.rf
  have hD : va_D A [(h0, .inr (0, [.ref qt, .ref qf, .int w, .int lt, .int lk, .int lc])), (qt, .inl (cI, 8, .inl ft)), (qf, .inl (cL, 8, .inr (.inl ff)))] := hD
  have hP : va_P (dC, dI) vwCl [(h0, .inr (0, [.ref qt, .ref qf, .int w, .int lt, .int lk, .int lc])), (qt, .inl (cI, 8, .inl ft)), (qf, .inl (cL, 8, .inr (.inl ff)))] s.heap := hP
  have hl := lv_entry ([.ref h0, .int a1, .int a2, .int a3, .long a4]) (n := 8) (Nat.le_of_ble_eq_true rfl)
  rw [lg_entry_eq]
  generalize (lg_sl ([.ref h0, .int a1, .int a2, .int a3, .long a4]) ++ List.replicate (8 - (lg_sl ([.ref h0, .int a1, .int a2, .int a3, .long a4])).length) Slot.unset).toArray = ls at hl ⊢
  have hl : lv_has ls 8 [(0, .ref h0), (1, .int a1), (2, .int a2), (3, .int a3), (4, .long a4)] := hl
  refine lv_lload hx hb dX0_storeNextGreater_0 (lv_at hl 4 rfl) ?_
  refine lv_ldc2 (v := (-1)) hx hb hown (hts (.constantLong RX0 171 (-1)) (by decide +kernel)) dX0_storeNextGreater_2 ?_
  refine W.lcmp hx hb dX0_storeNextGreater_5 ?_
  refine lv_if_ne (tgt := 24) hx hb dX0_storeNextGreater_6 (by decide) (fun c_1 => ?_) (fun c_1 => ?_)
  · refine lv_lload hx hb dX0_storeNextGreater_24 (lv_at hl 4 rfl) ?_
    refine lv_lconst (v := 1) hx hb dX0_storeNextGreater_26 (by decide) ?_
    refine lv_ladd hx hb dX0_storeNextGreater_27 ?_
    refine lv_lstore (lv' := [(6, .long (a4 + 1)), (0, .ref h0), (1, .int a1), (2, .int a2), (3, .int a3), (4, .long a4)]) hx hb dX0_storeNextGreater_28 hl (by decide) rfl (fun ls hl => ?_)
    refine lv_aload_n hx hb dX0_storeNextGreater_30 rfl (lv_at hl 1 rfl) ?_
    refine lv_iload_n hx hb dX0_storeNextGreater_31 rfl (lv_at hl 2 rfl) ?_
    refine lv_iload_n hx hb dX0_storeNextGreater_32 rfl (lv_at hl 3 rfl) ?_
    refine lv_lload hx hb dX0_storeNextGreater_33 (lv_at hl 0 rfl) ?_
    refine lv_lconst (v := 0) hx hb dX0_storeNextGreater_35 (by decide) ?_
    refine W.lcmp hx hb dX0_storeNextGreater_36 ?_
    refine w_join (F0 m 49 ls (.int (if 0 ≤ (lg_cmp (a4 + 1) 0) then 0 else (if a3 < 1 then 1 else a3)) :: [.int a2, .int a1, .ref h0])) ?_ (fun hJ_2 => ?_)
    · refine lv_lload hx hb dX0_storeNextGreater_49 (lv_at hl 0 rfl) ?_
      refine wr_callv (D := (dC, dI)) (v9 := ((upd ft a1.toNatClampNeg ((if a2 = 0 then 0 else 32768) ||| ((if 0 ≤ (lg_cmp (a4 + 1) 0) then 0 else (if a3 < 1 then 1 else a3)) : Int32))), (vp_updL ff a1.toNatClampNeg (a4 + 1)), w, lt, lk, lc)) (va_runV (As := [.int a1, .int a2, .int (if 0 ≤ (lg_cmp (a4 + 1) 0) then 0 else (if a3 < 1 then 1 else a3)), .long (a4 + 1)]) (rest := []) ⟨hx, hb, hml, hown, hts⟩ (c_X0_store l dC dI cI cL h0 qt qf s.heap.size ft ff w lt lk lc a1 a2 (if 0 ≤ (lg_cmp (a4 + 1) 0) then 0 else (if a3 < 1 then 1 else a3)) (a4 + 1) (by first | assumption | exact x_reg (by assumption) | exact x_regA (by assumption) | exact x_regB (by assumption))) (cwV 4 hts gX0_storeNextGreater_X0_store rfl rfl rfl (by decide +kernel) ⟨Nat.le_of_ble_eq_true rfl, Nat.le_of_ble_eq_true rfl⟩) (wr_preV hK hP hD rfl rfl) rfl rfl hl.1 rfl (lv_room (Nat.le_of_ble_eq_true rfl)) dX0_storeNextGreater_51 ⟨Nat.zero_le _, Nat.zero_le _⟩) rfl hD hS hA (fun H locs hP hD hS => ?_)
      rw [x_WU_mk] at hP hD
      have hP : va_P (dC, dI) vwCl [(h0, .inr (0, [.ref qt, .ref qf, .int w, .int lt, .int lk, .int lc])), (qt, .inl (cI, 8, .inl (upd ft a1.toNatClampNeg ((if a2 = 0 then 0 else 32768) ||| ((if 0 ≤ (lg_cmp (a4 + 1) 0) then 0 else (if a3 < 1 then 1 else a3)) : Int32))))), (qf, .inl (cL, 8, .inr (.inl (vp_updL ff a1.toNatClampNeg (a4 + 1)))))] H := hP
      have hD : va_D A [(h0, .inr (0, [.ref qt, .ref qf, .int w, .int lt, .int lk, .int lc])), (qt, .inl (cI, 8, .inl (upd ft a1.toNatClampNeg ((if a2 = 0 then 0 else 32768) ||| ((if 0 ≤ (lg_cmp (a4 + 1) 0) then 0 else (if a3 < 1 then 1 else a3)) : Int32))))), (qf, .inl (cL, 8, .inr (.inl (vp_updL ff a1.toNatClampNeg (a4 + 1)))))] := hD
      refine W.eq (g2 := F0 m 54 ls ([])) rfl ?_
      exact W.vret hx hb hr (fun t ht hW => ⟨⟨((upd ft a1.toNatClampNeg ((if a2 = 0 then 0 else 32768) ||| ((if 0 ≤ (lg_cmp (a4 + 1) 0) then 0 else (if a3 < 1 then 1 else a3)) : Int32))), (vp_updL ff a1.toNatClampNeg (a4 + 1)), w, lt, lk, lc), rfl, (show (f_X0_storeNextGreater ft ff w lt lk lc a1 a2 a3 a4) = (((upd ft a1.toNatClampNeg ((if a2 = 0 then 0 else 32768) ||| ((if 0 ≤ (lg_cmp (a4 + 1) 0) then 0 else (if a3 < 1 then 1 else a3)) : Int32))), (vp_updL ff a1.toNatClampNeg (a4 + 1)), w, lt, lk, lc) : XS) from by unfold f_X0_storeNextGreater; rw [if_neg c_1]).symm, by rw [ht, x_WU_mk]; exact hP, by rw [x_WU_mk]; exact hD⟩, hS.F ht⟩) hS.2.2 dX0_storeNextGreater_54
    · refine lv_if_ge (tgt := 48) hx hb dX0_storeNextGreater_37 (by decide) (fun c_3 => ?_) (fun c_3 => ?_)
      · refine lv_iconst (v := 0) hx hb dX0_storeNextGreater_48 (by decide) ?_
        exact W.eq (by rw [if_pos c_3] <;> (repeat (first | rw [if_pos c_3]))) hJ_2
      · refine lv_iload_n hx hb dX0_storeNextGreater_40 rfl (lv_at hl 4 rfl) ?_
        refine lv_iconst (v := 1) hx hb dX0_storeNextGreater_41 (by decide) ?_
        refine va_mmax hx hb (hml.trans hl.1.symm) hown (hts (.methodLink RX0 83 Lib.Math.max.name) (by decide +kernel)) (hts (.static Lib.Math.max.name) (by decide +kernel)) (hts (.initialized "java/lang/Math") (by decide +kernel)) (hts (.code Lib.Math.max.name Lib.Math.max.code 2 (some .int)) (by decide +kernel)) (Nat.le_of_ble_eq_true rfl) (Nat.le_of_ble_eq_true rfl) (Nat.zero_le _) (Nat.zero_le _) dX0_storeNextGreater_42 ?_
        refine lv_goto (tgt := 49) hx hb dX0_storeNextGreater_45 (by decide) ?_
        exact W.eq (by rw [if_neg c_3] <;> (repeat (first | rw [if_neg c_3]))) hJ_2
  · refine lv_aload_n hx hb dX0_storeNextGreater_9 rfl (lv_at hl 0 rfl) ?_
    refine lv_iload_n hx hb dX0_storeNextGreater_10 rfl (lv_at hl 1 rfl) ?_
    refine lv_iload_n hx hb dX0_storeNextGreater_11 rfl (lv_at hl 2 rfl) ?_
    refine lv_iload_n hx hb dX0_storeNextGreater_12 rfl (lv_at hl 3 rfl) ?_
    refine lv_iconst (v := 1) hx hb dX0_storeNextGreater_13 (by decide) ?_
    refine lv_iadd hx hb dX0_storeNextGreater_14 ?_
    refine lv_ldc2 (v := (-9223372036854775808)) hx hb hown (hts (.constantLong RX0 62 (-9223372036854775808)) (by decide +kernel)) dX0_storeNextGreater_15 ?_
    refine wr_callv (D := (dC, dI)) (v9 := ((upd ft a1.toNatClampNeg ((if a2 = 0 then 0 else 32768) ||| (a3 + 1))), (vp_updL ff a1.toNatClampNeg (-9223372036854775808)), w, lt, lk, lc)) (va_runV (As := [.int a1, .int a2, .int (a3 + 1), .long (-9223372036854775808)]) (rest := []) ⟨hx, hb, hml, hown, hts⟩ (c_X0_store l dC dI cI cL h0 qt qf s.heap.size ft ff w lt lk lc a1 a2 (a3 + 1) (-9223372036854775808) (by first | assumption | exact x_reg (by assumption) | exact x_regA (by assumption) | exact x_regB (by assumption))) (cwV 4 hts gX0_storeNextGreater_X0_store rfl rfl rfl (by decide +kernel) ⟨Nat.le_of_ble_eq_true rfl, Nat.le_of_ble_eq_true rfl⟩) (wr_preV hK hP hD rfl rfl) rfl rfl hl.1 rfl (lv_room (Nat.le_of_ble_eq_true rfl)) dX0_storeNextGreater_18 ⟨Nat.zero_le _, Nat.zero_le _⟩) rfl hD hS hA (fun H locs hP hD hS => ?_)
    rw [x_WU_mk] at hP hD
    have hP : va_P (dC, dI) vwCl [(h0, .inr (0, [.ref qt, .ref qf, .int w, .int lt, .int lk, .int lc])), (qt, .inl (cI, 8, .inl (upd ft a1.toNatClampNeg ((if a2 = 0 then 0 else 32768) ||| (a3 + 1))))), (qf, .inl (cL, 8, .inr (.inl (vp_updL ff a1.toNatClampNeg (-9223372036854775808)))))] H := hP
    have hD : va_D A [(h0, .inr (0, [.ref qt, .ref qf, .int w, .int lt, .int lk, .int lc])), (qt, .inl (cI, 8, .inl (upd ft a1.toNatClampNeg ((if a2 = 0 then 0 else 32768) ||| (a3 + 1))))), (qf, .inl (cL, 8, .inr (.inl (vp_updL ff a1.toNatClampNeg (-9223372036854775808)))))] := hD
    refine W.eq (g2 := F0 m 21 ls ([])) rfl ?_
    refine lv_goto (tgt := 54) hx hb dX0_storeNextGreater_21 (by decide) ?_
    exact W.vret hx hb hr (fun t ht hW => ⟨⟨((upd ft a1.toNatClampNeg ((if a2 = 0 then 0 else 32768) ||| (a3 + 1))), (vp_updL ff a1.toNatClampNeg (-9223372036854775808)), w, lt, lk, lc), rfl, (show (f_X0_storeNextGreater ft ff w lt lk lc a1 a2 a3 a4) = (((upd ft a1.toNatClampNeg ((if a2 = 0 then 0 else 32768) ||| (a3 + 1))), (vp_updL ff a1.toNatClampNeg (-9223372036854775808)), w, lt, lk, lc) : XS) from by unfold f_X0_storeNextGreater; rw [if_pos c_1]).symm, by rw [ht, x_WU_mk]; exact hP, by rw [x_WU_mk]; exact hD⟩, hS.F ht⟩) hS.2.2 dX0_storeNextGreater_54
def f_X0_storeNextLesser (ft : Nat → Int32) (ff : Nat → Int64) (w : Int32) (lt : Int32) (lk : Int32) (lc : Int32) (a1 : Int32) (a2 : Int32) (a3 : Int32) (a4 : Int64) : XS :=
  if (if (lg_cmp a4 (-9223372036854775808)) = 0 then (if a3 ≤ 1 then false else true) else false) = true then
    ((upd ft a1.toNatClampNeg ((if a2 = 0 then 0 else 32768) ||| (a3 - 1))), (vp_updL ff a1.toNatClampNeg (-1)), w, lt, lk, lc)
  else
    ((upd ft a1.toNatClampNeg ((if a2 = 0 then 0 else 32768) ||| ((if 0 ≤ (lg_cmp (a4 - 1) 0) then 0 else a3) : Int32))), (vp_updL ff a1.toNatClampNeg (a4 - 1)), w, lt, lk, lc)
set_option maxHeartbeats 1000000 in
set_option maxRecDepth 100000 in
theorem c_X0_storeNextLesser (l : Launch) (dC : Nat → ClassId) (dI : Nat → Nat → Nat) (cI cL : ClassId) (h0 qt qf : Nat) (sz : Nat) (ft : Nat → Int32) (ff : Nat → Int64) (w : Int32) (lt : Int32) (lk : Int32) (lc : Int32) (a1 : Int32) (a2 : Int32) (a3 : Int32) (a4 : Int64) (hr1 : vp_in a1 8) : Met l yX0_storeNextLesser wsX0_storeNextLesser ({ frames := 1, cells := 0, slots := 0, locals := 25 }) (wr_Pc (dC, dI) (x_W cI cL h0 qt qf ft ff w lt lk lc) (x_T cI cL) sz [.ref h0, .int a1, .int a2, .int a3, .long a4]) (wr_Qv (dC, dI) (x_WU cI cL h0 qt qf) (f_X0_storeNextLesser ft ff w lt lk lc a1 a2 a3 a4) (va_A (x_W cI cL h0 qt qf ft ff w lt lk lc) sz)) 0 0 (va_A (x_W cI cL h0 qt qf ft ff w lt lk lc) sz) := by
  refine Met.ofW (cc := cX0_storeNextLesser) (maxL := 8) (ret := none) (by decide) rfl ?_
  intro p e s m args below meth c s₁ B hml hv
  obtain ⟨rfl, hsz, hP, hK, hD0⟩ := hv
  have hx := B.exec
  have hb := B.bytes
  have hr := B.returns
  have hts := atoms_spec (ws := wsX0_storeNextLesser) B.pre
  have hown : s.vm.findClass RX0 = some m.cls := findClass_of_methodNamed B.named
  have hlocks := B.notSynchronized
  subst hsz
  have hD := hD0.self (sz := s.heap.size)
  generalize hAe : va_A (x_W cI cL h0 qt qf ft ff w lt lk lc) s.heap.size = A at hD ⊢
  have hA : ∀ q : Nat, s.heap.size ≤ q → A q := fun q h => by rw [← hAe]; exact Or.inr h
  have hS : va_S A s.heap s.heap [] := va_S.rf
  have hD : va_D A [(h0, .inr (0, [.ref qt, .ref qf, .int w, .int lt, .int lk, .int lc])), (qt, .inl (cI, 8, .inl ft)), (qf, .inl (cL, 8, .inr (.inl ff)))] := hD
  have hP : va_P (dC, dI) vwCl [(h0, .inr (0, [.ref qt, .ref qf, .int w, .int lt, .int lk, .int lc])), (qt, .inl (cI, 8, .inl ft)), (qf, .inl (cL, 8, .inr (.inl ff)))] s.heap := hP
  have hl := lv_entry ([.ref h0, .int a1, .int a2, .int a3, .long a4]) (n := 8) (Nat.le_of_ble_eq_true rfl)
  rw [lg_entry_eq]
  generalize (lg_sl ([.ref h0, .int a1, .int a2, .int a3, .long a4]) ++ List.replicate (8 - (lg_sl ([.ref h0, .int a1, .int a2, .int a3, .long a4])).length) Slot.unset).toArray = ls at hl ⊢
  have hl : lv_has ls 8 [(0, .ref h0), (1, .int a1), (2, .int a2), (3, .int a3), (4, .long a4)] := hl
  refine lv_lload hx hb dX0_storeNextLesser_0 (lv_at hl 4 rfl) ?_
  refine lv_ldc2 (v := (-9223372036854775808)) hx hb hown (hts (.constantLong RX0 62 (-9223372036854775808)) (by decide +kernel)) dX0_storeNextLesser_2 ?_
  refine W.lcmp hx hb dX0_storeNextLesser_5 ?_
  by_cases cV_1 : (if (lg_cmp a4 (-9223372036854775808)) = 0 then (if a3 ≤ 1 then false else true) else false) = true
  · refine w_join (F0 m 14 ls ([])) ?_ (fun hJ_2 => ?_)
    · refine lv_aload_n hx hb dX0_storeNextLesser_14 rfl (lv_at hl 0 rfl) ?_
      refine lv_iload_n hx hb dX0_storeNextLesser_15 rfl (lv_at hl 1 rfl) ?_
      refine lv_iload_n hx hb dX0_storeNextLesser_16 rfl (lv_at hl 2 rfl) ?_
      refine lv_iload_n hx hb dX0_storeNextLesser_17 rfl (lv_at hl 3 rfl) ?_
      refine lv_iconst (v := 1) hx hb dX0_storeNextLesser_18 (by decide) ?_
      refine lv_isub hx hb dX0_storeNextLesser_19 ?_
      refine lv_ldc2 (v := (-1)) hx hb hown (hts (.constantLong RX0 171 (-1)) (by decide +kernel)) dX0_storeNextLesser_20 ?_
      refine wr_callv (D := (dC, dI)) (v9 := ((upd ft a1.toNatClampNeg ((if a2 = 0 then 0 else 32768) ||| (a3 - 1))), (vp_updL ff a1.toNatClampNeg (-1)), w, lt, lk, lc)) (va_runV (As := [.int a1, .int a2, .int (a3 - 1), .long (-1)]) (rest := []) ⟨hx, hb, hml, hown, hts⟩ (c_X0_store l dC dI cI cL h0 qt qf s.heap.size ft ff w lt lk lc a1 a2 (a3 - 1) (-1) (by first | assumption | exact x_reg (by assumption) | exact x_regA (by assumption) | exact x_regB (by assumption))) (cwV 4 hts gX0_storeNextLesser_X0_store rfl rfl rfl (by decide +kernel) ⟨Nat.le_of_ble_eq_true rfl, Nat.le_of_ble_eq_true rfl⟩) (wr_preV hK hP hD rfl rfl) rfl rfl hl.1 rfl (lv_room (Nat.le_of_ble_eq_true rfl)) dX0_storeNextLesser_23 ⟨Nat.zero_le _, Nat.zero_le _⟩) rfl hD hS hA (fun H locs hP hD hS => ?_)
      rw [x_WU_mk] at hP hD
      have hP : va_P (dC, dI) vwCl [(h0, .inr (0, [.ref qt, .ref qf, .int w, .int lt, .int lk, .int lc])), (qt, .inl (cI, 8, .inl (upd ft a1.toNatClampNeg ((if a2 = 0 then 0 else 32768) ||| (a3 - 1))))), (qf, .inl (cL, 8, .inr (.inl (vp_updL ff a1.toNatClampNeg (-1)))))] H := hP
      have hD : va_D A [(h0, .inr (0, [.ref qt, .ref qf, .int w, .int lt, .int lk, .int lc])), (qt, .inl (cI, 8, .inl (upd ft a1.toNatClampNeg ((if a2 = 0 then 0 else 32768) ||| (a3 - 1))))), (qf, .inl (cL, 8, .inr (.inl (vp_updL ff a1.toNatClampNeg (-1)))))] := hD
      refine W.eq (g2 := F0 m 26 ls ([])) rfl ?_
      refine lv_goto (tgt := 55) hx hb dX0_storeNextLesser_26 (by decide) ?_
      exact W.vret hx hb hr (fun t ht hW => ⟨⟨((upd ft a1.toNatClampNeg ((if a2 = 0 then 0 else 32768) ||| (a3 - 1))), (vp_updL ff a1.toNatClampNeg (-1)), w, lt, lk, lc), rfl, (show (f_X0_storeNextLesser ft ff w lt lk lc a1 a2 a3 a4) = (((upd ft a1.toNatClampNeg ((if a2 = 0 then 0 else 32768) ||| (a3 - 1))), (vp_updL ff a1.toNatClampNeg (-1)), w, lt, lk, lc) : XS) from by unfold f_X0_storeNextLesser; rw [if_pos cV_1]).symm, by rw [ht, x_WU_mk]; exact hP, by rw [x_WU_mk]; exact hD⟩, hS.F ht⟩) hS.2.2 dX0_storeNextLesser_55
    · refine lv_if_ne (tgt := 29) hx hb dX0_storeNextLesser_6 (by decide) (fun c_3 => ?_) (fun c_3 => ?_)
      · exact absurd cV_1 (by rw [if_neg c_3]; exact Bool.false_ne_true)
      · refine lv_iload_n hx hb dX0_storeNextLesser_9 rfl (lv_at hl 3 rfl) ?_
        refine lv_iconst (v := 1) hx hb dX0_storeNextLesser_10 (by decide) ?_
        refine lv_icmp_le (tgt := 29) hx hb dX0_storeNextLesser_11 (by decide) (fun c_4 => ?_) (fun c_4 => ?_)
        · exact absurd cV_1 (by rw [if_pos c_3, if_pos c_4]; exact Bool.false_ne_true)
        · exact hJ_2
  · refine w_join (F0 m 29 ls ([])) ?_ (fun hJ_2 => ?_)
    · refine lv_lload hx hb dX0_storeNextLesser_29 (lv_at hl 4 rfl) ?_
      refine lv_lconst (v := 1) hx hb dX0_storeNextLesser_31 (by decide) ?_
      refine lv_lsub hx hb dX0_storeNextLesser_32 ?_
      refine lv_lstore (lv' := [(6, .long (a4 - 1)), (0, .ref h0), (1, .int a1), (2, .int a2), (3, .int a3), (4, .long a4)]) hx hb dX0_storeNextLesser_33 hl (by decide) rfl (fun ls hl => ?_)
      refine lv_aload_n hx hb dX0_storeNextLesser_35 rfl (lv_at hl 1 rfl) ?_
      refine lv_iload_n hx hb dX0_storeNextLesser_36 rfl (lv_at hl 2 rfl) ?_
      refine lv_iload_n hx hb dX0_storeNextLesser_37 rfl (lv_at hl 3 rfl) ?_
      refine lv_lload hx hb dX0_storeNextLesser_38 (lv_at hl 0 rfl) ?_
      refine lv_lconst (v := 0) hx hb dX0_storeNextLesser_40 (by decide) ?_
      refine W.lcmp hx hb dX0_storeNextLesser_41 ?_
      refine w_join (F0 m 50 ls (.int (if 0 ≤ (lg_cmp (a4 - 1) 0) then 0 else a3) :: [.int a2, .int a1, .ref h0])) ?_ (fun hJ_7 => ?_)
      · refine lv_lload hx hb dX0_storeNextLesser_50 (lv_at hl 0 rfl) ?_
        refine wr_callv (D := (dC, dI)) (v9 := ((upd ft a1.toNatClampNeg ((if a2 = 0 then 0 else 32768) ||| ((if 0 ≤ (lg_cmp (a4 - 1) 0) then 0 else a3) : Int32))), (vp_updL ff a1.toNatClampNeg (a4 - 1)), w, lt, lk, lc)) (va_runV (As := [.int a1, .int a2, .int (if 0 ≤ (lg_cmp (a4 - 1) 0) then 0 else a3), .long (a4 - 1)]) (rest := []) ⟨hx, hb, hml, hown, hts⟩ (c_X0_store l dC dI cI cL h0 qt qf s.heap.size ft ff w lt lk lc a1 a2 (if 0 ≤ (lg_cmp (a4 - 1) 0) then 0 else a3) (a4 - 1) (by first | assumption | exact x_reg (by assumption) | exact x_regA (by assumption) | exact x_regB (by assumption))) (cwV 4 hts gX0_storeNextLesser_X0_store rfl rfl rfl (by decide +kernel) ⟨Nat.le_of_ble_eq_true rfl, Nat.le_of_ble_eq_true rfl⟩) (wr_preV hK hP hD rfl rfl) rfl rfl hl.1 rfl (lv_room (Nat.le_of_ble_eq_true rfl)) dX0_storeNextLesser_52 ⟨Nat.zero_le _, Nat.zero_le _⟩) rfl hD hS hA (fun H locs hP hD hS => ?_)
        rw [x_WU_mk] at hP hD
        have hP : va_P (dC, dI) vwCl [(h0, .inr (0, [.ref qt, .ref qf, .int w, .int lt, .int lk, .int lc])), (qt, .inl (cI, 8, .inl (upd ft a1.toNatClampNeg ((if a2 = 0 then 0 else 32768) ||| ((if 0 ≤ (lg_cmp (a4 - 1) 0) then 0 else a3) : Int32))))), (qf, .inl (cL, 8, .inr (.inl (vp_updL ff a1.toNatClampNeg (a4 - 1)))))] H := hP
        have hD : va_D A [(h0, .inr (0, [.ref qt, .ref qf, .int w, .int lt, .int lk, .int lc])), (qt, .inl (cI, 8, .inl (upd ft a1.toNatClampNeg ((if a2 = 0 then 0 else 32768) ||| ((if 0 ≤ (lg_cmp (a4 - 1) 0) then 0 else a3) : Int32))))), (qf, .inl (cL, 8, .inr (.inl (vp_updL ff a1.toNatClampNeg (a4 - 1)))))] := hD
        refine W.eq (g2 := F0 m 55 ls ([])) rfl ?_
        exact W.vret hx hb hr (fun t ht hW => ⟨⟨((upd ft a1.toNatClampNeg ((if a2 = 0 then 0 else 32768) ||| ((if 0 ≤ (lg_cmp (a4 - 1) 0) then 0 else a3) : Int32))), (vp_updL ff a1.toNatClampNeg (a4 - 1)), w, lt, lk, lc), rfl, (show (f_X0_storeNextLesser ft ff w lt lk lc a1 a2 a3 a4) = (((upd ft a1.toNatClampNeg ((if a2 = 0 then 0 else 32768) ||| ((if 0 ≤ (lg_cmp (a4 - 1) 0) then 0 else a3) : Int32))), (vp_updL ff a1.toNatClampNeg (a4 - 1)), w, lt, lk, lc) : XS) from by unfold f_X0_storeNextLesser; rw [if_neg cV_1]).symm, by rw [ht, x_WU_mk]; exact hP, by rw [x_WU_mk]; exact hD⟩, hS.F ht⟩) hS.2.2 dX0_storeNextLesser_55
      · refine lv_if_ge (tgt := 49) hx hb dX0_storeNextLesser_42 (by decide) (fun c_8 => ?_) (fun c_8 => ?_)
        · refine lv_iconst (v := 0) hx hb dX0_storeNextLesser_49 (by decide) ?_
          exact W.eq (by rw [if_pos c_8] <;> (repeat (first | rw [if_pos c_8]))) hJ_7
        · refine lv_iload_n hx hb dX0_storeNextLesser_45 rfl (lv_at hl 4 rfl) ?_
          refine lv_goto (tgt := 50) hx hb dX0_storeNextLesser_46 (by decide) ?_
          exact W.eq (by rw [if_neg c_8] <;> (repeat (first | rw [if_neg c_8]))) hJ_7
    · refine lv_if_ne (tgt := 29) hx hb dX0_storeNextLesser_6 (by decide) (fun c_5 => ?_) (fun c_5 => ?_)
      · exact hJ_2
      · refine lv_iload_n hx hb dX0_storeNextLesser_9 rfl (lv_at hl 3 rfl) ?_
        refine lv_iconst (v := 1) hx hb dX0_storeNextLesser_10 (by decide) ?_
        refine lv_icmp_le (tgt := 29) hx hb dX0_storeNextLesser_11 (by decide) (fun c_6 => ?_) (fun c_6 => ?_)
        · exact hJ_2
        · exact absurd (by rw [if_pos c_5, if_neg c_6]) cV_1
