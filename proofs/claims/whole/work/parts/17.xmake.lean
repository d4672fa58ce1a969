def k_X0_make_145 (u : XS) (x1 : Int32) (x2 : Int32) (x15 : Int32) (x16 : Int32) (x17 : Int64) (x19 : Int64) : Nat × Int32 × XS :=
  (0, (f_X0_makeSize u.1 u.2.1 u.2.2.1 u.2.2.2.1 u.2.2.2.2.1 u.2.2.2.2.2 x1 x2 (x15 - x16) x17 x19))
set_option maxHeartbeats 1000000 in
set_option maxRecDepth 100000 in
theorem ct_X0_make_145 {p : Program} {l : Launch} {e : Env} {R : Room} {s : State} {m : MethodId} {args : Array Value} {below : List Frame} {meth : Method} {c : Code} {dC : Nat → ClassId} {dI : Nat → Nat → Nat} {cI cL : ClassId} {h0 qt qf : Nat} {A : Nat → Prop} {XC : String → State → State → Prop} {v : Nat × Int32 × XS} (hx : p.tables.exec = Jvm.exec) (hb : c.code = cX0_make) (hr : meth.sig.returnType = (some .int)) (hml : c.maxLocals = 21) (hts : ∀ w ∈ wsX0_make, w.before args s = true) (hown : s.vm.findClass RX0 = some m.cls) (hlocks : meth.locks = false) (hK : va_K (dC, dI) vwCl (x_T cI cL) s) (hRf : 5 ≤ R.frames) (hRl : 131 ≤ R.locals) (hA : ∀ q : Nat, s.heap.size ≤ q → A q) (u : XS) (x1 : Int32) (x2 : Int32) (x15 : Int32) (x16 : Int32) (x17 : Int64) (x19 : Int64) (hr1 : vp_in x1 8) (hv : v = (k_X0_make_145 u x1 x2 x15 x16 x17 x19)) {H : Heap} {locs : List Loc} (hP : va_P (dC, dI) vwCl [(h0, .inr (0, [.ref qt, .ref qf, .int u.2.2.1, .int u.2.2.2.1, .int u.2.2.2.2.1, .int u.2.2.2.2.2])), (qt, .inl (cI, 8, .inl u.1)), (qf, .inl (cL, 8, .inr (.inl u.2.1)))] H) (hD : va_D A [(h0, .inr (0, [.ref qt, .ref qf, .int u.2.2.1, .int u.2.2.2.1, .int u.2.2.2.2.1, .int u.2.2.2.2.2])), (qt, .inl (cI, 8, .inl u.1)), (qf, .inl (cL, 8, .inr (.inl u.2.1)))]) (hS : va_S A s.heap H locs) {ls : Array Slot} (hl : lv_has ls 21 [(0, .ref h0), (1, .int x1), (2, .int x2), (15, .int x15), (16, .int x16), (17, .long x17), (19, .long x19)]) : W p l e R s m args below meth c H locs 0 0 (vx_MQ below (tw_Qi (dC, dI) (x_WU cI cL h0 qt qf) v A) XC args s 1 6 A) (F0 m 145 ls []) := by
  subst hv
  refine lv_aload_n hx hb dX0_make_145 rfl (lv_at hl 0 rfl) ?_
  refine lv_iload_n hx hb dX0_make_146 rfl (lv_at hl 1 rfl) ?_
  refine lv_iload_n hx hb dX0_make_147 rfl (lv_at hl 2 rfl) ?_
  refine lv_iload hx hb dX0_make_148 (lv_at hl 3 rfl) ?_
  refine lv_iload hx hb dX0_make_150 (lv_at hl 4 rfl) ?_
  refine lv_isub hx hb dX0_make_152 ?_
  refine lv_lload hx hb dX0_make_153 (lv_at hl 5 rfl) ?_
  refine lv_lload hx hb dX0_make_155 (lv_at hl 6 rfl) ?_
  refine wr_calli (D := (dC, dI)) (v9 := (f_X0_makeSize u.1 u.2.1 u.2.2.1 u.2.2.2.1 u.2.2.2.2.1 u.2.2.2.2.2 x1 x2 (x15 - x16) x17 x19)) (va_runV (As := [.int x1, .int x2, .int (x15 - x16), .long x17, .long x19]) (rest := []) ⟨hx, hb, hml, hown, hts⟩ (c_X0_makeSize l dC dI cI cL h0 qt qf H.size u.1 u.2.1 u.2.2.1 u.2.2.2.1 u.2.2.2.2.1 u.2.2.2.2.2 x1 x2 (x15 - x16) x17 x19 (by first | assumption | exact x_reg (by assumption) | exact x_regA (by assumption) | exact x_regB (by assumption))) (cwV 5 hts gX0_make_X0_makeSize rfl rfl rfl (by decide +kernel) ⟨Nat.le_trans (Nat.le_of_ble_eq_true rfl) hRf, Nat.le_trans (Nat.le_of_ble_eq_true rfl) hRl⟩) (wr_preV hK hP hD rfl rfl) rfl rfl hl.1 rfl (lv_room (Nat.le_of_ble_eq_true rfl)) dX0_make_157 ⟨Nat.zero_le _, Nat.zero_le _⟩) rfl hD hS hA (fun H locs hP hD hS => ?_)
  have hP : va_P (dC, dI) vwCl [(h0, .inr (0, [.ref qt, .ref qf, .int ((f_X0_makeSize u.1 u.2.1 u.2.2.1 u.2.2.2.1 u.2.2.2.2.1 u.2.2.2.2.2 x1 x2 (x15 - x16) x17 x19).2.2.2.1), .int ((f_X0_makeSize u.1 u.2.1 u.2.2.1 u.2.2.2.1 u.2.2.2.2.1 u.2.2.2.2.2 x1 x2 (x15 - x16) x17 x19).2.2.2.2.1), .int ((f_X0_makeSize u.1 u.2.1 u.2.2.1 u.2.2.2.1 u.2.2.2.2.1 u.2.2.2.2.2 x1 x2 (x15 - x16) x17 x19).2.2.2.2.2.1), .int ((f_X0_makeSize u.1 u.2.1 u.2.2.1 u.2.2.2.1 u.2.2.2.2.1 u.2.2.2.2.2 x1 x2 (x15 - x16) x17 x19).2.2.2.2.2.2)])), (qt, .inl (cI, 8, .inl ((f_X0_makeSize u.1 u.2.1 u.2.2.1 u.2.2.2.1 u.2.2.2.2.1 u.2.2.2.2.2 x1 x2 (x15 - x16) x17 x19).2.1))), (qf, .inl (cL, 8, .inr (.inl ((f_X0_makeSize u.1 u.2.1 u.2.2.1 u.2.2.2.1 u.2.2.2.2.1 u.2.2.2.2.2 x1 x2 (x15 - x16) x17 x19).2.2.1))))] H := hP
  have hD : va_D A [(h0, .inr (0, [.ref qt, .ref qf, .int ((f_X0_makeSize u.1 u.2.1 u.2.2.1 u.2.2.2.1 u.2.2.2.2.1 u.2.2.2.2.2 x1 x2 (x15 - x16) x17 x19).2.2.2.1), .int ((f_X0_makeSize u.1 u.2.1 u.2.2.1 u.2.2.2.1 u.2.2.2.2.1 u.2.2.2.2.2 x1 x2 (x15 - x16) x17 x19).2.2.2.2.1), .int ((f_X0_makeSize u.1 u.2.1 u.2.2.1 u.2.2.2.1 u.2.2.2.2.1 u.2.2.2.2.2 x1 x2 (x15 - x16) x17 x19).2.2.2.2.2.1), .int ((f_X0_makeSize u.1 u.2.1 u.2.2.1 u.2.2.2.1 u.2.2.2.2.1 u.2.2.2.2.2 x1 x2 (x15 - x16) x17 x19).2.2.2.2.2.2)])), (qt, .inl (cI, 8, .inl ((f_X0_makeSize u.1 u.2.1 u.2.2.1 u.2.2.2.1 u.2.2.2.2.1 u.2.2.2.2.2 x1 x2 (x15 - x16) x17 x19).2.1))), (qf, .inl (cL, 8, .inr (.inl ((f_X0_makeSize u.1 u.2.1 u.2.2.1 u.2.2.2.1 u.2.2.2.2.1 u.2.2.2.2.2 x1 x2 (x15 - x16) x17 x19).2.2.1))))] := hD
  refine W.eq (g2 := F0 m 160 ls ([.int ((f_X0_makeSize u.1 u.2.1 u.2.2.1 u.2.2.2.1 u.2.2.2.2.1 u.2.2.2.2.2 x1 x2 (x15 - x16) x17 x19).1)])) rfl ?_
  refine W.widen (k := 1) (n := 6) (Nat.zero_le _) (Nat.zero_le _) ?_
  exact vx_ret (W.iret (v := (f_X0_makeSize u.1 u.2.1 u.2.2.1 u.2.2.2.1 u.2.2.2.2.1 u.2.2.2.2.2 x1 x2 (x15 - x16) x17 x19).1) hx hb hr (fun t ht hW => ⟨⟨((f_X0_makeSize u.1 u.2.1 u.2.2.1 u.2.2.2.1 u.2.2.2.2.1 u.2.2.2.2.2 x1 x2 (x15 - x16) x17 x19).1), (f_X0_makeSize u.1 u.2.1 u.2.2.1 u.2.2.2.1 u.2.2.2.2.1 u.2.2.2.2.2 x1 x2 (x15 - x16) x17 x19).2, rfl, (congrArg (Prod.mk (0 : Nat)) (w_eta (f_X0_makeSize u.1 u.2.1 u.2.2.1 u.2.2.2.1 u.2.2.2.2.1 u.2.2.2.2.2 x1 x2 (x15 - x16) x17 x19))).trans (show (k_X0_make_145 u x1 x2 x15 x16 x17 x19) = ((0, (f_X0_makeSize u.1 u.2.1 u.2.2.1 u.2.2.2.1 u.2.2.2.2.1 u.2.2.2.2.2 x1 x2 (x15 - x16) x17 x19)) : Nat × Int32 × XS) from by unfold k_X0_make_145; rfl).symm, by rw [ht]; exact hP, hD⟩, hS.F ht⟩) hS.2.2 dX0_make_160)
theorem cs_X0_make_145 {p : Program} {l : Launch} {e : Env} {R : Room} {s : State} {m : MethodId} {args : Array Value} {below : List Frame} {meth : Method} {c : Code} {dC : Nat → ClassId} {dI : Nat → Nat → Nat} {cI cL : ClassId} {h0 qt qf : Nat} {A : Nat → Prop} {XC : String → State → State → Prop} {v : Nat × Int32 × XS} (hx : p.tables.exec = Jvm.exec) (hb : c.code = cX0_make) (hr : meth.sig.returnType = (some .int)) (hml : c.maxLocals = 21) (hts : ∀ w ∈ wsX0_make, w.before args s = true) (hown : s.vm.findClass RX0 = some m.cls) (hlocks : meth.locks = false) (hK : va_K (dC, dI) vwCl (x_T cI cL) s) (hRf : 5 ≤ R.frames) (hRl : 131 ≤ R.locals) (hA : ∀ q : Nat, s.heap.size ≤ q → A q) (ft : Nat → Int32) (ff : Nat → Int64) (w : Int32) (lt : Int32) (lk : Int32) (lc : Int32) (x1 : Int32) (x2 : Int32) (x15 : Int32) (x16 : Int32) (x17 : Int64) (x19 : Int64) (hr1 : vp_in x1 8) (hv : v = (k_X0_make_145 (ft, ff, w, lt, lk, lc) x1 x2 x15 x16 x17 x19)) {H : Heap} {locs : List Loc} (hP : va_P (dC, dI) vwCl [(h0, .inr (0, [.ref qt, .ref qf, .int w, .int lt, .int lk, .int lc])), (qt, .inl (cI, 8, .inl ft)), (qf, .inl (cL, 8, .inr (.inl ff)))] H) (hD : va_D A [(h0, .inr (0, [.ref qt, .ref qf, .int w, .int lt, .int lk, .int lc])), (qt, .inl (cI, 8, .inl ft)), (qf, .inl (cL, 8, .inr (.inl ff)))]) (hS : va_S A s.heap H locs) {ls : Array Slot} (hl : lv_has ls 21 [(0, .ref h0), (1, .int x1), (2, .int x2), (15, .int x15), (16, .int x16), (17, .long x17), (19, .long x19)]) : W p l e R s m args below meth c H locs 0 0 (vx_MQ below (tw_Qi (dC, dI) (x_WU cI cL h0 qt qf) v A) XC args s 1 6 A) (F0 m 145 ls []) := ct_X0_make_145 hx hb hr hml hts hown hlocks hK hRf hRl hA (ft, ff, w, lt, lk, lc) x1 x2 x15 x16 x17 x19 hr1 hv hP hD hS hl
def k_X0_make_98 (u : XS) (x1 : Int32) (x2 : Int32) (x9 : Int64) (x11 : Int64) (x13 : Int64) (x15 : Int32) : Nat × Int32 × XS :=
  if (if (f_JL_numberOfLeadingZeros x9) = 0 then (if (lg_cmp x13 0) = 0 then false else true) else false) = true then
    k_X0_make_145 u x1 x2 x15 (f_JL_numberOfLeadingZeros x9) (f_X0_shiftIn x9 x11 (f_JL_numberOfLeadingZeros x9)) ((f_X0_shiftIn x11 x13 (f_JL_numberOfLeadingZeros x9)) ||| 1)
  else
    k_X0_make_145 u x1 x2 x15 (f_JL_numberOfLeadingZeros x9) (f_X0_shiftIn x9 x11 (f_JL_numberOfLeadingZeros x9)) (f_X0_shiftIn x11 x13 (f_JL_numberOfLeadingZeros x9))
set_option maxHeartbeats 1000000 in
set_option maxRecDepth 100000 in
theorem ct_X0_make_98 {p : Program} {l : Launch} {e : Env} {R : Room} {s : State} {m : MethodId} {args : Array Value} {below : List Frame} {meth : Method} {c : Code} {dC : Nat → ClassId} {dI : Nat → Nat → Nat} {cI cL : ClassId} {h0 qt qf : Nat} {A : Nat → Prop} {XC : String → State → State → Prop} {v : Nat × Int32 × XS} (hx : p.tables.exec = Jvm.exec) (hb : c.code = cX0_make) (hr : meth.sig.returnType = (some .int)) (hml : c.maxLocals = 21) (hts : ∀ w ∈ wsX0_make, w.before args s = true) (hown : s.vm.findClass RX0 = some m.cls) (hlocks : meth.locks = false) (hK : va_K (dC, dI) vwCl (x_T cI cL) s) (hRf : 5 ≤ R.frames) (hRl : 131 ≤ R.locals) (hA : ∀ q : Nat, s.heap.size ≤ q → A q) (u : XS) (x1 : Int32) (x2 : Int32) (x9 : Int64) (x11 : Int64) (x13 : Int64) (x15 : Int32) (hr1 : vp_in x1 8) (hv : v = (k_X0_make_98 u x1 x2 x9 x11 x13 x15)) {H : Heap} {locs : List Loc} (hP : va_P (dC, dI) vwCl [(h0, .inr (0, [.ref qt, .ref qf, .int u.2.2.1, .int u.2.2.2.1, .int u.2.2.2.2.1, .int u.2.2.2.2.2])), (qt, .inl (cI, 8, .inl u.1)), (qf, .inl (cL, 8, .inr (.inl u.2.1)))] H) (hD : va_D A [(h0, .inr (0, [.ref qt, .ref qf, .int u.2.2.1, .int u.2.2.2.1, .int u.2.2.2.2.1, .int u.2.2.2.2.2])), (qt, .inl (cI, 8, .inl u.1)), (qf, .inl (cL, 8, .inr (.inl u.2.1)))]) (hS : va_S A s.heap H locs) {ls : Array Slot} (hl : lv_has ls 21 [(0, .ref h0), (1, .int x1), (2, .int x2), (9, .long x9), (11, .long x11), (13, .long x13), (15, .int x15)]) : W p l e R s m args below meth c H locs 0 0 (vx_MQ below (tw_Qi (dC, dI) (x_WU cI cL h0 qt qf) v A) XC args s 1 6 A) (F0 m 98 ls []) := by
  subst hv
  refine lv_lload hx hb dX0_make_98 (lv_at hl 3 rfl) ?_
  refine W.callV (r := .int (f_JL_numberOfLeadingZeros x9)) (W.runS (As := [.long x9]) (rest := []) ⟨hx, hb, hml, hown, hts⟩ (c_JL_numberOfLeadingZeros l x9 ) (va_cwS 1 hts gX0_make_JL_numberOfLeadingZeros rfl rfl rfl (by decide +kernel) ⟨Nat.le_trans (Nat.le_of_ble_eq_true rfl) hRf, Nat.le_trans (Nat.le_of_ble_eq_true rfl) hRl⟩) pu_pre rfl rfl hl.1 rfl (lv_room (Nat.le_of_ble_eq_true rfl)) dX0_make_100 ⟨Nat.zero_le _, Nat.zero_le _⟩) ?_
  refine W.eq (g2 := F0 m 103 ls ([.int (f_JL_numberOfLeadingZeros x9)])) rfl ?_
  refine lv_istore (lv' := [(16, .int (f_JL_numberOfLeadingZeros x9)), (0, .ref h0), (1, .int x1), (2, .int x2), (9, .long x9), (11, .long x11), (13, .long x13), (15, .int x15)]) hx hb dX0_make_103 hl (by decide) rfl (fun ls hl => ?_)
  refine lv_lload hx hb dX0_make_105 (lv_at hl 4 rfl) ?_
  refine lv_lload hx hb dX0_make_107 (lv_at hl 5 rfl) ?_
  refine lv_iload hx hb dX0_make_109 (lv_at hl 0 rfl) ?_
  refine W.callV (r := .long (f_X0_shiftIn x9 x11 (f_JL_numberOfLeadingZeros x9))) (W.runS (As := [.long x9, .long x11, .int (f_JL_numberOfLeadingZeros x9)]) (rest := []) ⟨hx, hb, hml, hown, hts⟩ (c_X0_shiftIn l x9 x11 (f_JL_numberOfLeadingZeros x9) ) (va_cwS 3 hts gX0_make_X0_shiftIn rfl rfl rfl (by decide +kernel) ⟨Nat.le_trans (Nat.le_of_ble_eq_true rfl) hRf, Nat.le_trans (Nat.le_of_ble_eq_true rfl) hRl⟩) pu_pre rfl rfl hl.1 rfl (lv_room (Nat.le_of_ble_eq_true rfl)) dX0_make_111 ⟨Nat.zero_le _, Nat.zero_le _⟩) ?_
  refine W.eq (g2 := F0 m 114 ls ([.long (f_X0_shiftIn x9 x11 (f_JL_numberOfLeadingZeros x9))])) rfl ?_
  refine lv_lstore (lv' := [(17, .long (f_X0_shiftIn x9 x11 (f_JL_numberOfLeadingZeros x9))), (16, .int (f_JL_numberOfLeadingZeros x9)), (0, .ref h0), (1, .int x1), (2, .int x2), (9, .long x9), (11, .long x11), (13, .long x13), (15, .int x15)]) hx hb dX0_make_114 hl (by decide) rfl (fun ls hl => ?_)
  refine lv_lload hx hb dX0_make_116 (lv_at hl 6 rfl) ?_
  refine lv_lload hx hb dX0_make_118 (lv_at hl 7 rfl) ?_
  refine lv_iload hx hb dX0_make_120 (lv_at hl 1 rfl) ?_
  refine W.callV (r := .long (f_X0_shiftIn x11 x13 (f_JL_numberOfLeadingZeros x9))) (W.runS (As := [.long x11, .long x13, .int (f_JL_numberOfLeadingZeros x9)]) (rest := []) ⟨hx, hb, hml, hown, hts⟩ (c_X0_shiftIn l x11 x13 (f_JL_numberOfLeadingZeros x9) ) (va_cwS 3 hts gX0_make_X0_shiftIn rfl rfl rfl (by decide +kernel) ⟨Nat.le_trans (Nat.le_of_ble_eq_true rfl) hRf, Nat.le_trans (Nat.le_of_ble_eq_true rfl) hRl⟩) pu_pre rfl rfl hl.1 rfl (lv_room (Nat.le_of_ble_eq_true rfl)) dX0_make_122 ⟨Nat.zero_le _, Nat.zero_le _⟩) ?_
  refine W.eq (g2 := F0 m 125 ls ([.long (f_X0_shiftIn x11 x13 (f_JL_numberOfLeadingZeros x9))])) rfl ?_
  refine lv_lstore (lv' := [(19, .long (f_X0_shiftIn x11 x13 (f_JL_numberOfLeadingZeros x9))), (17, .long (f_X0_shiftIn x9 x11 (f_JL_numberOfLeadingZeros x9))), (16, .int (f_JL_numberOfLeadingZeros x9)), (0, .ref h0), (1, .int x1), (2, .int x2), (9, .long x9), (11, .long x11), (13, .long x13), (15, .int x15)]) hx hb dX0_make_125 hl (by decide) rfl (fun ls hl => ?_)
  refine lv_iload hx hb dX0_make_127 (lv_at hl 2 rfl) ?_
  by_cases cV_1 : (if (f_JL_numberOfLeadingZeros x9) = 0 then (if (lg_cmp x13 0) = 0 then false else true) else false) = true
  · refine w_join (F0 m 139 ls ([])) ?_ (fun hJ_2 => ?_)
    · refine lv_lload hx hb dX0_make_139 (lv_at hl 0 rfl) ?_
      refine lv_lconst (v := 1) hx hb dX0_make_141 (by decide) ?_
      refine lv_lor hx hb dX0_make_142 ?_
      refine lv_lstore (lv' := [(19, .long ((f_X0_shiftIn x11 x13 (f_JL_numberOfLeadingZeros x9)) ||| 1)), (17, .long (f_X0_shiftIn x9 x11 (f_JL_numberOfLeadingZeros x9))), (16, .int (f_JL_numberOfLeadingZeros x9)), (0, .ref h0), (1, .int x1), (2, .int x2), (9, .long x9), (11, .long x11), (13, .long x13), (15, .int x15)]) hx hb dX0_make_143 hl (by decide) rfl (fun ls hl => ?_)
      exact ct_X0_make_145 hx hb hr hml hts hown hlocks hK (Nat.le_trans (Nat.le_of_ble_eq_true rfl) hRf) (Nat.le_trans (Nat.le_of_ble_eq_true rfl) hRl) hA u x1 x2 x15 (f_JL_numberOfLeadingZeros x9) (f_X0_shiftIn x9 x11 (f_JL_numberOfLeadingZeros x9)) ((f_X0_shiftIn x11 x13 (f_JL_numberOfLeadingZeros x9)) ||| 1) hr1 (show (k_X0_make_98 u x1 x2 x9 x11 x13 x15) = k_X0_make_145 u x1 x2 x15 (f_JL_numberOfLeadingZeros x9) (f_X0_shiftIn x9 x11 (f_JL_numberOfLeadingZeros x9)) ((f_X0_shiftIn x11 x13 (f_JL_numberOfLeadingZeros x9)) ||| 1) from by unfold k_X0_make_98; rw [if_pos cV_1]) hP hD hS (lv_sub hl [3, 4, 5, 9, 2, 1, 0] rfl)
    · refine lv_if_ne (tgt := 145) hx hb dX0_make_129 (by decide) (fun c_3 => ?_) (fun c_3 => ?_)
      · exact absurd cV_1 (by rw [if_neg c_3]; exact Bool.false_ne_true)
      · refine lv_lload hx hb dX0_make_132 (lv_at hl 8 rfl) ?_
        refine lv_lconst (v := 0) hx hb dX0_make_134 (by decide) ?_
        refine W.lcmp hx hb dX0_make_135 ?_
        refine lv_if_eq (tgt := 145) hx hb dX0_make_136 (by decide) (fun c_4 => ?_) (fun c_4 => ?_)
        · exact absurd cV_1 (by rw [if_pos c_3, if_pos c_4]; exact Bool.false_ne_true)
        · exact hJ_2
  · refine w_join (F0 m 145 ls ([])) ?_ (fun hJ_2 => ?_)
    · exact ct_X0_make_145 hx hb hr hml hts hown hlocks hK (Nat.le_trans (Nat.le_of_ble_eq_true rfl) hRf) (Nat.le_trans (Nat.le_of_ble_eq_true rfl) hRl) hA u x1 x2 x15 (f_JL_numberOfLeadingZeros x9) (f_X0_shiftIn x9 x11 (f_JL_numberOfLeadingZeros x9)) (f_X0_shiftIn x11 x13 (f_JL_numberOfLeadingZeros x9)) hr1 (show (k_X0_make_98 u x1 x2 x9 x11 x13 x15) = k_X0_make_145 u x1 x2 x15 (f_JL_numberOfLeadingZeros x9) (f_X0_shiftIn x9 x11 (f_JL_numberOfLeadingZeros x9)) (f_X0_shiftIn x11 x13 (f_JL_numberOfLeadingZeros x9)) from by unfold k_X0_make_98; rw [if_neg cV_1]) hP hD hS (lv_sub hl [3, 4, 5, 9, 2, 1, 0] rfl)
    · refine lv_if_ne (tgt := 145) hx hb dX0_make_129 (by decide) (fun c_5 => ?_) (fun c_5 => ?_)
      · exact hJ_2
      · refine lv_lload hx hb dX0_make_132 (lv_at hl 8 rfl) ?_
        refine lv_lconst (v := 0) hx hb dX0_make_134 (by decide) ?_
        refine W.lcmp hx hb dX0_make_135 ?_
        refine lv_if_eq (tgt := 145) hx hb dX0_make_136 (by decide) (fun c_6 => ?_) (fun c_6 => ?_)
        · exact hJ_2
        · exact absurd (by rw [if_pos c_5, if_neg c_6]) cV_1
theorem cs_X0_make_98 {p : Program} {l : Launch} {e : Env} {R : Room} {s : State} {m : MethodId} {args : Array Value} {below : List Frame} {meth : Method} {c : Code} {dC : Nat → ClassId} {dI : Nat → Nat → Nat} {cI cL : ClassId} {h0 qt qf : Nat} {A : Nat → Prop} {XC : String → State → State → Prop} {v : Nat × Int32 × XS} (hx : p.tables.exec = Jvm.exec) (hb : c.code = cX0_make) (hr : meth.sig.returnType = (some .int)) (hml : c.maxLocals = 21) (hts : ∀ w ∈ wsX0_make, w.before args s = true) (hown : s.vm.findClass RX0 = some m.cls) (hlocks : meth.locks = false) (hK : va_K (dC, dI) vwCl (x_T cI cL) s) (hRf : 5 ≤ R.frames) (hRl : 131 ≤ R.locals) (hA : ∀ q : Nat, s.heap.size ≤ q → A q) (ft : Nat → Int32) (ff : Nat → Int64) (w : Int32) (lt : Int32) (lk : Int32) (lc : Int32) (x1 : Int32) (x2 : Int32) (x9 : Int64) (x11 : Int64) (x13 : Int64) (x15 : Int32) (hr1 : vp_in x1 8) (hv : v = (k_X0_make_98 (ft, ff, w, lt, lk, lc) x1 x2 x9 x11 x13 x15)) {H : Heap} {locs : List Loc} (hP : va_P (dC, dI) vwCl [(h0, .inr (0, [.ref qt, .ref qf, .int w, .int lt, .int lk, .int lc])), (qt, .inl (cI, 8, .inl ft)), (qf, .inl (cL, 8, .inr (.inl ff)))] H) (hD : va_D A [(h0, .inr (0, [.ref qt, .ref qf, .int w, .int lt, .int lk, .int lc])), (qt, .inl (cI, 8, .inl ft)), (qf, .inl (cL, 8, .inr (.inl ff)))]) (hS : va_S A s.heap H locs) {ls : Array Slot} (hl : lv_has ls 21 [(0, .ref h0), (1, .int x1), (2, .int x2), (9, .long x9), (11, .long x11), (13, .long x13), (15, .int x15)]) : W p l e R s m args below meth c H locs 0 0 (vx_MQ below (tw_Qi (dC, dI) (x_WU cI cL h0 qt qf) v A) XC args s 1 6 A) (F0 m 98 ls []) := ct_X0_make_98 hx hb hr hml hts hown hlocks hK hRf hRl hA (ft, ff, w, lt, lk, lc) x1 x2 x9 x11 x13 x15 hr1 hv hP hD hS hl
def f_X0_make (ft : Nat → Int32) (ff : Nat → Int64) (w : Int32) (lt : Int32) (lk : Int32) (lc : Int32) (a1 : Int32) (a2 : Int32) (a3 : Int32) (a4 : Int32) (a5 : Int32) (a6 : Int32) (a7 : Int32) (a8 : Int32) : Nat × Int32 × XS :=
  if (f_X0_isNoRegister a1) = 0 then
    if (if a3 < (-33000) then true else (if a3 ≤ 33000 then false else true)) = true then
      (2, 0, ft, ff, w, lt, lk, lc)
    else
      if (lg_cmp (f_X0_join a4 a5) 0) = 0 then
        k_X0_make_98 (ft, ff, w, lt, lk, lc) a1 a2 (f_X0_join a6 a7) (if a8 = 0 then 0 else (-9223372036854775808)) 0 ((a3 + 127) + (-64))
      else
        k_X0_make_98 (ft, ff, w, lt, lk, lc) a1 a2 (f_X0_join a4 a5) (f_X0_join a6 a7) (if a8 = 0 then 0 else (-9223372036854775808)) (a3 + 127)
  else
    (1, 0, ft, ff, w, lt, lk, lc)
set_option maxHeartbeats 1000000 in
set_option maxRecDepth 100000 in
theorem c_X0_make (l : Launch) (hfl : l.stackTraces = false) (dC : Nat → ClassId) (dI : Nat → Nat → Nat) (cI cL : ClassId) (h0 qt qf : Nat) (sz : Nat) (ft : Nat → Int32) (ff : Nat → Int64) (w : Int32) (lt : Int32) (lk : Int32) (lc : Int32) (a1 : Int32) (a2 : Int32) (a3 : Int32) (a4 : Int32) (a5 : Int32) (a6 : Int32) (a7 : Int32) (a8 : Int32) : vx_Met l yX0_make wsX0_make ({ frames := 6, cells := 1, slots := 6, locals := 131 }) (tw_Pc (dC, dI) (x_W cI cL h0 qt qf ft ff w lt lk lc) (x_T cI cL) sz [.ref h0, .int a1, .int a2, .int a3, .int a4, .int a5, .int a6, .int a7, .int a8]) (tw_Qi (dC, dI) (x_WU cI cL h0 qt qf) (f_X0_make ft ff w lt lk lc a1 a2 a3 a4 a5 a6 a7 a8) (va_A (x_W cI cL h0 qt qf ft ff w lt lk lc) sz)) (tw_X (dC, dI) (x_W cI cL h0 qt qf ft ff w lt lk lc) (f_X0_make ft ff w lt lk lc a1 a2 a3 a4 a5 a6 a7 a8).1 (va_A (x_W cI cL h0 qt qf ft ff w lt lk lc) sz)) 1 6 (va_A (x_W cI cL h0 qt qf ft ff w lt lk lc) sz) := by
  refine vx_ofW (cc := cX0_make) (maxL := 21) (ret := (some .int)) (by decide) rfl ?_
  intro p e s m args below meth c s₁ B hml hEx hv
  obtain ⟨rfl, hsz, hP, hK, hD0, hE⟩ := hv
  have hx := B.exec
  have hb := B.bytes
  have hr := B.returns
  have hts := atoms_spec (ws := wsX0_make) B.pre
  have hown : s.vm.findClass RX0 = some m.cls := findClass_of_methodNamed B.named
  have hlocks := B.notSynchronized
  subst hsz
  have hD := hD0.self (sz := s.heap.size)
  generalize hAe : va_A (x_W cI cL h0 qt qf ft ff w lt lk lc) s.heap.size = A at hD hE ⊢
  have hA : ∀ q : Nat, s.heap.size ≤ q → A q := fun q h => by rw [← hAe]; exact Or.inr h
  have hS : va_S A s.heap s.heap [] := va_S.rf
  have hD : va_D A [(h0, .inr (0, [.ref qt, .ref qf, .int w, .int lt, .int lk, .int lc])), (qt, .inl (cI, 8, .inl ft)), (qf, .inl (cL, 8, .inr (.inl ff)))] := hD
  have hP : va_P (dC, dI) vwCl [(h0, .inr (0, [.ref qt, .ref qf, .int w, .int lt, .int lk, .int lc])), (qt, .inl (cI, 8, .inl ft)), (qf, .inl (cL, 8, .inr (.inl ff)))] s.heap := hP
  have hl := lv_entry ([.ref h0, .int a1, .int a2, .int a3, .int a4, .int a5, .int a6, .int a7, .int a8]) (n := 21) (Nat.le_of_ble_eq_true rfl)
  rw [lg_entry_eq]
  generalize (lg_sl ([.ref h0, .int a1, .int a2, .int a3, .int a4, .int a5, .int a6, .int a7, .int a8]) ++ List.replicate (21 - (lg_sl ([.ref h0, .int a1, .int a2, .int a3, .int a4, .int a5, .int a6, .int a7, .int a8])).length) Slot.unset).toArray = ls at hl ⊢
  have hl : lv_has ls 21 [(0, .ref h0), (1, .int a1), (2, .int a2), (3, .int a3), (4, .int a4), (5, .int a5), (6, .int a6), (7, .int a7), (8, .int a8)] := hl
  refine lv_iload_n hx hb dX0_make_0 rfl (lv_at hl 1 rfl) ?_
  refine W.callV (r := .int (f_X0_isNoRegister a1)) (W.runS (As := [.int a1]) (rest := []) ⟨hx, hb, hml, hown, hts⟩ (c_X0_isNoRegister l a1 ) (va_cwS 1 hts gX0_make_X0_isNoRegister rfl rfl rfl (by decide +kernel) ⟨Nat.le_of_ble_eq_true rfl, Nat.le_of_ble_eq_true rfl⟩) pu_pre rfl rfl hl.1 rfl (lv_room (Nat.le_of_ble_eq_true rfl)) dX0_make_1 ⟨Nat.zero_le _, Nat.zero_le _⟩) ?_
  refine W.eq (g2 := F0 m 4 ls ([.int (f_X0_isNoRegister a1)])) rfl ?_
  refine lv_if_eq (tgt := 17) hx hb dX0_make_4 (by decide) (fun c_1 => ?_) (fun c_1 => ?_)
  · refine lv_iload_n hx hb dX0_make_17 rfl (lv_at hl 3 rfl) ?_
    refine lv_ldc (v := (-33000)) hx hb hown (hts (.constant RX0 58 (-33000)) (by decide +kernel)) dX0_make_18 ?_
    by_cases cV_2 : (if a3 < (-33000) then true else (if a3 ≤ 33000 then false else true)) = true
    · refine w_join (F0 m 29 ls ([])) ?_ (fun hJ_3 => ?_)
      · obtain ⟨sa, hsa⟩ := xv_s60 hE.2.2
        refine vx_throwS (own := RX0) (cls := "java/lang/IllegalArgumentException") (names := ["java/lang/RuntimeException", "java/lang/Exception"]) hx hb hfl hown (by decide +kernel) (by decide +kernel) (hts (.classLink RX0 25 "java/lang/IllegalArgumentException") (by decide +kernel)) (hts (.initialized "java/lang/IllegalArgumentException") (by decide +kernel)) hsa (vx_hat (L := vx_atS RX0 29 "java/lang/IllegalArgumentException" ["java/lang/RuntimeException", "java/lang/Exception"]) (B := xB2) (fun w hw => hts w ((by decide +kernel : ∀ w ∈ (vx_atS RX0 29 "java/lang/IllegalArgumentException" ["java/lang/RuntimeException", "java/lang/Exception"]).filter goodWord, w ∈ wsX0_make) w hw)) (by decide +kernel) (xv_B2 hE.2.2)) (by decide +kernel) hE.1 hE.2.1 hS (hl.1.trans hml.symm) dX0_make_29 dX0_make_32 dX0_make_33 dX0_make_35 dX0_make_38 (fun x hx => (hEx x hx).elim) (by decide) (by decide) (by decide) (by decide) hlocks (tw_x (k := ((f_X0_make ft ff w lt lk lc a1 a2 a3 a4 a5 a6 a7 a8)).1) (show tw_E ((f_X0_make ft ff w lt lk lc a1 a2 a3 a4 a5 a6 a7 a8)).1 "java/lang/IllegalArgumentException" from (by rw [show (f_X0_make ft ff w lt lk lc a1 a2 a3 a4 a5 a6 a7 a8) = ((2, 0, ft, ff, w, lt, lk, lc) : Nat × Int32 × XS) from by unfold f_X0_make; rw [if_pos c_1, if_pos cV_2]]; exact tw_E2)) hP hS) hS.2.2 (by decide) (by decide)
      · refine lv_icmp_lt (tgt := 29) hx hb dX0_make_20 (by decide) (fun c_4 => ?_) (fun c_4 => ?_)
        · exact hJ_3
        · refine lv_iload_n hx hb dX0_make_23 rfl (lv_at hl 3 rfl) ?_
          refine lv_ldc (v := 33000) hx hb hown (hts (.constant RX0 59 33000) (by decide +kernel)) dX0_make_24 ?_
          refine lv_icmp_le (tgt := 39) hx hb dX0_make_26 (by decide) (fun c_5 => ?_) (fun c_5 => ?_)
          · exact absurd cV_2 (by rw [if_neg c_4, if_pos c_5]; exact Bool.false_ne_true)
          · exact hJ_3
    · refine w_join (F0 m 39 ls ([])) ?_ (fun hJ_3 => ?_)
      · refine lv_iload hx hb dX0_make_39 (lv_at hl 4 rfl) ?_
        refine lv_iload hx hb dX0_make_41 (lv_at hl 5 rfl) ?_
        refine W.callV (r := .long (f_X0_join a4 a5)) (W.runS (As := [.int a4, .int a5]) (rest := []) ⟨hx, hb, hml, hown, hts⟩ (c_X0_join l a4 a5 ) (va_cwS 2 hts gX0_make_X0_join rfl rfl rfl (by decide +kernel) ⟨Nat.le_of_ble_eq_true rfl, Nat.le_of_ble_eq_true rfl⟩) pu_pre rfl rfl hl.1 rfl (lv_room (Nat.le_of_ble_eq_true rfl)) dX0_make_43 ⟨Nat.zero_le _, Nat.zero_le _⟩) ?_
        refine W.eq (g2 := F0 m 46 ls ([.long (f_X0_join a4 a5)])) rfl ?_
        refine lv_lstore (lv' := [(9, .long (f_X0_join a4 a5)), (0, .ref h0), (1, .int a1), (2, .int a2), (3, .int a3), (4, .int a4), (5, .int a5), (6, .int a6), (7, .int a7), (8, .int a8)]) hx hb dX0_make_46 hl (by decide) rfl (fun ls hl => ?_)
        refine lv_iload hx hb dX0_make_48 (lv_at hl 7 rfl) ?_
        refine lv_iload hx hb dX0_make_50 (lv_at hl 8 rfl) ?_
        refine W.callV (r := .long (f_X0_join a6 a7)) (W.runS (As := [.int a6, .int a7]) (rest := []) ⟨hx, hb, hml, hown, hts⟩ (c_X0_join l a6 a7 ) (va_cwS 2 hts gX0_make_X0_join rfl rfl rfl (by decide +kernel) ⟨Nat.le_of_ble_eq_true rfl, Nat.le_of_ble_eq_true rfl⟩) pu_pre rfl rfl hl.1 rfl (lv_room (Nat.le_of_ble_eq_true rfl)) dX0_make_52 ⟨Nat.zero_le _, Nat.zero_le _⟩) ?_
        refine W.eq (g2 := F0 m 55 ls ([.long (f_X0_join a6 a7)])) rfl ?_
        refine lv_lstore (lv' := [(11, .long (f_X0_join a6 a7)), (9, .long (f_X0_join a4 a5)), (0, .ref h0), (1, .int a1), (2, .int a2), (3, .int a3), (4, .int a4), (5, .int a5), (6, .int a6), (7, .int a7), (8, .int a8)]) hx hb dX0_make_55 hl (by decide) rfl (fun ls hl => ?_)
        refine lv_iload hx hb dX0_make_57 (lv_at hl 10 rfl) ?_
        refine w_join (F0 m 69 ls (.long (if a8 = 0 then 0 else (-9223372036854775808)) :: [])) ?_ (fun hJ_8 => ?_)
        · refine lv_lstore (lv' := [(13, .long (if a8 = 0 then 0 else (-9223372036854775808))), (11, .long (f_X0_join a6 a7)), (9, .long (f_X0_join a4 a5)), (0, .ref h0), (1, .int a1), (2, .int a2), (3, .int a3), (4, .int a4), (5, .int a5), (6, .int a6), (7, .int a7), (8, .int a8)]) hx hb dX0_make_69 hl (by decide) rfl (fun ls hl => ?_)
          refine lv_iload_n hx hb dX0_make_71 rfl (lv_at hl 6 rfl) ?_
          refine lv_bipush (v := 127) hx hb dX0_make_72 (by decide) ?_
          refine lv_iadd hx hb dX0_make_74 ?_
          refine lv_istore (lv' := [(15, .int (a3 + 127)), (13, .long (if a8 = 0 then 0 else (-9223372036854775808))), (11, .long (f_X0_join a6 a7)), (9, .long (f_X0_join a4 a5)), (0, .ref h0), (1, .int a1), (2, .int a2), (3, .int a3), (4, .int a4), (5, .int a5), (6, .int a6), (7, .int a7), (8, .int a8)]) hx hb dX0_make_75 hl (by decide) rfl (fun ls hl => ?_)
          refine lv_lload hx hb dX0_make_77 (lv_at hl 3 rfl) ?_
          refine lv_lconst (v := 0) hx hb dX0_make_79 (by decide) ?_
          refine W.lcmp hx hb dX0_make_80 ?_
          refine lv_if_ne (tgt := 98) hx hb dX0_make_81 (by decide) (fun c_10 => ?_) (fun c_10 => ?_)
          · exact cs_X0_make_98 hx hb hr hml hts hown hlocks hK (Nat.le_of_ble_eq_true rfl) (Nat.le_of_ble_eq_true rfl) hA ft ff w lt lk lc a1 a2 (f_X0_join a4 a5) (f_X0_join a6 a7) (if a8 = 0 then 0 else (-9223372036854775808)) (a3 + 127) (by first | exact hr1 | exact x_reg (by assumption)) (show (f_X0_make ft ff w lt lk lc a1 a2 a3 a4 a5 a6 a7 a8) = k_X0_make_98 (ft, ff, w, lt, lk, lc) a1 a2 (f_X0_join a4 a5) (f_X0_join a6 a7) (if a8 = 0 then 0 else (-9223372036854775808)) (a3 + 127) from by unfold f_X0_make; rw [if_pos c_1, if_neg cV_2, if_neg c_10]) hP hD hS (lv_sub hl [4, 5, 6, 3, 2, 1, 0] rfl)
          · refine lv_lload hx hb dX0_make_84 (lv_at hl 2 rfl) ?_
            refine lv_lstore (lv' := [(9, .long (f_X0_join a6 a7)), (15, .int (a3 + 127)), (13, .long (if a8 = 0 then 0 else (-9223372036854775808))), (11, .long (f_X0_join a6 a7)), (0, .ref h0), (1, .int a1), (2, .int a2), (3, .int a3), (4, .int a4), (5, .int a5), (6, .int a6), (7, .int a7), (8, .int a8)]) hx hb dX0_make_86 hl (by decide) rfl (fun ls hl => ?_)
            refine lv_lload hx hb dX0_make_88 (lv_at hl 2 rfl) ?_
            refine lv_lstore (lv' := [(11, .long (if a8 = 0 then 0 else (-9223372036854775808))), (9, .long (f_X0_join a6 a7)), (15, .int (a3 + 127)), (13, .long (if a8 = 0 then 0 else (-9223372036854775808))), (0, .ref h0), (1, .int a1), (2, .int a2), (3, .int a3), (4, .int a4), (5, .int a5), (6, .int a6), (7, .int a7), (8, .int a8)]) hx hb dX0_make_90 hl (by decide) rfl (fun ls hl => ?_)
            refine lv_lconst (v := 0) hx hb dX0_make_92 (by decide) ?_
            refine lv_lstore (lv' := [(13, .long 0), (11, .long (if a8 = 0 then 0 else (-9223372036854775808))), (9, .long (f_X0_join a6 a7)), (15, .int (a3 + 127)), (0, .ref h0), (1, .int a1), (2, .int a2), (3, .int a3), (4, .int a4), (5, .int a5), (6, .int a6), (7, .int a7), (8, .int a8)]) hx hb dX0_make_93 hl (by decide) rfl (fun ls hl => ?_)
            refine lv_iinc (v := ((a3 + 127) + (-64))) (lv' := [(15, .int ((a3 + 127) + (-64))), (13, .long 0), (11, .long (if a8 = 0 then 0 else (-9223372036854775808))), (9, .long (f_X0_join a6 a7)), (0, .ref h0), (1, .int a1), (2, .int a2), (3, .int a3), (4, .int a4), (5, .int a5), (6, .int a6), (7, .int a7), (8, .int a8)]) hx hb dX0_make_95 hl (k := 3) rfl rfl (by decide) rfl (fun ls hl => ?_)
            exact cs_X0_make_98 hx hb hr hml hts hown hlocks hK (Nat.le_of_ble_eq_true rfl) (Nat.le_of_ble_eq_true rfl) hA ft ff w lt lk lc a1 a2 (f_X0_join a6 a7) (if a8 = 0 then 0 else (-9223372036854775808)) 0 ((a3 + 127) + (-64)) (by first | exact hr1 | exact x_reg (by assumption)) (show (f_X0_make ft ff w lt lk lc a1 a2 a3 a4 a5 a6 a7 a8) = k_X0_make_98 (ft, ff, w, lt, lk, lc) a1 a2 (f_X0_join a6 a7) (if a8 = 0 then 0 else (-9223372036854775808)) 0 ((a3 + 127) + (-64)) from by unfold f_X0_make; rw [if_pos c_1, if_neg cV_2, if_pos c_10]) hP hD hS (lv_sub hl [4, 5, 6, 3, 2, 1, 0] rfl)
        · refine lv_if_eq (tgt := 68) hx hb dX0_make_59 (by decide) (fun c_9 => ?_) (fun c_9 => ?_)
          · refine lv_lconst (v := 0) hx hb dX0_make_68 (by decide) ?_
            exact W.eq (by rw [if_pos c_9] <;> (repeat (first | rw [if_pos c_9]))) hJ_8
          · refine lv_ldc2 (v := (-9223372036854775808)) hx hb hown (hts (.constantLong RX0 62 (-9223372036854775808)) (by decide +kernel)) dX0_make_62 ?_
            refine lv_goto (tgt := 69) hx hb dX0_make_65 (by decide) ?_
            exact W.eq (by rw [if_neg c_9] <;> (repeat (first | rw [if_neg c_9]))) hJ_8
      · refine lv_icmp_lt (tgt := 29) hx hb dX0_make_20 (by decide) (fun c_6 => ?_) (fun c_6 => ?_)
        · exact absurd (by rw [if_pos c_6]) cV_2
        · refine lv_iload_n hx hb dX0_make_23 rfl (lv_at hl 3 rfl) ?_
          refine lv_ldc (v := 33000) hx hb hown (hts (.constant RX0 59 33000) (by decide +kernel)) dX0_make_24 ?_
          refine lv_icmp_le (tgt := 39) hx hb dX0_make_26 (by decide) (fun c_7 => ?_) (fun c_7 => ?_)
          · exact hJ_3
          · exact absurd (by rw [if_neg c_6, if_neg c_7]) cV_2
  · obtain ⟨sa, hsa⟩ := xv_s37 hE.2.2
    refine vx_throwS (own := RX0) (cls := "java/lang/IndexOutOfBoundsException") (names := ["java/lang/RuntimeException", "java/lang/Exception"]) hx hb hfl hown (by decide +kernel) (by decide +kernel) (hts (.classLink RX0 35 "java/lang/IndexOutOfBoundsException") (by decide +kernel)) (hts (.initialized "java/lang/IndexOutOfBoundsException") (by decide +kernel)) hsa (vx_hat (L := vx_atS RX0 39 "java/lang/IndexOutOfBoundsException" ["java/lang/RuntimeException", "java/lang/Exception"]) (B := xB1) (fun w hw => hts w ((by decide +kernel : ∀ w ∈ (vx_atS RX0 39 "java/lang/IndexOutOfBoundsException" ["java/lang/RuntimeException", "java/lang/Exception"]).filter goodWord, w ∈ wsX0_make) w hw)) (by decide +kernel) (xv_B1 hE.2.2)) (by decide +kernel) hE.1 hE.2.1 hS (hl.1.trans hml.symm) dX0_make_7 dX0_make_10 dX0_make_11 dX0_make_13 dX0_make_16 (fun x hx => (hEx x hx).elim) (by decide) (by decide) (by decide) (by decide) hlocks (tw_x (k := ((f_X0_make ft ff w lt lk lc a1 a2 a3 a4 a5 a6 a7 a8)).1) (show tw_E ((f_X0_make ft ff w lt lk lc a1 a2 a3 a4 a5 a6 a7 a8)).1 "java/lang/IndexOutOfBoundsException" from (by rw [show (f_X0_make ft ff w lt lk lc a1 a2 a3 a4 a5 a6 a7 a8) = ((1, 0, ft, ff, w, lt, lk, lc) : Nat × Int32 × XS) from by unfold f_X0_make; rw [if_neg c_1]]; exact tw_E1)) hP hS) hS.2.2 (by decide) (by decide)
def f_X0_neighbour (ft : Nat → Int32) (ff : Nat → Int64) (w : Int32) (lt : Int32) (lk : Int32) (lc : Int32) (a1 : Int32) (a2 : Int32) (a3 : Int32) : Nat × XS :=
  if (if (f_X0_isNoRegister a1) = 0 then (if (f_X0_isNoRegister a3) = 0 then false else true) else true) = true then
    (1, ft, ff, w, lt, lk, lc)
  else
    if (f_X0_kindOf ft ff a1) = 5 then
      (0, (upd ft a3.toNatClampNeg (ft a1.toNatClampNeg)), (vp_updL ff a3.toNatClampNeg (ff a1.toNatClampNeg)), w, lt, lk, lc)
    else
      if (if (f_X0_kindOf ft ff a1) = 4 then (if ((if a2 = (f_X0_isNegative ft a1) then 0 else 1) : Int32) = 0 then false else true) else false) = true then
        (0, (upd ft a3.toNatClampNeg (ft a1.toNatClampNeg)), (vp_updL ff a3.toNatClampNeg (ff a1.toNatClampNeg)), w, lt, lk, lc)
      else
        if (f_X0_signum ft ff a1) = 0 then
          (0, (upd ft a3.toNatClampNeg ((if ((if a2 = 0 then 1 else 0) : Int32) = 0 then 0 else 32768) ||| 0)), (vp_updL ff a3.toNatClampNeg 1), w, lt, lk, lc)
        else
          if ((if a2 = (f_X0_isNegative ft a1) then 0 else 1) : Int32) = 0 then
            (0, (f_X0_storeNextLesser ft ff w lt lk lc a3 (f_X0_isNegative ft a1) (f_X0_plainPower ft ff a1) (f_X0_plainFraction ft ff a1)).1, (f_X0_storeNextLesser ft ff w lt lk lc a3 (f_X0_isNegative ft a1) (f_X0_plainPower ft ff a1) (f_X0_plainFraction ft ff a1)).2.1, (f_X0_storeNextLesser ft ff w lt lk lc a3 (f_X0_isNegative ft a1) (f_X0_plainPower ft ff a1) (f_X0_plainFraction ft ff a1)).2.2.1, (f_X0_storeNextLesser ft ff w lt lk lc a3 (f_X0_isNegative ft a1) (f_X0_plainPower ft ff a1) (f_X0_plainFraction ft ff a1)).2.2.2.1, (f_X0_storeNextLesser ft ff w lt lk lc a3 (f_X0_isNegative ft a1) (f_X0_plainPower ft ff a1) (f_X0_plainFraction ft ff a1)).2.2.2.2.1, (f_X0_storeNextLesser ft ff w lt lk lc a3 (f_X0_isNegative ft a1) (f_X0_plainPower ft ff a1) (f_X0_plainFraction ft ff a1)).2.2.2.2.2)
          else
            (0, (f_X0_storeNextGreater ft ff w lt lk lc a3 (f_X0_isNegative ft a1) (f_X0_plainPower ft ff a1) (f_X0_plainFraction ft ff a1)).1, (f_X0_storeNextGreater ft ff w lt lk lc a3 (f_X0_isNegative ft a1) (f_X0_plainPower ft ff a1) (f_X0_plainFraction ft ff a1)).2.1, (f_X0_storeNextGreater ft ff w lt lk lc a3 (f_X0_isNegative ft a1) (f_X0_plainPower ft ff a1) (f_X0_plainFraction ft ff a1)).2.2.1, (f_X0_storeNextGreater ft ff w lt lk lc a3 (f_X0_isNegative ft a1) (f_X0_plainPower ft ff a1) (f_X0_plainFraction ft ff a1)).2.2.2.1, (f_X0_storeNextGreater ft ff w lt lk lc a3 (f_X0_isNegative ft a1) (f_X0_plainPower ft ff a1) (f_X0_plainFraction ft ff a1)).2.2.2.2.1, (f_X0_storeNextGreater ft ff w lt lk lc a3 (f_X0_isNegative ft a1) (f_X0_plainPower ft ff a1) (f_X0_plainFraction ft ff a1)).2.2.2.2.2)
set_option maxHeartbeats 1000000 in
set_option maxRecDepth 100000 in
theorem c_X0_neighbour (l : Launch) (hfl : l.stackTraces = false) (dC : Nat → ClassId) (dI : Nat → Nat → Nat) (cI cL : ClassId) (h0 qt qf : Nat) (sz : Nat) (ft : Nat → Int32) (ff : Nat → Int64) (w : Int32) (lt : Int32) (lk : Int32) (lc : Int32) (a1 : Int32) (a2 : Int32) (a3 : Int32) : vx_Met l yX0_neighbour wsX0_neighbour ({ frames := 6, cells := 1, slots := 6, locals := 106 }) (tw_Pc (dC, dI) (x_W cI cL h0 qt qf ft ff w lt lk lc) (x_T cI cL) sz [.ref h0, .int a1, .int a2, .int a3]) (tw_Qv (dC, dI) (x_WU cI cL h0 qt qf) (f_X0_neighbour ft ff w lt lk lc a1 a2 a3) (va_A (x_W cI cL h0 qt qf ft ff w lt lk lc) sz)) (tw_X (dC, dI) (x_W cI cL h0 qt qf ft ff w lt lk lc) (f_X0_neighbour ft ff w lt lk lc a1 a2 a3).1 (va_A (x_W cI cL h0 qt qf ft ff w lt lk lc) sz)) 1 6 (va_A (x_W cI cL h0 qt qf ft ff w lt lk lc) sz) := by
  refine vx_ofW (cc := cX0_neighbour) (maxL := 7) (ret := none) (by decide) rfl ?_
  intro p e s m args below meth c s₁ B hml hEx hv
  obtain ⟨rfl, hsz, hP, hK, hD0, hE⟩ := hv
  have hx := B.exec
  have hb := B.bytes
  have hr := B.returns
  have hts := atoms_spec (ws := wsX0_neighbour) B.pre
  have hown : s.vm.findClass RX0 = some m.cls := findClass_of_methodNamed B.named
  have hlocks := B.notSynchronized
  subst hsz
  have hD := hD0.self (sz := s.heap.size)
  generalize hAe : va_A (x_W cI cL h0 qt qf ft ff w lt lk lc) s.heap.size = A at hD hE ⊢
  have hA : ∀ q : Nat, s.heap.size ≤ q → A q := fun q h => by rw [← hAe]; exact Or.inr h
  have hS : va_S A s.heap s.heap [] := va_S.rf
  have hD : va_D A [(h0, .inr (0, [.ref qt, .ref qf, .int w, .int lt, .int lk, .int lc])), (qt, .inl (cI, 8, .inl ft)), (qf, .inl (cL, 8, .inr (.inl ff)))] := hD
  have hP : va_P (dC, dI) vwCl [(h0, .inr (0, [.ref qt, .ref qf, .int w, .int lt, .int lk, .int lc])), (qt, .inl (cI, 8, .inl ft)), (qf, .inl (cL, 8, .inr (.inl ff)))] s.heap := hP
  have hl := lv_entry ([.ref h0, .int a1, .int a2, .int a3]) (n := 7) (Nat.le_of_ble_eq_true rfl)
  rw [lg_entry_eq]
  generalize (lg_sl ([.ref h0, .int a1, .int a2, .int a3]) ++ List.replicate (7 - (lg_sl ([.ref h0, .int a1, .int a2, .int a3])).length) Slot.unset).toArray = ls at hl ⊢
  have hl : lv_has ls 7 [(0, .ref h0), (1, .int a1), (2, .int a2), (3, .int a3)] := hl
  refine lv_iload_n hx hb dX0_neighbour_0 rfl (lv_at hl 1 rfl) ?_
  refine W.callV (r := .int (f_X0_isNoRegister a1)) (W.runS (As := [.int a1]) (rest := []) ⟨hx, hb, hml, hown, hts⟩ (c_X0_isNoRegister l a1 ) (va_cwS 1 hts gX0_neighbour_X0_isNoRegister rfl rfl rfl (by decide +kernel) ⟨Nat.le_of_ble_eq_true rfl, Nat.le_of_ble_eq_true rfl⟩) pu_pre rfl rfl hl.1 rfl (lv_room (Nat.le_of_ble_eq_true rfl)) dX0_neighbour_1 ⟨Nat.zero_le _, Nat.zero_le _⟩) ?_
  refine W.eq (g2 := F0 m 4 ls ([.int (f_X0_isNoRegister a1)])) rfl ?_
  by_cases cV_1 : (if (f_X0_isNoRegister a1) = 0 then (if (f_X0_isNoRegister a3) = 0 then false else true) else true) = true
  · refine w_join (F0 m 14 ls ([])) ?_ (fun hJ_2 => ?_)
    · obtain ⟨sa, hsa⟩ := xv_s37 hE.2.2
      refine vx_throwS (own := RX0) (cls := "java/lang/IndexOutOfBoundsException") (names := ["java/lang/RuntimeException", "java/lang/Exception"]) hx hb hfl hown (by decide +kernel) (by decide +kernel) (hts (.classLink RX0 35 "java/lang/IndexOutOfBoundsException") (by decide +kernel)) (hts (.initialized "java/lang/IndexOutOfBoundsException") (by decide +kernel)) hsa (vx_hat (L := vx_atS RX0 39 "java/lang/IndexOutOfBoundsException" ["java/lang/RuntimeException", "java/lang/Exception"]) (B := xB1) (fun w hw => hts w ((by decide +kernel : ∀ w ∈ (vx_atS RX0 39 "java/lang/IndexOutOfBoundsException" ["java/lang/RuntimeException", "java/lang/Exception"]).filter goodWord, w ∈ wsX0_neighbour) w hw)) (by decide +kernel) (xv_B1 hE.2.2)) (by decide +kernel) hE.1 hE.2.1 hS (hl.1.trans hml.symm) dX0_neighbour_14 dX0_neighbour_17 dX0_neighbour_18 dX0_neighbour_20 dX0_neighbour_23 (fun x hx => (hEx x hx).elim) (by decide) (by decide) (by decide) (by decide) hlocks (tw_x (k := ((f_X0_neighbour ft ff w lt lk lc a1 a2 a3)).1) (show tw_E ((f_X0_neighbour ft ff w lt lk lc a1 a2 a3)).1 "java/lang/IndexOutOfBoundsException" from (by rw [show (f_X0_neighbour ft ff w lt lk lc a1 a2 a3) = ((1, ft, ff, w, lt, lk, lc) : Nat × XS) from by unfold f_X0_neighbour; rw [if_pos cV_1]]; exact tw_E1)) hP hS) hS.2.2 (by decide) (by decide)
    · refine lv_if_ne (tgt := 14) hx hb dX0_neighbour_4 (by decide) (fun c_3 => ?_) (fun c_3 => ?_)
      · exact hJ_2
      · refine lv_iload_n hx hb dX0_neighbour_7 rfl (lv_at hl 3 rfl) ?_
        refine W.callV (r := .int (f_X0_isNoRegister a3)) (W.runS (As := [.int a3]) (rest := []) ⟨hx, hb, hml, hown, hts⟩ (c_X0_isNoRegister l a3 ) (va_cwS 1 hts gX0_neighbour_X0_isNoRegister rfl rfl rfl (by decide +kernel) ⟨Nat.le_of_ble_eq_true rfl, Nat.le_of_ble_eq_true rfl⟩) pu_pre rfl rfl hl.1 rfl (lv_room (Nat.le_of_ble_eq_true rfl)) dX0_neighbour_8 ⟨Nat.zero_le _, Nat.zero_le _⟩) ?_
        refine W.eq (g2 := F0 m 11 ls ([.int (f_X0_isNoRegister a3)])) rfl ?_
        refine lv_if_eq (tgt := 24) hx hb dX0_neighbour_11 (by decide) (fun c_4 => ?_) (fun c_4 => ?_)
        · exact absurd cV_1 (by rw [if_pos c_3, if_pos c_4]; exact Bool.false_ne_true)
        · exact hJ_2
  · refine w_join (F0 m 24 ls ([])) ?_ (fun hJ_2 => ?_)
    · refine lv_aload_n hx hb dX0_neighbour_24 rfl (lv_at hl 0 rfl) ?_
      refine lv_iload_n hx hb dX0_neighbour_25 rfl (lv_at hl 1 rfl) ?_
      refine W.callV (r := .int (f_X0_kindOf ft ff a1)) (W.runV (As := [.int a1]) (rest := []) ⟨hx, hb, hml, hown, hts⟩ (c_X0_kindOf l dC dI cI cL h0 qt qf ft ff w lt lk lc a1 (by first | assumption | exact x_reg (by assumption) | exact x_regA (by assumption) | exact x_regB (by assumption))) (cwV 1 hts gX0_neighbour_X0_kindOf rfl rfl rfl (by decide +kernel) ⟨Nat.le_of_ble_eq_true rfl, Nat.le_of_ble_eq_true rfl⟩) (rd_preV hK hP rfl rfl) rfl rfl hl.1 rfl (lv_room (Nat.le_of_ble_eq_true rfl)) dX0_neighbour_26 ⟨Nat.zero_le _, Nat.zero_le _⟩) ?_
      refine W.eq (g2 := F0 m 29 ls ([.int (f_X0_kindOf ft ff a1)])) rfl ?_
      refine lv_istore (lv' := [(4, .int (f_X0_kindOf ft ff a1)), (0, .ref h0), (1, .int a1), (2, .int a2), (3, .int a3)]) hx hb dX0_neighbour_29 hl (by decide) rfl (fun ls hl => ?_)
      refine lv_aload_n hx hb dX0_neighbour_31 rfl (lv_at hl 1 rfl) ?_
      refine lv_iload_n hx hb dX0_neighbour_32 rfl (lv_at hl 2 rfl) ?_
      refine W.callV (r := .int (f_X0_isNegative ft a1)) (W.runV (As := [.int a1]) (rest := []) ⟨hx, hb, hml, hown, hts⟩ (c_X0_isNegative l dC dI cI cL h0 qt qf ft ff w lt lk lc a1 (by first | assumption | exact x_reg (by assumption) | exact x_regA (by assumption) | exact x_regB (by assumption))) (cwV 1 hts gX0_neighbour_X0_isNegative rfl rfl rfl (by decide +kernel) ⟨Nat.le_of_ble_eq_true rfl, Nat.le_of_ble_eq_true rfl⟩) (rd_preV hK hP rfl rfl) rfl rfl hl.1 rfl (lv_room (Nat.le_of_ble_eq_true rfl)) dX0_neighbour_33 ⟨Nat.zero_le _, Nat.zero_le _⟩) ?_
      refine W.eq (g2 := F0 m 36 ls ([.int (f_X0_isNegative ft a1)])) rfl ?_
      refine lv_istore (lv' := [(5, .int (f_X0_isNegative ft a1)), (4, .int (f_X0_kindOf ft ff a1)), (0, .ref h0), (1, .int a1), (2, .int a2), (3, .int a3)]) hx hb dX0_neighbour_36 hl (by decide) rfl (fun ls hl => ?_)
      refine lv_iload_n hx hb dX0_neighbour_38 rfl (lv_at hl 4 rfl) ?_
      refine lv_iload hx hb dX0_neighbour_39 (lv_at hl 0 rfl) ?_
      refine w_join (F0 m 49 ls (.int (if a2 = (f_X0_isNegative ft a1) then 0 else 1) :: [])) ?_ (fun hJ_7 => ?_)
      · refine lv_istore (lv' := [(6, .int (if a2 = (f_X0_isNegative ft a1) then 0 else 1)), (5, .int (f_X0_isNegative ft a1)), (4, .int (f_X0_kindOf ft ff a1)), (0, .ref h0), (1, .int a1), (2, .int a2), (3, .int a3)]) hx hb dX0_neighbour_49 hl (by decide) rfl (fun ls hl => ?_)
        refine lv_iload hx hb dX0_neighbour_51 (lv_at hl 2 rfl) ?_
        refine lv_iconst (v := 5) hx hb dX0_neighbour_53 (by decide) ?_
        refine lv_icmp_eq (tgt := 68) hx hb dX0_neighbour_54 (by decide) (fun c_9 => ?_) (fun c_9 => ?_)
        · refine lv_aload_n hx hb dX0_neighbour_68 rfl (lv_at hl 3 rfl) ?_
          refine lv_iload_n hx hb dX0_neighbour_69 rfl (lv_at hl 4 rfl) ?_
          refine lv_iload_n hx hb dX0_neighbour_70 rfl (lv_at hl 6 rfl) ?_
          refine wr_callv (D := (dC, dI)) (v9 := ((upd ft a3.toNatClampNeg (ft a1.toNatClampNeg)), (vp_updL ff a3.toNatClampNeg (ff a1.toNatClampNeg)), w, lt, lk, lc)) (va_runV (As := [.int a1, .int a3]) (rest := []) ⟨hx, hb, hml, hown, hts⟩ (c_X0_copy l dC dI cI cL h0 qt qf s.heap.size ft ff w lt lk lc a1 a3 (by first | assumption | exact x_reg (by assumption) | exact x_regA (by assumption) | exact x_regB (by assumption)) (by first | assumption | exact x_reg (by assumption) | exact x_regA (by assumption) | exact x_regB (by assumption))) (cwV 2 hts gX0_neighbour_X0_copy rfl rfl rfl (by decide +kernel) ⟨Nat.le_of_ble_eq_true rfl, Nat.le_of_ble_eq_true rfl⟩) (wr_preV hK hP hD rfl rfl) rfl rfl hl.1 rfl (lv_room (Nat.le_of_ble_eq_true rfl)) dX0_neighbour_71 ⟨Nat.zero_le _, Nat.zero_le _⟩) rfl hD hS hA (fun H locs hP hD hS => ?_)
          rw [x_WU_mk] at hP hD
          have hP : va_P (dC, dI) vwCl [(h0, .inr (0, [.ref qt, .ref qf, .int w, .int lt, .int lk, .int lc])), (qt, .inl (cI, 8, .inl (upd ft a3.toNatClampNeg (ft a1.toNatClampNeg)))), (qf, .inl (cL, 8, .inr (.inl (vp_updL ff a3.toNatClampNeg (ff a1.toNatClampNeg)))))] H := hP
          have hD : va_D A [(h0, .inr (0, [.ref qt, .ref qf, .int w, .int lt, .int lk, .int lc])), (qt, .inl (cI, 8, .inl (upd ft a3.toNatClampNeg (ft a1.toNatClampNeg)))), (qf, .inl (cL, 8, .inr (.inl (vp_updL ff a3.toNatClampNeg (ff a1.toNatClampNeg)))))] := hD
          refine W.eq (g2 := F0 m 74 ls ([])) rfl ?_
          refine lv_goto (tgt := 146) hx hb dX0_neighbour_74 (by decide) ?_
          refine W.widen (k := 1) (n := 6) (Nat.zero_le _) (Nat.zero_le _) ?_
          exact vx_ret (W.vret hx hb hr (fun t ht hW => ⟨⟨((upd ft a3.toNatClampNeg (ft a1.toNatClampNeg)), (vp_updL ff a3.toNatClampNeg (ff a1.toNatClampNeg)), w, lt, lk, lc), rfl, (show (f_X0_neighbour ft ff w lt lk lc a1 a2 a3) = ((0, ((upd ft a3.toNatClampNeg (ft a1.toNatClampNeg)), (vp_updL ff a3.toNatClampNeg (ff a1.toNatClampNeg)), w, lt, lk, lc)) : Nat × XS) from by unfold f_X0_neighbour; rw [if_neg cV_1, if_pos c_9]; first | done | rfl).symm, by rw [ht, x_WU_mk]; exact hP, by rw [x_WU_mk]; exact hD⟩, hS.F ht⟩) hS.2.2 dX0_neighbour_146)
        · refine lv_iload hx hb dX0_neighbour_57 (lv_at hl 2 rfl) ?_
          refine lv_iconst (v := 4) hx hb dX0_neighbour_59 (by decide) ?_
          by_cases cV_10 : (if (f_X0_kindOf ft ff a1) = 4 then (if ((if a2 = (f_X0_isNegative ft a1) then 0 else 1) : Int32) = 0 then false else true) else false) = true
          · refine w_join (F0 m 68 ls ([])) ?_ (fun hJ_11 => ?_)
            · refine lv_aload_n hx hb dX0_neighbour_68 rfl (lv_at hl 3 rfl) ?_
              refine lv_iload_n hx hb dX0_neighbour_69 rfl (lv_at hl 4 rfl) ?_
              refine lv_iload_n hx hb dX0_neighbour_70 rfl (lv_at hl 6 rfl) ?_
              refine wr_callv (D := (dC, dI)) (v9 := ((upd ft a3.toNatClampNeg (ft a1.toNatClampNeg)), (vp_updL ff a3.toNatClampNeg (ff a1.toNatClampNeg)), w, lt, lk, lc)) (va_runV (As := [.int a1, .int a3]) (rest := []) ⟨hx, hb, hml, hown, hts⟩ (c_X0_copy l dC dI cI cL h0 qt qf s.heap.size ft ff w lt lk lc a1 a3 (by first | assumption | exact x_reg (by assumption) | exact x_regA (by assumption) | exact x_regB (by assumption)) (by first | assumption | exact x_reg (by assumption) | exact x_regA (by assumption) | exact x_regB (by assumption))) (cwV 2 hts gX0_neighbour_X0_copy rfl rfl rfl (by decide +kernel) ⟨Nat.le_of_ble_eq_true rfl, Nat.le_of_ble_eq_true rfl⟩) (wr_preV hK hP hD rfl rfl) rfl rfl hl.1 rfl (lv_room (Nat.le_of_ble_eq_true rfl)) dX0_neighbour_71 ⟨Nat.zero_le _, Nat.zero_le _⟩) rfl hD hS hA (fun H locs hP hD hS => ?_)
              rw [x_WU_mk] at hP hD
              have hP : va_P (dC, dI) vwCl [(h0, .inr (0, [.ref qt, .ref qf, .int w, .int lt, .int lk, .int lc])), (qt, .inl (cI, 8, .inl (upd ft a3.toNatClampNeg (ft a1.toNatClampNeg)))), (qf, .inl (cL, 8, .inr (.inl (vp_updL ff a3.toNatClampNeg (ff a1.toNatClampNeg)))))] H := hP
              have hD : va_D A [(h0, .inr (0, [.ref qt, .ref qf, .int w, .int lt, .int lk, .int lc])), (qt, .inl (cI, 8, .inl (upd ft a3.toNatClampNeg (ft a1.toNatClampNeg)))), (qf, .inl (cL, 8, .inr (.inl (vp_updL ff a3.toNatClampNeg (ff a1.toNatClampNeg)))))] := hD
              refine W.eq (g2 := F0 m 74 ls ([])) rfl ?_
              refine lv_goto (tgt := 146) hx hb dX0_neighbour_74 (by decide) ?_
              refine W.widen (k := 1) (n := 6) (Nat.zero_le _) (Nat.zero_le _) ?_
              exact vx_ret (W.vret hx hb hr (fun t ht hW => ⟨⟨((upd ft a3.toNatClampNeg (ft a1.toNatClampNeg)), (vp_updL ff a3.toNatClampNeg (ff a1.toNatClampNeg)), w, lt, lk, lc), rfl, (show (f_X0_neighbour ft ff w lt lk lc a1 a2 a3) = ((0, ((upd ft a3.toNatClampNeg (ft a1.toNatClampNeg)), (vp_updL ff a3.toNatClampNeg (ff a1.toNatClampNeg)), w, lt, lk, lc)) : Nat × XS) from by unfold f_X0_neighbour; rw [if_neg cV_1, if_neg c_9, if_pos cV_10]; first | done | rfl).symm, by rw [ht, x_WU_mk]; exact hP, by rw [x_WU_mk]; exact hD⟩, hS.F ht⟩) hS.2.2 dX0_neighbour_146)
            · refine lv_icmp_ne (tgt := 77) hx hb dX0_neighbour_60 (by decide) (fun c_12 => ?_) (fun c_12 => ?_)
              · exact absurd cV_10 (by rw [if_neg c_12]; exact Bool.false_ne_true)
              · refine lv_iload hx hb dX0_neighbour_63 (lv_at hl 0 rfl) ?_
                refine lv_if_eq (tgt := 77) hx hb dX0_neighbour_65 (by decide) (fun c_13 => ?_) (fun c_13 => ?_)
                · exact absurd cV_10 (by rw [if_pos c_12, if_pos c_13]; exact Bool.false_ne_true)
                · exact hJ_11
          · refine w_join (F0 m 77 ls ([])) ?_ (fun hJ_11 => ?_)
            · refine lv_aload_n hx hb dX0_neighbour_77 rfl (lv_at hl 3 rfl) ?_
              refine lv_iload_n hx hb dX0_neighbour_78 rfl (lv_at hl 4 rfl) ?_
              refine W.callV (r := .int (f_X0_signum ft ff a1)) (W.runV (As := [.int a1]) (rest := []) ⟨hx, hb, hml, hown, hts⟩ (c_X0_signum l dC dI cI cL h0 qt qf ft ff w lt lk lc a1 (by first | assumption | exact x_reg (by assumption) | exact x_regA (by assumption) | exact x_regB (by assumption))) (cwV 1 hts gX0_neighbour_X0_signum rfl rfl rfl (by decide +kernel) ⟨Nat.le_of_ble_eq_true rfl, Nat.le_of_ble_eq_true rfl⟩) (rd_preV hK hP rfl rfl) rfl rfl hl.1 rfl (lv_room (Nat.le_of_ble_eq_true rfl)) dX0_neighbour_79 ⟨Nat.zero_le _, Nat.zero_le _⟩) ?_
              refine W.eq (g2 := F0 m 82 ls ([.int (f_X0_signum ft ff a1)])) rfl ?_
              refine lv_if_ne (tgt := 104) hx hb dX0_neighbour_82 (by decide) (fun c_16 => ?_) (fun c_16 => ?_)
              · refine lv_iload hx hb dX0_neighbour_104 (lv_at hl 0 rfl) ?_
                refine lv_if_eq (tgt := 129) hx hb dX0_neighbour_106 (by decide) (fun c_17 => ?_) (fun c_17 => ?_)
                · refine lv_aload_n hx hb dX0_neighbour_129 rfl (lv_at hl 3 rfl) ?_
                  refine lv_iload_n hx hb dX0_neighbour_130 rfl (lv_at hl 6 rfl) ?_
                  refine lv_iload hx hb dX0_neighbour_131 (lv_at hl 1 rfl) ?_
                  refine lv_aload_n hx hb dX0_neighbour_133 rfl (lv_at hl 3 rfl) ?_
                  refine lv_iload_n hx hb dX0_neighbour_134 rfl (lv_at hl 4 rfl) ?_
                  refine W.callV (r := .int (f_X0_plainPower ft ff a1)) (W.runV (As := [.int a1]) (rest := [.int (f_X0_isNegative ft a1), .int a3, .ref h0]) ⟨hx, hb, hml, hown, hts⟩ (c_X0_plainPower l dC dI cI cL h0 qt qf ft ff w lt lk lc a1 (by first | assumption | exact x_reg (by assumption) | exact x_regA (by assumption) | exact x_regB (by assumption))) (cwV 1 hts gX0_neighbour_X0_plainPower rfl rfl rfl (by decide +kernel) ⟨Nat.le_of_ble_eq_true rfl, Nat.le_of_ble_eq_true rfl⟩) (rd_preV hK hP rfl rfl) rfl rfl hl.1 rfl (lv_room (Nat.le_of_ble_eq_true rfl)) dX0_neighbour_135 ⟨Nat.zero_le _, Nat.zero_le _⟩) ?_
                  refine W.eq (g2 := F0 m 138 ls ([.int (f_X0_plainPower ft ff a1), .int (f_X0_isNegative ft a1), .int a3, .ref h0])) rfl ?_
                  refine lv_aload_n hx hb dX0_neighbour_138 rfl (lv_at hl 3 rfl) ?_
                  refine lv_iload_n hx hb dX0_neighbour_139 rfl (lv_at hl 4 rfl) ?_
                  refine W.callV (r := .long (f_X0_plainFraction ft ff a1)) (W.runV (As := [.int a1]) (rest := [.int (f_X0_plainPower ft ff a1), .int (f_X0_isNegative ft a1), .int a3, .ref h0]) ⟨hx, hb, hml, hown, hts⟩ (c_X0_plainFraction l dC dI cI cL h0 qt qf ft ff w lt lk lc a1 (by first | assumption | exact x_reg (by assumption) | exact x_regA (by assumption) | exact x_regB (by assumption))) (cwV 1 hts gX0_neighbour_X0_plainFraction rfl rfl rfl (by decide +kernel) ⟨Nat.le_of_ble_eq_true rfl, Nat.le_of_ble_eq_true rfl⟩) (rd_preV hK hP rfl rfl) rfl rfl hl.1 rfl (lv_room (Nat.le_of_ble_eq_true rfl)) dX0_neighbour_140 ⟨Nat.zero_le _, Nat.zero_le _⟩) ?_
                  refine W.eq (g2 := F0 m 143 ls ([.long (f_X0_plainFraction ft ff a1), .int (f_X0_plainPower ft ff a1), .int (f_X0_isNegative ft a1), .int a3, .ref h0])) rfl ?_
                  refine wr_callv (D := (dC, dI)) (v9 := (f_X0_storeNextLesser ft ff w lt lk lc a3 (f_X0_isNegative ft a1) (f_X0_plainPower ft ff a1) (f_X0_plainFraction ft ff a1))) (va_runV (As := [.int a3, .int (f_X0_isNegative ft a1), .int (f_X0_plainPower ft ff a1), .long (f_X0_plainFraction ft ff a1)]) (rest := []) ⟨hx, hb, hml, hown, hts⟩ (c_X0_storeNextLesser l dC dI cI cL h0 qt qf s.heap.size ft ff w lt lk lc a3 (f_X0_isNegative ft a1) (f_X0_plainPower ft ff a1) (f_X0_plainFraction ft ff a1) (by first | assumption | exact x_reg (by assumption) | exact x_regA (by assumption) | exact x_regB (by assumption))) (cwV 4 hts gX0_neighbour_X0_storeNextLesser rfl rfl rfl (by decide +kernel) ⟨Nat.le_of_ble_eq_true rfl, Nat.le_of_ble_eq_true rfl⟩) (wr_preV hK hP hD rfl rfl) rfl rfl hl.1 rfl (lv_room (Nat.le_of_ble_eq_true rfl)) dX0_neighbour_143 ⟨Nat.zero_le _, Nat.zero_le _⟩) rfl hD hS hA (fun H locs hP hD hS => ?_)
                  have hP : va_P (dC, dI) vwCl [(h0, .inr (0, [.ref qt, .ref qf, .int ((f_X0_storeNextLesser ft ff w lt lk lc a3 (f_X0_isNegative ft a1) (f_X0_plainPower ft ff a1) (f_X0_plainFraction ft ff a1)).2.2.1), .int ((f_X0_storeNextLesser ft ff w lt lk lc a3 (f_X0_isNegative ft a1) (f_X0_plainPower ft ff a1) (f_X0_plainFraction ft ff a1)).2.2.2.1), .int ((f_X0_storeNextLesser ft ff w lt lk lc a3 (f_X0_isNegative ft a1) (f_X0_plainPower ft ff a1) (f_X0_plainFraction ft ff a1)).2.2.2.2.1), .int ((f_X0_storeNextLesser ft ff w lt lk lc a3 (f_X0_isNegative ft a1) (f_X0_plainPower ft ff a1) (f_X0_plainFraction ft ff a1)).2.2.2.2.2)])), (qt, .inl (cI, 8, .inl ((f_X0_storeNextLesser ft ff w lt lk lc a3 (f_X0_isNegative ft a1) (f_X0_plainPower ft ff a1) (f_X0_plainFraction ft ff a1)).1))), (qf, .inl (cL, 8, .inr (.inl ((f_X0_storeNextLesser ft ff w lt lk lc a3 (f_X0_isNegative ft a1) (f_X0_plainPower ft ff a1) (f_X0_plainFraction ft ff a1)).2.1))))] H := hP
                  have hD : va_D A [(h0, .inr (0, [.ref qt, .ref qf, .int ((f_X0_storeNextLesser ft ff w lt lk lc a3 (f_X0_isNegative ft a1) (f_X0_plainPower ft ff a1) (f_X0_plainFraction ft ff a1)).2.2.1), .int ((f_X0_storeNextLesser ft ff w lt lk lc a3 (f_X0_isNegative ft a1) (f_X0_plainPower ft ff a1) (f_X0_plainFraction ft ff a1)).2.2.2.1), .int ((f_X0_storeNextLesser ft ff w lt lk lc a3 (f_X0_isNegative ft a1) (f_X0_plainPower ft ff a1) (f_X0_plainFraction ft ff a1)).2.2.2.2.1), .int ((f_X0_storeNextLesser ft ff w lt lk lc a3 (f_X0_isNegative ft a1) (f_X0_plainPower ft ff a1) (f_X0_plainFraction ft ff a1)).2.2.2.2.2)])), (qt, .inl (cI, 8, .inl ((f_X0_storeNextLesser ft ff w lt lk lc a3 (f_X0_isNegative ft a1) (f_X0_plainPower ft ff a1) (f_X0_plainFraction ft ff a1)).1))), (qf, .inl (cL, 8, .inr (.inl ((f_X0_storeNextLesser ft ff w lt lk lc a3 (f_X0_isNegative ft a1) (f_X0_plainPower ft ff a1) (f_X0_plainFraction ft ff a1)).2.1))))] := hD
                  refine W.eq (g2 := F0 m 146 ls ([])) rfl ?_
                  refine W.widen (k := 1) (n := 6) (Nat.zero_le _) (Nat.zero_le _) ?_
                  exact vx_ret (W.vret hx hb hr (fun t ht hW => ⟨⟨(f_X0_storeNextLesser ft ff w lt lk lc a3 (f_X0_isNegative ft a1) (f_X0_plainPower ft ff a1) (f_X0_plainFraction ft ff a1)), rfl, (show (f_X0_neighbour ft ff w lt lk lc a1 a2 a3) = ((0, (f_X0_storeNextLesser ft ff w lt lk lc a3 (f_X0_isNegative ft a1) (f_X0_plainPower ft ff a1) (f_X0_plainFraction ft ff a1))) : Nat × XS) from by unfold f_X0_neighbour; rw [if_neg cV_1, if_neg c_9, if_neg cV_10, if_neg c_16, if_pos c_17]).symm, by rw [ht]; exact hP, hD⟩, hS.F ht⟩) hS.2.2 dX0_neighbour_146)
                · refine lv_aload_n hx hb dX0_neighbour_109 rfl (lv_at hl 3 rfl) ?_
                  refine lv_iload_n hx hb dX0_neighbour_110 rfl (lv_at hl 6 rfl) ?_
                  refine lv_iload hx hb dX0_neighbour_111 (lv_at hl 1 rfl) ?_
                  refine lv_aload_n hx hb dX0_neighbour_113 rfl (lv_at hl 3 rfl) ?_
                  refine lv_iload_n hx hb dX0_neighbour_114 rfl (lv_at hl 4 rfl) ?_
                  refine W.callV (r := .int (f_X0_plainPower ft ff a1)) (W.runV (As := [.int a1]) (rest := [.int (f_X0_isNegative ft a1), .int a3, .ref h0]) ⟨hx, hb, hml, hown, hts⟩ (c_X0_plainPower l dC dI cI cL h0 qt qf ft ff w lt lk lc a1 (by first | assumption | exact x_reg (by assumption) | exact x_regA (by assumption) | exact x_regB (by assumption))) (cwV 1 hts gX0_neighbour_X0_plainPower rfl rfl rfl (by decide +kernel) ⟨Nat.le_of_ble_eq_true rfl, Nat.le_of_ble_eq_true rfl⟩) (rd_preV hK hP rfl rfl) rfl rfl hl.1 rfl (lv_room (Nat.le_of_ble_eq_true rfl)) dX0_neighbour_115 ⟨Nat.zero_le _, Nat.zero_le _⟩) ?_
                  refine W.eq (g2 := F0 m 118 ls ([.int (f_X0_plainPower ft ff a1), .int (f_X0_isNegative ft a1), .int a3, .ref h0])) rfl ?_
                  refine lv_aload_n hx hb dX0_neighbour_118 rfl (lv_at hl 3 rfl) ?_
                  refine lv_iload_n hx hb dX0_neighbour_119 rfl (lv_at hl 4 rfl) ?_
                  refine W.callV (r := .long (f_X0_plainFraction ft ff a1)) (W.runV (As := [.int a1]) (rest := [.int (f_X0_plainPower ft ff a1), .int (f_X0_isNegative ft a1), .int a3, .ref h0]) ⟨hx, hb, hml, hown, hts⟩ (c_X0_plainFraction l dC dI cI cL h0 qt qf ft ff w lt lk lc a1 (by first | assumption | exact x_reg (by assumption) | exact x_regA (by assumption) | exact x_regB (by assumption))) (cwV 1 hts gX0_neighbour_X0_plainFraction rfl rfl rfl (by decide +kernel) ⟨Nat.le_of_ble_eq_true rfl, Nat.le_of_ble_eq_true rfl⟩) (rd_preV hK hP rfl rfl) rfl rfl hl.1 rfl (lv_room (Nat.le_of_ble_eq_true rfl)) dX0_neighbour_120 ⟨Nat.zero_le _, Nat.zero_le _⟩) ?_
                  refine W.eq (g2 := F0 m 123 ls ([.long (f_X0_plainFraction ft ff a1), .int (f_X0_plainPower ft ff a1), .int (f_X0_isNegative ft a1), .int a3, .ref h0])) rfl ?_
                  refine wr_callv (D := (dC, dI)) (v9 := (f_X0_storeNextGreater ft ff w lt lk lc a3 (f_X0_isNegative ft a1) (f_X0_plainPower ft ff a1) (f_X0_plainFraction ft ff a1))) (va_runV (As := [.int a3, .int (f_X0_isNegative ft a1), .int (f_X0_plainPower ft ff a1), .long (f_X0_plainFraction ft ff a1)]) (rest := []) ⟨hx, hb, hml, hown, hts⟩ (c_X0_storeNextGreater l dC dI cI cL h0 qt qf s.heap.size ft ff w lt lk lc a3 (f_X0_isNegative ft a1) (f_X0_plainPower ft ff a1) (f_X0_plainFraction ft ff a1) (by first | assumption | exact x_reg (by assumption) | exact x_regA (by assumption) | exact x_regB (by assumption))) (cwV 4 hts gX0_neighbour_X0_storeNextGreater rfl rfl rfl (by decide +kernel) ⟨Nat.le_of_ble_eq_true rfl, Nat.le_of_ble_eq_true rfl⟩) (wr_preV hK hP hD rfl rfl) rfl rfl hl.1 rfl (lv_room (Nat.le_of_ble_eq_true rfl)) dX0_neighbour_123 ⟨Nat.zero_le _, Nat.zero_le _⟩) rfl hD hS hA (fun H locs hP hD hS => ?_)
                  have hP : va_P (dC, dI) vwCl [(h0, .inr (0, [.ref qt, .ref qf, .int ((f_X0_storeNextGreater ft ff w lt lk lc a3 (f_X0_isNegative ft a1) (f_X0_plainPower ft ff a1) (f_X0_plainFraction ft ff a1)).2.2.1), .int ((f_X0_storeNextGreater ft ff w lt lk lc a3 (f_X0_isNegative ft a1) (f_X0_plainPower ft ff a1) (f_X0_plainFraction ft ff a1)).2.2.2.1), .int ((f_X0_storeNextGreater ft ff w lt lk lc a3 (f_X0_isNegative ft a1) (f_X0_plainPower ft ff a1) (f_X0_plainFraction ft ff a1)).2.2.2.2.1), .int ((f_X0_storeNextGreater ft ff w lt lk lc a3 (f_X0_isNegative ft a1) (f_X0_plainPower ft ff a1) (f_X0_plainFraction ft ff a1)).2.2.2.2.2)])), (qt, .inl (cI, 8, .inl ((f_X0_storeNextGreater ft ff w lt lk lc a3 (f_X0_isNegative ft a1) (f_X0_plainPower ft ff a1) (f_X0_plainFraction ft ff a1)).1))), (qf, .inl (cL, 8, .inr (.inl ((f_X0_storeNextGreater ft ff w lt lk lc a3 (f_X0_isNegative ft a1) (f_X0_plainPower ft ff a1) (f_X0_plainFraction ft ff a1)).2.1))))] H := hP
                  have hD : va_D A [(h0, .inr (0, [.ref qt, .ref qf, .int ((f_X0_storeNextGreater ft ff w lt lk lc a3 (f_X0_isNegative ft a1) (f_X0_plainPower ft ff a1) (f_X0_plainFraction ft ff a1)).2.2.1), .int ((f_X0_storeNextGreater ft ff w lt lk lc a3 (f_X0_isNegative ft a1) (f_X0_plainPower ft ff a1) (f_X0_plainFraction ft ff a1)).2.2.2.1), .int ((f_X0_storeNextGreater ft ff w lt lk lc a3 (f_X0_isNegative ft a1) (f_X0_plainPower ft ff a1) (f_X0_plainFraction ft ff a1)).2.2.2.2.1), .int ((f_X0_storeNextGreater ft ff w lt lk lc a3 (f_X0_isNegative ft a1) (f_X0_plainPower ft ff a1) (f_X0_plainFraction ft ff a1)).2.2.2.2.2)])), (qt, .inl (cI, 8, .inl ((f_X0_storeNextGreater ft ff w lt lk lc a3 (f_X0_isNegative ft a1) (f_X0_plainPower ft ff a1) (f_X0_plainFraction ft ff a1)).1))), (qf, .inl (cL, 8, .inr (.inl ((f_X0_storeNextGreater ft ff w lt lk lc a3 (f_X0_isNegative ft a1) (f_X0_plainPower ft ff a1) (f_X0_plainFraction ft ff a1)).2.1))))] := hD
                  refine W.eq (g2 := F0 m 126 ls ([])) rfl ?_
                  refine lv_goto (tgt := 146) hx hb dX0_neighbour_126 (by decide) ?_
                  refine W.widen (k := 1) (n := 6) (Nat.zero_le _) (Nat.zero_le _) ?_
                  exact vx_ret (W.vret hx hb hr (fun t ht hW => ⟨⟨(f_X0_storeNextGreater ft ff w lt lk lc a3 (f_X0_isNegative ft a1) (f_X0_plainPower ft ff a1) (f_X0_plainFraction ft ff a1)), rfl, (show (f_X0_neighbour ft ff w lt lk lc a1 a2 a3) = ((0, (f_X0_storeNextGreater ft ff w lt lk lc a3 (f_X0_isNegative ft a1) (f_X0_plainPower ft ff a1) (f_X0_plainFraction ft ff a1))) : Nat × XS) from by unfold f_X0_neighbour; rw [if_neg cV_1, if_neg c_9, if_neg cV_10, if_neg c_16, if_neg c_17]).symm, by rw [ht]; exact hP, hD⟩, hS.F ht⟩) hS.2.2 dX0_neighbour_146)
              · refine lv_aload_n hx hb dX0_neighbour_85 rfl (lv_at hl 3 rfl) ?_
                refine lv_iload_n hx hb dX0_neighbour_86 rfl (lv_at hl 6 rfl) ?_
                refine lv_iload_n hx hb dX0_neighbour_87 rfl (lv_at hl 5 rfl) ?_
                refine w_join (F0 m 96 ls (.int (if a2 = 0 then 1 else 0) :: [.int a3, .ref h0])) ?_ (fun hJ_18 => ?_)
                · refine lv_iconst (v := 0) hx hb dX0_neighbour_96 (by decide) ?_
                  refine lv_lconst (v := 1) hx hb dX0_neighbour_97 (by decide) ?_
                  refine wr_callv (D := (dC, dI)) (v9 := ((upd ft a3.toNatClampNeg ((if ((if a2 = 0 then 1 else 0) : Int32) = 0 then 0 else 32768) ||| 0)), (vp_updL ff a3.toNatClampNeg 1), w, lt, lk, lc)) (va_runV (As := [.int a3, .int (if a2 = 0 then 1 else 0), .int 0, .long 1]) (rest := []) ⟨hx, hb, hml, hown, hts⟩ (c_X0_store l dC dI cI cL h0 qt qf s.heap.size ft ff w lt lk lc a3 (if a2 = 0 then 1 else 0) 0 1 (by first | assumption | exact x_reg (by assumption) | exact x_regA (by assumption) | exact x_regB (by assumption))) (cwV 4 hts gX0_neighbour_X0_store rfl rfl rfl (by decide +kernel) ⟨Nat.le_of_ble_eq_true rfl, Nat.le_of_ble_eq_true rfl⟩) (wr_preV hK hP hD rfl rfl) rfl rfl hl.1 rfl (lv_room (Nat.le_of_ble_eq_true rfl)) dX0_neighbour_98 ⟨Nat.zero_le _, Nat.zero_le _⟩) rfl hD hS hA (fun H locs hP hD hS => ?_)
                  rw [x_WU_mk] at hP hD
                  have hP : va_P (dC, dI) vwCl [(h0, .inr (0, [.ref qt, .ref qf, .int w, .int lt, .int lk, .int lc])), (qt, .inl (cI, 8, .inl (upd ft a3.toNatClampNeg ((if ((if a2 = 0 then 1 else 0) : Int32) = 0 then 0 else 32768) ||| 0)))), (qf, .inl (cL, 8, .inr (.inl (vp_updL ff a3.toNatClampNeg 1))))] H := hP
                  have hD : va_D A [(h0, .inr (0, [.ref qt, .ref qf, .int w, .int lt, .int lk, .int lc])), (qt, .inl (cI, 8, .inl (upd ft a3.toNatClampNeg ((if ((if a2 = 0 then 1 else 0) : Int32) = 0 then 0 else 32768) ||| 0)))), (qf, .inl (cL, 8, .inr (.inl (vp_updL ff a3.toNatClampNeg 1))))] := hD
                  refine W.eq (g2 := F0 m 101 ls ([])) rfl ?_
                  refine lv_goto (tgt := 146) hx hb dX0_neighbour_101 (by decide) ?_
                  refine W.widen (k := 1) (n := 6) (Nat.zero_le _) (Nat.zero_le _) ?_
                  exact vx_ret (W.vret hx hb hr (fun t ht hW => ⟨⟨((upd ft a3.toNatClampNeg ((if ((if a2 = 0 then 1 else 0) : Int32) = 0 then 0 else 32768) ||| 0)), (vp_updL ff a3.toNatClampNeg 1), w, lt, lk, lc), rfl, (show (f_X0_neighbour ft ff w lt lk lc a1 a2 a3) = ((0, ((upd ft a3.toNatClampNeg ((if ((if a2 = 0 then 1 else 0) : Int32) = 0 then 0 else 32768) ||| 0)), (vp_updL ff a3.toNatClampNeg 1), w, lt, lk, lc)) : Nat × XS) from by unfold f_X0_neighbour; rw [if_neg cV_1, if_neg c_9, if_neg cV_10, if_pos c_16]; first | done | rfl).symm, by rw [ht, x_WU_mk]; exact hP, by rw [x_WU_mk]; exact hD⟩, hS.F ht⟩) hS.2.2 dX0_neighbour_146)
                · refine lv_if_ne (tgt := 95) hx hb dX0_neighbour_88 (by decide) (fun c_19 => ?_) (fun c_19 => ?_)
                  · refine lv_iconst (v := 0) hx hb dX0_neighbour_95 (by decide) ?_
                    exact W.eq (by rw [if_neg c_19] <;> (repeat (first | rw [if_neg c_19]))) hJ_18
                  · refine lv_iconst (v := 1) hx hb dX0_neighbour_91 (by decide) ?_
                    refine lv_goto (tgt := 96) hx hb dX0_neighbour_92 (by decide) ?_
                    exact W.eq (by rw [if_pos c_19] <;> (repeat (first | rw [if_pos c_19]))) hJ_18
            · refine lv_icmp_ne (tgt := 77) hx hb dX0_neighbour_60 (by decide) (fun c_14 => ?_) (fun c_14 => ?_)
              · exact hJ_11
              · refine lv_iload hx hb dX0_neighbour_63 (lv_at hl 0 rfl) ?_
                refine lv_if_eq (tgt := 77) hx hb dX0_neighbour_65 (by decide) (fun c_15 => ?_) (fun c_15 => ?_)
                · exact hJ_11
                · exact absurd (by rw [if_pos c_14, if_neg c_15]) cV_10
      · refine lv_icmp_eq (tgt := 48) hx hb dX0_neighbour_41 (by decide) (fun c_8 => ?_) (fun c_8 => ?_)
        · refine lv_iconst (v := 0) hx hb dX0_neighbour_48 (by decide) ?_
          exact W.eq (by rw [if_pos c_8] <;> (repeat (first | rw [if_pos c_8]))) hJ_7
        · refine lv_iconst (v := 1) hx hb dX0_neighbour_44 (by decide) ?_
          refine lv_goto (tgt := 49) hx hb dX0_neighbour_45 (by decide) ?_
          exact W.eq (by rw [if_neg c_8] <;> (repeat (first | rw [if_neg c_8]))) hJ_7
    · refine lv_if_ne (tgt := 14) hx hb dX0_neighbour_4 (by decide) (fun c_5 => ?_) (fun c_5 => ?_)
      · exact absurd (by rw [if_neg c_5]) cV_1
      · refine lv_iload_n hx hb dX0_neighbour_7 rfl (lv_at hl 3 rfl) ?_
        refine W.callV (r := .int (f_X0_isNoRegister a3)) (W.runS (As := [.int a3]) (rest := []) ⟨hx, hb, hml, hown, hts⟩ (c_X0_isNoRegister l a3 ) (va_cwS 1 hts gX0_neighbour_X0_isNoRegister rfl rfl rfl (by decide +kernel) ⟨Nat.le_of_ble_eq_true rfl, Nat.le_of_ble_eq_true rfl⟩) pu_pre rfl rfl hl.1 rfl (lv_room (Nat.le_of_ble_eq_true rfl)) dX0_neighbour_8 ⟨Nat.zero_le _, Nat.zero_le _⟩) ?_
        refine W.eq (g2 := F0 m 11 ls ([.int (f_X0_isNoRegister a3)])) rfl ?_
        refine lv_if_eq (tgt := 24) hx hb dX0_neighbour_11 (by decide) (fun c_6 => ?_) (fun c_6 => ?_)
        · exact hJ_2
        · exact absurd (by rw [if_pos c_5, if_neg c_6]) cV_1
