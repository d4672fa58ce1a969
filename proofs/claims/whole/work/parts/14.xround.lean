def k_X0_makeRounded_145 (u : XS) (x1 : Int32) (x2 : Int32) (x3 : Int32) (x11 : Int64) (x13 : Int32) (x14 : Int64) (x16 : Int32) (x17 : Int32) : Int32 × XS :=
  (x17, ((upd u.1 x1.toNatClampNeg ((if x2 = 0 then 0 else 32768) ||| (x16 + 16383))), (vp_updL u.2.1 x1.toNatClampNeg x14), u.2.2.1, x17, x3, (f_X0_changeOf x11 x13)))
set_option maxHeartbeats 1000000 in
set_option maxRecDepth 100000 in
theorem ct_X0_makeRounded_145 {p : Program} {l : Launch} {e : Env} {R : Room} {s : State} {m : MethodId} {args : Array Value} {below : List Frame} {meth : Method} {c : Code} {dC : Nat → ClassId} {dI : Nat → Nat → Nat} {cI cL : ClassId} {h0 qt qf : Nat} {A : Nat → Prop} {v : Int32 × XS} (hx : p.tables.exec = Jvm.exec) (hb : c.code = cX0_makeRounded) (hr : meth.sig.returnType = (some .int)) (hml : c.maxLocals = 18) (hts : ∀ w ∈ wsX0_makeRounded, w.before args s = true) (hown : s.vm.findClass RX0 = some m.cls) (hlocks : meth.locks = false) (hK : va_K (dC, dI) vwCl (x_T cI cL) s) (hRf : 1 ≤ R.frames) (hRl : 25 ≤ R.locals) (hA : ∀ q : Nat, s.heap.size ≤ q → A q) (u : XS) (x1 : Int32) (x2 : Int32) (x3 : Int32) (x11 : Int64) (x13 : Int32) (x14 : Int64) (x16 : Int32) (x17 : Int32) (hr1 : vp_in x1 8) (hv : v = (k_X0_makeRounded_145 u x1 x2 x3 x11 x13 x14 x16 x17)) {H : Heap} {locs : List Loc} (hP : va_P (dC, dI) vwCl [(h0, .inr (0, [.ref qt, .ref qf, .int u.2.2.1, .int u.2.2.2.1, .int u.2.2.2.2.1, .int u.2.2.2.2.2])), (qt, .inl (cI, 8, .inl u.1)), (qf, .inl (cL, 8, .inr (.inl u.2.1)))] H) (hD : va_D A [(h0, .inr (0, [.ref qt, .ref qf, .int u.2.2.1, .int u.2.2.2.1, .int u.2.2.2.2.1, .int u.2.2.2.2.2])), (qt, .inl (cI, 8, .inl u.1)), (qf, .inl (cL, 8, .inr (.inl u.2.1)))]) (hS : va_S A s.heap H locs) {ls : Array Slot} (hl : lv_has ls 18 [(0, .ref h0), (1, .int x1), (2, .int x2), (3, .int x3), (11, .long x11), (13, .int x13), (14, .long x14), (16, .int x16), (17, .int x17)]) : W p l e R s m args below meth c H locs 0 0 (MQ below (wr_Qi (dC, dI) (x_WU cI cL h0 qt qf) v A) args s 0 0 A) (F0 m 145 ls []) := by
  subst hv
  refine lv_aload_n hx hb dX0_makeRounded_145 rfl (lv_at hl 0 rfl) ?_
  refine lv_iload_n hx hb dX0_makeRounded_146 rfl (lv_at hl 1 rfl) ?_
  refine lv_iload_n hx hb dX0_makeRounded_147 rfl (lv_at hl 2 rfl) ?_
  refine lv_iload hx hb dX0_makeRounded_148 (lv_at hl 7 rfl) ?_
  refine lv_sipush (v := 16383) hx hb dX0_makeRounded_150 (by decide) ?_
  refine lv_iadd hx hb dX0_makeRounded_153 ?_
  refine lv_lload hx hb dX0_makeRounded_154 (lv_at hl 6 rfl) ?_
  refine wr_callv (D := (dC, dI)) (v9 := ((upd u.1 x1.toNatClampNeg ((if x2 = 0 then 0 else 32768) ||| (x16 + 16383))), (vp_updL u.2.1 x1.toNatClampNeg x14), u.2.2.1, u.2.2.2.1, u.2.2.2.2.1, u.2.2.2.2.2)) (va_runV (As := [.int x1, .int x2, .int (x16 + 16383), .long x14]) (rest := []) ⟨hx, hb, hml, hown, hts⟩ (c_X0_store l dC dI cI cL h0 qt qf H.size u.1 u.2.1 u.2.2.1 u.2.2.2.1 u.2.2.2.2.1 u.2.2.2.2.2 x1 x2 (x16 + 16383) x14 (by first | assumption | exact x_reg (by assumption) | exact x_regA (by assumption) | exact x_regB (by assumption))) (cwV 4 hts gX0_makeRounded_X0_store rfl rfl rfl (by decide +kernel) ⟨Nat.le_trans (Nat.le_of_ble_eq_true rfl) hRf, Nat.le_trans (Nat.le_of_ble_eq_true rfl) hRl⟩) (wr_preV hK hP hD rfl rfl) rfl rfl hl.1 rfl (lv_room (Nat.le_of_ble_eq_true rfl)) dX0_makeRounded_156 ⟨Nat.zero_le _, Nat.zero_le _⟩) rfl hD hS hA (fun H locs hP hD hS => ?_)
  rw [x_WU_mk] at hP hD
  have hP : va_P (dC, dI) vwCl [(h0, .inr (0, [.ref qt, .ref qf, .int u.2.2.1, .int u.2.2.2.1, .int u.2.2.2.2.1, .int u.2.2.2.2.2])), (qt, .inl (cI, 8, .inl (upd u.1 x1.toNatClampNeg ((if x2 = 0 then 0 else 32768) ||| (x16 + 16383))))), (qf, .inl (cL, 8, .inr (.inl (vp_updL u.2.1 x1.toNatClampNeg x14))))] H := hP
  have hD : va_D A [(h0, .inr (0, [.ref qt, .ref qf, .int u.2.2.1, .int u.2.2.2.1, .int u.2.2.2.2.1, .int u.2.2.2.2.2])), (qt, .inl (cI, 8, .inl (upd u.1 x1.toNatClampNeg ((if x2 = 0 then 0 else 32768) ||| (x16 + 16383))))), (qf, .inl (cL, 8, .inr (.inl (vp_updL u.2.1 x1.toNatClampNeg x14))))] := hD
  refine W.eq (g2 := F0 m 159 ls ([])) rfl ?_
  refine lv_aload_n hx hb dX0_makeRounded_159 rfl (lv_at hl 0 rfl) ?_
  refine lv_iload hx hb dX0_makeRounded_160 (lv_at hl 8 rfl) ?_
  refine lv_iload_n hx hb dX0_makeRounded_162 rfl (lv_at hl 3 rfl) ?_
  refine lv_lload hx hb dX0_makeRounded_163 (lv_at hl 4 rfl) ?_
  refine lv_iload hx hb dX0_makeRounded_165 (lv_at hl 5 rfl) ?_
  refine W.callV (r := .int (f_X0_changeOf x11 x13)) (W.runS (As := [.long x11, .int x13]) (rest := [.int x3, .int x17, .ref h0]) ⟨hx, hb, hml, hown, hts⟩ (c_X0_changeOf l x11 x13 ) (va_cwS 2 hts gX0_makeRounded_X0_changeOf rfl rfl rfl (by decide +kernel) ⟨Nat.le_trans (Nat.le_of_ble_eq_true rfl) hRf, Nat.le_trans (Nat.le_of_ble_eq_true rfl) hRl⟩) pu_pre rfl rfl hl.1 rfl (lv_room (Nat.le_of_ble_eq_true rfl)) dX0_makeRounded_167 ⟨Nat.zero_le _, Nat.zero_le _⟩) ?_
  refine W.eq (g2 := F0 m 170 ls ([.int (f_X0_changeOf x11 x13), .int x3, .int x17, .ref h0])) rfl ?_
  refine wr_calli (D := (dC, dI)) (v9 := (x17, ((upd u.1 x1.toNatClampNeg ((if x2 = 0 then 0 else 32768) ||| (x16 + 16383))), (vp_updL u.2.1 x1.toNatClampNeg x14), u.2.2.1, x17, x3, (f_X0_changeOf x11 x13)))) (va_runV (As := [.int x17, .int x3, .int (f_X0_changeOf x11 x13)]) (rest := []) ⟨hx, hb, hml, hown, hts⟩ (c_X0_tell l dC dI cI cL h0 qt qf H.size (upd u.1 x1.toNatClampNeg ((if x2 = 0 then 0 else 32768) ||| (x16 + 16383))) (vp_updL u.2.1 x1.toNatClampNeg x14) u.2.2.1 u.2.2.2.1 u.2.2.2.2.1 u.2.2.2.2.2 x17 x3 (f_X0_changeOf x11 x13) ) (cwV 3 hts gX0_makeRounded_X0_tell rfl rfl rfl (by decide +kernel) ⟨Nat.le_trans (Nat.le_of_ble_eq_true rfl) hRf, Nat.le_trans (Nat.le_of_ble_eq_true rfl) hRl⟩) (wr_preV hK hP hD rfl rfl) rfl rfl hl.1 rfl (lv_room (Nat.le_of_ble_eq_true rfl)) dX0_makeRounded_170 ⟨Nat.zero_le _, Nat.zero_le _⟩) rfl hD hS hA (fun H locs hP hD hS => ?_)
  rw [x_WU_mk] at hP hD
  have hP : va_P (dC, dI) vwCl [(h0, .inr (0, [.ref qt, .ref qf, .int u.2.2.1, .int x17, .int x3, .int (f_X0_changeOf x11 x13)])), (qt, .inl (cI, 8, .inl (upd u.1 x1.toNatClampNeg ((if x2 = 0 then 0 else 32768) ||| (x16 + 16383))))), (qf, .inl (cL, 8, .inr (.inl (vp_updL u.2.1 x1.toNatClampNeg x14))))] H := hP
  have hD : va_D A [(h0, .inr (0, [.ref qt, .ref qf, .int u.2.2.1, .int x17, .int x3, .int (f_X0_changeOf x11 x13)])), (qt, .inl (cI, 8, .inl (upd u.1 x1.toNatClampNeg ((if x2 = 0 then 0 else 32768) ||| (x16 + 16383))))), (qf, .inl (cL, 8, .inr (.inl (vp_updL u.2.1 x1.toNatClampNeg x14))))] := hD
  refine W.eq (g2 := F0 m 173 ls ([.int x17])) rfl ?_
  exact W.iret (v := x17) hx hb hr (fun t ht hW => ⟨⟨x17, ((upd u.1 x1.toNatClampNeg ((if x2 = 0 then 0 else 32768) ||| (x16 + 16383))), (vp_updL u.2.1 x1.toNatClampNeg x14), u.2.2.1, x17, x3, (f_X0_changeOf x11 x13)), rfl, (show (k_X0_makeRounded_145 u x1 x2 x3 x11 x13 x14 x16 x17) = ((x17, ((upd u.1 x1.toNatClampNeg ((if x2 = 0 then 0 else 32768) ||| (x16 + 16383))), (vp_updL u.2.1 x1.toNatClampNeg x14), u.2.2.1, x17, x3, (f_X0_changeOf x11 x13))) : Int32 × XS) from by unfold k_X0_makeRounded_145; rfl).symm, by rw [ht, x_WU_mk]; exact hP, by rw [x_WU_mk]; exact hD⟩, hS.F ht⟩) hS.2.2 dX0_makeRounded_173
theorem cs_X0_makeRounded_145 {p : Program} {l : Launch} {e : Env} {R : Room} {s : State} {m : MethodId} {args : Array Value} {below : List Frame} {meth : Method} {c : Code} {dC : Nat → ClassId} {dI : Nat → Nat → Nat} {cI cL : ClassId} {h0 qt qf : Nat} {A : Nat → Prop} {v : Int32 × XS} (hx : p.tables.exec = Jvm.exec) (hb : c.code = cX0_makeRounded) (hr : meth.sig.returnType = (some .int)) (hml : c.maxLocals = 18) (hts : ∀ w ∈ wsX0_makeRounded, w.before args s = true) (hown : s.vm.findClass RX0 = some m.cls) (hlocks : meth.locks = false) (hK : va_K (dC, dI) vwCl (x_T cI cL) s) (hRf : 1 ≤ R.frames) (hRl : 25 ≤ R.locals) (hA : ∀ q : Nat, s.heap.size ≤ q → A q) (ft : Nat → Int32) (ff : Nat → Int64) (w : Int32) (lt : Int32) (lk : Int32) (lc : Int32) (x1 : Int32) (x2 : Int32) (x3 : Int32) (x11 : Int64) (x13 : Int32) (x14 : Int64) (x16 : Int32) (x17 : Int32) (hr1 : vp_in x1 8) (hv : v = (k_X0_makeRounded_145 (ft, ff, w, lt, lk, lc) x1 x2 x3 x11 x13 x14 x16 x17)) {H : Heap} {locs : List Loc} (hP : va_P (dC, dI) vwCl [(h0, .inr (0, [.ref qt, .ref qf, .int w, .int lt, .int lk, .int lc])), (qt, .inl (cI, 8, .inl ft)), (qf, .inl (cL, 8, .inr (.inl ff)))] H) (hD : va_D A [(h0, .inr (0, [.ref qt, .ref qf, .int w, .int lt, .int lk, .int lc])), (qt, .inl (cI, 8, .inl ft)), (qf, .inl (cL, 8, .inr (.inl ff)))]) (hS : va_S A s.heap H locs) {ls : Array Slot} (hl : lv_has ls 18 [(0, .ref h0), (1, .int x1), (2, .int x2), (3, .int x3), (11, .long x11), (13, .int x13), (14, .long x14), (16, .int x16), (17, .int x17)]) : W p l e R s m args below meth c H locs 0 0 (MQ below (wr_Qi (dC, dI) (x_WU cI cL h0 qt qf) v A) args s 0 0 A) (F0 m 145 ls []) := ct_X0_makeRounded_145 hx hb hr hml hts hown hlocks hK hRf hRl hA (ft, ff, w, lt, lk, lc) x1 x2 x3 x11 x13 x14 x16 x17 hr1 hv hP hD hS hl
def k_X0_makeRounded_77 (u : XS) (x1 : Int32) (x2 : Int32) (x3 : Int32) (x11 : Int64) (x13 : Int32) (x14 : Int64) (x16 : Int32) : Int32 × XS :=
  if (-16382) ≤ x3 then
    if x16 ≤ 16383 then
      k_X0_makeRounded_145 u x1 x2 x3 x11 x13 x14 x16 (if (lg_cmp x11 0) = 0 then 0 else 32)
    else
      if (f_X0_isMasked u.2.2.1 8) = 0 then
        k_X0_makeRounded_145 u x1 x2 x3 x11 x13 x14 (x16 + (-24576)) ((if (lg_cmp x11 0) = 0 then 0 else 32) + 8)
      else
        (f_X0_makeTooGreat u.1 u.2.1 u.2.2.1 u.2.2.2.1 u.2.2.2.2.1 u.2.2.2.2.2 x1 x2 x3)
  else
    k_X0_makeRounded_145 u x1 x2 x3 x11 x13 x14 (x16 + 24576) ((if (lg_cmp x11 0) = 0 then 0 else 32) + 16)
set_option maxHeartbeats 1000000 in
set_option maxRecDepth 100000 in
theorem ct_X0_makeRounded_77 {p : Program} {l : Launch} {e : Env} {R : Room} {s : State} {m : MethodId} {args : Array Value} {below : List Frame} {meth : Method} {c : Code} {dC : Nat → ClassId} {dI : Nat → Nat → Nat} {cI cL : ClassId} {h0 qt qf : Nat} {A : Nat → Prop} {v : Int32 × XS} (hx : p.tables.exec = Jvm.exec) (hb : c.code = cX0_makeRounded) (hr : meth.sig.returnType = (some .int)) (hml : c.maxLocals = 18) (hts : ∀ w ∈ wsX0_makeRounded, w.before args s = true) (hown : s.vm.findClass RX0 = some m.cls) (hlocks : meth.locks = false) (hK : va_K (dC, dI) vwCl (x_T cI cL) s) (hRf : 3 ≤ R.frames) (hRl : 65 ≤ R.locals) (hA : ∀ q : Nat, s.heap.size ≤ q → A q) (u : XS) (x1 : Int32) (x2 : Int32) (x3 : Int32) (x11 : Int64) (x13 : Int32) (x14 : Int64) (x16 : Int32) (hr1 : vp_in x1 8) (hv : v = (k_X0_makeRounded_77 u x1 x2 x3 x11 x13 x14 x16)) {H : Heap} {locs : List Loc} (hP : va_P (dC, dI) vwCl [(h0, .inr (0, [.ref qt, .ref qf, .int u.2.2.1, .int u.2.2.2.1, .int u.2.2.2.2.1, .int u.2.2.2.2.2])), (qt, .inl (cI, 8, .inl u.1)), (qf, .inl (cL, 8, .inr (.inl u.2.1)))] H) (hD : va_D A [(h0, .inr (0, [.ref qt, .ref qf, .int u.2.2.1, .int u.2.2.2.1, .int u.2.2.2.2.1, .int u.2.2.2.2.2])), (qt, .inl (cI, 8, .inl u.1)), (qf, .inl (cL, 8, .inr (.inl u.2.1)))]) (hS : va_S A s.heap H locs) {ls : Array Slot} (hl : lv_has ls 18 [(0, .ref h0), (1, .int x1), (2, .int x2), (3, .int x3), (11, .long x11), (13, .int x13), (14, .long x14), (16, .int x16)]) : W p l e R s m args below meth c H locs 0 0 (MQ below (wr_Qi (dC, dI) (x_WU cI cL h0 qt qf) v A) args s 0 0 A) (F0 m 77 ls []) := by
  subst hv
  refine lv_lload hx hb dX0_makeRounded_77 (lv_at hl 4 rfl) ?_
  refine lv_lconst (v := 0) hx hb dX0_makeRounded_79 (by decide) ?_
  refine W.lcmp hx hb dX0_makeRounded_80 ?_
  refine w_join (F0 m 90 ls (.int (if (lg_cmp x11 0) = 0 then 0 else 32) :: [])) ?_ (fun hJ_1 => ?_)
  · refine lv_istore (lv' := [(17, .int (if (lg_cmp x11 0) = 0 then 0 else 32)), (0, .ref h0), (1, .int x1), (2, .int x2), (3, .int x3), (11, .long x11), (13, .int x13), (14, .long x14), (16, .int x16)]) hx hb dX0_makeRounded_90 hl (by decide) rfl (fun ls hl => ?_)
    refine lv_iload_n hx hb dX0_makeRounded_92 rfl (lv_at hl 4 rfl) ?_
    refine lv_sipush (v := (-16382)) hx hb dX0_makeRounded_93 (by decide) ?_
    refine lv_icmp_ge (tgt := 111) hx hb dX0_makeRounded_96 (by decide) (fun c_3 => ?_) (fun c_3 => ?_)
    · refine lv_iload hx hb dX0_makeRounded_111 (lv_at hl 8 rfl) ?_
      refine lv_sipush (v := 16383) hx hb dX0_makeRounded_113 (by decide) ?_
      refine lv_icmp_le (tgt := 145) hx hb dX0_makeRounded_116 (by decide) (fun c_4 => ?_) (fun c_4 => ?_)
      · exact ct_X0_makeRounded_145 hx hb hr hml hts hown hlocks hK (Nat.le_trans (Nat.le_of_ble_eq_true rfl) hRf) (Nat.le_trans (Nat.le_of_ble_eq_true rfl) hRl) hA u x1 x2 x3 x11 x13 x14 x16 (if (lg_cmp x11 0) = 0 then 0 else 32) hr1 (show (k_X0_makeRounded_77 u x1 x2 x3 x11 x13 x14 x16) = k_X0_makeRounded_145 u x1 x2 x3 x11 x13 x14 x16 (if (lg_cmp x11 0) = 0 then 0 else 32) from by unfold k_X0_makeRounded_77; rw [if_pos c_3, if_pos c_4]) hP hD hS (lv_sub hl [1, 2, 3, 4, 5, 6, 7, 8, 0] rfl)
      · refine lv_aload_n hx hb dX0_makeRounded_119 rfl (lv_at hl 1 rfl) ?_
        refine lv_bipush (v := 8) hx hb dX0_makeRounded_120 (by decide) ?_
        refine W.callV (r := .int (f_X0_isMasked u.2.2.1 8)) (W.runV (As := [.int 8]) (rest := []) ⟨hx, hb, hml, hown, hts⟩ (c_X0_isMasked l dC dI cI cL h0 qt qf u.1 u.2.1 u.2.2.1 u.2.2.2.1 u.2.2.2.2.1 u.2.2.2.2.2 8 ) (cwV 1 hts gX0_makeRounded_X0_isMasked rfl rfl rfl (by decide +kernel) ⟨Nat.le_trans (Nat.le_of_ble_eq_true rfl) hRf, Nat.le_trans (Nat.le_of_ble_eq_true rfl) hRl⟩) (rd_preV hK hP rfl rfl) rfl rfl hl.1 rfl (lv_room (Nat.le_of_ble_eq_true rfl)) dX0_makeRounded_122 ⟨Nat.zero_le _, Nat.zero_le _⟩) ?_
        refine W.eq (g2 := F0 m 125 ls ([.int (f_X0_isMasked u.2.2.1 8)])) rfl ?_
        refine lv_if_eq (tgt := 136) hx hb dX0_makeRounded_125 (by decide) (fun c_5 => ?_) (fun c_5 => ?_)
        · refine lv_iinc (v := ((if (lg_cmp x11 0) = 0 then 0 else 32) + 8)) (lv' := [(17, .int ((if (lg_cmp x11 0) = 0 then 0 else 32) + 8)), (0, .ref h0), (1, .int x1), (2, .int x2), (3, .int x3), (11, .long x11), (13, .int x13), (14, .long x14), (16, .int x16)]) hx hb dX0_makeRounded_136 hl (k := 0) rfl rfl (by decide) rfl (fun ls hl => ?_)
          refine lv_iincW (v := (x16 + (-24576))) (lv' := [(16, .int (x16 + (-24576))), (17, .int ((if (lg_cmp x11 0) = 0 then 0 else 32) + 8)), (0, .ref h0), (1, .int x1), (2, .int x2), (3, .int x3), (11, .long x11), (13, .int x13), (14, .long x14)]) hx hb dX0_makeRounded_139 hl (k := 8) rfl rfl (by decide) rfl (fun ls hl => ?_)
          exact ct_X0_makeRounded_145 hx hb hr hml hts hown hlocks hK (Nat.le_trans (Nat.le_of_ble_eq_true rfl) hRf) (Nat.le_trans (Nat.le_of_ble_eq_true rfl) hRl) hA u x1 x2 x3 x11 x13 x14 (x16 + (-24576)) ((if (lg_cmp x11 0) = 0 then 0 else 32) + 8) hr1 (show (k_X0_makeRounded_77 u x1 x2 x3 x11 x13 x14 x16) = k_X0_makeRounded_145 u x1 x2 x3 x11 x13 x14 (x16 + (-24576)) ((if (lg_cmp x11 0) = 0 then 0 else 32) + 8) from by unfold k_X0_makeRounded_77; rw [if_pos c_3, if_neg c_4, if_pos c_5]) hP hD hS (lv_sub hl [2, 3, 4, 5, 6, 7, 8, 0, 1] rfl)
        · refine lv_aload_n hx hb dX0_makeRounded_128 rfl (lv_at hl 1 rfl) ?_
          refine lv_iload_n hx hb dX0_makeRounded_129 rfl (lv_at hl 2 rfl) ?_
          refine lv_iload_n hx hb dX0_makeRounded_130 rfl (lv_at hl 3 rfl) ?_
          refine lv_iload_n hx hb dX0_makeRounded_131 rfl (lv_at hl 4 rfl) ?_
          refine wr_calli (D := (dC, dI)) (v9 := (f_X0_makeTooGreat u.1 u.2.1 u.2.2.1 u.2.2.2.1 u.2.2.2.2.1 u.2.2.2.2.2 x1 x2 x3)) (va_runV (As := [.int x1, .int x2, .int x3]) (rest := []) ⟨hx, hb, hml, hown, hts⟩ (c_X0_makeTooGreat l dC dI cI cL h0 qt qf H.size u.1 u.2.1 u.2.2.1 u.2.2.2.1 u.2.2.2.2.1 u.2.2.2.2.2 x1 x2 x3 (by first | assumption | exact x_reg (by assumption) | exact x_regA (by assumption) | exact x_regB (by assumption))) (cwV 3 hts gX0_makeRounded_X0_makeTooGreat rfl rfl rfl (by decide +kernel) ⟨Nat.le_trans (Nat.le_of_ble_eq_true rfl) hRf, Nat.le_trans (Nat.le_of_ble_eq_true rfl) hRl⟩) (wr_preV hK hP hD rfl rfl) rfl rfl hl.1 rfl (lv_room (Nat.le_of_ble_eq_true rfl)) dX0_makeRounded_132 ⟨Nat.zero_le _, Nat.zero_le _⟩) rfl hD hS hA (fun H locs hP hD hS => ?_)
          have hP : va_P (dC, dI) vwCl [(h0, .inr (0, [.ref qt, .ref qf, .int ((f_X0_makeTooGreat u.1 u.2.1 u.2.2.1 u.2.2.2.1 u.2.2.2.2.1 u.2.2.2.2.2 x1 x2 x3).2.2.2.1), .int ((f_X0_makeTooGreat u.1 u.2.1 u.2.2.1 u.2.2.2.1 u.2.2.2.2.1 u.2.2.2.2.2 x1 x2 x3).2.2.2.2.1), .int ((f_X0_makeTooGreat u.1 u.2.1 u.2.2.1 u.2.2.2.1 u.2.2.2.2.1 u.2.2.2.2.2 x1 x2 x3).2.2.2.2.2.1), .int ((f_X0_makeTooGreat u.1 u.2.1 u.2.2.1 u.2.2.2.1 u.2.2.2.2.1 u.2.2.2.2.2 x1 x2 x3).2.2.2.2.2.2)])), (qt, .inl (cI, 8, .inl ((f_X0_makeTooGreat u.1 u.2.1 u.2.2.1 u.2.2.2.1 u.2.2.2.2.1 u.2.2.2.2.2 x1 x2 x3).2.1))), (qf, .inl (cL, 8, .inr (.inl ((f_X0_makeTooGreat u.1 u.2.1 u.2.2.1 u.2.2.2.1 u.2.2.2.2.1 u.2.2.2.2.2 x1 x2 x3).2.2.1))))] H := hP
          have hD : va_D A [(h0, .inr (0, [.ref qt, .ref qf, .int ((f_X0_makeTooGreat u.1 u.2.1 u.2.2.1 u.2.2.2.1 u.2.2.2.2.1 u.2.2.2.2.2 x1 x2 x3).2.2.2.1), .int ((f_X0_makeTooGreat u.1 u.2.1 u.2.2.1 u.2.2.2.1 u.2.2.2.2.1 u.2.2.2.2.2 x1 x2 x3).2.2.2.2.1), .int ((f_X0_makeTooGreat u.1 u.2.1 u.2.2.1 u.2.2.2.1 u.2.2.2.2.1 u.2.2.2.2.2 x1 x2 x3).2.2.2.2.2.1), .int ((f_X0_makeTooGreat u.1 u.2.1 u.2.2.1 u.2.2.2.1 u.2.2.2.2.1 u.2.2.2.2.2 x1 x2 x3).2.2.2.2.2.2)])), (qt, .inl (cI, 8, .inl ((f_X0_makeTooGreat u.1 u.2.1 u.2.2.1 u.2.2.2.1 u.2.2.2.2.1 u.2.2.2.2.2 x1 x2 x3).2.1))), (qf, .inl (cL, 8, .inr (.inl ((f_X0_makeTooGreat u.1 u.2.1 u.2.2.1 u.2.2.2.1 u.2.2.2.2.1 u.2.2.2.2.2 x1 x2 x3).2.2.1))))] := hD
          refine W.eq (g2 := F0 m 135 ls ([.int ((f_X0_makeTooGreat u.1 u.2.1 u.2.2.1 u.2.2.2.1 u.2.2.2.2.1 u.2.2.2.2.2 x1 x2 x3).1)])) rfl ?_
          exact W.iret (v := (f_X0_makeTooGreat u.1 u.2.1 u.2.2.1 u.2.2.2.1 u.2.2.2.2.1 u.2.2.2.2.2 x1 x2 x3).1) hx hb hr (fun t ht hW => ⟨⟨((f_X0_makeTooGreat u.1 u.2.1 u.2.2.1 u.2.2.2.1 u.2.2.2.2.1 u.2.2.2.2.2 x1 x2 x3).1), (f_X0_makeTooGreat u.1 u.2.1 u.2.2.1 u.2.2.2.1 u.2.2.2.2.1 u.2.2.2.2.2 x1 x2 x3).2, rfl, (w_eta (f_X0_makeTooGreat u.1 u.2.1 u.2.2.1 u.2.2.2.1 u.2.2.2.2.1 u.2.2.2.2.2 x1 x2 x3)).trans (show (k_X0_makeRounded_77 u x1 x2 x3 x11 x13 x14 x16) = (f_X0_makeTooGreat u.1 u.2.1 u.2.2.1 u.2.2.2.1 u.2.2.2.2.1 u.2.2.2.2.2 x1 x2 x3) from by unfold k_X0_makeRounded_77; rw [if_pos c_3, if_neg c_4, if_neg c_5]).symm, by rw [ht]; exact hP, hD⟩, hS.F ht⟩) hS.2.2 dX0_makeRounded_135
    · refine lv_iinc (v := ((if (lg_cmp x11 0) = 0 then 0 else 32) + 16)) (lv' := [(17, .int ((if (lg_cmp x11 0) = 0 then 0 else 32) + 16)), (0, .ref h0), (1, .int x1), (2, .int x2), (3, .int x3), (11, .long x11), (13, .int x13), (14, .long x14), (16, .int x16)]) hx hb dX0_makeRounded_99 hl (k := 0) rfl rfl (by decide) rfl (fun ls hl => ?_)
      refine lv_iincW (v := (x16 + 24576)) (lv' := [(16, .int (x16 + 24576)), (17, .int ((if (lg_cmp x11 0) = 0 then 0 else 32) + 16)), (0, .ref h0), (1, .int x1), (2, .int x2), (3, .int x3), (11, .long x11), (13, .int x13), (14, .long x14)]) hx hb dX0_makeRounded_102 hl (k := 8) rfl rfl (by decide) rfl (fun ls hl => ?_)
      refine lv_goto (tgt := 145) hx hb dX0_makeRounded_108 (by decide) ?_
      exact ct_X0_makeRounded_145 hx hb hr hml hts hown hlocks hK (Nat.le_trans (Nat.le_of_ble_eq_true rfl) hRf) (Nat.le_trans (Nat.le_of_ble_eq_true rfl) hRl) hA u x1 x2 x3 x11 x13 x14 (x16 + 24576) ((if (lg_cmp x11 0) = 0 then 0 else 32) + 16) hr1 (show (k_X0_makeRounded_77 u x1 x2 x3 x11 x13 x14 x16) = k_X0_makeRounded_145 u x1 x2 x3 x11 x13 x14 (x16 + 24576) ((if (lg_cmp x11 0) = 0 then 0 else 32) + 16) from by unfold k_X0_makeRounded_77; rw [if_neg c_3]) hP hD hS (lv_sub hl [2, 3, 4, 5, 6, 7, 8, 0, 1] rfl)
  · refine lv_if_ne (tgt := 88) hx hb dX0_makeRounded_81 (by decide) (fun c_2 => ?_) (fun c_2 => ?_)
    · refine lv_bipush (v := 32) hx hb dX0_makeRounded_88 (by decide) ?_
      exact W.eq (by rw [if_neg c_2] <;> (repeat (first | rw [if_neg c_2]))) hJ_1
    · refine lv_iconst (v := 0) hx hb dX0_makeRounded_84 (by decide) ?_
      refine lv_goto (tgt := 90) hx hb dX0_makeRounded_85 (by decide) ?_
      exact W.eq (by rw [if_pos c_2] <;> (repeat (first | rw [if_pos c_2]))) hJ_1
theorem cs_X0_makeRounded_77 {p : Program} {l : Launch} {e : Env} {R : Room} {s : State} {m : MethodId} {args : Array Value} {below : List Frame} {meth : Method} {c : Code} {dC : Nat → ClassId} {dI : Nat → Nat → Nat} {cI cL : ClassId} {h0 qt qf : Nat} {A : Nat → Prop} {v : Int32 × XS} (hx : p.tables.exec = Jvm.exec) (hb : c.code = cX0_makeRounded) (hr : meth.sig.returnType = (some .int)) (hml : c.maxLocals = 18) (hts : ∀ w ∈ wsX0_makeRounded, w.before args s = true) (hown : s.vm.findClass RX0 = some m.cls) (hlocks : meth.locks = false) (hK : va_K (dC, dI) vwCl (x_T cI cL) s) (hRf : 3 ≤ R.frames) (hRl : 65 ≤ R.locals) (hA : ∀ q : Nat, s.heap.size ≤ q → A q) (ft : Nat → Int32) (ff : Nat → Int64) (w : Int32) (lt : Int32) (lk : Int32) (lc : Int32) (x1 : Int32) (x2 : Int32) (x3 : Int32) (x11 : Int64) (x13 : Int32) (x14 : Int64) (x16 : Int32) (hr1 : vp_in x1 8) (hv : v = (k_X0_makeRounded_77 (ft, ff, w, lt, lk, lc) x1 x2 x3 x11 x13 x14 x16)) {H : Heap} {locs : List Loc} (hP : va_P (dC, dI) vwCl [(h0, .inr (0, [.ref qt, .ref qf, .int w, .int lt, .int lk, .int lc])), (qt, .inl (cI, 8, .inl ft)), (qf, .inl (cL, 8, .inr (.inl ff)))] H) (hD : va_D A [(h0, .inr (0, [.ref qt, .ref qf, .int w, .int lt, .int lk, .int lc])), (qt, .inl (cI, 8, .inl ft)), (qf, .inl (cL, 8, .inr (.inl ff)))]) (hS : va_S A s.heap H locs) {ls : Array Slot} (hl : lv_has ls 18 [(0, .ref h0), (1, .int x1), (2, .int x2), (3, .int x3), (11, .long x11), (13, .int x13), (14, .long x14), (16, .int x16)]) : W p l e R s m args below meth c H locs 0 0 (MQ below (wr_Qi (dC, dI) (x_WU cI cL h0 qt qf) v A) args s 0 0 A) (F0 m 77 ls []) := ct_X0_makeRounded_77 hx hb hr hml hts hown hlocks hK hRf hRl hA (ft, ff, w, lt, lk, lc) x1 x2 x3 x11 x13 x14 x16 hr1 hv hP hD hS hl
def k_X0_makeRounded_59 (u : XS) (x1 : Int32) (x2 : Int32) (x3 : Int32) (x11 : Int64) (x13 : Int32) (x14 : Int64) : Int32 × XS :=
  if (lg_cmp x14 0) = 0 then
    k_X0_makeRounded_77 u x1 x2 x3 x11 x13 (-9223372036854775808) (x3 + 1)
  else
    k_X0_makeRounded_77 u x1 x2 x3 x11 x13 x14 x3
set_option maxHeartbeats 1000000 in
set_option maxRecDepth 100000 in
theorem ct_X0_makeRounded_59 {p : Program} {l : Launch} {e : Env} {R : Room} {s : State} {m : MethodId} {args : Array Value} {below : List Frame} {meth : Method} {c : Code} {dC : Nat → ClassId} {dI : Nat → Nat → Nat} {cI cL : ClassId} {h0 qt qf : Nat} {A : Nat → Prop} {v : Int32 × XS} (hx : p.tables.exec = Jvm.exec) (hb : c.code = cX0_makeRounded) (hr : meth.sig.returnType = (some .int)) (hml : c.maxLocals = 18) (hts : ∀ w ∈ wsX0_makeRounded, w.before args s = true) (hown : s.vm.findClass RX0 = some m.cls) (hlocks : meth.locks = false) (hK : va_K (dC, dI) vwCl (x_T cI cL) s) (hRf : 3 ≤ R.frames) (hRl : 65 ≤ R.locals) (hA : ∀ q : Nat, s.heap.size ≤ q → A q) (u : XS) (x1 : Int32) (x2 : Int32) (x3 : Int32) (x11 : Int64) (x13 : Int32) (x14 : Int64) (hr1 : vp_in x1 8) (hv : v = (k_X0_makeRounded_59 u x1 x2 x3 x11 x13 x14)) {H : Heap} {locs : List Loc} (hP : va_P (dC, dI) vwCl [(h0, .inr (0, [.ref qt, .ref qf, .int u.2.2.1, .int u.2.2.2.1, .int u.2.2.2.2.1, .int u.2.2.2.2.2])), (qt, .inl (cI, 8, .inl u.1)), (qf, .inl (cL, 8, .inr (.inl u.2.1)))] H) (hD : va_D A [(h0, .inr (0, [.ref qt, .ref qf, .int u.2.2.1, .int u.2.2.2.1, .int u.2.2.2.2.1, .int u.2.2.2.2.2])), (qt, .inl (cI, 8, .inl u.1)), (qf, .inl (cL, 8, .inr (.inl u.2.1)))]) (hS : va_S A s.heap H locs) {ls : Array Slot} (hl : lv_has ls 18 [(0, .ref h0), (1, .int x1), (2, .int x2), (3, .int x3), (11, .long x11), (13, .int x13), (14, .long x14)]) : W p l e R s m args below meth c H locs 0 0 (MQ below (wr_Qi (dC, dI) (x_WU cI cL h0 qt qf) v A) args s 0 0 A) (F0 m 59 ls []) := by
  subst hv
  refine lv_iload_n hx hb dX0_makeRounded_59 rfl (lv_at hl 3 rfl) ?_
  refine lv_istore (lv' := [(16, .int x3), (0, .ref h0), (1, .int x1), (2, .int x2), (3, .int x3), (11, .long x11), (13, .int x13), (14, .long x14)]) hx hb dX0_makeRounded_60 hl (by decide) rfl (fun ls hl => ?_)
  refine lv_lload hx hb dX0_makeRounded_62 (lv_at hl 7 rfl) ?_
  refine lv_lconst (v := 0) hx hb dX0_makeRounded_64 (by decide) ?_
  refine W.lcmp hx hb dX0_makeRounded_65 ?_
  refine lv_if_ne (tgt := 77) hx hb dX0_makeRounded_66 (by decide) (fun c_1 => ?_) (fun c_1 => ?_)
  · exact ct_X0_makeRounded_77 hx hb hr hml hts hown hlocks hK (Nat.le_trans (Nat.le_of_ble_eq_true rfl) hRf) (Nat.le_trans (Nat.le_of_ble_eq_true rfl) hRl) hA u x1 x2 x3 x11 x13 x14 x3 hr1 (show (k_X0_makeRounded_59 u x1 x2 x3 x11 x13 x14) = k_X0_makeRounded_77 u x1 x2 x3 x11 x13 x14 x3 from by unfold k_X0_makeRounded_59; rw [if_neg c_1]) hP hD hS (lv_sub hl [1, 2, 3, 4, 5, 6, 7, 0] rfl)
  · refine lv_ldc2 (v := (-9223372036854775808)) hx hb hown (hts (.constantLong RX0 62 (-9223372036854775808)) (by decide +kernel)) dX0_makeRounded_69 ?_
    refine lv_lstore (lv' := [(14, .long (-9223372036854775808)), (16, .int x3), (0, .ref h0), (1, .int x1), (2, .int x2), (3, .int x3), (11, .long x11), (13, .int x13)]) hx hb dX0_makeRounded_72 hl (by decide) rfl (fun ls hl => ?_)
    refine lv_iinc (v := (x3 + 1)) (lv' := [(16, .int (x3 + 1)), (14, .long (-9223372036854775808)), (0, .ref h0), (1, .int x1), (2, .int x2), (3, .int x3), (11, .long x11), (13, .int x13)]) hx hb dX0_makeRounded_74 hl (k := 1) rfl rfl (by decide) rfl (fun ls hl => ?_)
    exact ct_X0_makeRounded_77 hx hb hr hml hts hown hlocks hK (Nat.le_trans (Nat.le_of_ble_eq_true rfl) hRf) (Nat.le_trans (Nat.le_of_ble_eq_true rfl) hRl) hA u x1 x2 x3 x11 x13 (-9223372036854775808) (x3 + 1) hr1 (show (k_X0_makeRounded_59 u x1 x2 x3 x11 x13 x14) = k_X0_makeRounded_77 u x1 x2 x3 x11 x13 (-9223372036854775808) (x3 + 1) from by unfold k_X0_makeRounded_59; rw [if_pos c_1]) hP hD hS (lv_sub hl [2, 3, 4, 5, 6, 7, 1, 0] rfl)
theorem cs_X0_makeRounded_59 {p : Program} {l : Launch} {e : Env} {R : Room} {s : State} {m : MethodId} {args : Array Value} {below : List Frame} {meth : Method} {c : Code} {dC : Nat → ClassId} {dI : Nat → Nat → Nat} {cI cL : ClassId} {h0 qt qf : Nat} {A : Nat → Prop} {v : Int32 × XS} (hx : p.tables.exec = Jvm.exec) (hb : c.code = cX0_makeRounded) (hr : meth.sig.returnType = (some .int)) (hml : c.maxLocals = 18) (hts : ∀ w ∈ wsX0_makeRounded, w.before args s = true) (hown : s.vm.findClass RX0 = some m.cls) (hlocks : meth.locks = false) (hK : va_K (dC, dI) vwCl (x_T cI cL) s) (hRf : 3 ≤ R.frames) (hRl : 65 ≤ R.locals) (hA : ∀ q : Nat, s.heap.size ≤ q → A q) (ft : Nat → Int32) (ff : Nat → Int64) (w : Int32) (lt : Int32) (lk : Int32) (lc : Int32) (x1 : Int32) (x2 : Int32) (x3 : Int32) (x11 : Int64) (x13 : Int32) (x14 : Int64) (hr1 : vp_in x1 8) (hv : v = (k_X0_makeRounded_59 (ft, ff, w, lt, lk, lc) x1 x2 x3 x11 x13 x14)) {H : Heap} {locs : List Loc} (hP : va_P (dC, dI) vwCl [(h0, .inr (0, [.ref qt, .ref qf, .int w, .int lt, .int lk, .int lc])), (qt, .inl (cI, 8, .inl ft)), (qf, .inl (cL, 8, .inr (.inl ff)))] H) (hD : va_D A [(h0, .inr (0, [.ref qt, .ref qf, .int w, .int lt, .int lk, .int lc])), (qt, .inl (cI, 8, .inl ft)), (qf, .inl (cL, 8, .inr (.inl ff)))]) (hS : va_S A s.heap H locs) {ls : Array Slot} (hl : lv_has ls 18 [(0, .ref h0), (1, .int x1), (2, .int x2), (3, .int x3), (11, .long x11), (13, .int x13), (14, .long x14)]) : W p l e R s m args below meth c H locs 0 0 (MQ below (wr_Qi (dC, dI) (x_WU cI cL h0 qt qf) v A) args s 0 0 A) (F0 m 59 ls []) := ct_X0_makeRounded_59 hx hb hr hml hts hown hlocks hK hRf hRl hA (ft, ff, w, lt, lk, lc) x1 x2 x3 x11 x13 x14 hr1 hv hP hD hS hl
def f_X0_makeRounded (ft : Nat → Int32) (ff : Nat → Int64) (w : Int32) (lt : Int32) (lk : Int32) (lc : Int32) (a1 : Int32) (a2 : Int32) (a3 : Int32) (a4 : Int64) (a5 : Int64) : Int32 × XS :=
  k_X0_makeRounded_59 (ft, ff, w, lt, lk, lc) a1 a2 a3 (f_X0_lostPart a4 a5 (64 - (f_X0_digits w))) (f_X0_takesAbove w (f_X0_wholePart a4 (64 - (f_X0_digits w))) (f_X0_lostPart a4 a5 (64 - (f_X0_digits w))) a2) ((if (f_X0_takesAbove w (f_X0_wholePart a4 (64 - (f_X0_digits w))) (f_X0_lostPart a4 a5 (64 - (f_X0_digits w))) a2) = 0 then (f_X0_wholePart a4 (64 - (f_X0_digits w))) else ((f_X0_wholePart a4 (64 - (f_X0_digits w))) + 1)) <<< (Int32.toInt64 (64 - (f_X0_digits w)) &&& 63))
set_option maxHeartbeats 1000000 in
set_option maxRecDepth 100000 in
theorem c_X0_makeRounded (l : Launch) (dC : Nat → ClassId) (dI : Nat → Nat → Nat) (cI cL : ClassId) (h0 qt qf : Nat) (sz : Nat) (ft : Nat → Int32) (ff : Nat → Int64) (w : Int32) (lt : Int32) (lk : Int32) (lc : Int32) (a1 : Int32) (a2 : Int32) (a3 : Int32) (a4 : Int64) (a5 : Int64) (hr1 : vp_in a1 8) : Met l yX0_makeRounded wsX0_makeRounded ({ frames := 3, cells := 0, slots := 0, locals := 67 }) (wr_Pc (dC, dI) (x_W cI cL h0 qt qf ft ff w lt lk lc) (x_T cI cL) sz [.ref h0, .int a1, .int a2, .int a3, .long a4, .long a5]) (wr_Qi (dC, dI) (x_WU cI cL h0 qt qf) (f_X0_makeRounded ft ff w lt lk lc a1 a2 a3 a4 a5) (va_A (x_W cI cL h0 qt qf ft ff w lt lk lc) sz)) 0 0 (va_A (x_W cI cL h0 qt qf ft ff w lt lk lc) sz) := by
  refine Met.ofW (cc := cX0_makeRounded) (maxL := 18) (ret := (some .int)) (by decide) rfl ?_
  intro p e s m args below meth c s₁ B hml hv
  obtain ⟨rfl, hsz, hP, hK, hD0⟩ := hv
  have hx := B.exec
  have hb := B.bytes
  have hr := B.returns
  have hts := atoms_spec (ws := wsX0_makeRounded) B.pre
  have hown : s.vm.findClass RX0 = some m.cls := findClass_of_methodNamed B.named
  have hlocks := B.notSynchronized
  subst hsz
  have hD := hD0.self (sz := s.heap.size)
  generalize hAe : va_A (x_W cI cL h0 qt qf ft ff w lt lk lc) s.heap.size = A at hD ⊢
  have hA : ∀ q : Nat, s.heap.size ≤ q → A q := fun q h => by rw [← hAe]; exact Or.inr h
  have hS : va_S A s.heap s.heap [] := va_S.rf
  have hD : va_D A [(h0, .inr (0, [.ref qt, .ref qf, .int w, .int lt, .int lk, .int lc])), (qt, .inl (cI, 8, .inl ft)), (qf, .inl (cL, 8, .inr (.inl ff)))] := hD
  have hP : va_P (dC, dI) vwCl [(h0, .inr (0, [.ref qt, .ref qf, .int w, .int lt, .int lk, .int lc])), (qt, .inl (cI, 8, .inl ft)), (qf, .inl (cL, 8, .inr (.inl ff)))] s.heap := hP
  have hl := lv_entry ([.ref h0, .int a1, .int a2, .int a3, .long a4, .long a5]) (n := 18) (Nat.le_of_ble_eq_true rfl)
  rw [lg_entry_eq]
  generalize (lg_sl ([.ref h0, .int a1, .int a2, .int a3, .long a4, .long a5]) ++ List.replicate (18 - (lg_sl ([.ref h0, .int a1, .int a2, .int a3, .long a4, .long a5])).length) Slot.unset).toArray = ls at hl ⊢
  have hl : lv_has ls 18 [(0, .ref h0), (1, .int a1), (2, .int a2), (3, .int a3), (4, .long a4), (6, .long a5)] := hl
  refine lv_bipush (v := 64) hx hb dX0_makeRounded_0 (by decide) ?_
  refine lv_aload_n hx hb dX0_makeRounded_2 rfl (lv_at hl 0 rfl) ?_
  refine W.callV (r := .int (f_X0_digits w)) (W.runV (As := []) (rest := [.int 64]) ⟨hx, hb, hml, hown, hts⟩ (c_X0_digits l dC dI cI cL h0 qt qf ft ff w lt lk lc  ) (cwV 0 hts gX0_makeRounded_X0_digits rfl rfl rfl (by decide +kernel) ⟨Nat.le_of_ble_eq_true rfl, Nat.le_of_ble_eq_true rfl⟩) (rd_preV hK hP rfl rfl) rfl rfl hl.1 rfl (lv_room (Nat.le_of_ble_eq_true rfl)) dX0_makeRounded_3 ⟨Nat.zero_le _, Nat.zero_le _⟩) ?_
  refine W.eq (g2 := F0 m 6 ls ([.int (f_X0_digits w), .int 64])) rfl ?_
  refine lv_isub hx hb dX0_makeRounded_6 ?_
  refine lv_istore (lv' := [(8, .int (64 - (f_X0_digits w))), (0, .ref h0), (1, .int a1), (2, .int a2), (3, .int a3), (4, .long a4), (6, .long a5)]) hx hb dX0_makeRounded_7 hl (by decide) rfl (fun ls hl => ?_)
  refine lv_lload hx hb dX0_makeRounded_9 (lv_at hl 5 rfl) ?_
  refine lv_iload hx hb dX0_makeRounded_11 (lv_at hl 0 rfl) ?_
  refine W.callV (r := .long (f_X0_wholePart a4 (64 - (f_X0_digits w)))) (W.runS (As := [.long a4, .int (64 - (f_X0_digits w))]) (rest := []) ⟨hx, hb, hml, hown, hts⟩ (c_X0_wholePart l a4 (64 - (f_X0_digits w)) ) (va_cwS 2 hts gX0_makeRounded_X0_wholePart rfl rfl rfl (by decide +kernel) ⟨Nat.le_of_ble_eq_true rfl, Nat.le_of_ble_eq_true rfl⟩) pu_pre rfl rfl hl.1 rfl (lv_room (Nat.le_of_ble_eq_true rfl)) dX0_makeRounded_13 ⟨Nat.zero_le _, Nat.zero_le _⟩) ?_
  refine W.eq (g2 := F0 m 16 ls ([.long (f_X0_wholePart a4 (64 - (f_X0_digits w)))])) rfl ?_
  refine lv_lstore (lv' := [(9, .long (f_X0_wholePart a4 (64 - (f_X0_digits w)))), (8, .int (64 - (f_X0_digits w))), (0, .ref h0), (1, .int a1), (2, .int a2), (3, .int a3), (4, .long a4), (6, .long a5)]) hx hb dX0_makeRounded_16 hl (by decide) rfl (fun ls hl => ?_)
  refine lv_lload hx hb dX0_makeRounded_18 (lv_at hl 6 rfl) ?_
  refine lv_lload hx hb dX0_makeRounded_20 (lv_at hl 7 rfl) ?_
  refine lv_iload hx hb dX0_makeRounded_22 (lv_at hl 1 rfl) ?_
  refine W.callV (r := .long (f_X0_lostPart a4 a5 (64 - (f_X0_digits w)))) (W.runS (As := [.long a4, .long a5, .int (64 - (f_X0_digits w))]) (rest := []) ⟨hx, hb, hml, hown, hts⟩ (c_X0_lostPart l a4 a5 (64 - (f_X0_digits w)) ) (va_cwS 3 hts gX0_makeRounded_X0_lostPart rfl rfl rfl (by decide +kernel) ⟨Nat.le_of_ble_eq_true rfl, Nat.le_of_ble_eq_true rfl⟩) pu_pre rfl rfl hl.1 rfl (lv_room (Nat.le_of_ble_eq_true rfl)) dX0_makeRounded_24 ⟨Nat.zero_le _, Nat.zero_le _⟩) ?_
  refine W.eq (g2 := F0 m 27 ls ([.long (f_X0_lostPart a4 a5 (64 - (f_X0_digits w)))])) rfl ?_
  refine lv_lstore (lv' := [(11, .long (f_X0_lostPart a4 a5 (64 - (f_X0_digits w)))), (9, .long (f_X0_wholePart a4 (64 - (f_X0_digits w)))), (8, .int (64 - (f_X0_digits w))), (0, .ref h0), (1, .int a1), (2, .int a2), (3, .int a3), (4, .long a4), (6, .long a5)]) hx hb dX0_makeRounded_27 hl (by decide) rfl (fun ls hl => ?_)
  refine lv_aload_n hx hb dX0_makeRounded_29 rfl (lv_at hl 3 rfl) ?_
  refine lv_lload hx hb dX0_makeRounded_30 (lv_at hl 1 rfl) ?_
  refine lv_lload hx hb dX0_makeRounded_32 (lv_at hl 0 rfl) ?_
  refine lv_iload_n hx hb dX0_makeRounded_34 rfl (lv_at hl 5 rfl) ?_
  refine W.callV (r := .int (f_X0_takesAbove w (f_X0_wholePart a4 (64 - (f_X0_digits w))) (f_X0_lostPart a4 a5 (64 - (f_X0_digits w))) a2)) (W.runV (As := [.long (f_X0_wholePart a4 (64 - (f_X0_digits w))), .long (f_X0_lostPart a4 a5 (64 - (f_X0_digits w))), .int a2]) (rest := []) ⟨hx, hb, hml, hown, hts⟩ (c_X0_takesAbove l dC dI cI cL h0 qt qf ft ff w lt lk lc (f_X0_wholePart a4 (64 - (f_X0_digits w))) (f_X0_lostPart a4 a5 (64 - (f_X0_digits w))) a2 ) (cwV 3 hts gX0_makeRounded_X0_takesAbove rfl rfl rfl (by decide +kernel) ⟨Nat.le_of_ble_eq_true rfl, Nat.le_of_ble_eq_true rfl⟩) (rd_preV hK hP rfl rfl) rfl rfl hl.1 rfl (lv_room (Nat.le_of_ble_eq_true rfl)) dX0_makeRounded_35 ⟨Nat.zero_le _, Nat.zero_le _⟩) ?_
  refine W.eq (g2 := F0 m 38 ls ([.int (f_X0_takesAbove w (f_X0_wholePart a4 (64 - (f_X0_digits w))) (f_X0_lostPart a4 a5 (64 - (f_X0_digits w))) a2)])) rfl ?_
  refine lv_istore (lv' := [(13, .int (f_X0_takesAbove w (f_X0_wholePart a4 (64 - (f_X0_digits w))) (f_X0_lostPart a4 a5 (64 - (f_X0_digits w))) a2)), (11, .long (f_X0_lostPart a4 a5 (64 - (f_X0_digits w)))), (9, .long (f_X0_wholePart a4 (64 - (f_X0_digits w)))), (8, .int (64 - (f_X0_digits w))), (0, .ref h0), (1, .int a1), (2, .int a2), (3, .int a3), (4, .long a4), (6, .long a5)]) hx hb dX0_makeRounded_38 hl (by decide) rfl (fun ls hl => ?_)
  refine lv_iload hx hb dX0_makeRounded_40 (lv_at hl 0 rfl) ?_
  refine w_join (F0 m 54 ls (.long (if (f_X0_takesAbove w (f_X0_wholePart a4 (64 - (f_X0_digits w))) (f_X0_lostPart a4 a5 (64 - (f_X0_digits w))) a2) = 0 then (f_X0_wholePart a4 (64 - (f_X0_digits w))) else ((f_X0_wholePart a4 (64 - (f_X0_digits w))) + 1)) :: [])) ?_ (fun hJ_1 => ?_)
  · refine lv_iload hx hb dX0_makeRounded_54 (lv_at hl 3 rfl) ?_
    refine lv_lshl hx hb dX0_makeRounded_56 rfl ?_
    refine lv_lstore (lv' := [(14, .long ((if (f_X0_takesAbove w (f_X0_wholePart a4 (64 - (f_X0_digits w))) (f_X0_lostPart a4 a5 (64 - (f_X0_digits w))) a2) = 0 then (f_X0_wholePart a4 (64 - (f_X0_digits w))) else ((f_X0_wholePart a4 (64 - (f_X0_digits w))) + 1)) <<< (Int32.toInt64 (64 - (f_X0_digits w)) &&& 63))), (13, .int (f_X0_takesAbove w (f_X0_wholePart a4 (64 - (f_X0_digits w))) (f_X0_lostPart a4 a5 (64 - (f_X0_digits w))) a2)), (11, .long (f_X0_lostPart a4 a5 (64 - (f_X0_digits w)))), (9, .long (f_X0_wholePart a4 (64 - (f_X0_digits w)))), (8, .int (64 - (f_X0_digits w))), (0, .ref h0), (1, .int a1), (2, .int a2), (3, .int a3), (4, .long a4), (6, .long a5)]) hx hb dX0_makeRounded_57 hl (by decide) rfl (fun ls hl => ?_)
    exact cs_X0_makeRounded_59 hx hb hr hml hts hown hlocks hK (Nat.le_of_ble_eq_true rfl) (Nat.le_of_ble_eq_true rfl) hA ft ff w lt lk lc a1 a2 a3 (f_X0_lostPart a4 a5 (64 - (f_X0_digits w))) (f_X0_takesAbove w (f_X0_wholePart a4 (64 - (f_X0_digits w))) (f_X0_lostPart a4 a5 (64 - (f_X0_digits w))) a2) ((if (f_X0_takesAbove w (f_X0_wholePart a4 (64 - (f_X0_digits w))) (f_X0_lostPart a4 a5 (64 - (f_X0_digits w))) a2) = 0 then (f_X0_wholePart a4 (64 - (f_X0_digits w))) else ((f_X0_wholePart a4 (64 - (f_X0_digits w))) + 1)) <<< (Int32.toInt64 (64 - (f_X0_digits w)) &&& 63)) hr1 (show (f_X0_makeRounded ft ff w lt lk lc a1 a2 a3 a4 a5) = k_X0_makeRounded_59 (ft, ff, w, lt, lk, lc) a1 a2 a3 (f_X0_lostPart a4 a5 (64 - (f_X0_digits w))) (f_X0_takesAbove w (f_X0_wholePart a4 (64 - (f_X0_digits w))) (f_X0_lostPart a4 a5 (64 - (f_X0_digits w))) a2) ((if (f_X0_takesAbove w (f_X0_wholePart a4 (64 - (f_X0_digits w))) (f_X0_lostPart a4 a5 (64 - (f_X0_digits w))) a2) = 0 then (f_X0_wholePart a4 (64 - (f_X0_digits w))) else ((f_X0_wholePart a4 (64 - (f_X0_digits w))) + 1)) <<< (Int32.toInt64 (64 - (f_X0_digits w)) &&& 63)) from by unfold f_X0_makeRounded; rfl) hP hD hS (lv_sub hl [5, 6, 7, 8, 2, 1, 0] rfl)
  · refine lv_if_eq (tgt := 52) hx hb dX0_makeRounded_42 (by decide) (fun c_2 => ?_) (fun c_2 => ?_)
    · refine lv_lload hx hb dX0_makeRounded_52 (lv_at hl 2 rfl) ?_
      exact W.eq (by rw [if_pos c_2] <;> (repeat (first | rw [if_pos c_2]))) hJ_1
    · refine lv_lload hx hb dX0_makeRounded_45 (lv_at hl 2 rfl) ?_
      refine lv_lconst (v := 1) hx hb dX0_makeRounded_47 (by decide) ?_
      refine lv_ladd hx hb dX0_makeRounded_48 ?_
      refine lv_goto (tgt := 54) hx hb dX0_makeRounded_49 (by decide) ?_
      exact W.eq (by rw [if_neg c_2] <;> (repeat (first | rw [if_neg c_2]))) hJ_1
def f_X0_makeSize (ft : Nat → Int32) (ff : Nat → Int64) (w : Int32) (lt : Int32) (lk : Int32) (lc : Int32) (a1 : Int32) (a2 : Int32) (a3 : Int32) (a4 : Int64) (a5 : Int64) : Int32 × XS :=
  if (lg_cmp a4 0) = 0 then
    (0, ((upd ft a1.toNatClampNeg ((if a2 = 0 then 0 else 32768) ||| 0)), (vp_updL ff a1.toNatClampNeg 0), w, 0, 0, 0))
  else
    if (if (-16382) ≤ a3 then false else (if (f_X0_isMasked w 16) = 0 then false else true)) = true then
      (f_X0_makeSmall ft ff w lt lk lc a1 a2 a3 a4 a5)
    else
      (f_X0_makeRounded ft ff w lt lk lc a1 a2 a3 a4 a5)
set_option maxHeartbeats 1000000 in
set_option maxRecDepth 100000 in
theorem c_X0_makeSize (l : Launch) (dC : Nat → ClassId) (dI : Nat → Nat → Nat) (cI cL : ClassId) (h0 qt qf : Nat) (sz : Nat) (ft : Nat → Int32) (ff : Nat → Int64) (w : Int32) (lt : Int32) (lk : Int32) (lc : Int32) (a1 : Int32) (a2 : Int32) (a3 : Int32) (a4 : Int64) (a5 : Int64) (hr1 : vp_in a1 8) : Met l yX0_makeSize wsX0_makeSize ({ frames := 4, cells := 0, slots := 0, locals := 104 }) (wr_Pc (dC, dI) (x_W cI cL h0 qt qf ft ff w lt lk lc) (x_T cI cL) sz [.ref h0, .int a1, .int a2, .int a3, .long a4, .long a5]) (wr_Qi (dC, dI) (x_WU cI cL h0 qt qf) (f_X0_makeSize ft ff w lt lk lc a1 a2 a3 a4 a5) (va_A (x_W cI cL h0 qt qf ft ff w lt lk lc) sz)) 0 0 (va_A (x_W cI cL h0 qt qf ft ff w lt lk lc) sz) := by
  refine Met.ofW (cc := cX0_makeSize) (maxL := 8) (ret := (some .int)) (by decide) rfl ?_
  intro p e s m args below meth c s₁ B hml hv
  obtain ⟨rfl, hsz, hP, hK, hD0⟩ := hv
  have hx := B.exec
  have hb := B.bytes
  have hr := B.returns
  have hts := atoms_spec (ws := wsX0_makeSize) B.pre
  have hown : s.vm.findClass RX0 = some m.cls := findClass_of_methodNamed B.named
  have hlocks := B.notSynchronized
  subst hsz
  have hD := hD0.self (sz := s.heap.size)
  generalize hAe : va_A (x_W cI cL h0 qt qf ft ff w lt lk lc) s.heap.size = A at hD ⊢
  have hA : ∀ q : Nat, s.heap.size ≤ q → A q := fun q h => by rw [← hAe]; exact Or.inr h
  have hS : va_S A s.heap s.heap [] := va_S.rf
  have hD : va_D A [(h0, .inr (0, [.ref qt, .ref qf, .int w, .int lt, .int lk, .int lc])), (qt, .inl (cI, 8, .inl ft)), (qf, .inl (cL, 8, .inr (.inl ff)))] := hD
  have hP : va_P (dC, dI) vwCl [(h0, .inr (0, [.ref qt, .ref qf, .int w, .int lt, .int lk, .int lc])), (qt, .inl (cI, 8, .inl ft)), (qf, .inl (cL, 8, .inr (.inl ff)))] s.heap := hP
  have hl := lv_entry ([.ref h0, .int a1, .int a2, .int a3, .long a4, .long a5]) (n := 8) (Nat.le_of_ble_eq_true rfl)
  rw [lg_entry_eq]
  generalize (lg_sl ([.ref h0, .int a1, .int a2, .int a3, .long a4, .long a5]) ++ List.replicate (8 - (lg_sl ([.ref h0, .int a1, .int a2, .int a3, .long a4, .long a5])).length) Slot.unset).toArray = ls at hl ⊢
  have hl : lv_has ls 8 [(0, .ref h0), (1, .int a1), (2, .int a2), (3, .int a3), (4, .long a4), (6, .long a5)] := hl
  refine lv_lload hx hb dX0_makeSize_0 (lv_at hl 4 rfl) ?_
  refine lv_lconst (v := 0) hx hb dX0_makeSize_2 (by decide) ?_
  refine W.lcmp hx hb dX0_makeSize_3 ?_
  refine lv_if_ne (tgt := 23) hx hb dX0_makeSize_4 (by decide) (fun c_1 => ?_) (fun c_1 => ?_)
  · refine lv_iload_n hx hb dX0_makeSize_23 rfl (lv_at hl 3 rfl) ?_
    refine lv_sipush (v := (-16382)) hx hb dX0_makeSize_24 (by decide) ?_
    by_cases cV_2 : (if (-16382) ≤ a3 then false else (if (f_X0_isMasked w 16) = 0 then false else true)) = true
    · refine w_join (F0 m 39 ls ([])) ?_ (fun hJ_3 => ?_)
      · refine lv_aload_n hx hb dX0_makeSize_39 rfl (lv_at hl 0 rfl) ?_
        refine lv_iload_n hx hb dX0_makeSize_40 rfl (lv_at hl 1 rfl) ?_
        refine lv_iload_n hx hb dX0_makeSize_41 rfl (lv_at hl 2 rfl) ?_
        refine lv_iload_n hx hb dX0_makeSize_42 rfl (lv_at hl 3 rfl) ?_
        refine lv_lload hx hb dX0_makeSize_43 (lv_at hl 4 rfl) ?_
        refine lv_lload hx hb dX0_makeSize_45 (lv_at hl 5 rfl) ?_
        refine wr_calli (D := (dC, dI)) (v9 := (f_X0_makeSmall ft ff w lt lk lc a1 a2 a3 a4 a5)) (va_runV (As := [.int a1, .int a2, .int a3, .long a4, .long a5]) (rest := []) ⟨hx, hb, hml, hown, hts⟩ (c_X0_makeSmall l dC dI cI cL h0 qt qf s.heap.size ft ff w lt lk lc a1 a2 a3 a4 a5 (by first | assumption | exact x_reg (by assumption) | exact x_regA (by assumption) | exact x_regB (by assumption))) (cwV 5 hts gX0_makeSize_X0_makeSmall rfl rfl rfl (by decide +kernel) ⟨Nat.le_of_ble_eq_true rfl, Nat.le_of_ble_eq_true rfl⟩) (wr_preV hK hP hD rfl rfl) rfl rfl hl.1 rfl (lv_room (Nat.le_of_ble_eq_true rfl)) dX0_makeSize_47 ⟨Nat.zero_le _, Nat.zero_le _⟩) rfl hD hS hA (fun H locs hP hD hS => ?_)
        have hP : va_P (dC, dI) vwCl [(h0, .inr (0, [.ref qt, .ref qf, .int ((f_X0_makeSmall ft ff w lt lk lc a1 a2 a3 a4 a5).2.2.2.1), .int ((f_X0_makeSmall ft ff w lt lk lc a1 a2 a3 a4 a5).2.2.2.2.1), .int ((f_X0_makeSmall ft ff w lt lk lc a1 a2 a3 a4 a5).2.2.2.2.2.1), .int ((f_X0_makeSmall ft ff w lt lk lc a1 a2 a3 a4 a5).2.2.2.2.2.2)])), (qt, .inl (cI, 8, .inl ((f_X0_makeSmall ft ff w lt lk lc a1 a2 a3 a4 a5).2.1))), (qf, .inl (cL, 8, .inr (.inl ((f_X0_makeSmall ft ff w lt lk lc a1 a2 a3 a4 a5).2.2.1))))] H := hP
        have hD : va_D A [(h0, .inr (0, [.ref qt, .ref qf, .int ((f_X0_makeSmall ft ff w lt lk lc a1 a2 a3 a4 a5).2.2.2.1), .int ((f_X0_makeSmall ft ff w lt lk lc a1 a2 a3 a4 a5).2.2.2.2.1), .int ((f_X0_makeSmall ft ff w lt lk lc a1 a2 a3 a4 a5).2.2.2.2.2.1), .int ((f_X0_makeSmall ft ff w lt lk lc a1 a2 a3 a4 a5).2.2.2.2.2.2)])), (qt, .inl (cI, 8, .inl ((f_X0_makeSmall ft ff w lt lk lc a1 a2 a3 a4 a5).2.1))), (qf, .inl (cL, 8, .inr (.inl ((f_X0_makeSmall ft ff w lt lk lc a1 a2 a3 a4 a5).2.2.1))))] := hD
        refine W.eq (g2 := F0 m 50 ls ([.int ((f_X0_makeSmall ft ff w lt lk lc a1 a2 a3 a4 a5).1)])) rfl ?_
        exact W.iret (v := (f_X0_makeSmall ft ff w lt lk lc a1 a2 a3 a4 a5).1) hx hb hr (fun t ht hW => ⟨⟨((f_X0_makeSmall ft ff w lt lk lc a1 a2 a3 a4 a5).1), (f_X0_makeSmall ft ff w lt lk lc a1 a2 a3 a4 a5).2, rfl, (w_eta (f_X0_makeSmall ft ff w lt lk lc a1 a2 a3 a4 a5)).trans (show (f_X0_makeSize ft ff w lt lk lc a1 a2 a3 a4 a5) = (f_X0_makeSmall ft ff w lt lk lc a1 a2 a3 a4 a5) from by unfold f_X0_makeSize; rw [if_neg c_1, if_pos cV_2]).symm, by rw [ht]; exact hP, hD⟩, hS.F ht⟩) hS.2.2 dX0_makeSize_50
      · refine lv_icmp_ge (tgt := 51) hx hb dX0_makeSize_27 (by decide) (fun c_4 => ?_) (fun c_4 => ?_)
        · exact absurd cV_2 (by rw [if_pos c_4]; exact Bool.false_ne_true)
        · refine lv_aload_n hx hb dX0_makeSize_30 rfl (lv_at hl 0 rfl) ?_
          refine lv_bipush (v := 16) hx hb dX0_makeSize_31 (by decide) ?_
          refine W.callV (r := .int (f_X0_isMasked w 16)) (W.runV (As := [.int 16]) (rest := []) ⟨hx, hb, hml, hown, hts⟩ (c_X0_isMasked l dC dI cI cL h0 qt qf ft ff w lt lk lc 16 ) (cwV 1 hts gX0_makeSize_X0_isMasked rfl rfl rfl (by decide +kernel) ⟨Nat.le_of_ble_eq_true rfl, Nat.le_of_ble_eq_true rfl⟩) (rd_preV hK hP rfl rfl) rfl rfl hl.1 rfl (lv_room (Nat.le_of_ble_eq_true rfl)) dX0_makeSize_33 ⟨Nat.zero_le _, Nat.zero_le _⟩) ?_
          refine W.eq (g2 := F0 m 36 ls ([.int (f_X0_isMasked w 16)])) rfl ?_
          refine lv_if_eq (tgt := 51) hx hb dX0_makeSize_36 (by decide) (fun c_5 => ?_) (fun c_5 => ?_)
          · exact absurd cV_2 (by rw [if_neg c_4, if_pos c_5]; exact Bool.false_ne_true)
          · exact hJ_3
    · refine w_join (F0 m 51 ls ([])) ?_ (fun hJ_3 => ?_)
      · refine lv_aload_n hx hb dX0_makeSize_51 rfl (lv_at hl 0 rfl) ?_
        refine lv_iload_n hx hb dX0_makeSize_52 rfl (lv_at hl 1 rfl) ?_
        refine lv_iload_n hx hb dX0_makeSize_53 rfl (lv_at hl 2 rfl) ?_
        refine lv_iload_n hx hb dX0_makeSize_54 rfl (lv_at hl 3 rfl) ?_
        refine lv_lload hx hb dX0_makeSize_55 (lv_at hl 4 rfl) ?_
        refine lv_lload hx hb dX0_makeSize_57 (lv_at hl 5 rfl) ?_
        refine wr_calli (D := (dC, dI)) (v9 := (f_X0_makeRounded ft ff w lt lk lc a1 a2 a3 a4 a5)) (va_runV (As := [.int a1, .int a2, .int a3, .long a4, .long a5]) (rest := []) ⟨hx, hb, hml, hown, hts⟩ (c_X0_makeRounded l dC dI cI cL h0 qt qf s.heap.size ft ff w lt lk lc a1 a2 a3 a4 a5 (by first | assumption | exact x_reg (by assumption) | exact x_regA (by assumption) | exact x_regB (by assumption))) (cwV 5 hts gX0_makeSize_X0_makeRounded rfl rfl rfl (by decide +kernel) ⟨Nat.le_of_ble_eq_true rfl, Nat.le_of_ble_eq_true rfl⟩) (wr_preV hK hP hD rfl rfl) rfl rfl hl.1 rfl (lv_room (Nat.le_of_ble_eq_true rfl)) dX0_makeSize_59 ⟨Nat.zero_le _, Nat.zero_le _⟩) rfl hD hS hA (fun H locs hP hD hS => ?_)
        have hP : va_P (dC, dI) vwCl [(h0, .inr (0, [.ref qt, .ref qf, .int ((f_X0_makeRounded ft ff w lt lk lc a1 a2 a3 a4 a5).2.2.2.1), .int ((f_X0_makeRounded ft ff w lt lk lc a1 a2 a3 a4 a5).2.2.2.2.1), .int ((f_X0_makeRounded ft ff w lt lk lc a1 a2 a3 a4 a5).2.2.2.2.2.1), .int ((f_X0_makeRounded ft ff w lt lk lc a1 a2 a3 a4 a5).2.2.2.2.2.2)])), (qt, .inl (cI, 8, .inl ((f_X0_makeRounded ft ff w lt lk lc a1 a2 a3 a4 a5).2.1))), (qf, .inl (cL, 8, .inr (.inl ((f_X0_makeRounded ft ff w lt lk lc a1 a2 a3 a4 a5).2.2.1))))] H := hP
        have hD : va_D A [(h0, .inr (0, [.ref qt, .ref qf, .int ((f_X0_makeRounded ft ff w lt lk lc a1 a2 a3 a4 a5).2.2.2.1), .int ((f_X0_makeRounded ft ff w lt lk lc a1 a2 a3 a4 a5).2.2.2.2.1), .int ((f_X0_makeRounded ft ff w lt lk lc a1 a2 a3 a4 a5).2.2.2.2.2.1), .int ((f_X0_makeRounded ft ff w lt lk lc a1 a2 a3 a4 a5).2.2.2.2.2.2)])), (qt, .inl (cI, 8, .inl ((f_X0_makeRounded ft ff w lt lk lc a1 a2 a3 a4 a5).2.1))), (qf, .inl (cL, 8, .inr (.inl ((f_X0_makeRounded ft ff w lt lk lc a1 a2 a3 a4 a5).2.2.1))))] := hD
        refine W.eq (g2 := F0 m 62 ls ([.int ((f_X0_makeRounded ft ff w lt lk lc a1 a2 a3 a4 a5).1)])) rfl ?_
        exact W.iret (v := (f_X0_makeRounded ft ff w lt lk lc a1 a2 a3 a4 a5).1) hx hb hr (fun t ht hW => ⟨⟨((f_X0_makeRounded ft ff w lt lk lc a1 a2 a3 a4 a5).1), (f_X0_makeRounded ft ff w lt lk lc a1 a2 a3 a4 a5).2, rfl, (w_eta (f_X0_makeRounded ft ff w lt lk lc a1 a2 a3 a4 a5)).trans (show (f_X0_makeSize ft ff w lt lk lc a1 a2 a3 a4 a5) = (f_X0_makeRounded ft ff w lt lk lc a1 a2 a3 a4 a5) from by unfold f_X0_makeSize; rw [if_neg c_1, if_neg cV_2]).symm, by rw [ht]; exact hP, hD⟩, hS.F ht⟩) hS.2.2 dX0_makeSize_62
      · refine lv_icmp_ge (tgt := 51) hx hb dX0_makeSize_27 (by decide) (fun c_6 => ?_) (fun c_6 => ?_)
        · exact hJ_3
        · refine lv_aload_n hx hb dX0_makeSize_30 rfl (lv_at hl 0 rfl) ?_
          refine lv_bipush (v := 16) hx hb dX0_makeSize_31 (by decide) ?_
          refine W.callV (r := .int (f_X0_isMasked w 16)) (W.runV (As := [.int 16]) (rest := []) ⟨hx, hb, hml, hown, hts⟩ (c_X0_isMasked l dC dI cI cL h0 qt qf ft ff w lt lk lc 16 ) (cwV 1 hts gX0_makeSize_X0_isMasked rfl rfl rfl (by decide +kernel) ⟨Nat.le_of_ble_eq_true rfl, Nat.le_of_ble_eq_true rfl⟩) (rd_preV hK hP rfl rfl) rfl rfl hl.1 rfl (lv_room (Nat.le_of_ble_eq_true rfl)) dX0_makeSize_33 ⟨Nat.zero_le _, Nat.zero_le _⟩) ?_
          refine W.eq (g2 := F0 m 36 ls ([.int (f_X0_isMasked w 16)])) rfl ?_
          refine lv_if_eq (tgt := 51) hx hb dX0_makeSize_36 (by decide) (fun c_7 => ?_) (fun c_7 => ?_)
          · exact hJ_3
          · exact absurd (by rw [if_neg c_6, if_neg c_7]) cV_2
  · refine lv_aload_n hx hb dX0_makeSize_7 rfl (lv_at hl 0 rfl) ?_
    refine lv_iload_n hx hb dX0_makeSize_8 rfl (lv_at hl 1 rfl) ?_
    refine lv_iload_n hx hb dX0_makeSize_9 rfl (lv_at hl 2 rfl) ?_
    refine lv_iconst (v := 0) hx hb dX0_makeSize_10 (by decide) ?_
    refine lv_lconst (v := 0) hx hb dX0_makeSize_11 (by decide) ?_
    refine wr_callv (D := (dC, dI)) (v9 := ((upd ft a1.toNatClampNeg ((if a2 = 0 then 0 else 32768) ||| 0)), (vp_updL ff a1.toNatClampNeg 0), w, lt, lk, lc)) (va_runV (As := [.int a1, .int a2, .int 0, .long 0]) (rest := []) ⟨hx, hb, hml, hown, hts⟩ (c_X0_store l dC dI cI cL h0 qt qf s.heap.size ft ff w lt lk lc a1 a2 0 0 (by first | assumption | exact x_reg (by assumption) | exact x_regA (by assumption) | exact x_regB (by assumption))) (cwV 4 hts gX0_makeSize_X0_store rfl rfl rfl (by decide +kernel) ⟨Nat.le_of_ble_eq_true rfl, Nat.le_of_ble_eq_true rfl⟩) (wr_preV hK hP hD rfl rfl) rfl rfl hl.1 rfl (lv_room (Nat.le_of_ble_eq_true rfl)) dX0_makeSize_12 ⟨Nat.zero_le _, Nat.zero_le _⟩) rfl hD hS hA (fun H locs hP hD hS => ?_)
    rw [x_WU_mk] at hP hD
    have hP : va_P (dC, dI) vwCl [(h0, .inr (0, [.ref qt, .ref qf, .int w, .int lt, .int lk, .int lc])), (qt, .inl (cI, 8, .inl (upd ft a1.toNatClampNeg ((if a2 = 0 then 0 else 32768) ||| 0)))), (qf, .inl (cL, 8, .inr (.inl (vp_updL ff a1.toNatClampNeg 0))))] H := hP
    have hD : va_D A [(h0, .inr (0, [.ref qt, .ref qf, .int w, .int lt, .int lk, .int lc])), (qt, .inl (cI, 8, .inl (upd ft a1.toNatClampNeg ((if a2 = 0 then 0 else 32768) ||| 0)))), (qf, .inl (cL, 8, .inr (.inl (vp_updL ff a1.toNatClampNeg 0))))] := hD
    refine W.eq (g2 := F0 m 15 ls ([])) rfl ?_
    refine lv_aload_n hx hb dX0_makeSize_15 rfl (lv_at hl 0 rfl) ?_
    refine lv_iconst (v := 0) hx hb dX0_makeSize_16 (by decide) ?_
    refine lv_iconst (v := 0) hx hb dX0_makeSize_17 (by decide) ?_
    refine lv_iconst (v := 0) hx hb dX0_makeSize_18 (by decide) ?_
    refine wr_calli (D := (dC, dI)) (v9 := (0, ((upd ft a1.toNatClampNeg ((if a2 = 0 then 0 else 32768) ||| 0)), (vp_updL ff a1.toNatClampNeg 0), w, 0, 0, 0))) (va_runV (As := [.int 0, .int 0, .int 0]) (rest := []) ⟨hx, hb, hml, hown, hts⟩ (c_X0_tell l dC dI cI cL h0 qt qf H.size (upd ft a1.toNatClampNeg ((if a2 = 0 then 0 else 32768) ||| 0)) (vp_updL ff a1.toNatClampNeg 0) w lt lk lc 0 0 0 ) (cwV 3 hts gX0_makeSize_X0_tell rfl rfl rfl (by decide +kernel) ⟨Nat.le_of_ble_eq_true rfl, Nat.le_of_ble_eq_true rfl⟩) (wr_preV hK hP hD rfl rfl) rfl rfl hl.1 rfl (lv_room (Nat.le_of_ble_eq_true rfl)) dX0_makeSize_19 ⟨Nat.zero_le _, Nat.zero_le _⟩) rfl hD hS hA (fun H locs hP hD hS => ?_)
    rw [x_WU_mk] at hP hD
    have hP : va_P (dC, dI) vwCl [(h0, .inr (0, [.ref qt, .ref qf, .int w, .int 0, .int 0, .int 0])), (qt, .inl (cI, 8, .inl (upd ft a1.toNatClampNeg ((if a2 = 0 then 0 else 32768) ||| 0)))), (qf, .inl (cL, 8, .inr (.inl (vp_updL ff a1.toNatClampNeg 0))))] H := hP
    have hD : va_D A [(h0, .inr (0, [.ref qt, .ref qf, .int w, .int 0, .int 0, .int 0])), (qt, .inl (cI, 8, .inl (upd ft a1.toNatClampNeg ((if a2 = 0 then 0 else 32768) ||| 0)))), (qf, .inl (cL, 8, .inr (.inl (vp_updL ff a1.toNatClampNeg 0))))] := hD
    refine W.eq (g2 := F0 m 22 ls ([.int 0])) rfl ?_
    exact W.iret (v := 0) hx hb hr (fun t ht hW => ⟨⟨0, ((upd ft a1.toNatClampNeg ((if a2 = 0 then 0 else 32768) ||| 0)), (vp_updL ff a1.toNatClampNeg 0), w, 0, 0, 0), rfl, (show (f_X0_makeSize ft ff w lt lk lc a1 a2 a3 a4 a5) = ((0, ((upd ft a1.toNatClampNeg ((if a2 = 0 then 0 else 32768) ||| 0)), (vp_updL ff a1.toNatClampNeg 0), w, 0, 0, 0)) : Int32 × XS) from by unfold f_X0_makeSize; rw [if_pos c_1]).symm, by rw [ht, x_WU_mk]; exact hP, by rw [x_WU_mk]; exact hD⟩, hS.F ht⟩) hS.2.2 dX0_makeSize_22
