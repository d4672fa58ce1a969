def f_X0_isNoRegister (a1 : Int32) : Int32 :=
  (if a1 < 0 then 1 else (if a1 < 8 then 0 else 1))
theorem nb_X0_isNoRegister (a1 : Int32) : narrow .boolean (.int (f_X0_isNoRegister a1)) = .int (f_X0_isNoRegister a1) := by
  unfold f_X0_isNoRegister
  (repeat' split) <;> first | rfl
set_option maxHeartbeats 1000000 in
set_option maxRecDepth 100000 in
theorem c_X0_isNoRegister (l : Launch) (a1 : Int32) : Met l yX0_isNoRegister wsX0_isNoRegister ({ frames := 0, cells := 0, slots := 0, locals := 0 }) (va_Pc [.int a1] (fun _ => True)) (k2_QcV (.int (f_X0_isNoRegister a1))) 0 0 (fun _ => False) := by
  refine Met.ofW (cc := cX0_isNoRegister) (maxL := 1) (ret := (some .boolean)) (by decide) rfl ?_
  intro p e s m args below meth c s₁ B hml hv
  obtain ⟨rfl, -⟩ := hv
  have hx := B.exec
  have hb := B.bytes
  have hr := B.returns
  have hts := atoms_spec (ws := wsX0_isNoRegister) B.pre
  have hown : s.vm.findClass RX0 = some m.cls := findClass_of_methodNamed B.named
  have hlocks := B.notSynchronized
  have hl := lv_entry ([.int a1]) (n := 1) (Nat.le_of_ble_eq_true rfl)
  rw [lg_entry_eq]
  generalize (lg_sl ([.int a1]) ++ List.replicate (1 - (lg_sl ([.int a1])).length) Slot.unset).toArray = ls at hl ⊢
  have hl : lv_has ls 1 [(0, .int a1)] := hl
  refine lv_iload_n hx hb dX0_isNoRegister_0 rfl (lv_at hl 0 rfl) ?_
  refine w_join (F0 m 15 ls (.int (if a1 < 0 then 1 else (if a1 < 8 then 0 else 1)) :: [])) ?_ (fun hJ_1 => ?_)
  · refine w_asi (y := (f_X0_isNoRegister a1)) (by unfold f_X0_isNoRegister; rfl) ?_
    exact W.zret (v := (f_X0_isNoRegister a1)) (ty := .boolean) hx hb hr (nb_X0_isNoRegister ..) (fun t ht _ => ⟨rfl, ht⟩) (fun _ h => nomatch h) dX0_isNoRegister_15
  · refine lv_if_lt (tgt := 10) hx hb dX0_isNoRegister_1 (by decide) (fun c_2 => ?_) (fun c_2 => ?_)
    · refine lv_iconst (v := 1) hx hb dX0_isNoRegister_10 (by decide) ?_
      refine lv_goto (tgt := 15) hx hb dX0_isNoRegister_11 (by decide) ?_
      exact W.eq (by rw [if_pos c_2] <;> (repeat (first | rw [if_pos c_2]))) hJ_1
    · refine lv_iload_n hx hb dX0_isNoRegister_4 rfl (lv_at hl 0 rfl) ?_
      refine lv_bipush (v := 8) hx hb dX0_isNoRegister_5 (by decide) ?_
      refine lv_icmp_lt (tgt := 14) hx hb dX0_isNoRegister_7 (by decide) (fun c_3 => ?_) (fun c_3 => ?_)
      · refine lv_iconst (v := 0) hx hb dX0_isNoRegister_14 (by decide) ?_
        exact W.eq (by rw [if_neg c_2, if_pos c_3] <;> (repeat (first | rw [if_neg c_2] | rw [if_pos c_3]))) hJ_1
      · refine lv_iconst (v := 1) hx hb dX0_isNoRegister_10 (by decide) ?_
        refine lv_goto (tgt := 15) hx hb dX0_isNoRegister_11 (by decide) ?_
        exact W.eq (by rw [if_neg c_2, if_neg c_3] <;> (repeat (first | rw [if_neg c_2] | rw [if_neg c_3]))) hJ_1
theorem x_reg {r : Int32} (h : f_X0_isNoRegister r = 0) : vp_in r 8 := by
  unfold f_X0_isNoRegister at h
  unfold vp_in
  by_cases c1 : r < 0
  · rw [if_pos c1] at h; exact absurd h (by decide)
  · rw [if_neg c1] at h
    by_cases c2 : r < 8
    · rintro (h3 | h3)
      · exact c1 h3
      · obtain ⟨j, hj, rfl⟩ := nI_of c1
        rw [nI_clamp hj] at h3
        exact nI_nlt h3 hj c2
    · rw [if_neg c2] at h; exact absurd h (by decide)
theorem x_regA {r : Int32} {X : Bool} (h : ¬ (if f_X0_isNoRegister r = 0 then X else true) = true) : vp_in r 8 := by
  by_cases c : f_X0_isNoRegister r = 0
  · exact x_reg c
  · rw [if_neg c] at h; exact absurd rfl h
theorem x_regB {r : Int32} {C : Prop} [Decidable C] (h : ¬ (if C then (if f_X0_isNoRegister r = 0 then false else true) else true) = true) : vp_in r 8 := by
  by_cases c1 : C
  · rw [if_pos c1] at h
    by_cases c : f_X0_isNoRegister r = 0
    · exact x_reg c
    · rw [if_neg c] at h; exact absurd rfl h
  · rw [if_neg c1] at h; exact absurd rfl h
def f_X0_hasMoreThan16Bits (a1 : Int32) : Int32 :=
  (if a1 < 0 then 1 else (if a1 ≤ 65535 then 0 else 1))
theorem nb_X0_hasMoreThan16Bits (a1 : Int32) : narrow .boolean (.int (f_X0_hasMoreThan16Bits a1)) = .int (f_X0_hasMoreThan16Bits a1) := by
  unfold f_X0_hasMoreThan16Bits
  (repeat' split) <;> first | rfl
set_option maxHeartbeats 1000000 in
set_option maxRecDepth 100000 in
theorem c_X0_hasMoreThan16Bits (l : Launch) (a1 : Int32) : Met l yX0_hasMoreThan16Bits wsX0_hasMoreThan16Bits ({ frames := 0, cells := 0, slots := 0, locals := 0 }) (va_Pc [.int a1] (fun _ => True)) (k2_QcV (.int (f_X0_hasMoreThan16Bits a1))) 0 0 (fun _ => False) := by
  refine Met.ofW (cc := cX0_hasMoreThan16Bits) (maxL := 1) (ret := (some .boolean)) (by decide) rfl ?_
  intro p e s m args below meth c s₁ B hml hv
  obtain ⟨rfl, -⟩ := hv
  have hx := B.exec
  have hb := B.bytes
  have hr := B.returns
  have hts := atoms_spec (ws := wsX0_hasMoreThan16Bits) B.pre
  have hown : s.vm.findClass RX0 = some m.cls := findClass_of_methodNamed B.named
  have hlocks := B.notSynchronized
  have hl := lv_entry ([.int a1]) (n := 1) (Nat.le_of_ble_eq_true rfl)
  rw [lg_entry_eq]
  generalize (lg_sl ([.int a1]) ++ List.replicate (1 - (lg_sl ([.int a1])).length) Slot.unset).toArray = ls at hl ⊢
  have hl : lv_has ls 1 [(0, .int a1)] := hl
  refine lv_iload_n hx hb dX0_hasMoreThan16Bits_0 rfl (lv_at hl 0 rfl) ?_
  refine w_join (F0 m 15 ls (.int (if a1 < 0 then 1 else (if a1 ≤ 65535 then 0 else 1)) :: [])) ?_ (fun hJ_1 => ?_)
  · refine w_asi (y := (f_X0_hasMoreThan16Bits a1)) (by unfold f_X0_hasMoreThan16Bits; rfl) ?_
    exact W.zret (v := (f_X0_hasMoreThan16Bits a1)) (ty := .boolean) hx hb hr (nb_X0_hasMoreThan16Bits ..) (fun t ht _ => ⟨rfl, ht⟩) (fun _ h => nomatch h) dX0_hasMoreThan16Bits_15
  · refine lv_if_lt (tgt := 10) hx hb dX0_hasMoreThan16Bits_1 (by decide) (fun c_2 => ?_) (fun c_2 => ?_)
    · refine lv_iconst (v := 1) hx hb dX0_hasMoreThan16Bits_10 (by decide) ?_
      refine lv_goto (tgt := 15) hx hb dX0_hasMoreThan16Bits_11 (by decide) ?_
      exact W.eq (by rw [if_pos c_2] <;> (repeat (first | rw [if_pos c_2]))) hJ_1
    · refine lv_iload_n hx hb dX0_hasMoreThan16Bits_4 rfl (lv_at hl 0 rfl) ?_
      refine lv_ldc (v := 65535) hx hb hown (hts (.constant RX0 126 65535) (by decide +kernel)) dX0_hasMoreThan16Bits_5 ?_
      refine lv_icmp_le (tgt := 14) hx hb dX0_hasMoreThan16Bits_7 (by decide) (fun c_3 => ?_) (fun c_3 => ?_)
      · refine lv_iconst (v := 0) hx hb dX0_hasMoreThan16Bits_14 (by decide) ?_
        exact W.eq (by rw [if_neg c_2, if_pos c_3] <;> (repeat (first | rw [if_neg c_2] | rw [if_pos c_3]))) hJ_1
      · refine lv_iconst (v := 1) hx hb dX0_hasMoreThan16Bits_10 (by decide) ?_
        refine lv_goto (tgt := 15) hx hb dX0_hasMoreThan16Bits_11 (by decide) ?_
        exact W.eq (by rw [if_neg c_2, if_neg c_3] <;> (repeat (first | rw [if_neg c_2] | rw [if_neg c_3]))) hJ_1
def f_X0_join (a1 : Int32) (a2 : Int32) : Int64 :=
  (((Int32.toInt64 a1) <<< (Int32.toInt64 32 &&& 63)) ||| ((Int32.toInt64 a2) &&& 4294967295))
set_option maxHeartbeats 1000000 in
set_option maxRecDepth 100000 in
theorem c_X0_join (l : Launch) (a1 : Int32) (a2 : Int32) : Met l yX0_join wsX0_join ({ frames := 0, cells := 0, slots := 0, locals := 0 }) (va_Pc [.int a1, .int a2] (fun _ => True)) (k2_QcV (.long (f_X0_join a1 a2))) 0 0 (fun _ => False) := by
  refine Met.ofW (cc := cX0_join) (maxL := 2) (ret := (some .long)) (by decide) rfl ?_
  intro p e s m args below meth c s₁ B hml hv
  obtain ⟨rfl, -⟩ := hv
  have hx := B.exec
  have hb := B.bytes
  have hr := B.returns
  have hts := atoms_spec (ws := wsX0_join) B.pre
  have hown : s.vm.findClass RX0 = some m.cls := findClass_of_methodNamed B.named
  have hlocks := B.notSynchronized
  have hl := lv_entry ([.int a1, .int a2]) (n := 2) (Nat.le_of_ble_eq_true rfl)
  rw [lg_entry_eq]
  generalize (lg_sl ([.int a1, .int a2]) ++ List.replicate (2 - (lg_sl ([.int a1, .int a2])).length) Slot.unset).toArray = ls at hl ⊢
  have hl : lv_has ls 2 [(0, .int a1), (1, .int a2)] := hl
  refine lv_iload_n hx hb dX0_join_0 rfl (lv_at hl 0 rfl) ?_
  refine lv_i2l hx hb dX0_join_1 rfl ?_
  refine lv_bipush (v := 32) hx hb dX0_join_2 (by decide) ?_
  refine lv_lshl hx hb dX0_join_4 rfl ?_
  refine lv_iload_n hx hb dX0_join_5 rfl (lv_at hl 1 rfl) ?_
  refine lv_i2l hx hb dX0_join_6 rfl ?_
  refine lv_ldc2 (v := 4294967295) hx hb hown (hts (.constantLong RX0 127 4294967295) (by decide +kernel)) dX0_join_7 ?_
  refine lv_land hx hb dX0_join_10 ?_
  refine lv_lor hx hb dX0_join_11 ?_
  refine w_asl (y := (f_X0_join a1 a2)) (by unfold f_X0_join; rfl) ?_
  exact W.lret (v := (f_X0_join a1 a2)) hx hb hr (fun t ht _ => ⟨rfl, ht⟩) (fun _ h => nomatch h) dX0_join_12
def f_X0_shiftIn (a1 : Int64) (a2 : Int64) (a3 : Int32) : Int64 :=
  if 0 < a3 then
    if a3 < 64 then
      ((a1 <<< (Int32.toInt64 a3 &&& 63)) ||| ((Int64.toUInt64 a2 >>> ((Int32.toInt64 (64 - a3)).toUInt64 &&& Int64.toUInt64 63)).toInt64))
    else
      a2
  else
    a1
set_option maxHeartbeats 1000000 in
set_option maxRecDepth 100000 in
theorem c_X0_shiftIn (l : Launch) (a1 : Int64) (a2 : Int64) (a3 : Int32) : Met l yX0_shiftIn wsX0_shiftIn ({ frames := 0, cells := 0, slots := 0, locals := 0 }) (va_Pc [.long a1, .long a2, .int a3] (fun _ => True)) (k2_QcV (.long (f_X0_shiftIn a1 a2 a3))) 0 0 (fun _ => False) := by
  refine Met.ofW (cc := cX0_shiftIn) (maxL := 5) (ret := (some .long)) (by decide) rfl ?_
  intro p e s m args below meth c s₁ B hml hv
  obtain ⟨rfl, -⟩ := hv
  have hx := B.exec
  have hb := B.bytes
  have hr := B.returns
  have hts := atoms_spec (ws := wsX0_shiftIn) B.pre
  have hown : s.vm.findClass RX0 = some m.cls := findClass_of_methodNamed B.named
  have hlocks := B.notSynchronized
  have hl := lv_entry ([.long a1, .long a2, .int a3]) (n := 5) (Nat.le_of_ble_eq_true rfl)
  rw [lg_entry_eq]
  generalize (lg_sl ([.long a1, .long a2, .int a3]) ++ List.replicate (5 - (lg_sl ([.long a1, .long a2, .int a3])).length) Slot.unset).toArray = ls at hl ⊢
  have hl : lv_has ls 5 [(0, .long a1), (2, .long a2), (4, .int a3)] := hl
  refine lv_iload hx hb dX0_shiftIn_0 (lv_at hl 2 rfl) ?_
  refine lv_if_gt (tgt := 7) hx hb dX0_shiftIn_2 (by decide) (fun c_1 => ?_) (fun c_1 => ?_)
  · refine lv_iload hx hb dX0_shiftIn_7 (lv_at hl 2 rfl) ?_
    refine lv_bipush (v := 64) hx hb dX0_shiftIn_9 (by decide) ?_
    refine lv_icmp_lt (tgt := 16) hx hb dX0_shiftIn_11 (by decide) (fun c_2 => ?_) (fun c_2 => ?_)
    · refine lv_lload_n hx hb dX0_shiftIn_16 rfl (lv_at hl 0 rfl) ?_
      refine lv_iload hx hb dX0_shiftIn_17 (lv_at hl 2 rfl) ?_
      refine lv_lshl hx hb dX0_shiftIn_19 rfl ?_
      refine lv_lload_n hx hb dX0_shiftIn_20 rfl (lv_at hl 1 rfl) ?_
      refine lv_bipush (v := 64) hx hb dX0_shiftIn_21 (by decide) ?_
      refine lv_iload hx hb dX0_shiftIn_23 (lv_at hl 2 rfl) ?_
      refine lv_isub hx hb dX0_shiftIn_25 ?_
      refine lv_lushr hx hb dX0_shiftIn_26 rfl ?_
      refine lv_lor hx hb dX0_shiftIn_27 ?_
      refine w_asl (y := (f_X0_shiftIn a1 a2 a3)) (by unfold f_X0_shiftIn; rw [if_pos c_1, if_pos c_2]) ?_
      exact W.lret (v := (f_X0_shiftIn a1 a2 a3)) hx hb hr (fun t ht _ => ⟨rfl, ht⟩) (fun _ h => nomatch h) dX0_shiftIn_28
    · refine lv_lload_n hx hb dX0_shiftIn_14 rfl (lv_at hl 1 rfl) ?_
      refine w_asl (y := (f_X0_shiftIn a1 a2 a3)) (by unfold f_X0_shiftIn; rw [if_pos c_1, if_neg c_2]) ?_
      exact W.lret (v := (f_X0_shiftIn a1 a2 a3)) hx hb hr (fun t ht _ => ⟨rfl, ht⟩) (fun _ h => nomatch h) dX0_shiftIn_15
  · refine lv_lload_n hx hb dX0_shiftIn_5 rfl (lv_at hl 0 rfl) ?_
    refine w_asl (y := (f_X0_shiftIn a1 a2 a3)) (by unfold f_X0_shiftIn; rw [if_neg c_1]) ?_
    exact W.lret (v := (f_X0_shiftIn a1 a2 a3)) hx hb hr (fun t ht _ => ⟨rfl, ht⟩) (fun _ h => nomatch h) dX0_shiftIn_6
def f_X0_wholePart (a1 : Int64) (a2 : Int32) : Int64 :=
  (if a2 < 64 then (Int64.toUInt64 a1 >>> ((Int32.toInt64 a2).toUInt64 &&& Int64.toUInt64 63)).toInt64 else 0)
set_option maxHeartbeats 1000000 in
set_option maxRecDepth 100000 in
theorem c_X0_wholePart (l : Launch) (a1 : Int64) (a2 : Int32) : Met l yX0_wholePart wsX0_wholePart ({ frames := 0, cells := 0, slots := 0, locals := 0 }) (va_Pc [.long a1, .int a2] (fun _ => True)) (k2_QcV (.long (f_X0_wholePart a1 a2))) 0 0 (fun _ => False) := by
  refine Met.ofW (cc := cX0_wholePart) (maxL := 3) (ret := (some .long)) (by decide) rfl ?_
  intro p e s m args below meth c s₁ B hml hv
  obtain ⟨rfl, -⟩ := hv
  have hx := B.exec
  have hb := B.bytes
  have hr := B.returns
  have hts := atoms_spec (ws := wsX0_wholePart) B.pre
  have hown : s.vm.findClass RX0 = some m.cls := findClass_of_methodNamed B.named
  have hlocks := B.notSynchronized
  have hl := lv_entry ([.long a1, .int a2]) (n := 3) (Nat.le_of_ble_eq_true rfl)
  rw [lg_entry_eq]
  generalize (lg_sl ([.long a1, .int a2]) ++ List.replicate (3 - (lg_sl ([.long a1, .int a2])).length) Slot.unset).toArray = ls at hl ⊢
  have hl : lv_has ls 3 [(0, .long a1), (2, .int a2)] := hl
  refine lv_iload_n hx hb dX0_wholePart_0 rfl (lv_at hl 1 rfl) ?_
  refine lv_bipush (v := 64) hx hb dX0_wholePart_1 (by decide) ?_
  refine w_join (F0 m 13 ls (.long (if a2 < 64 then (Int64.toUInt64 a1 >>> ((Int32.toInt64 a2).toUInt64 &&& Int64.toUInt64 63)).toInt64 else 0) :: [])) ?_ (fun hJ_1 => ?_)
  · refine w_asl (y := (f_X0_wholePart a1 a2)) (by unfold f_X0_wholePart; rfl) ?_
    exact W.lret (v := (f_X0_wholePart a1 a2)) hx hb hr (fun t ht _ => ⟨rfl, ht⟩) (fun _ h => nomatch h) dX0_wholePart_13
  · refine lv_icmp_lt (tgt := 10) hx hb dX0_wholePart_3 (by decide) (fun c_2 => ?_) (fun c_2 => ?_)
    · refine lv_lload_n hx hb dX0_wholePart_10 rfl (lv_at hl 0 rfl) ?_
      refine lv_iload_n hx hb dX0_wholePart_11 rfl (lv_at hl 1 rfl) ?_
      refine lv_lushr hx hb dX0_wholePart_12 rfl ?_
      exact W.eq (by rw [if_pos c_2] <;> (repeat (first | rw [if_pos c_2]))) hJ_1
    · refine lv_lconst (v := 0) hx hb dX0_wholePart_6 (by decide) ?_
      refine lv_goto (tgt := 13) hx hb dX0_wholePart_7 (by decide) ?_
      exact W.eq (by rw [if_neg c_2] <;> (repeat (first | rw [if_neg c_2]))) hJ_1
def f_X0_lostPart (a1 : Int64) (a2 : Int64) (a3 : Int32) : Int64 :=
  if 0 < a3 then
    if a3 ≤ 64 then
      (if (lg_cmp a2 0) = 0 then (a1 <<< (Int32.toInt64 (64 - a3) &&& 63)) else ((a1 <<< (Int32.toInt64 (64 - a3) &&& 63)) ||| 1))
    else
      1
  else
    a2
set_option maxHeartbeats 1000000 in
set_option maxRecDepth 100000 in
theorem c_X0_lostPart (l : Launch) (a1 : Int64) (a2 : Int64) (a3 : Int32) : Met l yX0_lostPart wsX0_lostPart ({ frames := 0, cells := 0, slots := 0, locals := 0 }) (va_Pc [.long a1, .long a2, .int a3] (fun _ => True)) (k2_QcV (.long (f_X0_lostPart a1 a2 a3))) 0 0 (fun _ => False) := by
  refine Met.ofW (cc := cX0_lostPart) (maxL := 7) (ret := (some .long)) (by decide) rfl ?_
  intro p e s m args below meth c s₁ B hml hv
  obtain ⟨rfl, -⟩ := hv
  have hx := B.exec
  have hb := B.bytes
  have hr := B.returns
  have hts := atoms_spec (ws := wsX0_lostPart) B.pre
  have hown : s.vm.findClass RX0 = some m.cls := findClass_of_methodNamed B.named
  have hlocks := B.notSynchronized
  have hl := lv_entry ([.long a1, .long a2, .int a3]) (n := 7) (Nat.le_of_ble_eq_true rfl)
  rw [lg_entry_eq]
  generalize (lg_sl ([.long a1, .long a2, .int a3]) ++ List.replicate (7 - (lg_sl ([.long a1, .long a2, .int a3])).length) Slot.unset).toArray = ls at hl ⊢
  have hl : lv_has ls 7 [(0, .long a1), (2, .long a2), (4, .int a3)] := hl
  refine lv_iload hx hb dX0_lostPart_0 (lv_at hl 2 rfl) ?_
  refine lv_if_gt (tgt := 7) hx hb dX0_lostPart_2 (by decide) (fun c_1 => ?_) (fun c_1 => ?_)
  · refine lv_iload hx hb dX0_lostPart_7 (lv_at hl 2 rfl) ?_
    refine lv_bipush (v := 64) hx hb dX0_lostPart_9 (by decide) ?_
    refine lv_icmp_le (tgt := 16) hx hb dX0_lostPart_11 (by decide) (fun c_2 => ?_) (fun c_2 => ?_)
    · refine lv_lload_n hx hb dX0_lostPart_16 rfl (lv_at hl 0 rfl) ?_
      refine lv_bipush (v := 64) hx hb dX0_lostPart_17 (by decide) ?_
      refine lv_iload hx hb dX0_lostPart_19 (lv_at hl 2 rfl) ?_
      refine lv_isub hx hb dX0_lostPart_21 ?_
      refine lv_lshl hx hb dX0_lostPart_22 rfl ?_
      refine lv_lstore (lv' := [(5, .long (a1 <<< (Int32.toInt64 (64 - a3) &&& 63))), (0, .long a1), (2, .long a2), (4, .int a3)]) hx hb dX0_lostPart_23 hl (by decide) rfl (fun ls hl => ?_)
      refine lv_lload_n hx hb dX0_lostPart_25 rfl (lv_at hl 2 rfl) ?_
      refine lv_lconst (v := 0) hx hb dX0_lostPart_26 (by decide) ?_
      refine W.lcmp hx hb dX0_lostPart_27 ?_
      refine w_join (F0 m 40 ls (.long (if (lg_cmp a2 0) = 0 then (a1 <<< (Int32.toInt64 (64 - a3) &&& 63)) else ((a1 <<< (Int32.toInt64 (64 - a3) &&& 63)) ||| 1)) :: [])) ?_ (fun hJ_3 => ?_)
      · refine w_asl (y := (f_X0_lostPart a1 a2 a3)) (by unfold f_X0_lostPart; rw [if_pos c_1, if_pos c_2]) ?_
        exact W.lret (v := (f_X0_lostPart a1 a2 a3)) hx hb hr (fun t ht _ => ⟨rfl, ht⟩) (fun _ h => nomatch h) dX0_lostPart_40
      · refine lv_if_ne (tgt := 36) hx hb dX0_lostPart_28 (by decide) (fun c_4 => ?_) (fun c_4 => ?_)
        · refine lv_lload hx hb dX0_lostPart_36 (lv_at hl 0 rfl) ?_
          refine lv_lconst (v := 1) hx hb dX0_lostPart_38 (by decide) ?_
          refine lv_lor hx hb dX0_lostPart_39 ?_
          exact W.eq (by rw [if_neg c_4] <;> (repeat (first | rw [if_neg c_4]))) hJ_3
        · refine lv_lload hx hb dX0_lostPart_31 (lv_at hl 0 rfl) ?_
          refine lv_goto (tgt := 40) hx hb dX0_lostPart_33 (by decide) ?_
          exact W.eq (by rw [if_pos c_4] <;> (repeat (first | rw [if_pos c_4]))) hJ_3
    · refine lv_lconst (v := 1) hx hb dX0_lostPart_14 (by decide) ?_
      refine w_asl (y := (f_X0_lostPart a1 a2 a3)) (by unfold f_X0_lostPart; rw [if_pos c_1, if_neg c_2]) ?_
      exact W.lret (v := (f_X0_lostPart a1 a2 a3)) hx hb hr (fun t ht _ => ⟨rfl, ht⟩) (fun _ h => nomatch h) dX0_lostPart_15
  · refine lv_lload_n hx hb dX0_lostPart_5 rfl (lv_at hl 1 rfl) ?_
    refine w_asl (y := (f_X0_lostPart a1 a2 a3)) (by unfold f_X0_lostPart; rw [if_neg c_1]) ?_
    exact W.lret (v := (f_X0_lostPart a1 a2 a3)) hx hb hr (fun t ht _ => ⟨rfl, ht⟩) (fun _ h => nomatch h) dX0_lostPart_6
def f_X0_changeOf (a1 : Int64) (a2 : Int32) : Int32 :=
  if (lg_cmp a1 0) = 0 then
    0
  else
    (if a2 = 0 then (-1) else 1)
set_option maxHeartbeats 1000000 in
set_option maxRecDepth 100000 in
theorem c_X0_changeOf (l : Launch) (a1 : Int64) (a2 : Int32) : Met l yX0_changeOf wsX0_changeOf ({ frames := 0, cells := 0, slots := 0, locals := 0 }) (va_Pc [.long a1, .int a2] (fun _ => True)) (k2_QcV (.int (f_X0_changeOf a1 a2))) 0 0 (fun _ => False) := by
  refine Met.ofW (cc := cX0_changeOf) (maxL := 3) (ret := (some .int)) (by decide) rfl ?_
  intro p e s m args below meth c s₁ B hml hv
  obtain ⟨rfl, -⟩ := hv
  have hx := B.exec
  have hb := B.bytes
  have hr := B.returns
  have hts := atoms_spec (ws := wsX0_changeOf) B.pre
  have hown : s.vm.findClass RX0 = some m.cls := findClass_of_methodNamed B.named
  have hlocks := B.notSynchronized
  have hl := lv_entry ([.long a1, .int a2]) (n := 3) (Nat.le_of_ble_eq_true rfl)
  rw [lg_entry_eq]
  generalize (lg_sl ([.long a1, .int a2]) ++ List.replicate (3 - (lg_sl ([.long a1, .int a2])).length) Slot.unset).toArray = ls at hl ⊢
  have hl : lv_has ls 3 [(0, .long a1), (2, .int a2)] := hl
  refine lv_lload_n hx hb dX0_changeOf_0 rfl (lv_at hl 0 rfl) ?_
  refine lv_lconst (v := 0) hx hb dX0_changeOf_1 (by decide) ?_
  refine W.lcmp hx hb dX0_changeOf_2 ?_
  refine lv_if_ne (tgt := 8) hx hb dX0_changeOf_3 (by decide) (fun c_1 => ?_) (fun c_1 => ?_)
  · refine lv_iload_n hx hb dX0_changeOf_8 rfl (lv_at hl 1 rfl) ?_
    refine w_join (F0 m 17 ls (.int (if a2 = 0 then (-1) else 1) :: [])) ?_ (fun hJ_2 => ?_)
    · refine w_asi (y := (f_X0_changeOf a1 a2)) (by unfold f_X0_changeOf; rw [if_neg c_1]) ?_
      exact W.iret (v := (f_X0_changeOf a1 a2)) hx hb hr (fun t ht _ => ⟨rfl, ht⟩) (fun _ h => nomatch h) dX0_changeOf_17
    · refine lv_if_eq (tgt := 16) hx hb dX0_changeOf_9 (by decide) (fun c_3 => ?_) (fun c_3 => ?_)
      · refine lv_iconst (v := (-1)) hx hb dX0_changeOf_16 (by decide) ?_
        exact W.eq (by rw [if_pos c_3] <;> (repeat (first | rw [if_pos c_3]))) hJ_2
      · refine lv_iconst (v := 1) hx hb dX0_changeOf_12 (by decide) ?_
        refine lv_goto (tgt := 17) hx hb dX0_changeOf_13 (by decide) ?_
        exact W.eq (by rw [if_neg c_3] <;> (repeat (first | rw [if_neg c_3]))) hJ_2
  · refine lv_iconst (v := 0) hx hb dX0_changeOf_6 (by decide) ?_
    refine w_asi (y := (f_X0_changeOf a1 a2)) (by unfold f_X0_changeOf; rw [if_pos c_1]) ?_
    exact W.iret (v := (f_X0_changeOf a1 a2)) hx hb hr (fun t ht _ => ⟨rfl, ht⟩) (fun _ h => nomatch h) dX0_changeOf_7
