def f_JI_numberOfLeadingZeros (a1 : Int32) : Int32 :=
  if 0 < a1 then
    if a1 < 65536 then
      if a1 < 256 then
        if a1 < 16 then
          if a1 < 4 then
            (31 - ((Int32.toUInt32 a1 >>> (Int32.toUInt32 1 &&& Int32.toUInt32 31)).toInt32))
          else
            ((31 + (-2)) - ((Int32.toUInt32 ((Int32.toUInt32 a1 >>> (Int32.toUInt32 2 &&& Int32.toUInt32 31)).toInt32) >>> (Int32.toUInt32 1 &&& Int32.toUInt32 31)).toInt32))
        else
          if ((Int32.toUInt32 a1 >>> (Int32.toUInt32 4 &&& Int32.toUInt32 31)).toInt32) < 4 then
            ((31 + (-4)) - ((Int32.toUInt32 ((Int32.toUInt32 a1 >>> (Int32.toUInt32 4 &&& Int32.toUInt32 31)).toInt32) >>> (Int32.toUInt32 1 &&& Int32.toUInt32 31)).toInt32))
          else
            (((31 + (-4)) + (-2)) - ((Int32.toUInt32 ((Int32.toUInt32 ((Int32.toUInt32 a1 >>> (Int32.toUInt32 4 &&& Int32.toUInt32 31)).toInt32) >>> (Int32.toUInt32 2 &&& Int32.toUInt32 31)).toInt32) >>> (Int32.toUInt32 1 &&& Int32.toUInt32 31)).toInt32))
      else
        if ((Int32.toUInt32 a1 >>> (Int32.toUInt32 8 &&& Int32.toUInt32 31)).toInt32) < 16 then
          if ((Int32.toUInt32 a1 >>> (Int32.toUInt32 8 &&& Int32.toUInt32 31)).toInt32) < 4 then
            ((31 + (-8)) - ((Int32.toUInt32 ((Int32.toUInt32 a1 >>> (Int32.toUInt32 8 &&& Int32.toUInt32 31)).toInt32) >>> (Int32.toUInt32 1 &&& Int32.toUInt32 31)).toInt32))
          else
            (((31 + (-8)) + (-2)) - ((Int32.toUInt32 ((Int32.toUInt32 ((Int32.toUInt32 a1 >>> (Int32.toUInt32 8 &&& Int32.toUInt32 31)).toInt32) >>> (Int32.toUInt32 2 &&& Int32.toUInt32 31)).toInt32) >>> (Int32.toUInt32 1 &&& Int32.toUInt32 31)).toInt32))
        else
          if ((Int32.toUInt32 ((Int32.toUInt32 a1 >>> (Int32.toUInt32 8 &&& Int32.toUInt32 31)).toInt32) >>> (Int32.toUInt32 4 &&& Int32.toUInt32 31)).toInt32) < 4 then
            (((31 + (-8)) + (-4)) - ((Int32.toUInt32 ((Int32.toUInt32 ((Int32.toUInt32 a1 >>> (Int32.toUInt32 8 &&& Int32.toUInt32 31)).toInt32) >>> (Int32.toUInt32 4 &&& Int32.toUInt32 31)).toInt32) >>> (Int32.toUInt32 1 &&& Int32.toUInt32 31)).toInt32))
          else
            ((((31 + (-8)) + (-4)) + (-2)) - ((Int32.toUInt32 ((Int32.toUInt32 ((Int32.toUInt32 ((Int32.toUInt32 a1 >>> (Int32.toUInt32 8 &&& Int32.toUInt32 31)).toInt32) >>> (Int32.toUInt32 4 &&& Int32.toUInt32 31)).toInt32) >>> (Int32.toUInt32 2 &&& Int32.toUInt32 31)).toInt32) >>> (Int32.toUInt32 1 &&& Int32.toUInt32 31)).toInt32))
    else
      if ((Int32.toUInt32 a1 >>> (Int32.toUInt32 16 &&& Int32.toUInt32 31)).toInt32) < 256 then
        if ((Int32.toUInt32 a1 >>> (Int32.toUInt32 16 &&& Int32.toUInt32 31)).toInt32) < 16 then
          if ((Int32.toUInt32 a1 >>> (Int32.toUInt32 16 &&& Int32.toUInt32 31)).toInt32) < 4 then
            ((31 + (-16)) - ((Int32.toUInt32 ((Int32.toUInt32 a1 >>> (Int32.toUInt32 16 &&& Int32.toUInt32 31)).toInt32) >>> (Int32.toUInt32 1 &&& Int32.toUInt32 31)).toInt32))
          else
            (((31 + (-16)) + (-2)) - ((Int32.toUInt32 ((Int32.toUInt32 ((Int32.toUInt32 a1 >>> (Int32.toUInt32 16 &&& Int32.toUInt32 31)).toInt32) >>> (Int32.toUInt32 2 &&& Int32.toUInt32 31)).toInt32) >>> (Int32.toUInt32 1 &&& Int32.toUInt32 31)).toInt32))
        else
          if ((Int32.toUInt32 ((Int32.toUInt32 a1 >>> (Int32.toUInt32 16 &&& Int32.toUInt32 31)).toInt32) >>> (Int32.toUInt32 4 &&& Int32.toUInt32 31)).toInt32) < 4 then
            (((31 + (-16)) + (-4)) - ((Int32.toUInt32 ((Int32.toUInt32 ((Int32.toUInt32 a1 >>> (Int32.toUInt32 16 &&& Int32.toUInt32 31)).toInt32) >>> (Int32.toUInt32 4 &&& Int32.toUInt32 31)).toInt32) >>> (Int32.toUInt32 1 &&& Int32.toUInt32 31)).toInt32))
          else
            ((((31 + (-16)) + (-4)) + (-2)) - ((Int32.toUInt32 ((Int32.toUInt32 ((Int32.toUInt32 ((Int32.toUInt32 a1 >>> (Int32.toUInt32 16 &&& Int32.toUInt32 31)).toInt32) >>> (Int32.toUInt32 4 &&& Int32.toUInt32 31)).toInt32) >>> (Int32.toUInt32 2 &&& Int32.toUInt32 31)).toInt32) >>> (Int32.toUInt32 1 &&& Int32.toUInt32 31)).toInt32))
      else
        if ((Int32.toUInt32 ((Int32.toUInt32 a1 >>> (Int32.toUInt32 16 &&& Int32.toUInt32 31)).toInt32) >>> (Int32.toUInt32 8 &&& Int32.toUInt32 31)).toInt32) < 16 then
          if ((Int32.toUInt32 ((Int32.toUInt32 a1 >>> (Int32.toUInt32 16 &&& Int32.toUInt32 31)).toInt32) >>> (Int32.toUInt32 8 &&& Int32.toUInt32 31)).toInt32) < 4 then
            (((31 + (-16)) + (-8)) - ((Int32.toUInt32 ((Int32.toUInt32 ((Int32.toUInt32 a1 >>> (Int32.toUInt32 16 &&& Int32.toUInt32 31)).toInt32) >>> (Int32.toUInt32 8 &&& Int32.toUInt32 31)).toInt32) >>> (Int32.toUInt32 1 &&& Int32.toUInt32 31)).toInt32))
          else
            ((((31 + (-16)) + (-8)) + (-2)) - ((Int32.toUInt32 ((Int32.toUInt32 ((Int32.toUInt32 ((Int32.toUInt32 a1 >>> (Int32.toUInt32 16 &&& Int32.toUInt32 31)).toInt32) >>> (Int32.toUInt32 8 &&& Int32.toUInt32 31)).toInt32) >>> (Int32.toUInt32 2 &&& Int32.toUInt32 31)).toInt32) >>> (Int32.toUInt32 1 &&& Int32.toUInt32 31)).toInt32))
        else
          if ((Int32.toUInt32 ((Int32.toUInt32 ((Int32.toUInt32 a1 >>> (Int32.toUInt32 16 &&& Int32.toUInt32 31)).toInt32) >>> (Int32.toUInt32 8 &&& Int32.toUInt32 31)).toInt32) >>> (Int32.toUInt32 4 &&& Int32.toUInt32 31)).toInt32) < 4 then
            ((((31 + (-16)) + (-8)) + (-4)) - ((Int32.toUInt32 ((Int32.toUInt32 ((Int32.toUInt32 ((Int32.toUInt32 a1 >>> (Int32.toUInt32 16 &&& Int32.toUInt32 31)).toInt32) >>> (Int32.toUInt32 8 &&& Int32.toUInt32 31)).toInt32) >>> (Int32.toUInt32 4 &&& Int32.toUInt32 31)).toInt32) >>> (Int32.toUInt32 1 &&& Int32.toUInt32 31)).toInt32))
          else
            (((((31 + (-16)) + (-8)) + (-4)) + (-2)) - ((Int32.toUInt32 ((Int32.toUInt32 ((Int32.toUInt32 ((Int32.toUInt32 ((Int32.toUInt32 a1 >>> (Int32.toUInt32 16 &&& Int32.toUInt32 31)).toInt32) >>> (Int32.toUInt32 8 &&& Int32.toUInt32 31)).toInt32) >>> (Int32.toUInt32 4 &&& Int32.toUInt32 31)).toInt32) >>> (Int32.toUInt32 2 &&& Int32.toUInt32 31)).toInt32) >>> (Int32.toUInt32 1 &&& Int32.toUInt32 31)).toInt32))
  else
    (if a1 = 0 then 32 else 0)
set_option maxHeartbeats 1000000 in
set_option maxRecDepth 100000 in
theorem c_JI_numberOfLeadingZeros (l : Launch) (a1 : Int32) : Met l yJI_numberOfLeadingZeros wsJI_numberOfLeadingZeros ({ frames := 0, cells := 0, slots := 0, locals := 0 }) (va_Pc [.int a1] (fun _ => True)) (k2_QcV (.int (f_JI_numberOfLeadingZeros a1))) 0 0 (fun _ => False) := by
  refine va_MetF (cc := cJI_numberOfLeadingZeros) (maxL := 2) (ret := (some .int)) (by decide) rfl ?_
  intro p e s m args below meth c s₁ B hml hv
  obtain ⟨rfl, -⟩ := hv
  have hx := B.exec
  have hb := B.bytes
  have hr := B.returns
  have hts := atoms_spec (ws := wsJI_numberOfLeadingZeros) B.pre
  have hown : s.vm.findClass RJI = some m.cls := findClass_of_methodNamed B.named
  have hlocks := B.notSynchronized
  have hl := lv_entry ([.int a1]) (n := 2) (Nat.le_of_ble_eq_true rfl)
  rw [lg_entry_eq]
  generalize (lg_sl ([.int a1]) ++ List.replicate (2 - (lg_sl ([.int a1])).length) Slot.unset).toArray = ls at hl ⊢
  have hl : lv_has ls 2 [(0, .int a1)] := hl
  refine lv_iload_n hx hb dJI_numberOfLeadingZeros_0 rfl (lv_at hl 0 rfl) ?_
  refine lv_if_gt (tgt := 15) hx hb dJI_numberOfLeadingZeros_1 (by decide) (fun c_1 => ?_) (fun c_1 => ?_)
  · refine lv_bipush (v := 31) hx hb dJI_numberOfLeadingZeros_15 (by decide) ?_
    refine lv_istore_n (lv' := [(1, .int 31), (0, .int a1)]) hx hb dJI_numberOfLeadingZeros_17 rfl hl (by decide) rfl (fun ls hl => ?_)
    refine lv_iload_n hx hb dJI_numberOfLeadingZeros_18 rfl (lv_at hl 1 rfl) ?_
    refine lv_ldcw (v := 65536) hx hb hown (hts (.constant RJI 264 65536) (by decide +kernel)) dJI_numberOfLeadingZeros_19 ?_
    refine lv_icmp_lt (tgt := 33) hx hb dJI_numberOfLeadingZeros_22 (by decide) (fun c_2 => ?_) (fun c_2 => ?_)
    · refine lv_iload_n hx hb dJI_numberOfLeadingZeros_33 rfl (lv_at hl 1 rfl) ?_
      refine lv_sipush (v := 256) hx hb dJI_numberOfLeadingZeros_34 (by decide) ?_
      refine lv_icmp_lt (tgt := 48) hx hb dJI_numberOfLeadingZeros_37 (by decide) (fun c_3 => ?_) (fun c_3 => ?_)
      · refine lv_iload_n hx hb dJI_numberOfLeadingZeros_48 rfl (lv_at hl 1 rfl) ?_
        refine lv_bipush (v := 16) hx hb dJI_numberOfLeadingZeros_49 (by decide) ?_
        refine lv_icmp_lt (tgt := 61) hx hb dJI_numberOfLeadingZeros_51 (by decide) (fun c_4 => ?_) (fun c_4 => ?_)
        · refine lv_iload_n hx hb dJI_numberOfLeadingZeros_61 rfl (lv_at hl 1 rfl) ?_
          refine lv_iconst (v := 4) hx hb dJI_numberOfLeadingZeros_62 (by decide) ?_
          refine lv_icmp_lt (tgt := 73) hx hb dJI_numberOfLeadingZeros_63 (by decide) (fun c_5 => ?_) (fun c_5 => ?_)
          · refine lv_iload_n hx hb dJI_numberOfLeadingZeros_73 rfl (lv_at hl 0 rfl) ?_
            refine lv_iload_n hx hb dJI_numberOfLeadingZeros_74 rfl (lv_at hl 1 rfl) ?_
            refine lv_iconst (v := 1) hx hb dJI_numberOfLeadingZeros_75 (by decide) ?_
            refine lv_iushr hx hb dJI_numberOfLeadingZeros_76 rfl ?_
            refine lv_isub hx hb dJI_numberOfLeadingZeros_77 ?_
            refine w_asi (y := (f_JI_numberOfLeadingZeros a1)) (by unfold f_JI_numberOfLeadingZeros; rw [if_pos c_1, if_pos c_2, if_pos c_3, if_pos c_4, if_pos c_5]) ?_
            exact W.iret (v := (f_JI_numberOfLeadingZeros a1)) hx hb hr (fun t ht _ => ⟨rfl, ht⟩) (fun _ h => nomatch h) dJI_numberOfLeadingZeros_78
          · refine lv_iinc (v := (31 + (-2))) (lv' := [(1, .int (31 + (-2))), (0, .int a1)]) hx hb dJI_numberOfLeadingZeros_66 hl (k := 0) rfl rfl (by decide) rfl (fun ls hl => ?_)
            refine lv_iload_n hx hb dJI_numberOfLeadingZeros_69 rfl (lv_at hl 1 rfl) ?_
            refine lv_iconst (v := 2) hx hb dJI_numberOfLeadingZeros_70 (by decide) ?_
            refine lv_iushr hx hb dJI_numberOfLeadingZeros_71 rfl ?_
            refine lv_istore_n (lv' := [(0, .int ((Int32.toUInt32 a1 >>> (Int32.toUInt32 2 &&& Int32.toUInt32 31)).toInt32)), (1, .int (31 + (-2)))]) hx hb dJI_numberOfLeadingZeros_72 rfl hl (by decide) rfl (fun ls hl => ?_)
            refine lv_iload_n hx hb dJI_numberOfLeadingZeros_73 rfl (lv_at hl 1 rfl) ?_
            refine lv_iload_n hx hb dJI_numberOfLeadingZeros_74 rfl (lv_at hl 0 rfl) ?_
            refine lv_iconst (v := 1) hx hb dJI_numberOfLeadingZeros_75 (by decide) ?_
            refine lv_iushr hx hb dJI_numberOfLeadingZeros_76 rfl ?_
            refine lv_isub hx hb dJI_numberOfLeadingZeros_77 ?_
            refine w_asi (y := (f_JI_numberOfLeadingZeros a1)) (by unfold f_JI_numberOfLeadingZeros; rw [if_pos c_1, if_pos c_2, if_pos c_3, if_pos c_4, if_neg c_5]) ?_
            exact W.iret (v := (f_JI_numberOfLeadingZeros a1)) hx hb hr (fun t ht _ => ⟨rfl, ht⟩) (fun _ h => nomatch h) dJI_numberOfLeadingZeros_78
        · refine lv_iinc (v := (31 + (-4))) (lv' := [(1, .int (31 + (-4))), (0, .int a1)]) hx hb dJI_numberOfLeadingZeros_54 hl (k := 0) rfl rfl (by decide) rfl (fun ls hl => ?_)
          refine lv_iload_n hx hb dJI_numberOfLeadingZeros_57 rfl (lv_at hl 1 rfl) ?_
          refine lv_iconst (v := 4) hx hb dJI_numberOfLeadingZeros_58 (by decide) ?_
          refine lv_iushr hx hb dJI_numberOfLeadingZeros_59 rfl ?_
          refine lv_istore_n (lv' := [(0, .int ((Int32.toUInt32 a1 >>> (Int32.toUInt32 4 &&& Int32.toUInt32 31)).toInt32)), (1, .int (31 + (-4)))]) hx hb dJI_numberOfLeadingZeros_60 rfl hl (by decide) rfl (fun ls hl => ?_)
          refine lv_iload_n hx hb dJI_numberOfLeadingZeros_61 rfl (lv_at hl 0 rfl) ?_
          refine lv_iconst (v := 4) hx hb dJI_numberOfLeadingZeros_62 (by decide) ?_
          refine lv_icmp_lt (tgt := 73) hx hb dJI_numberOfLeadingZeros_63 (by decide) (fun c_6 => ?_) (fun c_6 => ?_)
          · refine lv_iload_n hx hb dJI_numberOfLeadingZeros_73 rfl (lv_at hl 1 rfl) ?_
            refine lv_iload_n hx hb dJI_numberOfLeadingZeros_74 rfl (lv_at hl 0 rfl) ?_
            refine lv_iconst (v := 1) hx hb dJI_numberOfLeadingZeros_75 (by decide) ?_
            refine lv_iushr hx hb dJI_numberOfLeadingZeros_76 rfl ?_
            refine lv_isub hx hb dJI_numberOfLeadingZeros_77 ?_
            refine w_asi (y := (f_JI_numberOfLeadingZeros a1)) (by unfold f_JI_numberOfLeadingZeros; rw [if_pos c_1, if_pos c_2, if_pos c_3, if_neg c_4, if_pos c_6]) ?_
            exact W.iret (v := (f_JI_numberOfLeadingZeros a1)) hx hb hr (fun t ht _ => ⟨rfl, ht⟩) (fun _ h => nomatch h) dJI_numberOfLeadingZeros_78
          · refine lv_iinc (v := ((31 + (-4)) + (-2))) (lv' := [(1, .int ((31 + (-4)) + (-2))), (0, .int ((Int32.toUInt32 a1 >>> (Int32.toUInt32 4 &&& Int32.toUInt32 31)).toInt32))]) hx hb dJI_numberOfLeadingZeros_66 hl (k := 1) rfl rfl (by decide) rfl (fun ls hl => ?_)
            refine lv_iload_n hx hb dJI_numberOfLeadingZeros_69 rfl (lv_at hl 1 rfl) ?_
            refine lv_iconst (v := 2) hx hb dJI_numberOfLeadingZeros_70 (by decide) ?_
            refine lv_iushr hx hb dJI_numberOfLeadingZeros_71 rfl ?_
            refine lv_istore_n (lv' := [(0, .int ((Int32.toUInt32 ((Int32.toUInt32 a1 >>> (Int32.toUInt32 4 &&& Int32.toUInt32 31)).toInt32) >>> (Int32.toUInt32 2 &&& Int32.toUInt32 31)).toInt32)), (1, .int ((31 + (-4)) + (-2)))]) hx hb dJI_numberOfLeadingZeros_72 rfl hl (by decide) rfl (fun ls hl => ?_)
            refine lv_iload_n hx hb dJI_numberOfLeadingZeros_73 rfl (lv_at hl 1 rfl) ?_
            refine lv_iload_n hx hb dJI_numberOfLeadingZeros_74 rfl (lv_at hl 0 rfl) ?_
            refine lv_iconst (v := 1) hx hb dJI_numberOfLeadingZeros_75 (by decide) ?_
            refine lv_iushr hx hb dJI_numberOfLeadingZeros_76 rfl ?_
            refine lv_isub hx hb dJI_numberOfLeadingZeros_77 ?_
            refine w_asi (y := (f_JI_numberOfLeadingZeros a1)) (by unfold f_JI_numberOfLeadingZeros; rw [if_pos c_1, if_pos c_2, if_pos c_3, if_neg c_4, if_neg c_6]) ?_
            exact W.iret (v := (f_JI_numberOfLeadingZeros a1)) hx hb hr (fun t ht _ => ⟨rfl, ht⟩) (fun _ h => nomatch h) dJI_numberOfLeadingZeros_78
      · refine lv_iinc (v := (31 + (-8))) (lv' := [(1, .int (31 + (-8))), (0, .int a1)]) hx hb dJI_numberOfLeadingZeros_40 hl (k := 0) rfl rfl (by decide) rfl (fun ls hl => ?_)
        refine lv_iload_n hx hb dJI_numberOfLeadingZeros_43 rfl (lv_at hl 1 rfl) ?_
        refine lv_bipush (v := 8) hx hb dJI_numberOfLeadingZeros_44 (by decide) ?_
        refine lv_iushr hx hb dJI_numberOfLeadingZeros_46 rfl ?_
        refine lv_istore_n (lv' := [(0, .int ((Int32.toUInt32 a1 >>> (Int32.toUInt32 8 &&& Int32.toUInt32 31)).toInt32)), (1, .int (31 + (-8)))]) hx hb dJI_numberOfLeadingZeros_47 rfl hl (by decide) rfl (fun ls hl => ?_)
        refine lv_iload_n hx hb dJI_numberOfLeadingZeros_48 rfl (lv_at hl 0 rfl) ?_
        refine lv_bipush (v := 16) hx hb dJI_numberOfLeadingZeros_49 (by decide) ?_
        refine lv_icmp_lt (tgt := 61) hx hb dJI_numberOfLeadingZeros_51 (by decide) (fun c_7 => ?_) (fun c_7 => ?_)
        · refine lv_iload_n hx hb dJI_numberOfLeadingZeros_61 rfl (lv_at hl 0 rfl) ?_
          refine lv_iconst (v := 4) hx hb dJI_numberOfLeadingZeros_62 (by decide) ?_
          refine lv_icmp_lt (tgt := 73) hx hb dJI_numberOfLeadingZeros_63 (by decide) (fun c_8 => ?_) (fun c_8 => ?_)
          · refine lv_iload_n hx hb dJI_numberOfLeadingZeros_73 rfl (lv_at hl 1 rfl) ?_
            refine lv_iload_n hx hb dJI_numberOfLeadingZeros_74 rfl (lv_at hl 0 rfl) ?_
            refine lv_iconst (v := 1) hx hb dJI_numberOfLeadingZeros_75 (by decide) ?_
            refine lv_iushr hx hb dJI_numberOfLeadingZeros_76 rfl ?_
            refine lv_isub hx hb dJI_numberOfLeadingZeros_77 ?_
            refine w_asi (y := (f_JI_numberOfLeadingZeros a1)) (by unfold f_JI_numberOfLeadingZeros; rw [if_pos c_1, if_pos c_2, if_neg c_3, if_pos c_7, if_pos c_8]) ?_
            exact W.iret (v := (f_JI_numberOfLeadingZeros a1)) hx hb hr (fun t ht _ => ⟨rfl, ht⟩) (fun _ h => nomatch h) dJI_numberOfLeadingZeros_78
          · refine lv_iinc (v := ((31 + (-8)) + (-2))) (lv' := [(1, .int ((31 + (-8)) + (-2))), (0, .int ((Int32.toUInt32 a1 >>> (Int32.toUInt32 8 &&& Int32.toUInt32 31)).toInt32))]) hx hb dJI_numberOfLeadingZeros_66 hl (k := 1) rfl rfl (by decide) rfl (fun ls hl => ?_)
            refine lv_iload_n hx hb dJI_numberOfLeadingZeros_69 rfl (lv_at hl 1 rfl) ?_
            refine lv_iconst (v := 2) hx hb dJI_numberOfLeadingZeros_70 (by decide) ?_
            refine lv_iushr hx hb dJI_numberOfLeadingZeros_71 rfl ?_
            refine lv_istore_n (lv' := [(0, .int ((Int32.toUInt32 ((Int32.toUInt32 a1 >>> (Int32.toUInt32 8 &&& Int32.toUInt32 31)).toInt32) >>> (Int32.toUInt32 2 &&& Int32.toUInt32 31)).toInt32)), (1, .int ((31 + (-8)) + (-2)))]) hx hb dJI_numberOfLeadingZeros_72 rfl hl (by decide) rfl (fun ls hl => ?_)
            refine lv_iload_n hx hb dJI_numberOfLeadingZeros_73 rfl (lv_at hl 1 rfl) ?_
            refine lv_iload_n hx hb dJI_numberOfLeadingZeros_74 rfl (lv_at hl 0 rfl) ?_
            refine lv_iconst (v := 1) hx hb dJI_numberOfLeadingZeros_75 (by decide) ?_
            refine lv_iushr hx hb dJI_numberOfLeadingZeros_76 rfl ?_
            refine lv_isub hx hb dJI_numberOfLeadingZeros_77 ?_
            refine w_asi (y := (f_JI_numberOfLeadingZeros a1)) (by unfold f_JI_numberOfLeadingZeros; rw [if_pos c_1, if_pos c_2, if_neg c_3, if_pos c_7, if_neg c_8]) ?_
            exact W.iret (v := (f_JI_numberOfLeadingZeros a1)) hx hb hr (fun t ht _ => ⟨rfl, ht⟩) (fun _ h => nomatch h) dJI_numberOfLeadingZeros_78
        · refine lv_iinc (v := ((31 + (-8)) + (-4))) (lv' := [(1, .int ((31 + (-8)) + (-4))), (0, .int ((Int32.toUInt32 a1 >>> (Int32.toUInt32 8 &&& Int32.toUInt32 31)).toInt32))]) hx hb dJI_numberOfLeadingZeros_54 hl (k := 1) rfl rfl (by decide) rfl (fun ls hl => ?_)
          refine lv_iload_n hx hb dJI_numberOfLeadingZeros_57 rfl (lv_at hl 1 rfl) ?_
          refine lv_iconst (v := 4) hx hb dJI_numberOfLeadingZeros_58 (by decide) ?_
          refine lv_iushr hx hb dJI_numberOfLeadingZeros_59 rfl ?_
          refine lv_istore_n (lv' := [(0, .int ((Int32.toUInt32 ((Int32.toUInt32 a1 >>> (Int32.toUInt32 8 &&& Int32.toUInt32 31)).toInt32) >>> (Int32.toUInt32 4 &&& Int32.toUInt32 31)).toInt32)), (1, .int ((31 + (-8)) + (-4)))]) hx hb dJI_numberOfLeadingZeros_60 rfl hl (by decide) rfl (fun ls hl => ?_)
          refine lv_iload_n hx hb dJI_numberOfLeadingZeros_61 rfl (lv_at hl 0 rfl) ?_
          refine lv_iconst (v := 4) hx hb dJI_numberOfLeadingZeros_62 (by decide) ?_
          refine lv_icmp_lt (tgt := 73) hx hb dJI_numberOfLeadingZeros_63 (by decide) (fun c_9 => ?_) (fun c_9 => ?_)
          · refine lv_iload_n hx hb dJI_numberOfLeadingZeros_73 rfl (lv_at hl 1 rfl) ?_
            refine lv_iload_n hx hb dJI_numberOfLeadingZeros_74 rfl (lv_at hl 0 rfl) ?_
            refine lv_iconst (v := 1) hx hb dJI_numberOfLeadingZeros_75 (by decide) ?_
            refine lv_iushr hx hb dJI_numberOfLeadingZeros_76 rfl ?_
            refine lv_isub hx hb dJI_numberOfLeadingZeros_77 ?_
            refine w_asi (y := (f_JI_numberOfLeadingZeros a1)) (by unfold f_JI_numberOfLeadingZeros; rw [if_pos c_1, if_pos c_2, if_neg c_3, if_neg c_7, if_pos c_9]) ?_
            exact W.iret (v := (f_JI_numberOfLeadingZeros a1)) hx hb hr (fun t ht _ => ⟨rfl, ht⟩) (fun _ h => nomatch h) dJI_numberOfLeadingZeros_78
          · refine lv_iinc (v := (((31 + (-8)) + (-4)) + (-2))) (lv' := [(1, .int (((31 + (-8)) + (-4)) + (-2))), (0, .int ((Int32.toUInt32 ((Int32.toUInt32 a1 >>> (Int32.toUInt32 8 &&& Int32.toUInt32 31)).toInt32) >>> (Int32.toUInt32 4 &&& Int32.toUInt32 31)).toInt32))]) hx hb dJI_numberOfLeadingZeros_66 hl (k := 1) rfl rfl (by decide) rfl (fun ls hl => ?_)
            refine lv_iload_n hx hb dJI_numberOfLeadingZeros_69 rfl (lv_at hl 1 rfl) ?_
            refine lv_iconst (v := 2) hx hb dJI_numberOfLeadingZeros_70 (by decide) ?_
            refine lv_iushr hx hb dJI_numberOfLeadingZeros_71 rfl ?_
            refine lv_istore_n (lv' := [(0, .int ((Int32.toUInt32 ((Int32.toUInt32 ((Int32.toUInt32 a1 >>> (Int32.toUInt32 8 &&& Int32.toUInt32 31)).toInt32) >>> (Int32.toUInt32 4 &&& Int32.toUInt32 31)).toInt32) >>> (Int32.toUInt32 2 &&& Int32.toUInt32 31)).toInt32)), (1, .int (((31 + (-8)) + (-4)) + (-2)))]) hx hb dJI_numberOfLeadingZeros_72 rfl hl (by decide) rfl (fun ls hl => ?_)
            refine lv_iload_n hx hb dJI_numberOfLeadingZeros_73 rfl (lv_at hl 1 rfl) ?_
            refine lv_iload_n hx hb dJI_numberOfLeadingZeros_74 rfl (lv_at hl 0 rfl) ?_
            refine lv_iconst (v := 1) hx hb dJI_numberOfLeadingZeros_75 (by decide) ?_
            refine lv_iushr hx hb dJI_numberOfLeadingZeros_76 rfl ?_
            refine lv_isub hx hb dJI_numberOfLeadingZeros_77 ?_
            refine w_asi (y := (f_JI_numberOfLeadingZeros a1)) (by unfold f_JI_numberOfLeadingZeros; rw [if_pos c_1, if_pos c_2, if_neg c_3, if_neg c_7, if_neg c_9]) ?_
            exact W.iret (v := (f_JI_numberOfLeadingZeros a1)) hx hb hr (fun t ht _ => ⟨rfl, ht⟩) (fun _ h => nomatch h) dJI_numberOfLeadingZeros_78
    · refine lv_iinc (v := (31 + (-16))) (lv' := [(1, .int (31 + (-16))), (0, .int a1)]) hx hb dJI_numberOfLeadingZeros_25 hl (k := 0) rfl rfl (by decide) rfl (fun ls hl => ?_)
      refine lv_iload_n hx hb dJI_numberOfLeadingZeros_28 rfl (lv_at hl 1 rfl) ?_
      refine lv_bipush (v := 16) hx hb dJI_numberOfLeadingZeros_29 (by decide) ?_
      refine lv_iushr hx hb dJI_numberOfLeadingZeros_31 rfl ?_
      refine lv_istore_n (lv' := [(0, .int ((Int32.toUInt32 a1 >>> (Int32.toUInt32 16 &&& Int32.toUInt32 31)).toInt32)), (1, .int (31 + (-16)))]) hx hb dJI_numberOfLeadingZeros_32 rfl hl (by decide) rfl (fun ls hl => ?_)
      refine lv_iload_n hx hb dJI_numberOfLeadingZeros_33 rfl (lv_at hl 0 rfl) ?_
      refine lv_sipush (v := 256) hx hb dJI_numberOfLeadingZeros_34 (by decide) ?_
      refine lv_icmp_lt (tgt := 48) hx hb dJI_numberOfLeadingZeros_37 (by decide) (fun c_10 => ?_) (fun c_10 => ?_)
      · refine lv_iload_n hx hb dJI_numberOfLeadingZeros_48 rfl (lv_at hl 0 rfl) ?_
        refine lv_bipush (v := 16) hx hb dJI_numberOfLeadingZeros_49 (by decide) ?_
        refine lv_icmp_lt (tgt := 61) hx hb dJI_numberOfLeadingZeros_51 (by decide) (fun c_11 => ?_) (fun c_11 => ?_)
        · refine lv_iload_n hx hb dJI_numberOfLeadingZeros_61 rfl (lv_at hl 0 rfl) ?_
          refine lv_iconst (v := 4) hx hb dJI_numberOfLeadingZeros_62 (by decide) ?_
          refine lv_icmp_lt (tgt := 73) hx hb dJI_numberOfLeadingZeros_63 (by decide) (fun c_12 => ?_) (fun c_12 => ?_)
          · refine lv_iload_n hx hb dJI_numberOfLeadingZeros_73 rfl (lv_at hl 1 rfl) ?_
            refine lv_iload_n hx hb dJI_numberOfLeadingZeros_74 rfl (lv_at hl 0 rfl) ?_
            refine lv_iconst (v := 1) hx hb dJI_numberOfLeadingZeros_75 (by decide) ?_
            refine lv_iushr hx hb dJI_numberOfLeadingZeros_76 rfl ?_
            refine lv_isub hx hb dJI_numberOfLeadingZeros_77 ?_
            refine w_asi (y := (f_JI_numberOfLeadingZeros a1)) (by unfold f_JI_numberOfLeadingZeros; rw [if_pos c_1, if_neg c_2, if_pos c_10, if_pos c_11, if_pos c_12]) ?_
            exact W.iret (v := (f_JI_numberOfLeadingZeros a1)) hx hb hr (fun t ht _ => ⟨rfl, ht⟩) (fun _ h => nomatch h) dJI_numberOfLeadingZeros_78
          · refine lv_iinc (v := ((31 + (-16)) + (-2))) (lv' := [(1, .int ((31 + (-16)) + (-2))), (0, .int ((Int32.toUInt32 a1 >>> (Int32.toUInt32 16 &&& Int32.toUInt32 31)).toInt32))]) hx hb dJI_numberOfLeadingZeros_66 hl (k := 1) rfl rfl (by decide) rfl (fun ls hl => ?_)
            refine lv_iload_n hx hb dJI_numberOfLeadingZeros_69 rfl (lv_at hl 1 rfl) ?_
            refine lv_iconst (v := 2) hx hb dJI_numberOfLeadingZeros_70 (by decide) ?_
            refine lv_iushr hx hb dJI_numberOfLeadingZeros_71 rfl ?_
            refine lv_istore_n (lv' := [(0, .int ((Int32.toUInt32 ((Int32.toUInt32 a1 >>> (Int32.toUInt32 16 &&& Int32.toUInt32 31)).toInt32) >>> (Int32.toUInt32 2 &&& Int32.toUInt32 31)).toInt32)), (1, .int ((31 + (-16)) + (-2)))]) hx hb dJI_numberOfLeadingZeros_72 rfl hl (by decide) rfl (fun ls hl => ?_)
            refine lv_iload_n hx hb dJI_numberOfLeadingZeros_73 rfl (lv_at hl 1 rfl) ?_
            refine lv_iload_n hx hb dJI_numberOfLeadingZeros_74 rfl (lv_at hl 0 rfl) ?_
            refine lv_iconst (v := 1) hx hb dJI_numberOfLeadingZeros_75 (by decide) ?_
            refine lv_iushr hx hb dJI_numberOfLeadingZeros_76 rfl ?_
            refine lv_isub hx hb dJI_numberOfLeadingZeros_77 ?_
            refine w_asi (y := (f_JI_numberOfLeadingZeros a1)) (by unfold f_JI_numberOfLeadingZeros; rw [if_pos c_1, if_neg c_2, if_pos c_10, if_pos c_11, if_neg c_12]) ?_
            exact W.iret (v := (f_JI_numberOfLeadingZeros a1)) hx hb hr (fun t ht _ => ⟨rfl, ht⟩) (fun _ h => nomatch h) dJI_numberOfLeadingZeros_78
        · refine lv_iinc (v := ((31 + (-16)) + (-4))) (lv' := [(1, .int ((31 + (-16)) + (-4))), (0, .int ((Int32.toUInt32 a1 >>> (Int32.toUInt32 16 &&& Int32.toUInt32 31)).toInt32))]) hx hb dJI_numberOfLeadingZeros_54 hl (k := 1) rfl rfl (by decide) rfl (fun ls hl => ?_)
          refine lv_iload_n hx hb dJI_numberOfLeadingZeros_57 rfl (lv_at hl 1 rfl) ?_
          refine lv_iconst (v := 4) hx hb dJI_numberOfLeadingZeros_58 (by decide) ?_
          refine lv_iushr hx hb dJI_numberOfLeadingZeros_59 rfl ?_
          refine lv_istore_n (lv' := [(0, .int ((Int32.toUInt32 ((Int32.toUInt32 a1 >>> (Int32.toUInt32 16 &&& Int32.toUInt32 31)).toInt32) >>> (Int32.toUInt32 4 &&& Int32.toUInt32 31)).toInt32)), (1, .int ((31 + (-16)) + (-4)))]) hx hb dJI_numberOfLeadingZeros_60 rfl hl (by decide) rfl (fun ls hl => ?_)
          refine lv_iload_n hx hb dJI_numberOfLeadingZeros_61 rfl (lv_at hl 0 rfl) ?_
          refine lv_iconst (v := 4) hx hb dJI_numberOfLeadingZeros_62 (by decide) ?_
          refine lv_icmp_lt (tgt := 73) hx hb dJI_numberOfLeadingZeros_63 (by decide) (fun c_13 => ?_) (fun c_13 => ?_)
          · refine lv_iload_n hx hb dJI_numberOfLeadingZeros_73 rfl (lv_at hl 1 rfl) ?_
            refine lv_iload_n hx hb dJI_numberOfLeadingZeros_74 rfl (lv_at hl 0 rfl) ?_
            refine lv_iconst (v := 1) hx hb dJI_numberOfLeadingZeros_75 (by decide) ?_
            refine lv_iushr hx hb dJI_numberOfLeadingZeros_76 rfl ?_
            refine lv_isub hx hb dJI_numberOfLeadingZeros_77 ?_
            refine w_asi (y := (f_JI_numberOfLeadingZeros a1)) (by unfold f_JI_numberOfLeadingZeros; rw [if_pos c_1, if_neg c_2, if_pos c_10, if_neg c_11, if_pos c_13]) ?_
            exact W.iret (v := (f_JI_numberOfLeadingZeros a1)) hx hb hr (fun t ht _ => ⟨rfl, ht⟩) (fun _ h => nomatch h) dJI_numberOfLeadingZeros_78
          · refine lv_iinc (v := (((31 + (-16)) + (-4)) + (-2))) (lv' := [(1, .int (((31 + (-16)) + (-4)) + (-2))), (0, .int ((Int32.toUInt32 ((Int32.toUInt32 a1 >>> (Int32.toUInt32 16 &&& Int32.toUInt32 31)).toInt32) >>> (Int32.toUInt32 4 &&& Int32.toUInt32 31)).toInt32))]) hx hb dJI_numberOfLeadingZeros_66 hl (k := 1) rfl rfl (by decide) rfl (fun ls hl => ?_)
            refine lv_iload_n hx hb dJI_numberOfLeadingZeros_69 rfl (lv_at hl 1 rfl) ?_
            refine lv_iconst (v := 2) hx hb dJI_numberOfLeadingZeros_70 (by decide) ?_
            refine lv_iushr hx hb dJI_numberOfLeadingZeros_71 rfl ?_
            refine lv_istore_n (lv' := [(0, .int ((Int32.toUInt32 ((Int32.toUInt32 ((Int32.toUInt32 a1 >>> (Int32.toUInt32 16 &&& Int32.toUInt32 31)).toInt32) >>> (Int32.toUInt32 4 &&& Int32.toUInt32 31)).toInt32) >>> (Int32.toUInt32 2 &&& Int32.toUInt32 31)).toInt32)), (1, .int (((31 + (-16)) + (-4)) + (-2)))]) hx hb dJI_numberOfLeadingZeros_72 rfl hl (by decide) rfl (fun ls hl => ?_)
            refine lv_iload_n hx hb dJI_numberOfLeadingZeros_73 rfl (lv_at hl 1 rfl) ?_
            refine lv_iload_n hx hb dJI_numberOfLeadingZeros_74 rfl (lv_at hl 0 rfl) ?_
            refine lv_iconst (v := 1) hx hb dJI_numberOfLeadingZeros_75 (by decide) ?_
            refine lv_iushr hx hb dJI_numberOfLeadingZeros_76 rfl ?_
            refine lv_isub hx hb dJI_numberOfLeadingZeros_77 ?_
            refine w_asi (y := (f_JI_numberOfLeadingZeros a1)) (by unfold f_JI_numberOfLeadingZeros; rw [if_pos c_1, if_neg c_2, if_pos c_10, if_neg c_11, if_neg c_13]) ?_
            exact W.iret (v := (f_JI_numberOfLeadingZeros a1)) hx hb hr (fun t ht _ => ⟨rfl, ht⟩) (fun _ h => nomatch h) dJI_numberOfLeadingZeros_78
      · refine lv_iinc (v := ((31 + (-16)) + (-8))) (lv' := [(1, .int ((31 + (-16)) + (-8))), (0, .int ((Int32.toUInt32 a1 >>> (Int32.toUInt32 16 &&& Int32.toUInt32 31)).toInt32))]) hx hb dJI_numberOfLeadingZeros_40 hl (k := 1) rfl rfl (by decide) rfl (fun ls hl => ?_)
        refine lv_iload_n hx hb dJI_numberOfLeadingZeros_43 rfl (lv_at hl 1 rfl) ?_
        refine lv_bipush (v := 8) hx hb dJI_numberOfLeadingZeros_44 (by decide) ?_
        refine lv_iushr hx hb dJI_numberOfLeadingZeros_46 rfl ?_
        refine lv_istore_n (lv' := [(0, .int ((Int32.toUInt32 ((Int32.toUInt32 a1 >>> (Int32.toUInt32 16 &&& Int32.toUInt32 31)).toInt32) >>> (Int32.toUInt32 8 &&& Int32.toUInt32 31)).toInt32)), (1, .int ((31 + (-16)) + (-8)))]) hx hb dJI_numberOfLeadingZeros_47 rfl hl (by decide) rfl (fun ls hl => ?_)
        refine lv_iload_n hx hb dJI_numberOfLeadingZeros_48 rfl (lv_at hl 0 rfl) ?_
        refine lv_bipush (v := 16) hx hb dJI_numberOfLeadingZeros_49 (by decide) ?_
        refine lv_icmp_lt (tgt := 61) hx hb dJI_numberOfLeadingZeros_51 (by decide) (fun c_14 => ?_) (fun c_14 => ?_)
        · refine lv_iload_n hx hb dJI_numberOfLeadingZeros_61 rfl (lv_at hl 0 rfl) ?_
          refine lv_iconst (v := 4) hx hb dJI_numberOfLeadingZeros_62 (by decide) ?_
          refine lv_icmp_lt (tgt := 73) hx hb dJI_numberOfLeadingZeros_63 (by decide) (fun c_15 => ?_) (fun c_15 => ?_)
          · refine lv_iload_n hx hb dJI_numberOfLeadingZeros_73 rfl (lv_at hl 1 rfl) ?_
            refine lv_iload_n hx hb dJI_numberOfLeadingZeros_74 rfl (lv_at hl 0 rfl) ?_
            refine lv_iconst (v := 1) hx hb dJI_numberOfLeadingZeros_75 (by decide) ?_
            refine lv_iushr hx hb dJI_numberOfLeadingZeros_76 rfl ?_
            refine lv_isub hx hb dJI_numberOfLeadingZeros_77 ?_
            refine w_asi (y := (f_JI_numberOfLeadingZeros a1)) (by unfold f_JI_numberOfLeadingZeros; rw [if_pos c_1, if_neg c_2, if_neg c_10, if_pos c_14, if_pos c_15]) ?_
            exact W.iret (v := (f_JI_numberOfLeadingZeros a1)) hx hb hr (fun t ht _ => ⟨rfl, ht⟩) (fun _ h => nomatch h) dJI_numberOfLeadingZeros_78
          · refine lv_iinc (v := (((31 + (-16)) + (-8)) + (-2))) (lv' := [(1, .int (((31 + (-16)) + (-8)) + (-2))), (0, .int ((Int32.toUInt32 ((Int32.toUInt32 a1 >>> (Int32.toUInt32 16 &&& Int32.toUInt32 31)).toInt32) >>> (Int32.toUInt32 8 &&& Int32.toUInt32 31)).toInt32))]) hx hb dJI_numberOfLeadingZeros_66 hl (k := 1) rfl rfl (by decide) rfl (fun ls hl => ?_)
            refine lv_iload_n hx hb dJI_numberOfLeadingZeros_69 rfl (lv_at hl 1 rfl) ?_
            refine lv_iconst (v := 2) hx hb dJI_numberOfLeadingZeros_70 (by decide) ?_
            refine lv_iushr hx hb dJI_numberOfLeadingZeros_71 rfl ?_
            refine lv_istore_n (lv' := [(0, .int ((Int32.toUInt32 ((Int32.toUInt32 ((Int32.toUInt32 a1 >>> (Int32.toUInt32 16 &&& Int32.toUInt32 31)).toInt32) >>> (Int32.toUInt32 8 &&& Int32.toUInt32 31)).toInt32) >>> (Int32.toUInt32 2 &&& Int32.toUInt32 31)).toInt32)), (1, .int (((31 + (-16)) + (-8)) + (-2)))]) hx hb dJI_numberOfLeadingZeros_72 rfl hl (by decide) rfl (fun ls hl => ?_)
            refine lv_iload_n hx hb dJI_numberOfLeadingZeros_73 rfl (lv_at hl 1 rfl) ?_
            refine lv_iload_n hx hb dJI_numberOfLeadingZeros_74 rfl (lv_at hl 0 rfl) ?_
            refine lv_iconst (v := 1) hx hb dJI_numberOfLeadingZeros_75 (by decide) ?_
            refine lv_iushr hx hb dJI_numberOfLeadingZeros_76 rfl ?_
            refine lv_isub hx hb dJI_numberOfLeadingZeros_77 ?_
            refine w_asi (y := (f_JI_numberOfLeadingZeros a1)) (by unfold f_JI_numberOfLeadingZeros; rw [if_pos c_1, if_neg c_2, if_neg c_10, if_pos c_14, if_neg c_15]) ?_
            exact W.iret (v := (f_JI_numberOfLeadingZeros a1)) hx hb hr (fun t ht _ => ⟨rfl, ht⟩) (fun _ h => nomatch h) dJI_numberOfLeadingZeros_78
        · refine lv_iinc (v := (((31 + (-16)) + (-8)) + (-4))) (lv' := [(1, .int (((31 + (-16)) + (-8)) + (-4))), (0, .int ((Int32.toUInt32 ((Int32.toUInt32 a1 >>> (Int32.toUInt32 16 &&& Int32.toUInt32 31)).toInt32) >>> (Int32.toUInt32 8 &&& Int32.toUInt32 31)).toInt32))]) hx hb dJI_numberOfLeadingZeros_54 hl (k := 1) rfl rfl (by decide) rfl (fun ls hl => ?_)
          refine lv_iload_n hx hb dJI_numberOfLeadingZeros_57 rfl (lv_at hl 1 rfl) ?_
          refine lv_iconst (v := 4) hx hb dJI_numberOfLeadingZeros_58 (by decide) ?_
          refine lv_iushr hx hb dJI_numberOfLeadingZeros_59 rfl ?_
          refine lv_istore_n (lv' := [(0, .int ((Int32.toUInt32 ((Int32.toUInt32 ((Int32.toUInt32 a1 >>> (Int32.toUInt32 16 &&& Int32.toUInt32 31)).toInt32) >>> (Int32.toUInt32 8 &&& Int32.toUInt32 31)).toInt32) >>> (Int32.toUInt32 4 &&& Int32.toUInt32 31)).toInt32)), (1, .int (((31 + (-16)) + (-8)) + (-4)))]) hx hb dJI_numberOfLeadingZeros_60 rfl hl (by decide) rfl (fun ls hl => ?_)
          refine lv_iload_n hx hb dJI_numberOfLeadingZeros_61 rfl (lv_at hl 0 rfl) ?_
          refine lv_iconst (v := 4) hx hb dJI_numberOfLeadingZeros_62 (by decide) ?_
          refine lv_icmp_lt (tgt := 73) hx hb dJI_numberOfLeadingZeros_63 (by decide) (fun c_16 => ?_) (fun c_16 => ?_)
          · refine lv_iload_n hx hb dJI_numberOfLeadingZeros_73 rfl (lv_at hl 1 rfl) ?_
            refine lv_iload_n hx hb dJI_numberOfLeadingZeros_74 rfl (lv_at hl 0 rfl) ?_
            refine lv_iconst (v := 1) hx hb dJI_numberOfLeadingZeros_75 (by decide) ?_
            refine lv_iushr hx hb dJI_numberOfLeadingZeros_76 rfl ?_
            refine lv_isub hx hb dJI_numberOfLeadingZeros_77 ?_
            refine w_asi (y := (f_JI_numberOfLeadingZeros a1)) (by unfold f_JI_numberOfLeadingZeros; rw [if_pos c_1, if_neg c_2, if_neg c_10, if_neg c_14, if_pos c_16]) ?_
            exact W.iret (v := (f_JI_numberOfLeadingZeros a1)) hx hb hr (fun t ht _ => ⟨rfl, ht⟩) (fun _ h => nomatch h) dJI_numberOfLeadingZeros_78
          · refine lv_iinc (v := ((((31 + (-16)) + (-8)) + (-4)) + (-2))) (lv' := [(1, .int ((((31 + (-16)) + (-8)) + (-4)) + (-2))), (0, .int ((Int32.toUInt32 ((Int32.toUInt32 ((Int32.toUInt32 a1 >>> (Int32.toUInt32 16 &&& Int32.toUInt32 31)).toInt32) >>> (Int32.toUInt32 8 &&& Int32.toUInt32 31)).toInt32) >>> (Int32.toUInt32 4 &&& Int32.toUInt32 31)).toInt32))]) hx hb dJI_numberOfLeadingZeros_66 hl (k := 1) rfl rfl (by decide) rfl (fun ls hl => ?_)
            refine lv_iload_n hx hb dJI_numberOfLeadingZeros_69 rfl (lv_at hl 1 rfl) ?_
            refine lv_iconst (v := 2) hx hb dJI_numberOfLeadingZeros_70 (by decide) ?_
            refine lv_iushr hx hb dJI_numberOfLeadingZeros_71 rfl ?_
            refine lv_istore_n (lv' := [(0, .int ((Int32.toUInt32 ((Int32.toUInt32 ((Int32.toUInt32 ((Int32.toUInt32 a1 >>> (Int32.toUInt32 16 &&& Int32.toUInt32 31)).toInt32) >>> (Int32.toUInt32 8 &&& Int32.toUInt32 31)).toInt32) >>> (Int32.toUInt32 4 &&& Int32.toUInt32 31)).toInt32) >>> (Int32.toUInt32 2 &&& Int32.toUInt32 31)).toInt32)), (1, .int ((((31 + (-16)) + (-8)) + (-4)) + (-2)))]) hx hb dJI_numberOfLeadingZeros_72 rfl hl (by decide) rfl (fun ls hl => ?_)
            refine lv_iload_n hx hb dJI_numberOfLeadingZeros_73 rfl (lv_at hl 1 rfl) ?_
            refine lv_iload_n hx hb dJI_numberOfLeadingZeros_74 rfl (lv_at hl 0 rfl) ?_
            refine lv_iconst (v := 1) hx hb dJI_numberOfLeadingZeros_75 (by decide) ?_
            refine lv_iushr hx hb dJI_numberOfLeadingZeros_76 rfl ?_
            refine lv_isub hx hb dJI_numberOfLeadingZeros_77 ?_
            refine w_asi (y := (f_JI_numberOfLeadingZeros a1)) (by unfold f_JI_numberOfLeadingZeros; rw [if_pos c_1, if_neg c_2, if_neg c_10, if_neg c_14, if_neg c_16]) ?_
            exact W.iret (v := (f_JI_numberOfLeadingZeros a1)) hx hb hr (fun t ht _ => ⟨rfl, ht⟩) (fun _ h => nomatch h) dJI_numberOfLeadingZeros_78
  · refine lv_iload_n hx hb dJI_numberOfLeadingZeros_4 rfl (lv_at hl 0 rfl) ?_
    refine w_join (F0 m 14 ls (.int (if a1 = 0 then 32 else 0) :: [])) ?_ (fun hJ_17 => ?_)
    · refine w_asi (y := (f_JI_numberOfLeadingZeros a1)) (by unfold f_JI_numberOfLeadingZeros; rw [if_neg c_1]) ?_
      exact W.iret (v := (f_JI_numberOfLeadingZeros a1)) hx hb hr (fun t ht _ => ⟨rfl, ht⟩) (fun _ h => nomatch h) dJI_numberOfLeadingZeros_14
    · refine lv_if_ne (tgt := 13) hx hb dJI_numberOfLeadingZeros_5 (by decide) (fun c_18 => ?_) (fun c_18 => ?_)
      · refine lv_iconst (v := 0) hx hb dJI_numberOfLeadingZeros_13 (by decide) ?_
        exact W.eq (by rw [if_neg c_18] <;> (repeat (first | rw [if_neg c_18]))) hJ_17
      · refine lv_bipush (v := 32) hx hb dJI_numberOfLeadingZeros_8 (by decide) ?_
        refine lv_goto (tgt := 14) hx hb dJI_numberOfLeadingZeros_10 (by decide) ?_
        exact W.eq (by rw [if_pos c_18] <;> (repeat (first | rw [if_pos c_18]))) hJ_17
def f_JL_numberOfLeadingZeros (a1 : Int64) : Int32 :=
  (if (Int64.toInt32 ((Int64.toUInt64 a1 >>> ((Int32.toInt64 32).toUInt64 &&& Int64.toUInt64 63)).toInt64)) = 0 then (32 + (f_JI_numberOfLeadingZeros (Int64.toInt32 a1))) else (f_JI_numberOfLeadingZeros (Int64.toInt32 ((Int64.toUInt64 a1 >>> ((Int32.toInt64 32).toUInt64 &&& Int64.toUInt64 63)).toInt64))))
set_option maxHeartbeats 1000000 in
set_option maxRecDepth 100000 in
theorem c_JL_numberOfLeadingZeros (l : Launch) (a1 : Int64) : Met l yJL_numberOfLeadingZeros wsJL_numberOfLeadingZeros ({ frames := 1, cells := 0, slots := 0, locals := 21 }) (va_Pc [.long a1] (fun _ => True)) (k2_QcV (.int (f_JL_numberOfLeadingZeros a1))) 0 0 (fun _ => False) := by
  refine va_MetF (cc := cJL_numberOfLeadingZeros) (maxL := 3) (ret := (some .int)) (by decide) rfl ?_
  intro p e s m args below meth c s₁ B hml hv
  obtain ⟨rfl, -⟩ := hv
  have hx := B.exec
  have hb := B.bytes
  have hr := B.returns
  have hts := atoms_spec (ws := wsJL_numberOfLeadingZeros) B.pre
  have hown : s.vm.findClass RJL = some m.cls := findClass_of_methodNamed B.named
  have hlocks := B.notSynchronized
  have hl := lv_entry ([.long a1]) (n := 3) (Nat.le_of_ble_eq_true rfl)
  rw [lg_entry_eq]
  generalize (lg_sl ([.long a1]) ++ List.replicate (3 - (lg_sl ([.long a1])).length) Slot.unset).toArray = ls at hl ⊢
  have hl : lv_has ls 3 [(0, .long a1)] := hl
  refine lv_lload_n hx hb dJL_numberOfLeadingZeros_0 rfl (lv_at hl 0 rfl) ?_
  refine lv_bipush (v := 32) hx hb dJL_numberOfLeadingZeros_1 (by decide) ?_
  refine lv_lushr hx hb dJL_numberOfLeadingZeros_3 rfl ?_
  refine lv_l2i hx hb dJL_numberOfLeadingZeros_4 rfl ?_
  refine lv_istore_n (lv' := [(2, .int (Int64.toInt32 ((Int64.toUInt64 a1 >>> ((Int32.toInt64 32).toUInt64 &&& Int64.toUInt64 63)).toInt64))), (0, .long a1)]) hx hb dJL_numberOfLeadingZeros_5 rfl hl (by decide) rfl (fun ls hl => ?_)
  refine lv_iload_n hx hb dJL_numberOfLeadingZeros_6 rfl (lv_at hl 0 rfl) ?_
  refine w_join (F0 m 25 ls (.int (if (Int64.toInt32 ((Int64.toUInt64 a1 >>> ((Int32.toInt64 32).toUInt64 &&& Int64.toUInt64 63)).toInt64)) = 0 then (32 + (f_JI_numberOfLeadingZeros (Int64.toInt32 a1))) else (f_JI_numberOfLeadingZeros (Int64.toInt32 ((Int64.toUInt64 a1 >>> ((Int32.toInt64 32).toUInt64 &&& Int64.toUInt64 63)).toInt64)))) :: [])) ?_ (fun hJ_1 => ?_)
  · refine w_asi (y := (f_JL_numberOfLeadingZeros a1)) (by unfold f_JL_numberOfLeadingZeros; rfl) ?_
    exact W.iret (v := (f_JL_numberOfLeadingZeros a1)) hx hb hr (fun t ht _ => ⟨rfl, ht⟩) (fun _ h => nomatch h) dJL_numberOfLeadingZeros_25
  · refine lv_if_ne (tgt := 21) hx hb dJL_numberOfLeadingZeros_7 (by decide) (fun c_2 => ?_) (fun c_2 => ?_)
    · refine lv_iload_n hx hb dJL_numberOfLeadingZeros_21 rfl (lv_at hl 0 rfl) ?_
      refine W.callV (r := .int (f_JI_numberOfLeadingZeros (Int64.toInt32 ((Int64.toUInt64 a1 >>> ((Int32.toInt64 32).toUInt64 &&& Int64.toUInt64 63)).toInt64)))) (W.runS (As := [.int (Int64.toInt32 ((Int64.toUInt64 a1 >>> ((Int32.toInt64 32).toUInt64 &&& Int64.toUInt64 63)).toInt64))]) (rest := []) ⟨hx, hb, hml, hown, hts⟩ (c_JI_numberOfLeadingZeros l (Int64.toInt32 ((Int64.toUInt64 a1 >>> ((Int32.toInt64 32).toUInt64 &&& Int64.toUInt64 63)).toInt64)) ) (va_cwS 1 hts gJL_numberOfLeadingZeros_JI_numberOfLeadingZeros rfl rfl rfl (by decide +kernel) ⟨Nat.le_of_ble_eq_true rfl, Nat.le_of_ble_eq_true rfl⟩) pu_pre rfl rfl hl.1 rfl (lv_room (Nat.le_of_ble_eq_true rfl)) dJL_numberOfLeadingZeros_22 ⟨Nat.zero_le _, Nat.zero_le _⟩) ?_
      refine W.eq (g2 := F0 m 25 ls ([.int (f_JI_numberOfLeadingZeros (Int64.toInt32 ((Int64.toUInt64 a1 >>> ((Int32.toInt64 32).toUInt64 &&& Int64.toUInt64 63)).toInt64)))])) rfl ?_
      exact W.eq (by rw [if_neg c_2] <;> (repeat (first | rw [if_neg c_2]))) hJ_1
    · refine lv_bipush (v := 32) hx hb dJL_numberOfLeadingZeros_10 (by decide) ?_
      refine lv_lload_n hx hb dJL_numberOfLeadingZeros_12 rfl (lv_at hl 1 rfl) ?_
      refine lv_l2i hx hb dJL_numberOfLeadingZeros_13 rfl ?_
      refine W.callV (r := .int (f_JI_numberOfLeadingZeros (Int64.toInt32 a1))) (W.runS (As := [.int (Int64.toInt32 a1)]) (rest := [.int 32]) ⟨hx, hb, hml, hown, hts⟩ (c_JI_numberOfLeadingZeros l (Int64.toInt32 a1) ) (va_cwS 1 hts gJL_numberOfLeadingZeros_JI_numberOfLeadingZeros rfl rfl rfl (by decide +kernel) ⟨Nat.le_of_ble_eq_true rfl, Nat.le_of_ble_eq_true rfl⟩) pu_pre rfl rfl hl.1 rfl (lv_room (Nat.le_of_ble_eq_true rfl)) dJL_numberOfLeadingZeros_14 ⟨Nat.zero_le _, Nat.zero_le _⟩) ?_
      refine W.eq (g2 := F0 m 17 ls ([.int (f_JI_numberOfLeadingZeros (Int64.toInt32 a1)), .int 32])) rfl ?_
      refine lv_iadd hx hb dJL_numberOfLeadingZeros_17 ?_
      refine lv_goto (tgt := 25) hx hb dJL_numberOfLeadingZeros_18 (by decide) ?_
      exact W.eq (by rw [if_pos c_2] <;> (repeat (first | rw [if_pos c_2]))) hJ_1
def f_JL_compare (a1 : Int64) (a2 : Int64) : Int32 :=
  (if 0 ≤ (lg_cmp a1 a2) then (if (lg_cmp a1 a2) = 0 then 0 else 1) else (-1))
set_option maxHeartbeats 1000000 in
set_option maxRecDepth 100000 in
theorem c_JL_compare (l : Launch) (a1 : Int64) (a2 : Int64) : Met l yJL_compare wsJL_compare ({ frames := 0, cells := 0, slots := 0, locals := 0 }) (va_Pc [.long a1, .long a2] (fun _ => True)) (k2_QcV (.int (f_JL_compare a1 a2))) 0 0 (fun _ => False) := by
  refine va_MetF (cc := cJL_compare) (maxL := 4) (ret := (some .int)) (by decide) rfl ?_
  intro p e s m args below meth c s₁ B hml hv
  obtain ⟨rfl, -⟩ := hv
  have hx := B.exec
  have hb := B.bytes
  have hr := B.returns
  have hts := atoms_spec (ws := wsJL_compare) B.pre
  have hown : s.vm.findClass RJL = some m.cls := findClass_of_methodNamed B.named
  have hlocks := B.notSynchronized
  have hl := lv_entry ([.long a1, .long a2]) (n := 4) (Nat.le_of_ble_eq_true rfl)
  rw [lg_entry_eq]
  generalize (lg_sl ([.long a1, .long a2]) ++ List.replicate (4 - (lg_sl ([.long a1, .long a2])).length) Slot.unset).toArray = ls at hl ⊢
  have hl : lv_has ls 4 [(0, .long a1), (2, .long a2)] := hl
  refine lv_lload_n hx hb dJL_compare_0 rfl (lv_at hl 0 rfl) ?_
  refine lv_lload_n hx hb dJL_compare_1 rfl (lv_at hl 1 rfl) ?_
  refine W.lcmp hx hb dJL_compare_2 ?_
  refine w_join (F0 m 21 ls (.int (if 0 ≤ (lg_cmp a1 a2) then (if (lg_cmp a1 a2) = 0 then 0 else 1) else (-1)) :: [])) ?_ (fun hJ_1 => ?_)
  · refine w_asi (y := (f_JL_compare a1 a2)) (by unfold f_JL_compare; rfl) ?_
    exact W.iret (v := (f_JL_compare a1 a2)) hx hb hr (fun t ht _ => ⟨rfl, ht⟩) (fun _ h => nomatch h) dJL_compare_21
  · refine lv_if_ge (tgt := 10) hx hb dJL_compare_3 (by decide) (fun c_2 => ?_) (fun c_2 => ?_)
    · refine lv_lload_n hx hb dJL_compare_10 rfl (lv_at hl 0 rfl) ?_
      refine lv_lload_n hx hb dJL_compare_11 rfl (lv_at hl 1 rfl) ?_
      refine W.lcmp hx hb dJL_compare_12 ?_
      refine lv_if_ne (tgt := 20) hx hb dJL_compare_13 (by decide) (fun c_3 => ?_) (fun c_3 => ?_)
      · refine lv_iconst (v := 1) hx hb dJL_compare_20 (by decide) ?_
        exact W.eq (by rw [if_pos c_2, if_neg c_3] <;> (repeat (first | rw [if_pos c_2] | rw [if_neg c_3]))) hJ_1
      · refine lv_iconst (v := 0) hx hb dJL_compare_16 (by decide) ?_
        refine lv_goto (tgt := 21) hx hb dJL_compare_17 (by decide) ?_
        exact W.eq (by rw [if_pos c_2, if_pos c_3] <;> (repeat (first | rw [if_pos c_2] | rw [if_pos c_3]))) hJ_1
    · refine lv_iconst (v := (-1)) hx hb dJL_compare_6 (by decide) ?_
      refine lv_goto (tgt := 21) hx hb dJL_compare_7 (by decide) ?_
      exact W.eq (by rw [if_neg c_2] <;> (repeat (first | rw [if_neg c_2]))) hJ_1
def f_JL_compareUnsigned (a1 : Int64) (a2 : Int64) : Int32 :=
  (f_JL_compare (a1 + (-9223372036854775808)) (a2 + (-9223372036854775808)))
set_option maxHeartbeats 1000000 in
set_option maxRecDepth 100000 in
theorem c_JL_compareUnsigned (l : Launch) (a1 : Int64) (a2 : Int64) : Met l yJL_compareUnsigned wsJL_compareUnsigned ({ frames := 1, cells := 0, slots := 0, locals := 23 }) (va_Pc [.long a1, .long a2] (fun _ => True)) (k2_QcV (.int (f_JL_compareUnsigned a1 a2))) 0 0 (fun _ => False) := by
  refine va_MetF (cc := cJL_compareUnsigned) (maxL := 4) (ret := (some .int)) (by decide) rfl ?_
  intro p e s m args below meth c s₁ B hml hv
  obtain ⟨rfl, -⟩ := hv
  have hx := B.exec
  have hb := B.bytes
  have hr := B.returns
  have hts := atoms_spec (ws := wsJL_compareUnsigned) B.pre
  have hown : s.vm.findClass RJL = some m.cls := findClass_of_methodNamed B.named
  have hlocks := B.notSynchronized
  have hl := lv_entry ([.long a1, .long a2]) (n := 4) (Nat.le_of_ble_eq_true rfl)
  rw [lg_entry_eq]
  generalize (lg_sl ([.long a1, .long a2]) ++ List.replicate (4 - (lg_sl ([.long a1, .long a2])).length) Slot.unset).toArray = ls at hl ⊢
  have hl : lv_has ls 4 [(0, .long a1), (2, .long a2)] := hl
  refine lv_lload_n hx hb dJL_compareUnsigned_0 rfl (lv_at hl 0 rfl) ?_
  refine lv_ldc2 (v := (-9223372036854775808)) hx hb hown (hts (.constantLong RJL 168 (-9223372036854775808)) (by decide +kernel)) dJL_compareUnsigned_1 ?_
  refine lv_ladd hx hb dJL_compareUnsigned_4 ?_
  refine lv_lload_n hx hb dJL_compareUnsigned_5 rfl (lv_at hl 1 rfl) ?_
  refine lv_ldc2 (v := (-9223372036854775808)) hx hb hown (hts (.constantLong RJL 168 (-9223372036854775808)) (by decide +kernel)) dJL_compareUnsigned_6 ?_
  refine lv_ladd hx hb dJL_compareUnsigned_9 ?_
  refine W.callV (r := .int (f_JL_compare (a1 + (-9223372036854775808)) (a2 + (-9223372036854775808)))) (W.runS (As := [.long (a1 + (-9223372036854775808)), .long (a2 + (-9223372036854775808))]) (rest := []) ⟨hx, hb, hml, hown, hts⟩ (c_JL_compare l (a1 + (-9223372036854775808)) (a2 + (-9223372036854775808)) ) (va_cwS 2 hts gJL_compareUnsigned_JL_compare rfl rfl rfl (by decide +kernel) ⟨Nat.le_of_ble_eq_true rfl, Nat.le_of_ble_eq_true rfl⟩) pu_pre rfl rfl hl.1 rfl (lv_room (Nat.le_of_ble_eq_true rfl)) dJL_compareUnsigned_10 ⟨Nat.zero_le _, Nat.zero_le _⟩) ?_
  refine W.eq (g2 := F0 m 13 ls ([.int (f_JL_compare (a1 + (-9223372036854775808)) (a2 + (-9223372036854775808)))])) rfl ?_
  refine w_asi (y := (f_JL_compareUnsigned a1 a2)) (by unfold f_JL_compareUnsigned; rfl) ?_
  exact W.iret (v := (f_JL_compareUnsigned a1 a2)) hx hb hr (fun t ht _ => ⟨rfl, ht⟩) (fun _ h => nomatch h) dJL_compareUnsigned_13
def f_JI_signum (a1 : Int32) : Int32 :=
  ((a1 >>> (31 &&& 31)) ||| ((Int32.toUInt32 (-a1) >>> (Int32.toUInt32 31 &&& Int32.toUInt32 31)).toInt32))
set_option maxHeartbeats 1000000 in
set_option maxRecDepth 100000 in
theorem c_JI_signum (l : Launch) (a1 : Int32) : Met l yJI_signum wsJI_signum ({ frames := 0, cells := 0, slots := 0, locals := 0 }) (va_Pc [.int a1] (fun _ => True)) (k2_QcV (.int (f_JI_signum a1))) 0 0 (fun _ => False) := by
  refine va_MetF (cc := cJI_signum) (maxL := 1) (ret := (some .int)) (by decide) rfl ?_
  intro p e s m args below meth c s₁ B hml hv
  obtain ⟨rfl, -⟩ := hv
  have hx := B.exec
  have hb := B.bytes
  have hr := B.returns
  have hts := atoms_spec (ws := wsJI_signum) B.pre
  have hown : s.vm.findClass RJI = some m.cls := findClass_of_methodNamed B.named
  have hlocks := B.notSynchronized
  have hl := lv_entry ([.int a1]) (n := 1) (Nat.le_of_ble_eq_true rfl)
  rw [lg_entry_eq]
  generalize (lg_sl ([.int a1]) ++ List.replicate (1 - (lg_sl ([.int a1])).length) Slot.unset).toArray = ls at hl ⊢
  have hl : lv_has ls 1 [(0, .int a1)] := hl
  refine lv_iload_n hx hb dJI_signum_0 rfl (lv_at hl 0 rfl) ?_
  refine lv_bipush (v := 31) hx hb dJI_signum_1 (by decide) ?_
  refine lv_ishr hx hb dJI_signum_3 ?_
  refine lv_iload_n hx hb dJI_signum_4 rfl (lv_at hl 0 rfl) ?_
  refine lv_ineg hx hb dJI_signum_5 ?_
  refine lv_bipush (v := 31) hx hb dJI_signum_6 (by decide) ?_
  refine lv_iushr hx hb dJI_signum_8 rfl ?_
  refine lv_ior hx hb dJI_signum_9 ?_
  refine w_asi (y := (f_JI_signum a1)) (by unfold f_JI_signum; rfl) ?_
  exact W.iret (v := (f_JI_signum a1)) hx hb hr (fun t ht _ => ⟨rfl, ht⟩) (fun _ h => nomatch h) dJI_signum_10
