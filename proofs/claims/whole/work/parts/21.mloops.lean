def b_X1_part_91 (fr : Nat → Int64) (x1 : Int32) (x3 : Int32) : Bool × (Int32) :=
  if 64 ≤ x3 then
    (false, x3)
  else
    if (lg_cmp (((fr x1.toNatClampNeg) >>> (Int32.toInt64 (63 - x3) &&& 63)) &&& 1) 0) = 0 then
      (true, (x3 + 1))
    else
      (false, x3)
def lp_X1_part_91 (fr : Nat → Int64) (x1 : Int32) : Nat → (Int32) → (Int32)
  | 0, S => S
  | n + 1, S => if (b_X1_part_91 fr x1 S).1 = true then lp_X1_part_91 fr x1 n (b_X1_part_91 fr x1 S).2 else (b_X1_part_91 fr x1 S).2
def fin_X1_part_91 (fr : Nat → Int64) (x1 : Int32) : Nat → (Int32) → Prop
  | 0, _ => False
  | n + 1, S => (vp_in x1 8) ∧ ((b_X1_part_91 fr x1 S).1 = false ∨ fin_X1_part_91 fr x1 n (b_X1_part_91 fr x1 S).2)
set_option maxHeartbeats 1000000 in
set_option maxRecDepth 100000 in
theorem st_X1_part_91 {p : Program} {l : Launch} {e : Env} {R : Room} {s : State} {m : MethodId} {args : Array Value} {below : List Frame} {meth : Method} {c : Code} {cells slots : Nat} {Q : State → Prop} {dC : Nat → ClassId} {dI : Nat → Nat → Nat} {cA cB cC : ClassId} {h0 pt pf pb : Nat} (hx : p.tables.exec = Jvm.exec) (hb : c.code = cX1_part) (hml : c.maxLocals = 4) (hts : ∀ w ∈ wsX1_part, w.before args s = true) (hown : s.vm.findClass RX1 = some m.cls) (hK : va_K (dC, dI) vwCl (m_T cA cB cC) s) (tp : Nat → Int32) (fr : Nat → Int64) (bi : Nat → Int32) (cd : Int32) (ct : Int32) (wt : Int32) (fi : Int32) (mn : Int32) (wh : Int64) (fu : Int32) (tl : Int32) (gr : Int32) (sd : Int32) (mt : Int32) (mf : Int64) (x1 : Int32) (x2 : Int32) (x3 : Int32) {H : Heap} {locs : List Loc} (hP : va_P (dC, dI) vwCl [(h0, .inr (1, [.int cd, .int ct, .ref pt, .ref pf, .ref pb, .int wt, .int fi, .int mn, .long wh, .int fu, .int tl, .int gr, .int sd, .int mt, .long mf])), (pt, .inl (cA, 8, .inl tp)), (pf, .inl (cB, 8, .inr (.inl fr))), (pb, .inl (cC, 129, .inl bi))] H) {ls : Array Slot} (hl : lv_has ls 4 [(0, .ref h0), (1, .int x1), (2, .int x2), (3, .int x3)]) (hbnd : vp_in x1 8) (kb : (b_X1_part_91 fr x1 x3).1 = true → ∀ (ls : Array Slot), lv_has ls 4 [(0, .ref h0), (1, .int x1), (2, .int x2), (3, .int ((b_X1_part_91 fr x1 x3).2))] → W p l e R s m args below meth c H locs cells slots Q (F0 m 91 ls [])) (ke : (b_X1_part_91 fr x1 x3).1 = false → ∀ (ls : Array Slot), lv_has ls 4 [(0, .ref h0), (1, .int x1), (2, .int x2), (3, .int ((b_X1_part_91 fr x1 x3).2))] → W p l e R s m args below meth c H locs cells slots Q (F0 m 121 ls [])) : W p l e R s m args below meth c H locs cells slots Q (F0 m 91 ls []) := by
  have hin_X1 : ∀ w ∈ u_ws RX1 TX1 15, w ∈ wsX1_part := by decide +kernel
  refine lv_iload_n hx hb dX1_part_91 rfl (lv_at hl 3 rfl) ?_
  refine lv_bipush (v := 64) hx hb dX1_part_92 (by decide) ?_
  refine lv_icmp_ge (tgt := 121) hx hb dX1_part_94 (by decide) (fun c_1 => ?_) (fun c_1 => ?_)
  · have hbS : (b_X1_part_91 fr x1 x3) = (false, x3) := by unfold b_X1_part_91; rw [if_pos c_1]
    exact ke (by rw [hbS]) _ (by rw [hbS]; exact lv_sub hl [0, 1, 2, 3] rfl)
  · refine lv_aload_n hx hb dX1_part_97 rfl (lv_at hl 0 rfl) ?_
    refine va_get (D := (dC, dI)) (ci := 1) (v := .ref pf) (C := RX1) (T := TX1) (N := 15) hx hb hts hin_X1 hown hK hP 0 rfl rfl 3 (by decide) (hts (.fieldLink RX1 17 "TemporaryRealsModel" "fraction" "[J") (by decide +kernel)) (fun _ h9 => h9) rfl dX1_part_98 ?_
    refine lv_iload_n hx hb dX1_part_101 rfl (lv_at hl 1 rfl) ?_
    refine va_lald hx hb hK hP 2 1 rfl rfl (by first | assumption | exact hbnd | exact hbnd.1 | exact hbnd (by assumption) | exact hbnd.2 (by assumption)) dX1_part_102 ?_
    refine lv_bipush (v := 63) hx hb dX1_part_103 (by decide) ?_
    refine lv_iload_n hx hb dX1_part_105 rfl (lv_at hl 3 rfl) ?_
    refine lv_isub hx hb dX1_part_106 ?_
    refine lv_lshr hx hb dX1_part_107 rfl ?_
    refine lv_lconst (v := 1) hx hb dX1_part_108 (by decide) ?_
    refine lv_land hx hb dX1_part_109 ?_
    refine lv_lconst (v := 0) hx hb dX1_part_110 (by decide) ?_
    refine W.lcmp hx hb dX1_part_111 ?_
    refine lv_if_ne (tgt := 121) hx hb dX1_part_112 (by decide) (fun c_2 => ?_) (fun c_2 => ?_)
    · have hbS : (b_X1_part_91 fr x1 x3) = (false, x3) := by unfold b_X1_part_91; rw [if_neg c_1, if_neg c_2]
      exact ke (by rw [hbS]) _ (by rw [hbS]; exact lv_sub hl [0, 1, 2, 3] rfl)
    · refine lv_iinc (v := (x3 + 1)) (lv' := [(3, .int (x3 + 1)), (0, .ref h0), (1, .int x1), (2, .int x2)]) hx hb dX1_part_115 hl (k := 3) rfl rfl (by decide) rfl (fun ls hl => ?_)
      refine lv_goto (tgt := 91) hx hb dX1_part_118 (by decide) ?_
      have hbS : (b_X1_part_91 fr x1 x3) = (true, (x3 + 1)) := by unfold b_X1_part_91; rw [if_neg c_1, if_pos c_2]
      exact kb (by rw [hbS]) _ (by rw [hbS]; exact lv_sub hl [1, 2, 3, 0] rfl)
theorem lq_X1_part_91 {p : Program} {l : Launch} {e : Env} {R : Room} {s : State} {m : MethodId} {args : Array Value} {below : List Frame} {meth : Method} {c : Code} {cells slots : Nat} {Q : State → Prop} {dC : Nat → ClassId} {dI : Nat → Nat → Nat} {cA cB cC : ClassId} {h0 pt pf pb : Nat} (hx : p.tables.exec = Jvm.exec) (hb : c.code = cX1_part) (hml : c.maxLocals = 4) (hts : ∀ w ∈ wsX1_part, w.before args s = true) (hown : s.vm.findClass RX1 = some m.cls) (hK : va_K (dC, dI) vwCl (m_T cA cB cC) s) (tp : Nat → Int32) (fr : Nat → Int64) (bi : Nat → Int32) (cd : Int32) (ct : Int32) (wt : Int32) (fi : Int32) (mn : Int32) (wh : Int64) (fu : Int32) (tl : Int32) (gr : Int32) (sd : Int32) (mt : Int32) (mf : Int64) (x1 : Int32) (x2 : Int32) : ∀ (n : Nat) (S : Int32), fin_X1_part_91 fr x1 n S → ∀ {H : Heap} {locs : List Loc} {ls : Array Slot}, va_P (dC, dI) vwCl [(h0, .inr (1, [.int cd, .int ct, .ref pt, .ref pf, .ref pb, .int wt, .int fi, .int mn, .long wh, .int fu, .int tl, .int gr, .int sd, .int mt, .long mf])), (pt, .inl (cA, 8, .inl tp)), (pf, .inl (cB, 8, .inr (.inl fr))), (pb, .inl (cC, 129, .inl bi))] H → lv_has ls 4 [(0, .ref h0), (1, .int x1), (2, .int x2), (3, .int S)] → (∀ (ls : Array Slot), lv_has ls 4 [(0, .ref h0), (1, .int x1), (2, .int x2), (3, .int (lp_X1_part_91 fr x1 n S))] → W p l e R s m args below meth c H locs cells slots Q (F0 m 121 ls [])) → W p l e R s m args below meth c H locs cells slots Q (F0 m 91 ls []) := by
  intro n
  induction n with
  | zero => intro S h; exact h.elim
  | succ n ih =>
    intro S h H locs ls hP hl K
    obtain ⟨hbnd, h⟩ := h
    refine st_X1_part_91 hx hb hml hts hown hK tp fr bi cd ct wt fi mn wh fu tl gr sd mt mf x1 x2 S hP hl hbnd ?_ ?_
    · intro hc ls hl
      have e : lp_X1_part_91 fr x1 (n + 1) S = lp_X1_part_91 fr x1 n (b_X1_part_91 fr x1 S).2 := if_pos hc
      rw [e] at K
      exact ih _ (h.resolve_left (by rw [hc]; exact Bool.noConfusion)) hP hl K
    · intro hc ls hl
      have e : lp_X1_part_91 fr x1 (n + 1) S = (b_X1_part_91 fr x1 S).2 := if_neg (by rw [hc]; exact Bool.false_ne_true)
      rw [e] at K
      exact K ls hl
theorem lr_X1_part_91 {p : Program} {l : Launch} {e : Env} {R : Room} {s : State} {m : MethodId} {args : Array Value} {below : List Frame} {meth : Method} {c : Code} {cells slots : Nat} {Q : State → Prop} {dC : Nat → ClassId} {dI : Nat → Nat → Nat} {cA cB cC : ClassId} {h0 pt pf pb : Nat} (hx : p.tables.exec = Jvm.exec) (hb : c.code = cX1_part) (hml : c.maxLocals = 4) (hts : ∀ w ∈ wsX1_part, w.before args s = true) (hown : s.vm.findClass RX1 = some m.cls) (hK : va_K (dC, dI) vwCl (m_T cA cB cC) s) (tp : Nat → Int32) (fr : Nat → Int64) (bi : Nat → Int32) (cd : Int32) (ct : Int32) (wt : Int32) (fi : Int32) (mn : Int32) (wh : Int64) (fu : Int32) (tl : Int32) (gr : Int32) (sd : Int32) (mt : Int32) (mf : Int64) (x1 : Int32) (x2 : Int32) (n : Nat) (x3 : Int32) (hf : fin_X1_part_91 fr x1 n (x3)) {H : Heap} {locs : List Loc} {ls : Array Slot} (hP : va_P (dC, dI) vwCl [(h0, .inr (1, [.int cd, .int ct, .ref pt, .ref pf, .ref pb, .int wt, .int fi, .int mn, .long wh, .int fu, .int tl, .int gr, .int sd, .int mt, .long mf])), (pt, .inl (cA, 8, .inl tp)), (pf, .inl (cB, 8, .inr (.inl fr))), (pb, .inl (cC, 129, .inl bi))] H) (hl : lv_has ls 4 [(0, .ref h0), (1, .int x1), (2, .int x2), (3, .int x3)]) (K : ∀ (ls : Array Slot), lv_has ls 4 [(0, .ref h0), (1, .int x1), (2, .int x2), (3, .int (lp_X1_part_91 fr x1 n (x3)))] → W p l e R s m args below meth c H locs cells slots Q (F0 m 121 ls [])) : W p l e R s m args below meth c H locs cells slots Q (F0 m 91 ls []) := lq_X1_part_91 hx hb hml hts hown hK tp fr bi cd ct wt fi mn wh fu tl gr sd mt mf x1 x2 n (x3) hf hP hl K
def b_X1_round_26 (bi : Nat → Int32) (wt : Int32) (x1 : Int32) (x3 : Int32) (x4 : Int32) (x5 : Int32) (wh : Int64) : Bool × (Int32 × Int32 × Int32 × Int64) :=
  if 129 ≤ x5 then
    (false, x3, x4, x5, wh)
  else
    if (wt - x5) < x1 then
      if (wt - x5) = (x1 - 1) then
        if (x1 - 1) ≤ (wt - x5) then
          (true, (if (bi x5.toNatClampNeg) = 1 then 1 else 0), x4, (x5 + 1), wh)
        else
          (true, (if (bi x5.toNatClampNeg) = 1 then 1 else 0), (if x4 = 0 then (if (bi x5.toNatClampNeg) = 1 then 1 else 0) else 1), (x5 + 1), wh)
      else
        if (x1 - 1) ≤ (wt - x5) then
          (true, x3, x4, (x5 + 1), wh)
        else
          (true, x3, (if x4 = 0 then (if (bi x5.toNatClampNeg) = 1 then 1 else 0) else 1), (x5 + 1), wh)
    else
      if (wt - x5) = (x1 - 1) then
        if (x1 - 1) ≤ (wt - x5) then
          (true, (if (bi x5.toNatClampNeg) = 1 then 1 else 0), x4, (x5 + 1), ((2 * wh) + (Int32.toInt64 (bi x5.toNatClampNeg))))
        else
          (true, (if (bi x5.toNatClampNeg) = 1 then 1 else 0), (if x4 = 0 then (if (bi x5.toNatClampNeg) = 1 then 1 else 0) else 1), (x5 + 1), ((2 * wh) + (Int32.toInt64 (bi x5.toNatClampNeg))))
      else
        if (x1 - 1) ≤ (wt - x5) then
          (true, x3, x4, (x5 + 1), ((2 * wh) + (Int32.toInt64 (bi x5.toNatClampNeg))))
        else
          (true, x3, (if x4 = 0 then (if (bi x5.toNatClampNeg) = 1 then 1 else 0) else 1), (x5 + 1), ((2 * wh) + (Int32.toInt64 (bi x5.toNatClampNeg))))
def lp_X1_round_26 (bi : Nat → Int32) (wt : Int32) (x1 : Int32) : Nat → (Int32 × Int32 × Int32 × Int64) → (Int32 × Int32 × Int32 × Int64)
  | 0, S => S
  | n + 1, S => if (b_X1_round_26 bi wt x1 S.1 S.2.1 S.2.2.1 S.2.2.2).1 = true then lp_X1_round_26 bi wt x1 n (b_X1_round_26 bi wt x1 S.1 S.2.1 S.2.2.1 S.2.2.2).2 else (b_X1_round_26 bi wt x1 S.1 S.2.1 S.2.2.1 S.2.2.2).2
def fin_X1_round_26 (bi : Nat → Int32) (wt : Int32) (x1 : Int32) : Nat → (Int32 × Int32 × Int32 × Int64) → Prop
  | 0, _ => False
  | n + 1, S => (¬ (129 ≤ S.2.2.1) → vp_in S.2.2.1 129) ∧ ((b_X1_round_26 bi wt x1 S.1 S.2.1 S.2.2.1 S.2.2.2).1 = false ∨ fin_X1_round_26 bi wt x1 n (b_X1_round_26 bi wt x1 S.1 S.2.1 S.2.2.1 S.2.2.2).2)
set_option maxHeartbeats 1000000 in
set_option maxRecDepth 100000 in
theorem st_X1_round_26 {p : Program} {l : Launch} {e : Env} {R : Room} {s : State} {m : MethodId} {args : Array Value} {below : List Frame} {meth : Method} {c : Code} {cells slots : Nat} {Q : State → Prop} {dC : Nat → ClassId} {dI : Nat → Nat → Nat} {cA cB cC : ClassId} {h0 pt pf pb : Nat} {A : Nat → Prop} (hx : p.tables.exec = Jvm.exec) (hb : c.code = cX1_round) (hml : c.maxLocals = 7) (hts : ∀ w ∈ wsX1_round, w.before args s = true) (hown : s.vm.findClass RX1 = some m.cls) (hK : va_K (dC, dI) vwCl (m_T cA cB cC) s) (tp : Nat → Int32) (fr : Nat → Int64) (bi : Nat → Int32) (cd : Int32) (ct : Int32) (wt : Int32) (fi : Int32) (mn : Int32) (fu : Int32) (tl : Int32) (gr : Int32) (sd : Int32) (mt : Int32) (mf : Int64) (x1 : Int32) (x2 : Int32) (x3 : Int32) (x4 : Int32) (x5 : Int32) (wh : Int64) {H : Heap} {locs : List Loc} (hP : va_P (dC, dI) vwCl [(h0, .inr (1, [.int cd, .int ct, .ref pt, .ref pf, .ref pb, .int wt, .int fi, .int mn, .long wh, .int fu, .int tl, .int gr, .int sd, .int mt, .long mf])), (pt, .inl (cA, 8, .inl tp)), (pf, .inl (cB, 8, .inr (.inl fr))), (pb, .inl (cC, 129, .inl bi))] H) (hD : va_D A [(h0, .inr (1, [.int cd, .int ct, .ref pt, .ref pf, .ref pb, .int wt, .int fi, .int mn, .long wh, .int fu, .int tl, .int gr, .int sd, .int mt, .long mf])), (pt, .inl (cA, 8, .inl tp)), (pf, .inl (cB, 8, .inr (.inl fr))), (pb, .inl (cC, 129, .inl bi))]) (hS : va_S A s.heap H locs) {ls : Array Slot} (hl : lv_has ls 7 [(0, .ref h0), (1, .int x1), (2, .int x2), (3, .int x3), (4, .int x4), (5, .int x5)]) (hbnd : ¬ (129 ≤ x5) → vp_in x5 129) (kb : (b_X1_round_26 bi wt x1 x3 x4 x5 wh).1 = true → ∀ (H : Heap) (locs : List Loc) (ls : Array Slot), va_P (dC, dI) vwCl [(h0, .inr (1, [.int cd, .int ct, .ref pt, .ref pf, .ref pb, .int wt, .int fi, .int mn, .long (b_X1_round_26 bi wt x1 x3 x4 x5 wh).2.2.2.2, .int fu, .int tl, .int gr, .int sd, .int mt, .long mf])), (pt, .inl (cA, 8, .inl tp)), (pf, .inl (cB, 8, .inr (.inl fr))), (pb, .inl (cC, 129, .inl bi))] H → va_D A [(h0, .inr (1, [.int cd, .int ct, .ref pt, .ref pf, .ref pb, .int wt, .int fi, .int mn, .long (b_X1_round_26 bi wt x1 x3 x4 x5 wh).2.2.2.2, .int fu, .int tl, .int gr, .int sd, .int mt, .long mf])), (pt, .inl (cA, 8, .inl tp)), (pf, .inl (cB, 8, .inr (.inl fr))), (pb, .inl (cC, 129, .inl bi))] → va_S A s.heap H locs → lv_has ls 7 [(0, .ref h0), (1, .int x1), (2, .int x2), (3, .int ((b_X1_round_26 bi wt x1 x3 x4 x5 wh).2.1)), (4, .int ((b_X1_round_26 bi wt x1 x3 x4 x5 wh).2.2.1)), (5, .int ((b_X1_round_26 bi wt x1 x3 x4 x5 wh).2.2.2.1))] → W p l e R s m args below meth c H locs cells slots Q (F0 m 26 ls [])) (ke : (b_X1_round_26 bi wt x1 x3 x4 x5 wh).1 = false → ∀ (H : Heap) (locs : List Loc) (ls : Array Slot), va_P (dC, dI) vwCl [(h0, .inr (1, [.int cd, .int ct, .ref pt, .ref pf, .ref pb, .int wt, .int fi, .int mn, .long (b_X1_round_26 bi wt x1 x3 x4 x5 wh).2.2.2.2, .int fu, .int tl, .int gr, .int sd, .int mt, .long mf])), (pt, .inl (cA, 8, .inl tp)), (pf, .inl (cB, 8, .inr (.inl fr))), (pb, .inl (cC, 129, .inl bi))] H → va_D A [(h0, .inr (1, [.int cd, .int ct, .ref pt, .ref pf, .ref pb, .int wt, .int fi, .int mn, .long (b_X1_round_26 bi wt x1 x3 x4 x5 wh).2.2.2.2, .int fu, .int tl, .int gr, .int sd, .int mt, .long mf])), (pt, .inl (cA, 8, .inl tp)), (pf, .inl (cB, 8, .inr (.inl fr))), (pb, .inl (cC, 129, .inl bi))] → va_S A s.heap H locs → lv_has ls 7 [(0, .ref h0), (1, .int x1), (2, .int x2), (3, .int ((b_X1_round_26 bi wt x1 x3 x4 x5 wh).2.1)), (4, .int ((b_X1_round_26 bi wt x1 x3 x4 x5 wh).2.2.1)), (5, .int ((b_X1_round_26 bi wt x1 x3 x4 x5 wh).2.2.2.1))] → W p l e R s m args below meth c H locs cells slots Q (F0 m 132 ls [])) : W p l e R s m args below meth c H locs cells slots Q (F0 m 26 ls []) := by
  have hin_X1 : ∀ w ∈ u_ws RX1 TX1 15, w ∈ wsX1_round := by decide +kernel
  refine lv_iload hx hb dX1_round_26 (lv_at hl 5 rfl) ?_
  refine lv_sipush (v := 129) hx hb dX1_round_28 (by decide) ?_
  refine lv_icmp_ge (tgt := 132) hx hb dX1_round_31 (by decide) (fun c_1 => ?_) (fun c_1 => ?_)
  · have hbS : (b_X1_round_26 bi wt x1 x3 x4 x5 wh) = (false, x3, x4, x5, wh) := by unfold b_X1_round_26; rw [if_pos c_1]
    exact ke (by rw [hbS]) _ _ _ (by rw [hbS]; exact hP) (by rw [hbS]; exact hD) hS (by first | (rw [hbS]; exact lv_sub hl [0, 1, 2, 3, 4, 5] rfl) | exact lv_sub hl [0, 1, 2, 3, 4, 5] rfl)
  · refine lv_aload_n hx hb dX1_round_34 rfl (lv_at hl 0 rfl) ?_
    refine va_get (D := (dC, dI)) (ci := 1) (v := .int wt) (C := RX1) (T := TX1) (N := 15) hx hb hts hin_X1 hown hK hP 0 rfl rfl 5 (by decide) (hts (.fieldLink RX1 50 "TemporaryRealsModel" "weight" "I") (by decide +kernel)) (fun _ h9 => h9) rfl dX1_round_35 ?_
    refine lv_iload hx hb dX1_round_38 (lv_at hl 5 rfl) ?_
    refine lv_isub hx hb dX1_round_40 ?_
    refine lv_istore (lv' := [(6, .int (wt - x5)), (0, .ref h0), (1, .int x1), (2, .int x2), (3, .int x3), (4, .int x4), (5, .int x5)]) hx hb dX1_round_41 hl (by decide) rfl (fun ls hl => ?_)
    refine lv_iload hx hb dX1_round_43 (lv_at hl 0 rfl) ?_
    refine lv_iload_n hx hb dX1_round_45 rfl (lv_at hl 2 rfl) ?_
    refine lv_icmp_lt (tgt := 70) hx hb dX1_round_46 (by decide) (fun c_2 => ?_) (fun c_2 => ?_)
    · refine lv_iload hx hb dX1_round_70 (lv_at hl 0 rfl) ?_
      refine lv_iload_n hx hb dX1_round_72 rfl (lv_at hl 2 rfl) ?_
      refine lv_iconst (v := 1) hx hb dX1_round_73 (by decide) ?_
      refine lv_isub hx hb dX1_round_74 ?_
      refine lv_icmp_ne (tgt := 95) hx hb dX1_round_75 (by decide) (fun c_3 => ?_) (fun c_3 => ?_)
      · refine lv_iload hx hb dX1_round_95 (lv_at hl 0 rfl) ?_
        refine lv_iload_n hx hb dX1_round_97 rfl (lv_at hl 2 rfl) ?_
        refine lv_iconst (v := 1) hx hb dX1_round_98 (by decide) ?_
        refine lv_isub hx hb dX1_round_99 ?_
        refine lv_icmp_ge (tgt := 126) hx hb dX1_round_100 (by decide) (fun c_4 => ?_) (fun c_4 => ?_)
        · refine lv_iinc (v := (x5 + 1)) (lv' := [(5, .int (x5 + 1)), (6, .int (wt - x5)), (0, .ref h0), (1, .int x1), (2, .int x2), (3, .int x3), (4, .int x4)]) hx hb dX1_round_126 hl (k := 6) rfl rfl (by decide) rfl (fun ls hl => ?_)
          refine lv_goto (tgt := 26) hx hb dX1_round_129 (by decide) ?_
          have hbS : (b_X1_round_26 bi wt x1 x3 x4 x5 wh) = (true, x3, x4, (x5 + 1), wh) := by unfold b_X1_round_26; rw [if_neg c_1, if_pos c_2, if_neg c_3, if_pos c_4]
          exact kb (by rw [hbS]) _ _ _ (by rw [hbS]; exact hP) (by rw [hbS]; exact hD) hS (by first | (rw [hbS]; exact lv_sub hl [2, 3, 4, 5, 6, 0] rfl) | exact lv_sub hl [2, 3, 4, 5, 6, 0] rfl)
        · refine lv_iload hx hb dX1_round_103 (lv_at hl 5 rfl) ?_
          refine w_join (F0 m 124 ls (.int (if x4 = 0 then (if (bi x5.toNatClampNeg) = 1 then 1 else 0) else 1) :: [])) ?_ (fun hJ_5 => ?_)
          · refine lv_istore (lv' := [(4, .int (if x4 = 0 then (if (bi x5.toNatClampNeg) = 1 then 1 else 0) else 1)), (6, .int (wt - x5)), (0, .ref h0), (1, .int x1), (2, .int x2), (3, .int x3), (5, .int x5)]) hx hb dX1_round_124 hl (by decide) rfl (fun ls hl => ?_)
            refine lv_iinc (v := (x5 + 1)) (lv' := [(5, .int (x5 + 1)), (4, .int (if x4 = 0 then (if (bi x5.toNatClampNeg) = 1 then 1 else 0) else 1)), (6, .int (wt - x5)), (0, .ref h0), (1, .int x1), (2, .int x2), (3, .int x3)]) hx hb dX1_round_126 hl (k := 6) rfl rfl (by decide) rfl (fun ls hl => ?_)
            refine lv_goto (tgt := 26) hx hb dX1_round_129 (by decide) ?_
            have hbS : (b_X1_round_26 bi wt x1 x3 x4 x5 wh) = (true, x3, (if x4 = 0 then (if (bi x5.toNatClampNeg) = 1 then 1 else 0) else 1), (x5 + 1), wh) := by unfold b_X1_round_26; rw [if_neg c_1, if_pos c_2, if_neg c_3, if_neg c_4]
            exact kb (by rw [hbS]) _ _ _ (by rw [hbS]; exact hP) (by rw [hbS]; exact hD) hS (by first | (rw [hbS]; exact lv_sub hl [3, 4, 5, 6, 1, 0] rfl) | exact lv_sub hl [3, 4, 5, 6, 1, 0] rfl)
          · refine lv_if_ne (tgt := 119) hx hb dX1_round_105 (by decide) (fun c_6 => ?_) (fun c_6 => ?_)
            · refine lv_iconst (v := 1) hx hb dX1_round_119 (by decide) ?_
              refine lv_goto (tgt := 124) hx hb dX1_round_120 (by decide) ?_
              exact W.eq (by rw [if_neg c_6] <;> (repeat (first | rw [if_neg c_6]))) hJ_5
            · refine lv_aload_n hx hb dX1_round_108 rfl (lv_at hl 1 rfl) ?_
              refine va_get (D := (dC, dI)) (ci := 1) (v := .ref pb) (C := RX1) (T := TX1) (N := 15) hx hb hts hin_X1 hown hK hP 0 rfl rfl 4 (by decide) (hts (.fieldLink RX1 21 "TemporaryRealsModel" "bits" "[I") (by decide +kernel)) (fun _ h9 => h9) rfl dX1_round_109 ?_
              refine lv_iload hx hb dX1_round_112 (lv_at hl 6 rfl) ?_
              refine va_iald hx hb hK hP 3 2 rfl rfl (by first | assumption | exact hbnd | exact hbnd.1 | exact hbnd (by assumption) | exact hbnd.2 (by assumption)) dX1_round_114 ?_
              refine lv_iconst (v := 1) hx hb dX1_round_115 (by decide) ?_
              refine lv_icmp_ne (tgt := 123) hx hb dX1_round_116 (by decide) (fun c_7 => ?_) (fun c_7 => ?_)
              · refine lv_iconst (v := 0) hx hb dX1_round_123 (by decide) ?_
                exact W.eq (by rw [if_pos c_6, if_neg c_7] <;> (repeat (first | rw [if_pos c_6] | rw [if_neg c_7]))) hJ_5
              · refine lv_iconst (v := 1) hx hb dX1_round_119 (by decide) ?_
                refine lv_goto (tgt := 124) hx hb dX1_round_120 (by decide) ?_
                exact W.eq (by rw [if_pos c_6, if_pos c_7] <;> (repeat (first | rw [if_pos c_6] | rw [if_pos c_7]))) hJ_5
      · refine lv_aload_n hx hb dX1_round_78 rfl (lv_at hl 1 rfl) ?_
        refine va_get (D := (dC, dI)) (ci := 1) (v := .ref pb) (C := RX1) (T := TX1) (N := 15) hx hb hts hin_X1 hown hK hP 0 rfl rfl 4 (by decide) (hts (.fieldLink RX1 21 "TemporaryRealsModel" "bits" "[I") (by decide +kernel)) (fun _ h9 => h9) rfl dX1_round_79 ?_
        refine lv_iload hx hb dX1_round_82 (lv_at hl 6 rfl) ?_
        refine va_iald hx hb hK hP 3 2 rfl rfl (by first | assumption | exact hbnd | exact hbnd.1 | exact hbnd (by assumption) | exact hbnd.2 (by assumption)) dX1_round_84 ?_
        refine lv_iconst (v := 1) hx hb dX1_round_85 (by decide) ?_
        refine w_join (F0 m 94 ls (.int (if (bi x5.toNatClampNeg) = 1 then 1 else 0) :: [])) ?_ (fun hJ_8 => ?_)
        · refine lv_istore_n (lv' := [(3, .int (if (bi x5.toNatClampNeg) = 1 then 1 else 0)), (6, .int (wt - x5)), (0, .ref h0), (1, .int x1), (2, .int x2), (4, .int x4), (5, .int x5)]) hx hb dX1_round_94 rfl hl (by decide) rfl (fun ls hl => ?_)
          refine lv_iload hx hb dX1_round_95 (lv_at hl 1 rfl) ?_
          refine lv_iload_n hx hb dX1_round_97 rfl (lv_at hl 3 rfl) ?_
          refine lv_iconst (v := 1) hx hb dX1_round_98 (by decide) ?_
          refine lv_isub hx hb dX1_round_99 ?_
          refine lv_icmp_ge (tgt := 126) hx hb dX1_round_100 (by decide) (fun c_10 => ?_) (fun c_10 => ?_)
          · refine lv_iinc (v := (x5 + 1)) (lv' := [(5, .int (x5 + 1)), (3, .int (if (bi x5.toNatClampNeg) = 1 then 1 else 0)), (6, .int (wt - x5)), (0, .ref h0), (1, .int x1), (2, .int x2), (4, .int x4)]) hx hb dX1_round_126 hl (k := 6) rfl rfl (by decide) rfl (fun ls hl => ?_)
            refine lv_goto (tgt := 26) hx hb dX1_round_129 (by decide) ?_
            have hbS : (b_X1_round_26 bi wt x1 x3 x4 x5 wh) = (true, (if (bi x5.toNatClampNeg) = 1 then 1 else 0), x4, (x5 + 1), wh) := by unfold b_X1_round_26; rw [if_neg c_1, if_pos c_2, if_pos c_3, if_pos c_10]
            exact kb (by rw [hbS]) _ _ _ (by rw [hbS]; exact hP) (by rw [hbS]; exact hD) hS (by first | (rw [hbS]; exact lv_sub hl [3, 4, 5, 1, 6, 0] rfl) | exact lv_sub hl [3, 4, 5, 1, 6, 0] rfl)
          · refine lv_iload hx hb dX1_round_103 (lv_at hl 5 rfl) ?_
            refine w_join (F0 m 124 ls (.int (if x4 = 0 then (if (bi x5.toNatClampNeg) = 1 then 1 else 0) else 1) :: [])) ?_ (fun hJ_11 => ?_)
            · refine lv_istore (lv' := [(4, .int (if x4 = 0 then (if (bi x5.toNatClampNeg) = 1 then 1 else 0) else 1)), (3, .int (if (bi x5.toNatClampNeg) = 1 then 1 else 0)), (6, .int (wt - x5)), (0, .ref h0), (1, .int x1), (2, .int x2), (5, .int x5)]) hx hb dX1_round_124 hl (by decide) rfl (fun ls hl => ?_)
              refine lv_iinc (v := (x5 + 1)) (lv' := [(5, .int (x5 + 1)), (4, .int (if x4 = 0 then (if (bi x5.toNatClampNeg) = 1 then 1 else 0) else 1)), (3, .int (if (bi x5.toNatClampNeg) = 1 then 1 else 0)), (6, .int (wt - x5)), (0, .ref h0), (1, .int x1), (2, .int x2)]) hx hb dX1_round_126 hl (k := 6) rfl rfl (by decide) rfl (fun ls hl => ?_)
              refine lv_goto (tgt := 26) hx hb dX1_round_129 (by decide) ?_
              have hbS : (b_X1_round_26 bi wt x1 x3 x4 x5 wh) = (true, (if (bi x5.toNatClampNeg) = 1 then 1 else 0), (if x4 = 0 then (if (bi x5.toNatClampNeg) = 1 then 1 else 0) else 1), (x5 + 1), wh) := by unfold b_X1_round_26; rw [if_neg c_1, if_pos c_2, if_pos c_3, if_neg c_10]
              exact kb (by rw [hbS]) _ _ _ (by rw [hbS]; exact hP) (by rw [hbS]; exact hD) hS (by first | (rw [hbS]; exact lv_sub hl [4, 5, 6, 2, 1, 0] rfl) | exact lv_sub hl [4, 5, 6, 2, 1, 0] rfl)
            · refine lv_if_ne (tgt := 119) hx hb dX1_round_105 (by decide) (fun c_12 => ?_) (fun c_12 => ?_)
              · refine lv_iconst (v := 1) hx hb dX1_round_119 (by decide) ?_
                refine lv_goto (tgt := 124) hx hb dX1_round_120 (by decide) ?_
                exact W.eq (by rw [if_neg c_12] <;> (repeat (first | rw [if_neg c_12]))) hJ_11
              · refine lv_aload_n hx hb dX1_round_108 rfl (lv_at hl 2 rfl) ?_
                refine va_get (D := (dC, dI)) (ci := 1) (v := .ref pb) (C := RX1) (T := TX1) (N := 15) hx hb hts hin_X1 hown hK hP 0 rfl rfl 4 (by decide) (hts (.fieldLink RX1 21 "TemporaryRealsModel" "bits" "[I") (by decide +kernel)) (fun _ h9 => h9) rfl dX1_round_109 ?_
                refine lv_iload hx hb dX1_round_112 (lv_at hl 6 rfl) ?_
                refine va_iald hx hb hK hP 3 2 rfl rfl (by first | assumption | exact hbnd | exact hbnd.1 | exact hbnd (by assumption) | exact hbnd.2 (by assumption)) dX1_round_114 ?_
                refine lv_iconst (v := 1) hx hb dX1_round_115 (by decide) ?_
                refine lv_icmp_ne (tgt := 123) hx hb dX1_round_116 (by decide) (fun c_13 => ?_) (fun c_13 => ?_)
                · refine lv_iconst (v := 0) hx hb dX1_round_123 (by decide) ?_
                  exact W.eq (by rw [if_pos c_12, if_neg c_13] <;> (repeat (first | rw [if_pos c_12] | rw [if_neg c_13]))) hJ_11
                · refine lv_iconst (v := 1) hx hb dX1_round_119 (by decide) ?_
                  refine lv_goto (tgt := 124) hx hb dX1_round_120 (by decide) ?_
                  exact W.eq (by rw [if_pos c_12, if_pos c_13] <;> (repeat (first | rw [if_pos c_12] | rw [if_pos c_13]))) hJ_11
        · refine lv_icmp_ne (tgt := 93) hx hb dX1_round_86 (by decide) (fun c_9 => ?_) (fun c_9 => ?_)
          · refine lv_iconst (v := 0) hx hb dX1_round_93 (by decide) ?_
            exact W.eq (by rw [if_neg c_9] <;> (repeat (first | rw [if_neg c_9]))) hJ_8
          · refine lv_iconst (v := 1) hx hb dX1_round_89 (by decide) ?_
            refine lv_goto (tgt := 94) hx hb dX1_round_90 (by decide) ?_
            exact W.eq (by rw [if_pos c_9] <;> (repeat (first | rw [if_pos c_9]))) hJ_8
    · refine lv_aload_n hx hb dX1_round_49 rfl (lv_at hl 1 rfl) ?_
      refine lv_ldc2 (v := 2) hx hb hown (hts (.constantLong RX1 53 2) (by decide +kernel)) dX1_round_50 ?_
      refine lv_aload_n hx hb dX1_round_53 rfl (lv_at hl 1 rfl) ?_
      refine va_get (D := (dC, dI)) (ci := 1) (v := .long wh) (C := RX1) (T := TX1) (N := 15) hx hb hts hin_X1 hown hK hP 0 rfl rfl 8 (by decide) (hts (.fieldLink RX1 43 "TemporaryRealsModel" "whole" "J") (by decide +kernel)) (fun _ h9 => h9) rfl dX1_round_54 ?_
      refine lv_lmul hx hb dX1_round_57 ?_
      refine lv_aload_n hx hb dX1_round_58 rfl (lv_at hl 1 rfl) ?_
      refine va_get (D := (dC, dI)) (ci := 1) (v := .ref pb) (C := RX1) (T := TX1) (N := 15) hx hb hts hin_X1 hown hK hP 0 rfl rfl 4 (by decide) (hts (.fieldLink RX1 21 "TemporaryRealsModel" "bits" "[I") (by decide +kernel)) (fun _ h9 => h9) rfl dX1_round_59 ?_
      refine lv_iload hx hb dX1_round_62 (lv_at hl 6 rfl) ?_
      refine va_iald hx hb hK hP 3 2 rfl rfl (by first | assumption | exact hbnd | exact hbnd.1 | exact hbnd (by assumption) | exact hbnd.2 (by assumption)) dX1_round_64 ?_
      refine lv_i2l hx hb dX1_round_65 rfl ?_
      refine lv_ladd hx hb dX1_round_66 ?_
      refine va_put (D := (dC, dI)) (ci := 1) (v := .long ((2 * wh) + (Int32.toInt64 (bi x5.toNatClampNeg)))) (ty := .long) (C := RX1) (T := TX1) (N := 15) hx hb hts hin_X1 tyX1 tyX1_ok nmX1 hown hK hP hD hS 0 rfl rfl 8 (by decide) (hts (.fieldLink RX1 43 "TemporaryRealsModel" "whole" "J") (by decide +kernel)) (fun _ h9 => h9) rfl (by decide +kernel) rfl rfl (Nat.le_of_ble_eq_true rfl) dX1_round_67 (fun H locs hP hD hS => ?_)
      have hP : va_P (dC, dI) vwCl [(h0, .inr (1, [.int cd, .int ct, .ref pt, .ref pf, .ref pb, .int wt, .int fi, .int mn, .long ((2 * wh) + (Int32.toInt64 (bi x5.toNatClampNeg))), .int fu, .int tl, .int gr, .int sd, .int mt, .long mf])), (pt, .inl (cA, 8, .inl tp)), (pf, .inl (cB, 8, .inr (.inl fr))), (pb, .inl (cC, 129, .inl bi))] H := hP
      have hD : va_D A [(h0, .inr (1, [.int cd, .int ct, .ref pt, .ref pf, .ref pb, .int wt, .int fi, .int mn, .long ((2 * wh) + (Int32.toInt64 (bi x5.toNatClampNeg))), .int fu, .int tl, .int gr, .int sd, .int mt, .long mf])), (pt, .inl (cA, 8, .inl tp)), (pf, .inl (cB, 8, .inr (.inl fr))), (pb, .inl (cC, 129, .inl bi))] := hD
      refine lv_iload hx hb dX1_round_70 (lv_at hl 0 rfl) ?_
      refine lv_iload_n hx hb dX1_round_72 rfl (lv_at hl 2 rfl) ?_
      refine lv_iconst (v := 1) hx hb dX1_round_73 (by decide) ?_
      refine lv_isub hx hb dX1_round_74 ?_
      refine lv_icmp_ne (tgt := 95) hx hb dX1_round_75 (by decide) (fun c_14 => ?_) (fun c_14 => ?_)
      · refine lv_iload hx hb dX1_round_95 (lv_at hl 0 rfl) ?_
        refine lv_iload_n hx hb dX1_round_97 rfl (lv_at hl 2 rfl) ?_
        refine lv_iconst (v := 1) hx hb dX1_round_98 (by decide) ?_
        refine lv_isub hx hb dX1_round_99 ?_
        refine lv_icmp_ge (tgt := 126) hx hb dX1_round_100 (by decide) (fun c_15 => ?_) (fun c_15 => ?_)
        · refine lv_iinc (v := (x5 + 1)) (lv' := [(5, .int (x5 + 1)), (6, .int (wt - x5)), (0, .ref h0), (1, .int x1), (2, .int x2), (3, .int x3), (4, .int x4)]) hx hb dX1_round_126 hl (k := 6) rfl rfl (by decide) rfl (fun ls hl => ?_)
          refine lv_goto (tgt := 26) hx hb dX1_round_129 (by decide) ?_
          have hbS : (b_X1_round_26 bi wt x1 x3 x4 x5 wh) = (true, x3, x4, (x5 + 1), ((2 * wh) + (Int32.toInt64 (bi x5.toNatClampNeg)))) := by unfold b_X1_round_26; rw [if_neg c_1, if_neg c_2, if_neg c_14, if_pos c_15]
          exact kb (by rw [hbS]) _ _ _ (by rw [hbS]; exact hP) (by rw [hbS]; exact hD) hS (by first | (rw [hbS]; exact lv_sub hl [2, 3, 4, 5, 6, 0] rfl) | exact lv_sub hl [2, 3, 4, 5, 6, 0] rfl)
        · refine lv_iload hx hb dX1_round_103 (lv_at hl 5 rfl) ?_
          refine w_join (F0 m 124 ls (.int (if x4 = 0 then (if (bi x5.toNatClampNeg) = 1 then 1 else 0) else 1) :: [])) ?_ (fun hJ_16 => ?_)
          · refine lv_istore (lv' := [(4, .int (if x4 = 0 then (if (bi x5.toNatClampNeg) = 1 then 1 else 0) else 1)), (6, .int (wt - x5)), (0, .ref h0), (1, .int x1), (2, .int x2), (3, .int x3), (5, .int x5)]) hx hb dX1_round_124 hl (by decide) rfl (fun ls hl => ?_)
            refine lv_iinc (v := (x5 + 1)) (lv' := [(5, .int (x5 + 1)), (4, .int (if x4 = 0 then (if (bi x5.toNatClampNeg) = 1 then 1 else 0) else 1)), (6, .int (wt - x5)), (0, .ref h0), (1, .int x1), (2, .int x2), (3, .int x3)]) hx hb dX1_round_126 hl (k := 6) rfl rfl (by decide) rfl (fun ls hl => ?_)
            refine lv_goto (tgt := 26) hx hb dX1_round_129 (by decide) ?_
            have hbS : (b_X1_round_26 bi wt x1 x3 x4 x5 wh) = (true, x3, (if x4 = 0 then (if (bi x5.toNatClampNeg) = 1 then 1 else 0) else 1), (x5 + 1), ((2 * wh) + (Int32.toInt64 (bi x5.toNatClampNeg)))) := by unfold b_X1_round_26; rw [if_neg c_1, if_neg c_2, if_neg c_14, if_neg c_15]
            exact kb (by rw [hbS]) _ _ _ (by rw [hbS]; exact hP) (by rw [hbS]; exact hD) hS (by first | (rw [hbS]; exact lv_sub hl [3, 4, 5, 6, 1, 0] rfl) | exact lv_sub hl [3, 4, 5, 6, 1, 0] rfl)
          · refine lv_if_ne (tgt := 119) hx hb dX1_round_105 (by decide) (fun c_17 => ?_) (fun c_17 => ?_)
            · refine lv_iconst (v := 1) hx hb dX1_round_119 (by decide) ?_
              refine lv_goto (tgt := 124) hx hb dX1_round_120 (by decide) ?_
              exact W.eq (by rw [if_neg c_17] <;> (repeat (first | rw [if_neg c_17]))) hJ_16
            · refine lv_aload_n hx hb dX1_round_108 rfl (lv_at hl 1 rfl) ?_
              refine va_get (D := (dC, dI)) (ci := 1) (v := .ref pb) (C := RX1) (T := TX1) (N := 15) hx hb hts hin_X1 hown hK hP 0 rfl rfl 4 (by decide) (hts (.fieldLink RX1 21 "TemporaryRealsModel" "bits" "[I") (by decide +kernel)) (fun _ h9 => h9) rfl dX1_round_109 ?_
              refine lv_iload hx hb dX1_round_112 (lv_at hl 6 rfl) ?_
              refine va_iald hx hb hK hP 3 2 rfl rfl (by first | assumption | exact hbnd | exact hbnd.1 | exact hbnd (by assumption) | exact hbnd.2 (by assumption)) dX1_round_114 ?_
              refine lv_iconst (v := 1) hx hb dX1_round_115 (by decide) ?_
              refine lv_icmp_ne (tgt := 123) hx hb dX1_round_116 (by decide) (fun c_18 => ?_) (fun c_18 => ?_)
              · refine lv_iconst (v := 0) hx hb dX1_round_123 (by decide) ?_
                exact W.eq (by rw [if_pos c_17, if_neg c_18] <;> (repeat (first | rw [if_pos c_17] | rw [if_neg c_18]))) hJ_16
              · refine lv_iconst (v := 1) hx hb dX1_round_119 (by decide) ?_
                refine lv_goto (tgt := 124) hx hb dX1_round_120 (by decide) ?_
                exact W.eq (by rw [if_pos c_17, if_pos c_18] <;> (repeat (first | rw [if_pos c_17] | rw [if_pos c_18]))) hJ_16
      · refine lv_aload_n hx hb dX1_round_78 rfl (lv_at hl 1 rfl) ?_
        refine va_get (D := (dC, dI)) (ci := 1) (v := .ref pb) (C := RX1) (T := TX1) (N := 15) hx hb hts hin_X1 hown hK hP 0 rfl rfl 4 (by decide) (hts (.fieldLink RX1 21 "TemporaryRealsModel" "bits" "[I") (by decide +kernel)) (fun _ h9 => h9) rfl dX1_round_79 ?_
        refine lv_iload hx hb dX1_round_82 (lv_at hl 6 rfl) ?_
        refine va_iald hx hb hK hP 3 2 rfl rfl (by first | assumption | exact hbnd | exact hbnd.1 | exact hbnd (by assumption) | exact hbnd.2 (by assumption)) dX1_round_84 ?_
        refine lv_iconst (v := 1) hx hb dX1_round_85 (by decide) ?_
        refine w_join (F0 m 94 ls (.int (if (bi x5.toNatClampNeg) = 1 then 1 else 0) :: [])) ?_ (fun hJ_19 => ?_)
        · refine lv_istore_n (lv' := [(3, .int (if (bi x5.toNatClampNeg) = 1 then 1 else 0)), (6, .int (wt - x5)), (0, .ref h0), (1, .int x1), (2, .int x2), (4, .int x4), (5, .int x5)]) hx hb dX1_round_94 rfl hl (by decide) rfl (fun ls hl => ?_)
          refine lv_iload hx hb dX1_round_95 (lv_at hl 1 rfl) ?_
          refine lv_iload_n hx hb dX1_round_97 rfl (lv_at hl 3 rfl) ?_
          refine lv_iconst (v := 1) hx hb dX1_round_98 (by decide) ?_
          refine lv_isub hx hb dX1_round_99 ?_
          refine lv_icmp_ge (tgt := 126) hx hb dX1_round_100 (by decide) (fun c_21 => ?_) (fun c_21 => ?_)
          · refine lv_iinc (v := (x5 + 1)) (lv' := [(5, .int (x5 + 1)), (3, .int (if (bi x5.toNatClampNeg) = 1 then 1 else 0)), (6, .int (wt - x5)), (0, .ref h0), (1, .int x1), (2, .int x2), (4, .int x4)]) hx hb dX1_round_126 hl (k := 6) rfl rfl (by decide) rfl (fun ls hl => ?_)
            refine lv_goto (tgt := 26) hx hb dX1_round_129 (by decide) ?_
            have hbS : (b_X1_round_26 bi wt x1 x3 x4 x5 wh) = (true, (if (bi x5.toNatClampNeg) = 1 then 1 else 0), x4, (x5 + 1), ((2 * wh) + (Int32.toInt64 (bi x5.toNatClampNeg)))) := by unfold b_X1_round_26; rw [if_neg c_1, if_neg c_2, if_pos c_14, if_pos c_21]
            exact kb (by rw [hbS]) _ _ _ (by rw [hbS]; exact hP) (by rw [hbS]; exact hD) hS (by first | (rw [hbS]; exact lv_sub hl [3, 4, 5, 1, 6, 0] rfl) | exact lv_sub hl [3, 4, 5, 1, 6, 0] rfl)
          · refine lv_iload hx hb dX1_round_103 (lv_at hl 5 rfl) ?_
            refine w_join (F0 m 124 ls (.int (if x4 = 0 then (if (bi x5.toNatClampNeg) = 1 then 1 else 0) else 1) :: [])) ?_ (fun hJ_22 => ?_)
            · refine lv_istore (lv' := [(4, .int (if x4 = 0 then (if (bi x5.toNatClampNeg) = 1 then 1 else 0) else 1)), (3, .int (if (bi x5.toNatClampNeg) = 1 then 1 else 0)), (6, .int (wt - x5)), (0, .ref h0), (1, .int x1), (2, .int x2), (5, .int x5)]) hx hb dX1_round_124 hl (by decide) rfl (fun ls hl => ?_)
              refine lv_iinc (v := (x5 + 1)) (lv' := [(5, .int (x5 + 1)), (4, .int (if x4 = 0 then (if (bi x5.toNatClampNeg) = 1 then 1 else 0) else 1)), (3, .int (if (bi x5.toNatClampNeg) = 1 then 1 else 0)), (6, .int (wt - x5)), (0, .ref h0), (1, .int x1), (2, .int x2)]) hx hb dX1_round_126 hl (k := 6) rfl rfl (by decide) rfl (fun ls hl => ?_)
              refine lv_goto (tgt := 26) hx hb dX1_round_129 (by decide) ?_
              have hbS : (b_X1_round_26 bi wt x1 x3 x4 x5 wh) = (true, (if (bi x5.toNatClampNeg) = 1 then 1 else 0), (if x4 = 0 then (if (bi x5.toNatClampNeg) = 1 then 1 else 0) else 1), (x5 + 1), ((2 * wh) + (Int32.toInt64 (bi x5.toNatClampNeg)))) := by unfold b_X1_round_26; rw [if_neg c_1, if_neg c_2, if_pos c_14, if_neg c_21]
              exact kb (by rw [hbS]) _ _ _ (by rw [hbS]; exact hP) (by rw [hbS]; exact hD) hS (by first | (rw [hbS]; exact lv_sub hl [4, 5, 6, 2, 1, 0] rfl) | exact lv_sub hl [4, 5, 6, 2, 1, 0] rfl)
            · refine lv_if_ne (tgt := 119) hx hb dX1_round_105 (by decide) (fun c_23 => ?_) (fun c_23 => ?_)
              · refine lv_iconst (v := 1) hx hb dX1_round_119 (by decide) ?_
                refine lv_goto (tgt := 124) hx hb dX1_round_120 (by decide) ?_
                exact W.eq (by rw [if_neg c_23] <;> (repeat (first | rw [if_neg c_23]))) hJ_22
              · refine lv_aload_n hx hb dX1_round_108 rfl (lv_at hl 2 rfl) ?_
                refine va_get (D := (dC, dI)) (ci := 1) (v := .ref pb) (C := RX1) (T := TX1) (N := 15) hx hb hts hin_X1 hown hK hP 0 rfl rfl 4 (by decide) (hts (.fieldLink RX1 21 "TemporaryRealsModel" "bits" "[I") (by decide +kernel)) (fun _ h9 => h9) rfl dX1_round_109 ?_
                refine lv_iload hx hb dX1_round_112 (lv_at hl 6 rfl) ?_
                refine va_iald hx hb hK hP 3 2 rfl rfl (by first | assumption | exact hbnd | exact hbnd.1 | exact hbnd (by assumption) | exact hbnd.2 (by assumption)) dX1_round_114 ?_
                refine lv_iconst (v := 1) hx hb dX1_round_115 (by decide) ?_
                refine lv_icmp_ne (tgt := 123) hx hb dX1_round_116 (by decide) (fun c_24 => ?_) (fun c_24 => ?_)
                · refine lv_iconst (v := 0) hx hb dX1_round_123 (by decide) ?_
                  exact W.eq (by rw [if_pos c_23, if_neg c_24] <;> (repeat (first | rw [if_pos c_23] | rw [if_neg c_24]))) hJ_22
                · refine lv_iconst (v := 1) hx hb dX1_round_119 (by decide) ?_
                  refine lv_goto (tgt := 124) hx hb dX1_round_120 (by decide) ?_
                  exact W.eq (by rw [if_pos c_23, if_pos c_24] <;> (repeat (first | rw [if_pos c_23] | rw [if_pos c_24]))) hJ_22
        · refine lv_icmp_ne (tgt := 93) hx hb dX1_round_86 (by decide) (fun c_20 => ?_) (fun c_20 => ?_)
          · refine lv_iconst (v := 0) hx hb dX1_round_93 (by decide) ?_
            exact W.eq (by rw [if_neg c_20] <;> (repeat (first | rw [if_neg c_20]))) hJ_19
          · refine lv_iconst (v := 1) hx hb dX1_round_89 (by decide) ?_
            refine lv_goto (tgt := 94) hx hb dX1_round_90 (by decide) ?_
            exact W.eq (by rw [if_pos c_20] <;> (repeat (first | rw [if_pos c_20]))) hJ_19
theorem lq_X1_round_26 {p : Program} {l : Launch} {e : Env} {R : Room} {s : State} {m : MethodId} {args : Array Value} {below : List Frame} {meth : Method} {c : Code} {cells slots : Nat} {Q : State → Prop} {dC : Nat → ClassId} {dI : Nat → Nat → Nat} {cA cB cC : ClassId} {h0 pt pf pb : Nat} {A : Nat → Prop} (hx : p.tables.exec = Jvm.exec) (hb : c.code = cX1_round) (hml : c.maxLocals = 7) (hts : ∀ w ∈ wsX1_round, w.before args s = true) (hown : s.vm.findClass RX1 = some m.cls) (hK : va_K (dC, dI) vwCl (m_T cA cB cC) s) (tp : Nat → Int32) (fr : Nat → Int64) (bi : Nat → Int32) (cd : Int32) (ct : Int32) (wt : Int32) (fi : Int32) (mn : Int32) (fu : Int32) (tl : Int32) (gr : Int32) (sd : Int32) (mt : Int32) (mf : Int64) (x1 : Int32) (x2 : Int32) : ∀ (n : Nat) (S : Int32 × Int32 × Int32 × Int64), fin_X1_round_26 bi wt x1 n S → ∀ {H : Heap} {locs : List Loc} {ls : Array Slot}, va_P (dC, dI) vwCl [(h0, .inr (1, [.int cd, .int ct, .ref pt, .ref pf, .ref pb, .int wt, .int fi, .int mn, .long S.2.2.2, .int fu, .int tl, .int gr, .int sd, .int mt, .long mf])), (pt, .inl (cA, 8, .inl tp)), (pf, .inl (cB, 8, .inr (.inl fr))), (pb, .inl (cC, 129, .inl bi))] H → va_D A [(h0, .inr (1, [.int cd, .int ct, .ref pt, .ref pf, .ref pb, .int wt, .int fi, .int mn, .long S.2.2.2, .int fu, .int tl, .int gr, .int sd, .int mt, .long mf])), (pt, .inl (cA, 8, .inl tp)), (pf, .inl (cB, 8, .inr (.inl fr))), (pb, .inl (cC, 129, .inl bi))] → va_S A s.heap H locs → lv_has ls 7 [(0, .ref h0), (1, .int x1), (2, .int x2), (3, .int S.1), (4, .int S.2.1), (5, .int S.2.2.1)] → (∀ (H : Heap) (locs : List Loc) (ls : Array Slot), va_P (dC, dI) vwCl [(h0, .inr (1, [.int cd, .int ct, .ref pt, .ref pf, .ref pb, .int wt, .int fi, .int mn, .long (lp_X1_round_26 bi wt x1 n S).2.2.2, .int fu, .int tl, .int gr, .int sd, .int mt, .long mf])), (pt, .inl (cA, 8, .inl tp)), (pf, .inl (cB, 8, .inr (.inl fr))), (pb, .inl (cC, 129, .inl bi))] H → va_D A [(h0, .inr (1, [.int cd, .int ct, .ref pt, .ref pf, .ref pb, .int wt, .int fi, .int mn, .long (lp_X1_round_26 bi wt x1 n S).2.2.2, .int fu, .int tl, .int gr, .int sd, .int mt, .long mf])), (pt, .inl (cA, 8, .inl tp)), (pf, .inl (cB, 8, .inr (.inl fr))), (pb, .inl (cC, 129, .inl bi))] → va_S A s.heap H locs → lv_has ls 7 [(0, .ref h0), (1, .int x1), (2, .int x2), (3, .int ((lp_X1_round_26 bi wt x1 n S).1)), (4, .int ((lp_X1_round_26 bi wt x1 n S).2.1)), (5, .int ((lp_X1_round_26 bi wt x1 n S).2.2.1))] → W p l e R s m args below meth c H locs cells slots Q (F0 m 132 ls [])) → W p l e R s m args below meth c H locs cells slots Q (F0 m 26 ls []) := by
  intro n
  induction n with
  | zero => intro S h; exact h.elim
  | succ n ih =>
    intro S h H locs ls hP hD hS hl K
    obtain ⟨hbnd, h⟩ := h
    refine st_X1_round_26 hx hb hml hts hown hK tp fr bi cd ct wt fi mn fu tl gr sd mt mf x1 x2 S.1 S.2.1 S.2.2.1 S.2.2.2 hP hD hS hl hbnd ?_ ?_
    · intro hc H locs ls hP hD hS hl
      have e : lp_X1_round_26 bi wt x1 (n + 1) S = lp_X1_round_26 bi wt x1 n (b_X1_round_26 bi wt x1 S.1 S.2.1 S.2.2.1 S.2.2.2).2 := if_pos hc
      rw [e] at K
      exact ih _ (h.resolve_left (by rw [hc]; exact Bool.noConfusion)) hP hD hS hl K
    · intro hc H locs ls hP hD hS hl
      have e : lp_X1_round_26 bi wt x1 (n + 1) S = (b_X1_round_26 bi wt x1 S.1 S.2.1 S.2.2.1 S.2.2.2).2 := if_neg (by rw [hc]; exact Bool.false_ne_true)
      rw [e] at K
      exact K H locs ls hP hD hS hl
theorem lr_X1_round_26 {p : Program} {l : Launch} {e : Env} {R : Room} {s : State} {m : MethodId} {args : Array Value} {below : List Frame} {meth : Method} {c : Code} {cells slots : Nat} {Q : State → Prop} {dC : Nat → ClassId} {dI : Nat → Nat → Nat} {cA cB cC : ClassId} {h0 pt pf pb : Nat} {A : Nat → Prop} (hx : p.tables.exec = Jvm.exec) (hb : c.code = cX1_round) (hml : c.maxLocals = 7) (hts : ∀ w ∈ wsX1_round, w.before args s = true) (hown : s.vm.findClass RX1 = some m.cls) (hK : va_K (dC, dI) vwCl (m_T cA cB cC) s) (tp : Nat → Int32) (fr : Nat → Int64) (bi : Nat → Int32) (cd : Int32) (ct : Int32) (wt : Int32) (fi : Int32) (mn : Int32) (fu : Int32) (tl : Int32) (gr : Int32) (sd : Int32) (mt : Int32) (mf : Int64) (x1 : Int32) (x2 : Int32) (n : Nat) (x3 : Int32) (x4 : Int32) (x5 : Int32) (wh : Int64) (hf : fin_X1_round_26 bi wt x1 n (x3, x4, x5, wh)) {H : Heap} {locs : List Loc} {ls : Array Slot} (hP : va_P (dC, dI) vwCl [(h0, .inr (1, [.int cd, .int ct, .ref pt, .ref pf, .ref pb, .int wt, .int fi, .int mn, .long wh, .int fu, .int tl, .int gr, .int sd, .int mt, .long mf])), (pt, .inl (cA, 8, .inl tp)), (pf, .inl (cB, 8, .inr (.inl fr))), (pb, .inl (cC, 129, .inl bi))] H) (hD : va_D A [(h0, .inr (1, [.int cd, .int ct, .ref pt, .ref pf, .ref pb, .int wt, .int fi, .int mn, .long wh, .int fu, .int tl, .int gr, .int sd, .int mt, .long mf])), (pt, .inl (cA, 8, .inl tp)), (pf, .inl (cB, 8, .inr (.inl fr))), (pb, .inl (cC, 129, .inl bi))]) (hS : va_S A s.heap H locs) (hl : lv_has ls 7 [(0, .ref h0), (1, .int x1), (2, .int x2), (3, .int x3), (4, .int x4), (5, .int x5)]) (K : ∀ (H : Heap) (locs : List Loc) (ls : Array Slot), va_P (dC, dI) vwCl [(h0, .inr (1, [.int cd, .int ct, .ref pt, .ref pf, .ref pb, .int wt, .int fi, .int mn, .long (lp_X1_round_26 bi wt x1 n (x3, x4, x5, wh)).2.2.2, .int fu, .int tl, .int gr, .int sd, .int mt, .long mf])), (pt, .inl (cA, 8, .inl tp)), (pf, .inl (cB, 8, .inr (.inl fr))), (pb, .inl (cC, 129, .inl bi))] H → va_D A [(h0, .inr (1, [.int cd, .int ct, .ref pt, .ref pf, .ref pb, .int wt, .int fi, .int mn, .long (lp_X1_round_26 bi wt x1 n (x3, x4, x5, wh)).2.2.2, .int fu, .int tl, .int gr, .int sd, .int mt, .long mf])), (pt, .inl (cA, 8, .inl tp)), (pf, .inl (cB, 8, .inr (.inl fr))), (pb, .inl (cC, 129, .inl bi))] → va_S A s.heap H locs → lv_has ls 7 [(0, .ref h0), (1, .int x1), (2, .int x2), (3, .int ((lp_X1_round_26 bi wt x1 n (x3, x4, x5, wh)).1)), (4, .int ((lp_X1_round_26 bi wt x1 n (x3, x4, x5, wh)).2.1)), (5, .int ((lp_X1_round_26 bi wt x1 n (x3, x4, x5, wh)).2.2.1))] → W p l e R s m args below meth c H locs cells slots Q (F0 m 132 ls [])) : W p l e R s m args below meth c H locs cells slots Q (F0 m 26 ls []) := lq_X1_round_26 hx hb hml hts hown hK tp fr bi cd ct wt fi mn fu tl gr sd mt mf x1 x2 n (x3, x4, x5, wh) hf hP hD hS hl K
def b_X1_round_142 (x1 : Int32) (x5 : Int32) (wh : Int64) : Bool × (Int32 × Int64) :=
  if x5 < x1 then
    (false, x5, wh)
  else
    (true, (x5 + (-1)), (2 * wh))
def lp_X1_round_142 (x1 : Int32) : Nat → (Int32 × Int64) → (Int32 × Int64)
  | 0, S => S
  | n + 1, S => if (b_X1_round_142 x1 S.1 S.2).1 = true then lp_X1_round_142 x1 n (b_X1_round_142 x1 S.1 S.2).2 else (b_X1_round_142 x1 S.1 S.2).2
def fin_X1_round_142 (x1 : Int32) : Nat → (Int32 × Int64) → Prop
  | 0, _ => False
  | n + 1, S => (True) ∧ ((b_X1_round_142 x1 S.1 S.2).1 = false ∨ fin_X1_round_142 x1 n (b_X1_round_142 x1 S.1 S.2).2)
set_option maxHeartbeats 1000000 in
set_option maxRecDepth 100000 in
theorem st_X1_round_142 {p : Program} {l : Launch} {e : Env} {R : Room} {s : State} {m : MethodId} {args : Array Value} {below : List Frame} {meth : Method} {c : Code} {cells slots : Nat} {Q : State → Prop} {dC : Nat → ClassId} {dI : Nat → Nat → Nat} {cA cB cC : ClassId} {h0 pt pf pb : Nat} {A : Nat → Prop} (hx : p.tables.exec = Jvm.exec) (hb : c.code = cX1_round) (hml : c.maxLocals = 7) (hts : ∀ w ∈ wsX1_round, w.before args s = true) (hown : s.vm.findClass RX1 = some m.cls) (hK : va_K (dC, dI) vwCl (m_T cA cB cC) s) (tp : Nat → Int32) (fr : Nat → Int64) (bi : Nat → Int32) (cd : Int32) (ct : Int32) (wt : Int32) (fi : Int32) (mn : Int32) (fu : Int32) (tl : Int32) (gr : Int32) (sd : Int32) (mt : Int32) (mf : Int64) (x1 : Int32) (x2 : Int32) (x3 : Int32) (x4 : Int32) (x5 : Int32) (wh : Int64) {H : Heap} {locs : List Loc} (hP : va_P (dC, dI) vwCl [(h0, .inr (1, [.int cd, .int ct, .ref pt, .ref pf, .ref pb, .int wt, .int fi, .int mn, .long wh, .int fu, .int tl, .int gr, .int sd, .int mt, .long mf])), (pt, .inl (cA, 8, .inl tp)), (pf, .inl (cB, 8, .inr (.inl fr))), (pb, .inl (cC, 129, .inl bi))] H) (hD : va_D A [(h0, .inr (1, [.int cd, .int ct, .ref pt, .ref pf, .ref pb, .int wt, .int fi, .int mn, .long wh, .int fu, .int tl, .int gr, .int sd, .int mt, .long mf])), (pt, .inl (cA, 8, .inl tp)), (pf, .inl (cB, 8, .inr (.inl fr))), (pb, .inl (cC, 129, .inl bi))]) (hS : va_S A s.heap H locs) {ls : Array Slot} (hl : lv_has ls 7 [(0, .ref h0), (1, .int x1), (2, .int x2), (3, .int x3), (4, .int x4), (5, .int x5)]) (hbnd : True) (kb : (b_X1_round_142 x1 x5 wh).1 = true → ∀ (H : Heap) (locs : List Loc) (ls : Array Slot), va_P (dC, dI) vwCl [(h0, .inr (1, [.int cd, .int ct, .ref pt, .ref pf, .ref pb, .int wt, .int fi, .int mn, .long (b_X1_round_142 x1 x5 wh).2.2, .int fu, .int tl, .int gr, .int sd, .int mt, .long mf])), (pt, .inl (cA, 8, .inl tp)), (pf, .inl (cB, 8, .inr (.inl fr))), (pb, .inl (cC, 129, .inl bi))] H → va_D A [(h0, .inr (1, [.int cd, .int ct, .ref pt, .ref pf, .ref pb, .int wt, .int fi, .int mn, .long (b_X1_round_142 x1 x5 wh).2.2, .int fu, .int tl, .int gr, .int sd, .int mt, .long mf])), (pt, .inl (cA, 8, .inl tp)), (pf, .inl (cB, 8, .inr (.inl fr))), (pb, .inl (cC, 129, .inl bi))] → va_S A s.heap H locs → lv_has ls 7 [(0, .ref h0), (1, .int x1), (2, .int x2), (3, .int x3), (4, .int x4), (5, .int ((b_X1_round_142 x1 x5 wh).2.1))] → W p l e R s m args below meth c H locs cells slots Q (F0 m 142 ls [])) (ke : (b_X1_round_142 x1 x5 wh).1 = false → ∀ (H : Heap) (locs : List Loc) (ls : Array Slot), va_P (dC, dI) vwCl [(h0, .inr (1, [.int cd, .int ct, .ref pt, .ref pf, .ref pb, .int wt, .int fi, .int mn, .long (b_X1_round_142 x1 x5 wh).2.2, .int fu, .int tl, .int gr, .int sd, .int mt, .long mf])), (pt, .inl (cA, 8, .inl tp)), (pf, .inl (cB, 8, .inr (.inl fr))), (pb, .inl (cC, 129, .inl bi))] H → va_D A [(h0, .inr (1, [.int cd, .int ct, .ref pt, .ref pf, .ref pb, .int wt, .int fi, .int mn, .long (b_X1_round_142 x1 x5 wh).2.2, .int fu, .int tl, .int gr, .int sd, .int mt, .long mf])), (pt, .inl (cA, 8, .inl tp)), (pf, .inl (cB, 8, .inr (.inl fr))), (pb, .inl (cC, 129, .inl bi))] → va_S A s.heap H locs → lv_has ls 7 [(0, .ref h0), (1, .int x1), (2, .int x2), (3, .int x3), (4, .int x4), (5, .int ((b_X1_round_142 x1 x5 wh).2.1))] → W p l e R s m args below meth c H locs cells slots Q (F0 m 166 ls [])) : W p l e R s m args below meth c H locs cells slots Q (F0 m 142 ls []) := by
  have hin_X1 : ∀ w ∈ u_ws RX1 TX1 15, w ∈ wsX1_round := by decide +kernel
  refine lv_iload hx hb dX1_round_142 (lv_at hl 5 rfl) ?_
  refine lv_iload_n hx hb dX1_round_144 rfl (lv_at hl 1 rfl) ?_
  refine lv_icmp_lt (tgt := 166) hx hb dX1_round_145 (by decide) (fun c_1 => ?_) (fun c_1 => ?_)
  · have hbS : (b_X1_round_142 x1 x5 wh) = (false, x5, wh) := by unfold b_X1_round_142; rw [if_pos c_1]
    exact ke (by rw [hbS]) _ _ _ (by rw [hbS]; exact hP) (by rw [hbS]; exact hD) hS (by first | (rw [hbS]; exact lv_sub hl [0, 1, 2, 3, 4, 5] rfl) | exact lv_sub hl [0, 1, 2, 3, 4, 5] rfl)
  · refine lv_aload_n hx hb dX1_round_148 rfl (lv_at hl 0 rfl) ?_
    refine lv_ldc2 (v := 2) hx hb hown (hts (.constantLong RX1 53 2) (by decide +kernel)) dX1_round_149 ?_
    refine lv_aload_n hx hb dX1_round_152 rfl (lv_at hl 0 rfl) ?_
    refine va_get (D := (dC, dI)) (ci := 1) (v := .long wh) (C := RX1) (T := TX1) (N := 15) hx hb hts hin_X1 hown hK hP 0 rfl rfl 8 (by decide) (hts (.fieldLink RX1 43 "TemporaryRealsModel" "whole" "J") (by decide +kernel)) (fun _ h9 => h9) rfl dX1_round_153 ?_
    refine lv_lmul hx hb dX1_round_156 ?_
    refine va_put (D := (dC, dI)) (ci := 1) (v := .long (2 * wh)) (ty := .long) (C := RX1) (T := TX1) (N := 15) hx hb hts hin_X1 tyX1 tyX1_ok nmX1 hown hK hP hD hS 0 rfl rfl 8 (by decide) (hts (.fieldLink RX1 43 "TemporaryRealsModel" "whole" "J") (by decide +kernel)) (fun _ h9 => h9) rfl (by decide +kernel) rfl rfl (Nat.le_of_ble_eq_true rfl) dX1_round_157 (fun H locs hP hD hS => ?_)
    have hP : va_P (dC, dI) vwCl [(h0, .inr (1, [.int cd, .int ct, .ref pt, .ref pf, .ref pb, .int wt, .int fi, .int mn, .long (2 * wh), .int fu, .int tl, .int gr, .int sd, .int mt, .long mf])), (pt, .inl (cA, 8, .inl tp)), (pf, .inl (cB, 8, .inr (.inl fr))), (pb, .inl (cC, 129, .inl bi))] H := hP
    have hD : va_D A [(h0, .inr (1, [.int cd, .int ct, .ref pt, .ref pf, .ref pb, .int wt, .int fi, .int mn, .long (2 * wh), .int fu, .int tl, .int gr, .int sd, .int mt, .long mf])), (pt, .inl (cA, 8, .inl tp)), (pf, .inl (cB, 8, .inr (.inl fr))), (pb, .inl (cC, 129, .inl bi))] := hD
    refine lv_iinc (v := (x5 + (-1))) (lv' := [(5, .int (x5 + (-1))), (0, .ref h0), (1, .int x1), (2, .int x2), (3, .int x3), (4, .int x4)]) hx hb dX1_round_160 hl (k := 5) rfl rfl (by decide) rfl (fun ls hl => ?_)
    refine lv_goto (tgt := 142) hx hb dX1_round_163 (by decide) ?_
    have hbS : (b_X1_round_142 x1 x5 wh) = (true, (x5 + (-1)), (2 * wh)) := by unfold b_X1_round_142; rw [if_neg c_1]
    exact kb (by rw [hbS]) _ _ _ (by rw [hbS]; exact hP) (by rw [hbS]; exact hD) hS (by first | (rw [hbS]; exact lv_sub hl [1, 2, 3, 4, 5, 0] rfl) | exact lv_sub hl [1, 2, 3, 4, 5, 0] rfl)
theorem lq_X1_round_142 {p : Program} {l : Launch} {e : Env} {R : Room} {s : State} {m : MethodId} {args : Array Value} {below : List Frame} {meth : Method} {c : Code} {cells slots : Nat} {Q : State → Prop} {dC : Nat → ClassId} {dI : Nat → Nat → Nat} {cA cB cC : ClassId} {h0 pt pf pb : Nat} {A : Nat → Prop} (hx : p.tables.exec = Jvm.exec) (hb : c.code = cX1_round) (hml : c.maxLocals = 7) (hts : ∀ w ∈ wsX1_round, w.before args s = true) (hown : s.vm.findClass RX1 = some m.cls) (hK : va_K (dC, dI) vwCl (m_T cA cB cC) s) (tp : Nat → Int32) (fr : Nat → Int64) (bi : Nat → Int32) (cd : Int32) (ct : Int32) (wt : Int32) (fi : Int32) (mn : Int32) (fu : Int32) (tl : Int32) (gr : Int32) (sd : Int32) (mt : Int32) (mf : Int64) (x1 : Int32) (x2 : Int32) (x3 : Int32) (x4 : Int32) : ∀ (n : Nat) (S : Int32 × Int64), fin_X1_round_142 x1 n S → ∀ {H : Heap} {locs : List Loc} {ls : Array Slot}, va_P (dC, dI) vwCl [(h0, .inr (1, [.int cd, .int ct, .ref pt, .ref pf, .ref pb, .int wt, .int fi, .int mn, .long S.2, .int fu, .int tl, .int gr, .int sd, .int mt, .long mf])), (pt, .inl (cA, 8, .inl tp)), (pf, .inl (cB, 8, .inr (.inl fr))), (pb, .inl (cC, 129, .inl bi))] H → va_D A [(h0, .inr (1, [.int cd, .int ct, .ref pt, .ref pf, .ref pb, .int wt, .int fi, .int mn, .long S.2, .int fu, .int tl, .int gr, .int sd, .int mt, .long mf])), (pt, .inl (cA, 8, .inl tp)), (pf, .inl (cB, 8, .inr (.inl fr))), (pb, .inl (cC, 129, .inl bi))] → va_S A s.heap H locs → lv_has ls 7 [(0, .ref h0), (1, .int x1), (2, .int x2), (3, .int x3), (4, .int x4), (5, .int S.1)] → (∀ (H : Heap) (locs : List Loc) (ls : Array Slot), va_P (dC, dI) vwCl [(h0, .inr (1, [.int cd, .int ct, .ref pt, .ref pf, .ref pb, .int wt, .int fi, .int mn, .long (lp_X1_round_142 x1 n S).2, .int fu, .int tl, .int gr, .int sd, .int mt, .long mf])), (pt, .inl (cA, 8, .inl tp)), (pf, .inl (cB, 8, .inr (.inl fr))), (pb, .inl (cC, 129, .inl bi))] H → va_D A [(h0, .inr (1, [.int cd, .int ct, .ref pt, .ref pf, .ref pb, .int wt, .int fi, .int mn, .long (lp_X1_round_142 x1 n S).2, .int fu, .int tl, .int gr, .int sd, .int mt, .long mf])), (pt, .inl (cA, 8, .inl tp)), (pf, .inl (cB, 8, .inr (.inl fr))), (pb, .inl (cC, 129, .inl bi))] → va_S A s.heap H locs → lv_has ls 7 [(0, .ref h0), (1, .int x1), (2, .int x2), (3, .int x3), (4, .int x4), (5, .int ((lp_X1_round_142 x1 n S).1))] → W p l e R s m args below meth c H locs cells slots Q (F0 m 166 ls [])) → W p l e R s m args below meth c H locs cells slots Q (F0 m 142 ls []) := by
  intro n
  induction n with
  | zero => intro S h; exact h.elim
  | succ n ih =>
    intro S h H locs ls hP hD hS hl K
    obtain ⟨hbnd, h⟩ := h
    refine st_X1_round_142 hx hb hml hts hown hK tp fr bi cd ct wt fi mn fu tl gr sd mt mf x1 x2 x3 x4 S.1 S.2 hP hD hS hl hbnd ?_ ?_
    · intro hc H locs ls hP hD hS hl
      have e : lp_X1_round_142 x1 (n + 1) S = lp_X1_round_142 x1 n (b_X1_round_142 x1 S.1 S.2).2 := if_pos hc
      rw [e] at K
      exact ih _ (h.resolve_left (by rw [hc]; exact Bool.noConfusion)) hP hD hS hl K
    · intro hc H locs ls hP hD hS hl
      have e : lp_X1_round_142 x1 (n + 1) S = (b_X1_round_142 x1 S.1 S.2).2 := if_neg (by rw [hc]; exact Bool.false_ne_true)
      rw [e] at K
      exact K H locs ls hP hD hS hl
theorem lr_X1_round_142 {p : Program} {l : Launch} {e : Env} {R : Room} {s : State} {m : MethodId} {args : Array Value} {below : List Frame} {meth : Method} {c : Code} {cells slots : Nat} {Q : State → Prop} {dC : Nat → ClassId} {dI : Nat → Nat → Nat} {cA cB cC : ClassId} {h0 pt pf pb : Nat} {A : Nat → Prop} (hx : p.tables.exec = Jvm.exec) (hb : c.code = cX1_round) (hml : c.maxLocals = 7) (hts : ∀ w ∈ wsX1_round, w.before args s = true) (hown : s.vm.findClass RX1 = some m.cls) (hK : va_K (dC, dI) vwCl (m_T cA cB cC) s) (tp : Nat → Int32) (fr : Nat → Int64) (bi : Nat → Int32) (cd : Int32) (ct : Int32) (wt : Int32) (fi : Int32) (mn : Int32) (fu : Int32) (tl : Int32) (gr : Int32) (sd : Int32) (mt : Int32) (mf : Int64) (x1 : Int32) (x2 : Int32) (x3 : Int32) (x4 : Int32) (n : Nat) (x5 : Int32) (wh : Int64) (hf : fin_X1_round_142 x1 n (x5, wh)) {H : Heap} {locs : List Loc} {ls : Array Slot} (hP : va_P (dC, dI) vwCl [(h0, .inr (1, [.int cd, .int ct, .ref pt, .ref pf, .ref pb, .int wt, .int fi, .int mn, .long wh, .int fu, .int tl, .int gr, .int sd, .int mt, .long mf])), (pt, .inl (cA, 8, .inl tp)), (pf, .inl (cB, 8, .inr (.inl fr))), (pb, .inl (cC, 129, .inl bi))] H) (hD : va_D A [(h0, .inr (1, [.int cd, .int ct, .ref pt, .ref pf, .ref pb, .int wt, .int fi, .int mn, .long wh, .int fu, .int tl, .int gr, .int sd, .int mt, .long mf])), (pt, .inl (cA, 8, .inl tp)), (pf, .inl (cB, 8, .inr (.inl fr))), (pb, .inl (cC, 129, .inl bi))]) (hS : va_S A s.heap H locs) (hl : lv_has ls 7 [(0, .ref h0), (1, .int x1), (2, .int x2), (3, .int x3), (4, .int x4), (5, .int x5)]) (K : ∀ (H : Heap) (locs : List Loc) (ls : Array Slot), va_P (dC, dI) vwCl [(h0, .inr (1, [.int cd, .int ct, .ref pt, .ref pf, .ref pb, .int wt, .int fi, .int mn, .long (lp_X1_round_142 x1 n (x5, wh)).2, .int fu, .int tl, .int gr, .int sd, .int mt, .long mf])), (pt, .inl (cA, 8, .inl tp)), (pf, .inl (cB, 8, .inr (.inl fr))), (pb, .inl (cC, 129, .inl bi))] H → va_D A [(h0, .inr (1, [.int cd, .int ct, .ref pt, .ref pf, .ref pb, .int wt, .int fi, .int mn, .long (lp_X1_round_142 x1 n (x5, wh)).2, .int fu, .int tl, .int gr, .int sd, .int mt, .long mf])), (pt, .inl (cA, 8, .inl tp)), (pf, .inl (cB, 8, .inr (.inl fr))), (pb, .inl (cC, 129, .inl bi))] → va_S A s.heap H locs → lv_has ls 7 [(0, .ref h0), (1, .int x1), (2, .int x2), (3, .int x3), (4, .int x4), (5, .int ((lp_X1_round_142 x1 n (x5, wh)).1))] → W p l e R s m args below meth c H locs cells slots Q (F0 m 166 ls [])) : W p l e R s m args below meth c H locs cells slots Q (F0 m 142 ls []) := lq_X1_round_142 hx hb hml hts hown hK tp fr bi cd ct wt fi mn fu tl gr sd mt mf x1 x2 x3 x4 n (x5, wh) hf hP hD hS hl K
def b_X1_make0_20 (bi : Nat → Int32) (fi : Int32) : Bool × (Int32) :=
  if 129 ≤ fi then
    (false, fi)
  else
    if (bi fi.toNatClampNeg) = 0 then
      (true, (fi + 1))
    else
      (false, fi)
def lp_X1_make0_20 (bi : Nat → Int32) : Nat → (Int32) → (Int32)
  | 0, S => S
  | n + 1, S => if (b_X1_make0_20 bi S).1 = true then lp_X1_make0_20 bi n (b_X1_make0_20 bi S).2 else (b_X1_make0_20 bi S).2
def fin_X1_make0_20 (bi : Nat → Int32) : Nat → (Int32) → Prop
  | 0, _ => False
  | n + 1, S => (¬ (129 ≤ S) → vp_in S 129) ∧ ((b_X1_make0_20 bi S).1 = false ∨ fin_X1_make0_20 bi n (b_X1_make0_20 bi S).2)
set_option maxHeartbeats 1000000 in
set_option maxRecDepth 100000 in
theorem st_X1_make0_20 {p : Program} {l : Launch} {e : Env} {R : Room} {s : State} {m : MethodId} {args : Array Value} {below : List Frame} {meth : Method} {c : Code} {cells slots : Nat} {Q : State → Prop} {dC : Nat → ClassId} {dI : Nat → Nat → Nat} {cA cB cC : ClassId} {h0 pt pf pb : Nat} {A : Nat → Prop} (hx : p.tables.exec = Jvm.exec) (hb : c.code = cX1_make0) (hml : c.maxLocals = 13) (hts : ∀ w ∈ wsX1_make0, w.before args s = true) (hown : s.vm.findClass RX1 = some m.cls) (hK : va_K (dC, dI) vwCl (m_T cA cB cC) s) (tp : Nat → Int32) (fr : Nat → Int64) (bi : Nat → Int32) (cd : Int32) (ct : Int32) (wt : Int32) (mn : Int32) (wh : Int64) (fu : Int32) (tl : Int32) (gr : Int32) (sd : Int32) (mt : Int32) (mf : Int64) (fi : Int32) {H : Heap} {locs : List Loc} (hP : va_P (dC, dI) vwCl [(h0, .inr (1, [.int cd, .int ct, .ref pt, .ref pf, .ref pb, .int wt, .int fi, .int mn, .long wh, .int fu, .int tl, .int gr, .int sd, .int mt, .long mf])), (pt, .inl (cA, 8, .inl tp)), (pf, .inl (cB, 8, .inr (.inl fr))), (pb, .inl (cC, 129, .inl bi))] H) (hD : va_D A [(h0, .inr (1, [.int cd, .int ct, .ref pt, .ref pf, .ref pb, .int wt, .int fi, .int mn, .long wh, .int fu, .int tl, .int gr, .int sd, .int mt, .long mf])), (pt, .inl (cA, 8, .inl tp)), (pf, .inl (cB, 8, .inr (.inl fr))), (pb, .inl (cC, 129, .inl bi))]) (hS : va_S A s.heap H locs) {ls : Array Slot} (hl : lv_has ls 13 [(0, .ref h0)]) (hbnd : ¬ (129 ≤ fi) → vp_in fi 129) (kb : (b_X1_make0_20 bi fi).1 = true → ∀ (H : Heap) (locs : List Loc) (ls : Array Slot), va_P (dC, dI) vwCl [(h0, .inr (1, [.int cd, .int ct, .ref pt, .ref pf, .ref pb, .int wt, .int (b_X1_make0_20 bi fi).2, .int mn, .long wh, .int fu, .int tl, .int gr, .int sd, .int mt, .long mf])), (pt, .inl (cA, 8, .inl tp)), (pf, .inl (cB, 8, .inr (.inl fr))), (pb, .inl (cC, 129, .inl bi))] H → va_D A [(h0, .inr (1, [.int cd, .int ct, .ref pt, .ref pf, .ref pb, .int wt, .int (b_X1_make0_20 bi fi).2, .int mn, .long wh, .int fu, .int tl, .int gr, .int sd, .int mt, .long mf])), (pt, .inl (cA, 8, .inl tp)), (pf, .inl (cB, 8, .inr (.inl fr))), (pb, .inl (cC, 129, .inl bi))] → va_S A s.heap H locs → lv_has ls 13 [(0, .ref h0)] → W p l e R s m args below meth c H locs cells slots Q (F0 m 20 ls [])) (ke : (b_X1_make0_20 bi fi).1 = false → ∀ (H : Heap) (locs : List Loc) (ls : Array Slot), va_P (dC, dI) vwCl [(h0, .inr (1, [.int cd, .int ct, .ref pt, .ref pf, .ref pb, .int wt, .int (b_X1_make0_20 bi fi).2, .int mn, .long wh, .int fu, .int tl, .int gr, .int sd, .int mt, .long mf])), (pt, .inl (cA, 8, .inl tp)), (pf, .inl (cB, 8, .inr (.inl fr))), (pb, .inl (cC, 129, .inl bi))] H → va_D A [(h0, .inr (1, [.int cd, .int ct, .ref pt, .ref pf, .ref pb, .int wt, .int (b_X1_make0_20 bi fi).2, .int mn, .long wh, .int fu, .int tl, .int gr, .int sd, .int mt, .long mf])), (pt, .inl (cA, 8, .inl tp)), (pf, .inl (cB, 8, .inr (.inl fr))), (pb, .inl (cC, 129, .inl bi))] → va_S A s.heap H locs → lv_has ls 13 [(0, .ref h0)] → W p l e R s m args below meth c H locs cells slots Q (F0 m 55 ls [])) : W p l e R s m args below meth c H locs cells slots Q (F0 m 20 ls []) := by
  have hin_X1 : ∀ w ∈ u_ws RX1 TX1 15, w ∈ wsX1_make0 := by decide +kernel
  refine lv_aload_n hx hb dX1_make0_20 rfl (lv_at hl 0 rfl) ?_
  refine va_get (D := (dC, dI)) (ci := 1) (v := .int fi) (C := RX1) (T := TX1) (N := 15) hx hb hts hin_X1 hown hK hP 0 rfl rfl 6 (by decide) (hts (.fieldLink RX1 47 "TemporaryRealsModel" "first" "I") (by decide +kernel)) (fun _ h9 => h9) rfl dX1_make0_21 ?_
  refine lv_sipush (v := 129) hx hb dX1_make0_24 (by decide) ?_
  refine lv_icmp_ge (tgt := 55) hx hb dX1_make0_27 (by decide) (fun c_1 => ?_) (fun c_1 => ?_)
  · have hbS : (b_X1_make0_20 bi fi) = (false, fi) := by unfold b_X1_make0_20; rw [if_pos c_1]
    exact ke (by rw [hbS]) _ _ _ (by rw [hbS]; exact hP) (by rw [hbS]; exact hD) hS (by first | (rw [hbS]; exact lv_sub hl [0] rfl) | exact lv_sub hl [0] rfl)
  · refine lv_aload_n hx hb dX1_make0_30 rfl (lv_at hl 0 rfl) ?_
    refine va_get (D := (dC, dI)) (ci := 1) (v := .ref pb) (C := RX1) (T := TX1) (N := 15) hx hb hts hin_X1 hown hK hP 0 rfl rfl 4 (by decide) (hts (.fieldLink RX1 21 "TemporaryRealsModel" "bits" "[I") (by decide +kernel)) (fun _ h9 => h9) rfl dX1_make0_31 ?_
    refine lv_aload_n hx hb dX1_make0_34 rfl (lv_at hl 0 rfl) ?_
    refine va_get (D := (dC, dI)) (ci := 1) (v := .int fi) (C := RX1) (T := TX1) (N := 15) hx hb hts hin_X1 hown hK hP 0 rfl rfl 6 (by decide) (hts (.fieldLink RX1 47 "TemporaryRealsModel" "first" "I") (by decide +kernel)) (fun _ h9 => h9) rfl dX1_make0_35 ?_
    refine va_iald hx hb hK hP 3 2 rfl rfl (by first | assumption | exact hbnd | exact hbnd.1 | exact hbnd (by assumption) | exact hbnd.2 (by assumption)) dX1_make0_38 ?_
    refine lv_if_ne (tgt := 55) hx hb dX1_make0_39 (by decide) (fun c_2 => ?_) (fun c_2 => ?_)
    · have hbS : (b_X1_make0_20 bi fi) = (false, fi) := by unfold b_X1_make0_20; rw [if_neg c_1, if_neg c_2]
      exact ke (by rw [hbS]) _ _ _ (by rw [hbS]; exact hP) (by rw [hbS]; exact hD) hS (by first | (rw [hbS]; exact lv_sub hl [0] rfl) | exact lv_sub hl [0] rfl)
    · refine lv_aload_n hx hb dX1_make0_42 rfl (lv_at hl 0 rfl) ?_
      refine lv_dup hx hb dX1_make0_43 rfl ?_
      refine va_get (D := (dC, dI)) (ci := 1) (v := .int fi) (C := RX1) (T := TX1) (N := 15) hx hb hts hin_X1 hown hK hP 0 rfl rfl 6 (by decide) (hts (.fieldLink RX1 47 "TemporaryRealsModel" "first" "I") (by decide +kernel)) (fun _ h9 => h9) rfl dX1_make0_44 ?_
      refine lv_iconst (v := 1) hx hb dX1_make0_47 (by decide) ?_
      refine lv_iadd hx hb dX1_make0_48 ?_
      refine va_put (D := (dC, dI)) (ci := 1) (v := .int (fi + 1)) (ty := .int) (C := RX1) (T := TX1) (N := 15) hx hb hts hin_X1 tyX1 tyX1_ok nmX1 hown hK hP hD hS 0 rfl rfl 6 (by decide) (hts (.fieldLink RX1 47 "TemporaryRealsModel" "first" "I") (by decide +kernel)) (fun _ h9 => h9) rfl (by decide +kernel) rfl rfl (Nat.le_of_ble_eq_true rfl) dX1_make0_49 (fun H locs hP hD hS => ?_)
      have hP : va_P (dC, dI) vwCl [(h0, .inr (1, [.int cd, .int ct, .ref pt, .ref pf, .ref pb, .int wt, .int (fi + 1), .int mn, .long wh, .int fu, .int tl, .int gr, .int sd, .int mt, .long mf])), (pt, .inl (cA, 8, .inl tp)), (pf, .inl (cB, 8, .inr (.inl fr))), (pb, .inl (cC, 129, .inl bi))] H := hP
      have hD : va_D A [(h0, .inr (1, [.int cd, .int ct, .ref pt, .ref pf, .ref pb, .int wt, .int (fi + 1), .int mn, .long wh, .int fu, .int tl, .int gr, .int sd, .int mt, .long mf])), (pt, .inl (cA, 8, .inl tp)), (pf, .inl (cB, 8, .inr (.inl fr))), (pb, .inl (cC, 129, .inl bi))] := hD
      refine lv_goto (tgt := 20) hx hb dX1_make0_52 (by decide) ?_
      have hbS : (b_X1_make0_20 bi fi) = (true, (fi + 1)) := by unfold b_X1_make0_20; rw [if_neg c_1, if_pos c_2]
      exact kb (by rw [hbS]) _ _ _ (by rw [hbS]; exact hP) (by rw [hbS]; exact hD) hS (by first | (rw [hbS]; exact lv_sub hl [0] rfl) | exact lv_sub hl [0] rfl)
theorem lq_X1_make0_20 {p : Program} {l : Launch} {e : Env} {R : Room} {s : State} {m : MethodId} {args : Array Value} {below : List Frame} {meth : Method} {c : Code} {cells slots : Nat} {Q : State → Prop} {dC : Nat → ClassId} {dI : Nat → Nat → Nat} {cA cB cC : ClassId} {h0 pt pf pb : Nat} {A : Nat → Prop} (hx : p.tables.exec = Jvm.exec) (hb : c.code = cX1_make0) (hml : c.maxLocals = 13) (hts : ∀ w ∈ wsX1_make0, w.before args s = true) (hown : s.vm.findClass RX1 = some m.cls) (hK : va_K (dC, dI) vwCl (m_T cA cB cC) s) (tp : Nat → Int32) (fr : Nat → Int64) (bi : Nat → Int32) (cd : Int32) (ct : Int32) (wt : Int32) (mn : Int32) (wh : Int64) (fu : Int32) (tl : Int32) (gr : Int32) (sd : Int32) (mt : Int32) (mf : Int64) : ∀ (n : Nat) (S : Int32), fin_X1_make0_20 bi n S → ∀ {H : Heap} {locs : List Loc} {ls : Array Slot}, va_P (dC, dI) vwCl [(h0, .inr (1, [.int cd, .int ct, .ref pt, .ref pf, .ref pb, .int wt, .int S, .int mn, .long wh, .int fu, .int tl, .int gr, .int sd, .int mt, .long mf])), (pt, .inl (cA, 8, .inl tp)), (pf, .inl (cB, 8, .inr (.inl fr))), (pb, .inl (cC, 129, .inl bi))] H → va_D A [(h0, .inr (1, [.int cd, .int ct, .ref pt, .ref pf, .ref pb, .int wt, .int S, .int mn, .long wh, .int fu, .int tl, .int gr, .int sd, .int mt, .long mf])), (pt, .inl (cA, 8, .inl tp)), (pf, .inl (cB, 8, .inr (.inl fr))), (pb, .inl (cC, 129, .inl bi))] → va_S A s.heap H locs → lv_has ls 13 [(0, .ref h0)] → (∀ (H : Heap) (locs : List Loc) (ls : Array Slot), va_P (dC, dI) vwCl [(h0, .inr (1, [.int cd, .int ct, .ref pt, .ref pf, .ref pb, .int wt, .int (lp_X1_make0_20 bi n S), .int mn, .long wh, .int fu, .int tl, .int gr, .int sd, .int mt, .long mf])), (pt, .inl (cA, 8, .inl tp)), (pf, .inl (cB, 8, .inr (.inl fr))), (pb, .inl (cC, 129, .inl bi))] H → va_D A [(h0, .inr (1, [.int cd, .int ct, .ref pt, .ref pf, .ref pb, .int wt, .int (lp_X1_make0_20 bi n S), .int mn, .long wh, .int fu, .int tl, .int gr, .int sd, .int mt, .long mf])), (pt, .inl (cA, 8, .inl tp)), (pf, .inl (cB, 8, .inr (.inl fr))), (pb, .inl (cC, 129, .inl bi))] → va_S A s.heap H locs → lv_has ls 13 [(0, .ref h0)] → W p l e R s m args below meth c H locs cells slots Q (F0 m 55 ls [])) → W p l e R s m args below meth c H locs cells slots Q (F0 m 20 ls []) := by
  intro n
  induction n with
  | zero => intro S h; exact h.elim
  | succ n ih =>
    intro S h H locs ls hP hD hS hl K
    obtain ⟨hbnd, h⟩ := h
    refine st_X1_make0_20 hx hb hml hts hown hK tp fr bi cd ct wt mn wh fu tl gr sd mt mf S hP hD hS hl hbnd ?_ ?_
    · intro hc H locs ls hP hD hS hl
      have e : lp_X1_make0_20 bi (n + 1) S = lp_X1_make0_20 bi n (b_X1_make0_20 bi S).2 := if_pos hc
      rw [e] at K
      exact ih _ (h.resolve_left (by rw [hc]; exact Bool.noConfusion)) hP hD hS hl K
    · intro hc H locs ls hP hD hS hl
      have e : lp_X1_make0_20 bi (n + 1) S = (b_X1_make0_20 bi S).2 := if_neg (by rw [hc]; exact Bool.false_ne_true)
      rw [e] at K
      exact K H locs ls hP hD hS hl
theorem lr_X1_make0_20 {p : Program} {l : Launch} {e : Env} {R : Room} {s : State} {m : MethodId} {args : Array Value} {below : List Frame} {meth : Method} {c : Code} {cells slots : Nat} {Q : State → Prop} {dC : Nat → ClassId} {dI : Nat → Nat → Nat} {cA cB cC : ClassId} {h0 pt pf pb : Nat} {A : Nat → Prop} (hx : p.tables.exec = Jvm.exec) (hb : c.code = cX1_make0) (hml : c.maxLocals = 13) (hts : ∀ w ∈ wsX1_make0, w.before args s = true) (hown : s.vm.findClass RX1 = some m.cls) (hK : va_K (dC, dI) vwCl (m_T cA cB cC) s) (tp : Nat → Int32) (fr : Nat → Int64) (bi : Nat → Int32) (cd : Int32) (ct : Int32) (wt : Int32) (mn : Int32) (wh : Int64) (fu : Int32) (tl : Int32) (gr : Int32) (sd : Int32) (mt : Int32) (mf : Int64) (n : Nat) (fi : Int32) (hf : fin_X1_make0_20 bi n (fi)) {H : Heap} {locs : List Loc} {ls : Array Slot} (hP : va_P (dC, dI) vwCl [(h0, .inr (1, [.int cd, .int ct, .ref pt, .ref pf, .ref pb, .int wt, .int fi, .int mn, .long wh, .int fu, .int tl, .int gr, .int sd, .int mt, .long mf])), (pt, .inl (cA, 8, .inl tp)), (pf, .inl (cB, 8, .inr (.inl fr))), (pb, .inl (cC, 129, .inl bi))] H) (hD : va_D A [(h0, .inr (1, [.int cd, .int ct, .ref pt, .ref pf, .ref pb, .int wt, .int fi, .int mn, .long wh, .int fu, .int tl, .int gr, .int sd, .int mt, .long mf])), (pt, .inl (cA, 8, .inl tp)), (pf, .inl (cB, 8, .inr (.inl fr))), (pb, .inl (cC, 129, .inl bi))]) (hS : va_S A s.heap H locs) (hl : lv_has ls 13 [(0, .ref h0)]) (K : ∀ (H : Heap) (locs : List Loc) (ls : Array Slot), va_P (dC, dI) vwCl [(h0, .inr (1, [.int cd, .int ct, .ref pt, .ref pf, .ref pb, .int wt, .int (lp_X1_make0_20 bi n (fi)), .int mn, .long wh, .int fu, .int tl, .int gr, .int sd, .int mt, .long mf])), (pt, .inl (cA, 8, .inl tp)), (pf, .inl (cB, 8, .inr (.inl fr))), (pb, .inl (cC, 129, .inl bi))] H → va_D A [(h0, .inr (1, [.int cd, .int ct, .ref pt, .ref pf, .ref pb, .int wt, .int (lp_X1_make0_20 bi n (fi)), .int mn, .long wh, .int fu, .int tl, .int gr, .int sd, .int mt, .long mf])), (pt, .inl (cA, 8, .inl tp)), (pf, .inl (cB, 8, .inr (.inl fr))), (pb, .inl (cC, 129, .inl bi))] → va_S A s.heap H locs → lv_has ls 13 [(0, .ref h0)] → W p l e R s m args below meth c H locs cells slots Q (F0 m 55 ls [])) : W p l e R s m args below meth c H locs cells slots Q (F0 m 20 ls []) := lq_X1_make0_20 hx hb hml hts hown hK tp fr bi cd ct wt mn wh fu tl gr sd mt mf n (fi) hf hP hD hS hl K
def b_X1_make0_170 (x4 : Int64) (x6 : Int32) : Bool × (Int64 × Int32) :=
  if 64 ≤ x6 then
    (false, x4, x6)
  else
    (true, (2 * x4), (x6 + 1))
def lp_X1_make0_170 : Nat → (Int64 × Int32) → (Int64 × Int32)
  | 0, S => S
  | n + 1, S => if (b_X1_make0_170 S.1 S.2).1 = true then lp_X1_make0_170 n (b_X1_make0_170 S.1 S.2).2 else (b_X1_make0_170 S.1 S.2).2
def fin_X1_make0_170 : Nat → (Int64 × Int32) → Prop
  | 0, _ => False
  | n + 1, S => (True) ∧ ((b_X1_make0_170 S.1 S.2).1 = false ∨ fin_X1_make0_170 n (b_X1_make0_170 S.1 S.2).2)
set_option maxHeartbeats 1000000 in
set_option maxRecDepth 100000 in
theorem st_X1_make0_170 {p : Program} {l : Launch} {e : Env} {R : Room} {s : State} {m : MethodId} {args : Array Value} {below : List Frame} {meth : Method} {c : Code} {cells slots : Nat} {Q : State → Prop} {dC : Nat → ClassId} {dI : Nat → Nat → Nat} {cA cB cC : ClassId} {h0 pt pf pb : Nat} (hx : p.tables.exec = Jvm.exec) (hb : c.code = cX1_make0) (hml : c.maxLocals = 13) (hts : ∀ w ∈ wsX1_make0, w.before args s = true) (hown : s.vm.findClass RX1 = some m.cls) (hK : va_K (dC, dI) vwCl (m_T cA cB cC) s) (tp : Nat → Int32) (fr : Nat → Int64) (bi : Nat → Int32) (cd : Int32) (ct : Int32) (wt : Int32) (fi : Int32) (mn : Int32) (wh : Int64) (fu : Int32) (tl : Int32) (gr : Int32) (sd : Int32) (mt : Int32) (mf : Int64) (x1 : Int32) (x2 : Int32) (x3 : Int32) (x4 : Int64) (x6 : Int32) {H : Heap} {locs : List Loc} (hP : va_P (dC, dI) vwCl [(h0, .inr (1, [.int cd, .int ct, .ref pt, .ref pf, .ref pb, .int wt, .int fi, .int mn, .long wh, .int fu, .int tl, .int gr, .int sd, .int mt, .long mf])), (pt, .inl (cA, 8, .inl tp)), (pf, .inl (cB, 8, .inr (.inl fr))), (pb, .inl (cC, 129, .inl bi))] H) {ls : Array Slot} (hl : lv_has ls 13 [(0, .ref h0), (1, .int x1), (2, .int x2), (3, .int x3), (4, .long x4), (6, .int x6)]) (hbnd : True) (kb : (b_X1_make0_170 x4 x6).1 = true → ∀ (ls : Array Slot), lv_has ls 13 [(0, .ref h0), (1, .int x1), (2, .int x2), (3, .int x3), (4, .long ((b_X1_make0_170 x4 x6).2.1)), (6, .int ((b_X1_make0_170 x4 x6).2.2))] → W p l e R s m args below meth c H locs cells slots Q (F0 m 170 ls [])) (ke : (b_X1_make0_170 x4 x6).1 = false → ∀ (ls : Array Slot), lv_has ls 13 [(0, .ref h0), (1, .int x1), (2, .int x2), (3, .int x3), (4, .long ((b_X1_make0_170 x4 x6).2.1)), (6, .int ((b_X1_make0_170 x4 x6).2.2))] → W p l e R s m args below meth c H locs cells slots Q (F0 m 191 ls [])) : W p l e R s m args below meth c H locs cells slots Q (F0 m 170 ls []) := by
  refine lv_iload hx hb dX1_make0_170 (lv_at hl 5 rfl) ?_
  refine lv_bipush (v := 64) hx hb dX1_make0_172 (by decide) ?_
  refine lv_icmp_ge (tgt := 191) hx hb dX1_make0_174 (by decide) (fun c_1 => ?_) (fun c_1 => ?_)
  · have hbS : (b_X1_make0_170 x4 x6) = (false, x4, x6) := by unfold b_X1_make0_170; rw [if_pos c_1]
    exact ke (by rw [hbS]) _ (by rw [hbS]; exact lv_sub hl [0, 1, 2, 3, 4, 5] rfl)
  · refine lv_ldc2 (v := 2) hx hb hown (hts (.constantLong RX1 53 2) (by decide +kernel)) dX1_make0_177 ?_
    refine lv_lload hx hb dX1_make0_180 (lv_at hl 4 rfl) ?_
    refine lv_lmul hx hb dX1_make0_182 ?_
    refine lv_lstore (lv' := [(4, .long (2 * x4)), (0, .ref h0), (1, .int x1), (2, .int x2), (3, .int x3), (6, .int x6)]) hx hb dX1_make0_183 hl (by decide) rfl (fun ls hl => ?_)
    refine lv_iinc (v := (x6 + 1)) (lv' := [(6, .int (x6 + 1)), (4, .long (2 * x4)), (0, .ref h0), (1, .int x1), (2, .int x2), (3, .int x3)]) hx hb dX1_make0_185 hl (k := 5) rfl rfl (by decide) rfl (fun ls hl => ?_)
    refine lv_goto (tgt := 170) hx hb dX1_make0_188 (by decide) ?_
    have hbS : (b_X1_make0_170 x4 x6) = (true, (2 * x4), (x6 + 1)) := by unfold b_X1_make0_170; rw [if_neg c_1]
    exact kb (by rw [hbS]) _ (by rw [hbS]; exact lv_sub hl [2, 3, 4, 5, 1, 0] rfl)
theorem lq_X1_make0_170 {p : Program} {l : Launch} {e : Env} {R : Room} {s : State} {m : MethodId} {args : Array Value} {below : List Frame} {meth : Method} {c : Code} {cells slots : Nat} {Q : State → Prop} {dC : Nat → ClassId} {dI : Nat → Nat → Nat} {cA cB cC : ClassId} {h0 pt pf pb : Nat} (hx : p.tables.exec = Jvm.exec) (hb : c.code = cX1_make0) (hml : c.maxLocals = 13) (hts : ∀ w ∈ wsX1_make0, w.before args s = true) (hown : s.vm.findClass RX1 = some m.cls) (hK : va_K (dC, dI) vwCl (m_T cA cB cC) s) (tp : Nat → Int32) (fr : Nat → Int64) (bi : Nat → Int32) (cd : Int32) (ct : Int32) (wt : Int32) (fi : Int32) (mn : Int32) (wh : Int64) (fu : Int32) (tl : Int32) (gr : Int32) (sd : Int32) (mt : Int32) (mf : Int64) (x1 : Int32) (x2 : Int32) (x3 : Int32) : ∀ (n : Nat) (S : Int64 × Int32), fin_X1_make0_170 n S → ∀ {H : Heap} {locs : List Loc} {ls : Array Slot}, va_P (dC, dI) vwCl [(h0, .inr (1, [.int cd, .int ct, .ref pt, .ref pf, .ref pb, .int wt, .int fi, .int mn, .long wh, .int fu, .int tl, .int gr, .int sd, .int mt, .long mf])), (pt, .inl (cA, 8, .inl tp)), (pf, .inl (cB, 8, .inr (.inl fr))), (pb, .inl (cC, 129, .inl bi))] H → lv_has ls 13 [(0, .ref h0), (1, .int x1), (2, .int x2), (3, .int x3), (4, .long S.1), (6, .int S.2)] → (∀ (ls : Array Slot), lv_has ls 13 [(0, .ref h0), (1, .int x1), (2, .int x2), (3, .int x3), (4, .long ((lp_X1_make0_170 n S).1)), (6, .int ((lp_X1_make0_170 n S).2))] → W p l e R s m args below meth c H locs cells slots Q (F0 m 191 ls [])) → W p l e R s m args below meth c H locs cells slots Q (F0 m 170 ls []) := by
  intro n
  induction n with
  | zero => intro S h; exact h.elim
  | succ n ih =>
    intro S h H locs ls hP hl K
    obtain ⟨hbnd, h⟩ := h
    refine st_X1_make0_170 hx hb hml hts hown hK tp fr bi cd ct wt fi mn wh fu tl gr sd mt mf x1 x2 x3 S.1 S.2 hP hl hbnd ?_ ?_
    · intro hc ls hl
      have e : lp_X1_make0_170 (n + 1) S = lp_X1_make0_170 n (b_X1_make0_170 S.1 S.2).2 := if_pos hc
      rw [e] at K
      exact ih _ (h.resolve_left (by rw [hc]; exact Bool.noConfusion)) hP hl K
    · intro hc ls hl
      have e : lp_X1_make0_170 (n + 1) S = (b_X1_make0_170 S.1 S.2).2 := if_neg (by rw [hc]; exact Bool.false_ne_true)
      rw [e] at K
      exact K ls hl
theorem lr_X1_make0_170 {p : Program} {l : Launch} {e : Env} {R : Room} {s : State} {m : MethodId} {args : Array Value} {below : List Frame} {meth : Method} {c : Code} {cells slots : Nat} {Q : State → Prop} {dC : Nat → ClassId} {dI : Nat → Nat → Nat} {cA cB cC : ClassId} {h0 pt pf pb : Nat} (hx : p.tables.exec = Jvm.exec) (hb : c.code = cX1_make0) (hml : c.maxLocals = 13) (hts : ∀ w ∈ wsX1_make0, w.before args s = true) (hown : s.vm.findClass RX1 = some m.cls) (hK : va_K (dC, dI) vwCl (m_T cA cB cC) s) (tp : Nat → Int32) (fr : Nat → Int64) (bi : Nat → Int32) (cd : Int32) (ct : Int32) (wt : Int32) (fi : Int32) (mn : Int32) (wh : Int64) (fu : Int32) (tl : Int32) (gr : Int32) (sd : Int32) (mt : Int32) (mf : Int64) (x1 : Int32) (x2 : Int32) (x3 : Int32) (n : Nat) (x4 : Int64) (x6 : Int32) (hf : fin_X1_make0_170 n (x4, x6)) {H : Heap} {locs : List Loc} {ls : Array Slot} (hP : va_P (dC, dI) vwCl [(h0, .inr (1, [.int cd, .int ct, .ref pt, .ref pf, .ref pb, .int wt, .int fi, .int mn, .long wh, .int fu, .int tl, .int gr, .int sd, .int mt, .long mf])), (pt, .inl (cA, 8, .inl tp)), (pf, .inl (cB, 8, .inr (.inl fr))), (pb, .inl (cC, 129, .inl bi))] H) (hl : lv_has ls 13 [(0, .ref h0), (1, .int x1), (2, .int x2), (3, .int x3), (4, .long x4), (6, .int x6)]) (K : ∀ (ls : Array Slot), lv_has ls 13 [(0, .ref h0), (1, .int x1), (2, .int x2), (3, .int x3), (4, .long ((lp_X1_make0_170 n (x4, x6)).1)), (6, .int ((lp_X1_make0_170 n (x4, x6)).2))] → W p l e R s m args below meth c H locs cells slots Q (F0 m 191 ls [])) : W p l e R s m args below meth c H locs cells slots Q (F0 m 170 ls []) := lq_X1_make0_170 hx hb hml hts hown hK tp fr bi cd ct wt fi mn wh fu tl gr sd mt mf x1 x2 x3 n (x4, x6) hf hP hl K
def b_X1_make0_301 (x4 : Int32) (x6 : Int64) (x8 : Int32) : Bool × (Int64 × Int32) :=
  if 64 ≤ x8 then
    (false, x6, x8)
  else
    if x4 = 0 then
      (true, (2 * x6), (x8 + 1))
    else
      (false, x6, x8)
def lp_X1_make0_301 (x4 : Int32) : Nat → (Int64 × Int32) → (Int64 × Int32)
  | 0, S => S
  | n + 1, S => if (b_X1_make0_301 x4 S.1 S.2).1 = true then lp_X1_make0_301 x4 n (b_X1_make0_301 x4 S.1 S.2).2 else (b_X1_make0_301 x4 S.1 S.2).2
def fin_X1_make0_301 (x4 : Int32) : Nat → (Int64 × Int32) → Prop
  | 0, _ => False
  | n + 1, S => (True) ∧ ((b_X1_make0_301 x4 S.1 S.2).1 = false ∨ fin_X1_make0_301 x4 n (b_X1_make0_301 x4 S.1 S.2).2)
set_option maxHeartbeats 1000000 in
set_option maxRecDepth 100000 in
theorem st_X1_make0_301 {p : Program} {l : Launch} {e : Env} {R : Room} {s : State} {m : MethodId} {args : Array Value} {below : List Frame} {meth : Method} {c : Code} {cells slots : Nat} {Q : State → Prop} {dC : Nat → ClassId} {dI : Nat → Nat → Nat} {cA cB cC : ClassId} {h0 pt pf pb : Nat} (hx : p.tables.exec = Jvm.exec) (hb : c.code = cX1_make0) (hml : c.maxLocals = 13) (hts : ∀ w ∈ wsX1_make0, w.before args s = true) (hown : s.vm.findClass RX1 = some m.cls) (hK : va_K (dC, dI) vwCl (m_T cA cB cC) s) (tp : Nat → Int32) (fr : Nat → Int64) (bi : Nat → Int32) (cd : Int32) (ct : Int32) (wt : Int32) (fi : Int32) (mn : Int32) (wh : Int64) (fu : Int32) (tl : Int32) (gr : Int32) (sd : Int32) (mt : Int32) (mf : Int64) (x1 : Int32) (x2 : Int32) (x3 : Int32) (x4 : Int32) (x5 : Int32) (x6 : Int64) (x8 : Int32) {H : Heap} {locs : List Loc} (hP : va_P (dC, dI) vwCl [(h0, .inr (1, [.int cd, .int ct, .ref pt, .ref pf, .ref pb, .int wt, .int fi, .int mn, .long wh, .int fu, .int tl, .int gr, .int sd, .int mt, .long mf])), (pt, .inl (cA, 8, .inl tp)), (pf, .inl (cB, 8, .inr (.inl fr))), (pb, .inl (cC, 129, .inl bi))] H) {ls : Array Slot} (hl : lv_has ls 13 [(0, .ref h0), (1, .int x1), (2, .int x2), (3, .int x3), (4, .int x4), (5, .int x5), (6, .long x6), (8, .int x8)]) (hbnd : True) (kb : (b_X1_make0_301 x4 x6 x8).1 = true → ∀ (ls : Array Slot), lv_has ls 13 [(0, .ref h0), (1, .int x1), (2, .int x2), (3, .int x3), (4, .int x4), (5, .int x5), (6, .long ((b_X1_make0_301 x4 x6 x8).2.1)), (8, .int ((b_X1_make0_301 x4 x6 x8).2.2))] → W p l e R s m args below meth c H locs cells slots Q (F0 m 301 ls [])) (ke : (b_X1_make0_301 x4 x6 x8).1 = false → ∀ (ls : Array Slot), lv_has ls 13 [(0, .ref h0), (1, .int x1), (2, .int x2), (3, .int x3), (4, .int x4), (5, .int x5), (6, .long ((b_X1_make0_301 x4 x6 x8).2.1)), (8, .int ((b_X1_make0_301 x4 x6 x8).2.2))] → W p l e R s m args below meth c H locs cells slots Q (F0 m 327 ls [])) : W p l e R s m args below meth c H locs cells slots Q (F0 m 301 ls []) := by
  refine lv_iload hx hb dX1_make0_301 (lv_at hl 7 rfl) ?_
  refine lv_bipush (v := 64) hx hb dX1_make0_303 (by decide) ?_
  refine lv_icmp_ge (tgt := 327) hx hb dX1_make0_305 (by decide) (fun c_1 => ?_) (fun c_1 => ?_)
  · have hbS : (b_X1_make0_301 x4 x6 x8) = (false, x6, x8) := by unfold b_X1_make0_301; rw [if_pos c_1]
    exact ke (by rw [hbS]) _ (by rw [hbS]; exact lv_sub hl [0, 1, 2, 3, 4, 5, 6, 7] rfl)
  · refine lv_iload hx hb dX1_make0_308 (lv_at hl 4 rfl) ?_
    refine lv_if_ne (tgt := 327) hx hb dX1_make0_310 (by decide) (fun c_2 => ?_) (fun c_2 => ?_)
    · have hbS : (b_X1_make0_301 x4 x6 x8) = (false, x6, x8) := by unfold b_X1_make0_301; rw [if_neg c_1, if_neg c_2]
      exact ke (by rw [hbS]) _ (by rw [hbS]; exact lv_sub hl [0, 1, 2, 3, 4, 5, 6, 7] rfl)
    · refine lv_ldc2 (v := 2) hx hb hown (hts (.constantLong RX1 53 2) (by decide +kernel)) dX1_make0_313 ?_
      refine lv_lload hx hb dX1_make0_316 (lv_at hl 6 rfl) ?_
      refine lv_lmul hx hb dX1_make0_318 ?_
      refine lv_lstore (lv' := [(6, .long (2 * x6)), (0, .ref h0), (1, .int x1), (2, .int x2), (3, .int x3), (4, .int x4), (5, .int x5), (8, .int x8)]) hx hb dX1_make0_319 hl (by decide) rfl (fun ls hl => ?_)
      refine lv_iinc (v := (x8 + 1)) (lv' := [(8, .int (x8 + 1)), (6, .long (2 * x6)), (0, .ref h0), (1, .int x1), (2, .int x2), (3, .int x3), (4, .int x4), (5, .int x5)]) hx hb dX1_make0_321 hl (k := 7) rfl rfl (by decide) rfl (fun ls hl => ?_)
      refine lv_goto (tgt := 301) hx hb dX1_make0_324 (by decide) ?_
      have hbS : (b_X1_make0_301 x4 x6 x8) = (true, (2 * x6), (x8 + 1)) := by unfold b_X1_make0_301; rw [if_neg c_1, if_pos c_2]
      exact kb (by rw [hbS]) _ (by rw [hbS]; exact lv_sub hl [2, 3, 4, 5, 6, 7, 1, 0] rfl)
theorem lq_X1_make0_301 {p : Program} {l : Launch} {e : Env} {R : Room} {s : State} {m : MethodId} {args : Array Value} {below : List Frame} {meth : Method} {c : Code} {cells slots : Nat} {Q : State → Prop} {dC : Nat → ClassId} {dI : Nat → Nat → Nat} {cA cB cC : ClassId} {h0 pt pf pb : Nat} (hx : p.tables.exec = Jvm.exec) (hb : c.code = cX1_make0) (hml : c.maxLocals = 13) (hts : ∀ w ∈ wsX1_make0, w.before args s = true) (hown : s.vm.findClass RX1 = some m.cls) (hK : va_K (dC, dI) vwCl (m_T cA cB cC) s) (tp : Nat → Int32) (fr : Nat → Int64) (bi : Nat → Int32) (cd : Int32) (ct : Int32) (wt : Int32) (fi : Int32) (mn : Int32) (wh : Int64) (fu : Int32) (tl : Int32) (gr : Int32) (sd : Int32) (mt : Int32) (mf : Int64) (x1 : Int32) (x2 : Int32) (x3 : Int32) (x4 : Int32) (x5 : Int32) : ∀ (n : Nat) (S : Int64 × Int32), fin_X1_make0_301 x4 n S → ∀ {H : Heap} {locs : List Loc} {ls : Array Slot}, va_P (dC, dI) vwCl [(h0, .inr (1, [.int cd, .int ct, .ref pt, .ref pf, .ref pb, .int wt, .int fi, .int mn, .long wh, .int fu, .int tl, .int gr, .int sd, .int mt, .long mf])), (pt, .inl (cA, 8, .inl tp)), (pf, .inl (cB, 8, .inr (.inl fr))), (pb, .inl (cC, 129, .inl bi))] H → lv_has ls 13 [(0, .ref h0), (1, .int x1), (2, .int x2), (3, .int x3), (4, .int x4), (5, .int x5), (6, .long S.1), (8, .int S.2)] → (∀ (ls : Array Slot), lv_has ls 13 [(0, .ref h0), (1, .int x1), (2, .int x2), (3, .int x3), (4, .int x4), (5, .int x5), (6, .long ((lp_X1_make0_301 x4 n S).1)), (8, .int ((lp_X1_make0_301 x4 n S).2))] → W p l e R s m args below meth c H locs cells slots Q (F0 m 327 ls [])) → W p l e R s m args below meth c H locs cells slots Q (F0 m 301 ls []) := by
  intro n
  induction n with
  | zero => intro S h; exact h.elim
  | succ n ih =>
    intro S h H locs ls hP hl K
    obtain ⟨hbnd, h⟩ := h
    refine st_X1_make0_301 hx hb hml hts hown hK tp fr bi cd ct wt fi mn wh fu tl gr sd mt mf x1 x2 x3 x4 x5 S.1 S.2 hP hl hbnd ?_ ?_
    · intro hc ls hl
      have e : lp_X1_make0_301 x4 (n + 1) S = lp_X1_make0_301 x4 n (b_X1_make0_301 x4 S.1 S.2).2 := if_pos hc
      rw [e] at K
      exact ih _ (h.resolve_left (by rw [hc]; exact Bool.noConfusion)) hP hl K
    · intro hc ls hl
      have e : lp_X1_make0_301 x4 (n + 1) S = (b_X1_make0_301 x4 S.1 S.2).2 := if_neg (by rw [hc]; exact Bool.false_ne_true)
      rw [e] at K
      exact K ls hl
theorem lr_X1_make0_301 {p : Program} {l : Launch} {e : Env} {R : Room} {s : State} {m : MethodId} {args : Array Value} {below : List Frame} {meth : Method} {c : Code} {cells slots : Nat} {Q : State → Prop} {dC : Nat → ClassId} {dI : Nat → Nat → Nat} {cA cB cC : ClassId} {h0 pt pf pb : Nat} (hx : p.tables.exec = Jvm.exec) (hb : c.code = cX1_make0) (hml : c.maxLocals = 13) (hts : ∀ w ∈ wsX1_make0, w.before args s = true) (hown : s.vm.findClass RX1 = some m.cls) (hK : va_K (dC, dI) vwCl (m_T cA cB cC) s) (tp : Nat → Int32) (fr : Nat → Int64) (bi : Nat → Int32) (cd : Int32) (ct : Int32) (wt : Int32) (fi : Int32) (mn : Int32) (wh : Int64) (fu : Int32) (tl : Int32) (gr : Int32) (sd : Int32) (mt : Int32) (mf : Int64) (x1 : Int32) (x2 : Int32) (x3 : Int32) (x4 : Int32) (x5 : Int32) (n : Nat) (x6 : Int64) (x8 : Int32) (hf : fin_X1_make0_301 x4 n (x6, x8)) {H : Heap} {locs : List Loc} {ls : Array Slot} (hP : va_P (dC, dI) vwCl [(h0, .inr (1, [.int cd, .int ct, .ref pt, .ref pf, .ref pb, .int wt, .int fi, .int mn, .long wh, .int fu, .int tl, .int gr, .int sd, .int mt, .long mf])), (pt, .inl (cA, 8, .inl tp)), (pf, .inl (cB, 8, .inr (.inl fr))), (pb, .inl (cC, 129, .inl bi))] H) (hl : lv_has ls 13 [(0, .ref h0), (1, .int x1), (2, .int x2), (3, .int x3), (4, .int x4), (5, .int x5), (6, .long x6), (8, .int x8)]) (K : ∀ (ls : Array Slot), lv_has ls 13 [(0, .ref h0), (1, .int x1), (2, .int x2), (3, .int x3), (4, .int x4), (5, .int x5), (6, .long ((lp_X1_make0_301 x4 n (x6, x8)).1)), (8, .int ((lp_X1_make0_301 x4 n (x6, x8)).2))] → W p l e R s m args below meth c H locs cells slots Q (F0 m 327 ls [])) : W p l e R s m args below meth c H locs cells slots Q (F0 m 301 ls []) := lq_X1_make0_301 hx hb hml hts hown hK tp fr bi cd ct wt fi mn wh fu tl gr sd mt mf x1 x2 x3 x4 x5 n (x6, x8) hf hP hl K
def b_X1_make0_507 (x1 : Int32) (x10 : Int64) (x12 : Int32) : Bool × (Int64 × Int32) :=
  if 64 ≤ x12 then
    (false, x10, x12)
  else
    (true, ((2 * x10) + (if x1 ≤ x12 then 0 else 1)), (x12 + 1))
def lp_X1_make0_507 (x1 : Int32) : Nat → (Int64 × Int32) → (Int64 × Int32)
  | 0, S => S
  | n + 1, S => if (b_X1_make0_507 x1 S.1 S.2).1 = true then lp_X1_make0_507 x1 n (b_X1_make0_507 x1 S.1 S.2).2 else (b_X1_make0_507 x1 S.1 S.2).2
def fin_X1_make0_507 (x1 : Int32) : Nat → (Int64 × Int32) → Prop
  | 0, _ => False
  | n + 1, S => (True) ∧ ((b_X1_make0_507 x1 S.1 S.2).1 = false ∨ fin_X1_make0_507 x1 n (b_X1_make0_507 x1 S.1 S.2).2)
set_option maxHeartbeats 1000000 in
set_option maxRecDepth 100000 in
theorem st_X1_make0_507 {p : Program} {l : Launch} {e : Env} {R : Room} {s : State} {m : MethodId} {args : Array Value} {below : List Frame} {meth : Method} {c : Code} {cells slots : Nat} {Q : State → Prop} {dC : Nat → ClassId} {dI : Nat → Nat → Nat} {cA cB cC : ClassId} {h0 pt pf pb : Nat} (hx : p.tables.exec = Jvm.exec) (hb : c.code = cX1_make0) (hml : c.maxLocals = 13) (hts : ∀ w ∈ wsX1_make0, w.before args s = true) (hown : s.vm.findClass RX1 = some m.cls) (hK : va_K (dC, dI) vwCl (m_T cA cB cC) s) (tp : Nat → Int32) (fr : Nat → Int64) (bi : Nat → Int32) (cd : Int32) (ct : Int32) (wt : Int32) (fi : Int32) (mn : Int32) (wh : Int64) (fu : Int32) (tl : Int32) (gr : Int32) (sd : Int32) (mt : Int32) (mf : Int64) (x1 : Int32) (x2 : Int32) (x3 : Int32) (x5 : Int32) (x6 : Int64) (x8 : Int32) (x9 : Int32) (x10 : Int64) (x12 : Int32) {H : Heap} {locs : List Loc} (hP : va_P (dC, dI) vwCl [(h0, .inr (1, [.int cd, .int ct, .ref pt, .ref pf, .ref pb, .int wt, .int fi, .int mn, .long wh, .int fu, .int tl, .int gr, .int sd, .int mt, .long mf])), (pt, .inl (cA, 8, .inl tp)), (pf, .inl (cB, 8, .inr (.inl fr))), (pb, .inl (cC, 129, .inl bi))] H) {ls : Array Slot} (hl : lv_has ls 13 [(0, .ref h0), (1, .int x1), (2, .int x2), (3, .int x3), (5, .int x5), (6, .long x6), (8, .int x8), (9, .int x9), (10, .long x10), (12, .int x12)]) (hbnd : True) (kb : (b_X1_make0_507 x1 x10 x12).1 = true → ∀ (ls : Array Slot), lv_has ls 13 [(0, .ref h0), (1, .int x1), (2, .int x2), (3, .int x3), (5, .int x5), (6, .long x6), (8, .int x8), (9, .int x9), (10, .long ((b_X1_make0_507 x1 x10 x12).2.1)), (12, .int ((b_X1_make0_507 x1 x10 x12).2.2))] → W p l e R s m args below meth c H locs cells slots Q (F0 m 507 ls [])) (ke : (b_X1_make0_507 x1 x10 x12).1 = false → ∀ (ls : Array Slot), lv_has ls 13 [(0, .ref h0), (1, .int x1), (2, .int x2), (3, .int x3), (5, .int x5), (6, .long x6), (8, .int x8), (9, .int x9), (10, .long ((b_X1_make0_507 x1 x10 x12).2.1)), (12, .int ((b_X1_make0_507 x1 x10 x12).2.2))] → W p l e R s m args below meth c H locs cells slots Q (F0 m 540 ls [])) : W p l e R s m args below meth c H locs cells slots Q (F0 m 507 ls []) := by
  refine lv_iload hx hb dX1_make0_507 (lv_at hl 9 rfl) ?_
  refine lv_bipush (v := 64) hx hb dX1_make0_509 (by decide) ?_
  refine lv_icmp_ge (tgt := 540) hx hb dX1_make0_511 (by decide) (fun c_1 => ?_) (fun c_1 => ?_)
  · have hbS : (b_X1_make0_507 x1 x10 x12) = (false, x10, x12) := by unfold b_X1_make0_507; rw [if_pos c_1]
    exact ke (by rw [hbS]) _ (by rw [hbS]; exact lv_sub hl [0, 1, 2, 3, 4, 5, 6, 7, 8, 9] rfl)
  · refine lv_ldc2 (v := 2) hx hb hown (hts (.constantLong RX1 53 2) (by decide +kernel)) dX1_make0_514 ?_
    refine lv_lload hx hb dX1_make0_517 (lv_at hl 8 rfl) ?_
    refine lv_lmul hx hb dX1_make0_519 ?_
    refine lv_iload hx hb dX1_make0_520 (lv_at hl 9 rfl) ?_
    refine lv_iload_n hx hb dX1_make0_522 rfl (lv_at hl 1 rfl) ?_
    refine w_join (F0 m 531 ls (.long (if x1 ≤ x12 then 0 else 1) :: [.long (2 * x10)])) ?_ (fun hJ_2 => ?_)
    · refine lv_ladd hx hb dX1_make0_531 ?_
      refine lv_lstore (lv' := [(10, .long ((2 * x10) + (if x1 ≤ x12 then 0 else 1))), (0, .ref h0), (1, .int x1), (2, .int x2), (3, .int x3), (5, .int x5), (6, .long x6), (8, .int x8), (9, .int x9), (12, .int x12)]) hx hb dX1_make0_532 hl (by decide) rfl (fun ls hl => ?_)
      refine lv_iinc (v := (x12 + 1)) (lv' := [(12, .int (x12 + 1)), (10, .long ((2 * x10) + (if x1 ≤ x12 then 0 else 1))), (0, .ref h0), (1, .int x1), (2, .int x2), (3, .int x3), (5, .int x5), (6, .long x6), (8, .int x8), (9, .int x9)]) hx hb dX1_make0_534 hl (k := 9) rfl rfl (by decide) rfl (fun ls hl => ?_)
      refine lv_goto (tgt := 507) hx hb dX1_make0_537 (by decide) ?_
      have hbS : (b_X1_make0_507 x1 x10 x12) = (true, ((2 * x10) + (if x1 ≤ x12 then 0 else 1)), (x12 + 1)) := by unfold b_X1_make0_507; rw [if_neg c_1]
      exact kb (by rw [hbS]) _ (by rw [hbS]; exact lv_sub hl [2, 3, 4, 5, 6, 7, 8, 9, 1, 0] rfl)
    · refine lv_icmp_ge (tgt := 530) hx hb dX1_make0_523 (by decide) (fun c_3 => ?_) (fun c_3 => ?_)
      · refine lv_lconst (v := 0) hx hb dX1_make0_530 (by decide) ?_
        exact W.eq (by rw [if_pos c_3] <;> (repeat (first | rw [if_pos c_3]))) hJ_2
      · refine lv_lconst (v := 1) hx hb dX1_make0_526 (by decide) ?_
        refine lv_goto (tgt := 531) hx hb dX1_make0_527 (by decide) ?_
        exact W.eq (by rw [if_neg c_3] <;> (repeat (first | rw [if_neg c_3]))) hJ_2
theorem lq_X1_make0_507 {p : Program} {l : Launch} {e : Env} {R : Room} {s : State} {m : MethodId} {args : Array Value} {below : List Frame} {meth : Method} {c : Code} {cells slots : Nat} {Q : State → Prop} {dC : Nat → ClassId} {dI : Nat → Nat → Nat} {cA cB cC : ClassId} {h0 pt pf pb : Nat} (hx : p.tables.exec = Jvm.exec) (hb : c.code = cX1_make0) (hml : c.maxLocals = 13) (hts : ∀ w ∈ wsX1_make0, w.before args s = true) (hown : s.vm.findClass RX1 = some m.cls) (hK : va_K (dC, dI) vwCl (m_T cA cB cC) s) (tp : Nat → Int32) (fr : Nat → Int64) (bi : Nat → Int32) (cd : Int32) (ct : Int32) (wt : Int32) (fi : Int32) (mn : Int32) (wh : Int64) (fu : Int32) (tl : Int32) (gr : Int32) (sd : Int32) (mt : Int32) (mf : Int64) (x1 : Int32) (x2 : Int32) (x3 : Int32) (x5 : Int32) (x6 : Int64) (x8 : Int32) (x9 : Int32) : ∀ (n : Nat) (S : Int64 × Int32), fin_X1_make0_507 x1 n S → ∀ {H : Heap} {locs : List Loc} {ls : Array Slot}, va_P (dC, dI) vwCl [(h0, .inr (1, [.int cd, .int ct, .ref pt, .ref pf, .ref pb, .int wt, .int fi, .int mn, .long wh, .int fu, .int tl, .int gr, .int sd, .int mt, .long mf])), (pt, .inl (cA, 8, .inl tp)), (pf, .inl (cB, 8, .inr (.inl fr))), (pb, .inl (cC, 129, .inl bi))] H → lv_has ls 13 [(0, .ref h0), (1, .int x1), (2, .int x2), (3, .int x3), (5, .int x5), (6, .long x6), (8, .int x8), (9, .int x9), (10, .long S.1), (12, .int S.2)] → (∀ (ls : Array Slot), lv_has ls 13 [(0, .ref h0), (1, .int x1), (2, .int x2), (3, .int x3), (5, .int x5), (6, .long x6), (8, .int x8), (9, .int x9), (10, .long ((lp_X1_make0_507 x1 n S).1)), (12, .int ((lp_X1_make0_507 x1 n S).2))] → W p l e R s m args below meth c H locs cells slots Q (F0 m 540 ls [])) → W p l e R s m args below meth c H locs cells slots Q (F0 m 507 ls []) := by
  intro n
  induction n with
  | zero => intro S h; exact h.elim
  | succ n ih =>
    intro S h H locs ls hP hl K
    obtain ⟨hbnd, h⟩ := h
    refine st_X1_make0_507 hx hb hml hts hown hK tp fr bi cd ct wt fi mn wh fu tl gr sd mt mf x1 x2 x3 x5 x6 x8 x9 S.1 S.2 hP hl hbnd ?_ ?_
    · intro hc ls hl
      have e : lp_X1_make0_507 x1 (n + 1) S = lp_X1_make0_507 x1 n (b_X1_make0_507 x1 S.1 S.2).2 := if_pos hc
      rw [e] at K
      exact ih _ (h.resolve_left (by rw [hc]; exact Bool.noConfusion)) hP hl K
    · intro hc ls hl
      have e : lp_X1_make0_507 x1 (n + 1) S = (b_X1_make0_507 x1 S.1 S.2).2 := if_neg (by rw [hc]; exact Bool.false_ne_true)
      rw [e] at K
      exact K ls hl
theorem lr_X1_make0_507 {p : Program} {l : Launch} {e : Env} {R : Room} {s : State} {m : MethodId} {args : Array Value} {below : List Frame} {meth : Method} {c : Code} {cells slots : Nat} {Q : State → Prop} {dC : Nat → ClassId} {dI : Nat → Nat → Nat} {cA cB cC : ClassId} {h0 pt pf pb : Nat} (hx : p.tables.exec = Jvm.exec) (hb : c.code = cX1_make0) (hml : c.maxLocals = 13) (hts : ∀ w ∈ wsX1_make0, w.before args s = true) (hown : s.vm.findClass RX1 = some m.cls) (hK : va_K (dC, dI) vwCl (m_T cA cB cC) s) (tp : Nat → Int32) (fr : Nat → Int64) (bi : Nat → Int32) (cd : Int32) (ct : Int32) (wt : Int32) (fi : Int32) (mn : Int32) (wh : Int64) (fu : Int32) (tl : Int32) (gr : Int32) (sd : Int32) (mt : Int32) (mf : Int64) (x1 : Int32) (x2 : Int32) (x3 : Int32) (x5 : Int32) (x6 : Int64) (x8 : Int32) (x9 : Int32) (n : Nat) (x10 : Int64) (x12 : Int32) (hf : fin_X1_make0_507 x1 n (x10, x12)) {H : Heap} {locs : List Loc} {ls : Array Slot} (hP : va_P (dC, dI) vwCl [(h0, .inr (1, [.int cd, .int ct, .ref pt, .ref pf, .ref pb, .int wt, .int fi, .int mn, .long wh, .int fu, .int tl, .int gr, .int sd, .int mt, .long mf])), (pt, .inl (cA, 8, .inl tp)), (pf, .inl (cB, 8, .inr (.inl fr))), (pb, .inl (cC, 129, .inl bi))] H) (hl : lv_has ls 13 [(0, .ref h0), (1, .int x1), (2, .int x2), (3, .int x3), (5, .int x5), (6, .long x6), (8, .int x8), (9, .int x9), (10, .long x10), (12, .int x12)]) (K : ∀ (ls : Array Slot), lv_has ls 13 [(0, .ref h0), (1, .int x1), (2, .int x2), (3, .int x3), (5, .int x5), (6, .long x6), (8, .int x8), (9, .int x9), (10, .long ((lp_X1_make0_507 x1 n (x10, x12)).1)), (12, .int ((lp_X1_make0_507 x1 n (x10, x12)).2))] → W p l e R s m args below meth c H locs cells slots Q (F0 m 540 ls [])) : W p l e R s m args below meth c H locs cells slots Q (F0 m 507 ls []) := lq_X1_make0_507 hx hb hml hts hown hK tp fr bi cd ct wt fi mn wh fu tl gr sd mt mf x1 x2 x3 x5 x6 x8 x9 n (x10, x12) hf hP hl K
def b_X1_make_44 (x4 : Int32) (x5 : Int32) (x6 : Int32) (x7 : Int32) (x9 : Int32) (bi : Nat → Int32) : Bool × (Int32 × (Nat → Int32)) :=
  if 128 ≤ x9 then
    (false, x9, bi)
  else
    (true, (x9 + 1), (upd bi x9.toNatClampNeg (((if 32 ≤ x9 then (if 64 ≤ x9 then (if 96 ≤ x9 then x7 else x6) else x5) else x4) >>> ((31 - (x9 - x9 / 32 * 32)) &&& 31)) &&& 1)))
def lp_X1_make_44 (x4 : Int32) (x5 : Int32) (x6 : Int32) (x7 : Int32) : Nat → (Int32 × (Nat → Int32)) → (Int32 × (Nat → Int32))
  | 0, S => S
  | n + 1, S => if (b_X1_make_44 x4 x5 x6 x7 S.1 S.2).1 = true then lp_X1_make_44 x4 x5 x6 x7 n (b_X1_make_44 x4 x5 x6 x7 S.1 S.2).2 else (b_X1_make_44 x4 x5 x6 x7 S.1 S.2).2
def fin_X1_make_44 (x4 : Int32) (x5 : Int32) (x6 : Int32) (x7 : Int32) : Nat → (Int32 × (Nat → Int32)) → Prop
  | 0, _ => False
  | n + 1, S => (¬ (128 ≤ S.1) → vp_in S.1 129) ∧ ((b_X1_make_44 x4 x5 x6 x7 S.1 S.2).1 = false ∨ fin_X1_make_44 x4 x5 x6 x7 n (b_X1_make_44 x4 x5 x6 x7 S.1 S.2).2)
set_option maxHeartbeats 1000000 in
set_option maxRecDepth 100000 in
theorem st_X1_make_44 {p : Program} {l : Launch} {e : Env} {R : Room} {s : State} {m : MethodId} {args : Array Value} {below : List Frame} {meth : Method} {c : Code} {cells slots : Nat} {Q : State → Prop} {dC : Nat → ClassId} {dI : Nat → Nat → Nat} {cA cB cC : ClassId} {h0 pt pf pb : Nat} {A : Nat → Prop} (hx : p.tables.exec = Jvm.exec) (hb : c.code = cX1_make) (hml : c.maxLocals = 11) (hts : ∀ w ∈ wsX1_make, w.before args s = true) (hown : s.vm.findClass RX1 = some m.cls) (hK : va_K (dC, dI) vwCl (m_T cA cB cC) s) (tp : Nat → Int32) (fr : Nat → Int64) (cd : Int32) (ct : Int32) (wt : Int32) (fi : Int32) (mn : Int32) (wh : Int64) (fu : Int32) (tl : Int32) (gr : Int32) (sd : Int32) (mt : Int32) (mf : Int64) (x1 : Int32) (x2 : Int32) (x3 : Int32) (x4 : Int32) (x5 : Int32) (x6 : Int32) (x7 : Int32) (x8 : Int32) (x9 : Int32) (bi : Nat → Int32) {H : Heap} {locs : List Loc} (hP : va_P (dC, dI) vwCl [(h0, .inr (1, [.int cd, .int ct, .ref pt, .ref pf, .ref pb, .int wt, .int fi, .int mn, .long wh, .int fu, .int tl, .int gr, .int sd, .int mt, .long mf])), (pt, .inl (cA, 8, .inl tp)), (pf, .inl (cB, 8, .inr (.inl fr))), (pb, .inl (cC, 129, .inl bi))] H) (hD : va_D A [(h0, .inr (1, [.int cd, .int ct, .ref pt, .ref pf, .ref pb, .int wt, .int fi, .int mn, .long wh, .int fu, .int tl, .int gr, .int sd, .int mt, .long mf])), (pt, .inl (cA, 8, .inl tp)), (pf, .inl (cB, 8, .inr (.inl fr))), (pb, .inl (cC, 129, .inl bi))]) (hS : va_S A s.heap H locs) {ls : Array Slot} (hl : lv_has ls 11 [(0, .ref h0), (1, .int x1), (2, .int x2), (3, .int x3), (4, .int x4), (5, .int x5), (6, .int x6), (7, .int x7), (8, .int x8), (9, .int x9)]) (hbnd : ¬ (128 ≤ x9) → vp_in x9 129) (kb : (b_X1_make_44 x4 x5 x6 x7 x9 bi).1 = true → ∀ (H : Heap) (locs : List Loc) (ls : Array Slot), va_P (dC, dI) vwCl [(h0, .inr (1, [.int cd, .int ct, .ref pt, .ref pf, .ref pb, .int wt, .int fi, .int mn, .long wh, .int fu, .int tl, .int gr, .int sd, .int mt, .long mf])), (pt, .inl (cA, 8, .inl tp)), (pf, .inl (cB, 8, .inr (.inl fr))), (pb, .inl (cC, 129, .inl (b_X1_make_44 x4 x5 x6 x7 x9 bi).2.2))] H → va_D A [(h0, .inr (1, [.int cd, .int ct, .ref pt, .ref pf, .ref pb, .int wt, .int fi, .int mn, .long wh, .int fu, .int tl, .int gr, .int sd, .int mt, .long mf])), (pt, .inl (cA, 8, .inl tp)), (pf, .inl (cB, 8, .inr (.inl fr))), (pb, .inl (cC, 129, .inl (b_X1_make_44 x4 x5 x6 x7 x9 bi).2.2))] → va_S A s.heap H locs → lv_has ls 11 [(0, .ref h0), (1, .int x1), (2, .int x2), (3, .int x3), (4, .int x4), (5, .int x5), (6, .int x6), (7, .int x7), (8, .int x8), (9, .int ((b_X1_make_44 x4 x5 x6 x7 x9 bi).2.1))] → W p l e R s m args below meth c H locs cells slots Q (F0 m 44 ls [])) (ke : (b_X1_make_44 x4 x5 x6 x7 x9 bi).1 = false → ∀ (H : Heap) (locs : List Loc) (ls : Array Slot), va_P (dC, dI) vwCl [(h0, .inr (1, [.int cd, .int ct, .ref pt, .ref pf, .ref pb, .int wt, .int fi, .int mn, .long wh, .int fu, .int tl, .int gr, .int sd, .int mt, .long mf])), (pt, .inl (cA, 8, .inl tp)), (pf, .inl (cB, 8, .inr (.inl fr))), (pb, .inl (cC, 129, .inl (b_X1_make_44 x4 x5 x6 x7 x9 bi).2.2))] H → va_D A [(h0, .inr (1, [.int cd, .int ct, .ref pt, .ref pf, .ref pb, .int wt, .int fi, .int mn, .long wh, .int fu, .int tl, .int gr, .int sd, .int mt, .long mf])), (pt, .inl (cA, 8, .inl tp)), (pf, .inl (cB, 8, .inr (.inl fr))), (pb, .inl (cC, 129, .inl (b_X1_make_44 x4 x5 x6 x7 x9 bi).2.2))] → va_S A s.heap H locs → lv_has ls 11 [(0, .ref h0), (1, .int x1), (2, .int x2), (3, .int x3), (4, .int x4), (5, .int x5), (6, .int x6), (7, .int x7), (8, .int x8), (9, .int ((b_X1_make_44 x4 x5 x6 x7 x9 bi).2.1))] → W p l e R s m args below meth c H locs cells slots Q (F0 m 118 ls [])) : W p l e R s m args below meth c H locs cells slots Q (F0 m 44 ls []) := by
  have hin_X1 : ∀ w ∈ u_ws RX1 TX1 15, w ∈ wsX1_make := by decide +kernel
  refine lv_iload hx hb dX1_make_44 (lv_at hl 9 rfl) ?_
  refine lv_sipush (v := 128) hx hb dX1_make_46 (by decide) ?_
  refine lv_icmp_ge (tgt := 118) hx hb dX1_make_49 (by decide) (fun c_1 => ?_) (fun c_1 => ?_)
  · have hbS : (b_X1_make_44 x4 x5 x6 x7 x9 bi) = (false, x9, bi) := by unfold b_X1_make_44; rw [if_pos c_1]
    exact ke (by rw [hbS]) _ _ _ (by rw [hbS]; exact hP) (by rw [hbS]; exact hD) hS (by first | (rw [hbS]; exact lv_sub hl [0, 1, 2, 3, 4, 5, 6, 7, 8, 9] rfl) | exact lv_sub hl [0, 1, 2, 3, 4, 5, 6, 7, 8, 9] rfl)
  · refine lv_iload hx hb dX1_make_52 (lv_at hl 9 rfl) ?_
    refine lv_bipush (v := 32) hx hb dX1_make_54 (by decide) ?_
    refine w_join (F0 m 90 ls (.int (if 32 ≤ x9 then (if 64 ≤ x9 then (if 96 ≤ x9 then x7 else x6) else x5) else x4) :: [])) ?_ (fun hJ_2 => ?_)
    · refine lv_istore (lv' := [(10, .int (if 32 ≤ x9 then (if 64 ≤ x9 then (if 96 ≤ x9 then x7 else x6) else x5) else x4)), (0, .ref h0), (1, .int x1), (2, .int x2), (3, .int x3), (4, .int x4), (5, .int x5), (6, .int x6), (7, .int x7), (8, .int x8), (9, .int x9)]) hx hb dX1_make_90 hl (by decide) rfl (fun ls hl => ?_)
      refine lv_aload_n hx hb dX1_make_92 rfl (lv_at hl 1 rfl) ?_
      refine va_get (D := (dC, dI)) (ci := 1) (v := .ref pb) (C := RX1) (T := TX1) (N := 15) hx hb hts hin_X1 hown hK hP 0 rfl rfl 4 (by decide) (hts (.fieldLink RX1 21 "TemporaryRealsModel" "bits" "[I") (by decide +kernel)) (fun _ h9 => h9) rfl dX1_make_93 ?_
      refine lv_iload hx hb dX1_make_96 (lv_at hl 10 rfl) ?_
      refine lv_iload hx hb dX1_make_98 (lv_at hl 0 rfl) ?_
      refine lv_bipush (v := 31) hx hb dX1_make_100 (by decide) ?_
      refine lv_iload hx hb dX1_make_102 (lv_at hl 10 rfl) ?_
      refine lv_bipush (v := 32) hx hb dX1_make_104 (by decide) ?_
      refine lv_irem hx hb dX1_make_106 (by decide) ?_
      refine lv_isub hx hb dX1_make_107 ?_
      refine lv_ishr hx hb dX1_make_108 ?_
      refine lv_iconst (v := 1) hx hb dX1_make_109 (by decide) ?_
      refine lv_iand hx hb dX1_make_110 ?_
      refine va_iast hx hb hK hP hD hS 3 2 rfl rfl (by first | assumption | exact hbnd | exact hbnd.1 | exact hbnd (by assumption) | exact hbnd.2 (by assumption)) dX1_make_111 (fun H locs hP hD hS => ?_)
      have hP : va_P (dC, dI) vwCl [(h0, .inr (1, [.int cd, .int ct, .ref pt, .ref pf, .ref pb, .int wt, .int fi, .int mn, .long wh, .int fu, .int tl, .int gr, .int sd, .int mt, .long mf])), (pt, .inl (cA, 8, .inl tp)), (pf, .inl (cB, 8, .inr (.inl fr))), (pb, .inl (cC, 129, .inl (upd bi x9.toNatClampNeg (((if 32 ≤ x9 then (if 64 ≤ x9 then (if 96 ≤ x9 then x7 else x6) else x5) else x4) >>> ((31 - (x9 - x9 / 32 * 32)) &&& 31)) &&& 1))))] H := hP
      have hD : va_D A [(h0, .inr (1, [.int cd, .int ct, .ref pt, .ref pf, .ref pb, .int wt, .int fi, .int mn, .long wh, .int fu, .int tl, .int gr, .int sd, .int mt, .long mf])), (pt, .inl (cA, 8, .inl tp)), (pf, .inl (cB, 8, .inr (.inl fr))), (pb, .inl (cC, 129, .inl (upd bi x9.toNatClampNeg (((if 32 ≤ x9 then (if 64 ≤ x9 then (if 96 ≤ x9 then x7 else x6) else x5) else x4) >>> ((31 - (x9 - x9 / 32 * 32)) &&& 31)) &&& 1))))] := hD
      refine lv_iinc (v := (x9 + 1)) (lv' := [(9, .int (x9 + 1)), (10, .int (if 32 ≤ x9 then (if 64 ≤ x9 then (if 96 ≤ x9 then x7 else x6) else x5) else x4)), (0, .ref h0), (1, .int x1), (2, .int x2), (3, .int x3), (4, .int x4), (5, .int x5), (6, .int x6), (7, .int x7), (8, .int x8)]) hx hb dX1_make_112 hl (k := 10) rfl rfl (by decide) rfl (fun ls hl => ?_)
      refine lv_goto (tgt := 44) hx hb dX1_make_115 (by decide) ?_
      have hbS : (b_X1_make_44 x4 x5 x6 x7 x9 bi) = (true, (x9 + 1), (upd bi x9.toNatClampNeg (((if 32 ≤ x9 then (if 64 ≤ x9 then (if 96 ≤ x9 then x7 else x6) else x5) else x4) >>> ((31 - (x9 - x9 / 32 * 32)) &&& 31)) &&& 1))) := by unfold b_X1_make_44; rw [if_neg c_1]
      exact kb (by rw [hbS]) _ _ _ (by rw [hbS]; exact hP) (by rw [hbS]; exact hD) hS (by first | (rw [hbS]; exact lv_sub hl [2, 3, 4, 5, 6, 7, 8, 9, 10, 0] rfl) | exact lv_sub hl [2, 3, 4, 5, 6, 7, 8, 9, 10, 0] rfl)
    · refine lv_icmp_ge (tgt := 64) hx hb dX1_make_56 (by decide) (fun c_3 => ?_) (fun c_3 => ?_)
      · refine lv_iload hx hb dX1_make_64 (lv_at hl 9 rfl) ?_
        refine lv_bipush (v := 64) hx hb dX1_make_66 (by decide) ?_
        refine lv_icmp_ge (tgt := 76) hx hb dX1_make_68 (by decide) (fun c_4 => ?_) (fun c_4 => ?_)
        · refine lv_iload hx hb dX1_make_76 (lv_at hl 9 rfl) ?_
          refine lv_bipush (v := 96) hx hb dX1_make_78 (by decide) ?_
          refine lv_icmp_ge (tgt := 88) hx hb dX1_make_80 (by decide) (fun c_5 => ?_) (fun c_5 => ?_)
          · refine lv_iload hx hb dX1_make_88 (lv_at hl 7 rfl) ?_
            exact W.eq (by rw [if_pos c_3, if_pos c_4, if_pos c_5] <;> (repeat (first | rw [if_pos c_3] | rw [if_pos c_4] | rw [if_pos c_5]))) hJ_2
          · refine lv_iload hx hb dX1_make_83 (lv_at hl 6 rfl) ?_
            refine lv_goto (tgt := 90) hx hb dX1_make_85 (by decide) ?_
            exact W.eq (by rw [if_pos c_3, if_pos c_4, if_neg c_5] <;> (repeat (first | rw [if_pos c_3] | rw [if_pos c_4] | rw [if_neg c_5]))) hJ_2
        · refine lv_iload hx hb dX1_make_71 (lv_at hl 5 rfl) ?_
          refine lv_goto (tgt := 90) hx hb dX1_make_73 (by decide) ?_
          exact W.eq (by rw [if_pos c_3, if_neg c_4] <;> (repeat (first | rw [if_pos c_3] | rw [if_neg c_4]))) hJ_2
      · refine lv_iload hx hb dX1_make_59 (lv_at hl 4 rfl) ?_
        refine lv_goto (tgt := 90) hx hb dX1_make_61 (by decide) ?_
        exact W.eq (by rw [if_neg c_3] <;> (repeat (first | rw [if_neg c_3]))) hJ_2
theorem lq_X1_make_44 {p : Program} {l : Launch} {e : Env} {R : Room} {s : State} {m : MethodId} {args : Array Value} {below : List Frame} {meth : Method} {c : Code} {cells slots : Nat} {Q : State → Prop} {dC : Nat → ClassId} {dI : Nat → Nat → Nat} {cA cB cC : ClassId} {h0 pt pf pb : Nat} {A : Nat → Prop} (hx : p.tables.exec = Jvm.exec) (hb : c.code = cX1_make) (hml : c.maxLocals = 11) (hts : ∀ w ∈ wsX1_make, w.before args s = true) (hown : s.vm.findClass RX1 = some m.cls) (hK : va_K (dC, dI) vwCl (m_T cA cB cC) s) (tp : Nat → Int32) (fr : Nat → Int64) (cd : Int32) (ct : Int32) (wt : Int32) (fi : Int32) (mn : Int32) (wh : Int64) (fu : Int32) (tl : Int32) (gr : Int32) (sd : Int32) (mt : Int32) (mf : Int64) (x1 : Int32) (x2 : Int32) (x3 : Int32) (x4 : Int32) (x5 : Int32) (x6 : Int32) (x7 : Int32) (x8 : Int32) : ∀ (n : Nat) (S : Int32 × (Nat → Int32)), fin_X1_make_44 x4 x5 x6 x7 n S → ∀ {H : Heap} {locs : List Loc} {ls : Array Slot}, va_P (dC, dI) vwCl [(h0, .inr (1, [.int cd, .int ct, .ref pt, .ref pf, .ref pb, .int wt, .int fi, .int mn, .long wh, .int fu, .int tl, .int gr, .int sd, .int mt, .long mf])), (pt, .inl (cA, 8, .inl tp)), (pf, .inl (cB, 8, .inr (.inl fr))), (pb, .inl (cC, 129, .inl S.2))] H → va_D A [(h0, .inr (1, [.int cd, .int ct, .ref pt, .ref pf, .ref pb, .int wt, .int fi, .int mn, .long wh, .int fu, .int tl, .int gr, .int sd, .int mt, .long mf])), (pt, .inl (cA, 8, .inl tp)), (pf, .inl (cB, 8, .inr (.inl fr))), (pb, .inl (cC, 129, .inl S.2))] → va_S A s.heap H locs → lv_has ls 11 [(0, .ref h0), (1, .int x1), (2, .int x2), (3, .int x3), (4, .int x4), (5, .int x5), (6, .int x6), (7, .int x7), (8, .int x8), (9, .int S.1)] → (∀ (H : Heap) (locs : List Loc) (ls : Array Slot), va_P (dC, dI) vwCl [(h0, .inr (1, [.int cd, .int ct, .ref pt, .ref pf, .ref pb, .int wt, .int fi, .int mn, .long wh, .int fu, .int tl, .int gr, .int sd, .int mt, .long mf])), (pt, .inl (cA, 8, .inl tp)), (pf, .inl (cB, 8, .inr (.inl fr))), (pb, .inl (cC, 129, .inl (lp_X1_make_44 x4 x5 x6 x7 n S).2))] H → va_D A [(h0, .inr (1, [.int cd, .int ct, .ref pt, .ref pf, .ref pb, .int wt, .int fi, .int mn, .long wh, .int fu, .int tl, .int gr, .int sd, .int mt, .long mf])), (pt, .inl (cA, 8, .inl tp)), (pf, .inl (cB, 8, .inr (.inl fr))), (pb, .inl (cC, 129, .inl (lp_X1_make_44 x4 x5 x6 x7 n S).2))] → va_S A s.heap H locs → lv_has ls 11 [(0, .ref h0), (1, .int x1), (2, .int x2), (3, .int x3), (4, .int x4), (5, .int x5), (6, .int x6), (7, .int x7), (8, .int x8), (9, .int ((lp_X1_make_44 x4 x5 x6 x7 n S).1))] → W p l e R s m args below meth c H locs cells slots Q (F0 m 118 ls [])) → W p l e R s m args below meth c H locs cells slots Q (F0 m 44 ls []) := by
  intro n
  induction n with
  | zero => intro S h; exact h.elim
  | succ n ih =>
    intro S h H locs ls hP hD hS hl K
    obtain ⟨hbnd, h⟩ := h
    refine st_X1_make_44 hx hb hml hts hown hK tp fr cd ct wt fi mn wh fu tl gr sd mt mf x1 x2 x3 x4 x5 x6 x7 x8 S.1 S.2 hP hD hS hl hbnd ?_ ?_
    · intro hc H locs ls hP hD hS hl
      have e : lp_X1_make_44 x4 x5 x6 x7 (n + 1) S = lp_X1_make_44 x4 x5 x6 x7 n (b_X1_make_44 x4 x5 x6 x7 S.1 S.2).2 := if_pos hc
      rw [e] at K
      exact ih _ (h.resolve_left (by rw [hc]; exact Bool.noConfusion)) hP hD hS hl K
    · intro hc H locs ls hP hD hS hl
      have e : lp_X1_make_44 x4 x5 x6 x7 (n + 1) S = (b_X1_make_44 x4 x5 x6 x7 S.1 S.2).2 := if_neg (by rw [hc]; exact Bool.false_ne_true)
      rw [e] at K
      exact K H locs ls hP hD hS hl
theorem lr_X1_make_44 {p : Program} {l : Launch} {e : Env} {R : Room} {s : State} {m : MethodId} {args : Array Value} {below : List Frame} {meth : Method} {c : Code} {cells slots : Nat} {Q : State → Prop} {dC : Nat → ClassId} {dI : Nat → Nat → Nat} {cA cB cC : ClassId} {h0 pt pf pb : Nat} {A : Nat → Prop} (hx : p.tables.exec = Jvm.exec) (hb : c.code = cX1_make) (hml : c.maxLocals = 11) (hts : ∀ w ∈ wsX1_make, w.before args s = true) (hown : s.vm.findClass RX1 = some m.cls) (hK : va_K (dC, dI) vwCl (m_T cA cB cC) s) (tp : Nat → Int32) (fr : Nat → Int64) (cd : Int32) (ct : Int32) (wt : Int32) (fi : Int32) (mn : Int32) (wh : Int64) (fu : Int32) (tl : Int32) (gr : Int32) (sd : Int32) (mt : Int32) (mf : Int64) (x1 : Int32) (x2 : Int32) (x3 : Int32) (x4 : Int32) (x5 : Int32) (x6 : Int32) (x7 : Int32) (x8 : Int32) (n : Nat) (x9 : Int32) (bi : Nat → Int32) (hf : fin_X1_make_44 x4 x5 x6 x7 n (x9, bi)) {H : Heap} {locs : List Loc} {ls : Array Slot} (hP : va_P (dC, dI) vwCl [(h0, .inr (1, [.int cd, .int ct, .ref pt, .ref pf, .ref pb, .int wt, .int fi, .int mn, .long wh, .int fu, .int tl, .int gr, .int sd, .int mt, .long mf])), (pt, .inl (cA, 8, .inl tp)), (pf, .inl (cB, 8, .inr (.inl fr))), (pb, .inl (cC, 129, .inl bi))] H) (hD : va_D A [(h0, .inr (1, [.int cd, .int ct, .ref pt, .ref pf, .ref pb, .int wt, .int fi, .int mn, .long wh, .int fu, .int tl, .int gr, .int sd, .int mt, .long mf])), (pt, .inl (cA, 8, .inl tp)), (pf, .inl (cB, 8, .inr (.inl fr))), (pb, .inl (cC, 129, .inl bi))]) (hS : va_S A s.heap H locs) (hl : lv_has ls 11 [(0, .ref h0), (1, .int x1), (2, .int x2), (3, .int x3), (4, .int x4), (5, .int x5), (6, .int x6), (7, .int x7), (8, .int x8), (9, .int x9)]) (K : ∀ (H : Heap) (locs : List Loc) (ls : Array Slot), va_P (dC, dI) vwCl [(h0, .inr (1, [.int cd, .int ct, .ref pt, .ref pf, .ref pb, .int wt, .int fi, .int mn, .long wh, .int fu, .int tl, .int gr, .int sd, .int mt, .long mf])), (pt, .inl (cA, 8, .inl tp)), (pf, .inl (cB, 8, .inr (.inl fr))), (pb, .inl (cC, 129, .inl (lp_X1_make_44 x4 x5 x6 x7 n (x9, bi)).2))] H → va_D A [(h0, .inr (1, [.int cd, .int ct, .ref pt, .ref pf, .ref pb, .int wt, .int fi, .int mn, .long wh, .int fu, .int tl, .int gr, .int sd, .int mt, .long mf])), (pt, .inl (cA, 8, .inl tp)), (pf, .inl (cB, 8, .inr (.inl fr))), (pb, .inl (cC, 129, .inl (lp_X1_make_44 x4 x5 x6 x7 n (x9, bi)).2))] → va_S A s.heap H locs → lv_has ls 11 [(0, .ref h0), (1, .int x1), (2, .int x2), (3, .int x3), (4, .int x4), (5, .int x5), (6, .int x6), (7, .int x7), (8, .int x8), (9, .int ((lp_X1_make_44 x4 x5 x6 x7 n (x9, bi)).1))] → W p l e R s m args below meth c H locs cells slots Q (F0 m 118 ls [])) : W p l e R s m args below meth c H locs cells slots Q (F0 m 44 ls []) := lq_X1_make_44 hx hb hml hts hown hK tp fr cd ct wt fi mn wh fu tl gr sd mt mf x1 x2 x3 x4 x5 x6 x7 x8 n (x9, bi) hf hP hD hS hl K
def b_X1_again_84 (fr : Nat → Int64) (x1 : Int32) (x3 : Int32) (bi : Nat → Int32) : Bool × (Int32 × (Nat → Int32)) :=
  if 129 ≤ x3 then
    (false, x3, bi)
  else
    (true, (x3 + 1), (upd bi x3.toNatClampNeg (if x3 < 64 then 0 else (if x3 = 128 then 0 else (Int64.toInt32 (((fr x1.toNatClampNeg) >>> (Int32.toInt64 (127 - x3) &&& 63)) &&& 1))))))
def lp_X1_again_84 (fr : Nat → Int64) (x1 : Int32) : Nat → (Int32 × (Nat → Int32)) → (Int32 × (Nat → Int32))
  | 0, S => S
  | n + 1, S => if (b_X1_again_84 fr x1 S.1 S.2).1 = true then lp_X1_again_84 fr x1 n (b_X1_again_84 fr x1 S.1 S.2).2 else (b_X1_again_84 fr x1 S.1 S.2).2
def fin_X1_again_84 (fr : Nat → Int64) (x1 : Int32) : Nat → (Int32 × (Nat → Int32)) → Prop
  | 0, _ => False
  | n + 1, S => (vp_in x1 8 ∧ (¬ (129 ≤ S.1) → vp_in S.1 129)) ∧ ((b_X1_again_84 fr x1 S.1 S.2).1 = false ∨ fin_X1_again_84 fr x1 n (b_X1_again_84 fr x1 S.1 S.2).2)
set_option maxHeartbeats 1000000 in
set_option maxRecDepth 100000 in
theorem st_X1_again_84 {p : Program} {l : Launch} {e : Env} {R : Room} {s : State} {m : MethodId} {args : Array Value} {below : List Frame} {meth : Method} {c : Code} {cells slots : Nat} {Q : State → Prop} {dC : Nat → ClassId} {dI : Nat → Nat → Nat} {cA cB cC : ClassId} {h0 pt pf pb : Nat} {A : Nat → Prop} (hx : p.tables.exec = Jvm.exec) (hb : c.code = cX1_again) (hml : c.maxLocals = 4) (hts : ∀ w ∈ wsX1_again, w.before args s = true) (hown : s.vm.findClass RX1 = some m.cls) (hK : va_K (dC, dI) vwCl (m_T cA cB cC) s) (tp : Nat → Int32) (fr : Nat → Int64) (cd : Int32) (ct : Int32) (wt : Int32) (fi : Int32) (mn : Int32) (wh : Int64) (fu : Int32) (tl : Int32) (gr : Int32) (sd : Int32) (mt : Int32) (mf : Int64) (x1 : Int32) (x2 : Int32) (x3 : Int32) (bi : Nat → Int32) {H : Heap} {locs : List Loc} (hP : va_P (dC, dI) vwCl [(h0, .inr (1, [.int cd, .int ct, .ref pt, .ref pf, .ref pb, .int wt, .int fi, .int mn, .long wh, .int fu, .int tl, .int gr, .int sd, .int mt, .long mf])), (pt, .inl (cA, 8, .inl tp)), (pf, .inl (cB, 8, .inr (.inl fr))), (pb, .inl (cC, 129, .inl bi))] H) (hD : va_D A [(h0, .inr (1, [.int cd, .int ct, .ref pt, .ref pf, .ref pb, .int wt, .int fi, .int mn, .long wh, .int fu, .int tl, .int gr, .int sd, .int mt, .long mf])), (pt, .inl (cA, 8, .inl tp)), (pf, .inl (cB, 8, .inr (.inl fr))), (pb, .inl (cC, 129, .inl bi))]) (hS : va_S A s.heap H locs) {ls : Array Slot} (hl : lv_has ls 4 [(0, .ref h0), (1, .int x1), (2, .int x2), (3, .int x3)]) (hbnd : vp_in x1 8 ∧ (¬ (129 ≤ x3) → vp_in x3 129)) (kb : (b_X1_again_84 fr x1 x3 bi).1 = true → ∀ (H : Heap) (locs : List Loc) (ls : Array Slot), va_P (dC, dI) vwCl [(h0, .inr (1, [.int cd, .int ct, .ref pt, .ref pf, .ref pb, .int wt, .int fi, .int mn, .long wh, .int fu, .int tl, .int gr, .int sd, .int mt, .long mf])), (pt, .inl (cA, 8, .inl tp)), (pf, .inl (cB, 8, .inr (.inl fr))), (pb, .inl (cC, 129, .inl (b_X1_again_84 fr x1 x3 bi).2.2))] H → va_D A [(h0, .inr (1, [.int cd, .int ct, .ref pt, .ref pf, .ref pb, .int wt, .int fi, .int mn, .long wh, .int fu, .int tl, .int gr, .int sd, .int mt, .long mf])), (pt, .inl (cA, 8, .inl tp)), (pf, .inl (cB, 8, .inr (.inl fr))), (pb, .inl (cC, 129, .inl (b_X1_again_84 fr x1 x3 bi).2.2))] → va_S A s.heap H locs → lv_has ls 4 [(0, .ref h0), (1, .int x1), (2, .int x2), (3, .int ((b_X1_again_84 fr x1 x3 bi).2.1))] → W p l e R s m args below meth c H locs cells slots Q (F0 m 84 ls [])) (ke : (b_X1_again_84 fr x1 x3 bi).1 = false → ∀ (H : Heap) (locs : List Loc) (ls : Array Slot), va_P (dC, dI) vwCl [(h0, .inr (1, [.int cd, .int ct, .ref pt, .ref pf, .ref pb, .int wt, .int fi, .int mn, .long wh, .int fu, .int tl, .int gr, .int sd, .int mt, .long mf])), (pt, .inl (cA, 8, .inl tp)), (pf, .inl (cB, 8, .inr (.inl fr))), (pb, .inl (cC, 129, .inl (b_X1_again_84 fr x1 x3 bi).2.2))] H → va_D A [(h0, .inr (1, [.int cd, .int ct, .ref pt, .ref pf, .ref pb, .int wt, .int fi, .int mn, .long wh, .int fu, .int tl, .int gr, .int sd, .int mt, .long mf])), (pt, .inl (cA, 8, .inl tp)), (pf, .inl (cB, 8, .inr (.inl fr))), (pb, .inl (cC, 129, .inl (b_X1_again_84 fr x1 x3 bi).2.2))] → va_S A s.heap H locs → lv_has ls 4 [(0, .ref h0), (1, .int x1), (2, .int x2), (3, .int ((b_X1_again_84 fr x1 x3 bi).2.1))] → W p l e R s m args below meth c H locs cells slots Q (F0 m 134 ls [])) : W p l e R s m args below meth c H locs cells slots Q (F0 m 84 ls []) := by
  have hin_X1 : ∀ w ∈ u_ws RX1 TX1 15, w ∈ wsX1_again := by decide +kernel
  refine lv_iload_n hx hb dX1_again_84 rfl (lv_at hl 3 rfl) ?_
  refine lv_sipush (v := 129) hx hb dX1_again_85 (by decide) ?_
  refine lv_icmp_ge (tgt := 134) hx hb dX1_again_88 (by decide) (fun c_1 => ?_) (fun c_1 => ?_)
  · have hbS : (b_X1_again_84 fr x1 x3 bi) = (false, x3, bi) := by unfold b_X1_again_84; rw [if_pos c_1]
    exact ke (by rw [hbS]) _ _ _ (by rw [hbS]; exact hP) (by rw [hbS]; exact hD) hS (by first | (rw [hbS]; exact lv_sub hl [0, 1, 2, 3] rfl) | exact lv_sub hl [0, 1, 2, 3] rfl)
  · refine lv_aload_n hx hb dX1_again_91 rfl (lv_at hl 0 rfl) ?_
    refine va_get (D := (dC, dI)) (ci := 1) (v := .ref pb) (C := RX1) (T := TX1) (N := 15) hx hb hts hin_X1 hown hK hP 0 rfl rfl 4 (by decide) (hts (.fieldLink RX1 21 "TemporaryRealsModel" "bits" "[I") (by decide +kernel)) (fun _ h9 => h9) rfl dX1_again_92 ?_
    refine lv_iload_n hx hb dX1_again_95 rfl (lv_at hl 3 rfl) ?_
    refine lv_iload_n hx hb dX1_again_96 rfl (lv_at hl 3 rfl) ?_
    refine lv_bipush (v := 64) hx hb dX1_again_97 (by decide) ?_
    refine w_join (F0 m 127 ls (.int (if x3 < 64 then 0 else (if x3 = 128 then 0 else (Int64.toInt32 (((fr x1.toNatClampNeg) >>> (Int32.toInt64 (127 - x3) &&& 63)) &&& 1)))) :: [.int x3, .ref pb])) ?_ (fun hJ_2 => ?_)
    · refine va_iast hx hb hK hP hD hS 3 2 rfl rfl (by first | assumption | exact hbnd | exact hbnd.1 | exact hbnd (by assumption) | exact hbnd.2 (by assumption)) dX1_again_127 (fun H locs hP hD hS => ?_)
      have hP : va_P (dC, dI) vwCl [(h0, .inr (1, [.int cd, .int ct, .ref pt, .ref pf, .ref pb, .int wt, .int fi, .int mn, .long wh, .int fu, .int tl, .int gr, .int sd, .int mt, .long mf])), (pt, .inl (cA, 8, .inl tp)), (pf, .inl (cB, 8, .inr (.inl fr))), (pb, .inl (cC, 129, .inl (upd bi x3.toNatClampNeg (if x3 < 64 then 0 else (if x3 = 128 then 0 else (Int64.toInt32 (((fr x1.toNatClampNeg) >>> (Int32.toInt64 (127 - x3) &&& 63)) &&& 1)))))))] H := hP
      have hD : va_D A [(h0, .inr (1, [.int cd, .int ct, .ref pt, .ref pf, .ref pb, .int wt, .int fi, .int mn, .long wh, .int fu, .int tl, .int gr, .int sd, .int mt, .long mf])), (pt, .inl (cA, 8, .inl tp)), (pf, .inl (cB, 8, .inr (.inl fr))), (pb, .inl (cC, 129, .inl (upd bi x3.toNatClampNeg (if x3 < 64 then 0 else (if x3 = 128 then 0 else (Int64.toInt32 (((fr x1.toNatClampNeg) >>> (Int32.toInt64 (127 - x3) &&& 63)) &&& 1)))))))] := hD
      refine lv_iinc (v := (x3 + 1)) (lv' := [(3, .int (x3 + 1)), (0, .ref h0), (1, .int x1), (2, .int x2)]) hx hb dX1_again_128 hl (k := 3) rfl rfl (by decide) rfl (fun ls hl => ?_)
      refine lv_goto (tgt := 84) hx hb dX1_again_131 (by decide) ?_
      have hbS : (b_X1_again_84 fr x1 x3 bi) = (true, (x3 + 1), (upd bi x3.toNatClampNeg (if x3 < 64 then 0 else (if x3 = 128 then 0 else (Int64.toInt32 (((fr x1.toNatClampNeg) >>> (Int32.toInt64 (127 - x3) &&& 63)) &&& 1)))))) := by unfold b_X1_again_84; rw [if_neg c_1]
      exact kb (by rw [hbS]) _ _ _ (by rw [hbS]; exact hP) (by rw [hbS]; exact hD) hS (by first | (rw [hbS]; exact lv_sub hl [1, 2, 3, 0] rfl) | exact lv_sub hl [1, 2, 3, 0] rfl)
    · refine lv_icmp_lt (tgt := 109) hx hb dX1_again_99 (by decide) (fun c_3 => ?_) (fun c_3 => ?_)
      · refine lv_iconst (v := 0) hx hb dX1_again_109 (by decide) ?_
        refine lv_goto (tgt := 127) hx hb dX1_again_110 (by decide) ?_
        exact W.eq (by rw [if_pos c_3] <;> (repeat (first | rw [if_pos c_3]))) hJ_2
      · refine lv_iload_n hx hb dX1_again_102 rfl (lv_at hl 3 rfl) ?_
        refine lv_sipush (v := 128) hx hb dX1_again_103 (by decide) ?_
        refine lv_icmp_ne (tgt := 113) hx hb dX1_again_106 (by decide) (fun c_4 => ?_) (fun c_4 => ?_)
        · refine lv_aload_n hx hb dX1_again_113 rfl (lv_at hl 0 rfl) ?_
          refine va_get (D := (dC, dI)) (ci := 1) (v := .ref pf) (C := RX1) (T := TX1) (N := 15) hx hb hts hin_X1 hown hK hP 0 rfl rfl 3 (by decide) (hts (.fieldLink RX1 17 "TemporaryRealsModel" "fraction" "[J") (by decide +kernel)) (fun _ h9 => h9) rfl dX1_again_114 ?_
          refine lv_iload_n hx hb dX1_again_117 rfl (lv_at hl 1 rfl) ?_
          refine va_lald hx hb hK hP 2 1 rfl rfl (by first | assumption | exact hbnd | exact hbnd.1 | exact hbnd (by assumption) | exact hbnd.2 (by assumption)) dX1_again_118 ?_
          refine lv_bipush (v := 127) hx hb dX1_again_119 (by decide) ?_
          refine lv_iload_n hx hb dX1_again_121 rfl (lv_at hl 3 rfl) ?_
          refine lv_isub hx hb dX1_again_122 ?_
          refine lv_lshr hx hb dX1_again_123 rfl ?_
          refine lv_lconst (v := 1) hx hb dX1_again_124 (by decide) ?_
          refine lv_land hx hb dX1_again_125 ?_
          refine lv_l2i hx hb dX1_again_126 rfl ?_
          exact W.eq (by rw [if_neg c_3, if_neg c_4] <;> (repeat (first | rw [if_neg c_3] | rw [if_neg c_4]))) hJ_2
        · refine lv_iconst (v := 0) hx hb dX1_again_109 (by decide) ?_
          refine lv_goto (tgt := 127) hx hb dX1_again_110 (by decide) ?_
          exact W.eq (by rw [if_neg c_3, if_pos c_4] <;> (repeat (first | rw [if_neg c_3] | rw [if_pos c_4]))) hJ_2
theorem lq_X1_again_84 {p : Program} {l : Launch} {e : Env} {R : Room} {s : State} {m : MethodId} {args : Array Value} {below : List Frame} {meth : Method} {c : Code} {cells slots : Nat} {Q : State → Prop} {dC : Nat → ClassId} {dI : Nat → Nat → Nat} {cA cB cC : ClassId} {h0 pt pf pb : Nat} {A : Nat → Prop} (hx : p.tables.exec = Jvm.exec) (hb : c.code = cX1_again) (hml : c.maxLocals = 4) (hts : ∀ w ∈ wsX1_again, w.before args s = true) (hown : s.vm.findClass RX1 = some m.cls) (hK : va_K (dC, dI) vwCl (m_T cA cB cC) s) (tp : Nat → Int32) (fr : Nat → Int64) (cd : Int32) (ct : Int32) (wt : Int32) (fi : Int32) (mn : Int32) (wh : Int64) (fu : Int32) (tl : Int32) (gr : Int32) (sd : Int32) (mt : Int32) (mf : Int64) (x1 : Int32) (x2 : Int32) : ∀ (n : Nat) (S : Int32 × (Nat → Int32)), fin_X1_again_84 fr x1 n S → ∀ {H : Heap} {locs : List Loc} {ls : Array Slot}, va_P (dC, dI) vwCl [(h0, .inr (1, [.int cd, .int ct, .ref pt, .ref pf, .ref pb, .int wt, .int fi, .int mn, .long wh, .int fu, .int tl, .int gr, .int sd, .int mt, .long mf])), (pt, .inl (cA, 8, .inl tp)), (pf, .inl (cB, 8, .inr (.inl fr))), (pb, .inl (cC, 129, .inl S.2))] H → va_D A [(h0, .inr (1, [.int cd, .int ct, .ref pt, .ref pf, .ref pb, .int wt, .int fi, .int mn, .long wh, .int fu, .int tl, .int gr, .int sd, .int mt, .long mf])), (pt, .inl (cA, 8, .inl tp)), (pf, .inl (cB, 8, .inr (.inl fr))), (pb, .inl (cC, 129, .inl S.2))] → va_S A s.heap H locs → lv_has ls 4 [(0, .ref h0), (1, .int x1), (2, .int x2), (3, .int S.1)] → (∀ (H : Heap) (locs : List Loc) (ls : Array Slot), va_P (dC, dI) vwCl [(h0, .inr (1, [.int cd, .int ct, .ref pt, .ref pf, .ref pb, .int wt, .int fi, .int mn, .long wh, .int fu, .int tl, .int gr, .int sd, .int mt, .long mf])), (pt, .inl (cA, 8, .inl tp)), (pf, .inl (cB, 8, .inr (.inl fr))), (pb, .inl (cC, 129, .inl (lp_X1_again_84 fr x1 n S).2))] H → va_D A [(h0, .inr (1, [.int cd, .int ct, .ref pt, .ref pf, .ref pb, .int wt, .int fi, .int mn, .long wh, .int fu, .int tl, .int gr, .int sd, .int mt, .long mf])), (pt, .inl (cA, 8, .inl tp)), (pf, .inl (cB, 8, .inr (.inl fr))), (pb, .inl (cC, 129, .inl (lp_X1_again_84 fr x1 n S).2))] → va_S A s.heap H locs → lv_has ls 4 [(0, .ref h0), (1, .int x1), (2, .int x2), (3, .int ((lp_X1_again_84 fr x1 n S).1))] → W p l e R s m args below meth c H locs cells slots Q (F0 m 134 ls [])) → W p l e R s m args below meth c H locs cells slots Q (F0 m 84 ls []) := by
  intro n
  induction n with
  | zero => intro S h; exact h.elim
  | succ n ih =>
    intro S h H locs ls hP hD hS hl K
    obtain ⟨hbnd, h⟩ := h
    refine st_X1_again_84 hx hb hml hts hown hK tp fr cd ct wt fi mn wh fu tl gr sd mt mf x1 x2 S.1 S.2 hP hD hS hl hbnd ?_ ?_
    · intro hc H locs ls hP hD hS hl
      have e : lp_X1_again_84 fr x1 (n + 1) S = lp_X1_again_84 fr x1 n (b_X1_again_84 fr x1 S.1 S.2).2 := if_pos hc
      rw [e] at K
      exact ih _ (h.resolve_left (by rw [hc]; exact Bool.noConfusion)) hP hD hS hl K
    · intro hc H locs ls hP hD hS hl
      have e : lp_X1_again_84 fr x1 (n + 1) S = (b_X1_again_84 fr x1 S.1 S.2).2 := if_neg (by rw [hc]; exact Bool.false_ne_true)
      rw [e] at K
      exact K H locs ls hP hD hS hl
theorem lr_X1_again_84 {p : Program} {l : Launch} {e : Env} {R : Room} {s : State} {m : MethodId} {args : Array Value} {below : List Frame} {meth : Method} {c : Code} {cells slots : Nat} {Q : State → Prop} {dC : Nat → ClassId} {dI : Nat → Nat → Nat} {cA cB cC : ClassId} {h0 pt pf pb : Nat} {A : Nat → Prop} (hx : p.tables.exec = Jvm.exec) (hb : c.code = cX1_again) (hml : c.maxLocals = 4) (hts : ∀ w ∈ wsX1_again, w.before args s = true) (hown : s.vm.findClass RX1 = some m.cls) (hK : va_K (dC, dI) vwCl (m_T cA cB cC) s) (tp : Nat → Int32) (fr : Nat → Int64) (cd : Int32) (ct : Int32) (wt : Int32) (fi : Int32) (mn : Int32) (wh : Int64) (fu : Int32) (tl : Int32) (gr : Int32) (sd : Int32) (mt : Int32) (mf : Int64) (x1 : Int32) (x2 : Int32) (n : Nat) (x3 : Int32) (bi : Nat → Int32) (hf : fin_X1_again_84 fr x1 n (x3, bi)) {H : Heap} {locs : List Loc} {ls : Array Slot} (hP : va_P (dC, dI) vwCl [(h0, .inr (1, [.int cd, .int ct, .ref pt, .ref pf, .ref pb, .int wt, .int fi, .int mn, .long wh, .int fu, .int tl, .int gr, .int sd, .int mt, .long mf])), (pt, .inl (cA, 8, .inl tp)), (pf, .inl (cB, 8, .inr (.inl fr))), (pb, .inl (cC, 129, .inl bi))] H) (hD : va_D A [(h0, .inr (1, [.int cd, .int ct, .ref pt, .ref pf, .ref pb, .int wt, .int fi, .int mn, .long wh, .int fu, .int tl, .int gr, .int sd, .int mt, .long mf])), (pt, .inl (cA, 8, .inl tp)), (pf, .inl (cB, 8, .inr (.inl fr))), (pb, .inl (cC, 129, .inl bi))]) (hS : va_S A s.heap H locs) (hl : lv_has ls 4 [(0, .ref h0), (1, .int x1), (2, .int x2), (3, .int x3)]) (K : ∀ (H : Heap) (locs : List Loc) (ls : Array Slot), va_P (dC, dI) vwCl [(h0, .inr (1, [.int cd, .int ct, .ref pt, .ref pf, .ref pb, .int wt, .int fi, .int mn, .long wh, .int fu, .int tl, .int gr, .int sd, .int mt, .long mf])), (pt, .inl (cA, 8, .inl tp)), (pf, .inl (cB, 8, .inr (.inl fr))), (pb, .inl (cC, 129, .inl (lp_X1_again_84 fr x1 n (x3, bi)).2))] H → va_D A [(h0, .inr (1, [.int cd, .int ct, .ref pt, .ref pf, .ref pb, .int wt, .int fi, .int mn, .long wh, .int fu, .int tl, .int gr, .int sd, .int mt, .long mf])), (pt, .inl (cA, 8, .inl tp)), (pf, .inl (cB, 8, .inr (.inl fr))), (pb, .inl (cC, 129, .inl (lp_X1_again_84 fr x1 n (x3, bi)).2))] → va_S A s.heap H locs → lv_has ls 4 [(0, .ref h0), (1, .int x1), (2, .int x2), (3, .int ((lp_X1_again_84 fr x1 n (x3, bi)).1))] → W p l e R s m args below meth c H locs cells slots Q (F0 m 134 ls [])) : W p l e R s m args below meth c H locs cells slots Q (F0 m 84 ls []) := lq_X1_again_84 hx hb hml hts hown hK tp fr cd ct wt fi mn wh fu tl gr sd mt mf x1 x2 n (x3, bi) hf hP hD hS hl K
def b_X1_compareSizes_121 (x3 : Int64) (x5 : Int32) : Bool × (Int64 × Int32) :=
  if (lg_cmp x3 0) ≤ 0 then
    (false, x3, x5)
  else
    (true, (2 * x3), (x5 + (-1)))
def lp_X1_compareSizes_121 : Nat → (Int64 × Int32) → (Int64 × Int32)
  | 0, S => S
  | n + 1, S => if (b_X1_compareSizes_121 S.1 S.2).1 = true then lp_X1_compareSizes_121 n (b_X1_compareSizes_121 S.1 S.2).2 else (b_X1_compareSizes_121 S.1 S.2).2
def fin_X1_compareSizes_121 : Nat → (Int64 × Int32) → Prop
  | 0, _ => False
  | n + 1, S => (True) ∧ ((b_X1_compareSizes_121 S.1 S.2).1 = false ∨ fin_X1_compareSizes_121 n (b_X1_compareSizes_121 S.1 S.2).2)
set_option maxHeartbeats 1000000 in
set_option maxRecDepth 100000 in
theorem st_X1_compareSizes_121 {p : Program} {l : Launch} {e : Env} {R : Room} {s : State} {m : MethodId} {args : Array Value} {below : List Frame} {meth : Method} {c : Code} {cells slots : Nat} {Q : State → Prop} {dC : Nat → ClassId} {dI : Nat → Nat → Nat} {cA cB cC : ClassId} {h0 pt pf pb : Nat} (hx : p.tables.exec = Jvm.exec) (hb : c.code = cX1_compareSizes) (hml : c.maxLocals = 9) (hts : ∀ w ∈ wsX1_compareSizes, w.before args s = true) (hown : s.vm.findClass RX1 = some m.cls) (hK : va_K (dC, dI) vwCl (m_T cA cB cC) s) (tp : Nat → Int32) (fr : Nat → Int64) (bi : Nat → Int32) (cd : Int32) (ct : Int32) (wt : Int32) (fi : Int32) (mn : Int32) (wh : Int64) (fu : Int32) (tl : Int32) (gr : Int32) (sd : Int32) (mt : Int32) (mf : Int64) (x1 : Int32) (x2 : Int32) (x6 : Int64) (x8 : Int32) (x3 : Int64) (x5 : Int32) {H : Heap} {locs : List Loc} (hP : va_P (dC, dI) vwCl [(h0, .inr (1, [.int cd, .int ct, .ref pt, .ref pf, .ref pb, .int wt, .int fi, .int mn, .long wh, .int fu, .int tl, .int gr, .int sd, .int mt, .long mf])), (pt, .inl (cA, 8, .inl tp)), (pf, .inl (cB, 8, .inr (.inl fr))), (pb, .inl (cC, 129, .inl bi))] H) {ls : Array Slot} (hl : lv_has ls 9 [(0, .ref h0), (1, .int x1), (2, .int x2), (3, .long x3), (5, .int x5), (6, .long x6), (8, .int x8)]) (hbnd : True) (kb : (b_X1_compareSizes_121 x3 x5).1 = true → ∀ (ls : Array Slot), lv_has ls 9 [(0, .ref h0), (1, .int x1), (2, .int x2), (3, .long ((b_X1_compareSizes_121 x3 x5).2.1)), (5, .int ((b_X1_compareSizes_121 x3 x5).2.2)), (6, .long x6), (8, .int x8)] → W p l e R s m args below meth c H locs cells slots Q (F0 m 121 ls [])) (ke : (b_X1_compareSizes_121 x3 x5).1 = false → ∀ (ls : Array Slot), lv_has ls 9 [(0, .ref h0), (1, .int x1), (2, .int x2), (3, .long ((b_X1_compareSizes_121 x3 x5).2.1)), (5, .int ((b_X1_compareSizes_121 x3 x5).2.2)), (6, .long x6), (8, .int x8)] → W p l e R s m args below meth c H locs cells slots Q (F0 m 139 ls [])) : W p l e R s m args below meth c H locs cells slots Q (F0 m 121 ls []) := by
  refine lv_lload_n hx hb dX1_compareSizes_121 rfl (lv_at hl 3 rfl) ?_
  refine lv_lconst (v := 0) hx hb dX1_compareSizes_122 (by decide) ?_
  refine W.lcmp hx hb dX1_compareSizes_123 ?_
  refine lv_if_le (tgt := 139) hx hb dX1_compareSizes_124 (by decide) (fun c_1 => ?_) (fun c_1 => ?_)
  · have hbS : (b_X1_compareSizes_121 x3 x5) = (false, x3, x5) := by unfold b_X1_compareSizes_121; rw [if_pos c_1]
    exact ke (by rw [hbS]) _ (by rw [hbS]; exact lv_sub hl [0, 1, 2, 3, 4, 5, 6] rfl)
  · refine lv_ldc2 (v := 2) hx hb hown (hts (.constantLong RX1 53 2) (by decide +kernel)) dX1_compareSizes_127 ?_
    refine lv_lload_n hx hb dX1_compareSizes_130 rfl (lv_at hl 3 rfl) ?_
    refine lv_lmul hx hb dX1_compareSizes_131 ?_
    refine lv_lstore_n (lv' := [(3, .long (2 * x3)), (0, .ref h0), (1, .int x1), (2, .int x2), (5, .int x5), (6, .long x6), (8, .int x8)]) hx hb dX1_compareSizes_132 rfl hl (by decide) rfl (fun ls hl => ?_)
    refine lv_iinc (v := (x5 + (-1))) (lv' := [(5, .int (x5 + (-1))), (3, .long (2 * x3)), (0, .ref h0), (1, .int x1), (2, .int x2), (6, .long x6), (8, .int x8)]) hx hb dX1_compareSizes_133 hl (k := 4) rfl rfl (by decide) rfl (fun ls hl => ?_)
    refine lv_goto (tgt := 121) hx hb dX1_compareSizes_136 (by decide) ?_
    have hbS : (b_X1_compareSizes_121 x3 x5) = (true, (2 * x3), (x5 + (-1))) := by unfold b_X1_compareSizes_121; rw [if_neg c_1]
    exact kb (by rw [hbS]) _ (by rw [hbS]; exact lv_sub hl [2, 3, 4, 1, 0, 5, 6] rfl)
theorem lq_X1_compareSizes_121 {p : Program} {l : Launch} {e : Env} {R : Room} {s : State} {m : MethodId} {args : Array Value} {below : List Frame} {meth : Method} {c : Code} {cells slots : Nat} {Q : State → Prop} {dC : Nat → ClassId} {dI : Nat → Nat → Nat} {cA cB cC : ClassId} {h0 pt pf pb : Nat} (hx : p.tables.exec = Jvm.exec) (hb : c.code = cX1_compareSizes) (hml : c.maxLocals = 9) (hts : ∀ w ∈ wsX1_compareSizes, w.before args s = true) (hown : s.vm.findClass RX1 = some m.cls) (hK : va_K (dC, dI) vwCl (m_T cA cB cC) s) (tp : Nat → Int32) (fr : Nat → Int64) (bi : Nat → Int32) (cd : Int32) (ct : Int32) (wt : Int32) (fi : Int32) (mn : Int32) (wh : Int64) (fu : Int32) (tl : Int32) (gr : Int32) (sd : Int32) (mt : Int32) (mf : Int64) (x1 : Int32) (x2 : Int32) (x6 : Int64) (x8 : Int32) : ∀ (n : Nat) (S : Int64 × Int32), fin_X1_compareSizes_121 n S → ∀ {H : Heap} {locs : List Loc} {ls : Array Slot}, va_P (dC, dI) vwCl [(h0, .inr (1, [.int cd, .int ct, .ref pt, .ref pf, .ref pb, .int wt, .int fi, .int mn, .long wh, .int fu, .int tl, .int gr, .int sd, .int mt, .long mf])), (pt, .inl (cA, 8, .inl tp)), (pf, .inl (cB, 8, .inr (.inl fr))), (pb, .inl (cC, 129, .inl bi))] H → lv_has ls 9 [(0, .ref h0), (1, .int x1), (2, .int x2), (3, .long S.1), (5, .int S.2), (6, .long x6), (8, .int x8)] → (∀ (ls : Array Slot), lv_has ls 9 [(0, .ref h0), (1, .int x1), (2, .int x2), (3, .long ((lp_X1_compareSizes_121 n S).1)), (5, .int ((lp_X1_compareSizes_121 n S).2)), (6, .long x6), (8, .int x8)] → W p l e R s m args below meth c H locs cells slots Q (F0 m 139 ls [])) → W p l e R s m args below meth c H locs cells slots Q (F0 m 121 ls []) := by
  intro n
  induction n with
  | zero => intro S h; exact h.elim
  | succ n ih =>
    intro S h H locs ls hP hl K
    obtain ⟨hbnd, h⟩ := h
    refine st_X1_compareSizes_121 hx hb hml hts hown hK tp fr bi cd ct wt fi mn wh fu tl gr sd mt mf x1 x2 x6 x8 S.1 S.2 hP hl hbnd ?_ ?_
    · intro hc ls hl
      have e : lp_X1_compareSizes_121 (n + 1) S = lp_X1_compareSizes_121 n (b_X1_compareSizes_121 S.1 S.2).2 := if_pos hc
      rw [e] at K
      exact ih _ (h.resolve_left (by rw [hc]; exact Bool.noConfusion)) hP hl K
    · intro hc ls hl
      have e : lp_X1_compareSizes_121 (n + 1) S = (b_X1_compareSizes_121 S.1 S.2).2 := if_neg (by rw [hc]; exact Bool.false_ne_true)
      rw [e] at K
      exact K ls hl
theorem lr_X1_compareSizes_121 {p : Program} {l : Launch} {e : Env} {R : Room} {s : State} {m : MethodId} {args : Array Value} {below : List Frame} {meth : Method} {c : Code} {cells slots : Nat} {Q : State → Prop} {dC : Nat → ClassId} {dI : Nat → Nat → Nat} {cA cB cC : ClassId} {h0 pt pf pb : Nat} (hx : p.tables.exec = Jvm.exec) (hb : c.code = cX1_compareSizes) (hml : c.maxLocals = 9) (hts : ∀ w ∈ wsX1_compareSizes, w.before args s = true) (hown : s.vm.findClass RX1 = some m.cls) (hK : va_K (dC, dI) vwCl (m_T cA cB cC) s) (tp : Nat → Int32) (fr : Nat → Int64) (bi : Nat → Int32) (cd : Int32) (ct : Int32) (wt : Int32) (fi : Int32) (mn : Int32) (wh : Int64) (fu : Int32) (tl : Int32) (gr : Int32) (sd : Int32) (mt : Int32) (mf : Int64) (x1 : Int32) (x2 : Int32) (x6 : Int64) (x8 : Int32) (n : Nat) (x3 : Int64) (x5 : Int32) (hf : fin_X1_compareSizes_121 n (x3, x5)) {H : Heap} {locs : List Loc} {ls : Array Slot} (hP : va_P (dC, dI) vwCl [(h0, .inr (1, [.int cd, .int ct, .ref pt, .ref pf, .ref pb, .int wt, .int fi, .int mn, .long wh, .int fu, .int tl, .int gr, .int sd, .int mt, .long mf])), (pt, .inl (cA, 8, .inl tp)), (pf, .inl (cB, 8, .inr (.inl fr))), (pb, .inl (cC, 129, .inl bi))] H) (hl : lv_has ls 9 [(0, .ref h0), (1, .int x1), (2, .int x2), (3, .long x3), (5, .int x5), (6, .long x6), (8, .int x8)]) (K : ∀ (ls : Array Slot), lv_has ls 9 [(0, .ref h0), (1, .int x1), (2, .int x2), (3, .long ((lp_X1_compareSizes_121 n (x3, x5)).1)), (5, .int ((lp_X1_compareSizes_121 n (x3, x5)).2)), (6, .long x6), (8, .int x8)] → W p l e R s m args below meth c H locs cells slots Q (F0 m 139 ls [])) : W p l e R s m args below meth c H locs cells slots Q (F0 m 121 ls []) := lq_X1_compareSizes_121 hx hb hml hts hown hK tp fr bi cd ct wt fi mn wh fu tl gr sd mt mf x1 x2 x6 x8 n (x3, x5) hf hP hl K
def b_X1_compareSizes_139 (x6 : Int64) (x8 : Int32) : Bool × (Int64 × Int32) :=
  if (lg_cmp x6 0) ≤ 0 then
    (false, x6, x8)
  else
    (true, (2 * x6), (x8 + (-1)))
def lp_X1_compareSizes_139 : Nat → (Int64 × Int32) → (Int64 × Int32)
  | 0, S => S
  | n + 1, S => if (b_X1_compareSizes_139 S.1 S.2).1 = true then lp_X1_compareSizes_139 n (b_X1_compareSizes_139 S.1 S.2).2 else (b_X1_compareSizes_139 S.1 S.2).2
def fin_X1_compareSizes_139 : Nat → (Int64 × Int32) → Prop
  | 0, _ => False
  | n + 1, S => (True) ∧ ((b_X1_compareSizes_139 S.1 S.2).1 = false ∨ fin_X1_compareSizes_139 n (b_X1_compareSizes_139 S.1 S.2).2)
set_option maxHeartbeats 1000000 in
set_option maxRecDepth 100000 in
theorem st_X1_compareSizes_139 {p : Program} {l : Launch} {e : Env} {R : Room} {s : State} {m : MethodId} {args : Array Value} {below : List Frame} {meth : Method} {c : Code} {cells slots : Nat} {Q : State → Prop} {dC : Nat → ClassId} {dI : Nat → Nat → Nat} {cA cB cC : ClassId} {h0 pt pf pb : Nat} (hx : p.tables.exec = Jvm.exec) (hb : c.code = cX1_compareSizes) (hml : c.maxLocals = 9) (hts : ∀ w ∈ wsX1_compareSizes, w.before args s = true) (hown : s.vm.findClass RX1 = some m.cls) (hK : va_K (dC, dI) vwCl (m_T cA cB cC) s) (tp : Nat → Int32) (fr : Nat → Int64) (bi : Nat → Int32) (cd : Int32) (ct : Int32) (wt : Int32) (fi : Int32) (mn : Int32) (wh : Int64) (fu : Int32) (tl : Int32) (gr : Int32) (sd : Int32) (mt : Int32) (mf : Int64) (x1 : Int32) (x2 : Int32) (x3 : Int64) (x5 : Int32) (x6 : Int64) (x8 : Int32) {H : Heap} {locs : List Loc} (hP : va_P (dC, dI) vwCl [(h0, .inr (1, [.int cd, .int ct, .ref pt, .ref pf, .ref pb, .int wt, .int fi, .int mn, .long wh, .int fu, .int tl, .int gr, .int sd, .int mt, .long mf])), (pt, .inl (cA, 8, .inl tp)), (pf, .inl (cB, 8, .inr (.inl fr))), (pb, .inl (cC, 129, .inl bi))] H) {ls : Array Slot} (hl : lv_has ls 9 [(0, .ref h0), (1, .int x1), (2, .int x2), (3, .long x3), (5, .int x5), (6, .long x6), (8, .int x8)]) (hbnd : True) (kb : (b_X1_compareSizes_139 x6 x8).1 = true → ∀ (ls : Array Slot), lv_has ls 9 [(0, .ref h0), (1, .int x1), (2, .int x2), (3, .long x3), (5, .int x5), (6, .long ((b_X1_compareSizes_139 x6 x8).2.1)), (8, .int ((b_X1_compareSizes_139 x6 x8).2.2))] → W p l e R s m args below meth c H locs cells slots Q (F0 m 139 ls [])) (ke : (b_X1_compareSizes_139 x6 x8).1 = false → ∀ (ls : Array Slot), lv_has ls 9 [(0, .ref h0), (1, .int x1), (2, .int x2), (3, .long x3), (5, .int x5), (6, .long ((b_X1_compareSizes_139 x6 x8).2.1)), (8, .int ((b_X1_compareSizes_139 x6 x8).2.2))] → W p l e R s m args below meth c H locs cells slots Q (F0 m 160 ls [])) : W p l e R s m args below meth c H locs cells slots Q (F0 m 139 ls []) := by
  refine lv_lload hx hb dX1_compareSizes_139 (lv_at hl 5 rfl) ?_
  refine lv_lconst (v := 0) hx hb dX1_compareSizes_141 (by decide) ?_
  refine W.lcmp hx hb dX1_compareSizes_142 ?_
  refine lv_if_le (tgt := 160) hx hb dX1_compareSizes_143 (by decide) (fun c_1 => ?_) (fun c_1 => ?_)
  · have hbS : (b_X1_compareSizes_139 x6 x8) = (false, x6, x8) := by unfold b_X1_compareSizes_139; rw [if_pos c_1]
    exact ke (by rw [hbS]) _ (by rw [hbS]; exact lv_sub hl [0, 1, 2, 3, 4, 5, 6] rfl)
  · refine lv_ldc2 (v := 2) hx hb hown (hts (.constantLong RX1 53 2) (by decide +kernel)) dX1_compareSizes_146 ?_
    refine lv_lload hx hb dX1_compareSizes_149 (lv_at hl 5 rfl) ?_
    refine lv_lmul hx hb dX1_compareSizes_151 ?_
    refine lv_lstore (lv' := [(6, .long (2 * x6)), (0, .ref h0), (1, .int x1), (2, .int x2), (3, .long x3), (5, .int x5), (8, .int x8)]) hx hb dX1_compareSizes_152 hl (by decide) rfl (fun ls hl => ?_)
    refine lv_iinc (v := (x8 + (-1))) (lv' := [(8, .int (x8 + (-1))), (6, .long (2 * x6)), (0, .ref h0), (1, .int x1), (2, .int x2), (3, .long x3), (5, .int x5)]) hx hb dX1_compareSizes_154 hl (k := 6) rfl rfl (by decide) rfl (fun ls hl => ?_)
    refine lv_goto (tgt := 139) hx hb dX1_compareSizes_157 (by decide) ?_
    have hbS : (b_X1_compareSizes_139 x6 x8) = (true, (2 * x6), (x8 + (-1))) := by unfold b_X1_compareSizes_139; rw [if_neg c_1]
    exact kb (by rw [hbS]) _ (by rw [hbS]; exact lv_sub hl [2, 3, 4, 5, 6, 1, 0] rfl)
theorem lq_X1_compareSizes_139 {p : Program} {l : Launch} {e : Env} {R : Room} {s : State} {m : MethodId} {args : Array Value} {below : List Frame} {meth : Method} {c : Code} {cells slots : Nat} {Q : State → Prop} {dC : Nat → ClassId} {dI : Nat → Nat → Nat} {cA cB cC : ClassId} {h0 pt pf pb : Nat} (hx : p.tables.exec = Jvm.exec) (hb : c.code = cX1_compareSizes) (hml : c.maxLocals = 9) (hts : ∀ w ∈ wsX1_compareSizes, w.before args s = true) (hown : s.vm.findClass RX1 = some m.cls) (hK : va_K (dC, dI) vwCl (m_T cA cB cC) s) (tp : Nat → Int32) (fr : Nat → Int64) (bi : Nat → Int32) (cd : Int32) (ct : Int32) (wt : Int32) (fi : Int32) (mn : Int32) (wh : Int64) (fu : Int32) (tl : Int32) (gr : Int32) (sd : Int32) (mt : Int32) (mf : Int64) (x1 : Int32) (x2 : Int32) (x3 : Int64) (x5 : Int32) : ∀ (n : Nat) (S : Int64 × Int32), fin_X1_compareSizes_139 n S → ∀ {H : Heap} {locs : List Loc} {ls : Array Slot}, va_P (dC, dI) vwCl [(h0, .inr (1, [.int cd, .int ct, .ref pt, .ref pf, .ref pb, .int wt, .int fi, .int mn, .long wh, .int fu, .int tl, .int gr, .int sd, .int mt, .long mf])), (pt, .inl (cA, 8, .inl tp)), (pf, .inl (cB, 8, .inr (.inl fr))), (pb, .inl (cC, 129, .inl bi))] H → lv_has ls 9 [(0, .ref h0), (1, .int x1), (2, .int x2), (3, .long x3), (5, .int x5), (6, .long S.1), (8, .int S.2)] → (∀ (ls : Array Slot), lv_has ls 9 [(0, .ref h0), (1, .int x1), (2, .int x2), (3, .long x3), (5, .int x5), (6, .long ((lp_X1_compareSizes_139 n S).1)), (8, .int ((lp_X1_compareSizes_139 n S).2))] → W p l e R s m args below meth c H locs cells slots Q (F0 m 160 ls [])) → W p l e R s m args below meth c H locs cells slots Q (F0 m 139 ls []) := by
  intro n
  induction n with
  | zero => intro S h; exact h.elim
  | succ n ih =>
    intro S h H locs ls hP hl K
    obtain ⟨hbnd, h⟩ := h
    refine st_X1_compareSizes_139 hx hb hml hts hown hK tp fr bi cd ct wt fi mn wh fu tl gr sd mt mf x1 x2 x3 x5 S.1 S.2 hP hl hbnd ?_ ?_
    · intro hc ls hl
      have e : lp_X1_compareSizes_139 (n + 1) S = lp_X1_compareSizes_139 n (b_X1_compareSizes_139 S.1 S.2).2 := if_pos hc
      rw [e] at K
      exact ih _ (h.resolve_left (by rw [hc]; exact Bool.noConfusion)) hP hl K
    · intro hc ls hl
      have e : lp_X1_compareSizes_139 (n + 1) S = (b_X1_compareSizes_139 S.1 S.2).2 := if_neg (by rw [hc]; exact Bool.false_ne_true)
      rw [e] at K
      exact K ls hl
theorem lr_X1_compareSizes_139 {p : Program} {l : Launch} {e : Env} {R : Room} {s : State} {m : MethodId} {args : Array Value} {below : List Frame} {meth : Method} {c : Code} {cells slots : Nat} {Q : State → Prop} {dC : Nat → ClassId} {dI : Nat → Nat → Nat} {cA cB cC : ClassId} {h0 pt pf pb : Nat} (hx : p.tables.exec = Jvm.exec) (hb : c.code = cX1_compareSizes) (hml : c.maxLocals = 9) (hts : ∀ w ∈ wsX1_compareSizes, w.before args s = true) (hown : s.vm.findClass RX1 = some m.cls) (hK : va_K (dC, dI) vwCl (m_T cA cB cC) s) (tp : Nat → Int32) (fr : Nat → Int64) (bi : Nat → Int32) (cd : Int32) (ct : Int32) (wt : Int32) (fi : Int32) (mn : Int32) (wh : Int64) (fu : Int32) (tl : Int32) (gr : Int32) (sd : Int32) (mt : Int32) (mf : Int64) (x1 : Int32) (x2 : Int32) (x3 : Int64) (x5 : Int32) (n : Nat) (x6 : Int64) (x8 : Int32) (hf : fin_X1_compareSizes_139 n (x6, x8)) {H : Heap} {locs : List Loc} {ls : Array Slot} (hP : va_P (dC, dI) vwCl [(h0, .inr (1, [.int cd, .int ct, .ref pt, .ref pf, .ref pb, .int wt, .int fi, .int mn, .long wh, .int fu, .int tl, .int gr, .int sd, .int mt, .long mf])), (pt, .inl (cA, 8, .inl tp)), (pf, .inl (cB, 8, .inr (.inl fr))), (pb, .inl (cC, 129, .inl bi))] H) (hl : lv_has ls 9 [(0, .ref h0), (1, .int x1), (2, .int x2), (3, .long x3), (5, .int x5), (6, .long x6), (8, .int x8)]) (K : ∀ (ls : Array Slot), lv_has ls 9 [(0, .ref h0), (1, .int x1), (2, .int x2), (3, .long x3), (5, .int x5), (6, .long ((lp_X1_compareSizes_139 n (x6, x8)).1)), (8, .int ((lp_X1_compareSizes_139 n (x6, x8)).2))] → W p l e R s m args below meth c H locs cells slots Q (F0 m 160 ls [])) : W p l e R s m args below meth c H locs cells slots Q (F0 m 139 ls []) := lq_X1_compareSizes_139 hx hb hml hts hown hK tp fr bi cd ct wt fi mn wh fu tl gr sd mt mf x1 x2 x3 x5 n (x6, x8) hf hP hl K
def b_X1_neighbour_182 (x5 : Int32) (x6 : Int64) : Bool × (Int32 × Int64) :=
  if x5 ≤ 1 then
    (false, x5, x6)
  else
    if (lg_cmp x6 0) < 0 then
      (false, x5, x6)
    else
      (true, (x5 + (-1)), (2 * x6))
def lp_X1_neighbour_182 : Nat → (Int32 × Int64) → (Int32 × Int64)
  | 0, S => S
  | n + 1, S => if (b_X1_neighbour_182 S.1 S.2).1 = true then lp_X1_neighbour_182 n (b_X1_neighbour_182 S.1 S.2).2 else (b_X1_neighbour_182 S.1 S.2).2
def fin_X1_neighbour_182 : Nat → (Int32 × Int64) → Prop
  | 0, _ => False
  | n + 1, S => (True) ∧ ((b_X1_neighbour_182 S.1 S.2).1 = false ∨ fin_X1_neighbour_182 n (b_X1_neighbour_182 S.1 S.2).2)
set_option maxHeartbeats 1000000 in
set_option maxRecDepth 100000 in
theorem st_X1_neighbour_182 {p : Program} {l : Launch} {e : Env} {R : Room} {s : State} {m : MethodId} {args : Array Value} {below : List Frame} {meth : Method} {c : Code} {cells slots : Nat} {Q : State → Prop} {dC : Nat → ClassId} {dI : Nat → Nat → Nat} {cA cB cC : ClassId} {h0 pt pf pb : Nat} (hx : p.tables.exec = Jvm.exec) (hb : c.code = cX1_neighbour) (hml : c.maxLocals = 9) (hts : ∀ w ∈ wsX1_neighbour, w.before args s = true) (hown : s.vm.findClass RX1 = some m.cls) (hK : va_K (dC, dI) vwCl (m_T cA cB cC) s) (tp : Nat → Int32) (fr : Nat → Int64) (bi : Nat → Int32) (cd : Int32) (ct : Int32) (wt : Int32) (fi : Int32) (mn : Int32) (wh : Int64) (fu : Int32) (tl : Int32) (gr : Int32) (sd : Int32) (mt : Int32) (mf : Int64) (x1 : Int32) (x2 : Int32) (x3 : Int32) (x4 : Int32) (x8 : Int32) (x5 : Int32) (x6 : Int64) {H : Heap} {locs : List Loc} (hP : va_P (dC, dI) vwCl [(h0, .inr (1, [.int cd, .int ct, .ref pt, .ref pf, .ref pb, .int wt, .int fi, .int mn, .long wh, .int fu, .int tl, .int gr, .int sd, .int mt, .long mf])), (pt, .inl (cA, 8, .inl tp)), (pf, .inl (cB, 8, .inr (.inl fr))), (pb, .inl (cC, 129, .inl bi))] H) {ls : Array Slot} (hl : lv_has ls 9 [(0, .ref h0), (1, .int x1), (2, .int x2), (3, .int x3), (4, .int x4), (5, .int x5), (6, .long x6), (8, .int x8)]) (hbnd : True) (kb : (b_X1_neighbour_182 x5 x6).1 = true → ∀ (ls : Array Slot), lv_has ls 9 [(0, .ref h0), (1, .int x1), (2, .int x2), (3, .int x3), (4, .int x4), (5, .int ((b_X1_neighbour_182 x5 x6).2.1)), (6, .long ((b_X1_neighbour_182 x5 x6).2.2)), (8, .int x8)] → W p l e R s m args below meth c H locs cells slots Q (F0 m 182 ls [])) (ke : (b_X1_neighbour_182 x5 x6).1 = false → ∀ (ls : Array Slot), lv_has ls 9 [(0, .ref h0), (1, .int x1), (2, .int x2), (3, .int x3), (4, .int x4), (5, .int ((b_X1_neighbour_182 x5 x6).2.1)), (6, .long ((b_X1_neighbour_182 x5 x6).2.2)), (8, .int x8)] → W p l e R s m args below meth c H locs cells slots Q (F0 m 209 ls [])) : W p l e R s m args below meth c H locs cells slots Q (F0 m 182 ls []) := by
  refine lv_iload hx hb dX1_neighbour_182 (lv_at hl 5 rfl) ?_
  refine lv_iconst (v := 1) hx hb dX1_neighbour_184 (by decide) ?_
  refine lv_icmp_le (tgt := 209) hx hb dX1_neighbour_185 (by decide) (fun c_1 => ?_) (fun c_1 => ?_)
  · have hbS : (b_X1_neighbour_182 x5 x6) = (false, x5, x6) := by unfold b_X1_neighbour_182; rw [if_pos c_1]
    exact ke (by rw [hbS]) _ (by rw [hbS]; exact lv_sub hl [0, 1, 2, 3, 4, 5, 6, 7] rfl)
  · refine lv_lload hx hb dX1_neighbour_188 (lv_at hl 6 rfl) ?_
    refine lv_lconst (v := 0) hx hb dX1_neighbour_190 (by decide) ?_
    refine W.lcmp hx hb dX1_neighbour_191 ?_
    refine lv_if_lt (tgt := 209) hx hb dX1_neighbour_192 (by decide) (fun c_2 => ?_) (fun c_2 => ?_)
    · have hbS : (b_X1_neighbour_182 x5 x6) = (false, x5, x6) := by unfold b_X1_neighbour_182; rw [if_neg c_1, if_pos c_2]
      exact ke (by rw [hbS]) _ (by rw [hbS]; exact lv_sub hl [0, 1, 2, 3, 4, 5, 6, 7] rfl)
    · refine lv_ldc2 (v := 2) hx hb hown (hts (.constantLong RX1 53 2) (by decide +kernel)) dX1_neighbour_195 ?_
      refine lv_lload hx hb dX1_neighbour_198 (lv_at hl 6 rfl) ?_
      refine lv_lmul hx hb dX1_neighbour_200 ?_
      refine lv_lstore (lv' := [(6, .long (2 * x6)), (0, .ref h0), (1, .int x1), (2, .int x2), (3, .int x3), (4, .int x4), (5, .int x5), (8, .int x8)]) hx hb dX1_neighbour_201 hl (by decide) rfl (fun ls hl => ?_)
      refine lv_iinc (v := (x5 + (-1))) (lv' := [(5, .int (x5 + (-1))), (6, .long (2 * x6)), (0, .ref h0), (1, .int x1), (2, .int x2), (3, .int x3), (4, .int x4), (8, .int x8)]) hx hb dX1_neighbour_203 hl (k := 6) rfl rfl (by decide) rfl (fun ls hl => ?_)
      refine lv_goto (tgt := 182) hx hb dX1_neighbour_206 (by decide) ?_
      have hbS : (b_X1_neighbour_182 x5 x6) = (true, (x5 + (-1)), (2 * x6)) := by unfold b_X1_neighbour_182; rw [if_neg c_1, if_neg c_2]
      exact kb (by rw [hbS]) _ (by rw [hbS]; exact lv_sub hl [2, 3, 4, 5, 6, 0, 1, 7] rfl)
theorem lq_X1_neighbour_182 {p : Program} {l : Launch} {e : Env} {R : Room} {s : State} {m : MethodId} {args : Array Value} {below : List Frame} {meth : Method} {c : Code} {cells slots : Nat} {Q : State → Prop} {dC : Nat → ClassId} {dI : Nat → Nat → Nat} {cA cB cC : ClassId} {h0 pt pf pb : Nat} (hx : p.tables.exec = Jvm.exec) (hb : c.code = cX1_neighbour) (hml : c.maxLocals = 9) (hts : ∀ w ∈ wsX1_neighbour, w.before args s = true) (hown : s.vm.findClass RX1 = some m.cls) (hK : va_K (dC, dI) vwCl (m_T cA cB cC) s) (tp : Nat → Int32) (fr : Nat → Int64) (bi : Nat → Int32) (cd : Int32) (ct : Int32) (wt : Int32) (fi : Int32) (mn : Int32) (wh : Int64) (fu : Int32) (tl : Int32) (gr : Int32) (sd : Int32) (mt : Int32) (mf : Int64) (x1 : Int32) (x2 : Int32) (x3 : Int32) (x4 : Int32) (x8 : Int32) : ∀ (n : Nat) (S : Int32 × Int64), fin_X1_neighbour_182 n S → ∀ {H : Heap} {locs : List Loc} {ls : Array Slot}, va_P (dC, dI) vwCl [(h0, .inr (1, [.int cd, .int ct, .ref pt, .ref pf, .ref pb, .int wt, .int fi, .int mn, .long wh, .int fu, .int tl, .int gr, .int sd, .int mt, .long mf])), (pt, .inl (cA, 8, .inl tp)), (pf, .inl (cB, 8, .inr (.inl fr))), (pb, .inl (cC, 129, .inl bi))] H → lv_has ls 9 [(0, .ref h0), (1, .int x1), (2, .int x2), (3, .int x3), (4, .int x4), (5, .int S.1), (6, .long S.2), (8, .int x8)] → (∀ (ls : Array Slot), lv_has ls 9 [(0, .ref h0), (1, .int x1), (2, .int x2), (3, .int x3), (4, .int x4), (5, .int ((lp_X1_neighbour_182 n S).1)), (6, .long ((lp_X1_neighbour_182 n S).2)), (8, .int x8)] → W p l e R s m args below meth c H locs cells slots Q (F0 m 209 ls [])) → W p l e R s m args below meth c H locs cells slots Q (F0 m 182 ls []) := by
  intro n
  induction n with
  | zero => intro S h; exact h.elim
  | succ n ih =>
    intro S h H locs ls hP hl K
    obtain ⟨hbnd, h⟩ := h
    refine st_X1_neighbour_182 hx hb hml hts hown hK tp fr bi cd ct wt fi mn wh fu tl gr sd mt mf x1 x2 x3 x4 x8 S.1 S.2 hP hl hbnd ?_ ?_
    · intro hc ls hl
      have e : lp_X1_neighbour_182 (n + 1) S = lp_X1_neighbour_182 n (b_X1_neighbour_182 S.1 S.2).2 := if_pos hc
      rw [e] at K
      exact ih _ (h.resolve_left (by rw [hc]; exact Bool.noConfusion)) hP hl K
    · intro hc ls hl
      have e : lp_X1_neighbour_182 (n + 1) S = (b_X1_neighbour_182 S.1 S.2).2 := if_neg (by rw [hc]; exact Bool.false_ne_true)
      rw [e] at K
      exact K ls hl
theorem lr_X1_neighbour_182 {p : Program} {l : Launch} {e : Env} {R : Room} {s : State} {m : MethodId} {args : Array Value} {below : List Frame} {meth : Method} {c : Code} {cells slots : Nat} {Q : State → Prop} {dC : Nat → ClassId} {dI : Nat → Nat → Nat} {cA cB cC : ClassId} {h0 pt pf pb : Nat} (hx : p.tables.exec = Jvm.exec) (hb : c.code = cX1_neighbour) (hml : c.maxLocals = 9) (hts : ∀ w ∈ wsX1_neighbour, w.before args s = true) (hown : s.vm.findClass RX1 = some m.cls) (hK : va_K (dC, dI) vwCl (m_T cA cB cC) s) (tp : Nat → Int32) (fr : Nat → Int64) (bi : Nat → Int32) (cd : Int32) (ct : Int32) (wt : Int32) (fi : Int32) (mn : Int32) (wh : Int64) (fu : Int32) (tl : Int32) (gr : Int32) (sd : Int32) (mt : Int32) (mf : Int64) (x1 : Int32) (x2 : Int32) (x3 : Int32) (x4 : Int32) (x8 : Int32) (n : Nat) (x5 : Int32) (x6 : Int64) (hf : fin_X1_neighbour_182 n (x5, x6)) {H : Heap} {locs : List Loc} {ls : Array Slot} (hP : va_P (dC, dI) vwCl [(h0, .inr (1, [.int cd, .int ct, .ref pt, .ref pf, .ref pb, .int wt, .int fi, .int mn, .long wh, .int fu, .int tl, .int gr, .int sd, .int mt, .long mf])), (pt, .inl (cA, 8, .inl tp)), (pf, .inl (cB, 8, .inr (.inl fr))), (pb, .inl (cC, 129, .inl bi))] H) (hl : lv_has ls 9 [(0, .ref h0), (1, .int x1), (2, .int x2), (3, .int x3), (4, .int x4), (5, .int x5), (6, .long x6), (8, .int x8)]) (K : ∀ (ls : Array Slot), lv_has ls 9 [(0, .ref h0), (1, .int x1), (2, .int x2), (3, .int x3), (4, .int x4), (5, .int ((lp_X1_neighbour_182 n (x5, x6)).1)), (6, .long ((lp_X1_neighbour_182 n (x5, x6)).2)), (8, .int x8)] → W p l e R s m args below meth c H locs cells slots Q (F0 m 209 ls [])) : W p l e R s m args below meth c H locs cells slots Q (F0 m 182 ls []) := lq_X1_neighbour_182 hx hb hml hts hown hK tp fr bi cd ct wt fi mn wh fu tl gr sd mt mf x1 x2 x3 x4 x8 n (x5, x6) hf hP hl K
