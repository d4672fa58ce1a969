theorem px_shiftIn {a b z : Nat} (ha : a < 2 ^ 64) (hb : b < 2 ^ 64) (hz : z ≤ 64) : f_X0_shiftIn (lN a) (lN b) (nI z) = lN ((a * 2 ^ z) % 2 ^ 64 + b / 2 ^ (64 - z)) := by
  unfold f_X0_shiftIn
  rcases Nat.eq_zero_or_pos z with rfl | h0
  · rw [if_neg (by decide)]
    have e : (a * 2 ^ 0) % 2 ^ 64 + b / 2 ^ (64 - 0) = a := by rw [Nat.pow_zero, Nat.mul_one, Nat.mod_eq_of_lt ha, Nat.div_eq_of_lt hb, Nat.add_zero]
    rw [e]
  · rw [if_pos (show (0 : Int32) < nI z from nI_lt (a := 0) h0 (by omega))]
    rcases Nat.lt_or_ge z 64 with h | h
    · rw [if_pos (show nI z < 64 from nI_lt (b := 64) h (by decide)), wb_shl a h, show (64 : Int32) - nI z = nI (64 - z) from px_subI (a := 64) (by omega), wb_shr hb (by omega), wb_mod (a * 2 ^ z), wb_or (Nat.mod_lt _ (by decide)) (Nat.lt_of_le_of_lt (Nat.div_le_self _ _) hb), px_mm hz]
      congr 1
      exact (Nat.two_pow_add_eq_or_of_lt (i := z) (px_dl hb hz) _).symm
    · obtain rfl : z = 64 := by omega
      rw [if_neg (show ¬ nI 64 < 64 by decide)]
      have e : (a * 2 ^ 64) % 2 ^ 64 + b / 2 ^ (64 - 64) = b := by rw [Nat.mul_mod_left, Nat.zero_add, Nat.sub_self, Nat.pow_zero, Nat.div_one]
      rw [e]
theorem px_whole {h d : Nat} (hh : h < 2 ^ 64) (hd : d < 2 ^ 31) : f_X0_wholePart (lN h) (nI d) = lN (h / 2 ^ d) := by
  unfold f_X0_wholePart
  rcases Nat.lt_or_ge d 64 with c | c
  · rw [if_pos (show nI d < 64 from nI_lt (b := 64) c (by decide)), wb_shr hh c]
  · rw [if_neg (show ¬ nI d < 64 from nI_nlt (b := 64) c hd), Nat.div_eq_of_lt (Nat.lt_of_lt_of_le hh (Nat.pow_le_pow_right (by decide) c))]
    rfl
theorem px_lost {h t d : Nat} (hh : h < 2 ^ 64) (h63 : 0 < h) (ht : t < 2 ^ 64) (hd : d < 2 ^ 31) : ∃ L, L < 2 ^ 64 ∧ f_X0_lostPart (lN h) (lN t) (nI d) = lN L ∧ (L = 0 ↔ (h * 2 ^ 64 + t) % 2 ^ (64 + d) = 0) ∧ (L = 2 ^ 63 ↔ (h * 2 ^ 64 + t) % 2 ^ (64 + d) = 2 ^ (63 + d)) ∧ (2 ^ 63 ≤ L ↔ 2 ^ (63 + d) ≤ (h * 2 ^ 64 + t) % 2 ^ (64 + d)) := by
  unfold f_X0_lostPart
  rcases Nat.eq_zero_or_pos d with rfl | h0
  · rw [if_neg (by decide)]
    refine ⟨t, ht, rfl, ?_⟩
    rw [px_rem ht, Nat.pow_zero, Nat.mod_one, Nat.mul_zero, Nat.zero_add]
    exact ⟨Iff.rfl, Iff.rfl, Iff.rfl⟩
  · rw [if_pos (show (0 : Int32) < nI d from nI_lt (a := 0) h0 hd)]
    rcases Nat.lt_or_ge 64 d with c | c
    · rw [if_neg (show ¬ nI d ≤ 64 from nI_ge (a := 64) c hd)]
      refine ⟨1, by decide, rfl, ?_⟩
      have hX : h * 2 ^ 64 + t < 2 ^ 128 := by
        calc h * 2 ^ 64 + t < h * 2 ^ 64 + 2 ^ 64 := by omega
          _ = (h + 1) * 2 ^ 64 := by rw [Nat.add_mul, Nat.one_mul]
          _ ≤ 2 ^ 64 * 2 ^ 64 := Nat.mul_le_mul_right _ hh
          _ = 2 ^ 128 := by decide
      have hU : 2 ^ 128 ≤ 2 ^ (63 + d) := Nat.pow_le_pow_right (by decide) (by omega)
      have hV : 2 ^ (63 + d) ≤ 2 ^ (64 + d) := Nat.pow_le_pow_right (by decide) (by omega)
      rw [Nat.mod_eq_of_lt (by omega)]
      have h1 : 0 < h * 2 ^ 64 := Nat.mul_pos h63 (by decide)
      refine ⟨⟨fun e => absurd e (by decide), fun e => by omega⟩, ⟨fun e => absurd e (by decide), fun e => by omega⟩, ⟨fun e => absurd e (by decide), fun e => by omega⟩⟩
    · rw [if_pos (show nI d ≤ 64 from nI_le (b := 64) c (by decide)), show (64 : Int32) - nI d = nI (64 - d) from px_subI (a := 64) (by omega), wb_shl h (by omega), wb_mod (h * 2 ^ (64 - d)), px_mm (by omega : 64 - d ≤ 64), show 64 - (64 - d) = d by omega, px_rem ht]
      have e1 : 2 ^ d = 2 * 2 ^ (d - 1) := by rw [← Nat.pow_succ']; congr 1; omega
      have e2 : 2 ^ (64 - d) * 2 ^ (d - 1) = 2 ^ 63 := by rw [← Nat.pow_add]; congr 1; omega
      have e3 : 2 ^ (63 + d) = 2 ^ 64 * 2 ^ (d - 1) := by rw [← Nat.pow_add]; congr 1; omega
      have hq : 0 < 2 ^ (64 - d) := Nat.two_pow_pos _
      rw [e3]
      have hr : h % 2 ^ d < 2 * 2 ^ (d - 1) := by rw [← e1]; exact Nat.mod_lt _ (Nat.two_pow_pos d)
      generalize h % 2 ^ d = r at *
      generalize 2 ^ (d - 1) = q at *
      generalize 2 ^ (64 - d) = g at *
      have hle : ∀ x y : Nat, g * x ≤ g * y ↔ x ≤ y := fun x y => Nat.mul_le_mul_left_iff hq
      have h5 := hle q r
      have h6 := hle r q
      have hlt : g * r < 2 ^ 64 := by
        have h7 : g * r < g * (2 * q) := Nat.mul_lt_mul_of_pos_left hr hq
        have h8 : g * (2 * q) = 2 * (g * q) := by rw [Nat.mul_left_comm]
        omega
      have hz : g * r = 0 ↔ r = 0 := by
        rw [Nat.mul_eq_zero]; omega
      by_cases ct : t = 0
      · subst ct
        rw [if_pos (by rw [lg_cmp_eq]; rfl)]
        refine ⟨g * r, hlt, rfl, ?_, ?_, ?_⟩
        · omega
        · rw [← e2]; omega
        · rw [← e2]; omega
      · rw [if_neg (fun q9 => ct (by
          rw [lg_cmp_eq] at q9
          have := congrArg (fun x : Int64 => x.toBitVec.toNat) q9
          exact (wb_tn ht).symm.trans this))]
        have ho := px_or1 (a := g * r)
        refine ⟨g * r ||| 1, Nat.or_lt_two_pow hlt (by decide), wb_or hlt (by decide), ?_⟩
        generalize g * r ||| 1 = M at *
        obtain ⟨ho1, ho2⟩ := ho
        generalize g * r = y at *
        generalize g * q = z at *
        omega
def q_up (r : Nat) (ng : Bool) (X U : Nat) : Bool :=
  if X % U = 0 then false
  else if r = 0 then (if 2 * (X % U) = U then decide (X / U % 2 = 1) else decide (U ≤ 2 * (X % U)))
  else (decide (r = 1) && ng) || (decide (r = 2) && !ng)
theorem px_rounding {v : Nat} (hv : v < 65536) : f_X0_rounding (nI v) = nI (v / 1024 % 4) := by
  unfold f_X0_rounding
  rw [show nI v >>> ((10 : Int32) &&& 31) = nI (v / 1024) from px_sshr (j := 10) hv (by decide), px_and3]
/-- the digits that the control asks for -/
def q_dg (v : Nat) : Nat := if v / 256 % 4 = 0 then 24 else if v / 256 % 4 = 2 then 53 else 64
theorem px_digits {v : Nat} (hv : v < 65536) : f_X0_digits (nI v) = nI (q_dg v) := by
  unfold f_X0_digits q_dg
  rw [show nI v >>> ((8 : Int32) &&& 31) = nI (v / 256) from px_sshr (j := 8) hv (by decide), px_and3]
  have h4 : v / 256 % 4 < 4 := Nat.mod_lt _ (by decide)
  generalize v / 256 % 4 = y at *
  rcases (show y = 0 ∨ y = 1 ∨ y = 2 ∨ y = 3 by omega) with rfl | rfl | rfl | rfl <;> decide
theorem px_goes {v : Nat} (hv : v < 65536) (a : Int32) : f_X0_goesAway (nI v) a = if (decide (v / 1024 % 4 = 1) && decide (a ≠ 0)) || (decide (v / 1024 % 4 = 2) && !decide (a ≠ 0)) then 1 else 0 := by
  unfold f_X0_goesAway
  rw [px_rounding hv]
  have h4 : v / 1024 % 4 < 4 := Nat.mod_lt _ (by decide)
  generalize v / 1024 % 4 = y at *
  by_cases ha : a = 0
  · subst ha
    rcases (show y = 0 ∨ y = 1 ∨ y = 2 ∨ y = 3 by omega) with rfl | rfl | rfl | rfl <;> decide
  · simp only [if_neg ha, ne_eq, ha, not_false_eq_true, decide_true]
    rcases (show y = 0 ∨ y = 1 ∨ y = 2 ∨ y = 3 by omega) with rfl | rfl | rfl | rfl <;> decide
theorem px_above {v whole L X U : Nat} {ng : Int32} (hv : v < 65536) (hL : L < 2 ^ 64) (hw : whole < 2 ^ 64) (h0 : L = 0 ↔ X % U = 0) (h1 : L = 2 ^ 63 ↔ 2 * (X % U) = U) (h2 : 2 ^ 63 ≤ L ↔ U ≤ 2 * (X % U)) (h3 : whole % 2 = X / U % 2) :
    f_X0_takesAbove (nI v) (lN whole) (lN L) ng = if q_up (v / 1024 % 4) (decide (ng ≠ 0)) X U then 1 else 0 := by
  unfold f_X0_takesAbove q_up
  rw [px_rounding hv]
  by_cases c0 : X % U = 0
  · rw [if_pos ((px_l0 hL).mpr (h0.mpr c0)), if_pos c0]; rfl
  · rw [if_neg (fun h => c0 (h0.mp ((px_l0 hL).mp h))), if_neg c0]
    by_cases cr : v / 1024 % 4 = 0
    · rw [cr, if_pos (show nI 0 = 0 from rfl), if_pos rfl]
      by_cases c1 : 2 * (X % U) = U
      · rw [if_pos ((px_lh hL).mpr (h1.mpr c1)), if_pos c1, wb_a1 hw, h3]
        rcases (show X / U % 2 = 0 ∨ X / U % 2 = 1 by omega) with e | e <;> rw [e] <;> rfl
      · rw [if_neg (fun h => c1 (h1.mp ((px_lh hL).mp h))), if_neg c1]
        by_cases c2 : U ≤ 2 * (X % U)
        · rw [if_neg (fun h => by have := (px_lge hL).mp h; have := h2.mpr c2; omega)]
          simp [c2]
        · rw [if_pos ((px_lge hL).mpr (by have := mt h2.mp c2; omega))]
          simp [c2]
    · rw [if_neg (show ¬ nI (v / 1024 % 4) = 0 from nI_ne0 (by omega) (by omega)), if_neg cr, px_goes hv]
