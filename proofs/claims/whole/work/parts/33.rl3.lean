/-! what a rounding needs to know of X in units of U is the same -/
def agree (X U Y W : Nat) : Prop := X / U = Y / W ∧ (X % U = 0 ↔ Y % W = 0) ∧ (2 * (X % U) = U ↔ 2 * (Y % W) = W) ∧ (U ≤ 2 * (X % U) ↔ W ≤ 2 * (Y % W))
theorem agree_up {X U Y W r : Nat} {ng : Bool} (h : agree X U Y W) : q_up r ng X U = q_up r ng Y W := by
  obtain ⟨h1, h2, h3, h4⟩ := h
  unfold q_up
  rw [h1]
  by_cases c : X % U = 0
  · rw [if_pos c, if_pos (h2.mp c)]
  · rw [if_neg c, if_neg (fun q => c (h2.mpr q))]
    by_cases cr : r = 0
    · rw [if_pos cr, if_pos cr]
      by_cases c3 : 2 * (X % U) = U
      · rw [if_pos c3, if_pos (h3.mp c3)]
      · rw [if_neg c3, if_neg (fun q => c3 (h3.mpr q))]
        by_cases c4 : U ≤ 2 * (X % U)
        · rw [decide_eq_true c4, decide_eq_true (h4.mp c4)]
        · rw [decide_eq_false c4, decide_eq_false (fun q => c4 (h4.mpr q))]
    · rw [if_neg cr, if_neg cr]
theorem agree_mul {V U P : Nat} (hP : 0 < P) (hU : 0 < U) : agree (V * P) (U * P) V U := by
  unfold agree
  rw [Nat.mul_div_mul_right _ _ hP, Nat.mul_mod_mul_right]
  generalize V % U = a
  refine ⟨rfl, ?_, ?_, ?_⟩
  · rw [Nat.mul_eq_zero]; omega
  · rw [← Nat.mul_assoc]; exact ⟨fun h => Nat.eq_of_mul_eq_mul_right hP h, fun h => by rw [h]⟩
  · rw [← Nat.mul_assoc]; exact ⟨fun h => Nat.le_of_mul_le_mul_right h hP, fun h => Nat.mul_le_mul_right _ h⟩
theorem agree_one {X P : Nat} (hP : 0 < P) : agree (X * P) P X 1 := by
  unfold agree
  rw [Nat.mul_div_cancel _ hP, Nat.mul_mod_left, Nat.div_one, Nat.mod_one]
  exact ⟨rfl, Iff.rfl, ⟨fun h => by omega, fun h => by omega⟩, ⟨fun h => by omega, fun h => by omega⟩⟩
theorem agree_f {V f X U : Nat} {D : Int} {E : Nat} (hXU : (X, U) = q_of V D) (hE : (E : Int) = D + f - 1) (hf : 1 ≤ f) : agree (V * 2 ^ (f - 1)) (2 ^ E) X U := by
  obtain ⟨hX, hU⟩ := Prod.mk.inj hXU
  rcases Int.lt_or_le D 0 with h | h
  · rw [hU, show D.toNat = 0 by omega, Nat.pow_zero]
    have e : V * 2 ^ (f - 1) = X * 2 ^ E := by
      rw [hX, Nat.mul_assoc, ← Nat.pow_add]; congr 2; omega
    rw [e]; exact agree_one (Nat.two_pow_pos _)
  · rw [hX, hU, show (-D).toNat = 0 by omega, Nat.pow_zero, Nat.mul_one]
    have e : 2 ^ E = 2 ^ D.toNat * 2 ^ (f - 1) := by rw [← Nat.pow_add]; congr 1; omega
    rw [e]; exact agree_mul (Nat.two_pow_pos _) (Nat.two_pow_pos _)
theorem agree_0 {V X U : Nat} {D : Int} {m : Nat} (hXU : (X, U) = q_of V D) (hD : D = m + 3) : agree (V / 2 ||| V % 2) (2 ^ (m + 2)) X U := by
  obtain ⟨hX, hU⟩ := Prod.mk.inj hXU
  rw [hX, hU, show (-D).toNat = 0 by omega, Nat.pow_zero, Nat.mul_one, show D.toNat = m + 3 by omega]
  have e1 : 2 ^ (m + 2) = 4 * 2 ^ m := by rw [Nat.pow_add]; omega
  have e2 : 2 ^ (m + 3) = 8 * 2 ^ m := by rw [Nat.pow_add]; omega
  rw [e1, e2]
  have hp : 0 < 2 ^ m := Nat.two_pow_pos m
  generalize 2 ^ m = p at *
  have g1 := Nat.div_add_mod (V / 2) (4 * p)
  have g2 := Nat.mod_lt (V / 2) (show 0 < 4 * p by omega)
  generalize ha : V / 2 / (4 * p) = a at *
  generalize hg : V / 2 % (4 * p) = g at *
  have hV : V = 8 * p * a + (2 * g + V % 2) := by
    have : 8 * p * a = 2 * (4 * p * a) := by rw [← Nat.mul_assoc, ← Nat.mul_assoc]
    omega
  have l2 : V % 2 < 2 := Nat.mod_lt _ (by decide)
  have d1 : V / (8 * p) = a := by
    rw [hV, Nat.mul_add_div (by omega), Nat.div_eq_of_lt (by omega), Nat.add_zero]
  have d2 : V % (8 * p) = 2 * g + V % 2 := by
    rw [hV, Nat.mul_add_mod, Nat.mod_eq_of_lt (by omega), ← hV]
  rcases (show V % 2 = 0 ∨ V % 2 = 1 by omega) with l | l
  · rw [l, Nat.or_zero]
    unfold agree
    rw [d1, d2, ha, hg, l]
    exact ⟨rfl, by omega, by omega, by omega⟩
  · rw [l]
    obtain ⟨o1, o2⟩ := px_or1 (a := V / 2)
    have geq : V / 2 % 2 = g % 2 := by
      rw [← g1, show 4 * p * a = 2 * (2 * p * a) by rw [← Nat.mul_assoc, ← Nat.mul_assoc]]; omega
    obtain ⟨y, hy, hyl, hyy⟩ : ∃ y, V / 2 ||| 1 = 4 * p * a + y ∧ y < 4 * p ∧ ((y = g ∧ g % 2 = 1) ∨ (y = g + 1 ∧ g % 2 = 0)) := by
      rcases o1 with o | o
      · exact ⟨g, by omega, by omega, Or.inl ⟨rfl, by omega⟩⟩
      · exact ⟨g + 1, by omega, by omega, Or.inr ⟨rfl, by omega⟩⟩
    unfold agree
    rw [hy, Nat.mul_add_div (by omega), Nat.div_eq_of_lt hyl, Nat.add_zero, Nat.mul_add_mod, Nat.mod_eq_of_lt hyl, d1, d2, l]
    exact ⟨rfl, by omega, by omega, by omega⟩
/-! the class's rounding of a head and a tail -/
theorem cl_all {v H T d : Nat} {ng : Int32} (hv : v < 65536) (hH : H < 2 ^ 64) (h0 : 0 < H) (hT : T < 2 ^ 64) (hd : d < 2 ^ 31) :
    ∃ L, f_X0_lostPart (lN H) (lN T) (nI d) = L ∧ (lg_cmp L 0 = 0 ↔ (H * 2 ^ 64 + T) % 2 ^ (64 + d) = 0) ∧ f_X0_wholePart (lN H) (nI d) = lN ((H * 2 ^ 64 + T) / 2 ^ (64 + d)) ∧
      f_X0_takesAbove (nI v) (lN ((H * 2 ^ 64 + T) / 2 ^ (64 + d))) L ng = (if q_up (v / 1024 % 4) (decide (ng ≠ 0)) (H * 2 ^ 64 + T) (2 ^ (64 + d)) then 1 else 0) ∧ (H * 2 ^ 64 + T) / 2 ^ (64 + d) < 2 ^ 64 := by
  obtain ⟨L, hL, e, l0, l1, l2⟩ := px_lost hH h0 hT hd
  have hdiv : (H * 2 ^ 64 + T) / 2 ^ (64 + d) = H / 2 ^ d := by
    rw [Nat.pow_add, ← Nat.div_div_eq_div_mul, show (H * 2 ^ 64 + T) / 2 ^ 64 = H by omega]
  have hw : H / 2 ^ d < 2 ^ 64 := Nat.lt_of_le_of_lt (Nat.div_le_self _ _) hH
  refine ⟨lN L, e, ?_, ?_, ?_, ?_⟩
  · rw [px_l0 hL]; exact l0
  · rw [px_whole hH hd, hdiv]
  · have e2 : 2 ^ (64 + d) = 2 * 2 ^ (63 + d) := by rw [← Nat.pow_succ']; congr 1; omega
    refine px_above hv hL (by rw [hdiv]; exact hw) l0 ?_ ?_ rfl
    · rw [l1, e2]; omega
    · rw [l2, e2]; omega
  · rw [hdiv]; exact hw
theorem cl_change {L : Int64} {z : Prop} [Decidable z] {B : Bool} (h : lg_cmp L 0 = 0 ↔ z) : f_X0_changeOf L (if B then 1 else 0) = (if z then 0 else if B then 1 else (-1)) := by
  unfold f_X0_changeOf
  by_cases c : z
  · rw [if_pos (h.mpr c), if_pos c]
  · rw [if_neg (fun q => c (h.mp q)), if_neg c]
    cases B <;> rfl
theorem cl_frac {W u : Nat} {B : Bool} (hu : u < 64) : (if ((if B then 1 else 0) : Int32) = 0 then lN W else lN W + 1) <<< (Int32.toInt64 (nI u) &&& 63) = lN ((W + (if B then 1 else 0)) * 2 ^ u) := by
  cases B
  · rw [if_pos (show ((if false = true then 1 else 0) : Int32) = 0 by decide), wb_shl _ hu]; rfl
  · rw [if_neg (show ¬ ((if true = true then 1 else 0) : Int32) = 0 by decide), lN_1, wb_shl _ hu]; rfl
theorem lp170 : ∀ (k n a : Nat), n ≤ 64 → 65 ≤ n + k → (lp_X1_make0_170 k (lN a, nI n)).1 = lN (a * 2 ^ (64 - n)) := by
  intro k
  induction k with
  | zero => intro n a h1 h2; omega
  | succ k ih =>
    intro n a h1 h2
    show (if (b_X1_make0_170 (lN a) (nI n)).1 = true then lp_X1_make0_170 k (b_X1_make0_170 (lN a) (nI n)).2 else (b_X1_make0_170 (lN a) (nI n)).2).1 = _
    unfold b_X1_make0_170
    by_cases c : 64 ≤ n
    · rw [if_pos (show (64 : Int32) ≤ nI n from nI_le (a := 64) c (by omega)), if_neg (show ¬ (false, lN a, nI n).1 = true from Bool.false_ne_true), show 64 - n = 0 by omega, Nat.pow_zero, Nat.mul_one]
    · rw [if_neg (show ¬ (64 : Int32) ≤ nI n from nI_ge (b := 64) (by omega) (by decide)), if_pos rfl, nI_1, m_dbl]
      rw [show (lp_X1_make0_170 k (true, lN (2 * a), nI (n + 1)).2).1 = lN (2 * a * 2 ^ (64 - (n + 1))) from ih (n + 1) (2 * a) (by omega) (by omega)]
      congr 1
      rw [show 64 - n = (64 - (n + 1)) + 1 by omega, Nat.pow_succ', ← Nat.mul_assoc, Nat.mul_comm a 2]
theorem lp301_1 {y : Int32} (hy : ¬ y = 0) (x : Int64) (n : Nat) : (lp_X1_make0_301 y 65 (x, nI n)).1 = x := by
  show (if (b_X1_make0_301 y x (nI n)).1 = true then lp_X1_make0_301 y 64 (b_X1_make0_301 y x (nI n)).2 else (b_X1_make0_301 y x (nI n)).2).1 = x
  unfold b_X1_make0_301
  by_cases c : (64 : Int32) ≤ nI n
  · rw [if_pos c, if_neg (show ¬ (false, x, nI n).1 = true from Bool.false_ne_true)]
  · rw [if_neg c, if_neg hy, if_neg (show ¬ (false, x, nI n).1 = true from Bool.false_ne_true)]
theorem lp301_0 : ∀ (k n a : Nat), n ≤ 64 → 65 ≤ n + k → (lp_X1_make0_301 0 k (lN a, nI n)).1 = lN (a * 2 ^ (64 - n)) := by
  intro k
  induction k with
  | zero => intro n a h1 h2; omega
  | succ k ih =>
    intro n a h1 h2
    show (if (b_X1_make0_301 0 (lN a) (nI n)).1 = true then lp_X1_make0_301 0 k (b_X1_make0_301 0 (lN a) (nI n)).2 else (b_X1_make0_301 0 (lN a) (nI n)).2).1 = _
    unfold b_X1_make0_301
    by_cases c : 64 ≤ n
    · rw [if_pos (show (64 : Int32) ≤ nI n from nI_le (a := 64) c (by omega)), if_neg (show ¬ (false, lN a, nI n).1 = true from Bool.false_ne_true), show 64 - n = 0 by omega, Nat.pow_zero, Nat.mul_one]
    · rw [if_neg (show ¬ (64 : Int32) ≤ nI n from nI_ge (b := 64) (by omega) (by decide)), if_pos rfl, if_pos rfl, nI_1, m_dbl]
      rw [show (lp_X1_make0_301 0 k (true, lN (2 * a), nI (n + 1)).2).1 = lN (2 * a * 2 ^ (64 - (n + 1))) from ih (n + 1) (2 * a) (by omega) (by omega)]
      congr 1
      rw [show 64 - n = (64 - (n + 1)) + 1 by omega, Nat.pow_succ', ← Nat.mul_assoc, Nat.mul_comm a 2]
theorem lp507 {x1 : Int32} (h : x1 = 24 ∨ x1 = 53 ∨ x1 = 64) : (lp_X1_make0_507 x1 65 (0, 0)).1 = (-1) <<< (Int32.toInt64 (64 - x1) &&& 63) := by
  rcases h with rfl | rfl | rfl <;> decide +kernel
theorem e_orp {c : Prop} [Decidable c] {p : Nat} (hp : p < 32768) : (if c then 0 else 32768) ||| nI p = ((if c then 0 else 32768) + nI p : Int32) := by
  split
  · rw [show (0 : Int32) = nI 0 from rfl, nI_add, Nat.zero_add]
    apply Int32.toBitVec_inj.mp
    rw [Int32.toBitVec_or]
    show (0#32 ||| _) = _
    rw [BitVec.zero_or]
  · rw [show (32768 : Int32) = nI 32768 from rfl, nI_add]
    apply Int32.toBitVec_inj.mp
    rw [Int32.toBitVec_or]
    show BitVec.ofNat 32 32768 ||| BitVec.ofNat 32 p = BitVec.ofNat 32 (32768 + p)
    apply BitVec.eq_of_toNat_eq
    rw [BitVec.toNat_or, BitVec.toNat_ofNat, BitVec.toNat_ofNat, BitVec.toNat_ofNat, Nat.mod_eq_of_lt (show p < 2 ^ 32 by omega), Nat.mod_eq_of_lt (show 32768 + p < 2 ^ 32 by omega)]
    have := Nat.two_pow_add_eq_or_of_lt (i := 15) (show p < 2 ^ 15 by omega) 1
    rw [show (32768 : Nat) % 2 ^ 32 = 2 ^ 15 * 1 by decide, ← this]
