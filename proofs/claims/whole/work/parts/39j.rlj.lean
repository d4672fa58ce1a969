/-! neighbour -/
theorem nI_m1 {a : Nat} (h : 1 ≤ a) : nI a + (-1) = nI (a - 1) := by
  have e : nI a - 1 = nI (a - 1) := px_subI (b := 1) h
  rw [← e, Int32.sub_eq_add_neg]
theorem lN_m1 {a : Nat} (h : 1 ≤ a) : lN a - 1 = lN (a - 1) := (Int64.ofNat_sub a 1 h).symm
theorem lp182 {n z s P : Nat} (hs : s ≤ z) (hsP : s < P) (hP : P ≤ 32767) (h2 : n * 2 ^ z < 2 ^ 64) (hst : s + 1 = P ∨ 2 ^ 63 ≤ n * 2 ^ s) : ∀ (k j : Nat), j ≤ s → s < j + k → lp_X1_neighbour_182 k (nI (P - j), lN (n * 2 ^ j)) = (nI (P - s), lN (n * 2 ^ s)) := by
  intro k
  induction k with
  | zero => intro j h3 h4; exact absurd h4 (Nat.not_lt.mpr h3)
  | succ k ih =>
    intro j h3 h4
    show (if (b_X1_neighbour_182 (nI (P - j)) (lN (n * 2 ^ j))).1 = true then lp_X1_neighbour_182 k (b_X1_neighbour_182 (nI (P - j)) (lN (n * 2 ^ j))).2 else (b_X1_neighbour_182 (nI (P - j)) (lN (n * 2 ^ j))).2) = _
    rcases Nat.lt_or_ge j s with c | c
    · have hlt := pl_lt63 (Nat.lt_of_lt_of_le c hs) h2
      have b1 : 1 < P - j := by clear hlt hst h2; omega
      have b2 : P - j < 2 ^ 31 := by clear hlt hst h2; omega
      have b3 : P - j - 1 = P - (j + 1) := by clear hlt hst h2; omega
      have e : b_X1_neighbour_182 (nI (P - j)) (lN (n * 2 ^ j)) = (true, nI (P - (j + 1)), lN (n * 2 ^ (j + 1))) := by
        unfold b_X1_neighbour_182
        rw [if_neg (show ¬ nI (P - j) ≤ 1 from nI_ge (a := 1) b1 b2), if_neg (fun q => absurd hlt (Nat.not_lt.mpr ((m_lt0 (Nat.lt_trans hlt (by decide))).mp q))), m_dbl, pl_dbl, nI_m1 (Nat.le_of_lt b1), b3]
      rw [e, if_pos rfl]
      exact ih (j + 1) c (by clear hlt hst h2 e; omega)
    · have ej : j = s := Nat.le_antisymm h3 c
      subst ej
      have hlt := pl_lt hs h2
      have e : b_X1_neighbour_182 (nI (P - j)) (lN (n * 2 ^ j)) = (false, nI (P - j), lN (n * 2 ^ j)) := by
        unfold b_X1_neighbour_182
        rcases hst with q | q
        · rw [if_pos (show nI (P - j) ≤ 1 from nI_le (b := 1) (by clear hlt h2; omega) (by decide))]
        · by_cases d : nI (P - j) ≤ 1
          · rw [if_pos d]
          · rw [if_neg d, if_pos ((m_lt0 hlt).mpr q)]
      rw [e, if_neg (show ¬ (false, nI (P - j), lN (n * 2 ^ j)).1 = true from Bool.false_ne_true)]
/-- what the reference's loop leaves, against the plain power and fraction -/
def nbQ (pp g Q : Nat) : Prop := (pp = Q ∧ 1 ≤ Q ∧ 2 ^ 63 ≤ g) ∨ (pp = 0 ∧ Q = 1 ∧ 0 < g ∧ g < 2 ^ 63)
theorem nb_lp4 : lp_X1_neighbour_182 65 (nI 32767, (-9223372036854775808)) = (nI 32767, lN (2 ^ 63)) := by
  have q := lp182 (n := 2 ^ 63) (z := 0) (s := 0) (P := 32767) (Nat.le_refl 0) (by decide) (by decide) (by decide) (Or.inr (by decide)) 65 0 (Nat.le_refl 0) (by decide)
  rw [Nat.pow_zero, Nat.mul_one] at q
  exact q
theorem nb_lpC {tp : Nat → Int32} {fr : Nat → Int64} {r : Int32} {pp g n z P : Nat} (C : plC tp fr r pp g n z P) : ∃ Q, Q ≤ 32766 ∧ nbQ pp g Q ∧ lp_X1_neighbour_182 65 (f_X1_powerOf tp r, fr r.toNatClampNeg) = (nI Q, lN g) := by
  obtain ⟨en, eP, hP1, hP2, hz, h1, h2, D⟩ := C
  rw [en, eP]
  have hp := pl_pos h1
  rcases D with ⟨c, q, e⟩ | ⟨c, q, e, hg⟩
  · have l := lp182 (n := n) (z := z) (s := z) (P := P) (Nat.le_refl z) c (by clear h1 h2; omega) h2 (Or.inr h1) 65 0 (Nat.zero_le _) (by clear h1 h2; omega)
    rw [Nat.pow_zero, Nat.mul_one, Nat.sub_zero] at l
    refine ⟨P - z, by clear h1 h2 e l; omega, Or.inl ⟨q, by clear h1 h2 e l; omega, by rw [e]; exact h1⟩, ?_⟩
    rw [l, e]
  · have l := lp182 (n := n) (z := z) (s := P - 1) (P := P) (by clear h1 h2 e; omega) (by clear h1 h2 e; omega) (by clear h1 h2 e; omega) h2 (Or.inl (by clear h1 h2 e; omega)) 65 0 (Nat.zero_le _) (by clear h1 h2 e; omega)
    rw [Nat.pow_zero, Nat.mul_one, Nat.sub_zero, show P - (P - 1) = 1 by clear h1 h2 e l; omega] at l
    refine ⟨1, by decide, Or.inr ⟨q, rfl, by rw [e]; exact hp _, hg⟩, ?_⟩
    rw [l, e]
theorem nb_L {ft : Nat → Int32} {ff : Nat → Int64} {w lt lk lc : Int32} {u : MS} {a3 ng : Int32} {pp g Q : Nat} (hg : g < 2 ^ 64) (hQ : Q ≤ 32767) (H : nbQ pp g Q) : ∃ yy frac, yy < 32768 ∧ f_X0_storeNextLesser ft ff w lt lk lc a3 ng (nI pp) (lN g) = ((upd ft a3.toNatClampNeg ((if ng = 0 then 0 else 32768) ||| nI yy)), (vp_updL ff a3.toNatClampNeg frac), w, lt, lk, lc) ∧ k_X1_neighbour_209 u a3 ng (nI Q) (lN g) 0 = k_X1_neighbour_280 u a3 ng (nI yy) frac := by
  have hg0 : 1 ≤ g := by
    rcases H with ⟨-, -, q⟩ | ⟨-, -, q, -⟩ <;> omega
  unfold f_X0_storeNextLesser k_X1_neighbour_209
  rw [if_pos (show (0 : Int32) = 0 from rfl)]
  by_cases cA : g = 2 ^ 63 ∧ 1 < Q
  · obtain ⟨c1, c2⟩ := cA
    have ep : pp = Q := by
      rcases H with ⟨q, -, -⟩ | ⟨-, q, -⟩ <;> omega
    subst ep
    have hc : (if (lg_cmp (lN g) (-9223372036854775808)) = 0 then (if nI pp ≤ 1 then false else true) else false) = true := by
      rw [if_pos ((px_lh hg).mpr c1), if_neg (show ¬ nI pp ≤ 1 from nI_ge (a := 1) c2 (by omega))]
    rw [if_pos hc, if_pos hc]
    refine ⟨pp - 1, -1, by omega, ?_, ?_⟩
    · rw [show nI pp - 1 = nI (pp - 1) from px_subI (b := 1) (by omega)]
    · unfold k_X1_neighbour_265
      rw [show (0 - 1 : Int64) = -1 by decide, if_pos (show lg_cmp (-1) 0 < 0 by decide), nI_m1 (by omega)]
  · have hc : ∀ x : Nat, x = pp ∨ x = Q → x < 2 ^ 31 → (g = 2 ^ 63 → x ≤ 1) → ¬ (if (lg_cmp (lN g) (-9223372036854775808)) = 0 then (if nI x ≤ 1 then false else true) else false) = true := by
      intro x _ hx2 hx
      by_cases c1 : g = 2 ^ 63
      · rw [if_pos ((px_lh hg).mpr c1), if_pos (show nI x ≤ 1 from nI_le (b := 1) (hx c1) (by decide))]; exact Bool.false_ne_true
      · rw [if_neg (fun q => c1 ((px_lh hg).mp q))]; exact Bool.false_ne_true
    have hpQ : pp ≤ 32767 ∧ (g = 2 ^ 63 → pp ≤ 1) ∧ (g = 2 ^ 63 → Q ≤ 1) := by
      rcases H with ⟨q, -, -⟩ | ⟨q, q2, -⟩ <;> omega
    rw [if_neg (hc pp (Or.inl rfl) (by omega) hpQ.2.1), if_neg (hc Q (Or.inr rfl) (by omega) hpQ.2.2), lN_m1 hg0]
    unfold k_X1_neighbour_265
    by_cases d : 2 ^ 63 ≤ g - 1
    · have ep : pp = Q := by
        rcases H with ⟨q, -, -⟩ | ⟨-, -, -, q⟩ <;> omega
      refine ⟨Q, lN (g - 1), by omega, ?_, ?_⟩
      · rw [if_neg (show ¬ 0 ≤ lg_cmp (lN (g - 1)) 0 from fun q => by have := (px_lge (show g - 1 < 2 ^ 64 by omega)).mp q; omega), ep]
      · rw [if_pos ((m_lt0 (show g - 1 < 2 ^ 64 by omega)).mpr d)]
    · refine ⟨0, lN (g - 1), by omega, ?_, ?_⟩
      · rw [if_pos ((px_lge (show g - 1 < 2 ^ 64 by omega)).mpr (by omega))]; rfl
      · rw [if_neg (fun q => d ((m_lt0 (show g - 1 < 2 ^ 64 by omega)).mp q))]; rfl
theorem nb_G {ft : Nat → Int32} {ff : Nat → Int64} {w lt lk lc : Int32} {u : MS} {a3 ng : Int32} {pp g Q : Nat} (hg : g < 2 ^ 64) (hQ : Q ≤ 32766) (H : nbQ pp g Q) : ∃ yy frac, yy < 32768 ∧ f_X0_storeNextGreater ft ff w lt lk lc a3 ng (nI pp) (lN g) = ((upd ft a3.toNatClampNeg ((if ng = 0 then 0 else 32768) ||| nI yy)), (vp_updL ff a3.toNatClampNeg frac), w, lt, lk, lc) ∧ k_X1_neighbour_209 u a3 ng (nI Q) (lN g) 1 = k_X1_neighbour_280 u a3 ng (nI yy) frac := by
  unfold f_X0_storeNextGreater k_X1_neighbour_209
  rw [if_neg (show ¬ (1 : Int32) = 0 by decide), lN_1]
  by_cases cA : g = 2 ^ 64 - 1
  · have ep : pp = Q := by
      rcases H with ⟨q, -, -⟩ | ⟨-, -, -, q⟩ <;> omega
    rw [if_pos ((m_m1 hg).mpr cA), if_pos (show lg_cmp (lN (g + 1)) 0 = 0 by rw [cA]; decide)]
    refine ⟨Q + 1, (-9223372036854775808), by omega, ?_, ?_⟩
    · rw [nI_1, ep]
    · unfold k_X1_neighbour_265
      rw [if_pos (show lg_cmp (-9223372036854775808) 0 < 0 by decide), nI_1]
  · have hg1 : g + 1 < 2 ^ 64 := by omega
    rw [if_neg (fun q => cA ((m_m1 hg).mp q)), if_neg (show ¬ lg_cmp (lN (g + 1)) 0 = 0 from fun q => by have := (px_l0 hg1).mp q; omega)]
    unfold k_X1_neighbour_265
    have e1 : (if nI pp < 1 then 1 else nI pp) = nI Q := by
      rcases H with ⟨q, q2, -⟩ | ⟨q, q2, -⟩
      · rw [q, if_neg (show ¬ nI Q < 1 from nI_nlt (b := 1) q2 (by omega))]
      · rw [q, q2]; decide
    by_cases d : 2 ^ 63 ≤ g + 1
    · refine ⟨Q, lN (g + 1), by omega, ?_, ?_⟩
      · rw [e1, if_neg (show ¬ 0 ≤ lg_cmp (lN (g + 1)) 0 from fun q => by have := (px_lge hg1).mp q; omega)]
      · rw [if_pos ((m_lt0 hg1).mpr d)]
    · refine ⟨0, lN (g + 1), by omega, ?_, ?_⟩
      · rw [if_pos ((px_lge hg1).mpr (by omega))]; rfl
      · rw [if_neg (fun q => d ((m_lt0 hg1).mp q))]; rfl
theorem nb_tok {ng : Int32} {yy : Nat} (hy : yy < 32768) : 0 ≤ ((if ng = 0 then 0 else 32768) + nI yy : Int32).toInt ∧ ((if ng = 0 then 0 else 32768) + nI yy : Int32).toInt < 65536 := by
  by_cases c : ng = 0
  · rw [if_pos c, show (0 : Int32) + nI yy = nI (0 + yy) from nI_add 0 yy]; exact e_vI (by omega)
  · rw [if_neg c, show (32768 : Int32) + nI yy = nI (32768 + yy) from nI_add 32768 yy]; exact e_vI (by omega)
