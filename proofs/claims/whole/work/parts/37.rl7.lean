theorem cb_a {k : Int32} (h : -40000 ≤ k.toInt ∧ k.toInt ≤ 40000) : (k + 16383).toInt = k.toInt + 16383 ∧ (k + (-24576)) + 16383 = (k + 16383) - 24576 ∧ ((k + 16383) - 24576).toInt = k.toInt - 8193 ∧ (k + 24576) + 16383 = (k + 16383) + 24576 ∧ ((k + 16383) + 24576).toInt = k.toInt + 40959 := by
  have e1 : (16383 : Int32).toInt = 16383 := rfl
  have e2 : (24576 : Int32).toInt = 24576 := rfl
  have e3 : (-24576 : Int32).toInt = -24576 := rfl
  have a1 : (k + 16383).toInt = k.toInt + 16383 := by rw [m_add (by omega) (by rw [e1]; omega), e1]
  have a2 : ((k + 16383) - 24576).toInt = k.toInt - 8193 := by rw [m_sub (by omega) (by rw [e2]; omega), a1, e2]; omega
  have a3 : ((k + 16383) + 24576).toInt = k.toInt + 40959 := by rw [m_add (by omega) (by rw [e2]; omega), a1, e2]; omega
  have b1 : (k + (-24576)).toInt = k.toInt - 24576 := by rw [m_add (by omega) (by rw [e3]; omega), e3]; omega
  have b2 : ((k + (-24576)) + 16383).toInt = k.toInt - 8193 := by rw [m_add (by omega) (by rw [e1]; omega), b1, e1]; omega
  have b3 : (k + 24576).toInt = k.toInt + 24576 := by rw [m_add (by omega) (by rw [e2]; omega), e2]
  have b4 : ((k + 24576) + 16383).toInt = k.toInt + 40959 := by rw [m_add (by omega) (by rw [e1]; omega), b3, e1]; omega
  exact ⟨a1, Int32.toInt_inj.mp (b2.trans a2.symm), a2, Int32.toInt_inj.mp (b4.trans a3.symm), a3⟩
theorem cb_top {c : Prop} [Decidable c] {x : Int32} (h0 : 0 ≤ x.toInt) (h1 : x.toInt < 32768) : (if c then 0 else 32768) ||| x = ((if c then 0 else 32768) + x : Int32) ∧ 0 ≤ ((if c then 0 else 32768) + x : Int32).toInt ∧ ((if c then 0 else 32768) + x : Int32).toInt < 65536 := by
  obtain ⟨p, hp, rfl⟩ := m_toI (N := 32767) h0 (by omega) (by decide)
  refine ⟨e_orp (by omega), ?_⟩
  split
  · rw [show (0 : Int32) = nI 0 from rfl, nI_add, nI_toInt (by omega)]; omega
  · rw [show (32768 : Int32) = nI 32768 from rfl, nI_add, nI_toInt (by omega)]; omega
theorem cb_away {v : Nat} (hv : v < 65536) (mn : Int32) : (if f_X0_rounding (nI v) = 0 then true else (if f_X0_goesAway (nI v) mn = 0 then false else true)) = true ↔ ¬ ((if ((nI v >>> (10 &&& 31)) &&& 3) = 0 then 1 else (if ((nI v >>> (10 &&& 31)) &&& 3) = (if mn = 0 then 2 else 1) then 1 else 0)) : Int32) = 0 := by
  rw [px_goes hv, px_rounding hv, show nI v >>> ((10 : Int32) &&& 31) = nI (v / 1024) from px_sshr (j := 10) hv (by decide), px_and3]
  have h4 : v / 1024 % 4 < 4 := Nat.mod_lt _ (by decide)
  generalize v / 1024 % 4 = y at *
  by_cases hm : mn = 0
  · subst hm
    rcases (show y = 0 ∨ y = 1 ∨ y = 2 ∨ y = 3 by omega) with rfl | rfl | rfl | rfl <;> decide
  · simp only [if_neg hm, ne_eq, hm, not_false_eq_true, decide_true]
    rcases (show y = 0 ∨ y = 1 ∨ y = 2 ∨ y = 3 by omega) with rfl | rfl | rfl | rfl <;> decide
