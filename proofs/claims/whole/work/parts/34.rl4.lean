theorem e_dg (v : Nat) : q_dg v = 24 ∨ q_dg v = 53 ∨ q_dg v = 64 := by
  unfold q_dg
  split
  · exact Or.inl rfl
  · split
    · exact Or.inr (Or.inl rfl)
    · exact Or.inr (Or.inr rfl)
theorem e_dgM {v : Nat} (hv : v < 65536) : (if ((nI v >>> (8 &&& 31)) &&& 3) = 0 then 24 else (if ((nI v >>> (8 &&& 31)) &&& 3) = 2 then 53 else 64) : Int32) = nI (q_dg v) := by
  have := px_digits hv
  unfold f_X0_digits at this
  exact this
theorem core_ag {V f H T X U d : Nat} {c : Int} (hX : (1 ≤ f ∧ H * 2 ^ 64 + T = V * 2 ^ (f - 1)) ∨ (f = 0 ∧ H * 2 ^ 64 + T = (V / 2 ||| V % 2))) (hXU : (X, U) = q_of V (128 - c)) (hd : (64 + d : Int) = 128 - c + f - 1) : agree (H * 2 ^ 64 + T) (2 ^ (64 + d)) X U := by
  rcases hX with ⟨h1, e⟩ | ⟨h1, e⟩
  · rw [e]; exact agree_f hXU (by omega) h1
  · rw [e, show 64 + d = (62 + d) + 2 by omega]; exact agree_0 hXU (by omega)
theorem core_k {wt : Int32} {f : Nat} (hw : m_wok wt) (hf : f < 129) : (wt - nI f).toInt = wt.toInt - f := by
  have eF : (nI f).toInt = f := nI_toInt (by omega)
  have w1 := hw.1
  have w2 := hw.2
  rw [m_sub (by omega) (by omega), eF]
theorem core_q {n : Nat} (hn : n ≤ 64) : ((-16381) - nI n).toInt = -16381 - n := by
  have eN : (nI n).toInt = n := nI_toInt (by omega)
  have m1 : (-16381 : Int32).toInt = -16381 := rfl
  rw [m_sub (by rw [m1]; omega) (by omega), m1, eN]
theorem core_d {wt : Int32} {f n : Nat} (hw : m_wok wt) (hf : f < 129) (hn : n ≤ 64) (hs : wt.toInt - f < -16382) : ∃ d : Nat, (d : Int) = (-16382 - (wt.toInt - f)) + (64 - n) ∧ ((-16382) - (wt - nI f)) + nI (64 - n) = nI d ∧ d < 2 ^ 31 := by
  have w1 := hw.1
  have w2 := hw.2
  have kI := core_k hw hf
  have m2 : (-16382 : Int32).toInt = -16382 := rfl
  refine ⟨((-16382 - (wt.toInt - f)) + (64 - n)).toNat, by omega, ?_, by omega⟩
  apply Int32.toInt_inj.mp
  have a1 : ((-16382) - (wt - nI f)).toInt = -16382 - (wt.toInt - f) := by rw [m_sub (by rw [m2]; omega) (by omega), m2, kI]
  have a2 : (nI (64 - n)).toInt = ((64 - n : Nat) : Int) := nI_toInt (by omega)
  have a3 : (nI ((-16382 - (wt.toInt - f)) + (64 - n)).toNat).toInt = (((-16382 - (wt.toInt - f)) + (64 - n)).toNat : Int) := nI_toInt (by omega)
  rw [m_add (by omega) (by omega), a1, a2, a3]
  omega
theorem core_rok {wt : Int32} {f n : Nat} (hw : m_wok wt) (hf : f < 129) (hn : n ≤ 64) (hs : wt.toInt - f < -16382) : m_rok (nI f) wt ((-16381) - nI n) := by
  have w1 := hw.1
  have w2 := hw.2
  have eF : (nI f).toInt = f := nI_toInt (by omega)
  have qI := core_q hn
  unfold m_rok
  rw [qI, eF]
  omega
