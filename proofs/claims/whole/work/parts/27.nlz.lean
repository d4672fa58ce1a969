theorem px_ush {n j : Nat} (hn : n < 2 ^ 32) (hj : j < 32) : ((nI n).toUInt32 >>> ((nI j).toUInt32 &&& Int32.toUInt32 31)).toInt32 = nI (n / 2 ^ j) := by
  have h1 : ((nI j).toUInt32 &&& Int32.toUInt32 31).toNat % 32 = j := nx_cnt ⟨j, hj⟩
  have h2 : (nI n).toUInt32.toNat = n := by
    show (BitVec.ofNat 32 n).toNat = n
    rw [BitVec.toNat_ofNat, Nat.mod_eq_of_lt hn]
  apply Int32.toBitVec_inj.mp
  apply BitVec.eq_of_toNat_eq
  show ((nI n).toUInt32 >>> ((nI j).toUInt32 &&& Int32.toUInt32 31)).toNat = (BitVec.ofNat 32 _).toNat
  rw [UInt32.toNat_shiftRight, h1, h2, Nat.shiftRight_eq_div_pow, BitVec.toNat_ofNat, Nat.mod_eq_of_lt (Nat.lt_of_le_of_lt (Nat.div_le_self _ _) hn)]
theorem px_us16 {n : Nat} (hn : n < 2 ^ 32) : ((nI n).toUInt32 >>> (Int32.toUInt32 16 &&& Int32.toUInt32 31)).toInt32 = nI (n / 65536) := px_ush (j := 16) hn (by decide)
theorem px_us8 {n : Nat} (hn : n < 2 ^ 32) : ((nI n).toUInt32 >>> (Int32.toUInt32 8 &&& Int32.toUInt32 31)).toInt32 = nI (n / 256) := px_ush (j := 8) hn (by decide)
theorem px_us4 {n : Nat} (hn : n < 2 ^ 32) : ((nI n).toUInt32 >>> (Int32.toUInt32 4 &&& Int32.toUInt32 31)).toInt32 = nI (n / 16) := px_ush (j := 4) hn (by decide)
theorem px_us2 {n : Nat} (hn : n < 2 ^ 32) : ((nI n).toUInt32 >>> (Int32.toUInt32 2 &&& Int32.toUInt32 31)).toInt32 = nI (n / 4) := px_ush (j := 2) hn (by decide)
theorem px_us1 {n : Nat} (hn : n < 2 ^ 32) : ((nI n).toUInt32 >>> (Int32.toUInt32 1 &&& Int32.toUInt32 31)).toInt32 = nI (n / 2) := px_ush (j := 1) hn (by decide)
theorem px_nlz32 {n : Nat} (h0 : 0 < n) (hn : n < 2 ^ 31) : ∃ z, z < 32 ∧ f_JI_numberOfLeadingZeros (nI n) = nI z ∧ 2 ^ 31 ≤ n * 2 ^ z ∧ n * 2 ^ z < 2 ^ 32 := by
  unfold f_JI_numberOfLeadingZeros
  rw [if_pos (show (0 : Int32) < nI n from nI_lt (a := 0) h0 hn)]
  by_cases c0 : n < 65536
  · rw [if_pos (show nI (n) < 65536 from (nI_ltI (b := 65536) (by omega) (by decide)).mpr c0)]
    by_cases c1 : n < 256
    · rw [if_pos (show nI (n) < 256 from (nI_ltI (b := 256) (by omega) (by decide)).mpr c1)]
      by_cases c2 : n < 16
      · rw [if_pos (show nI (n) < 16 from (nI_ltI (b := 16) (by omega) (by decide)).mpr c2)]
        by_cases c3 : n < 4
        · rw [if_pos (show nI (n) < 4 from (nI_ltI (b := 4) (by omega) (by decide)).mpr c3)]
          rw [px_us1 (n := n) (by omega)]
          rcases (show (n) / 2 = 0 ∨ (n) / 2 = 1 by omega) with e | e
          · rw [e]; exact ⟨31, by decide, by decide, by omega, by omega⟩
          · rw [e]; exact ⟨30, by decide, by decide, by omega, by omega⟩
        · rw [if_neg (show ¬ nI (n) < 4 from fun h => c3 ((nI_ltI (b := 4) (by omega) (by decide)).mp h)), px_us2 (n := n) (by omega)]
          rw [px_us1 (n := n / 4) (by omega)]
          rcases (show (n / 4) / 2 = 0 ∨ (n / 4) / 2 = 1 by omega) with e | e
          · rw [e]; exact ⟨29, by decide, by decide, by omega, by omega⟩
          · rw [e]; exact ⟨28, by decide, by decide, by omega, by omega⟩
      · rw [if_neg (show ¬ nI (n) < 16 from fun h => c2 ((nI_ltI (b := 16) (by omega) (by decide)).mp h)), px_us4 (n := n) (by omega)]
        by_cases c3 : n / 16 < 4
        · rw [if_pos (show nI (n / 16) < 4 from (nI_ltI (b := 4) (by omega) (by decide)).mpr c3)]
          rw [px_us1 (n := n / 16) (by omega)]
          rcases (show (n / 16) / 2 = 0 ∨ (n / 16) / 2 = 1 by omega) with e | e
          · rw [e]; exact ⟨27, by decide, by decide, by omega, by omega⟩
          · rw [e]; exact ⟨26, by decide, by decide, by omega, by omega⟩
        · rw [if_neg (show ¬ nI (n / 16) < 4 from fun h => c3 ((nI_ltI (b := 4) (by omega) (by decide)).mp h)), px_us2 (n := n / 16) (by omega)]
          rw [px_us1 (n := n / 16 / 4) (by omega)]
          rcases (show (n / 16 / 4) / 2 = 0 ∨ (n / 16 / 4) / 2 = 1 by omega) with e | e
          · rw [e]; exact ⟨25, by decide, by decide, by omega, by omega⟩
          · rw [e]; exact ⟨24, by decide, by decide, by omega, by omega⟩
    · rw [if_neg (show ¬ nI (n) < 256 from fun h => c1 ((nI_ltI (b := 256) (by omega) (by decide)).mp h)), px_us8 (n := n) (by omega)]
      by_cases c2 : n / 256 < 16
      · rw [if_pos (show nI (n / 256) < 16 from (nI_ltI (b := 16) (by omega) (by decide)).mpr c2)]
        by_cases c3 : n / 256 < 4
        · rw [if_pos (show nI (n / 256) < 4 from (nI_ltI (b := 4) (by omega) (by decide)).mpr c3)]
          rw [px_us1 (n := n / 256) (by omega)]
          rcases (show (n / 256) / 2 = 0 ∨ (n / 256) / 2 = 1 by omega) with e | e
          · rw [e]; exact ⟨23, by decide, by decide, by omega, by omega⟩
          · rw [e]; exact ⟨22, by decide, by decide, by omega, by omega⟩
        · rw [if_neg (show ¬ nI (n / 256) < 4 from fun h => c3 ((nI_ltI (b := 4) (by omega) (by decide)).mp h)), px_us2 (n := n / 256) (by omega)]
          rw [px_us1 (n := n / 256 / 4) (by omega)]
          rcases (show (n / 256 / 4) / 2 = 0 ∨ (n / 256 / 4) / 2 = 1 by omega) with e | e
          · rw [e]; exact ⟨21, by decide, by decide, by omega, by omega⟩
          · rw [e]; exact ⟨20, by decide, by decide, by omega, by omega⟩
      · rw [if_neg (show ¬ nI (n / 256) < 16 from fun h => c2 ((nI_ltI (b := 16) (by omega) (by decide)).mp h)), px_us4 (n := n / 256) (by omega)]
        by_cases c3 : n / 256 / 16 < 4
        · rw [if_pos (show nI (n / 256 / 16) < 4 from (nI_ltI (b := 4) (by omega) (by decide)).mpr c3)]
          rw [px_us1 (n := n / 256 / 16) (by omega)]
          rcases (show (n / 256 / 16) / 2 = 0 ∨ (n / 256 / 16) / 2 = 1 by omega) with e | e
          · rw [e]; exact ⟨19, by decide, by decide, by omega, by omega⟩
          · rw [e]; exact ⟨18, by decide, by decide, by omega, by omega⟩
        · rw [if_neg (show ¬ nI (n / 256 / 16) < 4 from fun h => c3 ((nI_ltI (b := 4) (by omega) (by decide)).mp h)), px_us2 (n := n / 256 / 16) (by omega)]
          rw [px_us1 (n := n / 256 / 16 / 4) (by omega)]
          rcases (show (n / 256 / 16 / 4) / 2 = 0 ∨ (n / 256 / 16 / 4) / 2 = 1 by omega) with e | e
          · rw [e]; exact ⟨17, by decide, by decide, by omega, by omega⟩
          · rw [e]; exact ⟨16, by decide, by decide, by omega, by omega⟩
  · rw [if_neg (show ¬ nI (n) < 65536 from fun h => c0 ((nI_ltI (b := 65536) (by omega) (by decide)).mp h)), px_us16 (n := n) (by omega)]
    by_cases c1 : n / 65536 < 256
    · rw [if_pos (show nI (n / 65536) < 256 from (nI_ltI (b := 256) (by omega) (by decide)).mpr c1)]
      by_cases c2 : n / 65536 < 16
      · rw [if_pos (show nI (n / 65536) < 16 from (nI_ltI (b := 16) (by omega) (by decide)).mpr c2)]
        by_cases c3 : n / 65536 < 4
        · rw [if_pos (show nI (n / 65536) < 4 from (nI_ltI (b := 4) (by omega) (by decide)).mpr c3)]
          rw [px_us1 (n := n / 65536) (by omega)]
          rcases (show (n / 65536) / 2 = 0 ∨ (n / 65536) / 2 = 1 by omega) with e | e
          · rw [e]; exact ⟨15, by decide, by decide, by omega, by omega⟩
          · rw [e]; exact ⟨14, by decide, by decide, by omega, by omega⟩
        · rw [if_neg (show ¬ nI (n / 65536) < 4 from fun h => c3 ((nI_ltI (b := 4) (by omega) (by decide)).mp h)), px_us2 (n := n / 65536) (by omega)]
          rw [px_us1 (n := n / 65536 / 4) (by omega)]
          rcases (show (n / 65536 / 4) / 2 = 0 ∨ (n / 65536 / 4) / 2 = 1 by omega) with e | e
          · rw [e]; exact ⟨13, by decide, by decide, by omega, by omega⟩
          · rw [e]; exact ⟨12, by decide, by decide, by omega, by omega⟩
      · rw [if_neg (show ¬ nI (n / 65536) < 16 from fun h => c2 ((nI_ltI (b := 16) (by omega) (by decide)).mp h)), px_us4 (n := n / 65536) (by omega)]
        by_cases c3 : n / 65536 / 16 < 4
        · rw [if_pos (show nI (n / 65536 / 16) < 4 from (nI_ltI (b := 4) (by omega) (by decide)).mpr c3)]
          rw [px_us1 (n := n / 65536 / 16) (by omega)]
          rcases (show (n / 65536 / 16) / 2 = 0 ∨ (n / 65536 / 16) / 2 = 1 by omega) with e | e
          · rw [e]; exact ⟨11, by decide, by decide, by omega, by omega⟩
          · rw [e]; exact ⟨10, by decide, by decide, by omega, by omega⟩
        · rw [if_neg (show ¬ nI (n / 65536 / 16) < 4 from fun h => c3 ((nI_ltI (b := 4) (by omega) (by decide)).mp h)), px_us2 (n := n / 65536 / 16) (by omega)]
          rw [px_us1 (n := n / 65536 / 16 / 4) (by omega)]
          rcases (show (n / 65536 / 16 / 4) / 2 = 0 ∨ (n / 65536 / 16 / 4) / 2 = 1 by omega) with e | e
          · rw [e]; exact ⟨9, by decide, by decide, by omega, by omega⟩
          · rw [e]; exact ⟨8, by decide, by decide, by omega, by omega⟩
    · rw [if_neg (show ¬ nI (n / 65536) < 256 from fun h => c1 ((nI_ltI (b := 256) (by omega) (by decide)).mp h)), px_us8 (n := n / 65536) (by omega)]
      by_cases c2 : n / 65536 / 256 < 16
      · rw [if_pos (show nI (n / 65536 / 256) < 16 from (nI_ltI (b := 16) (by omega) (by decide)).mpr c2)]
        by_cases c3 : n / 65536 / 256 < 4
        · rw [if_pos (show nI (n / 65536 / 256) < 4 from (nI_ltI (b := 4) (by omega) (by decide)).mpr c3)]
          rw [px_us1 (n := n / 65536 / 256) (by omega)]
          rcases (show (n / 65536 / 256) / 2 = 0 ∨ (n / 65536 / 256) / 2 = 1 by omega) with e | e
          · rw [e]; exact ⟨7, by decide, by decide, by omega, by omega⟩
          · rw [e]; exact ⟨6, by decide, by decide, by omega, by omega⟩
        · rw [if_neg (show ¬ nI (n / 65536 / 256) < 4 from fun h => c3 ((nI_ltI (b := 4) (by omega) (by decide)).mp h)), px_us2 (n := n / 65536 / 256) (by omega)]
          rw [px_us1 (n := n / 65536 / 256 / 4) (by omega)]
          rcases (show (n / 65536 / 256 / 4) / 2 = 0 ∨ (n / 65536 / 256 / 4) / 2 = 1 by omega) with e | e
          · rw [e]; exact ⟨5, by decide, by decide, by omega, by omega⟩
          · rw [e]; exact ⟨4, by decide, by decide, by omega, by omega⟩
      · rw [if_neg (show ¬ nI (n / 65536 / 256) < 16 from fun h => c2 ((nI_ltI (b := 16) (by omega) (by decide)).mp h)), px_us4 (n := n / 65536 / 256) (by omega)]
        by_cases c3 : n / 65536 / 256 / 16 < 4
        · rw [if_pos (show nI (n / 65536 / 256 / 16) < 4 from (nI_ltI (b := 4) (by omega) (by decide)).mpr c3)]
          rw [px_us1 (n := n / 65536 / 256 / 16) (by omega)]
          rcases (show (n / 65536 / 256 / 16) / 2 = 0 ∨ (n / 65536 / 256 / 16) / 2 = 1 by omega) with e | e
          · rw [e]; exact ⟨3, by decide, by decide, by omega, by omega⟩
          · rw [e]; exact ⟨2, by decide, by decide, by omega, by omega⟩
        · rw [if_neg (show ¬ nI (n / 65536 / 256 / 16) < 4 from fun h => c3 ((nI_ltI (b := 4) (by omega) (by decide)).mp h)), px_us2 (n := n / 65536 / 256 / 16) (by omega)]
          rw [px_us1 (n := n / 65536 / 256 / 16 / 4) (by omega)]
          rcases (show (n / 65536 / 256 / 16 / 4) / 2 = 0 ∨ (n / 65536 / 256 / 16 / 4) / 2 = 1 by omega) with e | e
          · rw [e]; exact ⟨1, by decide, by decide, by omega, by omega⟩
          · rw [e]; exact ⟨0, by decide, by decide, by omega, by omega⟩
theorem px_neg {n : Nat} (h : 2 ^ 31 ≤ n) (hn : n < 2 ^ 32) : nI n < 0 := by
  rw [Int32.lt_iff_toInt_lt]
  show (BitVec.ofNat 32 n).toInt < 0
  rw [BitVec.toInt_eq_toNat_cond, BitVec.toNat_ofNat, Nat.mod_eq_of_lt hn]
  split <;> omega
theorem px_nlz32' {n : Nat} (hn : n < 2 ^ 32) : ∃ z, z ≤ 32 ∧ f_JI_numberOfLeadingZeros (nI n) = nI z ∧ ((n = 0 ∧ z = 32) ∨ (z < 32 ∧ 2 ^ 31 ≤ n * 2 ^ z ∧ n * 2 ^ z < 2 ^ 32)) := by
  rcases Nat.eq_zero_or_pos n with rfl | h0
  · exact ⟨32, by omega, by decide +kernel, Or.inl ⟨rfl, rfl⟩⟩
  · rcases Nat.lt_or_ge n (2 ^ 31) with h | h
    · obtain ⟨z, h1, h2, h3, h4⟩ := px_nlz32 h0 h
      exact ⟨z, by omega, h2, Or.inr ⟨h1, h3, h4⟩⟩
    · refine ⟨0, by omega, ?_, Or.inr ⟨by omega, by omega, by omega⟩⟩
      have hneg := px_neg h hn
      unfold f_JI_numberOfLeadingZeros
      rw [if_neg (fun q => by rw [Int32.lt_iff_toInt_lt] at q hneg; have : (0 : Int32).toInt = 0 := rfl; omega), if_neg (fun q => by rw [q] at hneg; exact absurd hneg (by decide))]
      rfl
theorem px_nlz {n : Nat} (hn : n < 2 ^ 64) : ∃ z, z ≤ 64 ∧ f_JL_numberOfLeadingZeros (lN n) = nI z ∧ ((n = 0 ∧ z = 64) ∨ (z < 64 ∧ 2 ^ 63 ≤ n * 2 ^ z ∧ n * 2 ^ z < 2 ^ 64)) := by
  unfold f_JL_numberOfLeadingZeros
  have e1 : ((lN n).toUInt64 >>> ((Int32.toInt64 32).toUInt64 &&& Int64.toUInt64 63)).toInt64.toInt32 = nI (n / 2 ^ 32) := by
    rw [show ((lN n).toUInt64 >>> ((Int32.toInt64 32).toUInt64 &&& Int64.toUInt64 63)).toInt64 = lN (n / 2 ^ 32) from wb_shr (k := 32) hn (by decide), lN_i]
  have e2 : (lN n).toInt32 = nI (n % 2 ^ 32) := by
    rw [lN_i]
    apply Int32.toBitVec_inj.mp
    show BitVec.ofNat 32 n = BitVec.ofNat 32 _
    apply BitVec.eq_of_toNat_eq
    rw [BitVec.toNat_ofNat, BitVec.toNat_ofNat, Nat.mod_mod]
  rw [e1, e2]
  by_cases c : n / 2 ^ 32 = 0
  · rw [c, if_pos (show nI 0 = 0 from rfl)]
    obtain ⟨z, h1, h2, h3⟩ := px_nlz32' (n := n % 2 ^ 32) (by omega)
    rw [h2]
    refine ⟨32 + z, by omega, nI_add 32 z, ?_⟩
    rw [Nat.mod_eq_of_lt (show n < 2 ^ 32 by omega)] at h3
    rcases h3 with ⟨a, b⟩ | ⟨a, b, d⟩
    · exact Or.inl ⟨a, by omega⟩
    · refine Or.inr ⟨by omega, ?_, ?_⟩
      · rw [Nat.pow_add, Nat.mul_comm (2 ^ 32), ← Nat.mul_assoc]; omega
      · rw [Nat.pow_add, Nat.mul_comm (2 ^ 32), ← Nat.mul_assoc]; omega
  · rw [if_neg (show ¬ nI (n / 2 ^ 32) = 0 from fun q => c (by
      have := congrArg (fun x : Int32 => x.toUInt32.toNat) q
      have e : (nI (n / 2 ^ 32)).toUInt32.toNat = n / 2 ^ 32 := by
        show (BitVec.ofNat 32 _).toNat = _
        rw [BitVec.toNat_ofNat, Nat.mod_eq_of_lt (by omega)]
      exact e.symm.trans this))]
    obtain ⟨z, h1, h2, h3⟩ := px_nlz32' (n := n / 2 ^ 32) (by omega)
    refine ⟨z, by omega, h2, Or.inr ?_⟩
    rcases h3 with ⟨a, b⟩ | ⟨a, b, d⟩
    · exact absurd a c
    · have hp : 0 < 2 ^ z := Nat.two_pow_pos z
      have hq : 2 ^ z * (n / 2 ^ 32) < 2 ^ 32 := by rw [Nat.mul_comm]; exact d
      have hr : n = 2 ^ 32 * (n / 2 ^ 32) + n % 2 ^ 32 := (Nat.div_add_mod n (2 ^ 32)).symm
      have hm : n % 2 ^ 32 < 2 ^ 32 := Nat.mod_lt _ (by decide)
      generalize n / 2 ^ 32 = a1 at *
      generalize n % 2 ^ 32 = a0 at *
      refine ⟨by omega, ?_, ?_⟩
      · calc 2 ^ 63 = 2 ^ 31 * 2 ^ 32 := by decide
          _ ≤ (a1 * 2 ^ z) * 2 ^ 32 := Nat.mul_le_mul_right _ b
          _ = (2 ^ 32 * a1) * 2 ^ z := by rw [Nat.mul_comm (a1 * 2 ^ z), Nat.mul_assoc]
          _ ≤ n * 2 ^ z := Nat.mul_le_mul_right _ (by omega)
      · have h5 : (a1 + 1) * 2 ^ z ≤ 2 ^ 32 := by
          have e5 : 2 ^ 32 = 2 ^ (32 - z) * 2 ^ z := by rw [← Nat.pow_add]; congr 1; omega
          rw [e5] at d ⊢
          exact Nat.mul_le_mul_right _ (Nat.lt_of_mul_lt_mul_right d)
        calc n * 2 ^ z < (2 ^ 32 * (a1 + 1)) * 2 ^ z := Nat.mul_lt_mul_of_pos_right (by omega) hp
          _ = 2 ^ 32 * ((a1 + 1) * 2 ^ z) := Nat.mul_assoc _ _ _
          _ ≤ 2 ^ 32 * 2 ^ 32 := Nat.mul_le_mul_left _ h5
          _ = 2 ^ 64 := by decide
