/-! again -/
theorem k_cases (tp : Nat → Int32) (fr : Nat → Int64) (r : Int32) : (f_X0_powerOf tp r = 32767 ∧ (f_X0_kindOf tp fr r = 4 ∨ f_X0_kindOf tp fr r = 5)) ∨ (¬ f_X0_powerOf tp r = 32767 ∧ f_X0_kindOf tp fr r ≤ 3 ∧ ¬ f_X0_kindOf tp fr r = 4 ∧ ¬ f_X0_kindOf tp fr r = 5 ∧ (3 ≤ f_X0_kindOf tp fr r → ¬ 0 ≤ lg_cmp (fr r.toNatClampNeg) 0)) := by
  by_cases c : f_X0_powerOf tp r = 32767
  · left
    refine ⟨c, ?_⟩
    unfold f_X0_kindOf
    rw [if_pos c]
    by_cases c2 : (lg_cmp ((fr r.toNatClampNeg) &&& 9223372036854775807) 0) = 0
    · rw [if_pos c2]; exact Or.inl rfl
    · rw [if_neg c2]; exact Or.inr rfl
  · right
    refine ⟨c, ?_⟩
    have hk : f_X0_kindOf tp fr r = 0 ∨ f_X0_kindOf tp fr r = 1 ∨ f_X0_kindOf tp fr r = 2 ∨ (f_X0_kindOf tp fr r = 3 ∧ ¬ 0 ≤ lg_cmp (fr r.toNatClampNeg) 0) := by
      unfold f_X0_kindOf
      rw [if_neg c]
      by_cases c1 : f_X0_powerOf tp r = 0
      · rw [if_pos c1]
        by_cases c2 : (lg_cmp (fr r.toNatClampNeg) 0) = 0
        · rw [if_pos c2]; exact Or.inl rfl
        · rw [if_neg c2]; exact Or.inr (Or.inl rfl)
      · rw [if_neg c1]
        by_cases c2 : 0 ≤ (lg_cmp (fr r.toNatClampNeg) 0)
        · rw [if_pos c2]; exact Or.inr (Or.inr (Or.inl rfl))
        · rw [if_neg c2]; exact Or.inr (Or.inr (Or.inr ⟨rfl, c2⟩))
    rcases hk with hk | hk | hk | ⟨hk, h9⟩
    · rw [hk]; exact ⟨by decide, by decide, by decide, fun q => absurd q (by decide)⟩
    · rw [hk]; exact ⟨by decide, by decide, by decide, fun q => absurd q (by decide)⟩
    · rw [hk]; exact ⟨by decide, by decide, by decide, fun q => absurd q (by decide)⟩
    · rw [hk]; exact ⟨by decide, by decide, by decide, fun _ => h9⟩
theorem pw_of {tp : Nat → Int32} {r : Int32} (h : m_tok tp) (hr : vp_in r 8) : ∃ P, 1 ≤ P ∧ P ≤ 32767 ∧ (if (f_X0_powerOf tp r) < 1 then 1 else (f_X0_powerOf tp r)) = nI P ∧ f_X1_powerOf tp r = nI P ∧ (¬ f_X0_powerOf tp r = 32767 → P ≤ 32766) := by
  obtain ⟨v, hv, e⟩ := e_top h hr
  unfold f_X1_powerOf
  rw [e_power hv e, e, m_mod hv]
  have hp : v % 32768 < 32768 := Nat.mod_lt _ (by decide)
  clear e
  generalize v % 32768 = p at *
  rcases Nat.eq_zero_or_pos p with c | c
  · subst c
    exact ⟨1, by decide, by decide, by decide, by decide, fun _ => by decide⟩
  · refine ⟨p, c, by omega, ?_, ?_, ?_⟩
    · rw [if_neg (show ¬ nI p < 1 from nI_nlt (b := 1) c (by omega))]
    · rw [if_neg (show ¬ nI p = 0 from nI_ne0 c (by omega))]
    · intro q
      have : ¬ p = 32767 := fun z => q (by rw [z]; rfl)
      omega
theorem e_sg {v : Nat} (hv : v < 65536) : (nI v &&& 32768) = 0 ↔ v < 32768 := by
  rw [show (32768 : Int32) = nI 32768 from rfl, nx_and]
  have hle : v &&& 32768 ≤ 32768 := Nat.and_le_right
  refine Iff.trans (nI_eq (b := 0) (Nat.lt_of_le_of_lt hle (by decide)) (by decide)) ?_
  have ht : (v &&& 32768).testBit 15 = v.testBit 15 := by
    rw [Nat.testBit_and, show Nat.testBit 32768 15 = true by decide, Bool.and_true]
  have hb : v.testBit 15 = decide (v / 2 ^ 15 % 2 = 1) := Nat.testBit_eq_decide_div_mod_eq
  constructor
  · intro h
    rw [h, Nat.zero_testBit, hb] at ht
    have h9 := of_decide_eq_false ht.symm
    clear ht hb h hle
    omega
  · intro h
    apply Nat.eq_of_testBit_eq
    intro i
    rw [Nat.testBit_and, Nat.zero_testBit, show (32768 : Nat) = 2 ^ 15 from rfl, Nat.testBit_two_pow]
    by_cases c : 15 = i
    · subst c
      rw [hb, show v / 2 ^ 15 % 2 = 0 by (clear ht hb hle; omega)]; decide
    · rw [decide_eq_false c, Bool.and_false]
theorem e_neg {tp : Nat → Int32} {r : Int32} (h : m_tok tp) (hr : vp_in r 8) : f_X0_isNegative tp r = (if (tp r.toNatClampNeg) ≤ 32767 then 0 else 1) := by
  obtain ⟨v, hv, e⟩ := e_top h hr
  unfold f_X0_isNegative
  rw [e]
  by_cases c : v < 32768
  · rw [if_pos ((e_sg hv).mpr c), if_pos (show nI v ≤ 32767 from nI_le (b := 32767) (by omega) (by decide))]
  · rw [if_neg (fun q => c ((e_sg hv).mp q)), if_neg (show ¬ nI v ≤ 32767 from nI_ge (a := 32767) (by omega) (by omega))]
def ag (n i : Nat) : Int32 := if i < 64 then 0 else if i = 128 then 0 else nI (n / 2 ^ (127 - i) % 2)
theorem ag_e {n j : Nat} (hn : n < 2 ^ 64) (hj : j < 129) : (if nI j < 64 then 0 else (if nI j = 128 then 0 else (Int64.toInt32 ((lN n >>> (Int32.toInt64 (127 - nI j) &&& 63)) &&& 1)))) = ag n j := by
  unfold ag
  by_cases c1 : j < 64
  · rw [if_pos (show nI j < 64 from nI_lt (b := 64) c1 (by decide)), if_pos c1]
  · rw [if_neg (show ¬ nI j < 64 from nI_nlt (b := 64) (by omega) (by omega)), if_neg c1]
    by_cases c2 : j = 128
    · rw [if_pos (show nI j = 128 by rw [c2]; rfl), if_pos c2]
    · rw [if_neg (show ¬ nI j = 128 from fun q => c2 ((nI_eq (b := 128) (by omega) (by decide)).mp q)), if_neg c2, show (127 : Int32) - nI j = nI (127 - j) from px_subI (a := 127) (by omega), m_bit hn (by omega), lN_i]
theorem lp84 {fr : Nat → Int64} {x1 : Int32} {n : Nat} (hn : n < 2 ^ 64) (e : fr x1.toNatClampNeg = lN n) : ∀ (k j : Nat) (bi : Nat → Int32), j ≤ 129 → 130 ≤ j + k → ∀ i, ((lp_X1_again_84 fr x1 k (nI j, bi)).2 i = if j ≤ i ∧ i < 129 then ag n i else bi i) := by
  intro k
  induction k with
  | zero => intro j bi h1 h2; omega
  | succ k ih =>
    intro j bi h1 h2 i
    show (if (b_X1_again_84 fr x1 (nI j) bi).1 = true then lp_X1_again_84 fr x1 k (b_X1_again_84 fr x1 (nI j) bi).2 else (b_X1_again_84 fr x1 (nI j) bi).2).2 i = _
    by_cases c : 129 ≤ j
    · have e9 : b_X1_again_84 fr x1 (nI j) bi = (false, nI j, bi) := by
        unfold b_X1_again_84; rw [if_pos (show (129 : Int32) ≤ nI j from nI_le (a := 129) c (by omega))]
      rw [e9, if_neg (show ¬ (false, nI j, bi).1 = true from Bool.false_ne_true)]
      show bi i = _
      rw [if_neg (show ¬ (j ≤ i ∧ i < 129) by omega)]
    · have e9 : b_X1_again_84 fr x1 (nI j) bi = (true, nI (j + 1), upd bi j (ag n j)) := by
        unfold b_X1_again_84
        rw [if_neg (show ¬ (129 : Int32) ≤ nI j from nI_ge (b := 129) (by omega) (by decide)), nI_1, nI_clamp (by omega), e, ag_e hn (by omega)]
      rw [e9, if_pos rfl]
      show (lp_X1_again_84 fr x1 k (nI (j + 1), upd bi j (ag n j))).2 i = _
      rw [ih (j + 1) _ (by omega) (by omega) i]
      by_cases c1 : j + 1 ≤ i ∧ i < 129
      · rw [if_pos c1, if_pos (show j ≤ i ∧ i < 129 by omega)]
      · rw [if_neg c1]
        unfold upd
        by_cases c2 : i = j
        · subst c2; rw [if_pos rfl, if_pos (show i ≤ i ∧ i < 129 by omega)]
        · rw [if_neg c2, if_neg (show ¬ (j ≤ i ∧ i < 129) by omega)]
theorem ag_V {bi : Nat → Int32} {n : Nat} (hn : n < 2 ^ 64) (h : ∀ i, i < 129 → bi i = ag n i) : bok bi ∧ bvN bi 129 = 2 * n := by
  refine ⟨fun i hi => ?_, ?_⟩
  · rw [h i hi]
    unfold ag
    by_cases c1 : i < 64
    · rw [if_pos c1]; exact Or.inl rfl
    · rw [if_neg c1]
      by_cases c2 : i = 128
      · rw [if_pos c2]; exact Or.inl rfl
      · rw [if_neg c2]
        rcases Nat.mod_two_eq_zero_or_one (n / 2 ^ (127 - i)) with e | e
        · rw [e]; exact Or.inl rfl
        · rw [e]; exact Or.inr rfl
  · have e9 : bvN bi 129 = 2 * bvN bi 128 + (if bi 128 = 1 then 1 else 0) := bvN_s bi 128
    have e5 : bi 128 = 0 := by
      rw [h 128 (by decide)]; rfl
    rw [e5, if_neg (show ¬ (0 : Int32) = 1 by decide)] at e9
    have b1 : bvN bi 64 = bvN bi 0 * 2 ^ 64 + 0 := bvN_b64 (s := 0) (by decide) (fun i hi => by
      rw [Nat.zero_add, h i (by omega), Nat.zero_div, Nat.zero_mod]
      unfold ag
      rw [if_pos hi]; rfl)
    have b2 : bvN bi 128 = bvN bi 64 * 2 ^ 64 + n := bvN_b64 (s := 64) hn (fun i hi => by
      rw [h (64 + i) (by omega)]
      unfold ag
      rw [if_neg (show ¬ 64 + i < 64 by omega), if_neg (show ¬ 64 + i = 128 by omega), show 127 - (64 + i) = 63 - i by omega])
    have b0 : bvN bi 0 = 0 := rfl
    rw [e9, b2, b1, b0]
    clear e5 e9 b0 b1 b2 h
    omega
theorem sz_G {n z : Nat} {wt : Int32} (h : (n = 0 ∧ z = 64) ∨ (z < 64 ∧ 2 ^ 63 ≤ n * 2 ^ z ∧ n * 2 ^ z < 2 ^ 64)) : sz_ok (2 * n) ((n * 2 ^ z) % 2 ^ 64 + 0 / 2 ^ (64 - z)) 0 wt (wt - nI (64 + z)) := by
  have key : sz_ok (2 * n + 0) ((n * 2 ^ z) % 2 ^ 64 + 0 * 2 ^ 63 / 2 ^ (64 - z)) ((0 * 2 ^ 63 * 2 ^ z) % 2 ^ 64 + 0 / 2 ^ (64 - z)) wt (wt - nI (64 + z)) := by
    rcases h with ⟨h1, h2⟩ | ⟨hz, h1, h2⟩
    · subst h1 h2; exact sz_C (by decide)
    · exact sz_B (by decide) hz h1 h2
  have e0 : 0 * 2 ^ 63 = 0 := Nat.zero_mul _
  have e1 : (0 * 2 ^ z) % 2 ^ 64 + 0 / 2 ^ (64 - z) = 0 := by rw [Nat.zero_mul, Nat.zero_mod, Nat.zero_div]
  rw [e0, e1] at key
  exact key
theorem k_ag (x y : Int32) : (x - 16383) - y = ((x - 16446) + 127) - (64 + y) := by
  have e : (x - 16383) = ((x - 16446) + 127) + (-64) := by
    rw [Int32.sub_eq_add_neg, Int32.sub_eq_add_neg, Int32.add_assoc, Int32.add_assoc, show (-16446 : Int32) + (127 + -64) = -16383 by decide]
  rw [e, k_sub]
theorem rl_again {x : XS} {u : MS} {fo : Nat → Int64} (hR : RL9 x u) (a1 a2 : Int32) : f_X1_thrown (f_X1_again u.1 u.2.1 u.2.2.1 u.2.2.2.1 u.2.2.2.2.1 u.2.2.2.2.2.1 u.2.2.2.2.2.2.1 u.2.2.2.2.2.2.2.1 u.2.2.2.2.2.2.2.2.1 u.2.2.2.2.2.2.2.2.2.1 u.2.2.2.2.2.2.2.2.2.2.1 u.2.2.2.2.2.2.2.2.2.2.2.1 u.2.2.2.2.2.2.2.2.2.2.2.2.1 u.2.2.2.2.2.2.2.2.2.2.2.2.2.1 u.2.2.2.2.2.2.2.2.2.2.2.2.2.2 a1 a2).2.2.2.2.1 = (f_L_again fo x.1 x.2.1 x.2.2.1 x.2.2.2.1 x.2.2.2.2.1 x.2.2.2.2.2 a1 a2).1 ∧ RL9 (f_L_again fo x.1 x.2.1 x.2.2.1 x.2.2.2.1 x.2.2.2.2.1 x.2.2.2.2.2 a1 a2).2.1 (f_X1_again u.1 u.2.1 u.2.2.1 u.2.2.2.1 u.2.2.2.2.1 u.2.2.2.2.2.1 u.2.2.2.2.2.2.1 u.2.2.2.2.2.2.2.1 u.2.2.2.2.2.2.2.2.1 u.2.2.2.2.2.2.2.2.2.1 u.2.2.2.2.2.2.2.2.2.2.1 u.2.2.2.2.2.2.2.2.2.2.2.1 u.2.2.2.2.2.2.2.2.2.2.2.2.1 u.2.2.2.2.2.2.2.2.2.2.2.2.2.1 u.2.2.2.2.2.2.2.2.2.2.2.2.2.2 a1 a2).2 ∧ ((f_L_again fo x.1 x.2.1 x.2.2.1 x.2.2.2.1 x.2.2.2.2.1 x.2.2.2.2.2 a1 a2).1 = 0 → (f_L_again fo x.1 x.2.1 x.2.2.1 x.2.2.2.1 x.2.2.2.2.1 x.2.2.2.2.2 a1 a2).2.2 (0 : Int32).toNatClampNeg = Int32.toInt64 (f_X1_again u.1 u.2.1 u.2.2.1 u.2.2.2.1 u.2.2.2.2.1 u.2.2.2.2.2.1 u.2.2.2.2.2.2.1 u.2.2.2.2.2.2.2.1 u.2.2.2.2.2.2.2.2.1 u.2.2.2.2.2.2.2.2.2.1 u.2.2.2.2.2.2.2.2.2.2.1 u.2.2.2.2.2.2.2.2.2.2.2.1 u.2.2.2.2.2.2.2.2.2.2.2.2.1 u.2.2.2.2.2.2.2.2.2.2.2.2.2.1 u.2.2.2.2.2.2.2.2.2.2.2.2.2.2 a1 a2).1) := by
  obtain ⟨ft, ff, w, lt, lk, lc⟩ := x
  obtain ⟨tp, fr, bi, cd, ct, wt, fi, mn, wh, fu, tl, gr, sd, mt, mf⟩ := u
  obtain ⟨h1, h2, h3, h4, h5, h6, h7, h8⟩ := hR
  dsimp only at h1 h2 h3 h4 h5 h6 h7 h8 ⊢
  subst h1 h2 h3 h4 h5 h6
  have h79 := h7
  obtain ⟨v, hv, ev⟩ := h7
  by_cases er : f_X0_isNoRegister a1 = 0 ∧ f_X0_isNoRegister a2 = 0
  · obtain ⟨er1, er2⟩ := er
    have hr1 := x_reg er1
    have hr2 := x_reg er2
    have hc1 : ¬ (if (f_X0_isNoRegister a1) = 0 then (if (f_X0_isNoRegister a2) = 0 then false else true) else true) = true := by
      rw [if_pos er1, if_pos er2]; exact Bool.false_ne_true
    have hc2 : ((if (f_X0_isNoRegister a1) = 0 then (if (f_X0_isNoRegister a2) = 0 then 0 else 1) else 1) : Int32) = 0 := by
      rw [if_pos er1, if_pos er2]
    rcases k_cases tp fr a1 with ⟨-, hk⟩ | ⟨hp, hk1, hk2, hk3, -⟩
    · have hX : f_X0_again tp fr ct tl gr sd a1 a2 = (0, 0, (upd tp a2.toNatClampNeg (tp a1.toNatClampNeg)), (vp_updL fr a2.toNatClampNeg (fr a1.toNatClampNeg)), ct, 0, 0, 0) := by
        unfold f_X0_again
        rw [if_neg hc1, if_pos (show (if (f_X0_kindOf tp fr a1) = 4 then true else (if (f_X0_kindOf tp fr a1) = 5 then true else false)) = true by
          rcases hk with hk | hk
          · rw [if_pos hk]
          · rw [if_neg (show ¬ f_X0_kindOf tp fr a1 = 4 by rw [hk]; decide), if_pos hk])]
      have hM : f_X1_again tp fr bi cd ct wt fi mn wh fu tl gr sd mt mf a1 a2 = (0, ((upd tp a2.toNatClampNeg (tp a1.toNatClampNeg)), (vp_updL fr a2.toNatClampNeg (fr a1.toNatClampNeg)), bi, 0, ct, wt, fi, mn, wh, fu, 0, 0, 0, (tp a1.toNatClampNeg), (fr a1.toNatClampNeg))) := by
        unfold f_X1_again
        rw [e_none, e_none, hc2, if_pos (show (0 : Int32) ≤ 0 by decide), e_kind h8 hr1, if_neg (show ¬ f_X0_kindOf tp fr a1 ≤ 3 by
          rcases hk with hk | hk
          · rw [hk]; decide
          · rw [hk]; decide)]
      have hL : f_L_again fo tp fr ct tl gr sd a1 a2 = (0, (((upd tp a2.toNatClampNeg (tp a1.toNatClampNeg)), (vp_updL fr a2.toNatClampNeg (fr a1.toNatClampNeg)), ct, 0, 0, 0), vp_updL fo (0 : Int32).toNatClampNeg (Int32.toInt64 0))) := by unfold f_L_again; rw [hX]; rfl
      rw [hL, hM]
      obtain ⟨v0, hv0, e0⟩ := e_top h8 hr1
      exact ⟨rfl, ⟨rfl, rfl, rfl, rfl, rfl, rfl, h79, m_tok_upd h8 (by rw [e0]; exact (e_vI hv0).1) (by rw [e0]; exact (e_vI hv0).2)⟩, fun _ => e_o fo _⟩
    · subst ev
      obtain ⟨P, hP1, hP2, eP1, eP2, hP3⟩ := pw_of h8 hr1
      have hP4 := hP3 hp
      obtain ⟨n, hn, en⟩ := wb_of (fr a1.toNatClampNeg)
      obtain ⟨z, hz, ez, hzz⟩ := px_nlz hn
      have bI : bok ((lp_X1_again_84 fr a1 130 (0, bi)).2) ∧ bvN ((lp_X1_again_84 fr a1 130 (0, bi)).2) 129 = 2 * n := ag_V hn (fun i hi => by
        have h := lp84 hn en 130 0 bi (by omega) (by omega) i
        rw [if_pos (show 0 ≤ i ∧ i < 129 by omega), nI_0] at h
        exact h)
      obtain ⟨B, hB, hb, hV⟩ : ∃ B, (lp_X1_again_84 fr a1 130 (0, bi)).2 = B ∧ bok B ∧ bvN B 129 = 2 * n := ⟨_, rfl, bI⟩
      clear bI
      have eN : (nI P).toInt = P := nI_toInt (by omega)
      have e16 : (16446 : Int32).toInt = 16446 := rfl
      have e12 : (127 : Int32).toInt = 127 := rfl
      have ew1 : (nI P - 16446).toInt = P - 16446 := by
        rw [m_sub (by rw [eN]; omega) (by rw [e16]; omega), eN, e16]
      have ewt : ((nI P - 16446) + 127).toInt = P - 16446 + 127 := by
        rw [m_add (by rw [ew1]; omega) (by rw [e12]; omega), ew1, e12]
      have hsz := sz_G (wt := (nI P - 16446) + 127) hzz
      obtain ⟨told, chg, k9, top, frac, fi9, wh9, fu9, e1, e2, e3, e4⟩ := core_all (tp := tp) (fr := fr) (cd := 0) (fi := fi) (mn := (if (tp a1.toNatClampNeg) ≤ 32767 then 0 else 1)) (wh := wh) (fu := fu) (tl := tl) (gr := gr) (sd := sd) (mt := mt) (mf := mf) (lt := tl) (lk := gr) (lc := sd) (r := a2) hv hb (by rw [ewt]; omega) hV (by decide) hsz
      have hX : f_X0_again tp fr (nI v) tl gr sd a1 a2 = (0, told, upd tp a2.toNatClampNeg top, vp_updL fr a2.toNatClampNeg frac, nI v, told, k9, chg) := by
        unfold f_X0_again
        rw [if_neg hc1, if_neg (show ¬ (if (f_X0_kindOf tp fr a1) = 4 then true else (if (f_X0_kindOf tp fr a1) = 5 then true else false)) = true by
          rw [if_neg hk2, if_neg hk3]; exact Bool.false_ne_true), eP1, en, ez, e_neg h8 hr1, show f_X0_shiftIn (lN n) 0 (nI z) = lN ((n * 2 ^ z) % 2 ^ 64 + 0 / 2 ^ (64 - z)) from px_shiftIn hn (by decide) hz, k_ag, show (64 : Int32) + nI z = nI (64 + z) from nI_add 64 z]
        exact congrArg (fun y => ((0 : Nat), y)) e1
      have hM : f_X1_again tp fr bi cd (nI v) wt fi mn wh fu tl gr sd mt mf a1 a2 = (told, (upd tp a2.toNatClampNeg top, vp_updL fr a2.toNatClampNeg frac, B, 0, nI v, ((nI P - 16446) + 127), fi9, (if (tp a1.toNatClampNeg) ≤ 32767 then 0 else 1), wh9, fu9, told, k9, chg, top, frac)) := by
        unfold f_X1_again
        rw [e_none, e_none, hc2, if_pos (show (0 : Int32) ≤ 0 by decide), e_kind h8 hr1, if_pos hk1, eP2, hB, e2]
        rfl
      have hL : f_L_again fo tp fr (nI v) tl gr sd a1 a2 = (0, ((upd tp a2.toNatClampNeg top, vp_updL fr a2.toNatClampNeg frac, nI v, told, k9, chg), vp_updL fo (0 : Int32).toNatClampNeg (Int32.toInt64 told))) := by unfold f_L_again; rw [hX]; rfl
      rw [hL, hM]
      exact ⟨rfl, ⟨rfl, rfl, rfl, rfl, rfl, rfl, h79, m_tok_upd h8 e3 e4⟩, fun _ => e_o fo _⟩
  · have hc1 : (if (f_X0_isNoRegister a1) = 0 then (if (f_X0_isNoRegister a2) = 0 then false else true) else true) = true := by
      by_cases q1 : f_X0_isNoRegister a1 = 0
      · rw [if_pos q1, if_neg (fun q2 => er ⟨q1, q2⟩)]
      · rw [if_neg q1]
    have hc2 : ((if (f_X0_isNoRegister a1) = 0 then (if (f_X0_isNoRegister a2) = 0 then 0 else 1) else 1) : Int32) = 1 := by
      by_cases q1 : f_X0_isNoRegister a1 = 0
      · rw [if_pos q1, if_neg (fun q2 => er ⟨q1, q2⟩)]
      · rw [if_neg q1]
    have hX : f_X0_again tp fr ct tl gr sd a1 a2 = (1, 0, tp, fr, ct, tl, gr, sd) := by unfold f_X0_again; rw [if_pos hc1]
    have hM : f_X1_again tp fr bi cd ct wt fi mn wh fu tl gr sd mt mf a1 a2 = (0, (tp, fr, bi, 1, ct, wt, fi, mn, wh, fu, tl, gr, sd, mt, mf)) := by
      unfold f_X1_again
      rw [e_none, e_none, hc2, if_neg (show ¬ (1 : Int32) ≤ 0 by decide)]
    have hL : f_L_again fo tp fr ct tl gr sd a1 a2 = (1, ((tp, fr, ct, tl, gr, sd), fo)) := by unfold f_L_again; rw [hX]; rfl
    rw [hL, hM]
    exact ⟨rfl, ⟨rfl, rfl, rfl, rfl, rfl, rfl, h79, h8⟩, fun h => absurd h (show ¬ (1 : Int32) = 0 by decide)⟩
