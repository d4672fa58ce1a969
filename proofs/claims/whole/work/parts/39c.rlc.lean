theorem pw_uniq {V a b : Nat} (h1 : 2 ^ a ≤ V) (h2 : V < 2 ^ (a + 1)) (h3 : 2 ^ b ≤ V) (h4 : V < 2 ^ (b + 1)) : a = b := by
  rcases Nat.lt_trichotomy a b with h | h | h
  · have := Nat.pow_le_pow_right (show 0 < 2 by decide) (show a + 1 ≤ b from h)
    exact absurd (Nat.lt_of_lt_of_le h2 (Nat.le_trans this h3)) (Nat.lt_irrefl _)
  · exact h
  · have := Nat.pow_le_pow_right (show 0 < 2 by decide) (show b + 1 ≤ a from h)
    exact absurd (Nat.lt_of_lt_of_le h4 (Nat.le_trans this h1)) (Nat.lt_irrefl _)
theorem f_uniq {V f g : Nat} (hf : f < 129) (hg : g < 129) (h1 : 2 ^ (128 - f) ≤ V) (h2 : V < 2 ^ (129 - f)) (h3 : 2 ^ (128 - g) ≤ V) (h4 : V < 2 ^ (129 - g)) : f = g := by
  have e := pw_uniq (a := 128 - f) (b := 128 - g) h1 (by rw [show 128 - f + 1 = 129 - f by omega]; exact h2) h3 (by rw [show 128 - g + 1 = 129 - g by omega]; exact h4)
  clear h1 h2 h3 h4
  omega
theorem lp20' {bi : Nat → Int32} {V : Nat} (hb : bok bi) (hV : bvN bi 129 = V) : ∃ f, lp_X1_make0_20 bi 130 0 = nI f ∧ ((f = 129 ∧ V = 0) ∨ (f < 129 ∧ bvN bi f = 0 ∧ 2 ^ (128 - f) ≤ V ∧ V < 2 ^ (129 - f))) := by
  obtain ⟨f, h1, h2, h3, h4⟩ := lp20 hb 130 0 (by omega) (by omega) rfl
  refine ⟨f, h2, ?_⟩
  rcases Nat.lt_or_ge f 129 with c | c
  · right
    obtain ⟨q1, q2⟩ := bvN_rng h3 (h4 c) (128 - f)
    rw [show f + 1 + (128 - f) = 129 by omega, hV] at q1 q2
    rw [show 128 - f + 1 = 129 - f by omega] at q2
    exact ⟨c, h3, q1, q2⟩
  · obtain rfl : f = 129 := by omega
    exact Or.inl ⟨rfl, hV.symm.trans h3⟩
theorem sg0 (mn : Int32) : ((if mn = 0 then 0 else 32768) ||| 0 : Int32) = (if mn = 0 then 0 else 32768) + 0 ∧ 0 ≤ ((if mn = 0 then 0 else 32768) + 0 : Int32).toInt ∧ ((if mn = 0 then 0 else 32768) + 0 : Int32).toInt < 65536 := by
  by_cases c : mn = 0
  · rw [if_pos c]; decide
  · rw [if_neg c]; decide
/-- what is asked of a head H and a tail T of a size V whose bit 128 has the weight of wt less 128 -/
def sz_ok (V H T : Nat) (wt kk : Int32) : Prop := (V = 0 ∧ H = 0) ∨ ∃ f, f < 129 ∧ 2 ^ (128 - f) ≤ V ∧ V < 2 ^ (129 - f) ∧ H < 2 ^ 64 ∧ 2 ^ 63 ≤ H ∧ kk = wt - nI f ∧ ((1 ≤ f ∧ H * 2 ^ 64 + T = V * 2 ^ (f - 1)) ∨ (f = 0 ∧ H * 2 ^ 64 + T = (V / 2 ||| V % 2)))
/-- any size, 0 too: the class's makeSize and the reference's make() leave the same -/
theorem core_all {tp : Nat → Int32} {fr : Nat → Int64} {bi : Nat → Int32} {cd wt fi mn : Int32} {wh : Int64} {fu tl gr sd mt : Int32} {mf : Int64} {lt lk lc r kk : Int32} {v V H T : Nat} (hv : v < 65536) (hb : bok bi) (hw2 : -32873 ≤ wt.toInt ∧ wt.toInt ≤ 33127) (hV : bvN bi 129 = V) (hT : T < 2 ^ 64) (hc : sz_ok V H T wt kk) :
    ∃ told chg k9 top frac fi9 wh9 fu9, f_X0_makeSize tp fr (nI v) lt lk lc r mn kk (lN H) (lN T) = (told, (upd tp r.toNatClampNeg top, vp_updL fr r.toNatClampNeg frac, nI v, told, k9, chg)) ∧ f_X1_make0 tp fr bi cd (nI v) wt fi mn wh fu tl gr sd mt mf = (tp, fr, bi, cd, nI v, wt, fi9, mn, wh9, fu9, told, k9, chg, top, frac) ∧ 0 ≤ top.toInt ∧ top.toInt < 65536 := by
  obtain ⟨f9, hfl, h9⟩ := lp20' hb hV
  rcases hc with ⟨hV0, hH0⟩ | ⟨f, hf, hg1, hg2, hH, hH1, hk, hX⟩
  · subst hH0
    have hf9 : f9 = 129 := by
      rcases h9 with ⟨a, -⟩ | ⟨-, -, q1, -⟩
      · exact a
      · rw [hV0] at q1
        exact absurd (Nat.lt_of_lt_of_le (Nat.two_pow_pos _) q1) (Nat.lt_irrefl 0)
    subst hf9
    have hM : f_X1_make0 tp fr bi cd (nI v) wt fi mn wh fu tl gr sd mt mf = (tp, fr, bi, cd, nI v, wt, nI 129, mn, wh, fu, 0, 0, 0, ((if mn = 0 then 0 else 32768) + 0), 0) := by
      unfold f_X1_make0
      rw [hfl, if_pos (show nI 129 = 129 from rfl)]
    have hS : f_X0_makeSize tp fr (nI v) lt lk lc r mn kk (lN 0) (lN T) = (0, (upd tp r.toNatClampNeg ((if mn = 0 then 0 else 32768) + 0), vp_updL fr r.toNatClampNeg 0, nI v, 0, 0, 0)) := by
      unfold f_X0_makeSize
      rw [if_pos (show lg_cmp (lN 0) 0 = 0 from (px_l0 (by decide)).mpr rfl), (sg0 mn).1]
    exact ⟨0, 0, 0, _, 0, _, _, _, hS, hM, (sg0 mn).2⟩
  · rcases h9 with ⟨-, hz⟩ | ⟨hf9, hf0, q1, q2⟩
    · rw [hz] at hg1
      exact absurd (Nat.lt_of_lt_of_le (Nat.two_pow_pos _) hg1) (Nat.lt_irrefl 0)
    · have hff := f_uniq hf hf9 hg1 hg2 q1 q2
      subst hff
      subst hk
      obtain ⟨told, chg, top, frac, wh9, fu9, e1, e2, e3, e4⟩ := core (tp := tp) (fr := fr) (cd := cd) (fi := fi) (mn := mn) (wh := wh) (fu := fu) (tl := tl) (gr := gr) (sd := sd) (mt := mt) (mf := mf) (lt := lt) (lk := lk) (lc := lc) (r := r) hv hb hw2 hV hf hfl hf0 hH hH1 hT hX
      exact ⟨told, chg, _, top, frac, _, wh9, fu9, e1, e2, e3, e4⟩
