set_option maxHeartbeats 1000000 in
set_option maxRecDepth 100000 in
theorem law_loop {p : Program} {l : Launch} {e : Env} {s : State} {m : MethodId} {below : List Frame} {meth : Method} {c : Code} {b L : Nat} {xs : Nat → Int32} {dC : Nat → ClassId} {dI : Nat → Nat → Nat} {cI cL cO cA cB cC : ClassId} {h0 qt qf qo hm pt pf pb : Nat} (hfl : l.stackTraces = false) (hL : L ≤ 4608) (C0 : lw_At p s m meth c b L xs) (hE : xe (fun q : Nat => s.heap.size ≤ q) s s.heap) (hK : va_K (dC, dI) vwCl [(cO, .long), (cI, .int), (cL, .long), (cA, .int), (cB, .long), (cC, .int)] s) :
    ∀ (n j : Nat) (x : XS) (u : MS) (fo : Nat → Int64) (x4 : Int32) (cells slots : Nat), x4 = nI (9 * j) → 9 * j ≤ L → L + 1 ≤ 9 * j + n → cells ≤ 9 + j → slots ≤ 200 + 6 * j → RL9 x u → ∀ {H : Heap} {locs : List Loc} {ls : Array Slot}, va_P (dC, dI) vwCl [(qo, .inl (cO, 1, .inr (.inl fo))), (h0, .inr (0, [.ref qt, .ref qf, .int x.2.2.1, .int x.2.2.2.1, .int x.2.2.2.2.1, .int x.2.2.2.2.2])), (qt, .inl (cI, 8, .inl x.1)), (qf, .inl (cL, 8, .inr (.inl x.2.1))), (hm, .inr (1, [.int u.2.2.2.1, .int u.2.2.2.2.1, .ref pt, .ref pf, .ref pb, .int u.2.2.2.2.2.1, .int u.2.2.2.2.2.2.1, .int u.2.2.2.2.2.2.2.1, .long u.2.2.2.2.2.2.2.2.1, .int u.2.2.2.2.2.2.2.2.2.1, .int u.2.2.2.2.2.2.2.2.2.2.1, .int u.2.2.2.2.2.2.2.2.2.2.2.1, .int u.2.2.2.2.2.2.2.2.2.2.2.2.1, .int u.2.2.2.2.2.2.2.2.2.2.2.2.2.1, .long u.2.2.2.2.2.2.2.2.2.2.2.2.2.2])), (pt, .inl (cA, 8, .inl u.1)), (pf, .inl (cB, 8, .inr (.inl u.2.1))), (pb, .inl (cC, 129, .inl u.2.2.1))] H → va_D (fun q : Nat => s.heap.size ≤ q) [(qo, .inl (cO, 1, .inr (.inl fo))), (h0, .inr (0, [.ref qt, .ref qf, .int x.2.2.1, .int x.2.2.2.1, .int x.2.2.2.2.1, .int x.2.2.2.2.2])), (qt, .inl (cI, 8, .inl x.1)), (qf, .inl (cL, 8, .inr (.inl x.2.1))), (hm, .inr (1, [.int u.2.2.2.1, .int u.2.2.2.2.1, .ref pt, .ref pf, .ref pb, .int u.2.2.2.2.2.1, .int u.2.2.2.2.2.2.1, .int u.2.2.2.2.2.2.2.1, .long u.2.2.2.2.2.2.2.2.1, .int u.2.2.2.2.2.2.2.2.2.1, .int u.2.2.2.2.2.2.2.2.2.2.1, .int u.2.2.2.2.2.2.2.2.2.2.2.1, .int u.2.2.2.2.2.2.2.2.2.2.2.2.1, .int u.2.2.2.2.2.2.2.2.2.2.2.2.2.1, .long u.2.2.2.2.2.2.2.2.2.2.2.2.2.2])), (pt, .inl (cA, 8, .inl u.1)), (pf, .inl (cB, 8, .inr (.inl u.2.1))), (pb, .inl (cC, 129, .inl u.2.2.1))] → va_S (fun q : Nat => s.heap.size ≤ q) s.heap H locs → lv_has ls 7 [(0, .ref b), (1, .ref h0), (2, .ref hm), (3, .ref qo), (4, .int x4)] → W p l e room_1 s m #[Value.ref b] below meth c H locs cells slots (lw_Z below #[Value.ref b] s) (F0 m 23 ls []) := by
  obtain ⟨hx, hb, hr, hml, hown, hts, hX, hbl, hlocks, hgv⟩ := C0
  have hts := fun w h => hts w (wsL_law_in w h)
  have hA : ∀ q : Nat, s.heap.size ≤ q → (fun q : Nat => s.heap.size ≤ q) q := fun _ h => h
  have hbA : ¬ (fun q : Nat => s.heap.size ≤ q) b := Nat.not_le.mpr hbl
  intro n
  induction n with
  | zero => intro j x u fo x4 cells slots e4 h1 h2; omega
  | succ n ih =>
    intro j x u fo x4 cells slots e4 h1 h2 hc1 hs1 hR H locs ls hP hD hS hl
    refine lv_iload hx hb dL_law_23 (lv_at hl 4 rfl) ?_
    refine lv_aload_n hx hb dL_law_25 rfl (lv_at hl 0 rfl) ?_
    refine va_slen hx hb hX hbl hbA hS dL_law_26 ?_
    refine lv_bipush (v := 9) hx hb dL_law_27 (by decide) ?_
    refine lv_isub hx hb dL_law_29 ?_
    refine lv_icmp_gt (tgt := 716) hx hb dL_law_30 (by decide) (fun c_10 => ?_) (fun c_10 => ?_)
    · refine lv_iconst (v := 1) hx hb dL_law_716 (by decide) ?_
      refine va_forget (fun q hq => hS.2.2 q hq) ?_
      refine W.widen (k := 1043) (n := 8441) (by omega) (by omega) ?_
      exact lw_ret hx hb hr hlocks dL_law_717
    · have h9 : 9 * j + 9 ≤ L := by
        rw [e4, Int32.lt_iff_toInt_lt] at c_10
        have e1 : (nI L - 9).toInt = (L : Int) - 9 := by
          have q1 : (nI L).toInt = L := nI_toInt (by omega)
          have q2 : (9 : Int32).toInt = 9 := rfl
          rw [m_sub (by omega) (by omega), q1, q2]
        rw [show (nI (9 * j)).toInt = ((9 * j : Nat) : Int) from nI_toInt (by omega)] at c_10
        have c_11 : ¬ (nI L - 9).toInt < ((9 * j : Nat) : Int) := c_10
        rw [e1] at c_11
        omega
      have hix : ∀ k : Nat, k < 9 → vp_in (x4 + nI k) L := fun k hk => by rw [e4, nI_add]; exact vp_in_nI (by omega) (by omega)
      have hix0 : vp_in x4 L := by rw [e4]; exact vp_in_nI (by omega) (by omega)
      have hcc : cells + 1 ≤ room_1.cells := (show cells + 1 ≤ 1043 by omega)
      have hcs : slots + 6 ≤ room_1.slots := (show slots + 6 ≤ 8441 by omega)
      refine lv_aload_n hx hb dL_law_33 rfl (lv_at hl 0 rfl) ?_
      refine lv_iload hx hb dL_law_34 (lv_at hl 4 rfl) ?_
      refine va_sld hx hb hX hbl hbA hS hix0 dL_law_36 ?_
      refine lv_bipush (v := 7) hx hb dL_law_37 (by decide) ?_
      refine lv_iand hx hb dL_law_39 ?_
      have K : ∀ (x : XS) (u : MS) (fo : Nat → Int64) (H : Heap) (locs : List Loc) (ls : Array Slot), RL9 x u → va_P (dC, dI) vwCl [(qo, .inl (cO, 1, .inr (.inl fo))), (h0, .inr (0, [.ref qt, .ref qf, .int x.2.2.1, .int x.2.2.2.1, .int x.2.2.2.2.1, .int x.2.2.2.2.2])), (qt, .inl (cI, 8, .inl x.1)), (qf, .inl (cL, 8, .inr (.inl x.2.1))), (hm, .inr (1, [.int u.2.2.2.1, .int u.2.2.2.2.1, .ref pt, .ref pf, .ref pb, .int u.2.2.2.2.2.1, .int u.2.2.2.2.2.2.1, .int u.2.2.2.2.2.2.2.1, .long u.2.2.2.2.2.2.2.2.1, .int u.2.2.2.2.2.2.2.2.2.1, .int u.2.2.2.2.2.2.2.2.2.2.1, .int u.2.2.2.2.2.2.2.2.2.2.2.1, .int u.2.2.2.2.2.2.2.2.2.2.2.2.1, .int u.2.2.2.2.2.2.2.2.2.2.2.2.2.1, .long u.2.2.2.2.2.2.2.2.2.2.2.2.2.2])), (pt, .inl (cA, 8, .inl u.1)), (pf, .inl (cB, 8, .inr (.inl u.2.1))), (pb, .inl (cC, 129, .inl u.2.2.1))] H → va_D (fun q : Nat => s.heap.size ≤ q) [(qo, .inl (cO, 1, .inr (.inl fo))), (h0, .inr (0, [.ref qt, .ref qf, .int x.2.2.1, .int x.2.2.2.1, .int x.2.2.2.2.1, .int x.2.2.2.2.2])), (qt, .inl (cI, 8, .inl x.1)), (qf, .inl (cL, 8, .inr (.inl x.2.1))), (hm, .inr (1, [.int u.2.2.2.1, .int u.2.2.2.2.1, .ref pt, .ref pf, .ref pb, .int u.2.2.2.2.2.1, .int u.2.2.2.2.2.2.1, .int u.2.2.2.2.2.2.2.1, .long u.2.2.2.2.2.2.2.2.1, .int u.2.2.2.2.2.2.2.2.2.1, .int u.2.2.2.2.2.2.2.2.2.2.1, .int u.2.2.2.2.2.2.2.2.2.2.2.1, .int u.2.2.2.2.2.2.2.2.2.2.2.2.1, .int u.2.2.2.2.2.2.2.2.2.2.2.2.2.1, .long u.2.2.2.2.2.2.2.2.2.2.2.2.2.2])), (pt, .inl (cA, 8, .inl u.1)), (pf, .inl (cB, 8, .inr (.inl u.2.1))), (pb, .inl (cC, 129, .inl u.2.2.1))] → va_S (fun q : Nat => s.heap.size ≤ q) s.heap H locs → lv_has ls 7 [(0, .ref b), (1, .ref h0), (2, .ref hm), (3, .ref qo), (4, .int x4)] → W p l e room_1 s m #[Value.ref b] below meth c H locs (cells + 1) (slots + 6) (lw_Z below #[Value.ref b] s) (F0 m 710 ls []) := by
        intro x u fo H locs ls hR hP hD hS hl
        refine lv_iinc (v := x4 + 9) (lv' := [(4, .int (x4 + 9)), (0, .ref b), (1, .ref h0), (2, .ref hm), (3, .ref qo)]) hx hb dL_law_710 hl (k := 4) rfl rfl (by decide) rfl (fun ls hl => ?_)
        refine lv_goto (tgt := 23) hx hb dL_law_713 (by decide) ?_
        exact ih (j + 1) x u fo (x4 + 9) (cells + 1) (slots + 6) (by rw [e4]; exact nI_add (9 * j) 9) (by omega) (by omega) (by omega) (by omega) hR hP hD hS (lv_sub hl [1, 2, 3, 4, 0] rfl)
      generalize hy : (xs x4.toNatClampNeg &&& 7) = y
      by_cases c_20 : y = 0
      · refine lv_tableIn (off := 48) (tgt := 88) hx hb dL_law_40 (by rw [c_20]; decide) (by rw [c_20]; decide) (by rw [c_20]; rfl) (by decide) ?_
        exact lc_control hfl hx hb hml hts hown hX hbl hbA hA hE hK x u fo hR hix0 hix hcc hcs hP hD hS hl K
      by_cases c_21 : y = 1
      · refine lv_tableIn (off := 84) (tgt := 124) hx hb dL_law_40 (by rw [c_21]; decide) (by rw [c_21]; decide) (by rw [c_21]; rfl) (by decide) ?_
        exact lc_set hfl hx hb hml hts hown hX hbl hbA hA hE hK x u fo hR hix0 hix hcc hcs hP hD hS hl K
      by_cases c_22 : y = 2
      · refine lv_tableIn (off := 156) (tgt := 196) hx hb dL_law_40 (by rw [c_22]; decide) (by rw [c_22]; decide) (by rw [c_22]; rfl) (by decide) ?_
        exact lc_part hfl hx hb hml hts hown hX hbl hbA hA hE hK x u fo hR hix0 hix hcc hcs hP hD hS hl K
      by_cases c_23 : y = 3
      · refine lv_tableIn (off := 224) (tgt := 264) hx hb dL_law_40 (by rw [c_23]; decide) (by rw [c_23]; decide) (by rw [c_23]; rfl) (by decide) ?_
        exact lc_make hfl hx hb hml hts hown hX hbl hbA hA hE hK x u fo hR hix0 hix hcc hcs hP hD hS hl K
      by_cases c_24 : y = 4
      · refine lv_tableIn (off := 402) (tgt := 442) hx hb dL_law_40 (by rw [c_24]; decide) (by rw [c_24]; decide) (by rw [c_24]; rfl) (by decide) ?_
        exact lc_again hfl hx hb hml hts hown hX hbl hbA hA hE hK x u fo hR hix0 hix hcc hcs hP hD hS hl K
      by_cases c_25 : y = 5
      · refine lv_tableIn (off := 470) (tgt := 510) hx hb dL_law_40 (by rw [c_25]; decide) (by rw [c_25]; decide) (by rw [c_25]; rfl) (by decide) ?_
        exact lc_last hfl hx hb hml hts hown hX hbl hbA hA hE hK x u fo hR hix0 hix hcc hcs hP hD hS hl K
      by_cases c_26 : y = 6
      · refine lv_tableIn (off := 526) (tgt := 566) hx hb dL_law_40 (by rw [c_26]; decide) (by rw [c_26]; decide) (by rw [c_26]; rfl) (by decide) ?_
        exact lc_compare hfl hx hb hml hts hown hX hbl hbA hA hE hK x u fo hR hix0 hix hcc hcs hP hD hS hl K
      by_cases c_27 : y = 7
      · refine lv_tableIn (off := 594) (tgt := 634) hx hb dL_law_40 (by rw [c_27]; decide) (by rw [c_27]; decide) (by rw [c_27]; rfl) (by decide) ?_
        exact lc_neighbour hfl hx hb hml hts hown hX hbl hbA hA hE hK x u fo hR hix0 hix hcc hcs hP hD hS hl K
      have n_20 := lv_neT c_20 (a := 0) (by decide)
      have n_21 := lv_neT c_21 (a := 1) (by decide)
      have n_22 := lv_neT c_22 (a := 2) (by decide)
      have n_23 := lv_neT c_23 (a := 3) (by decide)
      have n_24 := lv_neT c_24 (a := 4) (by decide)
      have n_25 := lv_neT c_25 (a := 5) (by decide)
      have n_26 := lv_neT c_26 (a := 6) (by decide)
      have n_27 := lv_neT c_27 (a := 7) (by decide)
      refine lv_tableOut (tgt := 710) hx hb dL_law_40 (by omega) (by decide) ?_
      refine W.widen (k := cells + 1) (n := slots + 6) (by omega) (by omega) ?_
      exact K x u fo H locs ls hR hP hD hS hl
set_option maxHeartbeats 1000000 in
set_option maxRecDepth 100000 in
theorem whole_xe {s : State} {b : Nat} (hts : ∀ w ∈ lw_tbl, w.before #[Value.ref b] s = true) (hgv : (Jvm.Cond.and given_1 narrow_1).before #[Value.ref b] s = true) : xe (fun q : Nat => s.heap.size ≤ q) s s.heap := by
  have hg := flat_of_before _ hgv
  have hn : ∀ a : Nat, a < s.heap.size → ¬ (fun q : Nat => s.heap.size ≤ q) a := fun a h9 => Nat.not_le.mpr h9
  have h1 : vx_Zq Bundle.tN "UNASSIGNED_STACK" Bundle.steD (fun q : Nat => s.heap.size ≤ q) s s.heap := vx_Zqof (hts (.laysStatic Bundle.tN "UNASSIGNED_STACK" Bundle.steD) (by decide +kernel)) (hts (.initialized Bundle.tN) (by decide +kernel)) (hg (.isRef (.static Bundle.tN "UNASSIGNED_STACK" Bundle.steD)) (by decide +kernel)) hn
  have h2 : vx_Zq Bundle.tN "SUPPRESSED_SENTINEL" Bundle.listD (fun q : Nat => s.heap.size ≤ q) s s.heap := vx_Zqof (hts (.laysStatic Bundle.tN "SUPPRESSED_SENTINEL" Bundle.listD) (by decide +kernel)) (hts (.initialized Bundle.tN) (by decide +kernel)) (hg (.isRef (.static Bundle.tN "SUPPRESSED_SENTINEL" Bundle.listD)) (by decide +kernel)) hn
  have s27 : ∃ a, vk_R RX0 27 "the control has 16 bits" a s := by
    obtain ⟨a, c, cA, kA, q1, -⟩ := Cond.exactly_spec (args := #[Value.ref b]) (first := s) (o := none) (s := s) (idx := []) (t := .string RX0 27) (cls := "java/lang/String") (hg (.exactly (.string RX0 27) "java/lang/String") (by decide +kernel))
    exact ⟨a, vk_R.of (hts (.stringRef RX0 27 "the control has 16 bits") (by decide +kernel)) q1⟩
  have s37 : ∃ a, vk_R RX0 37 "no such register" a s := by
    obtain ⟨a, c, cA, kA, q1, -⟩ := Cond.exactly_spec (args := #[Value.ref b]) (first := s) (o := none) (s := s) (idx := []) (t := .string RX0 37) (cls := "java/lang/String") (hg (.exactly (.string RX0 37) "java/lang/String") (by decide +kernel))
    exact ⟨a, vk_R.of (hts (.stringRef RX0 37 "no such register") (by decide +kernel)) q1⟩
  have s40 : ∃ a, vk_R RX0 40 "sign and power have 16 bits" a s := by
    obtain ⟨a, c, cA, kA, q1, -⟩ := Cond.exactly_spec (args := #[Value.ref b]) (first := s) (o := none) (s := s) (idx := []) (t := .string RX0 40) (cls := "java/lang/String") (hg (.exactly (.string RX0 40) "java/lang/String") (by decide +kernel))
    exact ⟨a, vk_R.of (hts (.stringRef RX0 40 "sign and power have 16 bits") (by decide +kernel)) q1⟩
  have s56 : ∃ a, vk_R RX0 56 "no such part" a s := by
    obtain ⟨a, c, cA, kA, q1, -⟩ := Cond.exactly_spec (args := #[Value.ref b]) (first := s) (o := none) (s := s) (idx := []) (t := .string RX0 56) (cls := "java/lang/String") (hg (.exactly (.string RX0 56) "java/lang/String") (by decide +kernel))
    exact ⟨a, vk_R.of (hts (.stringRef RX0 56 "no such part") (by decide +kernel)) q1⟩
  have s60 : ∃ a, vk_R RX0 60 "e is beyond 33000" a s := by
    obtain ⟨a, c, cA, kA, q1, -⟩ := Cond.exactly_spec (args := #[Value.ref b]) (first := s) (o := none) (s := s) (idx := []) (t := .string RX0 60) (cls := "java/lang/String") (hg (.exactly (.string RX0 60) "java/lang/String") (by decide +kernel))
    exact ⟨a, vk_R.of (hts (.stringRef RX0 60 "e is beyond 33000") (by decide +kernel)) q1⟩
  have s101 : ∃ a, vk_R RX0 101 "no such part of the last answer" a s := by
    obtain ⟨a, c, cA, kA, q1, -⟩ := Cond.exactly_spec (args := #[Value.ref b]) (first := s) (o := none) (s := s) (idx := []) (t := .string RX0 101) (cls := "java/lang/String") (hg (.exactly (.string RX0 101) "java/lang/String") (by decide +kernel))
    exact ⟨a, vk_R.of (hts (.stringRef RX0 101 "no such part of the last answer") (by decide +kernel)) q1⟩
  have c1 := va_Nw.of rfl (hts (.castable "java/lang/IndexOutOfBoundsException" "java/lang/IndexOutOfBoundsException") (by decide +kernel))
  have c2 := va_Nw.of rfl (hts (.castable "java/lang/IllegalArgumentException" "java/lang/IllegalArgumentException") (by decide +kernel))
  have d1 := va_Nw.of rfl (hts (.declares ⟨"java/lang/RuntimeException", "<init>", "(Ljava/lang/String;)V"⟩) (by decide +kernel))
  have d2 := va_Nw.of rfl (hts (.declares ⟨"java/lang/Exception", "<init>", "(Ljava/lang/String;)V"⟩) (by decide +kernel))
  have d3 := va_Nw.of rfl (hts (.declares ⟨"java/lang/Throwable", "<init>", "(Ljava/lang/String;)V"⟩) (by decide +kernel))
  have n1 : va_Nc "java/lang/IllegalArgumentException" "java/lang/IndexOutOfBoundsException" s := va_Nc.of (hg (.not (.castable "java/lang/IllegalArgumentException" "java/lang/IndexOutOfBoundsException")) (by decide +kernel))
  exact ⟨h1, h2, ⟨c1, c2, d1, d2, d3, n1⟩, s27, s37, s40, s56, s60, s101⟩
theorem inX0w : ∀ w ∈ u_ws RX0 TX0 6, w ∈ wsL_law := fun _ h => List.mem_append_right _ (List.mem_append_left _ h)
theorem inX1w : ∀ w ∈ u_ws RX1 TX1 15, w ∈ wsL_law := fun _ h => List.mem_append_right _ (List.mem_append_right _ (List.mem_append_left _ h))
set_option maxHeartbeats 1000000 in
set_option maxRecDepth 100000 in
theorem whole_start {p : Program} {e : Env} {s : State} {m : MethodId} {below : List Frame} {meth : Method} {c : Code} (l : Launch) (hfl : l.stackTraces = false) {b L : Nat} {xs : Nat → Int32} (hL : L ≤ 4608) (C0 : lw_At p s m meth c b L xs) : W p l e room_1 s m #[Value.ref b] below meth c s.heap [] 0 0 (lw_Z below #[Value.ref b] s) (entryFrame m ([Value.ref b] : List Value).toArray 7) := by
  obtain ⟨hx, hb, hr, hml, hown, hts0, hX, hbl, hlocks, hgv⟩ := id C0
  have hE := whole_xe hts0 hgv
  have hts := fun w h => hts0 w (wsL_law_in w h)
  have hA : ∀ q : Nat, s.heap.size ≤ q → (fun q : Nat => s.heap.size ≤ q) q := fun _ h => h
  obtain ⟨c0, iS0, hKn0⟩ := u_known (C := RX0) (T := TX0) (N := 6) (n := 6) hts inX0w (hts (.instantiable RX0 6) (by decide +kernel))
  obtain ⟨c1, iS1, hKn1⟩ := u_known (C := RX1) (T := TX1) (N := 15) (n := 15) hts inX1w (hts (.instantiable RX1 15) (by decide +kernel))
  obtain ⟨dC, dI, hKc⟩ : ∃ (dC : Nat → ClassId) (dI : Nat → Nat → Nat), ∀ (k : Nat) (q : vw_C), vwCl[k]? = some q → u_Kn s q.1 q.2.1 q.2.2 (dC k) (dI k) := by
    refine ⟨fun k => if k = 0 then c0 else c1, fun k => if k = 0 then iS0 else iS1, ?_⟩
    intro k q hq
    match k, hq with
    | 0, hq => cases hq; exact hKn0
    | 1, hq => cases hq; exact hKn1
    | k + 2, hq => simp [vwCl] at hq
  have hS : va_S (fun q : Nat => s.heap.size ≤ q) s.heap s.heap [] := va_S.rf
  have hK : va_K (dC, dI) vwCl [] s := ⟨hKc, fun k q h => by simp at h⟩
  have hP : va_P (dC, dI) vwCl [] s.heap := fun k q h => by simp at h
  have hD : va_D (fun q : Nat => s.heap.size ≤ q) [] := ⟨fun i j p q h => by simp at h, fun k q h => by simp at h⟩
  have hl := lv_entry ([.ref b]) (n := 7) (Nat.le_of_ble_eq_true rfl)
  rw [lg_entry_eq]
  generalize (lg_sl ([.ref b]) ++ List.replicate (7 - (lg_sl ([.ref b])).length) Slot.unset).toArray = ls at hl ⊢
  have hl : lv_has ls 7 [(0, .ref b)] := hl
  refine va_new (ci := 0) (fs := [.null, .null, .int 0, .int 0, .int 0, .int 0]) (C := RX0) (T := TX0) (N := 6) hx hb hts inX0w tyX0 tyX0_ok hown (hts (.classLink RL 8 RX0) (by decide +kernel)) (hts (.instantiable RX0 6) (by decide +kernel)) (hts (.initialized RX0) (by decide +kernel)) hK hP hD hS hA rfl (fun j hj => by rcases (show j = 0 ∨ j = 1 ∨ j = 2 ∨ j = 3 ∨ j = 4 ∨ j = 5 by omega) with rfl | rfl | rfl | rfl | rfl | rfl <;> rfl) (Nat.le_of_ble_eq_true rfl) (Nat.le_of_ble_eq_true rfl) dL_law_0 (fun q0 H hP hD hS => ?_)
  have hP : va_P (dC, dI) vwCl [(q0, .inr (0, [.null, .null, .int 0, .int 0, .int 0, .int 0]))] H := hP
  have hD : va_D (fun q : Nat => s.heap.size ≤ q) [(q0, .inr (0, [.null, .null, .int 0, .int 0, .int 0, .int 0]))] := hD
  refine W.widen (k := 1) (n := 6) (by decide) (by decide) ?_
  refine lv_dup hx hb dL_law_3 rfl ?_
  have hPc := hP.sub (ws' := [(q0, .inr (0, [.null, .null, .int 0, .int 0, .int 0, .int 0]))]) [0] rfl
  have hDc := hD.sub (ws' := [(q0, .inr (0, [.null, .null, .int 0, .int 0, .int 0, .int 0]))]) [0] (by decide) rfl
  have hKc := hK.sub (tys' := []) [] rfl
  have hFc := va_free (wc := [(q0, .inr (0, [.null, .null, .int 0, .int 0, .int 0, .int 0]))]) hD hS hA [0] rfl
  refine va_callv (va_runI (As := []) (rest := [.ref q0]) ⟨hx, hb, hml, hown, hts⟩ (c_X0_init l dC dI q0 H.size) (cwI 0 hts ggL_law_X0_init rfl rfl rfl (hts (.initialized RX0) (by decide +kernel)) (hts (.methodLink RL 43 yX0_init) (by decide +kernel)) (hts (.instanceMethod yX0_init) (by decide +kernel)) rfl (by decide +kernel) ⟨Nat.le_of_ble_eq_true rfl, Nat.le_of_ble_eq_true rfl⟩) ⟨wr_blind, fun U hU hW => ⟨rfl, by rw [hU], by rw [hU]; exact hPc, va_K.moved hW.alike hKc, hDc.weaken (fun _ _ _ _ => trivial)⟩⟩ rfl rfl hl.1 rfl (lv_room (Nat.le_of_ble_eq_true rfl)) dL_law_4 ⟨Nat.le_of_ble_eq_true rfl, Nat.le_of_ble_eq_true rfl⟩) hS (fun q _ h => hFc q h) hFc (fun y t H1 locs ht hvm hw hB hz1 hk1 hS => ?_)
  obtain ⟨cI, cL, qt, qf⟩ := y
  obtain ⟨hP1, hK1, hD1⟩ := hB
  rw [ht] at hP1
  have hK1 := va_K.moved hvm.symm hK1
  obtain ⟨hP, hD⟩ := va_join (wr := []) (w1 := [(q0, .inr (0, [.ref qt, .ref qf, .int 1023, .int 0, .int 0, .int 0])), (qt, .inl (cI, 8, .inl (fun _ => 0))), (qf, .inl (cL, 8, .inr (.inl (fun _ => 0))))]) hP hD [0] [] rfl rfl (by decide) (by decide) hk1 hFc hP1 hD1
  have hK := (hK.sub (tys' := []) [] rfl).app hK1
  generalize H1 = H at hP hS ⊢
  have hP : va_P (dC, dI) vwCl [(q0, .inr (0, [.ref qt, .ref qf, .int 1023, .int 0, .int 0, .int 0])), (qt, .inl (cI, 8, .inl (fun _ => 0))), (qf, .inl (cL, 8, .inr (.inl (fun _ => 0))))] H := hP
  have hD : va_D (fun q : Nat => s.heap.size ≤ q) [(q0, .inr (0, [.ref qt, .ref qf, .int 1023, .int 0, .int 0, .int 0])), (qt, .inl (cI, 8, .inl (fun _ => 0))), (qf, .inl (cL, 8, .inr (.inl (fun _ => 0))))] := hD
  have hK : va_K (dC, dI) vwCl [(cI, .int), (cL, .long)] s := hK
  refine W.widen (k := 3) (n := 22) (by decide) (by decide) ?_
  refine lv_astore_n (lv' := [(1, .ref q0), (0, .ref b)]) hx hb dL_law_7 rfl hl (by decide) rfl (fun ls hl => ?_)
  refine va_new (ci := 1) (fs := [.int 0, .int 0, .null, .null, .null, .int 0, .int 0, .int 0, .long 0, .int 0, .int 0, .int 0, .int 0, .int 0, .long 0]) (C := RX1) (T := TX1) (N := 15) hx hb hts inX1w tyX1 tyX1_ok hown (hts (.classLink RL 44 RX1) (by decide +kernel)) (hts (.instantiable RX1 15) (by decide +kernel)) (hts (.initialized RX1) (by decide +kernel)) hK hP hD hS hA rfl (fun j hj => by rcases (show j = 0 ∨ j = 1 ∨ j = 2 ∨ j = 3 ∨ j = 4 ∨ j = 5 ∨ j = 6 ∨ j = 7 ∨ j = 8 ∨ j = 9 ∨ j = 10 ∨ j = 11 ∨ j = 12 ∨ j = 13 ∨ j = 14 by omega) with rfl | rfl | rfl | rfl | rfl | rfl | rfl | rfl | rfl | rfl | rfl | rfl | rfl | rfl | rfl <;> rfl) (Nat.le_of_ble_eq_true rfl) (Nat.le_of_ble_eq_true rfl) dL_law_8 (fun hm H hP hD hS => ?_)
  have hP : va_P (dC, dI) vwCl [(q0, .inr (0, [.ref qt, .ref qf, .int 1023, .int 0, .int 0, .int 0])), (qt, .inl (cI, 8, .inl (fun _ => 0))), (qf, .inl (cL, 8, .inr (.inl (fun _ => 0)))), (hm, .inr (1, [.int 0, .int 0, .null, .null, .null, .int 0, .int 0, .int 0, .long 0, .int 0, .int 0, .int 0, .int 0, .int 0, .long 0]))] H := hP
  have hD : va_D (fun q : Nat => s.heap.size ≤ q) [(q0, .inr (0, [.ref qt, .ref qf, .int 1023, .int 0, .int 0, .int 0])), (qt, .inl (cI, 8, .inl (fun _ => 0))), (qf, .inl (cL, 8, .inr (.inl (fun _ => 0)))), (hm, .inr (1, [.int 0, .int 0, .null, .null, .null, .int 0, .int 0, .int 0, .long 0, .int 0, .int 0, .int 0, .int 0, .int 0, .long 0]))] := hD
  refine W.widen (k := 4) (n := 37) (by decide) (by decide) ?_
  refine lv_dup hx hb dL_law_11 rfl ?_
  have hPc := hP.sub (ws' := [(hm, .inr (1, [.int 0, .int 0, .null, .null, .null, .int 0, .int 0, .int 0, .long 0, .int 0, .int 0, .int 0, .int 0, .int 0, .long 0]))]) [3] rfl
  have hDc := hD.sub (ws' := [(hm, .inr (1, [.int 0, .int 0, .null, .null, .null, .int 0, .int 0, .int 0, .long 0, .int 0, .int 0, .int 0, .int 0, .int 0, .long 0]))]) [3] (by decide) rfl
  have hKc := hK.sub (tys' := []) [] rfl
  have hFc := va_free (wc := [(hm, .inr (1, [.int 0, .int 0, .null, .null, .null, .int 0, .int 0, .int 0, .long 0, .int 0, .int 0, .int 0, .int 0, .int 0, .long 0]))]) hD hS hA [3] rfl
  refine va_callv (va_runI (As := []) (rest := [.ref hm]) ⟨hx, hb, hml, hown, hts⟩ (c_X1_init l dC dI hm H.size) (cwI 0 hts ggL_law_X1_init rfl rfl rfl (hts (.initialized RX1) (by decide +kernel)) (hts (.methodLink RL 46 yX1_init) (by decide +kernel)) (hts (.instanceMethod yX1_init) (by decide +kernel)) rfl (by decide +kernel) ⟨Nat.le_of_ble_eq_true rfl, Nat.le_of_ble_eq_true rfl⟩) ⟨wr_blind, fun U hU hW => ⟨rfl, by rw [hU], by rw [hU]; exact hPc, va_K.moved hW.alike hKc, hDc.weaken (fun _ _ _ _ => trivial)⟩⟩ rfl rfl hl.1 rfl (lv_room (Nat.le_of_ble_eq_true rfl)) dL_law_12 ⟨Nat.le_of_ble_eq_true rfl, Nat.le_of_ble_eq_true rfl⟩) hS (fun q _ h => hFc q h) hFc (fun y t H1 locs ht hvm hw hB hz1 hk1 hS => ?_)
  obtain ⟨cA, cB, cC, pt, pf, pb⟩ := y
  obtain ⟨hP1, hK1, hD1⟩ := hB
  rw [ht] at hP1
  have hK1 := va_K.moved hvm.symm hK1
  obtain ⟨hP, hD⟩ := va_join (wr := [(q0, .inr (0, [.ref qt, .ref qf, .int 1023, .int 0, .int 0, .int 0])), (qt, .inl (cI, 8, .inl (fun _ => 0))), (qf, .inl (cL, 8, .inr (.inl (fun _ => 0))))]) (w1 := [(hm, .inr (1, [.int 0, .int 1023, .ref pt, .ref pf, .ref pb, .int 0, .int 0, .int 0, .long 0, .int 0, .int 0, .int 0, .int 0, .int 0, .long 0])), (pt, .inl (cA, 8, .inl (fun _ => 0))), (pf, .inl (cB, 8, .inr (.inl (fun _ => 0)))), (pb, .inl (cC, 129, .inl (fun _ => 0)))]) hP hD [3] [0, 1, 2] rfl rfl (by decide) (by decide) hk1 hFc hP1 hD1
  have hK := (hK.sub (tys' := [(cI, .int), (cL, .long)]) [0, 1] rfl).app hK1
  generalize H1 = H at hP hS ⊢
  have hP : va_P (dC, dI) vwCl [(q0, .inr (0, [.ref qt, .ref qf, .int 1023, .int 0, .int 0, .int 0])), (qt, .inl (cI, 8, .inl (fun _ => 0))), (qf, .inl (cL, 8, .inr (.inl (fun _ => 0)))), (hm, .inr (1, [.int 0, .int 1023, .ref pt, .ref pf, .ref pb, .int 0, .int 0, .int 0, .long 0, .int 0, .int 0, .int 0, .int 0, .int 0, .long 0])), (pt, .inl (cA, 8, .inl (fun _ => 0))), (pf, .inl (cB, 8, .inr (.inl (fun _ => 0)))), (pb, .inl (cC, 129, .inl (fun _ => 0)))] H := hP
  have hD : va_D (fun q : Nat => s.heap.size ≤ q) [(q0, .inr (0, [.ref qt, .ref qf, .int 1023, .int 0, .int 0, .int 0])), (qt, .inl (cI, 8, .inl (fun _ => 0))), (qf, .inl (cL, 8, .inr (.inl (fun _ => 0)))), (hm, .inr (1, [.int 0, .int 1023, .ref pt, .ref pf, .ref pb, .int 0, .int 0, .int 0, .long 0, .int 0, .int 0, .int 0, .int 0, .int 0, .long 0])), (pt, .inl (cA, 8, .inl (fun _ => 0))), (pf, .inl (cB, 8, .inr (.inl (fun _ => 0)))), (pb, .inl (cC, 129, .inl (fun _ => 0)))] := hD
  have hK : va_K (dC, dI) vwCl [(cI, .int), (cL, .long), (cA, .int), (cB, .long), (cC, .int)] s := hK
  refine W.widen (k := 7) (n := 182) (by decide) (by decide) ?_
  refine lv_astore_n (lv' := [(2, .ref hm), (1, .ref q0), (0, .ref b)]) hx hb dL_law_15 rfl hl (by decide) rfl (fun ls hl => ?_)
  refine lv_iconst (v := 1) hx hb dL_law_16 (by decide) ?_
  refine va_newa (atype := .long) (N' := 1) (a0 := (1, .inr (.inl (fun _ => 0)))) (ty := .long) (n := 1) hx hb (hts (.arrayClass .long) (by decide +kernel)) rfl hK hP hD hS hA (fun _ => rfl) (by decide) rfl (by decide) (Nat.le_of_ble_eq_true rfl) (Nat.le_of_ble_eq_true rfl) dL_law_17 (fun qo cO H hK hP hD hS => ?_)
  have hP : va_P (dC, dI) vwCl [(q0, .inr (0, [.ref qt, .ref qf, .int 1023, .int 0, .int 0, .int 0])), (qt, .inl (cI, 8, .inl (fun _ => 0))), (qf, .inl (cL, 8, .inr (.inl (fun _ => 0)))), (hm, .inr (1, [.int 0, .int 1023, .ref pt, .ref pf, .ref pb, .int 0, .int 0, .int 0, .long 0, .int 0, .int 0, .int 0, .int 0, .int 0, .long 0])), (pt, .inl (cA, 8, .inl (fun _ => 0))), (pf, .inl (cB, 8, .inr (.inl (fun _ => 0)))), (pb, .inl (cC, 129, .inl (fun _ => 0))), (qo, .inl (cO, 1, .inr (.inl (fun _ => 0))))] H := hP
  have hD : va_D (fun q : Nat => s.heap.size ≤ q) [(q0, .inr (0, [.ref qt, .ref qf, .int 1023, .int 0, .int 0, .int 0])), (qt, .inl (cI, 8, .inl (fun _ => 0))), (qf, .inl (cL, 8, .inr (.inl (fun _ => 0)))), (hm, .inr (1, [.int 0, .int 1023, .ref pt, .ref pf, .ref pb, .int 0, .int 0, .int 0, .long 0, .int 0, .int 0, .int 0, .int 0, .int 0, .long 0])), (pt, .inl (cA, 8, .inl (fun _ => 0))), (pf, .inl (cB, 8, .inr (.inl (fun _ => 0)))), (pb, .inl (cC, 129, .inl (fun _ => 0))), (qo, .inl (cO, 1, .inr (.inl (fun _ => 0))))] := hD
  have hK : va_K (dC, dI) vwCl [(cI, .int), (cL, .long), (cA, .int), (cB, .long), (cC, .int), (cO, .long)] s := hK
  refine W.widen (k := 8) (n := 183) (by decide) (by decide) ?_
  refine lv_astore_n (lv' := [(3, .ref qo), (2, .ref hm), (1, .ref q0), (0, .ref b)]) hx hb dL_law_19 rfl hl (by decide) rfl (fun ls hl => ?_)
  refine lv_iconst (v := 0) hx hb dL_law_20 (by decide) ?_
  refine lv_istore (lv' := [(4, .int 0), (3, .ref qo), (2, .ref hm), (1, .ref q0), (0, .ref b)]) hx hb dL_law_21 hl (by decide) rfl (fun ls hl => ?_)
  have hP := hP.sub (ws' := [(qo, .inl (cO, 1, .inr (.inl (fun _ => 0)))), (q0, .inr (0, [.ref qt, .ref qf, .int 1023, .int 0, .int 0, .int 0])), (qt, .inl (cI, 8, .inl (fun _ => 0))), (qf, .inl (cL, 8, .inr (.inl (fun _ => 0)))), (hm, .inr (1, [.int 0, .int 1023, .ref pt, .ref pf, .ref pb, .int 0, .int 0, .int 0, .long 0, .int 0, .int 0, .int 0, .int 0, .int 0, .long 0])), (pt, .inl (cA, 8, .inl (fun _ => 0))), (pf, .inl (cB, 8, .inr (.inl (fun _ => 0)))), (pb, .inl (cC, 129, .inl (fun _ => 0)))]) [7, 0, 1, 2, 3, 4, 5, 6] rfl
  have hD := hD.sub (ws' := [(qo, .inl (cO, 1, .inr (.inl (fun _ => 0)))), (q0, .inr (0, [.ref qt, .ref qf, .int 1023, .int 0, .int 0, .int 0])), (qt, .inl (cI, 8, .inl (fun _ => 0))), (qf, .inl (cL, 8, .inr (.inl (fun _ => 0)))), (hm, .inr (1, [.int 0, .int 1023, .ref pt, .ref pf, .ref pb, .int 0, .int 0, .int 0, .long 0, .int 0, .int 0, .int 0, .int 0, .int 0, .long 0])), (pt, .inl (cA, 8, .inl (fun _ => 0))), (pf, .inl (cB, 8, .inr (.inl (fun _ => 0)))), (pb, .inl (cC, 129, .inl (fun _ => 0)))]) [7, 0, 1, 2, 3, 4, 5, 6] (by decide) rfl
  exact law_loop hfl hL C0 hE (hK.sub (tys' := [(cO, .long), (cI, .int), (cL, .long), (cA, .int), (cB, .long), (cC, .int)]) [5, 0, 1, 2, 3, 4] rfl) (L + 1) 0 ((fun _ => 0), (fun _ => 0), 1023, 0, 0, 0) ((fun _ => 0), (fun _ => 0), (fun _ => 0), 0, 1023, 0, 0, 0, 0, 0, 0, 0, 0, 0, 0) (fun _ => 0) 0 8 183 rfl (Nat.zero_le L) (by omega) (by decide) (by decide) RL9_0 hP hD hS (lv_sub hl [4, 3, 2, 1, 0] rfl)
