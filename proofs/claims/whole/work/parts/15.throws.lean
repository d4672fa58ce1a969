/-! exceptions that leave the class: 1 an index beyond the registers, 2 a wrong argument -/
def tw_E (k : Nat) (E : String) : Prop := (k = 1 ∧ E = "java/lang/IndexOutOfBoundsException") ∨ (k = 2 ∧ E = "java/lang/IllegalArgumentException")
theorem tw_E1 : tw_E 1 "java/lang/IndexOutOfBoundsException" := Or.inl ⟨rfl, rfl⟩
theorem tw_E2 : tw_E 2 "java/lang/IllegalArgumentException" := Or.inr ⟨rfl, rfl⟩
def xB1 : List Cond := [.castable "java/lang/IndexOutOfBoundsException" "java/lang/IndexOutOfBoundsException", .declares ⟨"java/lang/RuntimeException", "<init>", "(Ljava/lang/String;)V"⟩, .declares ⟨"java/lang/Exception", "<init>", "(Ljava/lang/String;)V"⟩, .declares ⟨"java/lang/Throwable", "<init>", "(Ljava/lang/String;)V"⟩]
def xB2 : List Cond := [.castable "java/lang/IllegalArgumentException" "java/lang/IllegalArgumentException", .declares ⟨"java/lang/RuntimeException", "<init>", "(Ljava/lang/String;)V"⟩, .declares ⟨"java/lang/Exception", "<init>", "(Ljava/lang/String;)V"⟩, .declares ⟨"java/lang/Throwable", "<init>", "(Ljava/lang/String;)V"⟩]
/-- what the tables give for throws and catches -/
def xv0 (U : State) : Prop := va_Nw (.castable "java/lang/IndexOutOfBoundsException" "java/lang/IndexOutOfBoundsException") U ∧ va_Nw (.castable "java/lang/IllegalArgumentException" "java/lang/IllegalArgumentException") U ∧ va_Nw (.declares ⟨"java/lang/RuntimeException", "<init>", "(Ljava/lang/String;)V"⟩) U ∧ va_Nw (.declares ⟨"java/lang/Exception", "<init>", "(Ljava/lang/String;)V"⟩) U ∧ va_Nw (.declares ⟨"java/lang/Throwable", "<init>", "(Ljava/lang/String;)V"⟩) U ∧ va_Nc "java/lang/IllegalArgumentException" "java/lang/IndexOutOfBoundsException" U
theorem xv0.same {u U : State} (h : u.vm = U.vm) (q : xv0 u) : xv0 U := by
  obtain ⟨c1, c2, d1, d2, d3, n1⟩ := q
  exact ⟨va_Nw.same rfl h c1, va_Nw.same rfl h c2, va_Nw.same rfl h d1, va_Nw.same rfl h d2, va_Nw.same rfl h d3, va_Nc.moved (h ▸ Vm.Alike.refl u.vm) n1⟩
theorem xv0.warm {s U : State} (h : s.WarmedH U.vm) (q : xv0 s) : xv0 U := by
  obtain ⟨c1, c2, d1, d2, d3, n1⟩ := q
  exact ⟨va_Nw.warmC h c1, va_Nw.warmC h c2, va_Nw.warmD h d1, va_Nw.warmD h d2, va_Nw.warmD h d3, va_Nc.moved h.alike n1⟩
def xv (U : State) : Prop := xv0 U ∧ (∃ a, vk_R RX0 27 "the control has 16 bits" a U) ∧ (∃ a, vk_R RX0 37 "no such register" a U) ∧ (∃ a, vk_R RX0 40 "sign and power have 16 bits" a U) ∧ (∃ a, vk_R RX0 56 "no such part" a U) ∧ (∃ a, vk_R RX0 60 "e is beyond 33000" a U) ∧ (∃ a, vk_R RX0 101 "no such part of the last answer" a U)
theorem xv.same {u U : State} (h : u.vm = U.vm) (q : xv u) : xv U := by
  obtain ⟨q0, h27, h37, h40, h56, h60, h101⟩ := q
  exact ⟨q0.same h, h27.elim (fun a k => ⟨a, vk_R.same h.symm k⟩), h37.elim (fun a k => ⟨a, vk_R.same h.symm k⟩), h40.elim (fun a k => ⟨a, vk_R.same h.symm k⟩), h56.elim (fun a k => ⟨a, vk_R.same h.symm k⟩), h60.elim (fun a k => ⟨a, vk_R.same h.symm k⟩), h101.elim (fun a k => ⟨a, vk_R.same h.symm k⟩)⟩
theorem xv.warm {s U : State} (h : s.WarmedH U.vm) (q : xv s) : xv U := by
  obtain ⟨q0, h27, h37, h40, h56, h60, h101⟩ := q
  exact ⟨q0.warm h, h27.elim (fun a k => ⟨a, vk_R.warm h k⟩), h37.elim (fun a k => ⟨a, vk_R.warm h k⟩), h40.elim (fun a k => ⟨a, vk_R.warm h k⟩), h56.elim (fun a k => ⟨a, vk_R.warm h k⟩), h60.elim (fun a k => ⟨a, vk_R.warm h k⟩), h101.elim (fun a k => ⟨a, vk_R.warm h k⟩)⟩
theorem xv_s27 {U : State} (q : xv U) : ∃ a, vk_R RX0 27 "the control has 16 bits" a U := q.2.1
theorem xv_s37 {U : State} (q : xv U) : ∃ a, vk_R RX0 37 "no such register" a U := q.2.2.1
theorem xv_s40 {U : State} (q : xv U) : ∃ a, vk_R RX0 40 "sign and power have 16 bits" a U := q.2.2.2.1
theorem xv_s56 {U : State} (q : xv U) : ∃ a, vk_R RX0 56 "no such part" a U := q.2.2.2.2.1
theorem xv_s60 {U : State} (q : xv U) : ∃ a, vk_R RX0 60 "e is beyond 33000" a U := q.2.2.2.2.2.1
theorem xv_s101 {U : State} (q : xv U) : ∃ a, vk_R RX0 101 "no such part of the last answer" a U := q.2.2.2.2.2.2
theorem xv_B1 {s : State} {args : Array Value} (q : xv s) : ∀ w ∈ xB1, w.before args s = true := vx_c (va_Nw.use rfl q.1.1) (vx_c (va_Nw.use rfl q.1.2.2.1) (vx_c (va_Nw.use rfl q.1.2.2.2.1) (vx_c (va_Nw.use rfl q.1.2.2.2.2.1) vx_n)))
theorem xv_B2 {s : State} {args : Array Value} (q : xv s) : ∀ w ∈ xB2, w.before args s = true := vx_c (va_Nw.use rfl q.1.2.1) (vx_c (va_Nw.use rfl q.1.2.2.1) (vx_c (va_Nw.use rfl q.1.2.2.2.1) (vx_c (va_Nw.use rfl q.1.2.2.2.2.1) vx_n)))
theorem xv_c1 {U : State} (q : xv U) : va_Nw (.castable "java/lang/IndexOutOfBoundsException" "java/lang/IndexOutOfBoundsException") U := q.1.1
theorem xv_c2 {U : State} (q : xv U) : va_Nw (.castable "java/lang/IllegalArgumentException" "java/lang/IllegalArgumentException") U := q.1.2.1
theorem xv_nc {U : State} (q : xv U) : va_Nc "java/lang/IllegalArgumentException" "java/lang/IndexOutOfBoundsException" U := q.1.2.2.2.2.2
def xe (A : Nat → Prop) (U : State) (H : Heap) : Prop := vx_Zq Bundle.tN "UNASSIGNED_STACK" Bundle.steD A U H ∧ vx_Zq Bundle.tN "SUPPRESSED_SENTINEL" Bundle.listD A U H ∧ xv U
theorem xe.go {A B : Nat → Prop} {s U : State} {H : Heap} {locs : List Loc} (h : xe A s s.heap) (hS : va_S A s.heap H locs) (hB : ∀ q, B q → A q) (hU : U.heap = H) (hW : s.WarmedH U.vm) : xe B U U.heap := by
  rw [hU]
  exact ⟨((h.1.kept hS.2.1).moved hW.alike).narrow hB, ((h.2.1.kept hS.2.1).moved hW.alike).narrow hB, h.2.2.warm hW⟩
def tw_Pc (D : va_G) (ws : va_W) (tys : List (ClassId × FieldType)) (sz : Nat) (av : List Value) : Array Value → State → Prop := va_Pc av (fun U => U.heap.size = sz ∧ va_P D vwCl ws U.heap ∧ va_K D vwCl tys U ∧ va_D (fun _ => True) ws ∧ xe (va_A ws sz) U U.heap)
theorem tw_blind {D : va_G} {ws : va_W} {tys : List (ClassId × FieldType)} {sz : Nat} {av : List Value} : FrameBlind (tw_Pc D ws tys sz av) := fun a U g mk q => ⟨q.1, q.2.1, q.2.2.1, va_K.moved (u := U) (U := U.calling g mk a) (Vm.Alike.refl U.vm) q.2.2.2.1, q.2.2.2.2.1, vx_Zq.moved (u := U) (U := U.calling g mk a) (Vm.Alike.refl U.vm) q.2.2.2.2.2.1, vx_Zq.moved (u := U) (U := U.calling g mk a) (Vm.Alike.refl U.vm) q.2.2.2.2.2.2.1, xv.same (u := U) (U := U.calling g mk a) rfl q.2.2.2.2.2.2.2⟩
theorem tw_preV {s : State} {H : Heap} {D : va_G} {ws : va_W} {tys : List (ClassId × FieldType)} {C : String} {T : u_T} {N ci b : Nat} {fs As : List Value} {A : Nat → Prop} (hK : va_K D vwCl tys s) (hP : va_P D vwCl ws H) (hD : va_D A ws) (hE : ∀ U : State, U.heap = H → s.WarmedH U.vm → xe (va_A ws H.size) U U.heap) (he : ws[0]? = some (b, .inr (ci, fs))) (hc : vwCl[ci]? = some (C, T, N)) : PreV s H C b (tw_Pc D ws tys H.size (.ref b :: As)) As :=
  ⟨tw_blind, va_recv hK hP (ci := ci) (q0 := 0) hc he, fun U hU hW => ⟨rfl, by rw [hU], by rw [hU]; exact hP, va_K.moved hW.alike hK, hD.weaken (fun _ _ _ _ => trivial), hE U hU hW⟩⟩
theorem tw_preS {s : State} {H : Heap} {D : va_G} {ws : va_W} {tys : List (ClassId × FieldType)} {As : List Value} {A : Nat → Prop} (hK : va_K D vwCl tys s) (hP : va_P D vwCl ws H) (hD : va_D A ws) (hE : ∀ U : State, U.heap = H → s.WarmedH U.vm → xe (va_A ws H.size) U U.heap) : PreS s H (tw_Pc D ws tys H.size As) As :=
  ⟨tw_blind, fun U hU hW => ⟨rfl, by rw [hU], by rw [hU]; exact hP, va_K.moved hW.alike hK, hD.weaken (fun _ _ _ _ => trivial), hE U hU hW⟩⟩
def tw_Qi (D : va_G) {S : Type} (W1 : S → va_W) (v : Nat × Int32 × S) (A : Nat → Prop) : Array Value → State → Outcome → State → Prop := va_Qi (fun r u => ((0 : Nat), r, u) = v) (fun u t => va_P D vwCl (W1 u) t.heap ∧ va_D A (W1 u)) A
def tw_Qv (D : va_G) {S : Type} (W1 : S → va_W) (v : Nat × S) (A : Nat → Prop) : Array Value → State → Outcome → State → Prop := va_Qv (fun u => ((0 : Nat), u) = v) (fun u t => va_P D vwCl (W1 u) t.heap ∧ va_D A (W1 u)) A
def tw_X (D : va_G) (ws : va_W) (k : Nat) (A : Nat → Prop) : String → State → State → Prop := vx_X (S := Unit) (fun _ => True) (fun E _ t => tw_E k E ∧ va_P D vwCl ws t.heap) A
theorem tw_x {D : va_G} {ws : va_W} {k : Nat} {A : Nat → Prop} {E : String} {s : State} {H : Heap} {locs : List Loc} (hE : tw_E k E) (hP : va_P D vwCl ws H) (hS : va_S A s.heap H locs) : ∀ t : State, s.vm.Alike t.vm → H.size ≤ t.heap.size → (∀ q : Nat, q < H.size → t.heap[q]? = H[q]?) → tw_X D ws k A E s t :=
  fun t _ h1 h2 => ⟨(), trivial, ⟨hE, hP.kept (fun _ q hj => h2 q.1 (hP _ q hj).lt)⟩, Nat.le_trans hS.1 h1, fun q hq hA => (h2 q (Nat.lt_of_lt_of_le hq hS.1)).trans (hS.2.1 q hq hA)⟩
section TWC
variable {p : Program} {l : Launch} {e : Env} {R : Room} {s : State} {m : MethodId} {args : Array Value} {below : List Frame} {meth : Method} {c : Code} {H H0 : Heap} {locs : List Loc} {cells slots mc ms : Nat} {Q : State → Prop} {pc : Nat} {ls : Array Slot} {rest st0 : List Value} {A : Nat → Prop} {D : va_G} {ws wc wr : va_W} {a : Array Value} {S : Type} {W1 : S → va_W}
theorem tw_calli {v : Nat × Int32 × S} (hr : vx_Run p l e R s m args below meth c H locs cells slots mc ms (F0 m pc ls st0) rest (tw_Qi D W1 v (va_A wc H.size) a) (tw_X D wc v.1 (va_A wc H.size)) (va_A wc H.size)) (hP : va_P D vwCl ws H) (hD : va_D A ws) (hS : va_S A H0 H locs) (hA : ∀ q, H0.size ≤ q → A q) (isC isR : List Nat) (hC : isC.map (fun i => ws[i]?) = wc.map some) (hR : isR.map (fun i => ws[i]?) = wr.map some) (hnC : va_nd isC = true) (hn : va_nd isR = true) (hdis : ∀ i ∈ isR, i ∉ isC)
    (kx : ∀ (E : String) (ce : Cell) (q9 : Addr) (H1 : Heap) (locs1 : List Loc), tw_E v.1 E → va_P D vwCl (wr ++ wc) H1 → va_D A (wr ++ wc) → va_S A H0 H1 locs1 → H1[q9]? = some ce → ce.vm = .none → s.vm.findClass E = some ce.cls → vx_W p l e R s m args below meth c H1 locs1 (cells + mc) (slots + ms) Q (F0 m pc ls rest) q9)
    (kk : v.1 = 0 → ∀ (H1 : Heap) (locs1 : List Loc), va_P D vwCl (wr ++ W1 v.2.2) H1 → va_D A (wr ++ W1 v.2.2) → va_S A H0 H1 locs1 → W p l e R s m args below meth c H1 locs1 (cells + mc) (slots + ms) Q (F0 m (pc + 3) ls (.int v.2.1 :: rest))) : W p l e R s m args below meth c H locs cells slots Q (F0 m pc ls st0) := by
  have hF := va_free (wc := wc) hD hS hA isC hC
  refine vx_calli hr hS (fun q _ h => hF q h) hF (fun q _ h => hF q h) ?_ ?_
  · intro E ce q9 u t H1 locs1 ht hvm hp hB hz hk hS1 hce hcv hcl
    obtain ⟨hB1, hB2⟩ := hB
    rw [ht] at hB2
    obtain ⟨hP1, hD1⟩ := va_join (wr := wr) (w1 := wc) hP hD isC isR hC hR hn hdis hk hF hB2 (hD.sub isC hnC hC).self
    exact kx E ce q9 H1 locs1 hB1 hP1 hD1 hS1 hce hcv hcl
  · intro r u t H1 locs1 ht hvm hw hB hz hk hS1
    subst hw
    obtain ⟨hB1, hB2⟩ := hB
    rw [ht] at hB1
    obtain ⟨hP1, hD1⟩ := va_join (wr := wr) (w1 := W1 u) hP hD isC isR hC hR hn hdis hk hF hB1 hB2
    exact kk rfl H1 locs1 hP1 hD1 hS1
theorem tw_callv {v : Nat × S} (hr : vx_Run p l e R s m args below meth c H locs cells slots mc ms (F0 m pc ls st0) rest (tw_Qv D W1 v (va_A wc H.size) a) (tw_X D wc v.1 (va_A wc H.size)) (va_A wc H.size)) (hP : va_P D vwCl ws H) (hD : va_D A ws) (hS : va_S A H0 H locs) (hA : ∀ q, H0.size ≤ q → A q) (isC isR : List Nat) (hC : isC.map (fun i => ws[i]?) = wc.map some) (hR : isR.map (fun i => ws[i]?) = wr.map some) (hnC : va_nd isC = true) (hn : va_nd isR = true) (hdis : ∀ i ∈ isR, i ∉ isC)
    (kx : ∀ (E : String) (ce : Cell) (q9 : Addr) (H1 : Heap) (locs1 : List Loc), tw_E v.1 E → va_P D vwCl (wr ++ wc) H1 → va_D A (wr ++ wc) → va_S A H0 H1 locs1 → H1[q9]? = some ce → ce.vm = .none → s.vm.findClass E = some ce.cls → vx_W p l e R s m args below meth c H1 locs1 (cells + mc) (slots + ms) Q (F0 m pc ls rest) q9)
    (kk : v.1 = 0 → ∀ (H1 : Heap) (locs1 : List Loc), va_P D vwCl (wr ++ W1 v.2) H1 → va_D A (wr ++ W1 v.2) → va_S A H0 H1 locs1 → W p l e R s m args below meth c H1 locs1 (cells + mc) (slots + ms) Q (F0 m (pc + 3) ls rest)) : W p l e R s m args below meth c H locs cells slots Q (F0 m pc ls st0) := by
  have hF := va_free (wc := wc) hD hS hA isC hC
  refine vx_callv hr hS (fun q _ h => hF q h) hF (fun q _ h => hF q h) ?_ ?_
  · intro E ce q9 u t H1 locs1 ht hvm hp hB hz hk hS1 hce hcv hcl
    obtain ⟨hB1, hB2⟩ := hB
    rw [ht] at hB2
    obtain ⟨hP1, hD1⟩ := va_join (wr := wr) (w1 := wc) hP hD isC isR hC hR hn hdis hk hF hB2 (hD.sub isC hnC hC).self
    exact kx E ce q9 H1 locs1 hB1 hP1 hD1 hS1 hce hcv hcl
  · intro u t H1 locs1 ht hvm hw hB hz hk hS1
    subst hw
    obtain ⟨hB1, hB2⟩ := hB
    rw [ht] at hB1
    obtain ⟨hP1, hD1⟩ := va_join (wr := wr) (w1 := W1 u) hP hD isC isR hC hR hn hdis hk hF hB1 hB2
    exact kk rfl H1 locs1 hP1 hD1 hS1
/-- a writer's call (wr_Qi ..) on a part of the world; the rest stays -/
theorem wj_calli {v : Int32 × S} (hr : va_Run p l e R s m args below meth c H locs cells slots mc ms (F0 m pc ls st0) rest (wr_Qi D W1 v (va_A wc H.size) a) (va_A wc H.size)) (hP : va_P D vwCl ws H) (hD : va_D A ws) (hS : va_S A H0 H locs) (hA : ∀ q, H0.size ≤ q → A q) (isC isR : List Nat) (hC : isC.map (fun i => ws[i]?) = wc.map some) (hR : isR.map (fun i => ws[i]?) = wr.map some) (hn : va_nd isR = true) (hdis : ∀ i ∈ isR, i ∉ isC)
    (kk : ∀ (H1 : Heap) (locs1 : List Loc), va_P D vwCl (wr ++ W1 v.2) H1 → va_D A (wr ++ W1 v.2) → va_S A H0 H1 locs1 → W p l e R s m args below meth c H1 locs1 (cells + mc) (slots + ms) Q (F0 m (pc + 3) ls (.int v.1 :: rest))) : W p l e R s m args below meth c H locs cells slots Q (F0 m pc ls st0) := by
  have hF := va_free (wc := wc) hD hS hA isC hC
  refine va_calli hr hS (fun q _ h => hF q h) hF (fun r u t H1 locs1 ht hvm hw hB hz hk hS1 => ?_)
  subst hw
  obtain ⟨hB1, hB2⟩ := hB
  rw [ht] at hB1
  obtain ⟨hP1, hD1⟩ := va_join (wr := wr) (w1 := W1 u) hP hD isC isR hC hR hn hdis hk hF hB1 hB2
  exact kk H1 locs1 hP1 hD1 hS1
theorem wj_callv {v : S} (hr : va_Run p l e R s m args below meth c H locs cells slots mc ms (F0 m pc ls st0) rest (wr_Qv D W1 v (va_A wc H.size) a) (va_A wc H.size)) (hP : va_P D vwCl ws H) (hD : va_D A ws) (hS : va_S A H0 H locs) (hA : ∀ q, H0.size ≤ q → A q) (isC isR : List Nat) (hC : isC.map (fun i => ws[i]?) = wc.map some) (hR : isR.map (fun i => ws[i]?) = wr.map some) (hn : va_nd isR = true) (hdis : ∀ i ∈ isR, i ∉ isC)
    (kk : ∀ (H1 : Heap) (locs1 : List Loc), va_P D vwCl (wr ++ W1 v) H1 → va_D A (wr ++ W1 v) → va_S A H0 H1 locs1 → W p l e R s m args below meth c H1 locs1 (cells + mc) (slots + ms) Q (F0 m (pc + 3) ls rest)) : W p l e R s m args below meth c H locs cells slots Q (F0 m pc ls st0) := by
  have hF := va_free (wc := wc) hD hS hA isC hC
  refine va_callv hr hS (fun q _ h => hF q h) hF (fun u t H1 locs1 ht hvm hw hB hz hk hS1 => ?_)
  subst hw
  obtain ⟨hB1, hB2⟩ := hB
  rw [ht] at hB1
  obtain ⟨hP1, hD1⟩ := va_join (wr := wr) (w1 := W1 u) hP hD isC isR hC hR hn hdis hk hF hB1 hB2
  exact kk H1 locs1 hP1 hD1 hS1
end TWC
/-! the class's cells behind the law's own array of one long -/
abbrev w_W (cI cL cO : ClassId) (h0 qt qf qo : Nat) (fo : Nat → Int64) (ft : Nat → Int32) (ff : Nat → Int64) (w lt lk lc : Int32) : va_W := (qo, .inl (cO, 1, .inr (.inl fo))) :: x_W cI cL h0 qt qf ft ff w lt lk lc
abbrev w_WU (cI cL cO : ClassId) (h0 qt qf qo : Nat) (u : XS × (Nat → Int64)) : va_W := (qo, .inl (cO, 1, .inr (.inl u.2))) :: x_WU cI cL h0 qt qf u.1
abbrev w_T (cI cL cO : ClassId) : List (ClassId × FieldType) := [(cO, .long), (cI, .int), (cL, .long)]
theorem w_WU_mk {cI cL cO : ClassId} {h0 qt qf qo : Nat} {fo : Nat → Int64} {ft : Nat → Int32} {ff : Nat → Int64} {w lt lk lc : Int32} : w_WU cI cL cO h0 qt qf qo ((ft, ff, w, lt, lk, lc), fo) = w_W cI cL cO h0 qt qf qo fo ft ff w lt lk lc := rfl
