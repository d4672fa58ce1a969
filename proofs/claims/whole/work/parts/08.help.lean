/-! rows of our own: joins of roads, readers and writers called on a whole world -/
section WH
variable {p : Program} {l : Launch} {e : Env} {R : Room} {s : State} {m : MethodId} {args : Array Value} {below : List Frame} {meth : Method} {c : Code} {H : Heap} {locs : List Loc} {cells slots : Nat} {Q : State → Prop} {pc : Nat} {ls : Array Slot} {rest : List Value}
theorem w_join {g : JFrame} (gJ : JFrame) (hj : W p l e R s m args below meth c H locs cells slots Q gJ) (k : W p l e R s m args below meth c H locs cells slots Q gJ → W p l e R s m args below meth c H locs cells slots Q g) : W p l e R s m args below meth c H locs cells slots Q g := k hj
theorem w_asi {x y : Int32} (h : y = x) (k : W p l e R s m args below meth c H locs cells slots Q (F0 m pc ls (.int y :: rest))) : W p l e R s m args below meth c H locs cells slots Q (F0 m pc ls (.int x :: rest)) := h ▸ k
theorem w_asl {x y : Int64} (h : y = x) (k : W p l e R s m args below meth c H locs cells slots Q (F0 m pc ls (.long y :: rest))) : W p l e R s m args below meth c H locs cells slots Q (F0 m pc ls (.long x :: rest)) := h ▸ k
end WH
/-- a reader's start: the world ws is there -/
def rd_Pc (D : va_G) (ws : va_W) (tys : List (ClassId × FieldType)) (av : List Value) : Array Value → State → Prop := va_Pc av (fun U => va_P D vwCl ws U.heap ∧ va_K D vwCl tys U)
theorem rd_blind {D : va_G} {ws : va_W} {tys : List (ClassId × FieldType)} {av : List Value} : FrameBlind (rd_Pc D ws tys av) := fun a U g mk q => ⟨q.1, q.2.1, va_K.moved (u := U) (U := U.calling g mk a) (Vm.Alike.refl U.vm) q.2.2⟩
theorem rd_preV {s : State} {H : Heap} {D : va_G} {ws : va_W} {tys : List (ClassId × FieldType)} {C : String} {T : u_T} {N ci b : Nat} {fs As : List Value} (hK : va_K D vwCl tys s) (hP : va_P D vwCl ws H) (he : ws[0]? = some (b, .inr (ci, fs))) (hc : vwCl[ci]? = some (C, T, N)) : PreV s H C b (rd_Pc D ws tys (.ref b :: As)) As :=
  ⟨rd_blind, va_recv hK hP (ci := ci) (q0 := 0) hc he, fun U hU hW => ⟨rfl, by rw [hU]; exact hP, va_K.moved hW.alike hK⟩⟩
theorem pu_pre {s : State} {H : Heap} {As : List Value} : PreS s H (va_Pc As (fun _ => True)) As := ⟨fun _ _ _ _ q => q, fun _ _ _ => ⟨rfl, trivial⟩⟩
/-- a writer's start -/
def wr_Pc (D : va_G) (ws : va_W) (tys : List (ClassId × FieldType)) (sz : Nat) (av : List Value) : Array Value → State → Prop := va_Pc av (fun U => U.heap.size = sz ∧ va_P D vwCl ws U.heap ∧ va_K D vwCl tys U ∧ va_D (fun _ => True) ws)
theorem wr_blind {D : va_G} {ws : va_W} {tys : List (ClassId × FieldType)} {sz : Nat} {av : List Value} : FrameBlind (wr_Pc D ws tys sz av) := fun a U g mk q => ⟨q.1, q.2.1, q.2.2.1, va_K.moved (u := U) (U := U.calling g mk a) (Vm.Alike.refl U.vm) q.2.2.2.1, q.2.2.2.2⟩
theorem wr_preV {s : State} {H : Heap} {D : va_G} {ws : va_W} {tys : List (ClassId × FieldType)} {C : String} {T : u_T} {N ci b : Nat} {fs As : List Value} {A : Nat → Prop} (hK : va_K D vwCl tys s) (hP : va_P D vwCl ws H) (hD : va_D A ws) (he : ws[0]? = some (b, .inr (ci, fs))) (hc : vwCl[ci]? = some (C, T, N)) : PreV s H C b (wr_Pc D ws tys H.size (.ref b :: As)) As :=
  ⟨wr_blind, va_recv hK hP (ci := ci) (q0 := 0) hc he, fun U hU hW => ⟨rfl, by rw [hU], by rw [hU]; exact hP, va_K.moved hW.alike hK, hD.weaken (fun _ _ _ _ => trivial)⟩⟩
/-- a writer's end: the answer and the state are v -/
def wr_Qi (D : va_G) {S : Type} (W1 : S → va_W) (v : Int32 × S) (A : Nat → Prop) : Array Value → State → Outcome → State → Prop := va_Qi (fun r u => (r, u) = v) (fun u t => va_P D vwCl (W1 u) t.heap ∧ va_D A (W1 u)) A
def wr_Ql (D : va_G) {S : Type} (W1 : S → va_W) (v : Int64 × S) (A : Nat → Prop) : Array Value → State → Outcome → State → Prop := va_Ql (fun r u => (r, u) = v) (fun u t => va_P D vwCl (W1 u) t.heap ∧ va_D A (W1 u)) A
def wr_Qv (D : va_G) {S : Type} (W1 : S → va_W) (v : S) (A : Nat → Prop) : Array Value → State → Outcome → State → Prop := va_Qv (fun u => u = v) (fun u t => va_P D vwCl (W1 u) t.heap ∧ va_D A (W1 u)) A
theorem wr_in {A : Nat → Prop} {ws : va_W} {H0 H : Heap} {locs : List Loc} (hD : va_D A ws) (hS : va_S A H0 H locs) (hA : ∀ q, H0.size ≤ q → A q) : ∀ q, va_A ws H.size q → A q := by
  intro q h
  rcases h with ⟨k, e, hk⟩ | h
  · exact hD.2 k _ hk
  · exact hA q (Nat.le_trans hS.1 h)
section WC
variable {p : Program} {l : Launch} {e : Env} {R : Room} {s : State} {m : MethodId} {args : Array Value} {below : List Frame} {meth : Method} {c : Code} {H H0 : Heap} {locs : List Loc} {cells slots mc ms : Nat} {Q : State → Prop} {pc : Nat} {ls : Array Slot} {rest st0 : List Value} {A : Nat → Prop} {D : va_G} {ws : va_W} {a : Array Value} {S : Type} {W1 : S → va_W}
theorem wr_calli {v v9 : Int32 × S} (hr : va_Run p l e R s m args below meth c H locs cells slots mc ms (F0 m pc ls st0) rest (wr_Qi D W1 v (va_A ws H.size) a) (va_A ws H.size)) (hv : v = v9) (hD : va_D A ws) (hS : va_S A H0 H locs) (hA : ∀ q, H0.size ≤ q → A q)
    (kk : ∀ (H1 : Heap) (locs1 : List Loc), va_P D vwCl (W1 v9.2) H1 → va_D A (W1 v9.2) → va_S A H0 H1 locs1 → W p l e R s m args below meth c H1 locs1 (cells + mc) (slots + ms) Q (F0 m (pc + 3) ls (.int v9.1 :: rest))) : W p l e R s m args below meth c H locs cells slots Q (F0 m pc ls st0) := by
  subst hv
  refine va_calli hr hS (fun q _ h => wr_in hD hS hA q h) (wr_in hD hS hA) (fun r u t H1 locs1 ht hvm hw hB hz1 hk1 hS1 => ?_)
  subst hw
  rw [ht] at hB
  exact kk H1 locs1 hB.1 (hB.2.weaken (fun _ _ _ h => wr_in hD hS hA _ h)) hS1
theorem wr_calll {v v9 : Int64 × S} (hr : va_Run p l e R s m args below meth c H locs cells slots mc ms (F0 m pc ls st0) rest (wr_Ql D W1 v (va_A ws H.size) a) (va_A ws H.size)) (hv : v = v9) (hD : va_D A ws) (hS : va_S A H0 H locs) (hA : ∀ q, H0.size ≤ q → A q)
    (kk : ∀ (H1 : Heap) (locs1 : List Loc), va_P D vwCl (W1 v9.2) H1 → va_D A (W1 v9.2) → va_S A H0 H1 locs1 → W p l e R s m args below meth c H1 locs1 (cells + mc) (slots + ms) Q (F0 m (pc + 3) ls (.long v9.1 :: rest))) : W p l e R s m args below meth c H locs cells slots Q (F0 m pc ls st0) := by
  subst hv
  refine va_calll hr hS (fun q _ h => wr_in hD hS hA q h) (wr_in hD hS hA) (fun r u t H1 locs1 ht hvm hw hB hz1 hk1 hS1 => ?_)
  subst hw
  rw [ht] at hB
  exact kk H1 locs1 hB.1 (hB.2.weaken (fun _ _ _ h => wr_in hD hS hA _ h)) hS1
theorem wr_callv {v v9 : S} (hr : va_Run p l e R s m args below meth c H locs cells slots mc ms (F0 m pc ls st0) rest (wr_Qv D W1 v (va_A ws H.size) a) (va_A ws H.size)) (hv : v = v9) (hD : va_D A ws) (hS : va_S A H0 H locs) (hA : ∀ q, H0.size ≤ q → A q)
    (kk : ∀ (H1 : Heap) (locs1 : List Loc), va_P D vwCl (W1 v9) H1 → va_D A (W1 v9) → va_S A H0 H1 locs1 → W p l e R s m args below meth c H1 locs1 (cells + mc) (slots + ms) Q (F0 m (pc + 3) ls rest)) : W p l e R s m args below meth c H locs cells slots Q (F0 m pc ls st0) := by
  subst hv
  refine va_callv hr hS (fun q _ h => wr_in hD hS hA q h) (wr_in hD hS hA) (fun u t H1 locs1 ht hvm hw hB hz1 hk1 hS1 => ?_)
  subst hw
  rw [ht] at hB
  exact kk H1 locs1 hB.1 (hB.2.weaken (fun _ _ _ h => wr_in hD hS hA _ h)) hS1
end WC
/-! the class's state: tops, fractions, word, lastTold, lastK, lastChange -/
abbrev XS : Type := (Nat → Int32) × (Nat → Int64) × Int32 × Int32 × Int32 × Int32
abbrev x_W (cI cL : ClassId) (h0 qt qf : Nat) (ft : Nat → Int32) (ff : Nat → Int64) (w lt lk lc : Int32) : va_W := [(h0, .inr (0, [.ref qt, .ref qf, .int w, .int lt, .int lk, .int lc])), (qt, .inl (cI, 8, .inl ft)), (qf, .inl (cL, 8, .inr (.inl ff)))]
abbrev x_WU (cI cL : ClassId) (h0 qt qf : Nat) (u : XS) : va_W := x_W cI cL h0 qt qf u.1 u.2.1 u.2.2.1 u.2.2.2.1 u.2.2.2.2.1 u.2.2.2.2.2
abbrev x_T (cI cL : ClassId) : List (ClassId × FieldType) := [(cI, .int), (cL, .long)]
theorem x_WU_mk {cI cL : ClassId} {h0 qt qf : Nat} {ft : Nat → Int32} {ff : Nat → Int64} {w lt lk lc : Int32} : x_WU cI cL h0 qt qf (ft, ff, w, lt, lk, lc) = x_W cI cL h0 qt qf ft ff w lt lk lc := rfl
theorem w_eta {α β : Type} (p : α × β) : (p.1, p.2) = p := rfl
