section
/-! ===== BEGIN words of one list among another's, by their places ===== -/
theorem goodIn_r {big : List Cond} (ws : List Cond) (ps : List Nat) (hp : ws = ps.filterMap (fun i => big[i]?)) (h : ws.all goodWord = true) : GoodIn big ws := by
  intro w hw
  have h1 := List.all_eq_true.mp h w hw
  rw [hp] at hw
  obtain ⟨i, -, hi⟩ := List.mem_filterMap.mp hw
  have hm : w ∈ big := by first | exact List.mem_of_getElem? hi | exact List.getElem?_mem hi
  exact ⟨hm, good_of_word h1⟩
theorem goodIn_app {big a b : List Cond} (ha : GoodIn big a) (hb : GoodIn big b) : GoodIn big (a ++ b) := fun w h => (List.mem_append.mp h).elim (ha w) (hb w)
theorem goodIn_ca {big a b : List Cond} {c : Cond} (ha : GoodIn big (c :: a)) (hb : GoodIn big b) : GoodIn big (c :: (a ++ b)) := fun w h => (List.mem_cons.mp h).elim (fun e => ha w (List.mem_cons.mpr (Or.inl e))) (fun h => (List.mem_append.mp h).elim (fun h => ha w (List.mem_cons.mpr (Or.inr h))) (hb w))
theorem goodIn_sub {big ws : List Cond} (hm : ∀ w ∈ ws, w ∈ big) (h : ws.all goodWord = true) : GoodIn big ws := fun w hw => ⟨hm w hw, good_of_word (List.all_eq_true.mp h w hw)⟩
/-! ===== END ===== -/

/-! ===== BEGIN exceptions that leave a method, and their catching by the caller (launches without stack traces) ===== -/
section VXA
/-! The laws vx_back, vx_callV, vx_callS, vx_callSW, vx_throw0, vx_throwS follow proofs of the library, with one case more: JvmDerived/Free/Laws.lean (Back.of_free), Shelf42/LK1.lean (callV, callS), Shelf/KitTraced.lean (throwNew0V, throwNewS). -/
/-- where a method has thrown q: the class by its name, the cell, what was written, the world -/
def vx_T (XC : String → State → State → Prop) (st : State) (q : Addr) (t : State) (mc ms : Nat) (free : Addr → Prop) : Prop :=
  ∃ (E : String) (ce : Cell) (L : List Loc), XC E st t ∧ t.heap[q]? = some ce ∧ ce.vm = .none ∧ st.vm.findClass E = some ce.cls ∧ st.WarmedH t.vm ∧ st.sameButNew ({ t with vm := st.vm } : State) L mc ms ∧ ∀ z ∈ L, free z.base
def vx_Q (Qc : Array Value → State → Outcome → State → Prop) (XC : String → State → State → Prop) (mc ms : Nat) (free : Addr → Prop) : Array Value → State → Outcome → State → Prop := fun a st o t =>
  (Qc a st o t ∧ ∃ L, FrameEnd st o t L mc ms ∧ ∀ q ∈ L, free q.base) ∨ ∃ q, o = .threw q ∧ vx_T XC st q t mc ms free
/-- a callee that returns or throws -/
def vx_Met (l : Launch) (y : MethodName) (ws : List Cond) (rm : Room) (Pc : Array Value → State → Prop) (Qc : Array Value → State → Outcome → State → Prop) (XC : String → State → State → Prop) (mc ms : Nat) (free : Addr → Prop) : Prop :=
  MetFree l y (headSpec ws rm) Pc (fun _ _ _ _ _ => True) (vx_Q Qc XC mc ms free)
def vx_Post (XC : String → State → State → Prop) (mc ms : Nat) (free : Addr → Prop) : Pt → Array Value → Addr → Pt → Prop := fun A a q B =>
  ∃ (g : JFrame) (mk : MethodId) (t : State) (L : List Loc) (E : String) (ce : Cell), B.U.heap = t.heap ∧ B.U.vm = t.vm ∧ XC E (A.U.calling g mk a) t ∧ t.heap[q]? = some ce ∧ ce.vm = .none ∧ A.U.vm.findClass E = some ce.cls ∧ B.locs = A.locs ++ L ∧ (∀ z ∈ L, free z.base) ∧ B.cells = A.cells + mc ∧ B.slots = A.slots + ms
def vx_Back (l : Launch) (R : Room) (p : Program) (e : Env) (below : List Frame) (s : State) (sargs : Array Value) (y : MethodName) (len W9 : Nat)
    (Pre : Pt → Array Value → Prop) (Post : Pt → Array Value → Option Value → Pt → Prop) (PostX : Pt → Array Value → Addr → Pt → Prop) : Prop :=
  ∀ (m : MethodId) (meth : Method) (c : Code) (A : Pt) (g : JFrame) (ig : Instr) (mk : MethodId) (a : Array Value),
    Stand p l e R s m sargs below meth c A.U A.locs A.cells A.slots → g.method = m → g.locals.size = c.maxLocals → decode c.code g.pc = .ok (ig, len) →
    2 * g.monitorRoom + (g.stack.map fun v => v.category).sum ≤ W9 → A.U.methodNamed? y = some mk → Pre A a →
    (∃ (v : Option Value) (B : Pt), Stand p l e R s m sargs below meth c B.U B.locs B.cells B.slots ∧ Post A a v B ∧
      Steps p.tables e below (doInvoke e (A.U.setTop g) [] mk a).1 (B.U.setTop { g with pc := g.pc + len, stack := v.toList ++ g.stack })) ∨
    (∃ (q : Addr) (B : Pt), Stand p l e R s m sargs below meth c B.U B.locs B.cells B.slots ∧ PostX A a q B ∧
      Steps p.tables e below (doInvoke e (A.U.setTop g) [] mk a).1 ((B.U.setTop g).pushFrame (.throwing q)))
section Payer
variable {l : Launch} {R : Room} {p : Program} {e : Env} {below : List Frame} {s : State} {sargs : Array Value} {y : MethodName} {len W9 : Nat}
theorem vx_back {ws : List Cond} {rm : Room} {Pc : Array Value → State → Prop} {Qc : Array Value → State → Outcome → State → Prop} {XC : String → State → State → Prop} {mc ms : Nat} {free : Addr → Prop} {bytes : ByteArray} {maxL : Nat} {ret : Option FieldType}
    (hM : vx_Met l y ws rm Pc Qc XC mc ms free) (hblind : FrameBlind Pc) (hrc : rm.cells = mc) (hrs : rm.slots = ms)
    (hframes : rm.frames + 1 ≤ R.frames) (hlocals : W9 + (maxL + 11) + rm.locals ≤ R.locals)
    (hws : ∀ w ∈ ws, ∀ a' U, s.WarmedH U.vm → w.before a' U = true) (hcode : Cond.code y bytes maxL ret ∈ ws) (hinit : ∀ a' U, s.WarmedH U.vm → (Cond.initialized y.cls).before a' U = true) :
    vx_Back l R p e below s sargs y len W9 (PreOf R mc ms Pc) (PostOf Qc mc ms free) (vx_Post XC mc ms free) := by
  intro m meth c A g ig mk a X hg hsize hdg hW hn hp
  have h1 : (headSpec ws rm).pre.before a A.U = true := atoms_intro fun w hw => hws w hw _ _ X.warmed
  have h2 : (Cond.code y bytes maxL ret).before a A.U = true := hws _ hcode _ _ X.warmed
  have h3 : (Cond.initialized y.cls).before a A.U = true := hinit _ _ X.warmed
  have h4 : A.cells + (headSpec ws rm).room.cells ≤ R.cells := by rw [show (headSpec ws rm).room.cells = mc from hrc]; exact hp.1
  have h5 : A.slots + (headSpec ws rm).room.slots ≤ R.slots := by rw [show (headSpec ws rm).room.slots = ms from hrs]; exact hp.2.1
  have hPc : Pc a (A.U.calling g mk a) := hblind _ _ _ _ hp.2.2
  obtain ⟨U, Ls, c0, s0⟩ := A
  dsimp only [Pt.U, Pt.locs, Pt.cells, Pt.slots] at h1 h2 h3 h4 h5 X hn hPc ⊢
  obtain ⟨methY, cY, hmY, hcY, -, hlY, -, -, -, -⟩ := Cond.code_spec hn h2
  obtain ⟨kY, hkY, -⟩ := className_of_methodNamed hn
  have hinitY : kY.init = .initialized := Cond.initialized_spec (findClass_of_methodNamed hn) hkY h3
  have h : At U g.method c below := by rw [hg]; exact X.here
  have hlocals9 : W9 + (maxL + 11) + (headSpec ws rm).room.locals ≤ R.locals := hlocals
  have happ : (headSpec ws rm).appliesLoose y e.platform (U.calling g mk a) = true :=
    Spec.appliesLoose_calling (g := g) h hdg hn hkY hinitY
      (X.room_calling (g := g) (R' := (headSpec ws rm).room) hsize hmY hcY hframes (by rw [hlY]; omega) h4 h5) h1
  obtain ⟨mid, hmid⟩ := h.above
  have hfr : (U.setTop g).frames = (.java g :: mid) ++ below := by rw [State.frames_setTop' g h.top, hmid]; rfl
  obtain ⟨o, s₂, hsteps, -, hend, hq⟩ := Steps.callFree hM p X.admits X.cas X.clock (acts := []) hfr happ hPc trivial
  have hq' : vx_Q Qc XC mc ms free a (U.calling g mk a) o s₂ := hq
  rw [State.frames_setTop' g h.top] at hend
  obtain ⟨g₀, hg0⟩ := Option.isSome_iff_exists.mp h.top
  obtain ⟨r, hr⟩ := State.topJava?_eq_some.mp hg0
  have hr' : (({ U with heap := s₂.heap, slotsUsed := s₂.slotsUsed } : State).setVm s₂.vm).frames = .java g₀ :: r := hr
  rcases hq' with ⟨hqc, L, hfe, hL⟩ | ⟨q, rfl, E, ce, L, hx, hce, hcv, hcl, hW₂, hsm, hL⟩
  · obtain ⟨⟨v, rfl⟩, hW₂, e2, q2, q3, q4, q5, q6⟩ := id hfe
    have e3 : s₂ = ({ (U.calling g mk a).setFrames s₂.frames with heap := s₂.heap, slotsUsed := s₂.slotsUsed } : State).setVm s₂.vm := by
      have : s₂ = ({ s₂ with vm := (U.calling g mk a).vm } : State).setVm s₂.vm := rfl
      rw [e2] at this
      exact this
    obtain ⟨c₂, i₂, len₂, hc₂, hd₂, hf₂⟩ := hend
    have hW' : U.WarmedH s₂.vm := hW₂
    have hcc : c₂ = c := by
      have h1 : s₂.code? g.method = U.code? g.method := by
        rw [State.code?_eq, State.code?_eq, hW'.alike.method?]
      exact Option.some.inj (hc₂.symm.trans (h1.trans h.code))
    subst hcc
    have hlen : len₂ = len := by rw [hdg] at hd₂; cases hd₂; rfl
    subst hlen
    have hs₂ : s₂ = (({ U with heap := s₂.heap, slotsUsed := s₂.slotsUsed } : State).setVm s₂.vm).setTop { g with pc := g.pc + len₂, stack := v.toList ++ g.stack } := by
      refine e3.trans ?_
      rw [hf₂, State.calling_eq h.top, State.setFrames_setFrames, State.setTop_of_frames _ hr', hr]
      rfl
    have hsame : U.sameButNew ({ U with heap := s₂.heap, slotsUsed := s₂.slotsUsed } : State) L mc ms := by
      refine ⟨?_, q2, q3, q4, q5, q6⟩
      obtain ⟨t, ht, -⟩ := State.frames_cons hr
      show ({ U with heap := s₂.heap, slotsUsed := s₂.slotsUsed } : State) = { U.setFrames U.frames with heap := s₂.heap, slotsUsed := s₂.slotsUsed }
      rw [State.setFrames_self ht]
    subst hg
    refine Or.inl ⟨v, ⟨(({ U with heap := s₂.heap, slotsUsed := s₂.slotsUsed } : State).setVm s₂.vm), Ls ++ L, c0 + mc, s0 + ms⟩,
      ⟨X.admits, X.cas, X.clock, X.frames, X.room, X.hears, X.method, X.code, (X.here.setHeapUsed s₂.heap s₂.slotsUsed).setVm hW'.alike, X.tail, State.WarmedH.trans X.warmed hW', X.limits, X.bytes, X.same.trans (hsame.setVm s.vm)⟩,
      ⟨g, mk, s₂, L, rfl, rfl, hqc, rfl, hL, rfl, rfl⟩, ?_⟩
    show Steps p.tables e below _ ((({ U with heap := s₂.heap, slotsUsed := s₂.slotsUsed } : State).setVm s₂.vm).setTop { g with pc := g.pc + len₂, stack := v.toList ++ g.stack })
    rw [← hs₂]
    exact hsteps
  · obtain ⟨e2, q2, q3, q4, q5, q6⟩ := id hsm
    have e3 : s₂ = ({ (U.calling g mk a).setFrames s₂.frames with heap := s₂.heap, slotsUsed := s₂.slotsUsed } : State).setVm s₂.vm := by
      have : s₂ = ({ s₂ with vm := (U.calling g mk a).vm } : State).setVm s₂.vm := rfl
      rw [e2] at this
      exact this
    have hf₂ : s₂.frames = .throwing q :: .java g :: U.frames.tail := hend
    have hW' : U.WarmedH s₂.vm := hW₂
    have hs₂ : s₂ = ((({ U with heap := s₂.heap, slotsUsed := s₂.slotsUsed } : State).setVm s₂.vm).setTop g).pushFrame (.throwing q) := by
      refine e3.trans ?_
      rw [hf₂, State.calling_eq h.top, State.setFrames_setFrames, State.pushFrame, State.frames_setTop _ hr', State.setTop_of_frames _ hr', State.setFrames_setFrames, hr]
      rfl
    have hsame : U.sameButNew ({ U with heap := s₂.heap, slotsUsed := s₂.slotsUsed } : State) L mc ms := by
      refine ⟨?_, q2, q3, q4, q5, q6⟩
      obtain ⟨t, ht, -⟩ := State.frames_cons hr
      show ({ U with heap := s₂.heap, slotsUsed := s₂.slotsUsed } : State) = { U.setFrames U.frames with heap := s₂.heap, slotsUsed := s₂.slotsUsed }
      rw [State.setFrames_self ht]
    subst hg
    refine Or.inr ⟨q, ⟨(({ U with heap := s₂.heap, slotsUsed := s₂.slotsUsed } : State).setVm s₂.vm), Ls ++ L, c0 + mc, s0 + ms⟩,
      ⟨X.admits, X.cas, X.clock, X.frames, X.room, X.hears, X.method, X.code, (X.here.setHeapUsed s₂.heap s₂.slotsUsed).setVm hW'.alike, X.tail, State.WarmedH.trans X.warmed hW', X.limits, X.bytes, X.same.trans (hsame.setVm s.vm)⟩,
      ⟨g, mk, s₂, L, E, ce, rfl, rfl, hx, hce, hcv, hcl, rfl, hL, rfl, rfl⟩, ?_⟩
    show Steps p.tables e below _ (((({ U with heap := s₂.heap, slotsUsed := s₂.slotsUsed } : State).setVm s₂.vm).setTop g).pushFrame (.throwing q))
    rw [← hs₂]
    exact hsteps
end Payer
section Calls
variable {p : Program} {l : Launch} {e : Env} {R : Room} {s : State} {m : MethodId} {args : Array Value} {below : List Frame} {meth : Method} {c : Code} {T : State} {locs : List Loc} {cells slots : Nat}
theorem vx_callV (X : Stand p l e R s m args below meth c T locs cells slots) (hexec : p.tables.exec = Jvm.exec) {own C : String} {index : Nat} {y : MethodName} {bytes : ByteArray} {maxL : Nat} {ret : Option FieldType}
    (hown : s.vm.findClass own = some m.cls) (hlink : (Cond.methodLink own index y).before args s = true) (hinst : (Cond.instanceMethod y).before args s = true) (hsel : (Cond.selects C y y).before args s = true)
    (hcode : (Cond.code y bytes maxL ret).before args s = true) (hy : y.cls ≠ "java/lang/invoke/MethodHandle" ∧ y.cls ≠ "java/lang/invoke/VarHandle")
    {W9 : Nat} {Pre : Pt → Array Value → Prop} {Post : Pt → Array Value → Option Value → Pt → Prop} {PostX : Pt → Array Value → Addr → Pt → Prop} (hK : vx_Back l R p e below s args y 3 W9 Pre Post PostX)
    {b : Addr} {cellB : Cell} (hcell : T.heap[b]? = some cellB) (hobj : cellB.vm.isStatics = false) (hcls : s.vm.findClass C = some cellB.cls)
    {g : JFrame} (hg : g.method = m) (hsize : g.locals.size = c.maxLocals) {argsL rest : List Value} (hlen : ∀ sig, parseMethodDescriptor y.desc = some sig → argsL.length = sig.parameters.length)
    (hstack : g.stack = argsL.reverse ++ .ref b :: rest) (hW : 2 * g.monitorRoom + (rest.map fun v => v.category).sum ≤ W9) (hdg : decode c.code g.pc = .ok (.invokevirtual index, 3))
    (hpre : ∀ vm₁, s.WarmedH vm₁ → Pre ⟨T.setVm vm₁, locs, cells, slots⟩ (Value.ref b :: argsL).toArray) :
    (∃ (v : Option Value) (vm₁ : Vm) (B : Pt), s.WarmedH vm₁ ∧ Stand p l e R s m args below meth c B.U B.locs B.cells B.slots ∧ Post ⟨T.setVm vm₁, locs, cells, slots⟩ (Value.ref b :: argsL).toArray v B ∧
      ∀ target, Steps p.tables e below (B.U.setTop { g with pc := g.pc + 3, stack := v.toList ++ rest }) target → Steps p.tables e below (T.setTop g) target) ∨
    (∃ (q : Addr) (vm₁ : Vm) (B : Pt), s.WarmedH vm₁ ∧ Stand p l e R s m args below meth c B.U B.locs B.cells B.slots ∧ PostX ⟨T.setVm vm₁, locs, cells, slots⟩ (Value.ref b :: argsL).toArray q B ∧
      Steps p.tables e below (T.setTop g) ((B.U.setTop { g with stack := rest }).pushFrame (.throwing q))) := by
  obtain ⟨mk, methM, hnamed, hmethM, hstM, habM⟩ := Cond.instanceMethod_spec hinst
  obtain ⟨methM', cM, hmethM', -, -, -, -, -, -, hsigM⟩ := Cond.code_spec hnamed hcode
  cases hmethM.symm.trans hmethM'
  obtain ⟨c2, r2, m2, q1, q2, q3, q4, kP, hkP, hkPi⟩ := Cond.selects_spec hsel
  cases hcls.symm.trans q1
  cases (State.methodFound?_of_named hnamed hy).symm.trans q2
  cases hnamed.symm.trans q3
  have hselP : selectMethod e.platform s.vm cellB.cls mk = .method mk := by rw [Launch.admits_selectMethod X.admits]; exact q4
  obtain ⟨vm₁, X₁, hstep₁⟩ := X.invokevirtual hexec hown hlink hnamed hmethM hstM hkP hkPi hy (a := b) (cell := cellB) hcell
    (fun z h => by rw [h] at hobj; cases hobj) hselP hmethM habM hkP hkPi (g := g) hg (argsL := argsL) (rest := rest) (hlen _ hsigM) hstack hdg
  rcases hK m meth c ⟨T.setVm vm₁, locs, cells, slots⟩ { g with stack := rest } (.invokevirtual index) mk (Value.ref b :: argsL).toArray X₁ hg hsize hdg hW (X₁.named hnamed) (hpre vm₁ X₁.warmed) with ⟨v, B, X', hpost, hsteps⟩ | ⟨q, B, X', hpost, hsteps⟩
  · exact Or.inl ⟨v, vm₁, B, X₁.warmed, X', hpost, fun target h => hstep₁ _ fun acts => by rw [doInvoke_state]; exact hsteps.trans h⟩
  · exact Or.inr ⟨q, vm₁, B, X₁.warmed, X', hpost, hstep₁ _ fun acts => by rw [doInvoke_state]; exact hsteps⟩
theorem vx_callS (X : Stand p l e R s m args below meth c T locs cells slots) (hexec : p.tables.exec = Jvm.exec) {own : String} {index : Nat} {y : MethodName} {bytes : ByteArray} {maxL : Nat} {ret : Option FieldType}
    (hown : s.vm.findClass own = some m.cls) (hlink : (Cond.methodLink own index y).before args s = true) (hstat : (Cond.static y).before args s = true) (hinit : (Cond.initialized y.cls).before args s = true)
    (hcode : (Cond.code y bytes maxL ret).before args s = true) (hy : y.cls ≠ "java/lang/invoke/MethodHandle" ∧ y.cls ≠ "java/lang/invoke/VarHandle")
    {W9 : Nat} {Pre : Pt → Array Value → Prop} {Post : Pt → Array Value → Option Value → Pt → Prop} {PostX : Pt → Array Value → Addr → Pt → Prop} (hK : vx_Back l R p e below s args y 3 W9 Pre Post PostX)
    {g : JFrame} (hg : g.method = m) (hsize : g.locals.size = c.maxLocals) {argsL rest : List Value} (hlen : ∀ sig, parseMethodDescriptor y.desc = some sig → argsL.length = sig.parameters.length)
    (hstack : g.stack = argsL.reverse ++ rest) (hW : 2 * g.monitorRoom + (rest.map fun v => v.category).sum ≤ W9) (hdg : decode c.code g.pc = .ok (.invokestatic index, 3))
    (hpre : ∀ vm₁, s.WarmedH vm₁ → Pre ⟨T.setVm vm₁, locs, cells, slots⟩ argsL.toArray) :
    (∃ (v : Option Value) (vm₁ : Vm) (B : Pt), s.WarmedH vm₁ ∧ Stand p l e R s m args below meth c B.U B.locs B.cells B.slots ∧ Post ⟨T.setVm vm₁, locs, cells, slots⟩ argsL.toArray v B ∧
      ∀ target, Steps p.tables e below (B.U.setTop { g with pc := g.pc + 3, stack := v.toList ++ rest }) target → Steps p.tables e below (T.setTop g) target) ∨
    (∃ (q : Addr) (vm₁ : Vm) (B : Pt), s.WarmedH vm₁ ∧ Stand p l e R s m args below meth c B.U B.locs B.cells B.slots ∧ PostX ⟨T.setVm vm₁, locs, cells, slots⟩ argsL.toArray q B ∧
      Steps p.tables e below (T.setTop g) ((B.U.setTop { g with stack := rest }).pushFrame (.throwing q))) := by
  obtain ⟨mk, hnamed⟩ := Cond.code_named hcode
  obtain ⟨methM, cM, hmethM, -, -, -, -, -, -, hsigM⟩ := Cond.code_spec hnamed hcode
  have hstatic : methM.isStatic = true := Cond.static_spec hnamed hmethM hstat
  obtain ⟨kP, hkP, -⟩ := className_of_methodNamed hnamed
  have hinitP : kP.init = .initialized := Cond.initialized_spec (findClass_of_methodNamed hnamed) hkP hinit
  obtain ⟨vm₁, X₁, hstep₁⟩ := X.invokestatic hexec hown hlink hnamed hmethM hstatic hkP hinitP hy (g := g) hg (argsL := argsL) (rest := rest) (hlen _ hsigM) hstack hdg
  rcases hK m meth c ⟨T.setVm vm₁, locs, cells, slots⟩ { g with stack := rest } (.invokestatic index) mk argsL.toArray X₁ hg hsize hdg hW (X₁.named hnamed) (hpre vm₁ X₁.warmed) with ⟨v, B, X', hpost, hsteps⟩ | ⟨q, B, X', hpost, hsteps⟩
  · exact Or.inl ⟨v, vm₁, B, X₁.warmed, X', hpost, fun target h => hstep₁ _ fun acts => by rw [doInvoke_state]; exact hsteps.trans h⟩
  · exact Or.inr ⟨q, vm₁, B, X₁.warmed, X', hpost, hstep₁ _ fun acts => by rw [doInvoke_state]; exact hsteps⟩
end Calls
theorem vx_cls {s : State} {T : State} {vm₁ : Vm} {E : String} {k : ClassId} (hW : s.WarmedH vm₁) (h : (T.setVm vm₁).vm.findClass E = some k) : s.vm.findClass E = some k := by
  have h1 : vm₁.findClass E = some k := h
  rw [hW.alike.findClass] at h1
  exact h1
/-- the method's frame g, with q thrown over it -/
def vx_W (p : Program) (l : Launch) (e : Env) (R : Room) (s : State) (m : MethodId) (args : Array Value) (below : List Frame) (meth : Method) (c : Code) (H : Heap) (locs : List Loc) (cells slots : Nat) (Q : State → Prop) (g : JFrame) (q : Addr) : Prop :=
  ∀ T : State, T.heap = H → Stand p l e R s m args below meth c T locs cells slots → ∃ t, Steps p.tables e below ((T.setTop g).pushFrame (.throwing q)) t ∧ Q t
def vx_Run (p : Program) (l : Launch) (e : Env) (R : Room) (s : State) (m : MethodId) (args : Array Value) (below : List Frame) (meth : Method) (c : Code) (H : Heap) (locs : List Loc) (cells slots mc ms : Nat) (g : JFrame) (rest : List Value) (Qa : State → Outcome → State → Prop) (XC : String → State → State → Prop) (free : Addr → Prop) : Prop :=
  ∀ T : State, T.heap = H → Stand p l e R s m args below meth c T locs cells slots →
    (∃ (v : Option Value) (st₀ t T' : State) (L : List Loc), st₀.heap = H ∧ Stand p l e R s m args below meth c T' (locs ++ L) (cells + mc) (slots + ms) ∧ (∀ q ∈ L, free q.base) ∧ T'.heap = t.heap ∧ T'.vm = t.vm ∧ Qa st₀ (.returned v) t ∧
      Goes p e below T g T' { g with pc := g.pc + 3, stack := v.toList ++ rest }) ∨
    (∃ (q : Addr) (st₀ t T' : State) (L : List Loc) (E : String) (ce : Cell), st₀.heap = H ∧ Stand p l e R s m args below meth c T' (locs ++ L) (cells + mc) (slots + ms) ∧ (∀ z ∈ L, free z.base) ∧ T'.heap = t.heap ∧ T'.vm = t.vm ∧ XC E st₀ t ∧ t.heap[q]? = some ce ∧ ce.vm = .none ∧ s.vm.findClass E = some ce.cls ∧
      Steps p.tables e below (T.setTop g) ((T'.setTop { g with stack := rest }).pushFrame (.throwing q)))
def vx_X {S : Type} (px : S → Prop) (B : String → S → State → Prop) (A : Nat → Prop) : String → State → State → Prop := fun E st t => ∃ u : S, px u ∧ B E u t ∧ va_F A st t
section Runs
variable {p : Program} {l : Launch} {e : Env} {R : Room} {s : State} {m : MethodId} {args : Array Value} {below : List Frame} {meth : Method} {c : Code} {H : Heap} {locs : List Loc} {cells slots : Nat}
variable {y : MethodName} {bytes cc : ByteArray} {maxL nL mc ms n index : Nat} {ret : Option FieldType} {ws : List Cond} {rm : Room} {Pc : Array Value → State → Prop} {Qc : Array Value → State → Outcome → State → Prop} {XC : String → State → State → Prop} {free : Addr → Prop} {Ts : List Cond} {own C : String} {b : Addr} {As rest : List Value} {g : JFrame}
theorem vx_callBack (cb : CallB R s args own index y bytes maxL ret ws rm mc ms n) (hM : vx_Met l y ws rm Pc Qc XC mc ms free) (hbl : FrameBlind Pc) : vx_Back l R p e below s args y 3 8 (PreOf R mc ms Pc) (PostOf Qc mc ms free) (vx_Post XC mc ms free) := by
  obtain ⟨hrc, hrs, hfr, hlo, hws, hcw, -, hini, -⟩ := cb
  exact vx_back (bytes := bytes) (maxL := maxL) (ret := ret) hM hbl hrc hrs hfr hlo hws hcw (fun a' U hW => word_at hW (Or.inl (by first | rfl | simp [Cond.onTables, Cond.keeps, Cond.steady])) hini)
theorem vx_runV (S : CallFix p m c cc nL s args Ts own) (hM : vx_Met l y ws rm Pc Qc XC mc ms free) (cw : CallW R s args own C index y bytes maxL ret ws rm mc ms n) (hp : PreV s H C b Pc As)
    (hg : g.method = m) (hn : As.length = n) (hsize : g.locals.size = nL) (hstack : g.stack = As.reverse ++ .ref b :: rest) (hW : 2 * g.monitorRoom + (rest.map fun v => v.category).sum ≤ 8) (hdg : decode cc g.pc = .ok (.invokevirtual index, 3)) (hf : cells + mc ≤ R.cells ∧ slots + ms ≤ R.slots) :
    vx_Run p l e R s m args below meth c H locs cells slots mc ms g rest (Qc (Value.ref b :: As).toArray) XC free := by
  have hK : vx_Back l R p e below s args y 3 8 (PreOf R mc ms Pc) (PostOf Qc mc ms free) (vx_Post XC mc ms free) := vx_callBack cw.1 hM hp.1
  obtain ⟨⟨-, -, -, -, -, -, hcode, -, hy, hlen, hl⟩, hin, hse⟩ := cw
  obtain ⟨hx, hb, hml, ho, -⟩ := S
  obtain ⟨-, ⟨cellB, hcB, hoB, hclB⟩, hPc⟩ := hp
  intro T hT X
  rcases vx_callV X hx (C := C) (bytes := bytes) (maxL := maxL) (ret := ret) ho hl hin hse hcode hy hK (by rw [hT]; exact hcB) hoB hclB hg (hsize.trans hml.symm) (argsL := As) (rest := rest) (fun sig h => hn.trans (hlen sig h)) hstack hW (by rw [hb]; exact hdg)
    (fun vm₁ hW₁ => ⟨hf.1, hf.2, hPc (T.setVm vm₁) hT hW₁⟩) with ⟨v, vm₁, ⟨U', l2, c2, s2⟩, hW₁, X', ⟨g', mk, t, L, e1, e2, hq, h1, hL, h2, h3⟩, st⟩ | ⟨q, vm₁, ⟨U', l2, c2, s2⟩, hW₁, X', ⟨g', mk, t, L, E, ce, e1, e2, hq, hce, hcv, hcl, h1, hL, h2, h3⟩, st⟩
  · dsimp only [Pt.U, Pt.locs, Pt.cells, Pt.slots] at X' e1 e2 h1 h2 h3 st
    subst h1; subst h2; subst h3
    exact Or.inl ⟨v, (T.setVm vm₁).calling g' mk (Value.ref b :: As).toArray, t, U', L, hT, X', hL, e1, e2, hq, st⟩
  · dsimp only [Pt.U, Pt.locs, Pt.cells, Pt.slots] at X' e1 e2 h1 h2 h3 st hcl
    subst h1; subst h2; subst h3
    exact Or.inr ⟨q, (T.setVm vm₁).calling g' mk (Value.ref b :: As).toArray, t, U', L, E, ce, hT, X', hL, e1, e2, hq, hce, hcv, vx_cls hW₁ hcl, st⟩
theorem vx_runS (S : CallFix p m c cc nL s args Ts own) (hM : vx_Met l y ws rm Pc Qc XC mc ms free) (cw : CallB R s args own index y bytes maxL ret ws rm mc ms n ∧ (Cond.static y).before args s = true) (hp : PreS s H Pc As)
    (hg : g.method = m) (hn : As.length = n) (hsize : g.locals.size = nL) (hstack : g.stack = As.reverse ++ rest) (hW : 2 * g.monitorRoom + (rest.map fun v => v.category).sum ≤ 8) (hdg : decode cc g.pc = .ok (.invokestatic index, 3)) (hf : cells + mc ≤ R.cells ∧ slots + ms ≤ R.slots) :
    vx_Run p l e R s m args below meth c H locs cells slots mc ms g rest (Qc As.toArray) XC free := by
  have hK : vx_Back l R p e below s args y 3 8 (PreOf R mc ms Pc) (PostOf Qc mc ms free) (vx_Post XC mc ms free) := vx_callBack cw.1 hM hp.1
  obtain ⟨⟨-, -, -, -, -, -, hcode, hini, hy, hlen, hl⟩, hstt⟩ := cw
  obtain ⟨hx, hb, hml, ho, -⟩ := S
  intro T hT X
  rcases vx_callS X hx (bytes := bytes) (maxL := maxL) (ret := ret) ho hl hstt hini hcode hy hK hg (hsize.trans hml.symm) (argsL := As) (rest := rest) (fun sig h => hn.trans (hlen sig h)) hstack hW (by rw [hb]; exact hdg)
    (fun vm₁ hW₁ => ⟨hf.1, hf.2, hp.2 (T.setVm vm₁) hT hW₁⟩) with ⟨v, vm₁, ⟨U', l2, c2, s2⟩, hW₁, X', ⟨g', mk, t, L, e1, e2, hq, h1, hL, h2, h3⟩, st⟩ | ⟨q, vm₁, ⟨U', l2, c2, s2⟩, hW₁, X', ⟨g', mk, t, L, E, ce, e1, e2, hq, hce, hcv, hcl, h1, hL, h2, h3⟩, st⟩
  · dsimp only [Pt.U, Pt.locs, Pt.cells, Pt.slots] at X' e1 e2 h1 h2 h3 st
    subst h1; subst h2; subst h3
    exact Or.inl ⟨v, (T.setVm vm₁).calling g' mk As.toArray, t, U', L, hT, X', hL, e1, e2, hq, st⟩
  · dsimp only [Pt.U, Pt.locs, Pt.cells, Pt.slots] at X' e1 e2 h1 h2 h3 st hcl
    subst h1; subst h2; subst h3
    exact Or.inr ⟨q, (T.setVm vm₁).calling g' mk As.toArray, t, U', L, E, ce, hT, X', hL, e1, e2, hq, hce, hcv, vx_cls hW₁ hcl, st⟩
end Runs
section Rows
variable {p : Program} {l : Launch} {e : Env} {R : Room} {s : State} {m : MethodId} {args : Array Value} {below : List Frame} {meth : Method} {c : Code} {H : Heap} {locs : List Loc} {cells slots : Nat} {Q : State → Prop}
variable {mc ms : Nat} {free : Addr → Prop} {A0 A1 : Nat → Prop} {H0 : Heap} {a : Array Value} {pc : Nat} {ls : Array Slot} {st0 rest : List Value}
theorem vx_keep {st₀ t T' : State} {L : List Loc} (h0 : st₀.heap = H) (e1 : T'.heap = t.heap) (hS : va_S A0 H0 H locs) (hA : ∀ q, q < H.size → A1 q → A0 q) (hf : ∀ q, free q → A0 q) (hL : ∀ q ∈ L, free q.base) (hF : va_F A1 st₀ t) :
    H.size ≤ T'.heap.size ∧ (∀ q : Nat, q < H.size → ¬ A1 q → T'.heap[q]? = H[q]?) ∧ va_S A0 H0 T'.heap (locs ++ L) := by
  obtain ⟨hz, hk⟩ := hF
  rw [h0] at hz hk
  exact ⟨by rw [e1]; exact hz, fun q h1 h2 => by rw [e1]; exact hk q h1 h2,
    ⟨Nat.le_trans hS.1 (by rw [e1]; exact hz), fun q h1 h2 => by rw [e1, hk q (Nat.lt_of_lt_of_le h1 hS.1) (fun z => h2 (hA q (Nat.lt_of_lt_of_le h1 hS.1) z))]; exact hS.2.1 q h1 h2, fun q hq => by
      rcases List.mem_append.mp hq with h | h
      · exact hS.2.2 q h
      · exact hf _ (hL q h)⟩⟩
theorem vx_calli {S SX : Type} {post : Int32 → S → Prop} {px : SX → Prop} {B : S → State → Prop} {BX : String → SX → State → Prop} {AX : Nat → Prop} (hr : vx_Run p l e R s m args below meth c H locs cells slots mc ms (F0 m pc ls st0) rest (va_Qi post B A1 a) (vx_X px BX AX) free) (hS : va_S A0 H0 H locs) (hA : ∀ q, q < H.size → A1 q → A0 q) (hf : ∀ q, free q → A0 q) (hAX : ∀ q, q < H.size → AX q → A0 q)
    (kx : ∀ (E : String) (ce : Cell) (q9 : Addr) (u : SX) (t : State) (H1 : Heap) (locs1 : List Loc), t.heap = H1 → s.vm.Alike t.vm → px u → BX E u t → H.size ≤ H1.size → (∀ q : Nat, q < H.size → ¬ AX q → H1[q]? = H[q]?) → va_S A0 H0 H1 locs1 → H1[q9]? = some ce → ce.vm = .none → s.vm.findClass E = some ce.cls → vx_W p l e R s m args below meth c H1 locs1 (cells + mc) (slots + ms) Q (F0 m pc ls rest) q9)
    (kk : ∀ (r : Int32) (u : S) (t : State) (H1 : Heap) (locs1 : List Loc), t.heap = H1 → s.vm.Alike t.vm → post r u → B u t → H.size ≤ H1.size → (∀ q : Nat, q < H.size → ¬ A1 q → H1[q]? = H[q]?) → va_S A0 H0 H1 locs1 → W p l e R s m args below meth c H1 locs1 (cells + mc) (slots + ms) Q (F0 m (pc + 3) ls (.int r :: rest))) : W p l e R s m args below meth c H locs cells slots Q (F0 m pc ls st0) := by
  intro T hT X
  rcases hr T hT X with ⟨v, st₀, t, T', L, h0, X', hL, e1, e2, ⟨⟨r, u, hv, hp, hb⟩, hF⟩, st⟩ | ⟨q, st₀, t, T', L, E, ce, h0, X', hL, e1, e2, ⟨u, hp, hb, hF⟩, hce, hcv, hcl, st⟩
  · cases hv
    obtain ⟨k1, k2, k3⟩ := vx_keep h0 e1 hS hA hf hL hF
    obtain ⟨t2, a1, b1⟩ := kk r u t T'.heap (locs ++ L) e1.symm (by rw [← e2]; exact X'.warmed.alike) hp hb k1 k2 k3 T' rfl X'
    exact ⟨t2, st t2 a1, b1⟩
  · obtain ⟨k1, k2, k3⟩ := vx_keep h0 e1 hS hAX hf hL hF
    obtain ⟨t2, a1, b1⟩ := kx E ce q u t T'.heap (locs ++ L) e1.symm (by rw [← e2]; exact X'.warmed.alike) hp hb k1 k2 k3 (by rw [e1]; exact hce) hcv hcl T' rfl X'
    exact ⟨t2, st.trans a1, b1⟩
theorem vx_calll {S SX : Type} {post : Int64 → S → Prop} {px : SX → Prop} {B : S → State → Prop} {BX : String → SX → State → Prop} {AX : Nat → Prop} (hr : vx_Run p l e R s m args below meth c H locs cells slots mc ms (F0 m pc ls st0) rest (va_Ql post B A1 a) (vx_X px BX AX) free) (hS : va_S A0 H0 H locs) (hA : ∀ q, q < H.size → A1 q → A0 q) (hf : ∀ q, free q → A0 q) (hAX : ∀ q, q < H.size → AX q → A0 q)
    (kx : ∀ (E : String) (ce : Cell) (q9 : Addr) (u : SX) (t : State) (H1 : Heap) (locs1 : List Loc), t.heap = H1 → s.vm.Alike t.vm → px u → BX E u t → H.size ≤ H1.size → (∀ q : Nat, q < H.size → ¬ AX q → H1[q]? = H[q]?) → va_S A0 H0 H1 locs1 → H1[q9]? = some ce → ce.vm = .none → s.vm.findClass E = some ce.cls → vx_W p l e R s m args below meth c H1 locs1 (cells + mc) (slots + ms) Q (F0 m pc ls rest) q9)
    (kk : ∀ (r : Int64) (u : S) (t : State) (H1 : Heap) (locs1 : List Loc), t.heap = H1 → s.vm.Alike t.vm → post r u → B u t → H.size ≤ H1.size → (∀ q : Nat, q < H.size → ¬ A1 q → H1[q]? = H[q]?) → va_S A0 H0 H1 locs1 → W p l e R s m args below meth c H1 locs1 (cells + mc) (slots + ms) Q (F0 m (pc + 3) ls (.long r :: rest))) : W p l e R s m args below meth c H locs cells slots Q (F0 m pc ls st0) := by
  intro T hT X
  rcases hr T hT X with ⟨v, st₀, t, T', L, h0, X', hL, e1, e2, ⟨⟨r, u, hv, hp, hb⟩, hF⟩, st⟩ | ⟨q, st₀, t, T', L, E, ce, h0, X', hL, e1, e2, ⟨u, hp, hb, hF⟩, hce, hcv, hcl, st⟩
  · cases hv
    obtain ⟨k1, k2, k3⟩ := vx_keep h0 e1 hS hA hf hL hF
    obtain ⟨t2, a1, b1⟩ := kk r u t T'.heap (locs ++ L) e1.symm (by rw [← e2]; exact X'.warmed.alike) hp hb k1 k2 k3 T' rfl X'
    exact ⟨t2, st t2 a1, b1⟩
  · obtain ⟨k1, k2, k3⟩ := vx_keep h0 e1 hS hAX hf hL hF
    obtain ⟨t2, a1, b1⟩ := kx E ce q u t T'.heap (locs ++ L) e1.symm (by rw [← e2]; exact X'.warmed.alike) hp hb k1 k2 k3 (by rw [e1]; exact hce) hcv hcl T' rfl X'
    exact ⟨t2, st.trans a1, b1⟩
theorem vx_callf {S SX : Type} {post : UInt32 → S → Prop} {px : SX → Prop} {B : S → State → Prop} {BX : String → SX → State → Prop} {AX : Nat → Prop} (hr : vx_Run p l e R s m args below meth c H locs cells slots mc ms (F0 m pc ls st0) rest (va_Qf post B A1 a) (vx_X px BX AX) free) (hS : va_S A0 H0 H locs) (hA : ∀ q, q < H.size → A1 q → A0 q) (hf : ∀ q, free q → A0 q) (hAX : ∀ q, q < H.size → AX q → A0 q)
    (kx : ∀ (E : String) (ce : Cell) (q9 : Addr) (u : SX) (t : State) (H1 : Heap) (locs1 : List Loc), t.heap = H1 → s.vm.Alike t.vm → px u → BX E u t → H.size ≤ H1.size → (∀ q : Nat, q < H.size → ¬ AX q → H1[q]? = H[q]?) → va_S A0 H0 H1 locs1 → H1[q9]? = some ce → ce.vm = .none → s.vm.findClass E = some ce.cls → vx_W p l e R s m args below meth c H1 locs1 (cells + mc) (slots + ms) Q (F0 m pc ls rest) q9)
    (kk : ∀ (r : UInt32) (u : S) (t : State) (H1 : Heap) (locs1 : List Loc), t.heap = H1 → s.vm.Alike t.vm → post r u → B u t → H.size ≤ H1.size → (∀ q : Nat, q < H.size → ¬ A1 q → H1[q]? = H[q]?) → va_S A0 H0 H1 locs1 → W p l e R s m args below meth c H1 locs1 (cells + mc) (slots + ms) Q (F0 m (pc + 3) ls (.float r :: rest))) : W p l e R s m args below meth c H locs cells slots Q (F0 m pc ls st0) := by
  intro T hT X
  rcases hr T hT X with ⟨v, st₀, t, T', L, h0, X', hL, e1, e2, ⟨⟨r, u, hv, hp, hb⟩, hF⟩, st⟩ | ⟨q, st₀, t, T', L, E, ce, h0, X', hL, e1, e2, ⟨u, hp, hb, hF⟩, hce, hcv, hcl, st⟩
  · cases hv
    obtain ⟨k1, k2, k3⟩ := vx_keep h0 e1 hS hA hf hL hF
    obtain ⟨t2, a1, b1⟩ := kk r u t T'.heap (locs ++ L) e1.symm (by rw [← e2]; exact X'.warmed.alike) hp hb k1 k2 k3 T' rfl X'
    exact ⟨t2, st t2 a1, b1⟩
  · obtain ⟨k1, k2, k3⟩ := vx_keep h0 e1 hS hAX hf hL hF
    obtain ⟨t2, a1, b1⟩ := kx E ce q u t T'.heap (locs ++ L) e1.symm (by rw [← e2]; exact X'.warmed.alike) hp hb k1 k2 k3 (by rw [e1]; exact hce) hcv hcl T' rfl X'
    exact ⟨t2, st.trans a1, b1⟩
theorem vx_calld {S SX : Type} {post : UInt64 → S → Prop} {px : SX → Prop} {B : S → State → Prop} {BX : String → SX → State → Prop} {AX : Nat → Prop} (hr : vx_Run p l e R s m args below meth c H locs cells slots mc ms (F0 m pc ls st0) rest (va_Qd post B A1 a) (vx_X px BX AX) free) (hS : va_S A0 H0 H locs) (hA : ∀ q, q < H.size → A1 q → A0 q) (hf : ∀ q, free q → A0 q) (hAX : ∀ q, q < H.size → AX q → A0 q)
    (kx : ∀ (E : String) (ce : Cell) (q9 : Addr) (u : SX) (t : State) (H1 : Heap) (locs1 : List Loc), t.heap = H1 → s.vm.Alike t.vm → px u → BX E u t → H.size ≤ H1.size → (∀ q : Nat, q < H.size → ¬ AX q → H1[q]? = H[q]?) → va_S A0 H0 H1 locs1 → H1[q9]? = some ce → ce.vm = .none → s.vm.findClass E = some ce.cls → vx_W p l e R s m args below meth c H1 locs1 (cells + mc) (slots + ms) Q (F0 m pc ls rest) q9)
    (kk : ∀ (r : UInt64) (u : S) (t : State) (H1 : Heap) (locs1 : List Loc), t.heap = H1 → s.vm.Alike t.vm → post r u → B u t → H.size ≤ H1.size → (∀ q : Nat, q < H.size → ¬ A1 q → H1[q]? = H[q]?) → va_S A0 H0 H1 locs1 → W p l e R s m args below meth c H1 locs1 (cells + mc) (slots + ms) Q (F0 m (pc + 3) ls (.double r :: rest))) : W p l e R s m args below meth c H locs cells slots Q (F0 m pc ls st0) := by
  intro T hT X
  rcases hr T hT X with ⟨v, st₀, t, T', L, h0, X', hL, e1, e2, ⟨⟨r, u, hv, hp, hb⟩, hF⟩, st⟩ | ⟨q, st₀, t, T', L, E, ce, h0, X', hL, e1, e2, ⟨u, hp, hb, hF⟩, hce, hcv, hcl, st⟩
  · cases hv
    obtain ⟨k1, k2, k3⟩ := vx_keep h0 e1 hS hA hf hL hF
    obtain ⟨t2, a1, b1⟩ := kk r u t T'.heap (locs ++ L) e1.symm (by rw [← e2]; exact X'.warmed.alike) hp hb k1 k2 k3 T' rfl X'
    exact ⟨t2, st t2 a1, b1⟩
  · obtain ⟨k1, k2, k3⟩ := vx_keep h0 e1 hS hAX hf hL hF
    obtain ⟨t2, a1, b1⟩ := kx E ce q u t T'.heap (locs ++ L) e1.symm (by rw [← e2]; exact X'.warmed.alike) hp hb k1 k2 k3 (by rw [e1]; exact hce) hcv hcl T' rfl X'
    exact ⟨t2, st.trans a1, b1⟩
theorem vx_callv {S SX : Type} {post : S → Prop} {px : SX → Prop} {B : S → State → Prop} {BX : String → SX → State → Prop} {AX : Nat → Prop} (hr : vx_Run p l e R s m args below meth c H locs cells slots mc ms (F0 m pc ls st0) rest (va_Qv post B A1 a) (vx_X px BX AX) free) (hS : va_S A0 H0 H locs) (hA : ∀ q, q < H.size → A1 q → A0 q) (hf : ∀ q, free q → A0 q) (hAX : ∀ q, q < H.size → AX q → A0 q)
    (kx : ∀ (E : String) (ce : Cell) (q9 : Addr) (u : SX) (t : State) (H1 : Heap) (locs1 : List Loc), t.heap = H1 → s.vm.Alike t.vm → px u → BX E u t → H.size ≤ H1.size → (∀ q : Nat, q < H.size → ¬ AX q → H1[q]? = H[q]?) → va_S A0 H0 H1 locs1 → H1[q9]? = some ce → ce.vm = .none → s.vm.findClass E = some ce.cls → vx_W p l e R s m args below meth c H1 locs1 (cells + mc) (slots + ms) Q (F0 m pc ls rest) q9)
    (kk : ∀ (u : S) (t : State) (H1 : Heap) (locs1 : List Loc), t.heap = H1 → s.vm.Alike t.vm → post u → B u t → H.size ≤ H1.size → (∀ q : Nat, q < H.size → ¬ A1 q → H1[q]? = H[q]?) → va_S A0 H0 H1 locs1 → W p l e R s m args below meth c H1 locs1 (cells + mc) (slots + ms) Q (F0 m (pc + 3) ls (rest))) : W p l e R s m args below meth c H locs cells slots Q (F0 m pc ls st0) := by
  intro T hT X
  rcases hr T hT X with ⟨v, st₀, t, T', L, h0, X', hL, e1, e2, ⟨⟨u, hv, hp, hb⟩, hF⟩, st⟩ | ⟨q, st₀, t, T', L, E, ce, h0, X', hL, e1, e2, ⟨u, hp, hb, hF⟩, hce, hcv, hcl, st⟩
  · cases hv
    obtain ⟨k1, k2, k3⟩ := vx_keep h0 e1 hS hA hf hL hF
    obtain ⟨t2, a1, b1⟩ := kk u t T'.heap (locs ++ L) e1.symm (by rw [← e2]; exact X'.warmed.alike) hp hb k1 k2 k3 T' rfl X'
    exact ⟨t2, st t2 a1, b1⟩
  · obtain ⟨k1, k2, k3⟩ := vx_keep h0 e1 hS hAX hf hL hF
    obtain ⟨t2, a1, b1⟩ := kx E ce q u t T'.heap (locs ++ L) e1.symm (by rw [← e2]; exact X'.warmed.alike) hp hb k1 k2 k3 (by rw [e1]; exact hce) hcv hcl T' rfl X'
    exact ⟨t2, st.trans a1, b1⟩
/-- caught by the row x of this method's table; the rows ahead don't take it -/
theorem vx_catch {own name : String} {E : String} {ce : Cell} {q : Addr} (hown : s.vm.findClass own = some m.cls) (pre : List ExceptionTableEntry) (x : ExceptionTableEntry) (suf : List ExceptionTableEntry) (hsplit : c.exceptionTable.toList = pre ++ x :: suf)
    (hpass : ∀ z ∈ pre, covers z pc = false ∨ (z.catchType ≠ 0 ∧ ∃ nm : String, (Cond.classLink own z.catchType nm).before args s = true ∧ va_Nc E nm s)) (hx : covers x pc = true) (h0 : x.catchType ≠ 0)
    (hlink : (Cond.classLink own x.catchType name).before args s = true) (hcast : (Cond.castable E name).before args s = true) (hcell : H[q]? = some ce) (hv : ce.vm = .none) (hcl : s.vm.findClass E = some ce.cls)
    (kk : W p l e R s m args below meth c H locs cells slots Q (F0 m x.handlerPc ls [.ref q])) : vx_W p l e R s m args below meth c H locs cells slots Q (F0 m pc ls rest) q := by
  intro T hT X
  have hpl : e.platform.magicAccessors = ({} : Platform).magicAccessors := by rw [X.admits.platform]
  obtain ⟨c3, c4, hc3, hc4, hasg⟩ := Cond.castable_spec hcast
  cases Option.some.inj (hc3.symm.trans hcl)
  obtain ⟨c5, hc5, hcl5⟩ := Cond.classLink_spec hown hlink e.platform hpl
  cases Option.some.inj (hc4.symm.trans hc5)
  obtain ⟨vm', X', st⟩ := X.thenCaughtThrough q (g := F0 m pc ls rest) rfl (Steps.refl _) (by rw [hT]; exact hcell) (by rw [hv]; rfl) (by obtain ⟨k9, h9, -⟩ := Vm.findClass_spec hcl; exact ⟨k9, h9⟩) pre x suf hsplit
    (fun z hz => by
      rcases hpass z hz with h | ⟨hz0, nm, hl1, hn1⟩
      · exact Or.inl h
      · obtain ⟨c6, hc6, hcl6⟩ := Cond.classLink_spec hown hl1 e.platform hpl
        obtain ⟨a8, b8, h1, h2, h3⟩ := hn1
        cases Option.some.inj (h1.symm.trans hcl)
        cases Option.some.inj (h2.symm.trans hc6)
        exact Or.inr ⟨hz0, _, hcl6, h3⟩) hx (Or.inr ⟨h0, c4, hcl5, hasg⟩)
  obtain ⟨t, a1, b1⟩ := kk (T.setVm vm') hT X'
  exact ⟨t, st.trans a1, b1⟩
end Rows
section Ends
variable {p : Program} {l : Launch} {e : Env} {R : Room} {s : State} {m : MethodId} {args : Array Value} {below : List Frame} {meth : Method} {c : Code} {H : Heap} {locs : List Loc} {cells slots : Nat} {Q : State → Prop}
variable {mc ms : Nat} {free : Addr → Prop} {A0 A1 : Nat → Prop} {H0 : Heap} {a : Array Value} {ls : Array Slot} {st0 rest : List Value}
variable {Qc : Array Value → State → Outcome → State → Prop} {XC : String → State → State → Prop}
/-- what a body that may throw owes at its end -/
def vx_MQ (below : List Frame) (Qc : Array Value → State → Outcome → State → Prop) (XC : String → State → State → Prop) (a : Array Value) (s : State) (mc ms : Nat) (free : Addr → Prop) : State → Prop := fun t =>
  ∃ o, t.status = .running ∧ Ended t below o ∧ vx_Q Qc XC mc ms free a s o t
theorem vx_ret {g : JFrame} {mc ms : Nat} (k : W p l e R s m args below meth c H locs cells slots (MQ below Qc args s mc ms free) g) : W p l e R s m args below meth c H locs cells slots (vx_MQ below Qc XC args s mc ms free) g := by
  intro T hT X
  obtain ⟨t, a1, o, b1, b2, b3, b4⟩ := k T hT X
  exact ⟨t, a1, o, b1, b2, Or.inl ⟨b3, b4⟩⟩
/-- not caught here: it goes on to the caller -/
theorem vx_widen {g : JFrame} {q : Addr} {k n : Nat} (h1 : cells ≤ k) (h2 : slots ≤ n) (kk : vx_W p l e R s m args below meth c H locs k n Q g q) : vx_W p l e R s m args below meth c H locs cells slots Q g q := fun T hT X => kk T hT (stand_widen X h1 h2)
theorem vx_out {pc : Nat} {E : String} {ce : Cell} {q : Addr} {mc ms : Nat} (hout : ∀ x ∈ c.exceptionTable.toList, covers x pc = false) (hlocks : meth.locks = false) (hcell : H[q]? = some ce) (hv : ce.vm = .none) (hcl : s.vm.findClass E = some ce.cls)
    (hx : ∀ t : State, t.heap = H → s.vm.Alike t.vm → XC E s t) (hf : ∀ z ∈ locs, free z.base) (hc : cells ≤ mc) (hs : slots ≤ ms) :
    vx_W p l e R s m args below meth c H locs cells slots (vx_MQ below Qc XC args s mc ms free) (F0 m pc ls rest) q := by
  intro T hT X
  obtain ⟨st1, hrun, hend, hW, hsm⟩ := X.leaveThrown q (g := F0 m pc ls rest) rfl rfl rfl hout hlocks
  have hcell9 : (T.setFrames (.throwing q :: below)).heap[q]? = some ce := by
    show T.heap[q]? = some ce
    rw [hT]; exact hcell
  exact ⟨_, st1, .threw q, hrun, hend, Or.inr ⟨q, rfl, E, ce, locs, hx _ hT hW.alike, hcell9, hv, hcl, hW, hsm.mono hc hs, hf⟩⟩
theorem vx_frame {U : State} {k n : Nat} (h : s.sameButNew ({ U with vm := s.vm } : State) locs k n) : s.heap.size ≤ U.heap.size ∧ ∀ q : Nat, q < s.heap.size → (∀ z ∈ locs, z.base ≠ q) → U.heap[q]? = s.heap[q]? := by
  obtain ⟨-, h2, -, -, -, h6⟩ := h
  refine ⟨h2, fun q hq hz => ?_⟩
  obtain ⟨c9, e1, e2, e3, e4⟩ := h6 q _ (Array.getElem?_eq_getElem hq)
  have hs : c9.slots = (s.heap[q]).slots := Array.ext_getElem? fun i => e4 i fun hm => hz _ hm rfl
  have h9 : c9 = s.heap[q] := by
    rw [hs] at e2
    exact e2
  have e5 : U.heap[q]? = some c9 := e1
  rw [e5, h9, Array.getElem?_eq_getElem hq]
/-- the words of a throw but the four that speak of the heap -/
def vx_no (w : Cond) : Bool := decide (w ≠ .isRef (.static Bundle.tN "UNASSIGNED_STACK" Bundle.steD)) && decide (w ≠ .isRef (.static Bundle.tN "SUPPRESSED_SENTINEL" Bundle.listD)) && decide (w ≠ .laysStatic Bundle.tN "UNASSIGNED_STACK" Bundle.steD) && decide (w ≠ .laysStatic Bundle.tN "SUPPRESSED_SENTINEL" Bundle.listD)
def vx_at0 (own : String) (ic : Nat) (X : String) (names : List String) : List Cond := (Bundle.ownAtoms0 own ic X names).filter vx_no
def vx_atS (own : String) (ic : Nat) (X : String) (names : List String) : List Cond := (Bundle.ownAtoms own ic X names).filter vx_no
/-- a word that the tables alone decide, or a good one -/
def vx_ot (w : Cond) : Bool := w.onTables || goodWord w
theorem vx_ot_at {args a' : Array Value} {s U : State} {w : Cond} (hW : s.WarmedH U.vm) (hvm : s.vm = U.vm) (hg : vx_ot w = true) (h : w.before args s = true) : w.before a' U = true := by
  simp only [vx_ot, Bool.or_eq_true] at hg
  rcases hg with hg | hg
  · exact va_tabs hg hvm h
  · exact word_at hW (good_of_word hg) h
/-- a list's words: the good ones out of the method's own list, the others by premises of their own -/
theorem vx_hat {args : Array Value} {s : State} {L B : List Cond} (h1 : ∀ w ∈ L.filter goodWord, w.before args s = true) (h2 : ∀ w ∈ L.filter (fun w => !goodWord w), w ∈ B) (h3 : ∀ w ∈ B, w.before args s = true) : ∀ w ∈ L, w.before args s = true := by
  intro w hw
  by_cases g : goodWord w = true
  · exact h1 w (List.mem_filter.mpr ⟨hw, g⟩)
  · refine h3 w (h2 w (List.mem_filter.mpr ⟨hw, ?_⟩))
    show (!goodWord w) = true
    cases hgw : goodWord w
    · rfl
    · exact absurd hgw g
theorem vx_c {args : Array Value} {s : State} {w : Cond} {B : List Cond} (h : w.before args s = true) (t : ∀ w ∈ B, w.before args s = true) : ∀ w' ∈ w :: B, w'.before args s = true := fun w' h' => (List.mem_cons.mp h').elim (fun e => by rw [e]; exact h) (t w')
theorem vx_n {args : Array Value} {s : State} : ∀ w ∈ ([] : List Cond), w.before args s = true := fun _ h => nomatch h
theorem vx_own {args : Array Value} {s : State} {L : List Cond} (h1 : ∀ w ∈ L.filter vx_no, w.before args s = true)
    (hU : (Cond.isRef (.static Bundle.tN "UNASSIGNED_STACK" Bundle.steD)).before args s = true) (hN : (Cond.isRef (.static Bundle.tN "SUPPRESSED_SENTINEL" Bundle.listD)).before args s = true)
    (lU : (Cond.laysStatic Bundle.tN "UNASSIGNED_STACK" Bundle.steD).before args s = true) (lN : (Cond.laysStatic Bundle.tN "SUPPRESSED_SENTINEL" Bundle.listD).before args s = true) : ∀ w ∈ L, w.before args s = true := by
  intro w hw
  by_cases e1 : w = .isRef (.static Bundle.tN "UNASSIGNED_STACK" Bundle.steD)
  · rw [e1]; exact hU
  · by_cases e2 : w = .isRef (.static Bundle.tN "SUPPRESSED_SENTINEL" Bundle.listD)
    · rw [e2]; exact hN
    · by_cases e3 : w = .laysStatic Bundle.tN "UNASSIGNED_STACK" Bundle.steD
      · rw [e3]; exact lU
      · by_cases e4 : w = .laysStatic Bundle.tN "SUPPRESSED_SENTINEL" Bundle.listD
        · rw [e4]; exact lN
        · exact h1 w (List.mem_filter.mpr ⟨hw, by unfold vx_no; rw [decide_eq_true e1, decide_eq_true e2, decide_eq_true e3, decide_eq_true e4]; rfl⟩)
/-- where a static field lies, its class's statics cell in H -/
def vx_L (C n d : String) (A : Nat → Prop) (U : State) (H : Heap) : Prop := ∃ (c : ClassId) (k : Class) (i : Nat) (f : Field) (a : Nat) (cell : Cell), U.vm.findClass C = some c ∧ U.fieldFound? C n d = some (c, k, i, f) ∧ f.isStatic = true ∧ k.statics = some a ∧ H[a]? = some cell ∧ cell.vm.isStatics = true ∧ cell.cls = c ∧ f.slot < cell.slots.size ∧ k.staticTypes[f.slot]? = some f.type ∧ ¬ A a
theorem vx_L.moved {C n d : String} {A : Nat → Prop} {u U : State} {H : Heap} (hvm : u.vm.Alike U.vm) (h : vx_L C n d A u H) : vx_L C n d A U H := by
  obtain ⟨c, k, i, f, a, cell, h1, h2, h3, h4, h5, h6, h7, h8, h9, h10⟩ := h
  obtain ⟨k', hi', he⟩ := State.fieldFound?_setVm hvm h2
  exact ⟨c, k', i, f, a, cell, by rw [hvm.findClass]; exact h1, hi', h3, by rw [he]; exact h4, h5, h6, h7, h8, by rw [he]; exact h9, h10⟩
theorem vx_L.kept {C n d : String} {A : Nat → Prop} {U : State} {H H1 : Heap} (h : vx_L C n d A U H) (hq : ∀ a : Nat, a < H.size → ¬ A a → H1[a]? = H[a]?) : vx_L C n d A U H1 := by
  obtain ⟨c, k, i, f, a, cell, h1, h2, h3, h4, h5, h6, h7, h8, h9, h10⟩ := h
  exact ⟨c, k, i, f, a, cell, h1, h2, h3, h4, by rw [hq a (Array.getElem?_eq_some_iff.mp h5).1 h10]; exact h5, h6, h7, h8, h9, h10⟩
theorem vx_L.narrow {C n d : String} {A B : Nat → Prop} {U : State} {H : Heap} (h : vx_L C n d A U H) (hAB : ∀ q, B q → A q) : vx_L C n d B U H := by
  obtain ⟨c, k, i, f, a, cell, h1, h2, h3, h4, h5, h6, h7, h8, h9, h10⟩ := h
  exact ⟨c, k, i, f, a, cell, h1, h2, h3, h4, h5, h6, h7, h8, h9, fun z => h10 (hAB _ z)⟩
theorem vx_L.word {C n d : String} {A : Nat → Prop} {s : State} {args : Array Value} (h : vx_L C n d A s s.heap) : (Cond.laysStatic C n d).before args s = true := by
  obtain ⟨c, k, i, f, a, cell, h1, h2, h3, h4, h5, h6, h7, h8, h9, -⟩ := h
  show (Cond.laysStatic C n d).holds args s none s [] = true
  exact Cond.laysStatic_of h1 h2 h3 h4 h5 h6 h7 h8 h9
/-- .. and what it holds: null or some reference -/
def vx_Zq (C n d : String) (A : Nat → Prop) (U : State) (H : Heap) : Prop := va_Zq C n d A U H ∧ vx_L C n d A U H
theorem vx_Zq.moved {C n d : String} {A : Nat → Prop} {u U : State} {H : Heap} (hvm : u.vm.Alike U.vm) (h : vx_Zq C n d A u H) : vx_Zq C n d A U H := ⟨va_Zq.moved hvm h.1, vx_L.moved hvm h.2⟩
theorem vx_Zq.kept {C n d : String} {A : Nat → Prop} {U : State} {H H1 : Heap} (h : vx_Zq C n d A U H) (hq : ∀ a : Nat, a < H.size → ¬ A a → H1[a]? = H[a]?) : vx_Zq C n d A U H1 := ⟨va_Zq.kept h.1 hq, vx_L.kept h.2 hq⟩
theorem vx_Zq.narrow {C n d : String} {A B : Nat → Prop} {U : State} {H : Heap} (h : vx_Zq C n d A U H) (hAB : ∀ q, B q → A q) : vx_Zq C n d B U H := ⟨va_Zq.narrow h.1 hAB, vx_L.narrow h.2 hAB⟩
theorem vx_Zqof {args : Array Value} {s : State} {C n d : String} {A : Nat → Prop} (hl : (Cond.laysStatic C n d).before args s = true) (hini : (Cond.initialized C).before args s = true) (h : (Cond.isRef (.static C n d)).before args s = true) (hA : ∀ a : Nat, a < s.heap.size → ¬ A a) : vx_Zq C n d A s s.heap := by
  refine ⟨va_Zqof hl hini h hA, ?_⟩
  obtain ⟨c, k, i, f, a, cell, h1, h2, h3, h4, h5, h6, h7, h8, h9⟩ := Cond.laysStatic_spec hl
  exact ⟨c, k, i, f, a, cell, h1, h2, h3, h4, h5, h6, h7, h8, h9, hA a (Array.getElem?_eq_some_iff.mp h5).1⟩
theorem vx_isRef {C n d : String} {v : Value} {A : Nat → Prop} {s : State} {args : Array Value} (h : va_Z C n d v A s s.heap) (hv : v.isRef = true) : (Cond.isRef (.static C n d)).before args s = true := by
  obtain ⟨cf, kf, fi, f, a, cell, h1, h2, h3, h4, h5, h6, h7, -⟩ := h
  have he : (Term.static C n d).eval args s none [] s = some v := by
    simp [Term.eval, State.fieldNamed?, h1, h2, h4, h5, h6, h7]
  simp only [Cond.before, Cond.holds, Cond.value, he]
  cases v <;> simp_all [Value.isRef]
theorem vx_isRefq {C n d : String} {A : Nat → Prop} {s : State} {args : Array Value} (h : va_Zq C n d A s s.heap) : (Cond.isRef (.static C n d)).before args s = true := by
  rcases h with h | ⟨t, h⟩
  · exact vx_isRef h rfl
  · exact vx_isRef h rfl
/-- the same frame, seen from here: as if the method were called anew in this heap -/
theorem vx_rebase {T : State} (X : Stand p l e R s m args below meth c T locs cells slots) {R' : Room} (hf : R'.frames ≤ R.frames) (hl : R'.locals ≤ R.locals) (hc : cells + R'.cells ≤ R.cells) (hs : slots + R'.slots ≤ R.slots) :
    Stand p l e R' ((T.setVm s.vm).setFrames (.invoking m args :: below)) m args below meth c T [] 0 0 := by
  have htop : (T.setVm s.vm).topJava?.isSome := X.here.top
  have hF : ((T.setVm s.vm).setFrames (.invoking m args :: below)).frames = .invoking m args :: below := State.frames_setFrames _ (State.cur_lt_of_top htop)
  obtain ⟨g₀, hg0⟩ := Option.isSome_iff_exists.mp htop
  obtain ⟨r, hr⟩ := State.topJava?_eq_some.mp hg0
  have hl9 : e.platform.stackLimits (T.setVm s.vm).me = e.platform.stackLimits s.me := X.limits
  have hb9 : (T.setVm s.vm).me.stackBytes = s.me.stackBytes := X.bytes
  refine ⟨X.admits, X.cas, X.clock, hF, ?_, X.hears, X.method, X.code, X.here, X.tail, X.warmed, ?_, ?_, ?_⟩
  · have h := X.room
    have hU : ((T.setVm s.vm).setFrames (.invoking m args :: below)).localsInUse = s.localsInUse := by
      rw [State.localsInUse_invoking hF (meth := meth) (c := c) X.method X.code, State.localsInUse_invoking X.frames X.method X.code]
    simp only [State.hasRoom, Bool.and_eq_true, decide_eq_true_eq] at h ⊢
    obtain ⟨⟨⟨⟨h1, h2, h3, h4, h5, h6⟩, h7⟩, h8⟩, h9⟩ := h
    rw [X.frames, List.length_cons] at h2 h3
    have q1 := X.heapSize
    have q2 := X.used
    simp only [hF, hU, List.length_cons, State.stackLimits_setFrames, State.stackBytes_setFrames, hl9, hb9]
    refine ⟨⟨⟨⟨by omega, by omega, by omega, by omega, by omega, h6⟩, ?_⟩, ?_⟩, X.book⟩
    · show T.heap.size + R'.cells ≤ e.platform.maxCells
      omega
    · show T.slotsUsed + R'.slots ≤ e.platform.maxSlots
      omega
  · rw [State.stackLimits_setFrames]; rfl
  · rw [State.stackBytes_setFrames]; rfl
  · refine ⟨?_, Nat.le_refl _, Nat.le_refl _, ?_, ?_, fun a c9 h9 => ⟨c9, h9, rfl, rfl, fun _ _ => rfl⟩⟩
    · obtain ⟨t, ht, -⟩ := State.frames_cons hr
      show T.setVm s.vm = { ((T.setVm s.vm).setFrames (.invoking m args :: below)).setFrames (T.setVm s.vm).frames with heap := T.heap, slotsUsed := T.slotsUsed }
      rw [State.setFrames_setFrames, State.setFrames_self ht]
      rfl
    · show T.slotsUsed = T.slotsUsed + ((T.heap.toList.drop T.heap.size).map (·.slots.size)).sum
      rw [List.drop_eq_nil_of_le (Nat.le_of_eq Array.length_toList)]
      rfl
    · show ((T.heap.toList.drop T.heap.size).map (·.slots.size)).sum ≤ 0
      rw [List.drop_eq_nil_of_le (Nat.le_of_eq Array.length_toList)]
      exact Nat.le_refl _
/-- 'throw new E()': new; dup; invokespecial; athrow -/
theorem vx_throw0 {cc : ByteArray} {pc : Nat} (hexec : p.tables.exec = Jvm.exec) (hb : c.code = cc) (hl : l.stackTraces = false) {own cls : String} {names : List String} {ik ic mc ms : Nat} {A : Nat → Prop}
    (hown : s.vm.findClass own = some m.cls) (hcls : Bundle.fit cls = true) (hnames : ∀ n ∈ names, Bundle.fit n = true)
    (hk : (Cond.classLink own ik cls).before args s = true) (hini : (Cond.initialized cls).before args s = true) (hat : ∀ w ∈ vx_at0 own ic cls names, w.before args s = true)
    (hgood : ∀ w ∈ Cond.classLink own ik cls :: Cond.initialized cls :: vx_at0 own ic cls names, vx_ot w = true)
    (hU : vx_Zq Bundle.tN "UNASSIGNED_STACK" Bundle.steD A s s.heap) (hN : vx_Zq Bundle.tN "SUPPRESSED_SENTINEL" Bundle.listD A s s.heap) (hS : va_S A s.heap H locs) (hsize : ls.size = c.maxLocals)
    (d0 : decode cc pc = .ok (.new ik, 3)) (d3 : decode cc (pc + 3) = .ok (.dup, 1)) (d4 : decode cc (pc + 4) = .ok (.invokespecial ic, 3)) (d7 : decode cc (pc + 7) = .ok (.athrow, 1))
    (hout : ∀ x ∈ c.exceptionTable.toList, covers x (pc + 7) = false)
    (hRframes : names.length + 3 < R.frames) (hRlocals : (rest.map fun v => v.category).sum + (13 * (names.length + 1) + 42) ≤ R.locals) (hRcells : cells + 1 ≤ R.cells) (hRslots : slots + 6 ≤ R.slots) (hlocks : meth.locks = false)
    (hx : ∀ t : State, s.vm.Alike t.vm → H.size ≤ t.heap.size → (∀ q : Nat, q < H.size → t.heap[q]? = H[q]?) → XC cls s t)
    (hf : ∀ z ∈ locs, free z.base) (hc : cells + 1 ≤ mc) (hs : slots + 6 ≤ ms) :
    W p l e R s m args below meth c H locs cells slots (vx_MQ below Qc XC args s mc ms free) (F0 m pc ls rest) := by
  intro T hT X
  have htr : e.platform.stackTraces = false := (show e.platform.stackTraces = l.stackTraces by rw [X.admits.platform]).trans hl
  have Y := vx_rebase X (R' := { frames := R.frames, locals := R.locals, cells := 1, slots := 6 }) (Nat.le_refl _) (Nat.le_refl _) hRcells hRslots
  obtain ⟨s', hA⟩ : ∃ z, z = (T.setVm s.vm).setFrames (.invoking m args :: below) := ⟨_, rfl⟩
  rw [← hA] at Y
  have hvm : s'.vm = s.vm := by rw [hA]; rfl
  have hhp : s'.heap = H := by rw [hA]; exact hT
  have hW0 : s.WarmedH s'.vm := by rw [hvm]; exact State.WarmedH.refl s
  have hat' : ∀ w ∈ vx_at0 own ic cls names, w.before args s' = true := fun w hw => vx_ot_at hW0 hvm.symm (hgood w (List.mem_cons_of_mem _ (List.mem_cons_of_mem _ hw))) (hat w hw)
  have hk' : (Cond.classLink own ik cls).before args s' = true := vx_ot_at hW0 hvm.symm (hgood _ List.mem_cons_self) hk
  have hini' : (Cond.initialized cls).before args s' = true := vx_ot_at hW0 hvm.symm (hgood _ (List.mem_cons_of_mem _ List.mem_cons_self)) hini
  have hU' : vx_Zq Bundle.tN "UNASSIGNED_STACK" Bundle.steD A s' s'.heap := by rw [hhp]; exact vx_Zq.moved hW0.alike (hU.kept hS.2.1)
  have hN' : vx_Zq Bundle.tN "SUPPRESSED_SENTINEL" Bundle.listD A s' s'.heap := by rw [hhp]; exact vx_Zq.moved hW0.alike (hN.kept hS.2.1)
  have h : ∀ w ∈ Bundle.ownAtoms0 own ic cls names, w.before args s' = true := vx_own hat' (vx_isRefq hU'.1) (vx_isRefq hN'.1) hU'.2.word hN'.2.word
  have hown' : s'.vm.findClass own = some m.cls := by rw [hvm]; exact hown
  have hins : (Cond.instantiable cls 6).before args s' = true := h _ (by simp [Bundle.ownAtoms0])
  obtain ⟨vm₁, cX, kX, hfX, hkX, -, -, X₁, st1⟩ := Y.newCold hexec (own := own) (C := cls) (index := ik) (n := 6) hown' hk' hins hini'
    (g := F0 m pc ls rest) rfl (by rw [hb]; exact d0) (Nat.le_refl _) (Nat.le_refl _)
  generalize hT1 : (T.setVm vm₁).pushCell { cls := cX, slots := kX.instanceTypes.map defaultValue, vm := .none } = T1 at X₁ st1
  have hcat : (Value.ref T.heap.size).category = 1 := rfl
  have hcellA : T1.heap[T.heap.size]? = some (freshCell cX kX) := by rw [← hT1]; exact State.heap_pushCell_size _ _
  have d3' : decode c.code (pc + 3) = .ok (.dup, 1) := by rw [hb]; exact d3
  obtain ⟨U, hsteps, hrun, hend, hW, hsame, ce, hce, hO⟩ := X₁.ctorThrow0 hexec htr (own := own) (cls := cls) (names := names) (ic := ic) hown' hcls hnames h (fun x hx => nomatch hx) hfX hkX hcellA (by rw [hhp, hT]; exact Nat.le_refl _)
    (g := { method := m, pc := pc + 4, locals := ls, stack := .ref T.heap.size :: .ref T.heap.size :: rest, locked := none }) rfl hsize rfl rfl (rest := rest) rfl
    (by rw [hb]; exact d4) (by rw [hb]; exact d7) hout hRframes (by simp only [List.map_cons, List.sum_cons, hcat]; omega) hlocks
  obtain ⟨f1, f2⟩ := vx_frame hsame
  rw [hhp] at f1 f2
  have hWs : s.WarmedH U.vm := State.WarmedH.trans hW0 hW
  have hcl : s.vm.findClass cls = some ce.cls := by
    have h9 := hO.cls
    rw [hvm] at h9
    exact h9
  have hall : s.sameButNew ({ U with vm := s.vm } : State) locs mc ms := by
    subst hA
    obtain ⟨e1, e2⟩ := hsame
    rw [State.setFrames_setFrames] at e1
    have h2 : (T.setVm s.vm).sameButNew ({ U with vm := s.vm } : State) [] (0 + 1) (0 + 6) := ⟨e1, e2⟩
    have h3 := X.same.trans h2
    rw [List.append_nil] at h3
    exact h3.mono hc hs
  refine ⟨U, ?_, .threw T.heap.size, hrun, hend, Or.inr ⟨T.heap.size, rfl, cls, ce, locs, hx U hWs.alike f1 (fun q hq => f2 q hq (fun z hz => nomatch hz)), hce, hO.vm, hcl, hWs, hall, hf⟩⟩
  refine st1 _ ?_
  show Steps p.tables e below (T1.setTop { method := m, pc := pc + 3, locals := ls, stack := .ref T.heap.size :: rest, locked := none }) _
  jvm_step X₁.here [X₁.here.top, hexec, d3', Value.category]
  exact hsteps
/-- 'throw new E("text")': new; dup; ldc; invokespecial; athrow -/
theorem vx_throwS {cc : ByteArray} {pc : Nat} (hexec : p.tables.exec = Jvm.exec) (hb : c.code = cc) (hl : l.stackTraces = false) {own cls text : String} {names : List String} {ik is ic mc ms sa : Nat} {A : Nat → Prop}
    (hown : s.vm.findClass own = some m.cls) (hcls : Bundle.fit cls = true) (hnames : ∀ n ∈ names, Bundle.fit n = true)
    (hk : (Cond.classLink own ik cls).before args s = true) (hini : (Cond.initialized cls).before args s = true) (hstr : vk_R own is text sa s) (hat : ∀ w ∈ vx_atS own ic cls names, w.before args s = true)
    (hgood : ∀ w ∈ Cond.classLink own ik cls :: Cond.initialized cls :: vx_atS own ic cls names, vx_ot w = true)
    (hU : vx_Zq Bundle.tN "UNASSIGNED_STACK" Bundle.steD A s s.heap) (hN : vx_Zq Bundle.tN "SUPPRESSED_SENTINEL" Bundle.listD A s s.heap) (hS : va_S A s.heap H locs) (hsize : ls.size = c.maxLocals)
    (d0 : decode cc pc = .ok (.new ik, 3)) (d3 : decode cc (pc + 3) = .ok (.dup, 1)) (d4 : decode cc (pc + 4) = .ok (.ldc is, 2)) (d6 : decode cc (pc + 6) = .ok (.invokespecial ic, 3)) (d9 : decode cc (pc + 9) = .ok (.athrow, 1))
    (hout : ∀ x ∈ c.exceptionTable.toList, covers x (pc + 9) = false)
    (hRframes : names.length + 3 < R.frames) (hRlocals : (rest.map fun v => v.category).sum + (13 * (names.length + 1) + 43) ≤ R.locals) (hRcells : cells + 1 ≤ R.cells) (hRslots : slots + 6 ≤ R.slots) (hlocks : meth.locks = false)
    (hx : ∀ t : State, s.vm.Alike t.vm → H.size ≤ t.heap.size → (∀ q : Nat, q < H.size → t.heap[q]? = H[q]?) → XC cls s t)
    (hf : ∀ z ∈ locs, free z.base) (hc : cells + 1 ≤ mc) (hs : slots + 6 ≤ ms) :
    W p l e R s m args below meth c H locs cells slots (vx_MQ below Qc XC args s mc ms free) (F0 m pc ls rest) := by
  intro T hT X
  have htr : e.platform.stackTraces = false := (show e.platform.stackTraces = l.stackTraces by rw [X.admits.platform]).trans hl
  have Y := vx_rebase X (R' := { frames := R.frames, locals := R.locals, cells := 1, slots := 6 }) (Nat.le_refl _) (Nat.le_refl _) hRcells hRslots
  obtain ⟨s', hA⟩ : ∃ z, z = (T.setVm s.vm).setFrames (.invoking m args :: below) := ⟨_, rfl⟩
  rw [← hA] at Y
  have hvm : s'.vm = s.vm := by rw [hA]; rfl
  have hhp : s'.heap = H := by rw [hA]; exact hT
  have hW0 : s.WarmedH s'.vm := by rw [hvm]; exact State.WarmedH.refl s
  have hat' : ∀ w ∈ vx_atS own ic cls names, w.before args s' = true := fun w hw => vx_ot_at hW0 hvm.symm (hgood w (List.mem_cons_of_mem _ (List.mem_cons_of_mem _ hw))) (hat w hw)
  have hk' : (Cond.classLink own ik cls).before args s' = true := vx_ot_at hW0 hvm.symm (hgood _ List.mem_cons_self) hk
  have hini' : (Cond.initialized cls).before args s' = true := vx_ot_at hW0 hvm.symm (hgood _ (List.mem_cons_of_mem _ List.mem_cons_self)) hini
  have hU' : vx_Zq Bundle.tN "UNASSIGNED_STACK" Bundle.steD A s' s'.heap := by rw [hhp]; exact vx_Zq.moved hW0.alike (hU.kept hS.2.1)
  have hN' : vx_Zq Bundle.tN "SUPPRESSED_SENTINEL" Bundle.listD A s' s'.heap := by rw [hhp]; exact vx_Zq.moved hW0.alike (hN.kept hS.2.1)
  have h : ∀ w ∈ Bundle.ownAtoms own ic cls names, w.before args s' = true := vx_own hat' (vx_isRefq hU'.1) (vx_isRefq hN'.1) hU'.2.word hN'.2.word
  have hown' : s'.vm.findClass own = some m.cls := by rw [hvm]; exact hown
  have hins : (Cond.instantiable cls 6).before args s' = true := h _ (by simp [Bundle.ownAtoms])
  obtain ⟨vm₁, cX, kX, hfX, hkX, -, -, X₁, st1⟩ := Y.newCold hexec (own := own) (C := cls) (index := ik) (n := 6) hown' hk' hins hini'
    (g := F0 m pc ls rest) rfl (by rw [hb]; exact d0) (Nat.le_refl _) (Nat.le_refl _)
  generalize hT1 : (T.setVm vm₁).pushCell { cls := cX, slots := kX.instanceTypes.map defaultValue, vm := .none } = T1 at X₁ st1
  have hcat : (Value.ref T.heap.size).category = 1 := rfl
  have hcellA : T1.heap[T.heap.size]? = some (freshCell cX kX) := by rw [← hT1]; exact State.heap_pushCell_size _ _
  have d3' : decode c.code (pc + 3) = .ok (.dup, 1) := by rw [hb]; exact d3
  have d4' : decode c.code (pc + 4) = .ok (.ldc is, 2) := by rw [hb]; exact d4
  have hstr' : vk_R own is text sa s' := vk_R.warm hW0 hstr
  obtain ⟨U, hsteps, hrun, hend, hW, hsame, ce, hce, hO⟩ := X₁.ctorThrowS hexec htr (own := own) (cls := cls) (names := names) (ic := ic) hown' hcls hnames h (fun x hx => nomatch hx) hfX hkX hcellA (by rw [hhp, hT]; exact Nat.le_refl _) (msg := .ref sa) rfl
    (g := { method := m, pc := pc + 6, locals := ls, stack := .ref sa :: .ref T.heap.size :: .ref T.heap.size :: rest, locked := none }) rfl hsize rfl rfl (rest := rest) rfl
    (by rw [hb]; exact d6) (by rw [hb]; exact d9) hout hRframes (by simp only [List.map_cons, List.sum_cons, hcat]; omega) hlocks
  obtain ⟨f1, f2⟩ := vx_frame hsame
  rw [hhp] at f1 f2
  have hWs : s.WarmedH U.vm := State.WarmedH.trans hW0 hW
  have hcl : s.vm.findClass cls = some ce.cls := by
    have h9 := hO.cls
    rw [hvm] at h9
    exact h9
  have hall : s.sameButNew ({ U with vm := s.vm } : State) locs mc ms := by
    subst hA
    obtain ⟨e1, e2⟩ := hsame
    rw [State.setFrames_setFrames] at e1
    have h2 : (T.setVm s.vm).sameButNew ({ U with vm := s.vm } : State) [] (0 + 1) (0 + 6) := ⟨e1, e2⟩
    have h3 := X.same.trans h2
    rw [List.append_nil] at h3
    exact h3.mono hc hs
  refine ⟨U, ?_, .threw T.heap.size, hrun, hend, Or.inr ⟨T.heap.size, rfl, cls, ce, locs, hx U hWs.alike f1 (fun q hq => f2 q hq (fun z hz => nomatch hz)), hce, hO.vm, hcl, hWs, hall, hf⟩⟩
  refine st1 _ ?_
  show Steps p.tables e below (T1.setTop { method := m, pc := pc + 3, locals := ls, stack := .ref T.heap.size :: rest, locked := none }) _
  jvm_step X₁.here [X₁.here.top, hexec, d3', Value.category]
  exact X₁.ldcString hexec (own := own) (text := text) (index := is) (a := sa) hown' hstr'.1 hstr'.2
    (g := { method := m, pc := pc + 4, locals := ls, stack := .ref T.heap.size :: .ref T.heap.size :: rest, locked := none }) rfl d4' _ hsteps
/-- 'throw new E("text")', the text by a wide index -/
theorem vx_throwSW {cc : ByteArray} {pc : Nat} (hexec : p.tables.exec = Jvm.exec) (hb : c.code = cc) (hl : l.stackTraces = false) {own cls text : String} {names : List String} {ik is ic mc ms sa : Nat} {A : Nat → Prop}
    (hown : s.vm.findClass own = some m.cls) (hcls : Bundle.fit cls = true) (hnames : ∀ n ∈ names, Bundle.fit n = true)
    (hk : (Cond.classLink own ik cls).before args s = true) (hini : (Cond.initialized cls).before args s = true) (hstr : vk_R own is text sa s) (hat : ∀ w ∈ vx_atS own ic cls names, w.before args s = true)
    (hgood : ∀ w ∈ Cond.classLink own ik cls :: Cond.initialized cls :: vx_atS own ic cls names, vx_ot w = true)
    (hU : vx_Zq Bundle.tN "UNASSIGNED_STACK" Bundle.steD A s s.heap) (hN : vx_Zq Bundle.tN "SUPPRESSED_SENTINEL" Bundle.listD A s s.heap) (hS : va_S A s.heap H locs) (hsize : ls.size = c.maxLocals)
    (d0 : decode cc pc = .ok (.new ik, 3)) (d3 : decode cc (pc + 3) = .ok (.dup, 1)) (d4 : decode cc (pc + 4) = .ok (.ldc_w is, 3)) (d7 : decode cc (pc + 7) = .ok (.invokespecial ic, 3)) (d10 : decode cc (pc + 10) = .ok (.athrow, 1))
    (hout : ∀ x ∈ c.exceptionTable.toList, covers x (pc + 10) = false)
    (hRframes : names.length + 3 < R.frames) (hRlocals : (rest.map fun v => v.category).sum + (13 * (names.length + 1) + 43) ≤ R.locals) (hRcells : cells + 1 ≤ R.cells) (hRslots : slots + 6 ≤ R.slots) (hlocks : meth.locks = false)
    (hx : ∀ t : State, s.vm.Alike t.vm → H.size ≤ t.heap.size → (∀ q : Nat, q < H.size → t.heap[q]? = H[q]?) → XC cls s t)
    (hf : ∀ z ∈ locs, free z.base) (hc : cells + 1 ≤ mc) (hs : slots + 6 ≤ ms) :
    W p l e R s m args below meth c H locs cells slots (vx_MQ below Qc XC args s mc ms free) (F0 m pc ls rest) := by
  intro T hT X
  have htr : e.platform.stackTraces = false := (show e.platform.stackTraces = l.stackTraces by rw [X.admits.platform]).trans hl
  have Y := vx_rebase X (R' := { frames := R.frames, locals := R.locals, cells := 1, slots := 6 }) (Nat.le_refl _) (Nat.le_refl _) hRcells hRslots
  obtain ⟨s', hA⟩ : ∃ z, z = (T.setVm s.vm).setFrames (.invoking m args :: below) := ⟨_, rfl⟩
  rw [← hA] at Y
  have hvm : s'.vm = s.vm := by rw [hA]; rfl
  have hhp : s'.heap = H := by rw [hA]; exact hT
  have hW0 : s.WarmedH s'.vm := by rw [hvm]; exact State.WarmedH.refl s
  have hat' : ∀ w ∈ vx_atS own ic cls names, w.before args s' = true := fun w hw => vx_ot_at hW0 hvm.symm (hgood w (List.mem_cons_of_mem _ (List.mem_cons_of_mem _ hw))) (hat w hw)
  have hk' : (Cond.classLink own ik cls).before args s' = true := vx_ot_at hW0 hvm.symm (hgood _ List.mem_cons_self) hk
  have hini' : (Cond.initialized cls).before args s' = true := vx_ot_at hW0 hvm.symm (hgood _ (List.mem_cons_of_mem _ List.mem_cons_self)) hini
  have hU' : vx_Zq Bundle.tN "UNASSIGNED_STACK" Bundle.steD A s' s'.heap := by rw [hhp]; exact vx_Zq.moved hW0.alike (hU.kept hS.2.1)
  have hN' : vx_Zq Bundle.tN "SUPPRESSED_SENTINEL" Bundle.listD A s' s'.heap := by rw [hhp]; exact vx_Zq.moved hW0.alike (hN.kept hS.2.1)
  have h : ∀ w ∈ Bundle.ownAtoms own ic cls names, w.before args s' = true := vx_own hat' (vx_isRefq hU'.1) (vx_isRefq hN'.1) hU'.2.word hN'.2.word
  have hown' : s'.vm.findClass own = some m.cls := by rw [hvm]; exact hown
  have hins : (Cond.instantiable cls 6).before args s' = true := h _ (by simp [Bundle.ownAtoms])
  obtain ⟨vm₁, cX, kX, hfX, hkX, -, -, X₁, st1⟩ := Y.newCold hexec (own := own) (C := cls) (index := ik) (n := 6) hown' hk' hins hini'
    (g := F0 m pc ls rest) rfl (by rw [hb]; exact d0) (Nat.le_refl _) (Nat.le_refl _)
  generalize hT1 : (T.setVm vm₁).pushCell { cls := cX, slots := kX.instanceTypes.map defaultValue, vm := .none } = T1 at X₁ st1
  have hcat : (Value.ref T.heap.size).category = 1 := rfl
  have hcellA : T1.heap[T.heap.size]? = some (freshCell cX kX) := by rw [← hT1]; exact State.heap_pushCell_size _ _
  have d3' : decode c.code (pc + 3) = .ok (.dup, 1) := by rw [hb]; exact d3
  have d4' : decode c.code (pc + 4) = .ok (.ldc_w is, 3) := by rw [hb]; exact d4
  have hstr' : vk_R own is text sa s' := vk_R.warm hW0 hstr
  obtain ⟨U, hsteps, hrun, hend, hW, hsame, ce, hce, hO⟩ := X₁.ctorThrowS hexec htr (own := own) (cls := cls) (names := names) (ic := ic) hown' hcls hnames h (fun x hx => nomatch hx) hfX hkX hcellA (by rw [hhp, hT]; exact Nat.le_refl _) (msg := .ref sa) rfl
    (g := { method := m, pc := pc + 7, locals := ls, stack := .ref sa :: .ref T.heap.size :: .ref T.heap.size :: rest, locked := none }) rfl hsize rfl rfl (rest := rest) rfl
    (by rw [hb]; exact d7) (by rw [hb]; exact d10) hout hRframes (by simp only [List.map_cons, List.sum_cons, hcat]; omega) hlocks
  obtain ⟨f1, f2⟩ := vx_frame hsame
  rw [hhp] at f1 f2
  have hWs : s.WarmedH U.vm := State.WarmedH.trans hW0 hW
  have hcl : s.vm.findClass cls = some ce.cls := by
    have h9 := hO.cls
    rw [hvm] at h9
    exact h9
  have hall : s.sameButNew ({ U with vm := s.vm } : State) locs mc ms := by
    subst hA
    obtain ⟨e1, e2⟩ := hsame
    rw [State.setFrames_setFrames] at e1
    have h2 : (T.setVm s.vm).sameButNew ({ U with vm := s.vm } : State) [] (0 + 1) (0 + 6) := ⟨e1, e2⟩
    have h3 := X.same.trans h2
    rw [List.append_nil] at h3
    exact h3.mono hc hs
  refine ⟨U, ?_, .threw T.heap.size, hrun, hend, Or.inr ⟨T.heap.size, rfl, cls, ce, locs, hx U hWs.alike f1 (fun q hq => f2 q hq (fun z hz => nomatch hz)), hce, hO.vm, hcl, hWs, hall, hf⟩⟩
  refine st1 _ ?_
  show Steps p.tables e below (T1.setTop { method := m, pc := pc + 3, locals := ls, stack := .ref T.heap.size :: rest, locked := none }) _
  jvm_step X₁.here [X₁.here.top, hexec, d3', Value.category]
  exact X₁.ldcStringW hexec (own := own) (text := text) (index := is) (a := sa) hown' hstr'.1 hstr'.2
    (g := { method := m, pc := pc + 4, locals := ls, stack := .ref T.heap.size :: .ref T.heap.size :: rest, locked := none }) rfl d4' _ hsteps
end Ends
section Bodies
variable {l : Launch}
theorem vx_ofW {y : MethodName} {ws ws' : List Cond} {rm : Room} {Pc : Array Value → State → Prop} {Qc : Array Value → State → Outcome → State → Prop} {XC : String → State → State → Prop} {mc ms : Nat} {free : Addr → Prop} {cc : ByteArray} {maxL : Nat} {ret : Option FieldType}
    (hy : plainName y.cls = true) (hw : ws = Cond.code y cc maxL ret :: ws')
    (body : ∀ p e s m args below meth c s₁, BodyLoose p l y (headSpec ws rm) cc maxL ret e s m args below meth c s₁ → c.maxLocals = maxL → (∀ x ∈ c.exceptionTable.toList, False) → Pc args s →
      W p l e (headSpec ws rm).room s m args below meth c s.heap [] 0 0 (vx_MQ below Qc XC args s mc ms free) (entryFrame m args maxL)) : vx_Met l y ws rm Pc Qc XC mc ms free := by
  refine MetFree.of_bodyS (code := cc) (maxLocals := maxL) (ret := ret) hy ?_ ?_
  · intro args s m h hn
    obtain ⟨meth, c, h1, h2, h3, h4, h5, h6, -, -⟩ := Cond.code_spec hn (atoms_spec (ws := ws) h _ (by rw [hw]; exact List.mem_cons_self))
    exact ⟨meth, c, h1, h2, h3, h4, h5, h6⟩
  · intro p e s m args below meth c s₁ B hml hP _
    have hh0 : s₁.heap = s.heap := by rw [B.state]; rfl
    have ht : ∀ x ∈ c.exceptionTable.toList, False := by
      obtain ⟨meth9, c9, h1, h2, -, -, -, -, h7, -⟩ := Cond.code_spec B.named (atoms_spec (ws := ws) B.pre _ (by rw [hw]; exact List.mem_cons_self))
      cases Option.some.inj (h1.symm.trans B.method)
      cases Option.some.inj (h2.symm.trans (Stand.of_body B).code)
      intro x hx
      rw [Array.isEmpty_iff.mp h7] at hx
      cases hx
    obtain ⟨t, a1, o, b1, b2, b3⟩ := body p e s m args below meth c s₁ B hml ht hP s₁ hh0 (Stand.of_body B)
    exact ⟨t, o, a1, b1, b2, b3⟩
/-- the table of a body with handlers -/
theorem vx_table {p : Program} {x y : MethodName} {S : Spec} {cc bytes : ByteArray} {maxL maxL' : Nat} {ret ret' : Option FieldType} {e : Env} {s s₁ : State} {m : MethodId} {args : Array Value} {below : List Frame} {meth : Method} {c : Code} {hh : List (Nat × Nat × Nat × Nat)}
    (B : BodyLoose p l y S cc maxL ret e s m args below meth c s₁) (h : (Cond.codeWith y bytes maxL' ret' hh).before args s = true) : c.exceptionTable.toList = tableOf hh := by
  obtain ⟨m9, meth9, c9, hn9, h1, h2, -, -, h6, -⟩ := Cond.codeWith_spec h
  cases Option.some.inj (hn9.symm.trans B.named)
  cases Option.some.inj (h1.symm.trans B.method)
  cases Option.some.inj (h2.symm.trans (Stand.of_body B).code)
  rw [← h6, table_eq]
end Bodies
end VXA
/-! ===== END ===== -/
/-! ===== BEGIN a static call of a method with an exception table ===== -/
section VXS
variable {p : Program} {l : Launch} {e : Env} {R : Room} {s : State} {m : MethodId} {args : Array Value} {below : List Frame} {meth : Method} {c : Code} {T : State} {H : Heap} {locs : List Loc} {cells slots : Nat}
abbrev vx_CSW (R : Room) (s : State) (args : Array Value) (own : String) (index : Nat) (y : MethodName) (bytes : ByteArray) (maxL : Nat) (ret : Option FieldType) (hh : List (Nat × Nat × Nat × Nat)) (ws : List Cond) (rm : Room) (mc ms n : Nat) : Prop :=
  (rm.cells = mc ∧ rm.slots = ms ∧ rm.frames + 1 ≤ R.frames ∧ 8 + (maxL + 11) + rm.locals ≤ R.locals ∧ (∀ w ∈ ws, ∀ (a' : Array Value) (U : State), s.WarmedH U.vm → w.before a' U = true) ∧ Cond.codeWith y bytes maxL ret hh ∈ ws) ∧
  (Cond.codeWith y bytes maxL ret hh).before args s = true ∧ (Cond.initialized y.cls).before args s = true ∧ (y.cls ≠ "java/lang/invoke/MethodHandle" ∧ y.cls ≠ "java/lang/invoke/VarHandle") ∧
  (∀ sig, parseMethodDescriptor y.desc = some sig → n = sig.parameters.length) ∧ (Cond.methodLink own index y).before args s = true ∧ (Cond.static y).before args s = true
theorem vx_cwSW {own : String} {index maxL mc ms : Nat} {y : MethodName} {bytes : ByteArray} {ret : Option FieldType} {hh : List (Nat × Nat × Nat × Nat)} {Ts ws ws' : List Cond} {rm : Room} (n : Nat) (ht : ∀ w ∈ Ts, w.before args s = true) (hT : GoodIn Ts (va_wsS own index y ws)) (hw : ws = Cond.codeWith y bytes maxL ret hh :: ws') (hrc : rm.cells = mc) (hrs : rm.slots = ms)
    (hd : y.cls ≠ "java/lang/invoke/MethodHandle" ∧ y.cls ≠ "java/lang/invoke/VarHandle" ∧ (parseMethodDescriptor y.desc).map (fun d => d.parameters.length) = some n) (hR : rm.frames + 1 ≤ R.frames ∧ 8 + (maxL + 11) + rm.locals ≤ R.locals) :
    vx_CSW R s args own index y bytes maxL ret hh ws rm mc ms n := by
  have ok : ∀ w ∈ va_wsS own index y ws, w.before args s = true := fun w h => ht w (hT w h).1
  have hG : GoodIn Ts ws := fun w h => hT w (by unfold va_wsS; exact List.mem_append_right _ h)
  have hc : Cond.codeWith y bytes maxL ret hh ∈ ws := by rw [hw]; exact List.mem_cons_self
  refine ⟨⟨hrc, hrs, hR.1, hR.2, pay_in ht hG, hc⟩, ht _ (hG _ hc).1, ok _ (by simp [va_wsS]), ⟨hd.1, hd.2.1⟩, fun sig h => ?_, ok _ (by simp [va_wsS]), ok _ (by simp [va_wsS])⟩
  have h2 := hd.2.2
  rw [h] at h2
  exact (Option.some.inj h2).symm
theorem vx_callSW (X : Stand p l e R s m args below meth c T locs cells slots) (hexec : p.tables.exec = Jvm.exec) {own : String} {index : Nat} {y : MethodName} {bytes : ByteArray} {maxL : Nat} {ret : Option FieldType} {hh : List (Nat × Nat × Nat × Nat)}
    (hown : s.vm.findClass own = some m.cls) (hlink : (Cond.methodLink own index y).before args s = true) (hstat : (Cond.static y).before args s = true) (hinit : (Cond.initialized y.cls).before args s = true)
    (hcode : (Cond.codeWith y bytes maxL ret hh).before args s = true) (hy : y.cls ≠ "java/lang/invoke/MethodHandle" ∧ y.cls ≠ "java/lang/invoke/VarHandle")
    {W9 : Nat} {Pre : Pt → Array Value → Prop} {Post : Pt → Array Value → Option Value → Pt → Prop} (hK : Back l R p e below s args y 3 W9 Pre Post)
    {g : JFrame} (hg : g.method = m) (hsize : g.locals.size = c.maxLocals) {argsL rest : List Value} (hlen : ∀ sig, parseMethodDescriptor y.desc = some sig → argsL.length = sig.parameters.length)
    (hstack : g.stack = argsL.reverse ++ rest) (hW : 2 * g.monitorRoom + (rest.map fun v => v.category).sum ≤ W9) (hdg : decode c.code g.pc = .ok (.invokestatic index, 3))
    (hpre : ∀ vm₁, s.WarmedH vm₁ → Pre ⟨T.setVm vm₁, locs, cells, slots⟩ argsL.toArray) :
    ∃ (v : Option Value) (vm₁ : Vm) (B : Pt), s.WarmedH vm₁ ∧ Stand p l e R s m args below meth c B.U B.locs B.cells B.slots ∧ Post ⟨T.setVm vm₁, locs, cells, slots⟩ argsL.toArray v B ∧
      ∀ target, Steps p.tables e below (B.U.setTop { g with pc := g.pc + 3, stack := v.toList ++ rest }) target → Steps p.tables e below (T.setTop g) target := by
  obtain ⟨mk, methM, cM, hnamed, hmethM, -, -, -, -, -, -, hsigM⟩ := Cond.codeWith_spec hcode
  have hstatic : methM.isStatic = true := Cond.static_spec hnamed hmethM hstat
  obtain ⟨kP, hkP, -⟩ := className_of_methodNamed hnamed
  have hinitP : kP.init = .initialized := Cond.initialized_spec (findClass_of_methodNamed hnamed) hkP hinit
  obtain ⟨vm₁, X₁, hstep₁⟩ := X.invokestatic hexec hown hlink hnamed hmethM hstatic hkP hinitP hy (g := g) hg (argsL := argsL) (rest := rest) (hlen _ hsigM) hstack hdg
  obtain ⟨v, B, X', hpost, hsteps⟩ := hK m meth c ⟨T.setVm vm₁, locs, cells, slots⟩ { g with stack := rest } (.invokestatic index) mk argsL.toArray X₁ hg hsize hdg hW (X₁.named hnamed) (hpre vm₁ X₁.warmed)
  exact ⟨v, vm₁, B, X₁.warmed, X', hpost, fun target h => hstep₁ _ fun acts => by rw [doInvoke_state]; exact hsteps.trans h⟩
theorem vx_runSW {y : MethodName} {bytes cc : ByteArray} {maxL nL mc ms n index : Nat} {ret : Option FieldType} {hh : List (Nat × Nat × Nat × Nat)} {ws : List Cond} {rm : Room} {Pc : Array Value → State → Prop} {Qc : Array Value → State → Outcome → State → Prop} {free : Addr → Prop} {Ts : List Cond} {own : String} {As rest : List Value} {g : JFrame}
    (S : CallFix p m c cc nL s args Ts own) (hM : Met l y ws rm Pc Qc mc ms free) (cw : vx_CSW R s args own index y bytes maxL ret hh ws rm mc ms n) (hp : PreS s H Pc As)
    (hg : g.method = m) (hn : As.length = n) (hsize : g.locals.size = nL) (hstack : g.stack = As.reverse ++ rest) (hW : 2 * g.monitorRoom + (rest.map fun v => v.category).sum ≤ 8) (hdg : decode cc g.pc = .ok (.invokestatic index, 3)) (hf : cells + mc ≤ R.cells ∧ slots + ms ≤ R.slots) :
    va_Run p l e R s m args below meth c H locs cells slots mc ms g rest (Qc As.toArray) (free) := by
  obtain ⟨⟨hrc, hrs, hfr, hlo, hws, hcw⟩, hcode, hini, hy, hlen, hl, hstt⟩ := cw
  have hK : Back l R p e below s args y 3 8 (PreOf R mc ms Pc) (PostOf Qc mc ms free) := va_backW (hh := hh) (bytes := bytes) (maxL := maxL) (ret := ret) hM hp.1 hrc hrs hfr hlo hws hcw (fun a' U hW => word_at hW (Or.inl (by first | rfl | simp [Cond.onTables, Cond.keeps, Cond.steady])) hini)
  obtain ⟨hx, hb, hml, ho, -⟩ := S
  intro T hT X
  obtain ⟨v, vm₁, ⟨U', l2, c2, s2⟩, hW₁, X', ⟨g', mk, t, L, e1, e2, hq, h1, hL, h2, h3⟩, st⟩ := vx_callSW X hx (hh := hh) (bytes := bytes) (maxL := maxL) (ret := ret) ho hl hstt hini hcode hy hK hg (hsize.trans hml.symm) (argsL := As) (rest := rest) (fun sig h => hn.trans (hlen sig h)) hstack hW (by rw [hb]; exact hdg)
    (fun vm₁ hW₁ => ⟨hf.1, hf.2, hp.2 (T.setVm vm₁) hT hW₁⟩)
  dsimp only [Pt.U, Pt.locs, Pt.cells, Pt.slots] at X' e1 e2 h1 h2 h3 st
  subst h1; subst h2; subst h3
  exact ⟨v, (T.setVm vm₁).calling g' mk As.toArray, t, U', L, hT, X', hL, e1, e2, hq, st⟩
/-- not caught here, past rows that name other classes: it goes on to the caller -/
theorem vx_outP {p : Program} {l : Launch} {e : Env} {R : Room} {s : State} {m : MethodId} {args : Array Value} {below : List Frame} {meth : Method} {c : Code} {H : Heap} {locs : List Loc} {cells slots : Nat} {free : Addr → Prop} {ls : Array Slot} {rest : List Value} {Qc : Array Value → State → Outcome → State → Prop} {XC : String → State → State → Prop}
    {pc : Nat} {own E : String} {ce : Cell} {q : Addr} {mc ms : Nat} (hown : s.vm.findClass own = some m.cls) (hlocks : meth.locks = false)
    (hpass : ∀ z ∈ c.exceptionTable.toList, covers z pc = false ∨ (z.catchType ≠ 0 ∧ ∃ nm : String, (Cond.classLink own z.catchType nm).before args s = true ∧ va_Nc E nm s)) (hcell : H[q]? = some ce) (hv : ce.vm = .none) (hcl : s.vm.findClass E = some ce.cls)
    (hx : ∀ t : State, t.heap = H → s.vm.Alike t.vm → XC E s t) (hf : ∀ z ∈ locs, free z.base) (hc : cells ≤ mc) (hs : slots ≤ ms) :
    vx_W p l e R s m args below meth c H locs cells slots (vx_MQ below Qc XC args s mc ms free) (F0 m pc ls rest) q := by
  intro T hT X
  have hpl : e.platform.magicAccessors = ({} : Platform).magicAccessors := by rw [X.admits.platform]
  obtain ⟨vm', hW', X', st⟩ := X.outThrough hlocks q (g := F0 m pc ls rest) rfl rfl rfl (cell := ce) (by rw [hT]; exact hcell) (by rw [hv]; rfl)
    (by obtain ⟨k9, h9, -⟩ := Vm.findClass_spec hcl; exact ⟨k9, h9⟩) (fun z hz => by
      rcases hpass z hz with h | ⟨hz0, nm, hl1, hn1⟩
      · exact Or.inl h
      · obtain ⟨c6, hc6, hcl6⟩ := Cond.classLink_spec hown hl1 e.platform hpl
        obtain ⟨a8, b8, h1, h2, h3⟩ := hn1
        cases Option.some.inj (h1.symm.trans hcl)
        cases Option.some.inj (h2.symm.trans hc6)
        exact Or.inr ⟨hz0, _, hcl6, h3⟩)
  obtain ⟨g₀, hfr⟩ := X'.frames_eq
  have hcell9 : ((T.setVm vm').setFrames (.throwing q :: below)).heap[q]? = some ce := by
    show T.heap[q]? = some ce
    rw [hT]; exact hcell
  have hend : Ended ((T.setVm vm').setFrames (.throwing q :: below)) below (.threw q) := State.frames_setFrames _ (State.cur_lt_of_frames hfr)
  refine ⟨(T.setVm vm').setFrames (.throwing q :: below), ?_, .threw q, X'.here.running, hend, Or.inr ⟨q, rfl, E, ce, locs, hx _ hT (X'.ends _).1.alike, hcell9, hv, hcl, (X'.ends _).1, (X'.ends _).2.mono hc hs, hf⟩⟩
  rw [X.pushThrowing_eq]
  exact st
/-- a thing of a world lies in the heap -/
theorem vx_lt {D : va_G} {cl : List vw_C} {ws : va_W} {H1 : Heap} (h : va_P D cl ws H1) {k : Nat} {q : Nat × va_E} (hk : ws[k]? = some q) : q.1 < H1.size := (h k q hk).lt
end VXS
/-! ===== END ===== -/
/-! ===== BEGIN methods with a table of their own: called by a name, returning or throwing ===== -/
section VXH
/-! vx_backW, vx_callVX, vx_callSX, vx_callVW, vx_runVW, vx_runVX, vx_runSX, vx_ofWH follow the same proofs as their sisters above (Free/Laws.lean, Shelf42/LK1.lean); vx_outP calls Shelf42/NT130.lean (outThrough). -/
section
variable {l : Launch} {R : Room} {p : Program} {e : Env} {below : List Frame} {s : State} {sargs : Array Value} {y : MethodName} {len W9 : Nat}
theorem vx_backW {ws : List Cond} {rm : Room} {Pc : Array Value → State → Prop} {Qc : Array Value → State → Outcome → State → Prop} {XC : String → State → State → Prop} {mc ms : Nat} {free : Addr → Prop} {bytes : ByteArray} {maxL : Nat} {ret : Option FieldType} {hh : List (Nat × Nat × Nat × Nat)}
    (hM : vx_Met l y ws rm Pc Qc XC mc ms free) (hblind : FrameBlind Pc) (hrc : rm.cells = mc) (hrs : rm.slots = ms)
    (hframes : rm.frames + 1 ≤ R.frames) (hlocals : W9 + (maxL + 11) + rm.locals ≤ R.locals)
    (hws : ∀ w ∈ ws, ∀ a' U, s.WarmedH U.vm → w.before a' U = true) (hcode : Cond.codeWith y bytes maxL ret hh ∈ ws) (hinit : ∀ a' U, s.WarmedH U.vm → (Cond.initialized y.cls).before a' U = true) :
    vx_Back l R p e below s sargs y len W9 (PreOf R mc ms Pc) (PostOf Qc mc ms free) (vx_Post XC mc ms free) := by
  intro m meth c A g ig mk a X hg hsize hdg hW hn hp
  have h1 : (headSpec ws rm).pre.before a A.U = true := atoms_intro fun w hw => hws w hw _ _ X.warmed
  have h2 : (Cond.codeWith y bytes maxL ret hh).before a A.U = true := hws _ hcode _ _ X.warmed
  have h3 : (Cond.initialized y.cls).before a A.U = true := hinit _ _ X.warmed
  have h4 : A.cells + (headSpec ws rm).room.cells ≤ R.cells := by rw [show (headSpec ws rm).room.cells = mc from hrc]; exact hp.1
  have h5 : A.slots + (headSpec ws rm).room.slots ≤ R.slots := by rw [show (headSpec ws rm).room.slots = ms from hrs]; exact hp.2.1
  have hPc : Pc a (A.U.calling g mk a) := hblind _ _ _ _ hp.2.2
  obtain ⟨U, Ls, c0, s0⟩ := A
  dsimp only [Pt.U, Pt.locs, Pt.cells, Pt.slots] at h1 h2 h3 h4 h5 X hn hPc ⊢
  obtain ⟨m9, methY, cY, hn9, hmY, hcY, -, hlY, -⟩ := Cond.codeWith_spec h2
  cases Option.some.inj (hn9.symm.trans hn)
  obtain ⟨kY, hkY, -⟩ := className_of_methodNamed hn
  have hinitY : kY.init = .initialized := Cond.initialized_spec (findClass_of_methodNamed hn) hkY h3
  have h : At U g.method c below := by rw [hg]; exact X.here
  have hlocals9 : W9 + (maxL + 11) + (headSpec ws rm).room.locals ≤ R.locals := hlocals
  have happ : (headSpec ws rm).appliesLoose y e.platform (U.calling g mk a) = true :=
    Spec.appliesLoose_calling (g := g) h hdg hn hkY hinitY
      (X.room_calling (g := g) (R' := (headSpec ws rm).room) hsize hmY hcY hframes (by rw [hlY]; omega) h4 h5) h1
  obtain ⟨mid, hmid⟩ := h.above
  have hfr : (U.setTop g).frames = (.java g :: mid) ++ below := by rw [State.frames_setTop' g h.top, hmid]; rfl
  obtain ⟨o, s₂, hsteps, -, hend, hq⟩ := Steps.callFree hM p X.admits X.cas X.clock (acts := []) hfr happ hPc trivial
  have hq' : vx_Q Qc XC mc ms free a (U.calling g mk a) o s₂ := hq
  rw [State.frames_setTop' g h.top] at hend
  obtain ⟨g₀, hg0⟩ := Option.isSome_iff_exists.mp h.top
  obtain ⟨r, hr⟩ := State.topJava?_eq_some.mp hg0
  have hr' : (({ U with heap := s₂.heap, slotsUsed := s₂.slotsUsed } : State).setVm s₂.vm).frames = .java g₀ :: r := hr
  rcases hq' with ⟨hqc, L, hfe, hL⟩ | ⟨q, rfl, E, ce, L, hx, hce, hcv, hcl, hW₂, hsm, hL⟩
  · obtain ⟨⟨v, rfl⟩, hW₂, e2, q2, q3, q4, q5, q6⟩ := id hfe
    have e3 : s₂ = ({ (U.calling g mk a).setFrames s₂.frames with heap := s₂.heap, slotsUsed := s₂.slotsUsed } : State).setVm s₂.vm := by
      have : s₂ = ({ s₂ with vm := (U.calling g mk a).vm } : State).setVm s₂.vm := rfl
      rw [e2] at this
      exact this
    obtain ⟨c₂, i₂, len₂, hc₂, hd₂, hf₂⟩ := hend
    have hW' : U.WarmedH s₂.vm := hW₂
    have hcc : c₂ = c := by
      have h1 : s₂.code? g.method = U.code? g.method := by
        rw [State.code?_eq, State.code?_eq, hW'.alike.method?]
      exact Option.some.inj (hc₂.symm.trans (h1.trans h.code))
    subst hcc
    have hlen : len₂ = len := by rw [hdg] at hd₂; cases hd₂; rfl
    subst hlen
    have hs₂ : s₂ = (({ U with heap := s₂.heap, slotsUsed := s₂.slotsUsed } : State).setVm s₂.vm).setTop { g with pc := g.pc + len₂, stack := v.toList ++ g.stack } := by
      refine e3.trans ?_
      rw [hf₂, State.calling_eq h.top, State.setFrames_setFrames, State.setTop_of_frames _ hr', hr]
      rfl
    have hsame : U.sameButNew ({ U with heap := s₂.heap, slotsUsed := s₂.slotsUsed } : State) L mc ms := by
      refine ⟨?_, q2, q3, q4, q5, q6⟩
      obtain ⟨t, ht, -⟩ := State.frames_cons hr
      show ({ U with heap := s₂.heap, slotsUsed := s₂.slotsUsed } : State) = { U.setFrames U.frames with heap := s₂.heap, slotsUsed := s₂.slotsUsed }
      rw [State.setFrames_self ht]
    subst hg
    refine Or.inl ⟨v, ⟨(({ U with heap := s₂.heap, slotsUsed := s₂.slotsUsed } : State).setVm s₂.vm), Ls ++ L, c0 + mc, s0 + ms⟩,
      ⟨X.admits, X.cas, X.clock, X.frames, X.room, X.hears, X.method, X.code, (X.here.setHeapUsed s₂.heap s₂.slotsUsed).setVm hW'.alike, X.tail, State.WarmedH.trans X.warmed hW', X.limits, X.bytes, X.same.trans (hsame.setVm s.vm)⟩,
      ⟨g, mk, s₂, L, rfl, rfl, hqc, rfl, hL, rfl, rfl⟩, ?_⟩
    show Steps p.tables e below _ ((({ U with heap := s₂.heap, slotsUsed := s₂.slotsUsed } : State).setVm s₂.vm).setTop { g with pc := g.pc + len₂, stack := v.toList ++ g.stack })
    rw [← hs₂]
    exact hsteps
  · obtain ⟨e2, q2, q3, q4, q5, q6⟩ := id hsm
    have e3 : s₂ = ({ (U.calling g mk a).setFrames s₂.frames with heap := s₂.heap, slotsUsed := s₂.slotsUsed } : State).setVm s₂.vm := by
      have : s₂ = ({ s₂ with vm := (U.calling g mk a).vm } : State).setVm s₂.vm := rfl
      rw [e2] at this
      exact this
    have hf₂ : s₂.frames = .throwing q :: .java g :: U.frames.tail := hend
    have hW' : U.WarmedH s₂.vm := hW₂
    have hs₂ : s₂ = ((({ U with heap := s₂.heap, slotsUsed := s₂.slotsUsed } : State).setVm s₂.vm).setTop g).pushFrame (.throwing q) := by
      refine e3.trans ?_
      rw [hf₂, State.calling_eq h.top, State.setFrames_setFrames, State.pushFrame, State.frames_setTop _ hr', State.setTop_of_frames _ hr', State.setFrames_setFrames, hr]
      rfl
    have hsame : U.sameButNew ({ U with heap := s₂.heap, slotsUsed := s₂.slotsUsed } : State) L mc ms := by
      refine ⟨?_, q2, q3, q4, q5, q6⟩
      obtain ⟨t, ht, -⟩ := State.frames_cons hr
      show ({ U with heap := s₂.heap, slotsUsed := s₂.slotsUsed } : State) = { U.setFrames U.frames with heap := s₂.heap, slotsUsed := s₂.slotsUsed }
      rw [State.setFrames_self ht]
    subst hg
    refine Or.inr ⟨q, ⟨(({ U with heap := s₂.heap, slotsUsed := s₂.slotsUsed } : State).setVm s₂.vm), Ls ++ L, c0 + mc, s0 + ms⟩,
      ⟨X.admits, X.cas, X.clock, X.frames, X.room, X.hears, X.method, X.code, (X.here.setHeapUsed s₂.heap s₂.slotsUsed).setVm hW'.alike, X.tail, State.WarmedH.trans X.warmed hW', X.limits, X.bytes, X.same.trans (hsame.setVm s.vm)⟩,
      ⟨g, mk, s₂, L, E, ce, rfl, rfl, hx, hce, hcv, hcl, rfl, hL, rfl, rfl⟩, ?_⟩
    show Steps p.tables e below _ (((({ U with heap := s₂.heap, slotsUsed := s₂.slotsUsed } : State).setVm s₂.vm).setTop g).pushFrame (.throwing q))
    rw [← hs₂]
    exact hsteps
end
variable {p : Program} {l : Launch} {e : Env} {R : Room} {s : State} {m : MethodId} {args : Array Value} {below : List Frame} {meth : Method} {c : Code} {T : State} {H : Heap} {locs : List Loc} {cells slots : Nat}
theorem vx_callVX (X : Stand p l e R s m args below meth c T locs cells slots) (hexec : p.tables.exec = Jvm.exec) {own C : String} {index : Nat} {y : MethodName} {bytes : ByteArray} {maxL : Nat} {ret : Option FieldType} {hh : List (Nat × Nat × Nat × Nat)}
    (hown : s.vm.findClass own = some m.cls) (hlink : (Cond.methodLink own index y).before args s = true) (hinst : (Cond.instanceMethod y).before args s = true) (hsel : (Cond.selects C y y).before args s = true)
    (hcode : (Cond.codeWith y bytes maxL ret hh).before args s = true) (hy : y.cls ≠ "java/lang/invoke/MethodHandle" ∧ y.cls ≠ "java/lang/invoke/VarHandle")
    {W9 : Nat} {Pre : Pt → Array Value → Prop} {Post : Pt → Array Value → Option Value → Pt → Prop} {PostX : Pt → Array Value → Addr → Pt → Prop} (hK : vx_Back l R p e below s args y 3 W9 Pre Post PostX)
    {b : Addr} {cellB : Cell} (hcell : T.heap[b]? = some cellB) (hobj : cellB.vm.isStatics = false) (hcls : s.vm.findClass C = some cellB.cls)
    {g : JFrame} (hg : g.method = m) (hsize : g.locals.size = c.maxLocals) {argsL rest : List Value} (hlen : ∀ sig, parseMethodDescriptor y.desc = some sig → argsL.length = sig.parameters.length)
    (hstack : g.stack = argsL.reverse ++ .ref b :: rest) (hW : 2 * g.monitorRoom + (rest.map fun v => v.category).sum ≤ W9) (hdg : decode c.code g.pc = .ok (.invokevirtual index, 3))
    (hpre : ∀ vm₁, s.WarmedH vm₁ → Pre ⟨T.setVm vm₁, locs, cells, slots⟩ (Value.ref b :: argsL).toArray) :
    (∃ (v : Option Value) (vm₁ : Vm) (B : Pt), s.WarmedH vm₁ ∧ Stand p l e R s m args below meth c B.U B.locs B.cells B.slots ∧ Post ⟨T.setVm vm₁, locs, cells, slots⟩ (Value.ref b :: argsL).toArray v B ∧
      ∀ target, Steps p.tables e below (B.U.setTop { g with pc := g.pc + 3, stack := v.toList ++ rest }) target → Steps p.tables e below (T.setTop g) target) ∨
    (∃ (q : Addr) (vm₁ : Vm) (B : Pt), s.WarmedH vm₁ ∧ Stand p l e R s m args below meth c B.U B.locs B.cells B.slots ∧ PostX ⟨T.setVm vm₁, locs, cells, slots⟩ (Value.ref b :: argsL).toArray q B ∧
      Steps p.tables e below (T.setTop g) ((B.U.setTop { g with stack := rest }).pushFrame (.throwing q))) := by
  obtain ⟨mk, methM, hnamed, hmethM, hstM, habM⟩ := Cond.instanceMethod_spec hinst
  obtain ⟨m8, methM', cM, hn8, hmethM', -, -, -, -, -, -, hsigM⟩ := Cond.codeWith_spec hcode
  cases Option.some.inj (hn8.symm.trans hnamed)
  cases hmethM.symm.trans hmethM'
  obtain ⟨c2, r2, m2, q1, q2, q3, q4, kP, hkP, hkPi⟩ := Cond.selects_spec hsel
  cases hcls.symm.trans q1
  cases (State.methodFound?_of_named hnamed hy).symm.trans q2
  cases hnamed.symm.trans q3
  have hselP : selectMethod e.platform s.vm cellB.cls mk = .method mk := by rw [Launch.admits_selectMethod X.admits]; exact q4
  obtain ⟨vm₁, X₁, hstep₁⟩ := X.invokevirtual hexec hown hlink hnamed hmethM hstM hkP hkPi hy (a := b) (cell := cellB) hcell
    (fun z h => by rw [h] at hobj; cases hobj) hselP hmethM habM hkP hkPi (g := g) hg (argsL := argsL) (rest := rest) (hlen _ hsigM) hstack hdg
  rcases hK m meth c ⟨T.setVm vm₁, locs, cells, slots⟩ { g with stack := rest } (.invokevirtual index) mk (Value.ref b :: argsL).toArray X₁ hg hsize hdg hW (X₁.named hnamed) (hpre vm₁ X₁.warmed) with ⟨v, B, X', hpost, hsteps⟩ | ⟨q, B, X', hpost, hsteps⟩
  · exact Or.inl ⟨v, vm₁, B, X₁.warmed, X', hpost, fun target h => hstep₁ _ fun acts => by rw [doInvoke_state]; exact hsteps.trans h⟩
  · exact Or.inr ⟨q, vm₁, B, X₁.warmed, X', hpost, hstep₁ _ fun acts => by rw [doInvoke_state]; exact hsteps⟩
theorem vx_callSX (X : Stand p l e R s m args below meth c T locs cells slots) (hexec : p.tables.exec = Jvm.exec) {own : String} {index : Nat} {y : MethodName} {bytes : ByteArray} {maxL : Nat} {ret : Option FieldType} {hh : List (Nat × Nat × Nat × Nat)}
    (hown : s.vm.findClass own = some m.cls) (hlink : (Cond.methodLink own index y).before args s = true) (hstat : (Cond.static y).before args s = true) (hinit : (Cond.initialized y.cls).before args s = true)
    (hcode : (Cond.codeWith y bytes maxL ret hh).before args s = true) (hy : y.cls ≠ "java/lang/invoke/MethodHandle" ∧ y.cls ≠ "java/lang/invoke/VarHandle")
    {W9 : Nat} {Pre : Pt → Array Value → Prop} {Post : Pt → Array Value → Option Value → Pt → Prop} {PostX : Pt → Array Value → Addr → Pt → Prop} (hK : vx_Back l R p e below s args y 3 W9 Pre Post PostX)
    {g : JFrame} (hg : g.method = m) (hsize : g.locals.size = c.maxLocals) {argsL rest : List Value} (hlen : ∀ sig, parseMethodDescriptor y.desc = some sig → argsL.length = sig.parameters.length)
    (hstack : g.stack = argsL.reverse ++ rest) (hW : 2 * g.monitorRoom + (rest.map fun v => v.category).sum ≤ W9) (hdg : decode c.code g.pc = .ok (.invokestatic index, 3))
    (hpre : ∀ vm₁, s.WarmedH vm₁ → Pre ⟨T.setVm vm₁, locs, cells, slots⟩ argsL.toArray) :
    (∃ (v : Option Value) (vm₁ : Vm) (B : Pt), s.WarmedH vm₁ ∧ Stand p l e R s m args below meth c B.U B.locs B.cells B.slots ∧ Post ⟨T.setVm vm₁, locs, cells, slots⟩ argsL.toArray v B ∧
      ∀ target, Steps p.tables e below (B.U.setTop { g with pc := g.pc + 3, stack := v.toList ++ rest }) target → Steps p.tables e below (T.setTop g) target) ∨
    (∃ (q : Addr) (vm₁ : Vm) (B : Pt), s.WarmedH vm₁ ∧ Stand p l e R s m args below meth c B.U B.locs B.cells B.slots ∧ PostX ⟨T.setVm vm₁, locs, cells, slots⟩ argsL.toArray q B ∧
      Steps p.tables e below (T.setTop g) ((B.U.setTop { g with stack := rest }).pushFrame (.throwing q))) := by
  obtain ⟨mk, methM, cM, hnamed, hmethM, -, -, -, -, -, -, hsigM⟩ := Cond.codeWith_spec hcode
  have hstatic : methM.isStatic = true := Cond.static_spec hnamed hmethM hstat
  obtain ⟨kP, hkP, -⟩ := className_of_methodNamed hnamed
  have hinitP : kP.init = .initialized := Cond.initialized_spec (findClass_of_methodNamed hnamed) hkP hinit
  obtain ⟨vm₁, X₁, hstep₁⟩ := X.invokestatic hexec hown hlink hnamed hmethM hstatic hkP hinitP hy (g := g) hg (argsL := argsL) (rest := rest) (hlen _ hsigM) hstack hdg
  rcases hK m meth c ⟨T.setVm vm₁, locs, cells, slots⟩ { g with stack := rest } (.invokestatic index) mk argsL.toArray X₁ hg hsize hdg hW (X₁.named hnamed) (hpre vm₁ X₁.warmed) with ⟨v, B, X', hpost, hsteps⟩ | ⟨q, B, X', hpost, hsteps⟩
  · exact Or.inl ⟨v, vm₁, B, X₁.warmed, X', hpost, fun target h => hstep₁ _ fun acts => by rw [doInvoke_state]; exact hsteps.trans h⟩
  · exact Or.inr ⟨q, vm₁, B, X₁.warmed, X', hpost, hstep₁ _ fun acts => by rw [doInvoke_state]; exact hsteps⟩
theorem vx_callVW (X : Stand p l e R s m args below meth c T locs cells slots) (hexec : p.tables.exec = Jvm.exec) {own C : String} {index : Nat} {y : MethodName} {bytes : ByteArray} {maxL : Nat} {ret : Option FieldType} {hh : List (Nat × Nat × Nat × Nat)}
    (hown : s.vm.findClass own = some m.cls) (hlink : (Cond.methodLink own index y).before args s = true) (hinst : (Cond.instanceMethod y).before args s = true) (hsel : (Cond.selects C y y).before args s = true)
    (hcode : (Cond.codeWith y bytes maxL ret hh).before args s = true) (hy : y.cls ≠ "java/lang/invoke/MethodHandle" ∧ y.cls ≠ "java/lang/invoke/VarHandle")
    {W9 : Nat} {Pre : Pt → Array Value → Prop} {Post : Pt → Array Value → Option Value → Pt → Prop} (hK : Back l R p e below s args y 3 W9 Pre Post)
    {b : Addr} {cellB : Cell} (hcell : T.heap[b]? = some cellB) (hobj : cellB.vm.isStatics = false) (hcls : s.vm.findClass C = some cellB.cls)
    {g : JFrame} (hg : g.method = m) (hsize : g.locals.size = c.maxLocals) {argsL rest : List Value} (hlen : ∀ sig, parseMethodDescriptor y.desc = some sig → argsL.length = sig.parameters.length)
    (hstack : g.stack = argsL.reverse ++ .ref b :: rest) (hW : 2 * g.monitorRoom + (rest.map fun v => v.category).sum ≤ W9) (hdg : decode c.code g.pc = .ok (.invokevirtual index, 3))
    (hpre : ∀ vm₁, s.WarmedH vm₁ → Pre ⟨T.setVm vm₁, locs, cells, slots⟩ (Value.ref b :: argsL).toArray) :
    ∃ (v : Option Value) (vm₁ : Vm) (B : Pt), s.WarmedH vm₁ ∧ Stand p l e R s m args below meth c B.U B.locs B.cells B.slots ∧ Post ⟨T.setVm vm₁, locs, cells, slots⟩ (Value.ref b :: argsL).toArray v B ∧
      ∀ target, Steps p.tables e below (B.U.setTop { g with pc := g.pc + 3, stack := v.toList ++ rest }) target → Steps p.tables e below (T.setTop g) target := by
  obtain ⟨mk, methM, hnamed, hmethM, hstM, habM⟩ := Cond.instanceMethod_spec hinst
  obtain ⟨m8, methM', cM, hn8, hmethM', -, -, -, -, -, -, hsigM⟩ := Cond.codeWith_spec hcode
  cases Option.some.inj (hn8.symm.trans hnamed)
  cases hmethM.symm.trans hmethM'
  obtain ⟨c2, r2, m2, q1, q2, q3, q4, kP, hkP, hkPi⟩ := Cond.selects_spec hsel
  cases hcls.symm.trans q1
  cases (State.methodFound?_of_named hnamed hy).symm.trans q2
  cases hnamed.symm.trans q3
  have hselP : selectMethod e.platform s.vm cellB.cls mk = .method mk := by rw [Launch.admits_selectMethod X.admits]; exact q4
  obtain ⟨vm₁, X₁, hstep₁⟩ := X.invokevirtual hexec hown hlink hnamed hmethM hstM hkP hkPi hy (a := b) (cell := cellB) hcell
    (fun z h => by rw [h] at hobj; cases hobj) hselP hmethM habM hkP hkPi (g := g) hg (argsL := argsL) (rest := rest) (hlen _ hsigM) hstack hdg
  obtain ⟨v, B, X', hpost, hsteps⟩ := hK m meth c ⟨T.setVm vm₁, locs, cells, slots⟩ { g with stack := rest } (.invokevirtual index) mk (Value.ref b :: argsL).toArray X₁ hg hsize hdg hW (X₁.named hnamed) (hpre vm₁ X₁.warmed)
  exact ⟨v, vm₁, B, X₁.warmed, X', hpost, fun target h => hstep₁ _ fun acts => by rw [doInvoke_state]; exact hsteps.trans h⟩
abbrev vx_CVW (R : Room) (s : State) (args : Array Value) (own C : String) (index : Nat) (y : MethodName) (bytes : ByteArray) (maxL : Nat) (ret : Option FieldType) (hh : List (Nat × Nat × Nat × Nat)) (ws : List Cond) (rm : Room) (mc ms n : Nat) : Prop :=
  (rm.cells = mc ∧ rm.slots = ms ∧ rm.frames + 1 ≤ R.frames ∧ 8 + (maxL + 11) + rm.locals ≤ R.locals ∧ (∀ w ∈ ws, ∀ (a' : Array Value) (U : State), s.WarmedH U.vm → w.before a' U = true) ∧ Cond.codeWith y bytes maxL ret hh ∈ ws) ∧
  (Cond.codeWith y bytes maxL ret hh).before args s = true ∧ (Cond.initialized y.cls).before args s = true ∧ (y.cls ≠ "java/lang/invoke/MethodHandle" ∧ y.cls ≠ "java/lang/invoke/VarHandle") ∧
  (∀ sig, parseMethodDescriptor y.desc = some sig → n = sig.parameters.length) ∧ (Cond.methodLink own index y).before args s = true ∧ (Cond.instanceMethod y).before args s = true ∧ (Cond.selects C y y).before args s = true
theorem vx_cwVW {own C : String} {index maxL mc ms : Nat} {y : MethodName} {bytes : ByteArray} {ret : Option FieldType} {hh : List (Nat × Nat × Nat × Nat)} {Ts ws ws' : List Cond} {rm : Room} (n : Nat) (ht : ∀ w ∈ Ts, w.before args s = true) (hT : GoodIn Ts (wsV own index C y ws)) (hw : ws = Cond.codeWith y bytes maxL ret hh :: ws') (hrc : rm.cells = mc) (hrs : rm.slots = ms)
    (hd : y.cls = C ∧ y.cls ≠ "java/lang/invoke/MethodHandle" ∧ y.cls ≠ "java/lang/invoke/VarHandle" ∧ (parseMethodDescriptor y.desc).map (fun d => d.parameters.length) = some n) (hR : rm.frames + 1 ≤ R.frames ∧ 8 + (maxL + 11) + rm.locals ≤ R.locals) :
    vx_CVW R s args own C index y bytes maxL ret hh ws rm mc ms n := by
  obtain ⟨hC, hd⟩ := hd
  subst hC
  have ok : ∀ w ∈ wsV own index y.cls y ws, w.before args s = true := fun w h => ht w (hT w h).1
  have hG : GoodIn Ts ws := fun w h => hT w (by unfold wsV; exact List.mem_append_right _ h)
  have hc : Cond.codeWith y bytes maxL ret hh ∈ ws := by rw [hw]; exact List.mem_cons_self
  refine ⟨⟨hrc, hrs, hR.1, hR.2, pay_in ht hG, hc⟩, ht _ (hG _ hc).1, ok _ (by simp [wsV]), ⟨hd.1, hd.2.1⟩, fun sig h => ?_, ok _ (by simp [wsV]), ok _ (by simp [wsV]), ok _ (by simp [wsV])⟩
  have h2 := hd.2.2
  rw [h] at h2
  exact (Option.some.inj h2).symm
theorem vx_runVW {y : MethodName} {bytes cc : ByteArray} {maxL nL mc ms n index : Nat} {ret : Option FieldType} {hh : List (Nat × Nat × Nat × Nat)} {ws : List Cond} {rm : Room} {Pc : Array Value → State → Prop} {Qc : Array Value → State → Outcome → State → Prop} {free : Addr → Prop} {Ts : List Cond} {own C : String} {b : Addr} {As rest : List Value} {g : JFrame}
    (S : CallFix p m c cc nL s args Ts own) (hM : Met l y ws rm Pc Qc mc ms free) (cw : vx_CVW R s args own C index y bytes maxL ret hh ws rm mc ms n) (hp : PreV s H C b Pc As)
    (hg : g.method = m) (hn : As.length = n) (hsize : g.locals.size = nL) (hstack : g.stack = As.reverse ++ .ref b :: rest) (hW : 2 * g.monitorRoom + (rest.map fun v => v.category).sum ≤ 8) (hdg : decode cc g.pc = .ok (.invokevirtual index, 3)) (hf : cells + mc ≤ R.cells ∧ slots + ms ≤ R.slots) :
    va_Run p l e R s m args below meth c H locs cells slots mc ms g rest (Qc (Value.ref b :: As).toArray) free := by
  obtain ⟨⟨hrc, hrs, hfr, hlo, hws, hcw⟩, hcode, hini, hy, hlen, hl, hin, hse⟩ := cw
  have hK : Back l R p e below s args y 3 8 (PreOf R mc ms Pc) (PostOf Qc mc ms free) := va_backW (hh := hh) (bytes := bytes) (maxL := maxL) (ret := ret) hM hp.1 hrc hrs hfr hlo hws hcw (fun a' U hW => word_at hW (Or.inl (by first | rfl | simp [Cond.onTables, Cond.keeps, Cond.steady])) hini)
  obtain ⟨hx, hb, hml, ho, -⟩ := S
  obtain ⟨-, ⟨cellB, hcB, hoB, hclB⟩, hPc⟩ := hp
  intro T hT X
  obtain ⟨v, vm₁, ⟨U', l2, c2, s2⟩, hW₁, X', ⟨g', mk, t, L, e1, e2, hq, h1, hL, h2, h3⟩, st⟩ := vx_callVW X hx (C := C) (hh := hh) (bytes := bytes) (maxL := maxL) (ret := ret) ho hl hin hse hcode hy hK (by rw [hT]; exact hcB) hoB hclB hg (hsize.trans hml.symm) (argsL := As) (rest := rest) (fun sig h => hn.trans (hlen sig h)) hstack hW (by rw [hb]; exact hdg)
    (fun vm₁ hW₁ => ⟨hf.1, hf.2, hPc (T.setVm vm₁) hT hW₁⟩)
  dsimp only [Pt.U, Pt.locs, Pt.cells, Pt.slots] at X' e1 e2 h1 h2 h3 st
  subst h1; subst h2; subst h3
  exact ⟨v, (T.setVm vm₁).calling g' mk (Value.ref b :: As).toArray, t, U', L, hT, X', hL, e1, e2, hq, st⟩
section
variable {y : MethodName} {bytes cc : ByteArray} {maxL nL mc ms n index : Nat} {ret : Option FieldType} {ws : List Cond} {rm : Room} {Pc : Array Value → State → Prop} {Qc : Array Value → State → Outcome → State → Prop} {XC : String → State → State → Prop} {free : Addr → Prop} {Ts : List Cond} {own C : String} {b : Addr} {As rest : List Value} {g : JFrame}
theorem vx_runVX {hh : List (Nat × Nat × Nat × Nat)} (S : CallFix p m c cc nL s args Ts own) (hM : vx_Met l y ws rm Pc Qc XC mc ms free) (cw : vx_CVW R s args own C index y bytes maxL ret hh ws rm mc ms n) (hp : PreV s H C b Pc As)
    (hg : g.method = m) (hn : As.length = n) (hsize : g.locals.size = nL) (hstack : g.stack = As.reverse ++ .ref b :: rest) (hW : 2 * g.monitorRoom + (rest.map fun v => v.category).sum ≤ 8) (hdg : decode cc g.pc = .ok (.invokevirtual index, 3)) (hf : cells + mc ≤ R.cells ∧ slots + ms ≤ R.slots) :
    vx_Run p l e R s m args below meth c H locs cells slots mc ms g rest (Qc (Value.ref b :: As).toArray) XC free := by
  obtain ⟨⟨hrc, hrs, hfr, hlo, hws, hcw⟩, hcode, hini, hy, hlen, hl, hin, hse⟩ := cw
  have hK : vx_Back l R p e below s args y 3 8 (PreOf R mc ms Pc) (PostOf Qc mc ms free) (vx_Post XC mc ms free) := vx_backW (hh := hh) (bytes := bytes) (maxL := maxL) (ret := ret) hM hp.1 hrc hrs hfr hlo hws hcw (fun a' U hW => word_at hW (Or.inl (by first | rfl | simp [Cond.onTables, Cond.keeps, Cond.steady])) hini)
  obtain ⟨hx, hb, hml, ho, -⟩ := S
  obtain ⟨-, ⟨cellB, hcB, hoB, hclB⟩, hPc⟩ := hp
  intro T hT X
  rcases vx_callVX X hx (C := C) (hh := hh) (bytes := bytes) (maxL := maxL) (ret := ret) ho hl hin hse hcode hy hK (by rw [hT]; exact hcB) hoB hclB hg (hsize.trans hml.symm) (argsL := As) (rest := rest) (fun sig h => hn.trans (hlen sig h)) hstack hW (by rw [hb]; exact hdg)
    (fun vm₁ hW₁ => ⟨hf.1, hf.2, hPc (T.setVm vm₁) hT hW₁⟩) with ⟨v, vm₁, ⟨U', l2, c2, s2⟩, hW₁, X', ⟨g', mk, t, L, e1, e2, hq, h1, hL, h2, h3⟩, st⟩ | ⟨q, vm₁, ⟨U', l2, c2, s2⟩, hW₁, X', ⟨g', mk, t, L, E, ce, e1, e2, hq, hce, hcv, hcl, h1, hL, h2, h3⟩, st⟩
  · dsimp only [Pt.U, Pt.locs, Pt.cells, Pt.slots] at X' e1 e2 h1 h2 h3 st
    subst h1; subst h2; subst h3
    exact Or.inl ⟨v, (T.setVm vm₁).calling g' mk (Value.ref b :: As).toArray, t, U', L, hT, X', hL, e1, e2, hq, st⟩
  · dsimp only [Pt.U, Pt.locs, Pt.cells, Pt.slots] at X' e1 e2 h1 h2 h3 st hcl
    subst h1; subst h2; subst h3
    exact Or.inr ⟨q, (T.setVm vm₁).calling g' mk (Value.ref b :: As).toArray, t, U', L, E, ce, hT, X', hL, e1, e2, hq, hce, hcv, vx_cls hW₁ hcl, st⟩
theorem vx_runSX {hh : List (Nat × Nat × Nat × Nat)} (S : CallFix p m c cc nL s args Ts own) (hM : vx_Met l y ws rm Pc Qc XC mc ms free) (cw : vx_CSW R s args own index y bytes maxL ret hh ws rm mc ms n) (hp : PreS s H Pc As)
    (hg : g.method = m) (hn : As.length = n) (hsize : g.locals.size = nL) (hstack : g.stack = As.reverse ++ rest) (hW : 2 * g.monitorRoom + (rest.map fun v => v.category).sum ≤ 8) (hdg : decode cc g.pc = .ok (.invokestatic index, 3)) (hf : cells + mc ≤ R.cells ∧ slots + ms ≤ R.slots) :
    vx_Run p l e R s m args below meth c H locs cells slots mc ms g rest (Qc As.toArray) XC free := by
  obtain ⟨⟨hrc, hrs, hfr, hlo, hws, hcw⟩, hcode, hini, hy, hlen, hl, hstt⟩ := cw
  have hK : vx_Back l R p e below s args y 3 8 (PreOf R mc ms Pc) (PostOf Qc mc ms free) (vx_Post XC mc ms free) := vx_backW (hh := hh) (bytes := bytes) (maxL := maxL) (ret := ret) hM hp.1 hrc hrs hfr hlo hws hcw (fun a' U hW => word_at hW (Or.inl (by first | rfl | simp [Cond.onTables, Cond.keeps, Cond.steady])) hini)
  obtain ⟨hx, hb, hml, ho, -⟩ := S
  intro T hT X
  rcases vx_callSX X hx (hh := hh) (bytes := bytes) (maxL := maxL) (ret := ret) ho hl hstt hini hcode hy hK hg (hsize.trans hml.symm) (argsL := As) (rest := rest) (fun sig h => hn.trans (hlen sig h)) hstack hW (by rw [hb]; exact hdg)
    (fun vm₁ hW₁ => ⟨hf.1, hf.2, hp.2 (T.setVm vm₁) hT hW₁⟩) with ⟨v, vm₁, ⟨U', l2, c2, s2⟩, hW₁, X', ⟨g', mk, t, L, e1, e2, hq, h1, hL, h2, h3⟩, st⟩ | ⟨q, vm₁, ⟨U', l2, c2, s2⟩, hW₁, X', ⟨g', mk, t, L, E, ce, e1, e2, hq, hce, hcv, hcl, h1, hL, h2, h3⟩, st⟩
  · dsimp only [Pt.U, Pt.locs, Pt.cells, Pt.slots] at X' e1 e2 h1 h2 h3 st
    subst h1; subst h2; subst h3
    exact Or.inl ⟨v, (T.setVm vm₁).calling g' mk As.toArray, t, U', L, hT, X', hL, e1, e2, hq, st⟩
  · dsimp only [Pt.U, Pt.locs, Pt.cells, Pt.slots] at X' e1 e2 h1 h2 h3 st hcl
    subst h1; subst h2; subst h3
    exact Or.inr ⟨q, (T.setVm vm₁).calling g' mk As.toArray, t, U', L, E, ce, hT, X', hL, e1, e2, hq, hce, hcv, vx_cls hW₁ hcl, st⟩
end
end VXH
theorem vx_ofWH {l : Launch} {y : MethodName} {ws ws' : List Cond} {rm : Room} {Pc : Array Value → State → Prop} {Qc : Array Value → State → Outcome → State → Prop} {XC : String → State → State → Prop} {mc ms : Nat} {free : Addr → Prop} {cc : ByteArray} {maxL : Nat} {ret : Option FieldType} {hh : List (Nat × Nat × Nat × Nat)}
    (hy : plainName y.cls = true) (hw : ws = Cond.codeWith y cc maxL ret hh :: ws')
    (body : ∀ p e s m args below meth c s₁, BodyLoose p l y (headSpec ws rm) cc maxL ret e s m args below meth c s₁ → c.maxLocals = maxL → Pc args s →
      W p l e (headSpec ws rm).room s m args below meth c s.heap [] 0 0 (vx_MQ below Qc XC args s mc ms free) (entryFrame m args maxL)) : vx_Met l y ws rm Pc Qc XC mc ms free := by
  refine MetFree.of_bodyS (code := cc) (maxLocals := maxL) (ret := ret) hy ?_ ?_
  · intro args s m h hn
    obtain ⟨m9, meth, c, hn9, h1, h2, h3, h4, -, h5, h6, -⟩ := Cond.codeWith_spec (atoms_spec (ws := ws) h _ (by rw [hw]; exact List.mem_cons_self))
    cases hn.symm.trans hn9
    exact ⟨meth, c, h1, h2, h3, h4, h5, h6⟩
  · intro p e s m args below meth c s₁ B hml hP _
    have hh0 : s₁.heap = s.heap := by rw [B.state]; rfl
    obtain ⟨t, a1, o, b1, b2, b3⟩ := body p e s m args below meth c s₁ B hml hP s₁ hh0 (Stand.of_body B)
    exact ⟨t, o, a1, b1, b2, b3⟩
/-! ===== END ===== -/
end
section
-- ===== PART A: goes FIRST, ahead of the names: the tables' words, and 'selects' of the private methods out of them =====
/-- a private method of a class that the tables say can be made, by its rows of tables_1 -/
def lw_okq (q : MethodName × Nat) : Prop := (q.1.cls ≠ "java/lang/invoke/MethodHandle" ∧ q.1.cls ≠ "java/lang/invoke/VarHandle") ∧ Cond.instantiable q.1.cls q.2 ∈ tables_1 ∧ Cond.privateMethod q.1 ∈ tables_1 ∧ Cond.instanceMethod q.1 ∈ tables_1
theorem lw_p0 : lw_okq (⟨"java/lang/Throwable", "fillInStackTrace", "(I)Ljava/lang/Throwable;"⟩, 6) := ⟨⟨by decide +kernel, by decide +kernel⟩, List.mem_of_getElem? (i := 90) (by decide +kernel), List.mem_of_getElem? (i := 88) (by decide +kernel), List.mem_of_getElem? (i := 89) (by decide +kernel)⟩
theorem lw_p1 : lw_okq (⟨"TemporaryReals", "kindOf", "(I)I"⟩, 6) := ⟨⟨by decide +kernel, by decide +kernel⟩, List.mem_of_getElem? (i := 12) (by decide +kernel), List.mem_of_getElem? (i := 159) (by decide +kernel), List.mem_of_getElem? (i := 160) (by decide +kernel)⟩
theorem lw_p2 : lw_okq (⟨"TemporaryReals", "powerOf", "(I)I"⟩, 6) := ⟨⟨by decide +kernel, by decide +kernel⟩, List.mem_of_getElem? (i := 12) (by decide +kernel), List.mem_of_getElem? (i := 163) (by decide +kernel), List.mem_of_getElem? (i := 164) (by decide +kernel)⟩
theorem lw_p3 : lw_okq (⟨"TemporaryReals", "makeSize", "(IZIJJ)I"⟩, 6) := ⟨⟨by decide +kernel, by decide +kernel⟩, List.mem_of_getElem? (i := 12) (by decide +kernel), List.mem_of_getElem? (i := 190) (by decide +kernel), List.mem_of_getElem? (i := 191) (by decide +kernel)⟩
theorem lw_p4 : lw_okq (⟨"TemporaryReals", "store", "(IZIJ)V"⟩, 6) := ⟨⟨by decide +kernel, by decide +kernel⟩, List.mem_of_getElem? (i := 12) (by decide +kernel), List.mem_of_getElem? (i := 194) (by decide +kernel), List.mem_of_getElem? (i := 195) (by decide +kernel)⟩
theorem lw_p5 : lw_okq (⟨"TemporaryReals", "tell", "(III)I"⟩, 6) := ⟨⟨by decide +kernel, by decide +kernel⟩, List.mem_of_getElem? (i := 12) (by decide +kernel), List.mem_of_getElem? (i := 199) (by decide +kernel), List.mem_of_getElem? (i := 200) (by decide +kernel)⟩
theorem lw_p6 : lw_okq (⟨"TemporaryReals", "isMasked", "(I)Z"⟩, 6) := ⟨⟨by decide +kernel, by decide +kernel⟩, List.mem_of_getElem? (i := 12) (by decide +kernel), List.mem_of_getElem? (i := 203) (by decide +kernel), List.mem_of_getElem? (i := 204) (by decide +kernel)⟩
theorem lw_p7 : lw_okq (⟨"TemporaryReals", "makeSmall", "(IZIJJ)I"⟩, 6) := ⟨⟨by decide +kernel, by decide +kernel⟩, List.mem_of_getElem? (i := 12) (by decide +kernel), List.mem_of_getElem? (i := 207) (by decide +kernel), List.mem_of_getElem? (i := 208) (by decide +kernel)⟩
theorem lw_p8 : lw_okq (⟨"TemporaryReals", "digits", "()I"⟩, 6) := ⟨⟨by decide +kernel, by decide +kernel⟩, List.mem_of_getElem? (i := 12) (by decide +kernel), List.mem_of_getElem? (i := 211) (by decide +kernel), List.mem_of_getElem? (i := 212) (by decide +kernel)⟩
theorem lw_p9 : lw_okq (⟨"TemporaryReals", "takesAbove", "(JJZ)Z"⟩, 6) := ⟨⟨by decide +kernel, by decide +kernel⟩, List.mem_of_getElem? (i := 12) (by decide +kernel), List.mem_of_getElem? (i := 221) (by decide +kernel), List.mem_of_getElem? (i := 222) (by decide +kernel)⟩
theorem lw_p10 : lw_okq (⟨"TemporaryReals", "rounding", "()I"⟩, 6) := ⟨⟨by decide +kernel, by decide +kernel⟩, List.mem_of_getElem? (i := 12) (by decide +kernel), List.mem_of_getElem? (i := 225) (by decide +kernel), List.mem_of_getElem? (i := 226) (by decide +kernel)⟩
theorem lw_p11 : lw_okq (⟨"TemporaryReals", "goesAway", "(Z)Z"⟩, 6) := ⟨⟨by decide +kernel, by decide +kernel⟩, List.mem_of_getElem? (i := 12) (by decide +kernel), List.mem_of_getElem? (i := 229) (by decide +kernel), List.mem_of_getElem? (i := 230) (by decide +kernel)⟩
theorem lw_p12 : lw_okq (⟨"TemporaryReals", "makeRounded", "(IZIJJ)I"⟩, 6) := ⟨⟨by decide +kernel, by decide +kernel⟩, List.mem_of_getElem? (i := 12) (by decide +kernel), List.mem_of_getElem? (i := 236) (by decide +kernel), List.mem_of_getElem? (i := 237) (by decide +kernel)⟩
theorem lw_p13 : lw_okq (⟨"TemporaryReals", "makeTooGreat", "(IZI)I"⟩, 6) := ⟨⟨by decide +kernel, by decide +kernel⟩, List.mem_of_getElem? (i := 12) (by decide +kernel), List.mem_of_getElem? (i := 240) (by decide +kernel), List.mem_of_getElem? (i := 241) (by decide +kernel)⟩
theorem lw_p14 : lw_okq (⟨"TemporaryReals", "copy", "(II)V"⟩, 6) := ⟨⟨by decide +kernel, by decide +kernel⟩, List.mem_of_getElem? (i := 12) (by decide +kernel), List.mem_of_getElem? (i := 252) (by decide +kernel), List.mem_of_getElem? (i := 253) (by decide +kernel)⟩
theorem lw_p15 : lw_okq (⟨"TemporaryReals", "isNegative", "(I)Z"⟩, 6) := ⟨⟨by decide +kernel, by decide +kernel⟩, List.mem_of_getElem? (i := 12) (by decide +kernel), List.mem_of_getElem? (i := 259) (by decide +kernel), List.mem_of_getElem? (i := 260) (by decide +kernel)⟩
def lw_privs_1 : List (MethodName × Nat) := [(⟨"java/lang/Throwable", "fillInStackTrace", "(I)Ljava/lang/Throwable;"⟩, 6), (⟨"TemporaryReals", "kindOf", "(I)I"⟩, 6), (⟨"TemporaryReals", "powerOf", "(I)I"⟩, 6), (⟨"TemporaryReals", "makeSize", "(IZIJJ)I"⟩, 6), (⟨"TemporaryReals", "store", "(IZIJ)V"⟩, 6), (⟨"TemporaryReals", "tell", "(III)I"⟩, 6), (⟨"TemporaryReals", "isMasked", "(I)Z"⟩, 6), (⟨"TemporaryReals", "makeSmall", "(IZIJJ)I"⟩, 6), (⟨"TemporaryReals", "digits", "()I"⟩, 6), (⟨"TemporaryReals", "takesAbove", "(JJZ)Z"⟩, 6), (⟨"TemporaryReals", "rounding", "()I"⟩, 6), (⟨"TemporaryReals", "goesAway", "(Z)Z"⟩, 6), (⟨"TemporaryReals", "makeRounded", "(IZIJJ)I"⟩, 6), (⟨"TemporaryReals", "makeTooGreat", "(IZI)I"⟩, 6), (⟨"TemporaryReals", "copy", "(II)V"⟩, 6), (⟨"TemporaryReals", "isNegative", "(I)Z"⟩, 6)]
theorem lw_r1 : ∀ q ∈ lw_privs_1, lw_okq q := List.forall_mem_cons.mpr ⟨lw_p0, List.forall_mem_cons.mpr ⟨lw_p1, List.forall_mem_cons.mpr ⟨lw_p2, List.forall_mem_cons.mpr ⟨lw_p3, List.forall_mem_cons.mpr ⟨lw_p4, List.forall_mem_cons.mpr ⟨lw_p5, List.forall_mem_cons.mpr ⟨lw_p6, List.forall_mem_cons.mpr ⟨lw_p7, List.forall_mem_cons.mpr ⟨lw_p8, List.forall_mem_cons.mpr ⟨lw_p9, List.forall_mem_cons.mpr ⟨lw_p10, List.forall_mem_cons.mpr ⟨lw_p11, List.forall_mem_cons.mpr ⟨lw_p12, List.forall_mem_cons.mpr ⟨lw_p13, List.forall_mem_cons.mpr ⟨lw_p14, List.forall_mem_cons.mpr ⟨lw_p15, fun _ h => absurd h List.not_mem_nil⟩⟩⟩⟩⟩⟩⟩⟩⟩⟩⟩⟩⟩⟩⟩⟩
theorem lw_p16 : lw_okq (⟨"TemporaryReals", "signum", "(I)I"⟩, 6) := ⟨⟨by decide +kernel, by decide +kernel⟩, List.mem_of_getElem? (i := 12) (by decide +kernel), List.mem_of_getElem? (i := 278) (by decide +kernel), List.mem_of_getElem? (i := 279) (by decide +kernel)⟩
theorem lw_p17 : lw_okq (⟨"TemporaryReals", "compareSizes", "(II)I"⟩, 6) := ⟨⟨by decide +kernel, by decide +kernel⟩, List.mem_of_getElem? (i := 12) (by decide +kernel), List.mem_of_getElem? (i := 282) (by decide +kernel), List.mem_of_getElem? (i := 283) (by decide +kernel)⟩
theorem lw_p18 : lw_okq (⟨"TemporaryReals", "plainPower", "(I)I"⟩, 6) := ⟨⟨by decide +kernel, by decide +kernel⟩, List.mem_of_getElem? (i := 12) (by decide +kernel), List.mem_of_getElem? (i := 286) (by decide +kernel), List.mem_of_getElem? (i := 287) (by decide +kernel)⟩
theorem lw_p19 : lw_okq (⟨"TemporaryReals", "plainFraction", "(I)J"⟩, 6) := ⟨⟨by decide +kernel, by decide +kernel⟩, List.mem_of_getElem? (i := 12) (by decide +kernel), List.mem_of_getElem? (i := 290) (by decide +kernel), List.mem_of_getElem? (i := 291) (by decide +kernel)⟩
theorem lw_p20 : lw_okq (⟨"TemporaryReals", "plainShift", "(I)I"⟩, 6) := ⟨⟨by decide +kernel, by decide +kernel⟩, List.mem_of_getElem? (i := 12) (by decide +kernel), List.mem_of_getElem? (i := 294) (by decide +kernel), List.mem_of_getElem? (i := 295) (by decide +kernel)⟩
theorem lw_p21 : lw_okq (⟨"TemporaryReals", "storeNextGreater", "(IZIJ)V"⟩, 6) := ⟨⟨by decide +kernel, by decide +kernel⟩, List.mem_of_getElem? (i := 12) (by decide +kernel), List.mem_of_getElem? (i := 318) (by decide +kernel), List.mem_of_getElem? (i := 319) (by decide +kernel)⟩
theorem lw_p22 : lw_okq (⟨"TemporaryReals", "storeNextLesser", "(IZIJ)V"⟩, 6) := ⟨⟨by decide +kernel, by decide +kernel⟩, List.mem_of_getElem? (i := 12) (by decide +kernel), List.mem_of_getElem? (i := 322) (by decide +kernel), List.mem_of_getElem? (i := 323) (by decide +kernel)⟩
theorem lw_p23 : lw_okq (⟨"TemporaryRealsModel", "kind", "(I)I"⟩, 15) := ⟨⟨by decide +kernel, by decide +kernel⟩, List.mem_of_getElem? (i := 326) (by decide +kernel), List.mem_of_getElem? (i := 400) (by decide +kernel), List.mem_of_getElem? (i := 401) (by decide +kernel)⟩
theorem lw_p24 : lw_okq (⟨"TemporaryRealsModel", "make", "()V"⟩, 15) := ⟨⟨by decide +kernel, by decide +kernel⟩, List.mem_of_getElem? (i := 326) (by decide +kernel), List.mem_of_getElem? (i := 412) (by decide +kernel), List.mem_of_getElem? (i := 413) (by decide +kernel)⟩
theorem lw_p25 : lw_okq (⟨"TemporaryRealsModel", "result", "(IJ)V"⟩, 15) := ⟨⟨by decide +kernel, by decide +kernel⟩, List.mem_of_getElem? (i := 326) (by decide +kernel), List.mem_of_getElem? (i := 416) (by decide +kernel), List.mem_of_getElem? (i := 417) (by decide +kernel)⟩
theorem lw_p26 : lw_okq (⟨"TemporaryRealsModel", "round", "(I)V"⟩, 15) := ⟨⟨by decide +kernel, by decide +kernel⟩, List.mem_of_getElem? (i := 326) (by decide +kernel), List.mem_of_getElem? (i := 420) (by decide +kernel), List.mem_of_getElem? (i := 421) (by decide +kernel)⟩
theorem lw_p27 : lw_okq (⟨"TemporaryRealsModel", "keep", "(I)I"⟩, 15) := ⟨⟨by decide +kernel, by decide +kernel⟩, List.mem_of_getElem? (i := 326) (by decide +kernel), List.mem_of_getElem? (i := 426) (by decide +kernel), List.mem_of_getElem? (i := 427) (by decide +kernel)⟩
theorem lw_p28 : lw_okq (⟨"TemporaryRealsModel", "powerOf", "(I)I"⟩, 15) := ⟨⟨by decide +kernel, by decide +kernel⟩, List.mem_of_getElem? (i := 326) (by decide +kernel), List.mem_of_getElem? (i := 434) (by decide +kernel), List.mem_of_getElem? (i := 435) (by decide +kernel)⟩
theorem lw_p29 : lw_okq (⟨"TemporaryRealsModel", "isNothing", "(I)Z"⟩, 15) := ⟨⟨by decide +kernel, by decide +kernel⟩, List.mem_of_getElem? (i := 326) (by decide +kernel), List.mem_of_getElem? (i := 446) (by decide +kernel), List.mem_of_getElem? (i := 447) (by decide +kernel)⟩
theorem lw_p30 : lw_okq (⟨"TemporaryRealsModel", "compareSizes", "(II)I"⟩, 15) := ⟨⟨by decide +kernel, by decide +kernel⟩, List.mem_of_getElem? (i := 326) (by decide +kernel), List.mem_of_getElem? (i := 450) (by decide +kernel), List.mem_of_getElem? (i := 451) (by decide +kernel)⟩
def lw_privs_2 : List (MethodName × Nat) := [(⟨"TemporaryReals", "signum", "(I)I"⟩, 6), (⟨"TemporaryReals", "compareSizes", "(II)I"⟩, 6), (⟨"TemporaryReals", "plainPower", "(I)I"⟩, 6), (⟨"TemporaryReals", "plainFraction", "(I)J"⟩, 6), (⟨"TemporaryReals", "plainShift", "(I)I"⟩, 6), (⟨"TemporaryReals", "storeNextGreater", "(IZIJ)V"⟩, 6), (⟨"TemporaryReals", "storeNextLesser", "(IZIJ)V"⟩, 6), (⟨"TemporaryRealsModel", "kind", "(I)I"⟩, 15), (⟨"TemporaryRealsModel", "make", "()V"⟩, 15), (⟨"TemporaryRealsModel", "result", "(IJ)V"⟩, 15), (⟨"TemporaryRealsModel", "round", "(I)V"⟩, 15), (⟨"TemporaryRealsModel", "keep", "(I)I"⟩, 15), (⟨"TemporaryRealsModel", "powerOf", "(I)I"⟩, 15), (⟨"TemporaryRealsModel", "isNothing", "(I)Z"⟩, 15), (⟨"TemporaryRealsModel", "compareSizes", "(II)I"⟩, 15)]
theorem lw_r2 : ∀ q ∈ lw_privs_2, lw_okq q := List.forall_mem_cons.mpr ⟨lw_p16, List.forall_mem_cons.mpr ⟨lw_p17, List.forall_mem_cons.mpr ⟨lw_p18, List.forall_mem_cons.mpr ⟨lw_p19, List.forall_mem_cons.mpr ⟨lw_p20, List.forall_mem_cons.mpr ⟨lw_p21, List.forall_mem_cons.mpr ⟨lw_p22, List.forall_mem_cons.mpr ⟨lw_p23, List.forall_mem_cons.mpr ⟨lw_p24, List.forall_mem_cons.mpr ⟨lw_p25, List.forall_mem_cons.mpr ⟨lw_p26, List.forall_mem_cons.mpr ⟨lw_p27, List.forall_mem_cons.mpr ⟨lw_p28, List.forall_mem_cons.mpr ⟨lw_p29, List.forall_mem_cons.mpr ⟨lw_p30, fun _ h => absurd h List.not_mem_nil⟩⟩⟩⟩⟩⟩⟩⟩⟩⟩⟩⟩⟩⟩⟩
def lw_privs : List (MethodName × Nat) := lw_privs_1 ++ (lw_privs_2)
def lw_tbl : List Cond := k2_sels lw_privs ++ tables_1
theorem lw_privs_ok : ∀ q ∈ lw_privs, lw_okq q := by
  show ∀ q ∈ lw_privs_1 ++ (lw_privs_2), lw_okq q
  exact List.forall_mem_append.mpr ⟨lw_r1, lw_r2⟩
def RX0 : String := "TemporaryReals"
def TX0 : u_T := fun k => match k with
  | 0 => ("TemporaryReals", "tops", "[I", true)
  | 1 => ("TemporaryReals", "fractions", "[J", true)
  | 2 => ("TemporaryReals", "word", "I", false)
  | 3 => ("TemporaryReals", "lastTold", "I", false)
  | 4 => ("TemporaryReals", "lastK", "I", false)
  | _ => ("TemporaryReals", "lastChange", "I", false)
def tyX0 : Nat → FieldType := fun k => match k with
  | 0 => .array .int
  | 1 => .array .long
  | 2 => .int
  | 3 => .int
  | 4 => .int
  | _ => .int
abbrev wsX00 : List Cond := u_ws RX0 TX0 6
theorem nmX0 : ∀ a, a < 6 → ∀ b, b < 6 → a ≠ b → (TX0 a).2.1 ≠ (TX0 b).2.1 := by decide +kernel
theorem tyX0_ok : ∀ k, k < 6 → parseFieldDescriptor (TX0 k).2.2.1 = some (tyX0 k) := by decide +kernel
def RX1 : String := "TemporaryRealsModel"
def TX1 : u_T := fun k => match k with
  | 0 => ("TemporaryRealsModel", "code", "I", false)
  | 1 => ("TemporaryRealsModel", "control", "I", false)
  | 2 => ("TemporaryRealsModel", "top", "[I", true)
  | 3 => ("TemporaryRealsModel", "fraction", "[J", true)
  | 4 => ("TemporaryRealsModel", "bits", "[I", true)
  | 5 => ("TemporaryRealsModel", "weight", "I", false)
  | 6 => ("TemporaryRealsModel", "first", "I", false)
  | 7 => ("TemporaryRealsModel", "minus", "Z", false)
  | 8 => ("TemporaryRealsModel", "whole", "J", false)
  | 9 => ("TemporaryRealsModel", "full", "Z", false)
  | 10 => ("TemporaryRealsModel", "told", "I", false)
  | 11 => ("TemporaryRealsModel", "greatest", "I", false)
  | 12 => ("TemporaryRealsModel", "side", "I", false)
  | 13 => ("TemporaryRealsModel", "madeTop", "I", false)
  | _ => ("TemporaryRealsModel", "madeFraction", "J", false)
def tyX1 : Nat → FieldType := fun k => match k with
  | 0 => .int
  | 1 => .int
  | 2 => .array .int
  | 3 => .array .long
  | 4 => .array .int
  | 5 => .int
  | 6 => .int
  | 7 => .boolean
  | 8 => .long
  | 9 => .boolean
  | 10 => .int
  | 11 => .int
  | 12 => .int
  | 13 => .int
  | _ => .long
abbrev wsX10 : List Cond := u_ws RX1 TX1 15
theorem nmX1 : ∀ a, a < 15 → ∀ b, b < 15 → a ≠ b → (TX1 a).2.1 ≠ (TX1 b).2.1 := by decide +kernel
theorem tyX1_ok : ∀ k, k < 15 → parseFieldDescriptor (TX1 k).2.2.1 = some (tyX1 k) := by decide +kernel
def RJI : String := "java/lang/Integer"
def RJL : String := "java/lang/Long"
def RL : String := "TemporaryRealsLaw"
abbrev xT1 : List Cond := (vx_atS RX0 41 "java/lang/IndexOutOfBoundsException" ["java/lang/RuntimeException", "java/lang/Exception"]).filter goodWord
abbrev xT2 : List Cond := (vx_atS RX0 31 "java/lang/IllegalArgumentException" ["java/lang/RuntimeException", "java/lang/Exception"]).filter goodWord
abbrev cX0_init : ByteArray := prog_1_method_1_code
def yX0_init : MethodName := ⟨RX0, "<init>", "()V"⟩
abbrev cL_control : ByteArray := method_3_code
def yL_control : MethodName := ⟨RL, "control", "(LTemporaryReals;I)I"⟩
abbrev cX0_control : ByteArray := prog_1_method_2_code
def yX0_control : MethodName := ⟨RX0, "control", "(I)V"⟩
abbrev cX0_hasMoreThan16Bits : ByteArray := prog_1_method_11_code
def yX0_hasMoreThan16Bits : MethodName := ⟨RX0, "hasMoreThan16Bits", "(I)Z"⟩
abbrev cL_set : ByteArray := method_4_code
def yL_set : MethodName := ⟨RL, "set", "(LTemporaryReals;IIII)I"⟩
abbrev cX0_set : ByteArray := prog_1_method_3_code
def yX0_set : MethodName := ⟨RX0, "set", "(IIII)V"⟩
abbrev cX0_isNoRegister : ByteArray := prog_1_method_10_code
def yX0_isNoRegister : MethodName := ⟨RX0, "isNoRegister", "(I)Z"⟩
abbrev cX0_join : ByteArray := prog_1_method_12_code
def yX0_join : MethodName := ⟨RX0, "join", "(II)J"⟩
abbrev cL_part : ByteArray := method_5_code
def yL_part : MethodName := ⟨RL, "part", "(LTemporaryReals;II[J)I"⟩
abbrev cX0_part : ByteArray := prog_1_method_4_code
def yX0_part : MethodName := ⟨RX0, "part", "(II)I"⟩
abbrev cX0_kindOf : ByteArray := prog_1_method_16_code
def yX0_kindOf : MethodName := ⟨RX0, "kindOf", "(I)I"⟩
abbrev cX0_powerOf : ByteArray := prog_1_method_15_code
def yX0_powerOf : MethodName := ⟨RX0, "powerOf", "(I)I"⟩
abbrev cJL_numberOfLeadingZeros : ByteArray := prog_8_method_48_code
def yJL_numberOfLeadingZeros : MethodName := ⟨RJL, "numberOfLeadingZeros", "(J)I"⟩
abbrev cJI_numberOfLeadingZeros : ByteArray := prog_7_method_47_code
def yJI_numberOfLeadingZeros : MethodName := ⟨RJI, "numberOfLeadingZeros", "(I)I"⟩
abbrev cL_make : ByteArray := method_6_code
def yL_make : MethodName := ⟨RL, "make", "(LTemporaryReals;IZIIIIIZ[J)I"⟩
abbrev cX0_make : ByteArray := prog_1_method_5_code
def yX0_make : MethodName := ⟨RX0, "make", "(IZIIIIIZ)I"⟩
abbrev cX0_shiftIn : ByteArray := prog_1_method_13_code
def yX0_shiftIn : MethodName := ⟨RX0, "shiftIn", "(JJI)J"⟩
abbrev cX0_makeSize : ByteArray := prog_1_method_28_code
def yX0_makeSize : MethodName := ⟨RX0, "makeSize", "(IZIJJ)I"⟩
abbrev cX0_store : ByteArray := prog_1_method_17_code
def yX0_store : MethodName := ⟨RX0, "store", "(IZIJ)V"⟩
abbrev cX0_tell : ByteArray := prog_1_method_19_code
def yX0_tell : MethodName := ⟨RX0, "tell", "(III)I"⟩
abbrev cX0_isMasked : ByteArray := prog_1_method_20_code
def yX0_isMasked : MethodName := ⟨RX0, "isMasked", "(I)Z"⟩
abbrev cX0_makeSmall : ByteArray := prog_1_method_29_code
def yX0_makeSmall : MethodName := ⟨RX0, "makeSmall", "(IZIJJ)I"⟩
abbrev cX0_digits : ByteArray := prog_1_method_21_code
def yX0_digits : MethodName := ⟨RX0, "digits", "()I"⟩
abbrev cX0_wholePart : ByteArray := prog_1_method_25_code
def yX0_wholePart : MethodName := ⟨RX0, "wholePart", "(JI)J"⟩
abbrev cX0_lostPart : ByteArray := prog_1_method_26_code
def yX0_lostPart : MethodName := ⟨RX0, "lostPart", "(JJI)J"⟩
abbrev cX0_takesAbove : ByteArray := prog_1_method_24_code
def yX0_takesAbove : MethodName := ⟨RX0, "takesAbove", "(JJZ)Z"⟩
abbrev cX0_rounding : ByteArray := prog_1_method_22_code
def yX0_rounding : MethodName := ⟨RX0, "rounding", "()I"⟩
abbrev cX0_goesAway : ByteArray := prog_1_method_23_code
def yX0_goesAway : MethodName := ⟨RX0, "goesAway", "(Z)Z"⟩
abbrev cX0_changeOf : ByteArray := prog_1_method_27_code
def yX0_changeOf : MethodName := ⟨RX0, "changeOf", "(JZ)I"⟩
abbrev cX0_makeRounded : ByteArray := prog_1_method_30_code
def yX0_makeRounded : MethodName := ⟨RX0, "makeRounded", "(IZIJJ)I"⟩
abbrev cX0_makeTooGreat : ByteArray := prog_1_method_31_code
def yX0_makeTooGreat : MethodName := ⟨RX0, "makeTooGreat", "(IZI)I"⟩
abbrev cL_again : ByteArray := method_7_code
def yL_again : MethodName := ⟨RL, "again", "(LTemporaryReals;II[J)I"⟩
abbrev cX0_again : ByteArray := prog_1_method_6_code
def yX0_again : MethodName := ⟨RX0, "again", "(II)I"⟩
abbrev cX0_copy : ByteArray := prog_1_method_18_code
def yX0_copy : MethodName := ⟨RX0, "copy", "(II)V"⟩
abbrev cX0_isNegative : ByteArray := prog_1_method_14_code
def yX0_isNegative : MethodName := ⟨RX0, "isNegative", "(I)Z"⟩
abbrev cL_last : ByteArray := method_8_code
def yL_last : MethodName := ⟨RL, "last", "(LTemporaryReals;I[J)I"⟩
abbrev cX0_last : ByteArray := prog_1_method_7_code
def yX0_last : MethodName := ⟨RX0, "last", "(I)I"⟩
abbrev cL_compare : ByteArray := method_9_code
def yL_compare : MethodName := ⟨RL, "compare", "(LTemporaryReals;II[J)I"⟩
abbrev cX0_compare : ByteArray := prog_1_method_8_code
def yX0_compare : MethodName := ⟨RX0, "compare", "(II)I"⟩
abbrev cX0_signum : ByteArray := prog_1_method_32_code
def yX0_signum : MethodName := ⟨RX0, "signum", "(I)I"⟩
abbrev cX0_compareSizes : ByteArray := prog_1_method_33_code
def yX0_compareSizes : MethodName := ⟨RX0, "compareSizes", "(II)I"⟩
abbrev cX0_plainPower : ByteArray := prog_1_method_36_code
def yX0_plainPower : MethodName := ⟨RX0, "plainPower", "(I)I"⟩
abbrev cX0_plainFraction : ByteArray := prog_1_method_35_code
def yX0_plainFraction : MethodName := ⟨RX0, "plainFraction", "(I)J"⟩
abbrev cX0_plainShift : ByteArray := prog_1_method_34_code
def yX0_plainShift : MethodName := ⟨RX0, "plainShift", "(I)I"⟩
abbrev cJL_compareUnsigned : ByteArray := prog_8_method_43_code
def yJL_compareUnsigned : MethodName := ⟨RJL, "compareUnsigned", "(JJ)I"⟩
abbrev cJL_compare : ByteArray := prog_8_method_42_code
def yJL_compare : MethodName := ⟨RJL, "compare", "(JJ)I"⟩
abbrev cJI_signum : ByteArray := prog_7_method_56_code
def yJI_signum : MethodName := ⟨RJI, "signum", "(I)I"⟩
abbrev cL_neighbour : ByteArray := method_10_code
def yL_neighbour : MethodName := ⟨RL, "neighbour", "(LTemporaryReals;IZI)I"⟩
abbrev cX0_neighbour : ByteArray := prog_1_method_9_code
def yX0_neighbour : MethodName := ⟨RX0, "neighbour", "(IZI)V"⟩
abbrev cX0_storeNextGreater : ByteArray := prog_1_method_37_code
def yX0_storeNextGreater : MethodName := ⟨RX0, "storeNextGreater", "(IZIJ)V"⟩
abbrev cX0_storeNextLesser : ByteArray := prog_1_method_38_code
def yX0_storeNextLesser : MethodName := ⟨RX0, "storeNextLesser", "(IZIJ)V"⟩
abbrev cX1_init : ByteArray := prog_3_method_1_code
def yX1_init : MethodName := ⟨RX1, "<init>", "()V"⟩
abbrev cX1_thrown : ByteArray := prog_3_method_2_code
def yX1_thrown : MethodName := ⟨RX1, "thrown", "()I"⟩
abbrev cX1_control : ByteArray := prog_3_method_4_code
def yX1_control : MethodName := ⟨RX1, "control", "(I)V"⟩
abbrev cX1_set : ByteArray := prog_3_method_5_code
def yX1_set : MethodName := ⟨RX1, "set", "(IIII)V"⟩
abbrev cX1_none : ByteArray := prog_3_method_3_code
def yX1_none : MethodName := ⟨RX1, "none", "(I)Z"⟩
abbrev cX1_part : ByteArray := prog_3_method_7_code
def yX1_part : MethodName := ⟨RX1, "part", "(II)I"⟩
abbrev cX1_kind : ByteArray := prog_3_method_6_code
def yX1_kind : MethodName := ⟨RX1, "kind", "(I)I"⟩
abbrev cX1_make : ByteArray := prog_3_method_12_code
def yX1_make : MethodName := ⟨RX1, "make", "(IZIIIIIZ)I"⟩
abbrev cX1_make0 : ByteArray := prog_3_method_10_code
def yX1_make0 : MethodName := ⟨RX1, "make", "()V"⟩
abbrev cX1_result : ByteArray := prog_3_method_9_code
def yX1_result : MethodName := ⟨RX1, "result", "(IJ)V"⟩
abbrev cX1_round : ByteArray := prog_3_method_8_code
def yX1_round : MethodName := ⟨RX1, "round", "(I)V"⟩
abbrev cX1_keep : ByteArray := prog_3_method_11_code
def yX1_keep : MethodName := ⟨RX1, "keep", "(I)I"⟩
abbrev cX1_again : ByteArray := prog_3_method_14_code
def yX1_again : MethodName := ⟨RX1, "again", "(II)I"⟩
abbrev cX1_powerOf : ByteArray := prog_3_method_13_code
def yX1_powerOf : MethodName := ⟨RX1, "powerOf", "(I)I"⟩
abbrev cX1_last : ByteArray := prog_3_method_15_code
def yX1_last : MethodName := ⟨RX1, "last", "(I)I"⟩
abbrev cX1_compare : ByteArray := prog_3_method_18_code
def yX1_compare : MethodName := ⟨RX1, "compare", "(II)I"⟩
abbrev cX1_isNothing : ByteArray := prog_3_method_16_code
def yX1_isNothing : MethodName := ⟨RX1, "isNothing", "(I)Z"⟩
abbrev cX1_compareSizes : ByteArray := prog_3_method_17_code
def yX1_compareSizes : MethodName := ⟨RX1, "compareSizes", "(II)I"⟩
abbrev cX1_neighbour : ByteArray := prog_3_method_19_code
def yX1_neighbour : MethodName := ⟨RX1, "neighbour", "(IZI)V"⟩
abbrev cL_law : ByteArray := code
def yL_law : MethodName := ⟨RL, "law", "([I)Z"⟩
abbrev vwCl : List vw_C := [(RX0, TX0, 6), (RX1, TX1, 15)]
end
section
theorem wa_a {a b : List Cond} (h1 : a.all goodWord = true) (h2 : b.all goodWord = true) : (a ++ b).all goodWord = true := by rw [List.all_append, h1, h2]; rfl
theorem wi_a {a b T : List Cond} (h1 : ∀ w ∈ a, w ∈ T) (h2 : ∀ w ∈ b, w ∈ T) : ∀ w ∈ a ++ b, w ∈ T := fun w h => (List.mem_append.mp h).elim (h1 w) (h2 w)
set_option maxRecDepth 20000 in
theorem al_wsX00 : wsX00.all goodWord = true := by decide +kernel
set_option maxRecDepth 20000 in
theorem ti_wsX00 : ∀ w ∈ wsX00, w ∈ lw_tbl := by decide +kernel
set_option maxRecDepth 20000 in
theorem al_wsX10 : wsX10.all goodWord = true := by decide +kernel
set_option maxRecDepth 20000 in
theorem ti_wsX10 : ∀ w ∈ wsX10, w ∈ lw_tbl := by decide +kernel
set_option maxRecDepth 20000 in
theorem al_xT1 : xT1.all goodWord = true := by decide +kernel
set_option maxRecDepth 20000 in
theorem ti_xT1 : ∀ w ∈ xT1, w ∈ lw_tbl := by decide +kernel
set_option maxRecDepth 20000 in
theorem al_xT2 : xT2.all goodWord = true := by decide +kernel
set_option maxRecDepth 20000 in
theorem ti_xT2 : ∀ w ∈ xT2, w ∈ lw_tbl := by decide +kernel
def owX0_init : List Cond := [Cond.code yX0_init cX0_init 1 none, Cond.methodLink RX0 3 objectInit, Cond.instanceMethod objectInit, Cond.code objectInit ⟨#[0xb1]⟩ 1 none, Cond.arrayClass .int, Cond.fieldLink RX0 11 "TemporaryReals" "tops" "[I", Cond.arrayClass .long, Cond.fieldLink RX0 15 "TemporaryReals" "fractions" "[J", Cond.fieldLink RX0 19 "TemporaryReals" "word" "I"]
set_option maxRecDepth 20000 in
theorem aloX0_init : owX0_init.all goodWord = true := by decide +kernel
set_option maxRecDepth 20000 in
theorem tihX0_init : Cond.code yX0_init cX0_init 1 none ∈ lw_tbl := List.mem_append_right _ (List.mem_of_getElem? (i := 15) rfl)
set_option maxRecDepth 20000 in
theorem tioX0_init : ∀ w ∈ owX0_init, w ∈ lw_tbl := List.forall_mem_cons.mpr ⟨tihX0_init, by decide +kernel⟩
def wsX0_init : List Cond := owX0_init ++ (wsX00)
theorem al_wsX0_init : wsX0_init.all goodWord = true := wa_a aloX0_init al_wsX00
theorem ti_wsX0_init : ∀ w ∈ wsX0_init, w ∈ lw_tbl := wi_a tioX0_init ti_wsX00
def owX0_hasMoreThan16Bits : List Cond := [Cond.code yX0_hasMoreThan16Bits cX0_hasMoreThan16Bits 1 (some .boolean), Cond.constant RX0 126 (65535)]
set_option maxRecDepth 20000 in
theorem aloX0_hasMoreThan16Bits : owX0_hasMoreThan16Bits.all goodWord = true := by decide +kernel
set_option maxRecDepth 20000 in
theorem tihX0_hasMoreThan16Bits : Cond.code yX0_hasMoreThan16Bits cX0_hasMoreThan16Bits 1 (some .boolean) ∈ lw_tbl := List.mem_append_right _ (List.mem_of_getElem? (i := 50) rfl)
set_option maxRecDepth 20000 in
theorem tioX0_hasMoreThan16Bits : ∀ w ∈ owX0_hasMoreThan16Bits, w ∈ lw_tbl := List.forall_mem_cons.mpr ⟨tihX0_hasMoreThan16Bits, by decide +kernel⟩
def wsX0_hasMoreThan16Bits : List Cond := owX0_hasMoreThan16Bits
theorem al_wsX0_hasMoreThan16Bits : wsX0_hasMoreThan16Bits.all goodWord = true := aloX0_hasMoreThan16Bits
theorem ti_wsX0_hasMoreThan16Bits : ∀ w ∈ wsX0_hasMoreThan16Bits, w ∈ lw_tbl := tioX0_hasMoreThan16Bits
def owX0_control : List Cond := [Cond.code yX0_control cX0_control 2 none, Cond.methodLink RX0 23 yX0_hasMoreThan16Bits, Cond.static yX0_hasMoreThan16Bits, Cond.initialized RX0, Cond.classLink RX0 27 "java/lang/IllegalArgumentException", Cond.initialized "java/lang/IllegalArgumentException", Cond.fieldLink RX0 19 "TemporaryReals" "word" "I"]
set_option maxRecDepth 20000 in
theorem aloX0_control : owX0_control.all goodWord = true := by decide +kernel
set_option maxRecDepth 20000 in
theorem tihX0_control : Cond.code yX0_control cX0_control 2 none ∈ lw_tbl := List.mem_append_right _ (List.mem_of_getElem? (i := 47) rfl)
set_option maxRecDepth 20000 in
theorem tioX0_control : ∀ w ∈ owX0_control, w ∈ lw_tbl := List.forall_mem_cons.mpr ⟨tihX0_control, by decide +kernel⟩
def wsX0_control : List Cond := owX0_control ++ (wsX00 ++ (xT2 ++ (wsX0_hasMoreThan16Bits)))
theorem al_wsX0_control : wsX0_control.all goodWord = true := wa_a aloX0_control (wa_a al_wsX00 (wa_a al_xT2 al_wsX0_hasMoreThan16Bits))
theorem ti_wsX0_control : ∀ w ∈ wsX0_control, w ∈ lw_tbl := wi_a tioX0_control (wi_a ti_wsX00 (wi_a ti_xT2 ti_wsX0_hasMoreThan16Bits))
def owL_control : List Cond := [Cond.codeWith yL_control cL_control 3 (some .int) [(0, 5, 8, 13)], Cond.classLink RL 13 "java/lang/IllegalArgumentException", Cond.methodLink RL 7 yX0_control, Cond.instanceMethod yX0_control, Cond.selects RX0 yX0_control yX0_control, Cond.initialized RX0]
set_option maxRecDepth 20000 in
theorem aloL_control : owL_control.all goodWord = true := by decide +kernel
set_option maxRecDepth 20000 in
theorem tihL_control : Cond.codeWith yL_control cL_control 3 (some .int) [(0, 5, 8, 13)] ∈ lw_tbl := List.mem_append_right _ (List.mem_of_getElem? (i := 42) rfl)
set_option maxRecDepth 20000 in
theorem tioL_control : ∀ w ∈ owL_control, w ∈ lw_tbl := List.forall_mem_cons.mpr ⟨tihL_control, by decide +kernel⟩
def wsL_control : List Cond := owL_control ++ (wsX0_control)
theorem al_wsL_control : wsL_control.all goodWord = true := wa_a aloL_control al_wsX0_control
theorem ti_wsL_control : ∀ w ∈ wsL_control, w ∈ lw_tbl := wi_a tioL_control ti_wsX0_control
def owX0_isNoRegister : List Cond := [Cond.code yX0_isNoRegister cX0_isNoRegister 1 (some .boolean)]
set_option maxRecDepth 20000 in
theorem aloX0_isNoRegister : owX0_isNoRegister.all goodWord = true := by decide +kernel
set_option maxRecDepth 20000 in
theorem tihX0_isNoRegister : Cond.code yX0_isNoRegister cX0_isNoRegister 1 (some .boolean) ∈ lw_tbl := List.mem_append_right _ (List.mem_of_getElem? (i := 129) rfl)
set_option maxRecDepth 20000 in
theorem tioX0_isNoRegister : ∀ w ∈ owX0_isNoRegister, w ∈ lw_tbl := List.forall_mem_cons.mpr ⟨tihX0_isNoRegister, by decide +kernel⟩
def wsX0_isNoRegister : List Cond := owX0_isNoRegister
theorem al_wsX0_isNoRegister : wsX0_isNoRegister.all goodWord = true := aloX0_isNoRegister
theorem ti_wsX0_isNoRegister : ∀ w ∈ wsX0_isNoRegister, w ∈ lw_tbl := tioX0_isNoRegister
def owX0_join : List Cond := [Cond.code yX0_join cX0_join 2 (some .long), Cond.constantLong RX0 127 (4294967295)]
set_option maxRecDepth 20000 in
theorem aloX0_join : owX0_join.all goodWord = true := by decide +kernel
set_option maxRecDepth 20000 in
theorem tihX0_join : Cond.code yX0_join cX0_join 2 (some .long) ∈ lw_tbl := List.mem_append_right _ (List.mem_of_getElem? (i := 149) rfl)
set_option maxRecDepth 20000 in
theorem tioX0_join : ∀ w ∈ owX0_join, w ∈ lw_tbl := List.forall_mem_cons.mpr ⟨tihX0_join, by decide +kernel⟩
def wsX0_join : List Cond := owX0_join
theorem al_wsX0_join : wsX0_join.all goodWord = true := aloX0_join
theorem ti_wsX0_join : ∀ w ∈ wsX0_join, w ∈ lw_tbl := tioX0_join
def owX0_set : List Cond := [Cond.code yX0_set cX0_set 5 none, Cond.methodLink RX0 34 yX0_isNoRegister, Cond.static yX0_isNoRegister, Cond.initialized RX0, Cond.classLink RX0 37 "java/lang/IndexOutOfBoundsException", Cond.initialized "java/lang/IndexOutOfBoundsException", Cond.methodLink RX0 23 yX0_hasMoreThan16Bits, Cond.static yX0_hasMoreThan16Bits, Cond.classLink RX0 27 "java/lang/IllegalArgumentException", Cond.initialized "java/lang/IllegalArgumentException", Cond.fieldLink RX0 11 "TemporaryReals" "tops" "[I", Cond.fieldLink RX0 15 "TemporaryReals" "fractions" "[J", Cond.methodLink RX0 44 yX0_join, Cond.static yX0_join]
set_option maxRecDepth 20000 in
theorem aloX0_set : owX0_set.all goodWord = true := by decide +kernel
set_option maxRecDepth 20000 in
theorem tihX0_set : Cond.code yX0_set cX0_set 5 none ∈ lw_tbl := List.mem_append_right _ (List.mem_of_getElem? (i := 126) rfl)
set_option maxRecDepth 20000 in
theorem tioX0_set : ∀ w ∈ owX0_set, w ∈ lw_tbl := List.forall_mem_cons.mpr ⟨tihX0_set, by decide +kernel⟩
def wsX0_set : List Cond := owX0_set ++ (wsX00 ++ (xT2 ++ (xT1 ++ (wsX0_isNoRegister ++ (wsX0_hasMoreThan16Bits ++ (wsX0_join))))))
theorem al_wsX0_set : wsX0_set.all goodWord = true := wa_a aloX0_set (wa_a al_wsX00 (wa_a al_xT2 (wa_a al_xT1 (wa_a al_wsX0_isNoRegister (wa_a al_wsX0_hasMoreThan16Bits al_wsX0_join)))))
theorem ti_wsX0_set : ∀ w ∈ wsX0_set, w ∈ lw_tbl := wi_a tioX0_set (wi_a ti_wsX00 (wi_a ti_xT2 (wi_a ti_xT1 (wi_a ti_wsX0_isNoRegister (wi_a ti_wsX0_hasMoreThan16Bits ti_wsX0_join)))))
def owL_set : List Cond := [Cond.codeWith yL_set cL_set 6 (some .int) [(0, 9, 12, 19), (0, 9, 16, 13)], Cond.classLink RL 19 "java/lang/IndexOutOfBoundsException", Cond.classLink RL 13 "java/lang/IllegalArgumentException", Cond.methodLink RL 15 yX0_set, Cond.instanceMethod yX0_set, Cond.selects RX0 yX0_set yX0_set, Cond.initialized RX0]
set_option maxRecDepth 20000 in
theorem aloL_set : owL_set.all goodWord = true := by decide +kernel
set_option maxRecDepth 20000 in
theorem tihL_set : Cond.codeWith yL_set cL_set 6 (some .int) [(0, 9, 12, 19), (0, 9, 16, 13)] ∈ lw_tbl := List.mem_append_right _ (List.mem_of_getElem? (i := 121) rfl)
set_option maxRecDepth 20000 in
theorem tioL_set : ∀ w ∈ owL_set, w ∈ lw_tbl := List.forall_mem_cons.mpr ⟨tihL_set, by decide +kernel⟩
def wsL_set : List Cond := owL_set ++ (wsX0_set)
theorem al_wsL_set : wsL_set.all goodWord = true := wa_a aloL_set al_wsX0_set
theorem ti_wsL_set : ∀ w ∈ wsL_set, w ∈ lw_tbl := wi_a tioL_set ti_wsX0_set
def owX0_powerOf : List Cond := [Cond.code yX0_powerOf cX0_powerOf 2 (some .int), Cond.fieldLink RX0 11 "TemporaryReals" "tops" "[I"]
set_option maxRecDepth 20000 in
theorem aloX0_powerOf : owX0_powerOf.all goodWord = true := by decide +kernel
set_option maxRecDepth 20000 in
theorem tihX0_powerOf : Cond.code yX0_powerOf cX0_powerOf 2 (some .int) ∈ lw_tbl := List.mem_append_right _ (List.mem_of_getElem? (i := 165) rfl)
set_option maxRecDepth 20000 in
theorem tioX0_powerOf : ∀ w ∈ owX0_powerOf, w ∈ lw_tbl := List.forall_mem_cons.mpr ⟨tihX0_powerOf, by decide +kernel⟩
def wsX0_powerOf : List Cond := owX0_powerOf ++ (wsX00)
theorem al_wsX0_powerOf : wsX0_powerOf.all goodWord = true := wa_a aloX0_powerOf al_wsX00
theorem ti_wsX0_powerOf : ∀ w ∈ wsX0_powerOf, w ∈ lw_tbl := wi_a tioX0_powerOf ti_wsX00
def owX0_kindOf : List Cond := [Cond.code yX0_kindOf cX0_kindOf 5 (some .int), Cond.methodLink RX0 80 yX0_powerOf, Cond.instanceMethod yX0_powerOf, Cond.selects RX0 yX0_powerOf yX0_powerOf, Cond.initialized RX0, Cond.fieldLink RX0 15 "TemporaryReals" "fractions" "[J", Cond.constantLong RX0 130 (9223372036854775807)]
set_option maxRecDepth 20000 in
theorem aloX0_kindOf : owX0_kindOf.all goodWord = true := by decide +kernel
set_option maxRecDepth 20000 in
theorem tihX0_kindOf : Cond.code yX0_kindOf cX0_kindOf 5 (some .int) ∈ lw_tbl := List.mem_append_right _ (List.mem_of_getElem? (i := 161) rfl)
set_option maxRecDepth 20000 in
theorem tioX0_kindOf : ∀ w ∈ owX0_kindOf, w ∈ lw_tbl := List.forall_mem_cons.mpr ⟨tihX0_kindOf, by decide +kernel⟩
def wsX0_kindOf : List Cond := owX0_kindOf ++ (wsX00 ++ (wsX0_powerOf))
theorem al_wsX0_kindOf : wsX0_kindOf.all goodWord = true := wa_a aloX0_kindOf (wa_a al_wsX00 al_wsX0_powerOf)
theorem ti_wsX0_kindOf : ∀ w ∈ wsX0_kindOf, w ∈ lw_tbl := wi_a tioX0_kindOf (wi_a ti_wsX00 ti_wsX0_powerOf)
def owJI_numberOfLeadingZeros : List Cond := [Cond.code yJI_numberOfLeadingZeros cJI_numberOfLeadingZeros 2 (some .int), Cond.constant RJI 264 (65536)]
set_option maxRecDepth 20000 in
theorem aloJI_numberOfLeadingZeros : owJI_numberOfLeadingZeros.all goodWord = true := by decide +kernel
set_option maxRecDepth 20000 in
theorem tihJI_numberOfLeadingZeros : Cond.code yJI_numberOfLeadingZeros cJI_numberOfLeadingZeros 2 (some .int) ∈ lw_tbl := List.mem_append_right _ (List.mem_of_getElem? (i := 172) rfl)
set_option maxRecDepth 20000 in
theorem tioJI_numberOfLeadingZeros : ∀ w ∈ owJI_numberOfLeadingZeros, w ∈ lw_tbl := List.forall_mem_cons.mpr ⟨tihJI_numberOfLeadingZeros, by decide +kernel⟩
def wsJI_numberOfLeadingZeros : List Cond := owJI_numberOfLeadingZeros
theorem al_wsJI_numberOfLeadingZeros : wsJI_numberOfLeadingZeros.all goodWord = true := aloJI_numberOfLeadingZeros
theorem ti_wsJI_numberOfLeadingZeros : ∀ w ∈ wsJI_numberOfLeadingZeros, w ∈ lw_tbl := tioJI_numberOfLeadingZeros
def owJL_numberOfLeadingZeros : List Cond := [Cond.code yJL_numberOfLeadingZeros cJL_numberOfLeadingZeros 3 (some .int), Cond.methodLink RJL 308 yJI_numberOfLeadingZeros, Cond.static yJI_numberOfLeadingZeros, Cond.initialized RJI]
set_option maxRecDepth 20000 in
theorem aloJL_numberOfLeadingZeros : owJL_numberOfLeadingZeros.all goodWord = true := by decide +kernel
set_option maxRecDepth 20000 in
theorem tihJL_numberOfLeadingZeros : Cond.code yJL_numberOfLeadingZeros cJL_numberOfLeadingZeros 3 (some .int) ∈ lw_tbl := List.mem_append_right _ (List.mem_of_getElem? (i := 169) rfl)
set_option maxRecDepth 20000 in
theorem tioJL_numberOfLeadingZeros : ∀ w ∈ owJL_numberOfLeadingZeros, w ∈ lw_tbl := List.forall_mem_cons.mpr ⟨tihJL_numberOfLeadingZeros, by decide +kernel⟩
def wsJL_numberOfLeadingZeros : List Cond := owJL_numberOfLeadingZeros ++ (wsJI_numberOfLeadingZeros)
theorem al_wsJL_numberOfLeadingZeros : wsJL_numberOfLeadingZeros.all goodWord = true := wa_a aloJL_numberOfLeadingZeros al_wsJI_numberOfLeadingZeros
theorem ti_wsJL_numberOfLeadingZeros : ∀ w ∈ wsJL_numberOfLeadingZeros, w ∈ lw_tbl := wi_a tioJL_numberOfLeadingZeros ti_wsJI_numberOfLeadingZeros
def owX0_part : List Cond := [Cond.code yX0_part cX0_part 3 (some .int), Cond.methodLink RX0 34 yX0_isNoRegister, Cond.static yX0_isNoRegister, Cond.initialized RX0, Cond.classLink RX0 37 "java/lang/IndexOutOfBoundsException", Cond.initialized "java/lang/IndexOutOfBoundsException", Cond.fieldLink RX0 11 "TemporaryReals" "tops" "[I", Cond.fieldLink RX0 15 "TemporaryReals" "fractions" "[J", Cond.methodLink RX0 48 yX0_kindOf, Cond.instanceMethod yX0_kindOf, Cond.selects RX0 yX0_kindOf yX0_kindOf, Cond.methodLink RX0 52 yJL_numberOfLeadingZeros, Cond.static yJL_numberOfLeadingZeros, Cond.initialized RJL, Cond.classLink RX0 27 "java/lang/IllegalArgumentException", Cond.initialized "java/lang/IllegalArgumentException"]
set_option maxRecDepth 20000 in
theorem aloX0_part : owX0_part.all goodWord = true := by decide +kernel
set_option maxRecDepth 20000 in
theorem tihX0_part : Cond.code yX0_part cX0_part 3 (some .int) ∈ lw_tbl := List.mem_append_right _ (List.mem_of_getElem? (i := 157) rfl)
set_option maxRecDepth 20000 in
theorem tioX0_part : ∀ w ∈ owX0_part, w ∈ lw_tbl := List.forall_mem_cons.mpr ⟨tihX0_part, by decide +kernel⟩
def wsX0_part : List Cond := owX0_part ++ (wsX00 ++ (xT2 ++ (xT1 ++ (wsX0_isNoRegister ++ (wsX0_kindOf ++ (wsJL_numberOfLeadingZeros))))))
theorem al_wsX0_part : wsX0_part.all goodWord = true := wa_a aloX0_part (wa_a al_wsX00 (wa_a al_xT2 (wa_a al_xT1 (wa_a al_wsX0_isNoRegister (wa_a al_wsX0_kindOf al_wsJL_numberOfLeadingZeros)))))
theorem ti_wsX0_part : ∀ w ∈ wsX0_part, w ∈ lw_tbl := wi_a tioX0_part (wi_a ti_wsX00 (wi_a ti_xT2 (wi_a ti_xT1 (wi_a ti_wsX0_isNoRegister (wi_a ti_wsX0_kindOf ti_wsJL_numberOfLeadingZeros)))))
def owL_part : List Cond := [Cond.codeWith yL_part cL_part 5 (some .int) [(0, 10, 13, 19), (0, 10, 17, 13)], Cond.classLink RL 19 "java/lang/IndexOutOfBoundsException", Cond.classLink RL 13 "java/lang/IllegalArgumentException", Cond.methodLink RL 21 yX0_part, Cond.instanceMethod yX0_part, Cond.selects RX0 yX0_part yX0_part, Cond.initialized RX0]
set_option maxRecDepth 20000 in
theorem aloL_part : owL_part.all goodWord = true := by decide +kernel
set_option maxRecDepth 20000 in
theorem tihL_part : Cond.codeWith yL_part cL_part 5 (some .int) [(0, 10, 13, 19), (0, 10, 17, 13)] ∈ lw_tbl := List.mem_append_right _ (List.mem_of_getElem? (i := 153) rfl)
set_option maxRecDepth 20000 in
theorem tioL_part : ∀ w ∈ owL_part, w ∈ lw_tbl := List.forall_mem_cons.mpr ⟨tihL_part, by decide +kernel⟩
def wsL_part : List Cond := owL_part ++ (wsX0_part)
theorem al_wsL_part : wsL_part.all goodWord = true := wa_a aloL_part al_wsX0_part
theorem ti_wsL_part : ∀ w ∈ wsL_part, w ∈ lw_tbl := wi_a tioL_part ti_wsX0_part
def owX0_shiftIn : List Cond := [Cond.code yX0_shiftIn cX0_shiftIn 5 (some .long)]
set_option maxRecDepth 20000 in
theorem aloX0_shiftIn : owX0_shiftIn.all goodWord = true := by decide +kernel
set_option maxRecDepth 20000 in
theorem tihX0_shiftIn : Cond.code yX0_shiftIn cX0_shiftIn 5 (some .long) ∈ lw_tbl := List.mem_append_right _ (List.mem_of_getElem? (i := 188) rfl)
set_option maxRecDepth 20000 in
theorem tioX0_shiftIn : ∀ w ∈ owX0_shiftIn, w ∈ lw_tbl := List.forall_mem_cons.mpr ⟨tihX0_shiftIn, by decide +kernel⟩
def wsX0_shiftIn : List Cond := owX0_shiftIn
theorem al_wsX0_shiftIn : wsX0_shiftIn.all goodWord = true := aloX0_shiftIn
theorem ti_wsX0_shiftIn : ∀ w ∈ wsX0_shiftIn, w ∈ lw_tbl := tioX0_shiftIn
def owX0_store : List Cond := [Cond.code yX0_store cX0_store 6 none, Cond.fieldLink RX0 11 "TemporaryReals" "tops" "[I", Cond.constant RX0 129 (32768), Cond.fieldLink RX0 15 "TemporaryReals" "fractions" "[J"]
set_option maxRecDepth 20000 in
theorem aloX0_store : owX0_store.all goodWord = true := by decide +kernel
set_option maxRecDepth 20000 in
theorem tihX0_store : Cond.code yX0_store cX0_store 6 none ∈ lw_tbl := List.mem_append_right _ (List.mem_of_getElem? (i := 196) rfl)
set_option maxRecDepth 20000 in
theorem tioX0_store : ∀ w ∈ owX0_store, w ∈ lw_tbl := List.forall_mem_cons.mpr ⟨tihX0_store, by decide +kernel⟩
def wsX0_store : List Cond := owX0_store ++ (wsX00)
theorem al_wsX0_store : wsX0_store.all goodWord = true := wa_a aloX0_store al_wsX00
theorem ti_wsX0_store : ∀ w ∈ wsX0_store, w ∈ lw_tbl := wi_a tioX0_store ti_wsX00
def owX0_tell : List Cond := [Cond.code yX0_tell cX0_tell 4 (some .int), Cond.fieldLink RX0 92 "TemporaryReals" "lastTold" "I", Cond.fieldLink RX0 95 "TemporaryReals" "lastK" "I", Cond.fieldLink RX0 98 "TemporaryReals" "lastChange" "I"]
set_option maxRecDepth 20000 in
theorem aloX0_tell : owX0_tell.all goodWord = true := by decide +kernel
set_option maxRecDepth 20000 in
theorem tihX0_tell : Cond.code yX0_tell cX0_tell 4 (some .int) ∈ lw_tbl := List.mem_append_right _ (List.mem_of_getElem? (i := 201) rfl)
set_option maxRecDepth 20000 in
theorem tioX0_tell : ∀ w ∈ owX0_tell, w ∈ lw_tbl := List.forall_mem_cons.mpr ⟨tihX0_tell, by decide +kernel⟩
def wsX0_tell : List Cond := owX0_tell ++ (wsX00)
theorem al_wsX0_tell : wsX0_tell.all goodWord = true := wa_a aloX0_tell al_wsX00
theorem ti_wsX0_tell : ∀ w ∈ wsX0_tell, w ∈ lw_tbl := wi_a tioX0_tell ti_wsX00
def owX0_isMasked : List Cond := [Cond.code yX0_isMasked cX0_isMasked 2 (some .boolean), Cond.fieldLink RX0 19 "TemporaryReals" "word" "I"]
set_option maxRecDepth 20000 in
theorem aloX0_isMasked : owX0_isMasked.all goodWord = true := by decide +kernel
set_option maxRecDepth 20000 in
theorem tihX0_isMasked : Cond.code yX0_isMasked cX0_isMasked 2 (some .boolean) ∈ lw_tbl := List.mem_append_right _ (List.mem_of_getElem? (i := 205) rfl)
set_option maxRecDepth 20000 in
theorem tioX0_isMasked : ∀ w ∈ owX0_isMasked, w ∈ lw_tbl := List.forall_mem_cons.mpr ⟨tihX0_isMasked, by decide +kernel⟩
def wsX0_isMasked : List Cond := owX0_isMasked ++ (wsX00)
theorem al_wsX0_isMasked : wsX0_isMasked.all goodWord = true := wa_a aloX0_isMasked al_wsX00
theorem ti_wsX0_isMasked : ∀ w ∈ wsX0_isMasked, w ∈ lw_tbl := wi_a tioX0_isMasked ti_wsX00
def owX0_digits : List Cond := [Cond.code yX0_digits cX0_digits 1 (some .int), Cond.fieldLink RX0 19 "TemporaryReals" "word" "I"]
set_option maxRecDepth 20000 in
theorem aloX0_digits : owX0_digits.all goodWord = true := by decide +kernel
set_option maxRecDepth 20000 in
theorem tihX0_digits : Cond.code yX0_digits cX0_digits 1 (some .int) ∈ lw_tbl := List.mem_append_right _ (List.mem_of_getElem? (i := 213) rfl)
set_option maxRecDepth 20000 in
theorem tioX0_digits : ∀ w ∈ owX0_digits, w ∈ lw_tbl := List.forall_mem_cons.mpr ⟨tihX0_digits, by decide +kernel⟩
def wsX0_digits : List Cond := owX0_digits ++ (wsX00)
theorem al_wsX0_digits : wsX0_digits.all goodWord = true := wa_a aloX0_digits al_wsX00
theorem ti_wsX0_digits : ∀ w ∈ wsX0_digits, w ∈ lw_tbl := wi_a tioX0_digits ti_wsX00
def owX0_wholePart : List Cond := [Cond.code yX0_wholePart cX0_wholePart 3 (some .long)]
set_option maxRecDepth 20000 in
theorem aloX0_wholePart : owX0_wholePart.all goodWord = true := by decide +kernel
set_option maxRecDepth 20000 in
theorem tihX0_wholePart : Cond.code yX0_wholePart cX0_wholePart 3 (some .long) ∈ lw_tbl := List.mem_append_right _ (List.mem_of_getElem? (i := 216) rfl)
set_option maxRecDepth 20000 in
theorem tioX0_wholePart : ∀ w ∈ owX0_wholePart, w ∈ lw_tbl := List.forall_mem_cons.mpr ⟨tihX0_wholePart, by decide +kernel⟩
def wsX0_wholePart : List Cond := owX0_wholePart
theorem al_wsX0_wholePart : wsX0_wholePart.all goodWord = true := aloX0_wholePart
theorem ti_wsX0_wholePart : ∀ w ∈ wsX0_wholePart, w ∈ lw_tbl := tioX0_wholePart
def owX0_lostPart : List Cond := [Cond.code yX0_lostPart cX0_lostPart 7 (some .long)]
set_option maxRecDepth 20000 in
theorem aloX0_lostPart : owX0_lostPart.all goodWord = true := by decide +kernel
set_option maxRecDepth 20000 in
theorem tihX0_lostPart : Cond.code yX0_lostPart cX0_lostPart 7 (some .long) ∈ lw_tbl := List.mem_append_right _ (List.mem_of_getElem? (i := 219) rfl)
set_option maxRecDepth 20000 in
theorem tioX0_lostPart : ∀ w ∈ owX0_lostPart, w ∈ lw_tbl := List.forall_mem_cons.mpr ⟨tihX0_lostPart, by decide +kernel⟩
def wsX0_lostPart : List Cond := owX0_lostPart
theorem al_wsX0_lostPart : wsX0_lostPart.all goodWord = true := aloX0_lostPart
theorem ti_wsX0_lostPart : ∀ w ∈ wsX0_lostPart, w ∈ lw_tbl := tioX0_lostPart
def owX0_rounding : List Cond := [Cond.code yX0_rounding cX0_rounding 1 (some .int), Cond.fieldLink RX0 19 "TemporaryReals" "word" "I"]
set_option maxRecDepth 20000 in
theorem aloX0_rounding : owX0_rounding.all goodWord = true := by decide +kernel
set_option maxRecDepth 20000 in
theorem tihX0_rounding : Cond.code yX0_rounding cX0_rounding 1 (some .int) ∈ lw_tbl := List.mem_append_right _ (List.mem_of_getElem? (i := 227) rfl)
set_option maxRecDepth 20000 in
theorem tioX0_rounding : ∀ w ∈ owX0_rounding, w ∈ lw_tbl := List.forall_mem_cons.mpr ⟨tihX0_rounding, by decide +kernel⟩
def wsX0_rounding : List Cond := owX0_rounding ++ (wsX00)
theorem al_wsX0_rounding : wsX0_rounding.all goodWord = true := wa_a aloX0_rounding al_wsX00
theorem ti_wsX0_rounding : ∀ w ∈ wsX0_rounding, w ∈ lw_tbl := wi_a tioX0_rounding ti_wsX00
def owX0_goesAway : List Cond := [Cond.code yX0_goesAway cX0_goesAway 3 (some .boolean), Cond.methodLink RX0 132 yX0_rounding, Cond.instanceMethod yX0_rounding, Cond.selects RX0 yX0_rounding yX0_rounding, Cond.initialized RX0]
set_option maxRecDepth 20000 in
theorem aloX0_goesAway : owX0_goesAway.all goodWord = true := by decide +kernel
set_option maxRecDepth 20000 in
theorem tihX0_goesAway : Cond.code yX0_goesAway cX0_goesAway 3 (some .boolean) ∈ lw_tbl := List.mem_append_right _ (List.mem_of_getElem? (i := 231) rfl)
set_option maxRecDepth 20000 in
theorem tioX0_goesAway : ∀ w ∈ owX0_goesAway, w ∈ lw_tbl := List.forall_mem_cons.mpr ⟨tihX0_goesAway, by decide +kernel⟩
def wsX0_goesAway : List Cond := owX0_goesAway ++ (wsX0_rounding)
theorem al_wsX0_goesAway : wsX0_goesAway.all goodWord = true := wa_a aloX0_goesAway al_wsX0_rounding
theorem ti_wsX0_goesAway : ∀ w ∈ wsX0_goesAway, w ∈ lw_tbl := wi_a tioX0_goesAway ti_wsX0_rounding
def owX0_takesAbove : List Cond := [Cond.code yX0_takesAbove cX0_takesAbove 6 (some .boolean), Cond.methodLink RX0 132 yX0_rounding, Cond.instanceMethod yX0_rounding, Cond.selects RX0 yX0_rounding yX0_rounding, Cond.initialized RX0, Cond.methodLink RX0 136 yX0_goesAway, Cond.instanceMethod yX0_goesAway, Cond.selects RX0 yX0_goesAway yX0_goesAway, Cond.constantLong RX0 62 (-9223372036854775808)]
set_option maxRecDepth 20000 in
theorem aloX0_takesAbove : owX0_takesAbove.all goodWord = true := by decide +kernel
set_option maxRecDepth 20000 in
theorem tihX0_takesAbove : Cond.code yX0_takesAbove cX0_takesAbove 6 (some .boolean) ∈ lw_tbl := List.mem_append_right _ (List.mem_of_getElem? (i := 223) rfl)
set_option maxRecDepth 20000 in
theorem tioX0_takesAbove : ∀ w ∈ owX0_takesAbove, w ∈ lw_tbl := List.forall_mem_cons.mpr ⟨tihX0_takesAbove, by decide +kernel⟩
def wsX0_takesAbove : List Cond := owX0_takesAbove ++ (wsX0_rounding ++ (wsX0_goesAway))
theorem al_wsX0_takesAbove : wsX0_takesAbove.all goodWord = true := wa_a aloX0_takesAbove (wa_a al_wsX0_rounding al_wsX0_goesAway)
theorem ti_wsX0_takesAbove : ∀ w ∈ wsX0_takesAbove, w ∈ lw_tbl := wi_a tioX0_takesAbove (wi_a ti_wsX0_rounding ti_wsX0_goesAway)
def owX0_changeOf : List Cond := [Cond.code yX0_changeOf cX0_changeOf 3 (some .int)]
set_option maxRecDepth 20000 in
theorem aloX0_changeOf : owX0_changeOf.all goodWord = true := by decide +kernel
set_option maxRecDepth 20000 in
theorem tihX0_changeOf : Cond.code yX0_changeOf cX0_changeOf 3 (some .int) ∈ lw_tbl := List.mem_append_right _ (List.mem_of_getElem? (i := 234) rfl)
set_option maxRecDepth 20000 in
theorem tioX0_changeOf : ∀ w ∈ owX0_changeOf, w ∈ lw_tbl := List.forall_mem_cons.mpr ⟨tihX0_changeOf, by decide +kernel⟩
def wsX0_changeOf : List Cond := owX0_changeOf
theorem al_wsX0_changeOf : wsX0_changeOf.all goodWord = true := aloX0_changeOf
theorem ti_wsX0_changeOf : ∀ w ∈ wsX0_changeOf, w ∈ lw_tbl := tioX0_changeOf
def owX0_makeSmall : List Cond := [Cond.code yX0_makeSmall cX0_makeSmall 17 (some .int), Cond.methodLink RX0 149 yX0_digits, Cond.instanceMethod yX0_digits, Cond.selects RX0 yX0_digits yX0_digits, Cond.initialized RX0, Cond.methodLink RX0 152 yX0_wholePart, Cond.static yX0_wholePart, Cond.methodLink RX0 156 yX0_lostPart, Cond.static yX0_lostPart, Cond.methodLink RX0 159 yX0_takesAbove, Cond.instanceMethod yX0_takesAbove, Cond.selects RX0 yX0_takesAbove yX0_takesAbove, Cond.methodLink RX0 109 yX0_store, Cond.instanceMethod yX0_store, Cond.selects RX0 yX0_store yX0_store, Cond.methodLink RX0 163 yX0_changeOf, Cond.static yX0_changeOf, Cond.methodLink RX0 76 yX0_tell, Cond.instanceMethod yX0_tell, Cond.selects RX0 yX0_tell yX0_tell]
set_option maxRecDepth 20000 in
theorem aloX0_makeSmall : owX0_makeSmall.all goodWord = true := by decide +kernel
set_option maxRecDepth 20000 in
theorem tihX0_makeSmall : Cond.code yX0_makeSmall cX0_makeSmall 17 (some .int) ∈ lw_tbl := List.mem_append_right _ (List.mem_of_getElem? (i := 209) rfl)
set_option maxRecDepth 20000 in
theorem tioX0_makeSmall : ∀ w ∈ owX0_makeSmall, w ∈ lw_tbl := List.forall_mem_cons.mpr ⟨tihX0_makeSmall, by decide +kernel⟩
def wsX0_makeSmall : List Cond := owX0_makeSmall ++ (wsX0_digits ++ (wsX0_wholePart ++ (wsX0_lostPart ++ (wsX0_takesAbove ++ (wsX0_store ++ (wsX0_changeOf ++ (wsX0_tell)))))))
theorem al_wsX0_makeSmall : wsX0_makeSmall.all goodWord = true := wa_a aloX0_makeSmall (wa_a al_wsX0_digits (wa_a al_wsX0_wholePart (wa_a al_wsX0_lostPart (wa_a al_wsX0_takesAbove (wa_a al_wsX0_store (wa_a al_wsX0_changeOf al_wsX0_tell))))))
theorem ti_wsX0_makeSmall : ∀ w ∈ wsX0_makeSmall, w ∈ lw_tbl := wi_a tioX0_makeSmall (wi_a ti_wsX0_digits (wi_a ti_wsX0_wholePart (wi_a ti_wsX0_lostPart (wi_a ti_wsX0_takesAbove (wi_a ti_wsX0_store (wi_a ti_wsX0_changeOf ti_wsX0_tell))))))
def owX0_makeTooGreat : List Cond := [Cond.code yX0_makeTooGreat cX0_makeTooGreat 4 (some .int), Cond.methodLink RX0 132 yX0_rounding, Cond.instanceMethod yX0_rounding, Cond.selects RX0 yX0_rounding yX0_rounding, Cond.initialized RX0, Cond.methodLink RX0 136 yX0_goesAway, Cond.instanceMethod yX0_goesAway, Cond.selects RX0 yX0_goesAway yX0_goesAway, Cond.constantLong RX0 62 (-9223372036854775808), Cond.methodLink RX0 109 yX0_store, Cond.instanceMethod yX0_store, Cond.selects RX0 yX0_store yX0_store, Cond.methodLink RX0 76 yX0_tell, Cond.instanceMethod yX0_tell, Cond.selects RX0 yX0_tell yX0_tell, Cond.constantLong RX0 171 (-1), Cond.methodLink RX0 149 yX0_digits, Cond.instanceMethod yX0_digits, Cond.selects RX0 yX0_digits yX0_digits]
set_option maxRecDepth 20000 in
theorem aloX0_makeTooGreat : owX0_makeTooGreat.all goodWord = true := by decide +kernel
set_option maxRecDepth 20000 in
theorem tihX0_makeTooGreat : Cond.code yX0_makeTooGreat cX0_makeTooGreat 4 (some .int) ∈ lw_tbl := List.mem_append_right _ (List.mem_of_getElem? (i := 242) rfl)
set_option maxRecDepth 20000 in
theorem tioX0_makeTooGreat : ∀ w ∈ owX0_makeTooGreat, w ∈ lw_tbl := List.forall_mem_cons.mpr ⟨tihX0_makeTooGreat, by decide +kernel⟩
def wsX0_makeTooGreat : List Cond := owX0_makeTooGreat ++ (wsX0_rounding ++ (wsX0_goesAway ++ (wsX0_store ++ (wsX0_tell ++ (wsX0_digits)))))
theorem al_wsX0_makeTooGreat : wsX0_makeTooGreat.all goodWord = true := wa_a aloX0_makeTooGreat (wa_a al_wsX0_rounding (wa_a al_wsX0_goesAway (wa_a al_wsX0_store (wa_a al_wsX0_tell al_wsX0_digits))))
theorem ti_wsX0_makeTooGreat : ∀ w ∈ wsX0_makeTooGreat, w ∈ lw_tbl := wi_a tioX0_makeTooGreat (wi_a ti_wsX0_rounding (wi_a ti_wsX0_goesAway (wi_a ti_wsX0_store (wi_a ti_wsX0_tell ti_wsX0_digits))))
def owX0_makeRounded : List Cond := [Cond.code yX0_makeRounded cX0_makeRounded 18 (some .int), Cond.methodLink RX0 149 yX0_digits, Cond.instanceMethod yX0_digits, Cond.selects RX0 yX0_digits yX0_digits, Cond.initialized RX0, Cond.methodLink RX0 152 yX0_wholePart, Cond.static yX0_wholePart, Cond.methodLink RX0 156 yX0_lostPart, Cond.static yX0_lostPart, Cond.methodLink RX0 159 yX0_takesAbove, Cond.instanceMethod yX0_takesAbove, Cond.selects RX0 yX0_takesAbove yX0_takesAbove, Cond.constantLong RX0 62 (-9223372036854775808), Cond.methodLink RX0 140 yX0_isMasked, Cond.instanceMethod yX0_isMasked, Cond.selects RX0 yX0_isMasked yX0_isMasked, Cond.methodLink RX0 167 yX0_makeTooGreat, Cond.instanceMethod yX0_makeTooGreat, Cond.selects RX0 yX0_makeTooGreat yX0_makeTooGreat, Cond.methodLink RX0 109 yX0_store, Cond.instanceMethod yX0_store, Cond.selects RX0 yX0_store yX0_store, Cond.methodLink RX0 163 yX0_changeOf, Cond.static yX0_changeOf, Cond.methodLink RX0 76 yX0_tell, Cond.instanceMethod yX0_tell, Cond.selects RX0 yX0_tell yX0_tell]
set_option maxRecDepth 20000 in
theorem aloX0_makeRounded : owX0_makeRounded.all goodWord = true := by decide +kernel
set_option maxRecDepth 20000 in
theorem tihX0_makeRounded : Cond.code yX0_makeRounded cX0_makeRounded 18 (some .int) ∈ lw_tbl := List.mem_append_right _ (List.mem_of_getElem? (i := 238) rfl)
set_option maxRecDepth 20000 in
theorem tioX0_makeRounded : ∀ w ∈ owX0_makeRounded, w ∈ lw_tbl := List.forall_mem_cons.mpr ⟨tihX0_makeRounded, by decide +kernel⟩
def wsX0_makeRounded : List Cond := owX0_makeRounded ++ (wsX0_digits ++ (wsX0_wholePart ++ (wsX0_lostPart ++ (wsX0_takesAbove ++ (wsX0_isMasked ++ (wsX0_makeTooGreat ++ (wsX0_store ++ (wsX0_changeOf ++ (wsX0_tell)))))))))
theorem al_wsX0_makeRounded : wsX0_makeRounded.all goodWord = true := wa_a aloX0_makeRounded (wa_a al_wsX0_digits (wa_a al_wsX0_wholePart (wa_a al_wsX0_lostPart (wa_a al_wsX0_takesAbove (wa_a al_wsX0_isMasked (wa_a al_wsX0_makeTooGreat (wa_a al_wsX0_store (wa_a al_wsX0_changeOf al_wsX0_tell))))))))
theorem ti_wsX0_makeRounded : ∀ w ∈ wsX0_makeRounded, w ∈ lw_tbl := wi_a tioX0_makeRounded (wi_a ti_wsX0_digits (wi_a ti_wsX0_wholePart (wi_a ti_wsX0_lostPart (wi_a ti_wsX0_takesAbove (wi_a ti_wsX0_isMasked (wi_a ti_wsX0_makeTooGreat (wi_a ti_wsX0_store (wi_a ti_wsX0_changeOf ti_wsX0_tell))))))))
def owX0_makeSize : List Cond := [Cond.code yX0_makeSize cX0_makeSize 8 (some .int), Cond.methodLink RX0 109 yX0_store, Cond.instanceMethod yX0_store, Cond.selects RX0 yX0_store yX0_store, Cond.initialized RX0, Cond.methodLink RX0 76 yX0_tell, Cond.instanceMethod yX0_tell, Cond.selects RX0 yX0_tell yX0_tell, Cond.methodLink RX0 140 yX0_isMasked, Cond.instanceMethod yX0_isMasked, Cond.selects RX0 yX0_isMasked yX0_isMasked, Cond.methodLink RX0 143 yX0_makeSmall, Cond.instanceMethod yX0_makeSmall, Cond.selects RX0 yX0_makeSmall yX0_makeSmall, Cond.methodLink RX0 146 yX0_makeRounded, Cond.instanceMethod yX0_makeRounded, Cond.selects RX0 yX0_makeRounded yX0_makeRounded]
set_option maxRecDepth 20000 in
theorem aloX0_makeSize : owX0_makeSize.all goodWord = true := by decide +kernel
set_option maxRecDepth 20000 in
theorem tihX0_makeSize : Cond.code yX0_makeSize cX0_makeSize 8 (some .int) ∈ lw_tbl := List.mem_append_right _ (List.mem_of_getElem? (i := 192) rfl)
set_option maxRecDepth 20000 in
theorem tioX0_makeSize : ∀ w ∈ owX0_makeSize, w ∈ lw_tbl := List.forall_mem_cons.mpr ⟨tihX0_makeSize, by decide +kernel⟩
def wsX0_makeSize : List Cond := owX0_makeSize ++ (wsX0_store ++ (wsX0_tell ++ (wsX0_isMasked ++ (wsX0_makeSmall ++ (wsX0_makeRounded)))))
theorem al_wsX0_makeSize : wsX0_makeSize.all goodWord = true := wa_a aloX0_makeSize (wa_a al_wsX0_store (wa_a al_wsX0_tell (wa_a al_wsX0_isMasked (wa_a al_wsX0_makeSmall al_wsX0_makeRounded))))
theorem ti_wsX0_makeSize : ∀ w ∈ wsX0_makeSize, w ∈ lw_tbl := wi_a tioX0_makeSize (wi_a ti_wsX0_store (wi_a ti_wsX0_tell (wi_a ti_wsX0_isMasked (wi_a ti_wsX0_makeSmall ti_wsX0_makeRounded))))
def owX0_make : List Cond := [Cond.code yX0_make cX0_make 21 (some .int), Cond.methodLink RX0 34 yX0_isNoRegister, Cond.static yX0_isNoRegister, Cond.initialized RX0, Cond.classLink RX0 37 "java/lang/IndexOutOfBoundsException", Cond.initialized "java/lang/IndexOutOfBoundsException", Cond.constant RX0 58 (-33000), Cond.constant RX0 59 (33000), Cond.classLink RX0 27 "java/lang/IllegalArgumentException", Cond.initialized "java/lang/IllegalArgumentException", Cond.methodLink RX0 44 yX0_join, Cond.static yX0_join, Cond.constantLong RX0 62 (-9223372036854775808), Cond.methodLink RX0 52 yJL_numberOfLeadingZeros, Cond.static yJL_numberOfLeadingZeros, Cond.initialized RJL, Cond.methodLink RX0 64 yX0_shiftIn, Cond.static yX0_shiftIn, Cond.methodLink RX0 68 yX0_makeSize, Cond.instanceMethod yX0_makeSize, Cond.selects RX0 yX0_makeSize yX0_makeSize]
set_option maxRecDepth 20000 in
theorem aloX0_make : owX0_make.all goodWord = true := by decide +kernel
set_option maxRecDepth 20000 in
theorem tihX0_make : Cond.code yX0_make cX0_make 21 (some .int) ∈ lw_tbl := List.mem_append_right _ (List.mem_of_getElem? (i := 181) rfl)
set_option maxRecDepth 20000 in
theorem tioX0_make : ∀ w ∈ owX0_make, w ∈ lw_tbl := List.forall_mem_cons.mpr ⟨tihX0_make, by decide +kernel⟩
def wsX0_make : List Cond := owX0_make ++ (xT2 ++ (xT1 ++ (wsX0_isNoRegister ++ (wsX0_join ++ (wsJL_numberOfLeadingZeros ++ (wsX0_shiftIn ++ (wsX0_makeSize)))))))
theorem al_wsX0_make : wsX0_make.all goodWord = true := wa_a aloX0_make (wa_a al_xT2 (wa_a al_xT1 (wa_a al_wsX0_isNoRegister (wa_a al_wsX0_join (wa_a al_wsJL_numberOfLeadingZeros (wa_a al_wsX0_shiftIn al_wsX0_makeSize))))))
theorem ti_wsX0_make : ∀ w ∈ wsX0_make, w ∈ lw_tbl := wi_a tioX0_make (wi_a ti_xT2 (wi_a ti_xT1 (wi_a ti_wsX0_isNoRegister (wi_a ti_wsX0_join (wi_a ti_wsJL_numberOfLeadingZeros (wi_a ti_wsX0_shiftIn ti_wsX0_makeSize))))))
def owL_make : List Cond := [Cond.codeWith yL_make cL_make 11 (some .int) [(0, 22, 25, 19), (0, 22, 29, 13)], Cond.classLink RL 19 "java/lang/IndexOutOfBoundsException", Cond.classLink RL 13 "java/lang/IllegalArgumentException", Cond.methodLink RL 25 yX0_make, Cond.instanceMethod yX0_make, Cond.selects RX0 yX0_make yX0_make, Cond.initialized RX0]
set_option maxRecDepth 20000 in
theorem aloL_make : owL_make.all goodWord = true := by decide +kernel
set_option maxRecDepth 20000 in
theorem tihL_make : Cond.codeWith yL_make cL_make 11 (some .int) [(0, 22, 25, 19), (0, 22, 29, 13)] ∈ lw_tbl := List.mem_append_right _ (List.mem_of_getElem? (i := 177) rfl)
set_option maxRecDepth 20000 in
theorem tioL_make : ∀ w ∈ owL_make, w ∈ lw_tbl := List.forall_mem_cons.mpr ⟨tihL_make, by decide +kernel⟩
def wsL_make : List Cond := owL_make ++ (wsX0_make)
theorem al_wsL_make : wsL_make.all goodWord = true := wa_a aloL_make al_wsX0_make
theorem ti_wsL_make : ∀ w ∈ wsL_make, w ∈ lw_tbl := wi_a tioL_make ti_wsX0_make
def owX0_copy : List Cond := [Cond.code yX0_copy cX0_copy 3 none, Cond.fieldLink RX0 11 "TemporaryReals" "tops" "[I", Cond.fieldLink RX0 15 "TemporaryReals" "fractions" "[J"]
set_option maxRecDepth 20000 in
theorem aloX0_copy : owX0_copy.all goodWord = true := by decide +kernel
set_option maxRecDepth 20000 in
theorem tihX0_copy : Cond.code yX0_copy cX0_copy 3 none ∈ lw_tbl := List.mem_append_right _ (List.mem_of_getElem? (i := 254) rfl)
set_option maxRecDepth 20000 in
theorem tioX0_copy : ∀ w ∈ owX0_copy, w ∈ lw_tbl := List.forall_mem_cons.mpr ⟨tihX0_copy, by decide +kernel⟩
def wsX0_copy : List Cond := owX0_copy ++ (wsX00)
theorem al_wsX0_copy : wsX0_copy.all goodWord = true := wa_a aloX0_copy al_wsX00
theorem ti_wsX0_copy : ∀ w ∈ wsX0_copy, w ∈ lw_tbl := wi_a tioX0_copy ti_wsX00
def owX0_isNegative : List Cond := [Cond.code yX0_isNegative cX0_isNegative 2 (some .boolean), Cond.fieldLink RX0 11 "TemporaryReals" "tops" "[I", Cond.constant RX0 129 (32768)]
set_option maxRecDepth 20000 in
theorem aloX0_isNegative : owX0_isNegative.all goodWord = true := by decide +kernel
set_option maxRecDepth 20000 in
theorem tihX0_isNegative : Cond.code yX0_isNegative cX0_isNegative 2 (some .boolean) ∈ lw_tbl := List.mem_append_right _ (List.mem_of_getElem? (i := 261) rfl)
set_option maxRecDepth 20000 in
theorem tioX0_isNegative : ∀ w ∈ owX0_isNegative, w ∈ lw_tbl := List.forall_mem_cons.mpr ⟨tihX0_isNegative, by decide +kernel⟩
def wsX0_isNegative : List Cond := owX0_isNegative ++ (wsX00)
theorem al_wsX0_isNegative : wsX0_isNegative.all goodWord = true := wa_a aloX0_isNegative al_wsX00
theorem ti_wsX0_isNegative : ∀ w ∈ wsX0_isNegative, w ∈ lw_tbl := wi_a tioX0_isNegative ti_wsX00
def owX0_again : List Cond := [Cond.code yX0_again cX0_again 8 (some .int), Cond.methodLink RX0 34 yX0_isNoRegister, Cond.static yX0_isNoRegister, Cond.initialized RX0, Cond.classLink RX0 37 "java/lang/IndexOutOfBoundsException", Cond.initialized "java/lang/IndexOutOfBoundsException", Cond.methodLink RX0 48 yX0_kindOf, Cond.instanceMethod yX0_kindOf, Cond.selects RX0 yX0_kindOf yX0_kindOf, Cond.methodLink RX0 72 yX0_copy, Cond.instanceMethod yX0_copy, Cond.selects RX0 yX0_copy yX0_copy, Cond.methodLink RX0 76 yX0_tell, Cond.instanceMethod yX0_tell, Cond.selects RX0 yX0_tell yX0_tell, Cond.fieldLink RX0 15 "TemporaryReals" "fractions" "[J", Cond.methodLink RX0 52 yJL_numberOfLeadingZeros, Cond.static yJL_numberOfLeadingZeros, Cond.initialized RJL, Cond.methodLink RX0 80 yX0_powerOf, Cond.instanceMethod yX0_powerOf, Cond.selects RX0 yX0_powerOf yX0_powerOf, Cond.methodLink RX0 83 Lib.Math.max.name, Cond.static Lib.Math.max.name, Cond.initialized "java/lang/Math", Cond.code Lib.Math.max.name Lib.Math.max.code 2 (some .int), Cond.methodLink RX0 89 yX0_isNegative, Cond.instanceMethod yX0_isNegative, Cond.selects RX0 yX0_isNegative yX0_isNegative, Cond.methodLink RX0 64 yX0_shiftIn, Cond.static yX0_shiftIn, Cond.methodLink RX0 68 yX0_makeSize, Cond.instanceMethod yX0_makeSize, Cond.selects RX0 yX0_makeSize yX0_makeSize]
set_option maxRecDepth 20000 in
theorem aloX0_again : owX0_again.all goodWord = true := by decide +kernel
set_option maxRecDepth 20000 in
theorem tihX0_again : Cond.code yX0_again cX0_again 8 (some .int) ∈ lw_tbl := List.mem_append_right _ (List.mem_of_getElem? (i := 250) rfl)
set_option maxRecDepth 20000 in
theorem tioX0_again : ∀ w ∈ owX0_again, w ∈ lw_tbl := List.forall_mem_cons.mpr ⟨tihX0_again, by decide +kernel⟩
def wsX0_again : List Cond := owX0_again ++ (wsX00 ++ (xT1 ++ (wsX0_isNoRegister ++ (wsX0_kindOf ++ (wsX0_copy ++ (wsX0_tell ++ (wsJL_numberOfLeadingZeros ++ (wsX0_powerOf ++ (wsX0_isNegative ++ (wsX0_shiftIn ++ (wsX0_makeSize)))))))))))
theorem al_wsX0_again : wsX0_again.all goodWord = true := wa_a aloX0_again (wa_a al_wsX00 (wa_a al_xT1 (wa_a al_wsX0_isNoRegister (wa_a al_wsX0_kindOf (wa_a al_wsX0_copy (wa_a al_wsX0_tell (wa_a al_wsJL_numberOfLeadingZeros (wa_a al_wsX0_powerOf (wa_a al_wsX0_isNegative (wa_a al_wsX0_shiftIn al_wsX0_makeSize))))))))))
theorem ti_wsX0_again : ∀ w ∈ wsX0_again, w ∈ lw_tbl := wi_a tioX0_again (wi_a ti_wsX00 (wi_a ti_xT1 (wi_a ti_wsX0_isNoRegister (wi_a ti_wsX0_kindOf (wi_a ti_wsX0_copy (wi_a ti_wsX0_tell (wi_a ti_wsJL_numberOfLeadingZeros (wi_a ti_wsX0_powerOf (wi_a ti_wsX0_isNegative (wi_a ti_wsX0_shiftIn ti_wsX0_makeSize))))))))))
def owL_again : List Cond := [Cond.codeWith yL_again cL_again 5 (some .int) [(0, 10, 13, 19)], Cond.classLink RL 19 "java/lang/IndexOutOfBoundsException", Cond.methodLink RL 29 yX0_again, Cond.instanceMethod yX0_again, Cond.selects RX0 yX0_again yX0_again, Cond.initialized RX0]
set_option maxRecDepth 20000 in
theorem aloL_again : owL_again.all goodWord = true := by decide +kernel
set_option maxRecDepth 20000 in
theorem tihL_again : Cond.codeWith yL_again cL_again 5 (some .int) [(0, 10, 13, 19)] ∈ lw_tbl := List.mem_append_right _ (List.mem_of_getElem? (i := 246) rfl)
set_option maxRecDepth 20000 in
theorem tioL_again : ∀ w ∈ owL_again, w ∈ lw_tbl := List.forall_mem_cons.mpr ⟨tihL_again, by decide +kernel⟩
def wsL_again : List Cond := owL_again ++ (wsX0_again)
theorem al_wsL_again : wsL_again.all goodWord = true := wa_a aloL_again al_wsX0_again
theorem ti_wsL_again : ∀ w ∈ wsL_again, w ∈ lw_tbl := wi_a tioL_again ti_wsX0_again
def owX0_last : List Cond := [Cond.code yX0_last cX0_last 2 (some .int), Cond.fieldLink RX0 92 "TemporaryReals" "lastTold" "I", Cond.fieldLink RX0 95 "TemporaryReals" "lastK" "I", Cond.fieldLink RX0 98 "TemporaryReals" "lastChange" "I", Cond.classLink RX0 27 "java/lang/IllegalArgumentException", Cond.initialized "java/lang/IllegalArgumentException"]
set_option maxRecDepth 20000 in
theorem aloX0_last : owX0_last.all goodWord = true := by decide +kernel
set_option maxRecDepth 20000 in
theorem tihX0_last : Cond.code yX0_last cX0_last 2 (some .int) ∈ lw_tbl := List.mem_append_right _ (List.mem_of_getElem? (i := 268) rfl)
set_option maxRecDepth 20000 in
theorem tioX0_last : ∀ w ∈ owX0_last, w ∈ lw_tbl := List.forall_mem_cons.mpr ⟨tihX0_last, by decide +kernel⟩
def wsX0_last : List Cond := owX0_last ++ (wsX00 ++ (xT2))
theorem al_wsX0_last : wsX0_last.all goodWord = true := wa_a aloX0_last (wa_a al_wsX00 al_xT2)
theorem ti_wsX0_last : ∀ w ∈ wsX0_last, w ∈ lw_tbl := wi_a tioX0_last (wi_a ti_wsX00 ti_xT2)
def owL_last : List Cond := [Cond.codeWith yL_last cL_last 4 (some .int) [(0, 9, 12, 13)], Cond.classLink RL 13 "java/lang/IllegalArgumentException", Cond.methodLink RL 32 yX0_last, Cond.instanceMethod yX0_last, Cond.selects RX0 yX0_last yX0_last, Cond.initialized RX0]
set_option maxRecDepth 20000 in
theorem aloL_last : owL_last.all goodWord = true := by decide +kernel
set_option maxRecDepth 20000 in
theorem tihL_last : Cond.codeWith yL_last cL_last 4 (some .int) [(0, 9, 12, 13)] ∈ lw_tbl := List.mem_append_right _ (List.mem_of_getElem? (i := 264) rfl)
set_option maxRecDepth 20000 in
theorem tioL_last : ∀ w ∈ owL_last, w ∈ lw_tbl := List.forall_mem_cons.mpr ⟨tihL_last, by decide +kernel⟩
def wsL_last : List Cond := owL_last ++ (wsX0_last)
theorem al_wsL_last : wsL_last.all goodWord = true := wa_a aloL_last al_wsX0_last
theorem ti_wsL_last : ∀ w ∈ wsL_last, w ∈ lw_tbl := wi_a tioL_last ti_wsX0_last
def owX0_signum : List Cond := [Cond.code yX0_signum cX0_signum 2 (some .int), Cond.methodLink RX0 48 yX0_kindOf, Cond.instanceMethod yX0_kindOf, Cond.selects RX0 yX0_kindOf yX0_kindOf, Cond.initialized RX0, Cond.fieldLink RX0 15 "TemporaryReals" "fractions" "[J", Cond.methodLink RX0 89 yX0_isNegative, Cond.instanceMethod yX0_isNegative, Cond.selects RX0 yX0_isNegative yX0_isNegative]
set_option maxRecDepth 20000 in
theorem aloX0_signum : owX0_signum.all goodWord = true := by decide +kernel
set_option maxRecDepth 20000 in
theorem tihX0_signum : Cond.code yX0_signum cX0_signum 2 (some .int) ∈ lw_tbl := List.mem_append_right _ (List.mem_of_getElem? (i := 280) rfl)
set_option maxRecDepth 20000 in
theorem tioX0_signum : ∀ w ∈ owX0_signum, w ∈ lw_tbl := List.forall_mem_cons.mpr ⟨tihX0_signum, by decide +kernel⟩
def wsX0_signum : List Cond := owX0_signum ++ (wsX00 ++ (wsX0_kindOf ++ (wsX0_isNegative)))
theorem al_wsX0_signum : wsX0_signum.all goodWord = true := wa_a aloX0_signum (wa_a al_wsX00 (wa_a al_wsX0_kindOf al_wsX0_isNegative))
theorem ti_wsX0_signum : ∀ w ∈ wsX0_signum, w ∈ lw_tbl := wi_a tioX0_signum (wi_a ti_wsX00 (wi_a ti_wsX0_kindOf ti_wsX0_isNegative))
def owX0_plainShift : List Cond := [Cond.code yX0_plainShift cX0_plainShift 2 (some .int), Cond.fieldLink RX0 15 "TemporaryReals" "fractions" "[J", Cond.methodLink RX0 52 yJL_numberOfLeadingZeros, Cond.static yJL_numberOfLeadingZeros, Cond.initialized RJL, Cond.methodLink RX0 80 yX0_powerOf, Cond.instanceMethod yX0_powerOf, Cond.selects RX0 yX0_powerOf yX0_powerOf, Cond.initialized RX0, Cond.methodLink RX0 83 Lib.Math.max.name, Cond.static Lib.Math.max.name, Cond.initialized "java/lang/Math", Cond.code Lib.Math.max.name Lib.Math.max.code 2 (some .int), Cond.methodLink RX0 180 Lib.Math.min.name, Cond.static Lib.Math.min.name, Cond.code Lib.Math.min.name Lib.Math.min.code 2 (some .int)]
set_option maxRecDepth 20000 in
theorem aloX0_plainShift : owX0_plainShift.all goodWord = true := by decide +kernel
set_option maxRecDepth 20000 in
theorem tihX0_plainShift : Cond.code yX0_plainShift cX0_plainShift 2 (some .int) ∈ lw_tbl := List.mem_append_right _ (List.mem_of_getElem? (i := 296) rfl)
set_option maxRecDepth 20000 in
theorem tioX0_plainShift : ∀ w ∈ owX0_plainShift, w ∈ lw_tbl := List.forall_mem_cons.mpr ⟨tihX0_plainShift, by decide +kernel⟩
def wsX0_plainShift : List Cond := owX0_plainShift ++ (wsX00 ++ (wsJL_numberOfLeadingZeros ++ (wsX0_powerOf)))
theorem al_wsX0_plainShift : wsX0_plainShift.all goodWord = true := wa_a aloX0_plainShift (wa_a al_wsX00 (wa_a al_wsJL_numberOfLeadingZeros al_wsX0_powerOf))
theorem ti_wsX0_plainShift : ∀ w ∈ wsX0_plainShift, w ∈ lw_tbl := wi_a tioX0_plainShift (wi_a ti_wsX00 (wi_a ti_wsJL_numberOfLeadingZeros ti_wsX0_powerOf))
def owX0_plainFraction : List Cond := [Cond.code yX0_plainFraction cX0_plainFraction 2 (some .long), Cond.methodLink RX0 80 yX0_powerOf, Cond.instanceMethod yX0_powerOf, Cond.selects RX0 yX0_powerOf yX0_powerOf, Cond.initialized RX0, Cond.constantLong RX0 62 (-9223372036854775808), Cond.fieldLink RX0 15 "TemporaryReals" "fractions" "[J", Cond.methodLink RX0 183 yX0_plainShift, Cond.instanceMethod yX0_plainShift, Cond.selects RX0 yX0_plainShift yX0_plainShift, Cond.methodLink RX0 64 yX0_shiftIn, Cond.static yX0_shiftIn]
set_option maxRecDepth 20000 in
theorem aloX0_plainFraction : owX0_plainFraction.all goodWord = true := by decide +kernel
set_option maxRecDepth 20000 in
theorem tihX0_plainFraction : Cond.code yX0_plainFraction cX0_plainFraction 2 (some .long) ∈ lw_tbl := List.mem_append_right _ (List.mem_of_getElem? (i := 292) rfl)
set_option maxRecDepth 20000 in
theorem tioX0_plainFraction : ∀ w ∈ owX0_plainFraction, w ∈ lw_tbl := List.forall_mem_cons.mpr ⟨tihX0_plainFraction, by decide +kernel⟩
def wsX0_plainFraction : List Cond := owX0_plainFraction ++ (wsX00 ++ (wsX0_powerOf ++ (wsX0_plainShift ++ (wsX0_shiftIn))))
theorem al_wsX0_plainFraction : wsX0_plainFraction.all goodWord = true := wa_a aloX0_plainFraction (wa_a al_wsX00 (wa_a al_wsX0_powerOf (wa_a al_wsX0_plainShift al_wsX0_shiftIn)))
theorem ti_wsX0_plainFraction : ∀ w ∈ wsX0_plainFraction, w ∈ lw_tbl := wi_a tioX0_plainFraction (wi_a ti_wsX00 (wi_a ti_wsX0_powerOf (wi_a ti_wsX0_plainShift ti_wsX0_shiftIn)))
def owX0_plainPower : List Cond := [Cond.code yX0_plainPower cX0_plainPower 2 (some .int), Cond.methodLink RX0 80 yX0_powerOf, Cond.instanceMethod yX0_powerOf, Cond.selects RX0 yX0_powerOf yX0_powerOf, Cond.initialized RX0, Cond.methodLink RX0 116 yX0_plainFraction, Cond.instanceMethod yX0_plainFraction, Cond.selects RX0 yX0_plainFraction yX0_plainFraction, Cond.methodLink RX0 83 Lib.Math.max.name, Cond.static Lib.Math.max.name, Cond.initialized "java/lang/Math", Cond.code Lib.Math.max.name Lib.Math.max.code 2 (some .int), Cond.methodLink RX0 183 yX0_plainShift, Cond.instanceMethod yX0_plainShift, Cond.selects RX0 yX0_plainShift yX0_plainShift]
set_option maxRecDepth 20000 in
theorem aloX0_plainPower : owX0_plainPower.all goodWord = true := by decide +kernel
set_option maxRecDepth 20000 in
theorem tihX0_plainPower : Cond.code yX0_plainPower cX0_plainPower 2 (some .int) ∈ lw_tbl := List.mem_append_right _ (List.mem_of_getElem? (i := 288) rfl)
set_option maxRecDepth 20000 in
theorem tioX0_plainPower : ∀ w ∈ owX0_plainPower, w ∈ lw_tbl := List.forall_mem_cons.mpr ⟨tihX0_plainPower, by decide +kernel⟩
def wsX0_plainPower : List Cond := owX0_plainPower ++ (wsX0_powerOf ++ (wsX0_plainFraction ++ (wsX0_plainShift)))
theorem al_wsX0_plainPower : wsX0_plainPower.all goodWord = true := wa_a aloX0_plainPower (wa_a al_wsX0_powerOf (wa_a al_wsX0_plainFraction al_wsX0_plainShift))
theorem ti_wsX0_plainPower : ∀ w ∈ wsX0_plainPower, w ∈ lw_tbl := wi_a tioX0_plainPower (wi_a ti_wsX0_powerOf (wi_a ti_wsX0_plainFraction ti_wsX0_plainShift))
def owJL_compare : List Cond := [Cond.code yJL_compare cJL_compare 4 (some .int)]
set_option maxRecDepth 20000 in
theorem aloJL_compare : owJL_compare.all goodWord = true := by decide +kernel
set_option maxRecDepth 20000 in
theorem tihJL_compare : Cond.code yJL_compare cJL_compare 4 (some .int) ∈ lw_tbl := List.mem_append_right _ (List.mem_of_getElem? (i := 306) rfl)
set_option maxRecDepth 20000 in
theorem tioJL_compare : ∀ w ∈ owJL_compare, w ∈ lw_tbl := List.forall_mem_cons.mpr ⟨tihJL_compare, by decide +kernel⟩
def wsJL_compare : List Cond := owJL_compare
theorem al_wsJL_compare : wsJL_compare.all goodWord = true := aloJL_compare
theorem ti_wsJL_compare : ∀ w ∈ wsJL_compare, w ∈ lw_tbl := tioJL_compare
def owJL_compareUnsigned : List Cond := [Cond.code yJL_compareUnsigned cJL_compareUnsigned 4 (some .int), Cond.constantLong RJL 168 (-9223372036854775808), Cond.methodLink RJL 302 yJL_compare, Cond.static yJL_compare, Cond.initialized RJL]
set_option maxRecDepth 20000 in
theorem aloJL_compareUnsigned : owJL_compareUnsigned.all goodWord = true := by decide +kernel
set_option maxRecDepth 20000 in
theorem tihJL_compareUnsigned : Cond.code yJL_compareUnsigned cJL_compareUnsigned 4 (some .int) ∈ lw_tbl := List.mem_append_right _ (List.mem_of_getElem? (i := 302) rfl)
set_option maxRecDepth 20000 in
theorem tioJL_compareUnsigned : ∀ w ∈ owJL_compareUnsigned, w ∈ lw_tbl := List.forall_mem_cons.mpr ⟨tihJL_compareUnsigned, by decide +kernel⟩
def wsJL_compareUnsigned : List Cond := owJL_compareUnsigned ++ (wsJL_compare)
theorem al_wsJL_compareUnsigned : wsJL_compareUnsigned.all goodWord = true := wa_a aloJL_compareUnsigned al_wsJL_compare
theorem ti_wsJL_compareUnsigned : ∀ w ∈ wsJL_compareUnsigned, w ∈ lw_tbl := wi_a tioJL_compareUnsigned ti_wsJL_compare
def owJI_signum : List Cond := [Cond.code yJI_signum cJI_signum 1 (some .int)]
set_option maxRecDepth 20000 in
theorem aloJI_signum : owJI_signum.all goodWord = true := by decide +kernel
set_option maxRecDepth 20000 in
theorem tihJI_signum : Cond.code yJI_signum cJI_signum 1 (some .int) ∈ lw_tbl := List.mem_append_right _ (List.mem_of_getElem? (i := 309) rfl)
set_option maxRecDepth 20000 in
theorem tioJI_signum : ∀ w ∈ owJI_signum, w ∈ lw_tbl := List.forall_mem_cons.mpr ⟨tihJI_signum, by decide +kernel⟩
def wsJI_signum : List Cond := owJI_signum
theorem al_wsJI_signum : wsJI_signum.all goodWord = true := aloJI_signum
theorem ti_wsJI_signum : ∀ w ∈ wsJI_signum, w ∈ lw_tbl := tioJI_signum
def owX0_compareSizes : List Cond := [Cond.code yX0_compareSizes cX0_compareSizes 5 (some .int), Cond.methodLink RX0 113 yX0_plainPower, Cond.instanceMethod yX0_plainPower, Cond.selects RX0 yX0_plainPower yX0_plainPower, Cond.initialized RX0, Cond.methodLink RX0 116 yX0_plainFraction, Cond.instanceMethod yX0_plainFraction, Cond.selects RX0 yX0_plainFraction yX0_plainFraction, Cond.methodLink RX0 173 yJL_compareUnsigned, Cond.static yJL_compareUnsigned, Cond.initialized RJL, Cond.methodLink RX0 177 yJI_signum, Cond.static yJI_signum, Cond.initialized RJI]
set_option maxRecDepth 20000 in
theorem aloX0_compareSizes : owX0_compareSizes.all goodWord = true := by decide +kernel
set_option maxRecDepth 20000 in
theorem tihX0_compareSizes : Cond.code yX0_compareSizes cX0_compareSizes 5 (some .int) ∈ lw_tbl := List.mem_append_right _ (List.mem_of_getElem? (i := 284) rfl)
set_option maxRecDepth 20000 in
theorem tioX0_compareSizes : ∀ w ∈ owX0_compareSizes, w ∈ lw_tbl := List.forall_mem_cons.mpr ⟨tihX0_compareSizes, by decide +kernel⟩
def wsX0_compareSizes : List Cond := owX0_compareSizes ++ (wsX0_plainPower ++ (wsX0_plainFraction ++ (wsJL_compareUnsigned ++ (wsJI_signum))))
theorem al_wsX0_compareSizes : wsX0_compareSizes.all goodWord = true := wa_a aloX0_compareSizes (wa_a al_wsX0_plainPower (wa_a al_wsX0_plainFraction (wa_a al_wsJL_compareUnsigned al_wsJI_signum)))
theorem ti_wsX0_compareSizes : ∀ w ∈ wsX0_compareSizes, w ∈ lw_tbl := wi_a tioX0_compareSizes (wi_a ti_wsX0_plainPower (wi_a ti_wsX0_plainFraction (wi_a ti_wsJL_compareUnsigned ti_wsJI_signum)))
def owX0_compare : List Cond := [Cond.code yX0_compare cX0_compare 5 (some .int), Cond.methodLink RX0 34 yX0_isNoRegister, Cond.static yX0_isNoRegister, Cond.initialized RX0, Cond.classLink RX0 37 "java/lang/IndexOutOfBoundsException", Cond.initialized "java/lang/IndexOutOfBoundsException", Cond.methodLink RX0 48 yX0_kindOf, Cond.instanceMethod yX0_kindOf, Cond.selects RX0 yX0_kindOf yX0_kindOf, Cond.methodLink RX0 103 yX0_signum, Cond.instanceMethod yX0_signum, Cond.selects RX0 yX0_signum yX0_signum, Cond.methodLink RX0 106 yX0_compareSizes, Cond.instanceMethod yX0_compareSizes, Cond.selects RX0 yX0_compareSizes yX0_compareSizes]
set_option maxRecDepth 20000 in
theorem aloX0_compare : owX0_compare.all goodWord = true := by decide +kernel
set_option maxRecDepth 20000 in
theorem tihX0_compare : Cond.code yX0_compare cX0_compare 5 (some .int) ∈ lw_tbl := List.mem_append_right _ (List.mem_of_getElem? (i := 276) rfl)
set_option maxRecDepth 20000 in
theorem tioX0_compare : ∀ w ∈ owX0_compare, w ∈ lw_tbl := List.forall_mem_cons.mpr ⟨tihX0_compare, by decide +kernel⟩
def wsX0_compare : List Cond := owX0_compare ++ (xT1 ++ (wsX0_isNoRegister ++ (wsX0_kindOf ++ (wsX0_signum ++ (wsX0_compareSizes)))))
theorem al_wsX0_compare : wsX0_compare.all goodWord = true := wa_a aloX0_compare (wa_a al_xT1 (wa_a al_wsX0_isNoRegister (wa_a al_wsX0_kindOf (wa_a al_wsX0_signum al_wsX0_compareSizes))))
theorem ti_wsX0_compare : ∀ w ∈ wsX0_compare, w ∈ lw_tbl := wi_a tioX0_compare (wi_a ti_xT1 (wi_a ti_wsX0_isNoRegister (wi_a ti_wsX0_kindOf (wi_a ti_wsX0_signum ti_wsX0_compareSizes))))
def owL_compare : List Cond := [Cond.codeWith yL_compare cL_compare 5 (some .int) [(0, 10, 13, 19)], Cond.classLink RL 19 "java/lang/IndexOutOfBoundsException", Cond.methodLink RL 36 yX0_compare, Cond.instanceMethod yX0_compare, Cond.selects RX0 yX0_compare yX0_compare, Cond.initialized RX0]
set_option maxRecDepth 20000 in
theorem aloL_compare : owL_compare.all goodWord = true := by decide +kernel
set_option maxRecDepth 20000 in
theorem tihL_compare : Cond.codeWith yL_compare cL_compare 5 (some .int) [(0, 10, 13, 19)] ∈ lw_tbl := List.mem_append_right _ (List.mem_of_getElem? (i := 272) rfl)
set_option maxRecDepth 20000 in
theorem tioL_compare : ∀ w ∈ owL_compare, w ∈ lw_tbl := List.forall_mem_cons.mpr ⟨tihL_compare, by decide +kernel⟩
def wsL_compare : List Cond := owL_compare ++ (wsX0_compare)
theorem al_wsL_compare : wsL_compare.all goodWord = true := wa_a aloL_compare al_wsX0_compare
theorem ti_wsL_compare : ∀ w ∈ wsL_compare, w ∈ lw_tbl := wi_a tioL_compare ti_wsX0_compare
def owX0_storeNextGreater : List Cond := [Cond.code yX0_storeNextGreater cX0_storeNextGreater 8 none, Cond.constantLong RX0 171 (-1), Cond.constantLong RX0 62 (-9223372036854775808), Cond.methodLink RX0 109 yX0_store, Cond.instanceMethod yX0_store, Cond.selects RX0 yX0_store yX0_store, Cond.initialized RX0, Cond.methodLink RX0 83 Lib.Math.max.name, Cond.static Lib.Math.max.name, Cond.initialized "java/lang/Math", Cond.code Lib.Math.max.name Lib.Math.max.code 2 (some .int)]
set_option maxRecDepth 20000 in
theorem aloX0_storeNextGreater : owX0_storeNextGreater.all goodWord = true := by decide +kernel
set_option maxRecDepth 20000 in
theorem tihX0_storeNextGreater : Cond.code yX0_storeNextGreater cX0_storeNextGreater 8 none ∈ lw_tbl := List.mem_append_right _ (List.mem_of_getElem? (i := 320) rfl)
set_option maxRecDepth 20000 in
theorem tioX0_storeNextGreater : ∀ w ∈ owX0_storeNextGreater, w ∈ lw_tbl := List.forall_mem_cons.mpr ⟨tihX0_storeNextGreater, by decide +kernel⟩
def wsX0_storeNextGreater : List Cond := owX0_storeNextGreater ++ (wsX0_store)
theorem al_wsX0_storeNextGreater : wsX0_storeNextGreater.all goodWord = true := wa_a aloX0_storeNextGreater al_wsX0_store
theorem ti_wsX0_storeNextGreater : ∀ w ∈ wsX0_storeNextGreater, w ∈ lw_tbl := wi_a tioX0_storeNextGreater ti_wsX0_store
def owX0_storeNextLesser : List Cond := [Cond.code yX0_storeNextLesser cX0_storeNextLesser 8 none, Cond.constantLong RX0 62 (-9223372036854775808), Cond.constantLong RX0 171 (-1), Cond.methodLink RX0 109 yX0_store, Cond.instanceMethod yX0_store, Cond.selects RX0 yX0_store yX0_store, Cond.initialized RX0]
set_option maxRecDepth 20000 in
theorem aloX0_storeNextLesser : owX0_storeNextLesser.all goodWord = true := by decide +kernel
set_option maxRecDepth 20000 in
theorem tihX0_storeNextLesser : Cond.code yX0_storeNextLesser cX0_storeNextLesser 8 none ∈ lw_tbl := List.mem_append_right _ (List.mem_of_getElem? (i := 324) rfl)
set_option maxRecDepth 20000 in
theorem tioX0_storeNextLesser : ∀ w ∈ owX0_storeNextLesser, w ∈ lw_tbl := List.forall_mem_cons.mpr ⟨tihX0_storeNextLesser, by decide +kernel⟩
def wsX0_storeNextLesser : List Cond := owX0_storeNextLesser ++ (wsX0_store)
theorem al_wsX0_storeNextLesser : wsX0_storeNextLesser.all goodWord = true := wa_a aloX0_storeNextLesser al_wsX0_store
theorem ti_wsX0_storeNextLesser : ∀ w ∈ wsX0_storeNextLesser, w ∈ lw_tbl := wi_a tioX0_storeNextLesser ti_wsX0_store
def owX0_neighbour : List Cond := [Cond.code yX0_neighbour cX0_neighbour 7 none, Cond.methodLink RX0 34 yX0_isNoRegister, Cond.static yX0_isNoRegister, Cond.initialized RX0, Cond.classLink RX0 37 "java/lang/IndexOutOfBoundsException", Cond.initialized "java/lang/IndexOutOfBoundsException", Cond.methodLink RX0 48 yX0_kindOf, Cond.instanceMethod yX0_kindOf, Cond.selects RX0 yX0_kindOf yX0_kindOf, Cond.methodLink RX0 89 yX0_isNegative, Cond.instanceMethod yX0_isNegative, Cond.selects RX0 yX0_isNegative yX0_isNegative, Cond.methodLink RX0 72 yX0_copy, Cond.instanceMethod yX0_copy, Cond.selects RX0 yX0_copy yX0_copy, Cond.methodLink RX0 103 yX0_signum, Cond.instanceMethod yX0_signum, Cond.selects RX0 yX0_signum yX0_signum, Cond.methodLink RX0 109 yX0_store, Cond.instanceMethod yX0_store, Cond.selects RX0 yX0_store yX0_store, Cond.methodLink RX0 113 yX0_plainPower, Cond.instanceMethod yX0_plainPower, Cond.selects RX0 yX0_plainPower yX0_plainPower, Cond.methodLink RX0 116 yX0_plainFraction, Cond.instanceMethod yX0_plainFraction, Cond.selects RX0 yX0_plainFraction yX0_plainFraction, Cond.methodLink RX0 120 yX0_storeNextGreater, Cond.instanceMethod yX0_storeNextGreater, Cond.selects RX0 yX0_storeNextGreater yX0_storeNextGreater, Cond.methodLink RX0 123 yX0_storeNextLesser, Cond.instanceMethod yX0_storeNextLesser, Cond.selects RX0 yX0_storeNextLesser yX0_storeNextLesser]
set_option maxRecDepth 20000 in
theorem aloX0_neighbour : owX0_neighbour.all goodWord = true := by decide +kernel
set_option maxRecDepth 20000 in
theorem tihX0_neighbour : Cond.code yX0_neighbour cX0_neighbour 7 none ∈ lw_tbl := List.mem_append_right _ (List.mem_of_getElem? (i := 316) rfl)
set_option maxRecDepth 20000 in
theorem tioX0_neighbour : ∀ w ∈ owX0_neighbour, w ∈ lw_tbl := List.forall_mem_cons.mpr ⟨tihX0_neighbour, by decide +kernel⟩
def wsX0_neighbour : List Cond := owX0_neighbour ++ (xT1 ++ (wsX0_isNoRegister ++ (wsX0_kindOf ++ (wsX0_isNegative ++ (wsX0_copy ++ (wsX0_signum ++ (wsX0_store ++ (wsX0_plainPower ++ (wsX0_plainFraction ++ (wsX0_storeNextGreater ++ (wsX0_storeNextLesser)))))))))))
theorem al_wsX0_neighbour : wsX0_neighbour.all goodWord = true := wa_a aloX0_neighbour (wa_a al_xT1 (wa_a al_wsX0_isNoRegister (wa_a al_wsX0_kindOf (wa_a al_wsX0_isNegative (wa_a al_wsX0_copy (wa_a al_wsX0_signum (wa_a al_wsX0_store (wa_a al_wsX0_plainPower (wa_a al_wsX0_plainFraction (wa_a al_wsX0_storeNextGreater al_wsX0_storeNextLesser))))))))))
theorem ti_wsX0_neighbour : ∀ w ∈ wsX0_neighbour, w ∈ lw_tbl := wi_a tioX0_neighbour (wi_a ti_xT1 (wi_a ti_wsX0_isNoRegister (wi_a ti_wsX0_kindOf (wi_a ti_wsX0_isNegative (wi_a ti_wsX0_copy (wi_a ti_wsX0_signum (wi_a ti_wsX0_store (wi_a ti_wsX0_plainPower (wi_a ti_wsX0_plainFraction (wi_a ti_wsX0_storeNextGreater ti_wsX0_storeNextLesser))))))))))
def owL_neighbour : List Cond := [Cond.codeWith yL_neighbour cL_neighbour 5 (some .int) [(0, 7, 10, 19)], Cond.classLink RL 19 "java/lang/IndexOutOfBoundsException", Cond.methodLink RL 39 yX0_neighbour, Cond.instanceMethod yX0_neighbour, Cond.selects RX0 yX0_neighbour yX0_neighbour, Cond.initialized RX0]
set_option maxRecDepth 20000 in
theorem aloL_neighbour : owL_neighbour.all goodWord = true := by decide +kernel
set_option maxRecDepth 20000 in
theorem tihL_neighbour : Cond.codeWith yL_neighbour cL_neighbour 5 (some .int) [(0, 7, 10, 19)] ∈ lw_tbl := List.mem_append_right _ (List.mem_of_getElem? (i := 312) rfl)
set_option maxRecDepth 20000 in
theorem tioL_neighbour : ∀ w ∈ owL_neighbour, w ∈ lw_tbl := List.forall_mem_cons.mpr ⟨tihL_neighbour, by decide +kernel⟩
def wsL_neighbour : List Cond := owL_neighbour ++ (wsX0_neighbour)
theorem al_wsL_neighbour : wsL_neighbour.all goodWord = true := wa_a aloL_neighbour al_wsX0_neighbour
theorem ti_wsL_neighbour : ∀ w ∈ wsL_neighbour, w ∈ lw_tbl := wi_a tioL_neighbour ti_wsX0_neighbour
def owX1_init : List Cond := [Cond.code yX1_init cX1_init 1 none, Cond.methodLink RX1 1 objectInit, Cond.instanceMethod objectInit, Cond.code objectInit ⟨#[0xb1]⟩ 1 none, Cond.fieldLink RX1 7 "TemporaryRealsModel" "control" "I", Cond.arrayClass .int, Cond.fieldLink RX1 13 "TemporaryRealsModel" "top" "[I", Cond.arrayClass .long, Cond.fieldLink RX1 17 "TemporaryRealsModel" "fraction" "[J", Cond.fieldLink RX1 21 "TemporaryRealsModel" "bits" "[I"]
set_option maxRecDepth 20000 in
theorem aloX1_init : owX1_init.all goodWord = true := by decide +kernel
set_option maxRecDepth 20000 in
theorem tihX1_init : Cond.code yX1_init cX1_init 1 none ∈ lw_tbl := List.mem_append_right _ (List.mem_of_getElem? (i := 329) rfl)
set_option maxRecDepth 20000 in
theorem tioX1_init : ∀ w ∈ owX1_init, w ∈ lw_tbl := List.forall_mem_cons.mpr ⟨tihX1_init, by decide +kernel⟩
def wsX1_init : List Cond := owX1_init ++ (wsX10)
theorem al_wsX1_init : wsX1_init.all goodWord = true := wa_a aloX1_init al_wsX10
theorem ti_wsX1_init : ∀ w ∈ wsX1_init, w ∈ lw_tbl := wi_a tioX1_init ti_wsX10
def owX1_thrown : List Cond := [Cond.code yX1_thrown cX1_thrown 1 (some .int), Cond.fieldLink RX1 24 "TemporaryRealsModel" "code" "I"]
set_option maxRecDepth 20000 in
theorem aloX1_thrown : owX1_thrown.all goodWord = true := by decide +kernel
set_option maxRecDepth 20000 in
theorem tihX1_thrown : Cond.code yX1_thrown cX1_thrown 1 (some .int) ∈ lw_tbl := List.mem_append_right _ (List.mem_of_getElem? (i := 380) rfl)
set_option maxRecDepth 20000 in
theorem tioX1_thrown : ∀ w ∈ owX1_thrown, w ∈ lw_tbl := List.forall_mem_cons.mpr ⟨tihX1_thrown, by decide +kernel⟩
def wsX1_thrown : List Cond := owX1_thrown ++ (wsX10)
theorem al_wsX1_thrown : wsX1_thrown.all goodWord = true := wa_a aloX1_thrown al_wsX10
theorem ti_wsX1_thrown : ∀ w ∈ wsX1_thrown, w ∈ lw_tbl := wi_a tioX1_thrown ti_wsX10
def owX1_control : List Cond := [Cond.code yX1_control cX1_control 2 none, Cond.constant RX1 27 (65535), Cond.fieldLink RX1 24 "TemporaryRealsModel" "code" "I", Cond.fieldLink RX1 7 "TemporaryRealsModel" "control" "I"]
set_option maxRecDepth 20000 in
theorem aloX1_control : owX1_control.all goodWord = true := by decide +kernel
set_option maxRecDepth 20000 in
theorem tihX1_control : Cond.code yX1_control cX1_control 2 none ∈ lw_tbl := List.mem_append_right _ (List.mem_of_getElem? (i := 384) rfl)
set_option maxRecDepth 20000 in
theorem tioX1_control : ∀ w ∈ owX1_control, w ∈ lw_tbl := List.forall_mem_cons.mpr ⟨tihX1_control, by decide +kernel⟩
def wsX1_control : List Cond := owX1_control ++ (wsX10)
theorem al_wsX1_control : wsX1_control.all goodWord = true := wa_a aloX1_control al_wsX10
theorem ti_wsX1_control : ∀ w ∈ wsX1_control, w ∈ lw_tbl := wi_a tioX1_control ti_wsX10
def owX1_none : List Cond := [Cond.code yX1_none cX1_none 1 (some .boolean)]
set_option maxRecDepth 20000 in
theorem aloX1_none : owX1_none.all goodWord = true := by decide +kernel
set_option maxRecDepth 20000 in
theorem tihX1_none : Cond.code yX1_none cX1_none 1 (some .boolean) ∈ lw_tbl := List.mem_append_right _ (List.mem_of_getElem? (i := 392) rfl)
set_option maxRecDepth 20000 in
theorem tioX1_none : ∀ w ∈ owX1_none, w ∈ lw_tbl := List.forall_mem_cons.mpr ⟨tihX1_none, by decide +kernel⟩
def wsX1_none : List Cond := owX1_none
theorem al_wsX1_none : wsX1_none.all goodWord = true := aloX1_none
theorem ti_wsX1_none : ∀ w ∈ wsX1_none, w ∈ lw_tbl := tioX1_none
def owX1_set : List Cond := [Cond.code yX1_set cX1_set 5 none, Cond.methodLink RX1 28 yX1_none, Cond.static yX1_none, Cond.initialized RX1, Cond.constant RX1 27 (65535), Cond.fieldLink RX1 24 "TemporaryRealsModel" "code" "I", Cond.fieldLink RX1 13 "TemporaryRealsModel" "top" "[I", Cond.fieldLink RX1 17 "TemporaryRealsModel" "fraction" "[J", Cond.constantLong RX1 32 (4294967296), Cond.constantLong RX1 34 (4294967295)]
set_option maxRecDepth 20000 in
theorem aloX1_set : owX1_set.all goodWord = true := by decide +kernel
set_option maxRecDepth 20000 in
theorem tihX1_set : Cond.code yX1_set cX1_set 5 none ∈ lw_tbl := List.mem_append_right _ (List.mem_of_getElem? (i := 389) rfl)
set_option maxRecDepth 20000 in
theorem tioX1_set : ∀ w ∈ owX1_set, w ∈ lw_tbl := List.forall_mem_cons.mpr ⟨tihX1_set, by decide +kernel⟩
def wsX1_set : List Cond := owX1_set ++ (wsX10 ++ (wsX1_none))
theorem al_wsX1_set : wsX1_set.all goodWord = true := wa_a aloX1_set (wa_a al_wsX10 al_wsX1_none)
theorem ti_wsX1_set : ∀ w ∈ wsX1_set, w ∈ lw_tbl := wi_a tioX1_set (wi_a ti_wsX10 ti_wsX1_none)
def owX1_kind : List Cond := [Cond.code yX1_kind cX1_kind 4 (some .int), Cond.fieldLink RX1 13 "TemporaryRealsModel" "top" "[I", Cond.constant RX1 36 (32768), Cond.fieldLink RX1 17 "TemporaryRealsModel" "fraction" "[J", Cond.constantLong RX1 37 (-9223372036854775808)]
set_option maxRecDepth 20000 in
theorem aloX1_kind : owX1_kind.all goodWord = true := by decide +kernel
set_option maxRecDepth 20000 in
theorem tihX1_kind : Cond.code yX1_kind cX1_kind 4 (some .int) ∈ lw_tbl := List.mem_append_right _ (List.mem_of_getElem? (i := 402) rfl)
set_option maxRecDepth 20000 in
theorem tioX1_kind : ∀ w ∈ owX1_kind, w ∈ lw_tbl := List.forall_mem_cons.mpr ⟨tihX1_kind, by decide +kernel⟩
def wsX1_kind : List Cond := owX1_kind ++ (wsX10)
theorem al_wsX1_kind : wsX1_kind.all goodWord = true := wa_a aloX1_kind al_wsX10
theorem ti_wsX1_kind : ∀ w ∈ wsX1_kind, w ∈ lw_tbl := wi_a tioX1_kind ti_wsX10
def owX1_part : List Cond := [Cond.code yX1_part cX1_part 4 (some .int), Cond.methodLink RX1 28 yX1_none, Cond.static yX1_none, Cond.initialized RX1, Cond.fieldLink RX1 24 "TemporaryRealsModel" "code" "I", Cond.fieldLink RX1 13 "TemporaryRealsModel" "top" "[I", Cond.fieldLink RX1 17 "TemporaryRealsModel" "fraction" "[J", Cond.methodLink RX1 39 yX1_kind, Cond.instanceMethod yX1_kind, Cond.selects RX1 yX1_kind yX1_kind]
set_option maxRecDepth 20000 in
theorem aloX1_part : owX1_part.all goodWord = true := by decide +kernel
set_option maxRecDepth 20000 in
theorem tihX1_part : Cond.code yX1_part cX1_part 4 (some .int) ∈ lw_tbl := List.mem_append_right _ (List.mem_of_getElem? (i := 398) rfl)
set_option maxRecDepth 20000 in
theorem tioX1_part : ∀ w ∈ owX1_part, w ∈ lw_tbl := List.forall_mem_cons.mpr ⟨tihX1_part, by decide +kernel⟩
def wsX1_part : List Cond := owX1_part ++ (wsX10 ++ (wsX1_none ++ (wsX1_kind)))
theorem al_wsX1_part : wsX1_part.all goodWord = true := wa_a aloX1_part (wa_a al_wsX10 (wa_a al_wsX1_none al_wsX1_kind))
theorem ti_wsX1_part : ∀ w ∈ wsX1_part, w ∈ lw_tbl := wi_a tioX1_part (wi_a ti_wsX10 (wi_a ti_wsX1_none ti_wsX1_kind))
def owX1_result : List Cond := [Cond.code yX1_result cX1_result 4 none, Cond.fieldLink RX1 55 "TemporaryRealsModel" "minus" "Z", Cond.constant RX1 36 (32768), Cond.fieldLink RX1 67 "TemporaryRealsModel" "madeTop" "I", Cond.fieldLink RX1 70 "TemporaryRealsModel" "madeFraction" "J"]
set_option maxRecDepth 20000 in
theorem aloX1_result : owX1_result.all goodWord = true := by decide +kernel
set_option maxRecDepth 20000 in
theorem tihX1_result : Cond.code yX1_result cX1_result 4 none ∈ lw_tbl := List.mem_append_right _ (List.mem_of_getElem? (i := 418) rfl)
set_option maxRecDepth 20000 in
theorem tioX1_result : ∀ w ∈ owX1_result, w ∈ lw_tbl := List.forall_mem_cons.mpr ⟨tihX1_result, by decide +kernel⟩
def wsX1_result : List Cond := owX1_result ++ (wsX10)
theorem al_wsX1_result : wsX1_result.all goodWord = true := wa_a aloX1_result al_wsX10
theorem ti_wsX1_result : ∀ w ∈ wsX1_result, w ∈ lw_tbl := wi_a tioX1_result ti_wsX10
def owX1_round : List Cond := [Cond.code yX1_round cX1_round 7 none, Cond.fieldLink RX1 7 "TemporaryRealsModel" "control" "I", Cond.fieldLink RX1 43 "TemporaryRealsModel" "whole" "J", Cond.fieldLink RX1 47 "TemporaryRealsModel" "first" "I", Cond.fieldLink RX1 50 "TemporaryRealsModel" "weight" "I", Cond.constantLong RX1 53 (2), Cond.fieldLink RX1 21 "TemporaryRealsModel" "bits" "[I", Cond.fieldLink RX1 55 "TemporaryRealsModel" "minus" "Z", Cond.fieldLink RX1 59 "TemporaryRealsModel" "side" "I", Cond.constantLong RX1 62 (-1), Cond.fieldLink RX1 64 "TemporaryRealsModel" "full" "Z"]
set_option maxRecDepth 20000 in
theorem aloX1_round : owX1_round.all goodWord = true := by decide +kernel
set_option maxRecDepth 20000 in
theorem tihX1_round : Cond.code yX1_round cX1_round 7 none ∈ lw_tbl := List.mem_append_right _ (List.mem_of_getElem? (i := 422) rfl)
set_option maxRecDepth 20000 in
theorem tioX1_round : ∀ w ∈ owX1_round, w ∈ lw_tbl := List.forall_mem_cons.mpr ⟨tihX1_round, by decide +kernel⟩
def wsX1_round : List Cond := owX1_round ++ (wsX10)
theorem al_wsX1_round : wsX1_round.all goodWord = true := wa_a aloX1_round al_wsX10
theorem ti_wsX1_round : ∀ w ∈ wsX1_round, w ∈ lw_tbl := wi_a tioX1_round ti_wsX10
def owX1_make0 : List Cond := [Cond.code yX1_make0 cX1_make0 13 none, Cond.fieldLink RX1 73 "TemporaryRealsModel" "told" "I", Cond.fieldLink RX1 59 "TemporaryRealsModel" "side" "I", Cond.fieldLink RX1 76 "TemporaryRealsModel" "greatest" "I", Cond.fieldLink RX1 47 "TemporaryRealsModel" "first" "I", Cond.fieldLink RX1 21 "TemporaryRealsModel" "bits" "[I", Cond.methodLink RX1 79 yX1_result, Cond.instanceMethod yX1_result, Cond.selects RX1 yX1_result yX1_result, Cond.initialized RX1, Cond.fieldLink RX1 7 "TemporaryRealsModel" "control" "I", Cond.fieldLink RX1 50 "TemporaryRealsModel" "weight" "I", Cond.methodLink RX1 83 yX1_round, Cond.instanceMethod yX1_round, Cond.selects RX1 yX1_round yX1_round, Cond.fieldLink RX1 43 "TemporaryRealsModel" "whole" "J", Cond.constantLong RX1 53 (2), Cond.fieldLink RX1 64 "TemporaryRealsModel" "full" "Z", Cond.constantLong RX1 37 (-9223372036854775808), Cond.fieldLink RX1 55 "TemporaryRealsModel" "minus" "Z"]
set_option maxRecDepth 20000 in
theorem aloX1_make0 : owX1_make0.all goodWord = true := by decide +kernel
set_option maxRecDepth 20000 in
theorem tihX1_make0 : Cond.code yX1_make0 cX1_make0 13 none ∈ lw_tbl := List.mem_append_right _ (List.mem_of_getElem? (i := 414) rfl)
set_option maxRecDepth 20000 in
theorem tioX1_make0 : ∀ w ∈ owX1_make0, w ∈ lw_tbl := List.forall_mem_cons.mpr ⟨tihX1_make0, by decide +kernel⟩
def wsX1_make0 : List Cond := owX1_make0 ++ (wsX10 ++ (wsX1_result ++ (wsX1_round)))
theorem al_wsX1_make0 : wsX1_make0.all goodWord = true := wa_a aloX1_make0 (wa_a al_wsX10 (wa_a al_wsX1_result al_wsX1_round))
theorem ti_wsX1_make0 : ∀ w ∈ wsX1_make0, w ∈ lw_tbl := wi_a tioX1_make0 (wi_a ti_wsX10 (wi_a ti_wsX1_result ti_wsX1_round))
def owX1_keep : List Cond := [Cond.code yX1_keep cX1_keep 2 (some .int), Cond.fieldLink RX1 13 "TemporaryRealsModel" "top" "[I", Cond.fieldLink RX1 67 "TemporaryRealsModel" "madeTop" "I", Cond.fieldLink RX1 17 "TemporaryRealsModel" "fraction" "[J", Cond.fieldLink RX1 70 "TemporaryRealsModel" "madeFraction" "J", Cond.fieldLink RX1 73 "TemporaryRealsModel" "told" "I"]
set_option maxRecDepth 20000 in
theorem aloX1_keep : owX1_keep.all goodWord = true := by decide +kernel
set_option maxRecDepth 20000 in
theorem tihX1_keep : Cond.code yX1_keep cX1_keep 2 (some .int) ∈ lw_tbl := List.mem_append_right _ (List.mem_of_getElem? (i := 428) rfl)
set_option maxRecDepth 20000 in
theorem tioX1_keep : ∀ w ∈ owX1_keep, w ∈ lw_tbl := List.forall_mem_cons.mpr ⟨tihX1_keep, by decide +kernel⟩
def wsX1_keep : List Cond := owX1_keep ++ (wsX10)
theorem al_wsX1_keep : wsX1_keep.all goodWord = true := wa_a aloX1_keep al_wsX10
theorem ti_wsX1_keep : ∀ w ∈ wsX1_keep, w ∈ lw_tbl := wi_a tioX1_keep ti_wsX10
def owX1_make : List Cond := [Cond.code yX1_make cX1_make 11 (some .int), Cond.methodLink RX1 28 yX1_none, Cond.static yX1_none, Cond.initialized RX1, Cond.constant RX1 87 (-33000), Cond.constant RX1 88 (33000), Cond.fieldLink RX1 24 "TemporaryRealsModel" "code" "I", Cond.fieldLink RX1 21 "TemporaryRealsModel" "bits" "[I", Cond.fieldLink RX1 50 "TemporaryRealsModel" "weight" "I", Cond.fieldLink RX1 55 "TemporaryRealsModel" "minus" "Z", Cond.methodLink RX1 89 yX1_make0, Cond.instanceMethod yX1_make0, Cond.selects RX1 yX1_make0 yX1_make0, Cond.methodLink RX1 92 yX1_keep, Cond.instanceMethod yX1_keep, Cond.selects RX1 yX1_keep yX1_keep]
set_option maxRecDepth 20000 in
theorem aloX1_make : owX1_make.all goodWord = true := by decide +kernel
set_option maxRecDepth 20000 in
theorem tihX1_make : Cond.code yX1_make cX1_make 11 (some .int) ∈ lw_tbl := List.mem_append_right _ (List.mem_of_getElem? (i := 408) rfl)
set_option maxRecDepth 20000 in
theorem tioX1_make : ∀ w ∈ owX1_make, w ∈ lw_tbl := List.forall_mem_cons.mpr ⟨tihX1_make, by decide +kernel⟩
def wsX1_make : List Cond := owX1_make ++ (wsX10 ++ (wsX1_none ++ (wsX1_make0 ++ (wsX1_keep))))
theorem al_wsX1_make : wsX1_make.all goodWord = true := wa_a aloX1_make (wa_a al_wsX10 (wa_a al_wsX1_none (wa_a al_wsX1_make0 al_wsX1_keep)))
theorem ti_wsX1_make : ∀ w ∈ wsX1_make, w ∈ lw_tbl := wi_a tioX1_make (wi_a ti_wsX10 (wi_a ti_wsX1_none (wi_a ti_wsX1_make0 ti_wsX1_keep)))
def owX1_powerOf : List Cond := [Cond.code yX1_powerOf cX1_powerOf 3 (some .int), Cond.fieldLink RX1 13 "TemporaryRealsModel" "top" "[I", Cond.constant RX1 36 (32768)]
set_option maxRecDepth 20000 in
theorem aloX1_powerOf : owX1_powerOf.all goodWord = true := by decide +kernel
set_option maxRecDepth 20000 in
theorem tihX1_powerOf : Cond.code yX1_powerOf cX1_powerOf 3 (some .int) ∈ lw_tbl := List.mem_append_right _ (List.mem_of_getElem? (i := 436) rfl)
set_option maxRecDepth 20000 in
theorem tioX1_powerOf : ∀ w ∈ owX1_powerOf, w ∈ lw_tbl := List.forall_mem_cons.mpr ⟨tihX1_powerOf, by decide +kernel⟩
def wsX1_powerOf : List Cond := owX1_powerOf ++ (wsX10)
theorem al_wsX1_powerOf : wsX1_powerOf.all goodWord = true := wa_a aloX1_powerOf al_wsX10
theorem ti_wsX1_powerOf : ∀ w ∈ wsX1_powerOf, w ∈ lw_tbl := wi_a tioX1_powerOf ti_wsX10
def owX1_again : List Cond := [Cond.code yX1_again cX1_again 4 (some .int), Cond.methodLink RX1 28 yX1_none, Cond.static yX1_none, Cond.initialized RX1, Cond.fieldLink RX1 24 "TemporaryRealsModel" "code" "I", Cond.methodLink RX1 39 yX1_kind, Cond.instanceMethod yX1_kind, Cond.selects RX1 yX1_kind yX1_kind, Cond.fieldLink RX1 13 "TemporaryRealsModel" "top" "[I", Cond.fieldLink RX1 67 "TemporaryRealsModel" "madeTop" "I", Cond.fieldLink RX1 17 "TemporaryRealsModel" "fraction" "[J", Cond.fieldLink RX1 70 "TemporaryRealsModel" "madeFraction" "J", Cond.fieldLink RX1 73 "TemporaryRealsModel" "told" "I", Cond.fieldLink RX1 59 "TemporaryRealsModel" "side" "I", Cond.fieldLink RX1 76 "TemporaryRealsModel" "greatest" "I", Cond.methodLink RX1 92 yX1_keep, Cond.instanceMethod yX1_keep, Cond.selects RX1 yX1_keep yX1_keep, Cond.fieldLink RX1 21 "TemporaryRealsModel" "bits" "[I", Cond.methodLink RX1 95 yX1_powerOf, Cond.instanceMethod yX1_powerOf, Cond.selects RX1 yX1_powerOf yX1_powerOf, Cond.fieldLink RX1 50 "TemporaryRealsModel" "weight" "I", Cond.fieldLink RX1 55 "TemporaryRealsModel" "minus" "Z", Cond.methodLink RX1 89 yX1_make0, Cond.instanceMethod yX1_make0, Cond.selects RX1 yX1_make0 yX1_make0]
set_option maxRecDepth 20000 in
theorem aloX1_again : owX1_again.all goodWord = true := by decide +kernel
set_option maxRecDepth 20000 in
theorem tihX1_again : Cond.code yX1_again cX1_again 4 (some .int) ∈ lw_tbl := List.mem_append_right _ (List.mem_of_getElem? (i := 432) rfl)
set_option maxRecDepth 20000 in
theorem tioX1_again : ∀ w ∈ owX1_again, w ∈ lw_tbl := List.forall_mem_cons.mpr ⟨tihX1_again, by decide +kernel⟩
def wsX1_again : List Cond := owX1_again ++ (wsX10 ++ (wsX1_none ++ (wsX1_kind ++ (wsX1_keep ++ (wsX1_powerOf ++ (wsX1_make0))))))
theorem al_wsX1_again : wsX1_again.all goodWord = true := wa_a aloX1_again (wa_a al_wsX10 (wa_a al_wsX1_none (wa_a al_wsX1_kind (wa_a al_wsX1_keep (wa_a al_wsX1_powerOf al_wsX1_make0)))))
theorem ti_wsX1_again : ∀ w ∈ wsX1_again, w ∈ lw_tbl := wi_a tioX1_again (wi_a ti_wsX10 (wi_a ti_wsX1_none (wi_a ti_wsX1_kind (wi_a ti_wsX1_keep (wi_a ti_wsX1_powerOf ti_wsX1_make0)))))
def owX1_last : List Cond := [Cond.code yX1_last cX1_last 2 (some .int), Cond.fieldLink RX1 24 "TemporaryRealsModel" "code" "I", Cond.fieldLink RX1 73 "TemporaryRealsModel" "told" "I", Cond.fieldLink RX1 76 "TemporaryRealsModel" "greatest" "I", Cond.fieldLink RX1 59 "TemporaryRealsModel" "side" "I"]
set_option maxRecDepth 20000 in
theorem aloX1_last : owX1_last.all goodWord = true := by decide +kernel
set_option maxRecDepth 20000 in
theorem tihX1_last : Cond.code yX1_last cX1_last 2 (some .int) ∈ lw_tbl := List.mem_append_right _ (List.mem_of_getElem? (i := 440) rfl)
set_option maxRecDepth 20000 in
theorem tioX1_last : ∀ w ∈ owX1_last, w ∈ lw_tbl := List.forall_mem_cons.mpr ⟨tihX1_last, by decide +kernel⟩
def wsX1_last : List Cond := owX1_last ++ (wsX10)
theorem al_wsX1_last : wsX1_last.all goodWord = true := wa_a aloX1_last al_wsX10
theorem ti_wsX1_last : ∀ w ∈ wsX1_last, w ∈ lw_tbl := wi_a tioX1_last ti_wsX10
def owX1_isNothing : List Cond := [Cond.code yX1_isNothing cX1_isNothing 2 (some .boolean), Cond.methodLink RX1 39 yX1_kind, Cond.instanceMethod yX1_kind, Cond.selects RX1 yX1_kind yX1_kind, Cond.initialized RX1, Cond.fieldLink RX1 17 "TemporaryRealsModel" "fraction" "[J"]
set_option maxRecDepth 20000 in
theorem aloX1_isNothing : owX1_isNothing.all goodWord = true := by decide +kernel
set_option maxRecDepth 20000 in
theorem tihX1_isNothing : Cond.code yX1_isNothing cX1_isNothing 2 (some .boolean) ∈ lw_tbl := List.mem_append_right _ (List.mem_of_getElem? (i := 448) rfl)
set_option maxRecDepth 20000 in
theorem tioX1_isNothing : ∀ w ∈ owX1_isNothing, w ∈ lw_tbl := List.forall_mem_cons.mpr ⟨tihX1_isNothing, by decide +kernel⟩
def wsX1_isNothing : List Cond := owX1_isNothing ++ (wsX10 ++ (wsX1_kind))
theorem al_wsX1_isNothing : wsX1_isNothing.all goodWord = true := wa_a aloX1_isNothing (wa_a al_wsX10 al_wsX1_kind)
theorem ti_wsX1_isNothing : ∀ w ∈ wsX1_isNothing, w ∈ lw_tbl := wi_a tioX1_isNothing (wi_a ti_wsX10 ti_wsX1_kind)
def owX1_compareSizes : List Cond := [Cond.code yX1_compareSizes cX1_compareSizes 9 (some .int), Cond.methodLink RX1 39 yX1_kind, Cond.instanceMethod yX1_kind, Cond.selects RX1 yX1_kind yX1_kind, Cond.initialized RX1, Cond.methodLink RX1 98 yX1_isNothing, Cond.instanceMethod yX1_isNothing, Cond.selects RX1 yX1_isNothing yX1_isNothing, Cond.fieldLink RX1 17 "TemporaryRealsModel" "fraction" "[J", Cond.methodLink RX1 95 yX1_powerOf, Cond.instanceMethod yX1_powerOf, Cond.selects RX1 yX1_powerOf yX1_powerOf, Cond.constantLong RX1 53 (2)]
set_option maxRecDepth 20000 in
theorem aloX1_compareSizes : owX1_compareSizes.all goodWord = true := by decide +kernel
set_option maxRecDepth 20000 in
theorem tihX1_compareSizes : Cond.code yX1_compareSizes cX1_compareSizes 9 (some .int) ∈ lw_tbl := List.mem_append_right _ (List.mem_of_getElem? (i := 452) rfl)
set_option maxRecDepth 20000 in
theorem tioX1_compareSizes : ∀ w ∈ owX1_compareSizes, w ∈ lw_tbl := List.forall_mem_cons.mpr ⟨tihX1_compareSizes, by decide +kernel⟩
def wsX1_compareSizes : List Cond := owX1_compareSizes ++ (wsX10 ++ (wsX1_kind ++ (wsX1_isNothing ++ (wsX1_powerOf))))
theorem al_wsX1_compareSizes : wsX1_compareSizes.all goodWord = true := wa_a aloX1_compareSizes (wa_a al_wsX10 (wa_a al_wsX1_kind (wa_a al_wsX1_isNothing al_wsX1_powerOf)))
theorem ti_wsX1_compareSizes : ∀ w ∈ wsX1_compareSizes, w ∈ lw_tbl := wi_a tioX1_compareSizes (wi_a ti_wsX10 (wi_a ti_wsX1_kind (wi_a ti_wsX1_isNothing ti_wsX1_powerOf)))
def owX1_compare : List Cond := [Cond.code yX1_compare cX1_compare 5 (some .int), Cond.methodLink RX1 28 yX1_none, Cond.static yX1_none, Cond.initialized RX1, Cond.fieldLink RX1 24 "TemporaryRealsModel" "code" "I", Cond.methodLink RX1 39 yX1_kind, Cond.instanceMethod yX1_kind, Cond.selects RX1 yX1_kind yX1_kind, Cond.methodLink RX1 98 yX1_isNothing, Cond.instanceMethod yX1_isNothing, Cond.selects RX1 yX1_isNothing yX1_isNothing, Cond.fieldLink RX1 13 "TemporaryRealsModel" "top" "[I", Cond.methodLink RX1 101 yX1_compareSizes, Cond.instanceMethod yX1_compareSizes, Cond.selects RX1 yX1_compareSizes yX1_compareSizes]
set_option maxRecDepth 20000 in
theorem aloX1_compare : owX1_compare.all goodWord = true := by decide +kernel
set_option maxRecDepth 20000 in
theorem tihX1_compare : Cond.code yX1_compare cX1_compare 5 (some .int) ∈ lw_tbl := List.mem_append_right _ (List.mem_of_getElem? (i := 444) rfl)
set_option maxRecDepth 20000 in
theorem tioX1_compare : ∀ w ∈ owX1_compare, w ∈ lw_tbl := List.forall_mem_cons.mpr ⟨tihX1_compare, by decide +kernel⟩
def wsX1_compare : List Cond := owX1_compare ++ (wsX10 ++ (wsX1_none ++ (wsX1_kind ++ (wsX1_isNothing ++ (wsX1_compareSizes)))))
theorem al_wsX1_compare : wsX1_compare.all goodWord = true := wa_a aloX1_compare (wa_a al_wsX10 (wa_a al_wsX1_none (wa_a al_wsX1_kind (wa_a al_wsX1_isNothing al_wsX1_compareSizes))))
theorem ti_wsX1_compare : ∀ w ∈ wsX1_compare, w ∈ lw_tbl := wi_a tioX1_compare (wi_a ti_wsX10 (wi_a ti_wsX1_none (wi_a ti_wsX1_kind (wi_a ti_wsX1_isNothing ti_wsX1_compareSizes))))
def owX1_neighbour : List Cond := [Cond.code yX1_neighbour cX1_neighbour 9 none, Cond.methodLink RX1 28 yX1_none, Cond.static yX1_none, Cond.initialized RX1, Cond.fieldLink RX1 24 "TemporaryRealsModel" "code" "I", Cond.fieldLink RX1 13 "TemporaryRealsModel" "top" "[I", Cond.constant RX1 36 (32768), Cond.fieldLink RX1 17 "TemporaryRealsModel" "fraction" "[J", Cond.methodLink RX1 39 yX1_kind, Cond.instanceMethod yX1_kind, Cond.selects RX1 yX1_kind yX1_kind, Cond.methodLink RX1 98 yX1_isNothing, Cond.instanceMethod yX1_isNothing, Cond.selects RX1 yX1_isNothing yX1_isNothing, Cond.constantLong RX1 37 (-9223372036854775808), Cond.constantLong RX1 53 (2)]
set_option maxRecDepth 20000 in
theorem aloX1_neighbour : owX1_neighbour.all goodWord = true := by decide +kernel
set_option maxRecDepth 20000 in
theorem tihX1_neighbour : Cond.code yX1_neighbour cX1_neighbour 9 none ∈ lw_tbl := List.mem_append_right _ (List.mem_of_getElem? (i := 456) rfl)
set_option maxRecDepth 20000 in
theorem tioX1_neighbour : ∀ w ∈ owX1_neighbour, w ∈ lw_tbl := List.forall_mem_cons.mpr ⟨tihX1_neighbour, by decide +kernel⟩
def wsX1_neighbour : List Cond := owX1_neighbour ++ (wsX10 ++ (wsX1_none ++ (wsX1_kind ++ (wsX1_isNothing))))
theorem al_wsX1_neighbour : wsX1_neighbour.all goodWord = true := wa_a aloX1_neighbour (wa_a al_wsX10 (wa_a al_wsX1_none (wa_a al_wsX1_kind al_wsX1_isNothing)))
theorem ti_wsX1_neighbour : ∀ w ∈ wsX1_neighbour, w ∈ lw_tbl := wi_a tioX1_neighbour (wi_a ti_wsX10 (wi_a ti_wsX1_none (wi_a ti_wsX1_kind ti_wsX1_isNothing)))
def owL_law : List Cond := [Cond.classLink RL 8 RX0, Cond.instantiable RX0 6, Cond.initialized RX0, Cond.methodLink RL 43 yX0_init, Cond.instanceMethod yX0_init, Cond.classLink RL 44 RX1, Cond.instantiable RX1 15, Cond.initialized RX1, Cond.methodLink RL 46 yX1_init, Cond.instanceMethod yX1_init, Cond.arrayClass .long, Cond.methodLink RL 47 yL_control, Cond.static yL_control, Cond.initialized RL, Cond.methodLink RL 52 yX1_control, Cond.instanceMethod yX1_control, Cond.selects RX1 yX1_control yX1_control, Cond.methodLink RL 53 yX1_thrown, Cond.instanceMethod yX1_thrown, Cond.selects RX1 yX1_thrown yX1_thrown, Cond.methodLink RL 57 yL_set, Cond.static yL_set, Cond.methodLink RL 60 yX1_set, Cond.instanceMethod yX1_set, Cond.selects RX1 yX1_set yX1_set, Cond.methodLink RL 61 yL_part, Cond.static yL_part, Cond.methodLink RL 64 yX1_part, Cond.instanceMethod yX1_part, Cond.selects RX1 yX1_part yX1_part, Cond.methodLink RL 65 yL_make, Cond.static yL_make, Cond.methodLink RL 68 yX1_make, Cond.instanceMethod yX1_make, Cond.selects RX1 yX1_make yX1_make, Cond.methodLink RL 69 yL_again, Cond.static yL_again, Cond.methodLink RL 71 yX1_again, Cond.instanceMethod yX1_again, Cond.selects RX1 yX1_again yX1_again, Cond.methodLink RL 72 yL_last, Cond.static yL_last, Cond.methodLink RL 75 yX1_last, Cond.instanceMethod yX1_last, Cond.selects RX1 yX1_last yX1_last, Cond.methodLink RL 76 yL_compare, Cond.static yL_compare, Cond.methodLink RL 78 yX1_compare, Cond.instanceMethod yX1_compare, Cond.selects RX1 yX1_compare yX1_compare, Cond.methodLink RL 79 yL_neighbour, Cond.static yL_neighbour, Cond.methodLink RL 82 yX1_neighbour, Cond.instanceMethod yX1_neighbour, Cond.selects RX1 yX1_neighbour yX1_neighbour]
set_option maxRecDepth 20000 in
theorem aloL_law : owL_law.all goodWord = true := by decide +kernel
set_option maxRecDepth 20000 in
theorem tioL_law : ∀ w ∈ owL_law, w ∈ lw_tbl := by decide +kernel
def wsL_law : List Cond := owL_law ++ (wsX00 ++ (wsX10 ++ (wsX0_init ++ (wsX1_init ++ (wsL_control ++ (wsX1_control ++ (wsX1_thrown ++ (wsL_set ++ (wsX1_set ++ (wsL_part ++ (wsX1_part ++ (wsL_make ++ (wsX1_make ++ (wsL_again ++ (wsX1_again ++ (wsL_last ++ (wsX1_last ++ (wsL_compare ++ (wsX1_compare ++ (wsL_neighbour ++ (wsX1_neighbour)))))))))))))))))))))
theorem al_wsL_law : wsL_law.all goodWord = true := wa_a aloL_law (wa_a al_wsX00 (wa_a al_wsX10 (wa_a al_wsX0_init (wa_a al_wsX1_init (wa_a al_wsL_control (wa_a al_wsX1_control (wa_a al_wsX1_thrown (wa_a al_wsL_set (wa_a al_wsX1_set (wa_a al_wsL_part (wa_a al_wsX1_part (wa_a al_wsL_make (wa_a al_wsX1_make (wa_a al_wsL_again (wa_a al_wsX1_again (wa_a al_wsL_last (wa_a al_wsX1_last (wa_a al_wsL_compare (wa_a al_wsX1_compare (wa_a al_wsL_neighbour al_wsX1_neighbour))))))))))))))))))))
theorem ti_wsL_law : ∀ w ∈ wsL_law, w ∈ lw_tbl := wi_a tioL_law (wi_a ti_wsX00 (wi_a ti_wsX10 (wi_a ti_wsX0_init (wi_a ti_wsX1_init (wi_a ti_wsL_control (wi_a ti_wsX1_control (wi_a ti_wsX1_thrown (wi_a ti_wsL_set (wi_a ti_wsX1_set (wi_a ti_wsL_part (wi_a ti_wsX1_part (wi_a ti_wsL_make (wi_a ti_wsX1_make (wi_a ti_wsL_again (wi_a ti_wsX1_again (wi_a ti_wsL_last (wi_a ti_wsX1_last (wi_a ti_wsL_compare (wi_a ti_wsX1_compare (wi_a ti_wsL_neighbour ti_wsX1_neighbour))))))))))))))))))))
end
section
theorem ggX0_control_X0_hasMoreThan16Bits : GoodIn wsX0_control wsX0_hasMoreThan16Bits := goodIn_sub (fun _ h => List.mem_append_right _ (List.mem_append_right _ (List.mem_append_right _ h))) al_wsX0_hasMoreThan16Bits
set_option maxRecDepth 20000 in
theorem gX0_control_X0_hasMoreThan16Bits : GoodIn wsX0_control (va_wsS RX0 23 yX0_hasMoreThan16Bits wsX0_hasMoreThan16Bits) := goodIn_app (goodIn_of _ (by decide +kernel)) ggX0_control_X0_hasMoreThan16Bits
theorem ggL_control_X0_control : GoodIn wsL_control wsX0_control := goodIn_sub (fun _ h => List.mem_append_right _ h) al_wsX0_control
set_option maxRecDepth 20000 in
theorem gL_control_X0_control : GoodIn wsL_control (wsV RL 7 RX0 yX0_control wsX0_control) := goodIn_app (goodIn_of _ (by decide +kernel)) ggL_control_X0_control
theorem ggX0_set_X0_isNoRegister : GoodIn wsX0_set wsX0_isNoRegister := goodIn_sub (fun _ h => List.mem_append_right _ (List.mem_append_right _ (List.mem_append_right _ (List.mem_append_right _ (List.mem_append_left _ h))))) al_wsX0_isNoRegister
set_option maxRecDepth 20000 in
theorem gX0_set_X0_isNoRegister : GoodIn wsX0_set (va_wsS RX0 34 yX0_isNoRegister wsX0_isNoRegister) := goodIn_app (goodIn_of _ (by decide +kernel)) ggX0_set_X0_isNoRegister
theorem ggX0_set_X0_hasMoreThan16Bits : GoodIn wsX0_set wsX0_hasMoreThan16Bits := goodIn_sub (fun _ h => List.mem_append_right _ (List.mem_append_right _ (List.mem_append_right _ (List.mem_append_right _ (List.mem_append_right _ (List.mem_append_left _ h)))))) al_wsX0_hasMoreThan16Bits
set_option maxRecDepth 20000 in
theorem gX0_set_X0_hasMoreThan16Bits : GoodIn wsX0_set (va_wsS RX0 23 yX0_hasMoreThan16Bits wsX0_hasMoreThan16Bits) := goodIn_app (goodIn_of _ (by decide +kernel)) ggX0_set_X0_hasMoreThan16Bits
theorem ggX0_set_X0_join : GoodIn wsX0_set wsX0_join := goodIn_sub (fun _ h => List.mem_append_right _ (List.mem_append_right _ (List.mem_append_right _ (List.mem_append_right _ (List.mem_append_right _ (List.mem_append_right _ h)))))) al_wsX0_join
set_option maxRecDepth 20000 in
theorem gX0_set_X0_join : GoodIn wsX0_set (va_wsS RX0 44 yX0_join wsX0_join) := goodIn_app (goodIn_of _ (by decide +kernel)) ggX0_set_X0_join
theorem ggL_set_X0_set : GoodIn wsL_set wsX0_set := goodIn_sub (fun _ h => List.mem_append_right _ h) al_wsX0_set
set_option maxRecDepth 20000 in
theorem gL_set_X0_set : GoodIn wsL_set (wsV RL 15 RX0 yX0_set wsX0_set) := goodIn_app (goodIn_of _ (by decide +kernel)) ggL_set_X0_set
theorem ggX0_kindOf_X0_powerOf : GoodIn wsX0_kindOf wsX0_powerOf := goodIn_sub (fun _ h => List.mem_append_right _ (List.mem_append_right _ h)) al_wsX0_powerOf
set_option maxRecDepth 20000 in
theorem gX0_kindOf_X0_powerOf : GoodIn wsX0_kindOf (wsV RX0 80 RX0 yX0_powerOf wsX0_powerOf) := goodIn_app (goodIn_of _ (by decide +kernel)) ggX0_kindOf_X0_powerOf
theorem ggJL_numberOfLeadingZeros_JI_numberOfLeadingZeros : GoodIn wsJL_numberOfLeadingZeros wsJI_numberOfLeadingZeros := goodIn_sub (fun _ h => List.mem_append_right _ h) al_wsJI_numberOfLeadingZeros
set_option maxRecDepth 20000 in
theorem gJL_numberOfLeadingZeros_JI_numberOfLeadingZeros : GoodIn wsJL_numberOfLeadingZeros (va_wsS RJL 308 yJI_numberOfLeadingZeros wsJI_numberOfLeadingZeros) := goodIn_app (goodIn_of _ (by decide +kernel)) ggJL_numberOfLeadingZeros_JI_numberOfLeadingZeros
theorem ggX0_part_X0_isNoRegister : GoodIn wsX0_part wsX0_isNoRegister := goodIn_sub (fun _ h => List.mem_append_right _ (List.mem_append_right _ (List.mem_append_right _ (List.mem_append_right _ (List.mem_append_left _ h))))) al_wsX0_isNoRegister
set_option maxRecDepth 20000 in
theorem gX0_part_X0_isNoRegister : GoodIn wsX0_part (va_wsS RX0 34 yX0_isNoRegister wsX0_isNoRegister) := goodIn_app (goodIn_of _ (by decide +kernel)) ggX0_part_X0_isNoRegister
theorem ggX0_part_X0_kindOf : GoodIn wsX0_part wsX0_kindOf := goodIn_sub (fun _ h => List.mem_append_right _ (List.mem_append_right _ (List.mem_append_right _ (List.mem_append_right _ (List.mem_append_right _ (List.mem_append_left _ h)))))) al_wsX0_kindOf
set_option maxRecDepth 20000 in
theorem gX0_part_X0_kindOf : GoodIn wsX0_part (wsV RX0 48 RX0 yX0_kindOf wsX0_kindOf) := goodIn_app (goodIn_of _ (by decide +kernel)) ggX0_part_X0_kindOf
theorem ggX0_part_JL_numberOfLeadingZeros : GoodIn wsX0_part wsJL_numberOfLeadingZeros := goodIn_sub (fun _ h => List.mem_append_right _ (List.mem_append_right _ (List.mem_append_right _ (List.mem_append_right _ (List.mem_append_right _ (List.mem_append_right _ h)))))) al_wsJL_numberOfLeadingZeros
set_option maxRecDepth 20000 in
theorem gX0_part_JL_numberOfLeadingZeros : GoodIn wsX0_part (va_wsS RX0 52 yJL_numberOfLeadingZeros wsJL_numberOfLeadingZeros) := goodIn_app (goodIn_of _ (by decide +kernel)) ggX0_part_JL_numberOfLeadingZeros
theorem ggL_part_X0_part : GoodIn wsL_part wsX0_part := goodIn_sub (fun _ h => List.mem_append_right _ h) al_wsX0_part
set_option maxRecDepth 20000 in
theorem gL_part_X0_part : GoodIn wsL_part (wsV RL 21 RX0 yX0_part wsX0_part) := goodIn_app (goodIn_of _ (by decide +kernel)) ggL_part_X0_part
theorem ggX0_goesAway_X0_rounding : GoodIn wsX0_goesAway wsX0_rounding := goodIn_sub (fun _ h => List.mem_append_right _ h) al_wsX0_rounding
set_option maxRecDepth 20000 in
theorem gX0_goesAway_X0_rounding : GoodIn wsX0_goesAway (wsV RX0 132 RX0 yX0_rounding wsX0_rounding) := goodIn_app (goodIn_of _ (by decide +kernel)) ggX0_goesAway_X0_rounding
theorem ggX0_takesAbove_X0_rounding : GoodIn wsX0_takesAbove wsX0_rounding := goodIn_sub (fun _ h => List.mem_append_right _ (List.mem_append_left _ h)) al_wsX0_rounding
set_option maxRecDepth 20000 in
theorem gX0_takesAbove_X0_rounding : GoodIn wsX0_takesAbove (wsV RX0 132 RX0 yX0_rounding wsX0_rounding) := goodIn_app (goodIn_of _ (by decide +kernel)) ggX0_takesAbove_X0_rounding
theorem ggX0_takesAbove_X0_goesAway : GoodIn wsX0_takesAbove wsX0_goesAway := goodIn_sub (fun _ h => List.mem_append_right _ (List.mem_append_right _ h)) al_wsX0_goesAway
set_option maxRecDepth 20000 in
theorem gX0_takesAbove_X0_goesAway : GoodIn wsX0_takesAbove (wsV RX0 136 RX0 yX0_goesAway wsX0_goesAway) := goodIn_app (goodIn_of _ (by decide +kernel)) ggX0_takesAbove_X0_goesAway
theorem ggX0_makeSmall_X0_digits : GoodIn wsX0_makeSmall wsX0_digits := goodIn_sub (fun _ h => List.mem_append_right _ (List.mem_append_left _ h)) al_wsX0_digits
set_option maxRecDepth 20000 in
theorem gX0_makeSmall_X0_digits : GoodIn wsX0_makeSmall (wsV RX0 149 RX0 yX0_digits wsX0_digits) := goodIn_app (goodIn_of _ (by decide +kernel)) ggX0_makeSmall_X0_digits
theorem ggX0_makeSmall_X0_wholePart : GoodIn wsX0_makeSmall wsX0_wholePart := goodIn_sub (fun _ h => List.mem_append_right _ (List.mem_append_right _ (List.mem_append_left _ h))) al_wsX0_wholePart
set_option maxRecDepth 20000 in
theorem gX0_makeSmall_X0_wholePart : GoodIn wsX0_makeSmall (va_wsS RX0 152 yX0_wholePart wsX0_wholePart) := goodIn_app (goodIn_of _ (by decide +kernel)) ggX0_makeSmall_X0_wholePart
theorem ggX0_makeSmall_X0_lostPart : GoodIn wsX0_makeSmall wsX0_lostPart := goodIn_sub (fun _ h => List.mem_append_right _ (List.mem_append_right _ (List.mem_append_right _ (List.mem_append_left _ h)))) al_wsX0_lostPart
set_option maxRecDepth 20000 in
theorem gX0_makeSmall_X0_lostPart : GoodIn wsX0_makeSmall (va_wsS RX0 156 yX0_lostPart wsX0_lostPart) := goodIn_app (goodIn_of _ (by decide +kernel)) ggX0_makeSmall_X0_lostPart
theorem ggX0_makeSmall_X0_takesAbove : GoodIn wsX0_makeSmall wsX0_takesAbove := goodIn_sub (fun _ h => List.mem_append_right _ (List.mem_append_right _ (List.mem_append_right _ (List.mem_append_right _ (List.mem_append_left _ h))))) al_wsX0_takesAbove
set_option maxRecDepth 20000 in
theorem gX0_makeSmall_X0_takesAbove : GoodIn wsX0_makeSmall (wsV RX0 159 RX0 yX0_takesAbove wsX0_takesAbove) := goodIn_app (goodIn_of _ (by decide +kernel)) ggX0_makeSmall_X0_takesAbove
theorem ggX0_makeSmall_X0_store : GoodIn wsX0_makeSmall wsX0_store := goodIn_sub (fun _ h => List.mem_append_right _ (List.mem_append_right _ (List.mem_append_right _ (List.mem_append_right _ (List.mem_append_right _ (List.mem_append_left _ h)))))) al_wsX0_store
set_option maxRecDepth 20000 in
theorem gX0_makeSmall_X0_store : GoodIn wsX0_makeSmall (wsV RX0 109 RX0 yX0_store wsX0_store) := goodIn_app (goodIn_of _ (by decide +kernel)) ggX0_makeSmall_X0_store
theorem ggX0_makeSmall_X0_changeOf : GoodIn wsX0_makeSmall wsX0_changeOf := goodIn_sub (fun _ h => List.mem_append_right _ (List.mem_append_right _ (List.mem_append_right _ (List.mem_append_right _ (List.mem_append_right _ (List.mem_append_right _ (List.mem_append_left _ h))))))) al_wsX0_changeOf
set_option maxRecDepth 20000 in
theorem gX0_makeSmall_X0_changeOf : GoodIn wsX0_makeSmall (va_wsS RX0 163 yX0_changeOf wsX0_changeOf) := goodIn_app (goodIn_of _ (by decide +kernel)) ggX0_makeSmall_X0_changeOf
theorem ggX0_makeSmall_X0_tell : GoodIn wsX0_makeSmall wsX0_tell := goodIn_sub (fun _ h => List.mem_append_right _ (List.mem_append_right _ (List.mem_append_right _ (List.mem_append_right _ (List.mem_append_right _ (List.mem_append_right _ (List.mem_append_right _ h))))))) al_wsX0_tell
set_option maxRecDepth 20000 in
theorem gX0_makeSmall_X0_tell : GoodIn wsX0_makeSmall (wsV RX0 76 RX0 yX0_tell wsX0_tell) := goodIn_app (goodIn_of _ (by decide +kernel)) ggX0_makeSmall_X0_tell
theorem ggX0_makeTooGreat_X0_rounding : GoodIn wsX0_makeTooGreat wsX0_rounding := goodIn_sub (fun _ h => List.mem_append_right _ (List.mem_append_left _ h)) al_wsX0_rounding
set_option maxRecDepth 20000 in
theorem gX0_makeTooGreat_X0_rounding : GoodIn wsX0_makeTooGreat (wsV RX0 132 RX0 yX0_rounding wsX0_rounding) := goodIn_app (goodIn_of _ (by decide +kernel)) ggX0_makeTooGreat_X0_rounding
theorem ggX0_makeTooGreat_X0_goesAway : GoodIn wsX0_makeTooGreat wsX0_goesAway := goodIn_sub (fun _ h => List.mem_append_right _ (List.mem_append_right _ (List.mem_append_left _ h))) al_wsX0_goesAway
set_option maxRecDepth 20000 in
theorem gX0_makeTooGreat_X0_goesAway : GoodIn wsX0_makeTooGreat (wsV RX0 136 RX0 yX0_goesAway wsX0_goesAway) := goodIn_app (goodIn_of _ (by decide +kernel)) ggX0_makeTooGreat_X0_goesAway
theorem ggX0_makeTooGreat_X0_store : GoodIn wsX0_makeTooGreat wsX0_store := goodIn_sub (fun _ h => List.mem_append_right _ (List.mem_append_right _ (List.mem_append_right _ (List.mem_append_left _ h)))) al_wsX0_store
set_option maxRecDepth 20000 in
theorem gX0_makeTooGreat_X0_store : GoodIn wsX0_makeTooGreat (wsV RX0 109 RX0 yX0_store wsX0_store) := goodIn_app (goodIn_of _ (by decide +kernel)) ggX0_makeTooGreat_X0_store
theorem ggX0_makeTooGreat_X0_tell : GoodIn wsX0_makeTooGreat wsX0_tell := goodIn_sub (fun _ h => List.mem_append_right _ (List.mem_append_right _ (List.mem_append_right _ (List.mem_append_right _ (List.mem_append_left _ h))))) al_wsX0_tell
set_option maxRecDepth 20000 in
theorem gX0_makeTooGreat_X0_tell : GoodIn wsX0_makeTooGreat (wsV RX0 76 RX0 yX0_tell wsX0_tell) := goodIn_app (goodIn_of _ (by decide +kernel)) ggX0_makeTooGreat_X0_tell
theorem ggX0_makeTooGreat_X0_digits : GoodIn wsX0_makeTooGreat wsX0_digits := goodIn_sub (fun _ h => List.mem_append_right _ (List.mem_append_right _ (List.mem_append_right _ (List.mem_append_right _ (List.mem_append_right _ h))))) al_wsX0_digits
set_option maxRecDepth 20000 in
theorem gX0_makeTooGreat_X0_digits : GoodIn wsX0_makeTooGreat (wsV RX0 149 RX0 yX0_digits wsX0_digits) := goodIn_app (goodIn_of _ (by decide +kernel)) ggX0_makeTooGreat_X0_digits
theorem ggX0_makeRounded_X0_digits : GoodIn wsX0_makeRounded wsX0_digits := goodIn_sub (fun _ h => List.mem_append_right _ (List.mem_append_left _ h)) al_wsX0_digits
set_option maxRecDepth 20000 in
theorem gX0_makeRounded_X0_digits : GoodIn wsX0_makeRounded (wsV RX0 149 RX0 yX0_digits wsX0_digits) := goodIn_app (goodIn_of _ (by decide +kernel)) ggX0_makeRounded_X0_digits
theorem ggX0_makeRounded_X0_wholePart : GoodIn wsX0_makeRounded wsX0_wholePart := goodIn_sub (fun _ h => List.mem_append_right _ (List.mem_append_right _ (List.mem_append_left _ h))) al_wsX0_wholePart
set_option maxRecDepth 20000 in
theorem gX0_makeRounded_X0_wholePart : GoodIn wsX0_makeRounded (va_wsS RX0 152 yX0_wholePart wsX0_wholePart) := goodIn_app (goodIn_of _ (by decide +kernel)) ggX0_makeRounded_X0_wholePart
theorem ggX0_makeRounded_X0_lostPart : GoodIn wsX0_makeRounded wsX0_lostPart := goodIn_sub (fun _ h => List.mem_append_right _ (List.mem_append_right _ (List.mem_append_right _ (List.mem_append_left _ h)))) al_wsX0_lostPart
set_option maxRecDepth 20000 in
theorem gX0_makeRounded_X0_lostPart : GoodIn wsX0_makeRounded (va_wsS RX0 156 yX0_lostPart wsX0_lostPart) := goodIn_app (goodIn_of _ (by decide +kernel)) ggX0_makeRounded_X0_lostPart
theorem ggX0_makeRounded_X0_takesAbove : GoodIn wsX0_makeRounded wsX0_takesAbove := goodIn_sub (fun _ h => List.mem_append_right _ (List.mem_append_right _ (List.mem_append_right _ (List.mem_append_right _ (List.mem_append_left _ h))))) al_wsX0_takesAbove
set_option maxRecDepth 20000 in
theorem gX0_makeRounded_X0_takesAbove : GoodIn wsX0_makeRounded (wsV RX0 159 RX0 yX0_takesAbove wsX0_takesAbove) := goodIn_app (goodIn_of _ (by decide +kernel)) ggX0_makeRounded_X0_takesAbove
theorem ggX0_makeRounded_X0_isMasked : GoodIn wsX0_makeRounded wsX0_isMasked := goodIn_sub (fun _ h => List.mem_append_right _ (List.mem_append_right _ (List.mem_append_right _ (List.mem_append_right _ (List.mem_append_right _ (List.mem_append_left _ h)))))) al_wsX0_isMasked
set_option maxRecDepth 20000 in
theorem gX0_makeRounded_X0_isMasked : GoodIn wsX0_makeRounded (wsV RX0 140 RX0 yX0_isMasked wsX0_isMasked) := goodIn_app (goodIn_of _ (by decide +kernel)) ggX0_makeRounded_X0_isMasked
theorem ggX0_makeRounded_X0_makeTooGreat : GoodIn wsX0_makeRounded wsX0_makeTooGreat := goodIn_sub (fun _ h => List.mem_append_right _ (List.mem_append_right _ (List.mem_append_right _ (List.mem_append_right _ (List.mem_append_right _ (List.mem_append_right _ (List.mem_append_left _ h))))))) al_wsX0_makeTooGreat
set_option maxRecDepth 20000 in
theorem gX0_makeRounded_X0_makeTooGreat : GoodIn wsX0_makeRounded (wsV RX0 167 RX0 yX0_makeTooGreat wsX0_makeTooGreat) := goodIn_app (goodIn_of _ (by decide +kernel)) ggX0_makeRounded_X0_makeTooGreat
theorem ggX0_makeRounded_X0_store : GoodIn wsX0_makeRounded wsX0_store := goodIn_sub (fun _ h => List.mem_append_right _ (List.mem_append_right _ (List.mem_append_right _ (List.mem_append_right _ (List.mem_append_right _ (List.mem_append_right _ (List.mem_append_right _ (List.mem_append_left _ h)))))))) al_wsX0_store
set_option maxRecDepth 20000 in
theorem gX0_makeRounded_X0_store : GoodIn wsX0_makeRounded (wsV RX0 109 RX0 yX0_store wsX0_store) := goodIn_app (goodIn_of _ (by decide +kernel)) ggX0_makeRounded_X0_store
theorem ggX0_makeRounded_X0_changeOf : GoodIn wsX0_makeRounded wsX0_changeOf := goodIn_sub (fun _ h => List.mem_append_right _ (List.mem_append_right _ (List.mem_append_right _ (List.mem_append_right _ (List.mem_append_right _ (List.mem_append_right _ (List.mem_append_right _ (List.mem_append_right _ (List.mem_append_left _ h))))))))) al_wsX0_changeOf
set_option maxRecDepth 20000 in
theorem gX0_makeRounded_X0_changeOf : GoodIn wsX0_makeRounded (va_wsS RX0 163 yX0_changeOf wsX0_changeOf) := goodIn_app (goodIn_of _ (by decide +kernel)) ggX0_makeRounded_X0_changeOf
theorem ggX0_makeRounded_X0_tell : GoodIn wsX0_makeRounded wsX0_tell := goodIn_sub (fun _ h => List.mem_append_right _ (List.mem_append_right _ (List.mem_append_right _ (List.mem_append_right _ (List.mem_append_right _ (List.mem_append_right _ (List.mem_append_right _ (List.mem_append_right _ (List.mem_append_right _ h))))))))) al_wsX0_tell
set_option maxRecDepth 20000 in
theorem gX0_makeRounded_X0_tell : GoodIn wsX0_makeRounded (wsV RX0 76 RX0 yX0_tell wsX0_tell) := goodIn_app (goodIn_of _ (by decide +kernel)) ggX0_makeRounded_X0_tell
theorem ggX0_makeSize_X0_store : GoodIn wsX0_makeSize wsX0_store := goodIn_sub (fun _ h => List.mem_append_right _ (List.mem_append_left _ h)) al_wsX0_store
set_option maxRecDepth 20000 in
theorem gX0_makeSize_X0_store : GoodIn wsX0_makeSize (wsV RX0 109 RX0 yX0_store wsX0_store) := goodIn_app (goodIn_of _ (by decide +kernel)) ggX0_makeSize_X0_store
theorem ggX0_makeSize_X0_tell : GoodIn wsX0_makeSize wsX0_tell := goodIn_sub (fun _ h => List.mem_append_right _ (List.mem_append_right _ (List.mem_append_left _ h))) al_wsX0_tell
set_option maxRecDepth 20000 in
theorem gX0_makeSize_X0_tell : GoodIn wsX0_makeSize (wsV RX0 76 RX0 yX0_tell wsX0_tell) := goodIn_app (goodIn_of _ (by decide +kernel)) ggX0_makeSize_X0_tell
theorem ggX0_makeSize_X0_isMasked : GoodIn wsX0_makeSize wsX0_isMasked := goodIn_sub (fun _ h => List.mem_append_right _ (List.mem_append_right _ (List.mem_append_right _ (List.mem_append_left _ h)))) al_wsX0_isMasked
set_option maxRecDepth 20000 in
theorem gX0_makeSize_X0_isMasked : GoodIn wsX0_makeSize (wsV RX0 140 RX0 yX0_isMasked wsX0_isMasked) := goodIn_app (goodIn_of _ (by decide +kernel)) ggX0_makeSize_X0_isMasked
theorem ggX0_makeSize_X0_makeSmall : GoodIn wsX0_makeSize wsX0_makeSmall := goodIn_sub (fun _ h => List.mem_append_right _ (List.mem_append_right _ (List.mem_append_right _ (List.mem_append_right _ (List.mem_append_left _ h))))) al_wsX0_makeSmall
set_option maxRecDepth 20000 in
theorem gX0_makeSize_X0_makeSmall : GoodIn wsX0_makeSize (wsV RX0 143 RX0 yX0_makeSmall wsX0_makeSmall) := goodIn_app (goodIn_of _ (by decide +kernel)) ggX0_makeSize_X0_makeSmall
theorem ggX0_makeSize_X0_makeRounded : GoodIn wsX0_makeSize wsX0_makeRounded := goodIn_sub (fun _ h => List.mem_append_right _ (List.mem_append_right _ (List.mem_append_right _ (List.mem_append_right _ (List.mem_append_right _ h))))) al_wsX0_makeRounded
set_option maxRecDepth 20000 in
theorem gX0_makeSize_X0_makeRounded : GoodIn wsX0_makeSize (wsV RX0 146 RX0 yX0_makeRounded wsX0_makeRounded) := goodIn_app (goodIn_of _ (by decide +kernel)) ggX0_makeSize_X0_makeRounded
theorem ggX0_make_X0_isNoRegister : GoodIn wsX0_make wsX0_isNoRegister := goodIn_sub (fun _ h => List.mem_append_right _ (List.mem_append_right _ (List.mem_append_right _ (List.mem_append_left _ h)))) al_wsX0_isNoRegister
set_option maxRecDepth 20000 in
theorem gX0_make_X0_isNoRegister : GoodIn wsX0_make (va_wsS RX0 34 yX0_isNoRegister wsX0_isNoRegister) := goodIn_app (goodIn_of _ (by decide +kernel)) ggX0_make_X0_isNoRegister
theorem ggX0_make_X0_join : GoodIn wsX0_make wsX0_join := goodIn_sub (fun _ h => List.mem_append_right _ (List.mem_append_right _ (List.mem_append_right _ (List.mem_append_right _ (List.mem_append_left _ h))))) al_wsX0_join
set_option maxRecDepth 20000 in
theorem gX0_make_X0_join : GoodIn wsX0_make (va_wsS RX0 44 yX0_join wsX0_join) := goodIn_app (goodIn_of _ (by decide +kernel)) ggX0_make_X0_join
theorem ggX0_make_JL_numberOfLeadingZeros : GoodIn wsX0_make wsJL_numberOfLeadingZeros := goodIn_sub (fun _ h => List.mem_append_right _ (List.mem_append_right _ (List.mem_append_right _ (List.mem_append_right _ (List.mem_append_right _ (List.mem_append_left _ h)))))) al_wsJL_numberOfLeadingZeros
set_option maxRecDepth 20000 in
theorem gX0_make_JL_numberOfLeadingZeros : GoodIn wsX0_make (va_wsS RX0 52 yJL_numberOfLeadingZeros wsJL_numberOfLeadingZeros) := goodIn_app (goodIn_of _ (by decide +kernel)) ggX0_make_JL_numberOfLeadingZeros
theorem ggX0_make_X0_shiftIn : GoodIn wsX0_make wsX0_shiftIn := goodIn_sub (fun _ h => List.mem_append_right _ (List.mem_append_right _ (List.mem_append_right _ (List.mem_append_right _ (List.mem_append_right _ (List.mem_append_right _ (List.mem_append_left _ h))))))) al_wsX0_shiftIn
set_option maxRecDepth 20000 in
theorem gX0_make_X0_shiftIn : GoodIn wsX0_make (va_wsS RX0 64 yX0_shiftIn wsX0_shiftIn) := goodIn_app (goodIn_of _ (by decide +kernel)) ggX0_make_X0_shiftIn
theorem ggX0_make_X0_makeSize : GoodIn wsX0_make wsX0_makeSize := goodIn_sub (fun _ h => List.mem_append_right _ (List.mem_append_right _ (List.mem_append_right _ (List.mem_append_right _ (List.mem_append_right _ (List.mem_append_right _ (List.mem_append_right _ h))))))) al_wsX0_makeSize
set_option maxRecDepth 20000 in
theorem gX0_make_X0_makeSize : GoodIn wsX0_make (wsV RX0 68 RX0 yX0_makeSize wsX0_makeSize) := goodIn_app (goodIn_of _ (by decide +kernel)) ggX0_make_X0_makeSize
theorem ggL_make_X0_make : GoodIn wsL_make wsX0_make := goodIn_sub (fun _ h => List.mem_append_right _ h) al_wsX0_make
set_option maxRecDepth 20000 in
theorem gL_make_X0_make : GoodIn wsL_make (wsV RL 25 RX0 yX0_make wsX0_make) := goodIn_app (goodIn_of _ (by decide +kernel)) ggL_make_X0_make
theorem ggX0_again_X0_isNoRegister : GoodIn wsX0_again wsX0_isNoRegister := goodIn_sub (fun _ h => List.mem_append_right _ (List.mem_append_right _ (List.mem_append_right _ (List.mem_append_left _ h)))) al_wsX0_isNoRegister
set_option maxRecDepth 20000 in
theorem gX0_again_X0_isNoRegister : GoodIn wsX0_again (va_wsS RX0 34 yX0_isNoRegister wsX0_isNoRegister) := goodIn_app (goodIn_of _ (by decide +kernel)) ggX0_again_X0_isNoRegister
theorem ggX0_again_X0_kindOf : GoodIn wsX0_again wsX0_kindOf := goodIn_sub (fun _ h => List.mem_append_right _ (List.mem_append_right _ (List.mem_append_right _ (List.mem_append_right _ (List.mem_append_left _ h))))) al_wsX0_kindOf
set_option maxRecDepth 20000 in
theorem gX0_again_X0_kindOf : GoodIn wsX0_again (wsV RX0 48 RX0 yX0_kindOf wsX0_kindOf) := goodIn_app (goodIn_of _ (by decide +kernel)) ggX0_again_X0_kindOf
theorem ggX0_again_X0_copy : GoodIn wsX0_again wsX0_copy := goodIn_sub (fun _ h => List.mem_append_right _ (List.mem_append_right _ (List.mem_append_right _ (List.mem_append_right _ (List.mem_append_right _ (List.mem_append_left _ h)))))) al_wsX0_copy
set_option maxRecDepth 20000 in
theorem gX0_again_X0_copy : GoodIn wsX0_again (wsV RX0 72 RX0 yX0_copy wsX0_copy) := goodIn_app (goodIn_of _ (by decide +kernel)) ggX0_again_X0_copy
theorem ggX0_again_X0_tell : GoodIn wsX0_again wsX0_tell := goodIn_sub (fun _ h => List.mem_append_right _ (List.mem_append_right _ (List.mem_append_right _ (List.mem_append_right _ (List.mem_append_right _ (List.mem_append_right _ (List.mem_append_left _ h))))))) al_wsX0_tell
set_option maxRecDepth 20000 in
theorem gX0_again_X0_tell : GoodIn wsX0_again (wsV RX0 76 RX0 yX0_tell wsX0_tell) := goodIn_app (goodIn_of _ (by decide +kernel)) ggX0_again_X0_tell
theorem ggX0_again_JL_numberOfLeadingZeros : GoodIn wsX0_again wsJL_numberOfLeadingZeros := goodIn_sub (fun _ h => List.mem_append_right _ (List.mem_append_right _ (List.mem_append_right _ (List.mem_append_right _ (List.mem_append_right _ (List.mem_append_right _ (List.mem_append_right _ (List.mem_append_left _ h)))))))) al_wsJL_numberOfLeadingZeros
set_option maxRecDepth 20000 in
theorem gX0_again_JL_numberOfLeadingZeros : GoodIn wsX0_again (va_wsS RX0 52 yJL_numberOfLeadingZeros wsJL_numberOfLeadingZeros) := goodIn_app (goodIn_of _ (by decide +kernel)) ggX0_again_JL_numberOfLeadingZeros
theorem ggX0_again_X0_powerOf : GoodIn wsX0_again wsX0_powerOf := goodIn_sub (fun _ h => List.mem_append_right _ (List.mem_append_right _ (List.mem_append_right _ (List.mem_append_right _ (List.mem_append_right _ (List.mem_append_right _ (List.mem_append_right _ (List.mem_append_right _ (List.mem_append_left _ h))))))))) al_wsX0_powerOf
set_option maxRecDepth 20000 in
theorem gX0_again_X0_powerOf : GoodIn wsX0_again (wsV RX0 80 RX0 yX0_powerOf wsX0_powerOf) := goodIn_app (goodIn_of _ (by decide +kernel)) ggX0_again_X0_powerOf
theorem ggX0_again_X0_isNegative : GoodIn wsX0_again wsX0_isNegative := goodIn_sub (fun _ h => List.mem_append_right _ (List.mem_append_right _ (List.mem_append_right _ (List.mem_append_right _ (List.mem_append_right _ (List.mem_append_right _ (List.mem_append_right _ (List.mem_append_right _ (List.mem_append_right _ (List.mem_append_left _ h)))))))))) al_wsX0_isNegative
set_option maxRecDepth 20000 in
theorem gX0_again_X0_isNegative : GoodIn wsX0_again (wsV RX0 89 RX0 yX0_isNegative wsX0_isNegative) := goodIn_app (goodIn_of _ (by decide +kernel)) ggX0_again_X0_isNegative
theorem ggX0_again_X0_shiftIn : GoodIn wsX0_again wsX0_shiftIn := goodIn_sub (fun _ h => List.mem_append_right _ (List.mem_append_right _ (List.mem_append_right _ (List.mem_append_right _ (List.mem_append_right _ (List.mem_append_right _ (List.mem_append_right _ (List.mem_append_right _ (List.mem_append_right _ (List.mem_append_right _ (List.mem_append_left _ h))))))))))) al_wsX0_shiftIn
set_option maxRecDepth 20000 in
theorem gX0_again_X0_shiftIn : GoodIn wsX0_again (va_wsS RX0 64 yX0_shiftIn wsX0_shiftIn) := goodIn_app (goodIn_of _ (by decide +kernel)) ggX0_again_X0_shiftIn
theorem ggX0_again_X0_makeSize : GoodIn wsX0_again wsX0_makeSize := goodIn_sub (fun _ h => List.mem_append_right _ (List.mem_append_right _ (List.mem_append_right _ (List.mem_append_right _ (List.mem_append_right _ (List.mem_append_right _ (List.mem_append_right _ (List.mem_append_right _ (List.mem_append_right _ (List.mem_append_right _ (List.mem_append_right _ h))))))))))) al_wsX0_makeSize
set_option maxRecDepth 20000 in
theorem gX0_again_X0_makeSize : GoodIn wsX0_again (wsV RX0 68 RX0 yX0_makeSize wsX0_makeSize) := goodIn_app (goodIn_of _ (by decide +kernel)) ggX0_again_X0_makeSize
theorem ggL_again_X0_again : GoodIn wsL_again wsX0_again := goodIn_sub (fun _ h => List.mem_append_right _ h) al_wsX0_again
set_option maxRecDepth 20000 in
theorem gL_again_X0_again : GoodIn wsL_again (wsV RL 29 RX0 yX0_again wsX0_again) := goodIn_app (goodIn_of _ (by decide +kernel)) ggL_again_X0_again
theorem ggL_last_X0_last : GoodIn wsL_last wsX0_last := goodIn_sub (fun _ h => List.mem_append_right _ h) al_wsX0_last
set_option maxRecDepth 20000 in
theorem gL_last_X0_last : GoodIn wsL_last (wsV RL 32 RX0 yX0_last wsX0_last) := goodIn_app (goodIn_of _ (by decide +kernel)) ggL_last_X0_last
theorem ggX0_signum_X0_kindOf : GoodIn wsX0_signum wsX0_kindOf := goodIn_sub (fun _ h => List.mem_append_right _ (List.mem_append_right _ (List.mem_append_left _ h))) al_wsX0_kindOf
set_option maxRecDepth 20000 in
theorem gX0_signum_X0_kindOf : GoodIn wsX0_signum (wsV RX0 48 RX0 yX0_kindOf wsX0_kindOf) := goodIn_app (goodIn_of _ (by decide +kernel)) ggX0_signum_X0_kindOf
theorem ggX0_signum_X0_isNegative : GoodIn wsX0_signum wsX0_isNegative := goodIn_sub (fun _ h => List.mem_append_right _ (List.mem_append_right _ (List.mem_append_right _ h))) al_wsX0_isNegative
set_option maxRecDepth 20000 in
theorem gX0_signum_X0_isNegative : GoodIn wsX0_signum (wsV RX0 89 RX0 yX0_isNegative wsX0_isNegative) := goodIn_app (goodIn_of _ (by decide +kernel)) ggX0_signum_X0_isNegative
theorem ggX0_plainShift_JL_numberOfLeadingZeros : GoodIn wsX0_plainShift wsJL_numberOfLeadingZeros := goodIn_sub (fun _ h => List.mem_append_right _ (List.mem_append_right _ (List.mem_append_left _ h))) al_wsJL_numberOfLeadingZeros
set_option maxRecDepth 20000 in
theorem gX0_plainShift_JL_numberOfLeadingZeros : GoodIn wsX0_plainShift (va_wsS RX0 52 yJL_numberOfLeadingZeros wsJL_numberOfLeadingZeros) := goodIn_app (goodIn_of _ (by decide +kernel)) ggX0_plainShift_JL_numberOfLeadingZeros
theorem ggX0_plainShift_X0_powerOf : GoodIn wsX0_plainShift wsX0_powerOf := goodIn_sub (fun _ h => List.mem_append_right _ (List.mem_append_right _ (List.mem_append_right _ h))) al_wsX0_powerOf
set_option maxRecDepth 20000 in
theorem gX0_plainShift_X0_powerOf : GoodIn wsX0_plainShift (wsV RX0 80 RX0 yX0_powerOf wsX0_powerOf) := goodIn_app (goodIn_of _ (by decide +kernel)) ggX0_plainShift_X0_powerOf
theorem ggX0_plainFraction_X0_powerOf : GoodIn wsX0_plainFraction wsX0_powerOf := goodIn_sub (fun _ h => List.mem_append_right _ (List.mem_append_right _ (List.mem_append_left _ h))) al_wsX0_powerOf
set_option maxRecDepth 20000 in
theorem gX0_plainFraction_X0_powerOf : GoodIn wsX0_plainFraction (wsV RX0 80 RX0 yX0_powerOf wsX0_powerOf) := goodIn_app (goodIn_of _ (by decide +kernel)) ggX0_plainFraction_X0_powerOf
theorem ggX0_plainFraction_X0_plainShift : GoodIn wsX0_plainFraction wsX0_plainShift := goodIn_sub (fun _ h => List.mem_append_right _ (List.mem_append_right _ (List.mem_append_right _ (List.mem_append_left _ h)))) al_wsX0_plainShift
set_option maxRecDepth 20000 in
theorem gX0_plainFraction_X0_plainShift : GoodIn wsX0_plainFraction (wsV RX0 183 RX0 yX0_plainShift wsX0_plainShift) := goodIn_app (goodIn_of _ (by decide +kernel)) ggX0_plainFraction_X0_plainShift
theorem ggX0_plainFraction_X0_shiftIn : GoodIn wsX0_plainFraction wsX0_shiftIn := goodIn_sub (fun _ h => List.mem_append_right _ (List.mem_append_right _ (List.mem_append_right _ (List.mem_append_right _ h)))) al_wsX0_shiftIn
set_option maxRecDepth 20000 in
theorem gX0_plainFraction_X0_shiftIn : GoodIn wsX0_plainFraction (va_wsS RX0 64 yX0_shiftIn wsX0_shiftIn) := goodIn_app (goodIn_of _ (by decide +kernel)) ggX0_plainFraction_X0_shiftIn
theorem ggX0_plainPower_X0_powerOf : GoodIn wsX0_plainPower wsX0_powerOf := goodIn_sub (fun _ h => List.mem_append_right _ (List.mem_append_left _ h)) al_wsX0_powerOf
set_option maxRecDepth 20000 in
theorem gX0_plainPower_X0_powerOf : GoodIn wsX0_plainPower (wsV RX0 80 RX0 yX0_powerOf wsX0_powerOf) := goodIn_app (goodIn_of _ (by decide +kernel)) ggX0_plainPower_X0_powerOf
theorem ggX0_plainPower_X0_plainFraction : GoodIn wsX0_plainPower wsX0_plainFraction := goodIn_sub (fun _ h => List.mem_append_right _ (List.mem_append_right _ (List.mem_append_left _ h))) al_wsX0_plainFraction
set_option maxRecDepth 20000 in
theorem gX0_plainPower_X0_plainFraction : GoodIn wsX0_plainPower (wsV RX0 116 RX0 yX0_plainFraction wsX0_plainFraction) := goodIn_app (goodIn_of _ (by decide +kernel)) ggX0_plainPower_X0_plainFraction
theorem ggX0_plainPower_X0_plainShift : GoodIn wsX0_plainPower wsX0_plainShift := goodIn_sub (fun _ h => List.mem_append_right _ (List.mem_append_right _ (List.mem_append_right _ h))) al_wsX0_plainShift
set_option maxRecDepth 20000 in
theorem gX0_plainPower_X0_plainShift : GoodIn wsX0_plainPower (wsV RX0 183 RX0 yX0_plainShift wsX0_plainShift) := goodIn_app (goodIn_of _ (by decide +kernel)) ggX0_plainPower_X0_plainShift
theorem ggJL_compareUnsigned_JL_compare : GoodIn wsJL_compareUnsigned wsJL_compare := goodIn_sub (fun _ h => List.mem_append_right _ h) al_wsJL_compare
set_option maxRecDepth 20000 in
theorem gJL_compareUnsigned_JL_compare : GoodIn wsJL_compareUnsigned (va_wsS RJL 302 yJL_compare wsJL_compare) := goodIn_app (goodIn_of _ (by decide +kernel)) ggJL_compareUnsigned_JL_compare
theorem ggX0_compareSizes_X0_plainPower : GoodIn wsX0_compareSizes wsX0_plainPower := goodIn_sub (fun _ h => List.mem_append_right _ (List.mem_append_left _ h)) al_wsX0_plainPower
set_option maxRecDepth 20000 in
theorem gX0_compareSizes_X0_plainPower : GoodIn wsX0_compareSizes (wsV RX0 113 RX0 yX0_plainPower wsX0_plainPower) := goodIn_app (goodIn_of _ (by decide +kernel)) ggX0_compareSizes_X0_plainPower
theorem ggX0_compareSizes_X0_plainFraction : GoodIn wsX0_compareSizes wsX0_plainFraction := goodIn_sub (fun _ h => List.mem_append_right _ (List.mem_append_right _ (List.mem_append_left _ h))) al_wsX0_plainFraction
set_option maxRecDepth 20000 in
theorem gX0_compareSizes_X0_plainFraction : GoodIn wsX0_compareSizes (wsV RX0 116 RX0 yX0_plainFraction wsX0_plainFraction) := goodIn_app (goodIn_of _ (by decide +kernel)) ggX0_compareSizes_X0_plainFraction
theorem ggX0_compareSizes_JL_compareUnsigned : GoodIn wsX0_compareSizes wsJL_compareUnsigned := goodIn_sub (fun _ h => List.mem_append_right _ (List.mem_append_right _ (List.mem_append_right _ (List.mem_append_left _ h)))) al_wsJL_compareUnsigned
set_option maxRecDepth 20000 in
theorem gX0_compareSizes_JL_compareUnsigned : GoodIn wsX0_compareSizes (va_wsS RX0 173 yJL_compareUnsigned wsJL_compareUnsigned) := goodIn_app (goodIn_of _ (by decide +kernel)) ggX0_compareSizes_JL_compareUnsigned
theorem ggX0_compareSizes_JI_signum : GoodIn wsX0_compareSizes wsJI_signum := goodIn_sub (fun _ h => List.mem_append_right _ (List.mem_append_right _ (List.mem_append_right _ (List.mem_append_right _ h)))) al_wsJI_signum
set_option maxRecDepth 20000 in
theorem gX0_compareSizes_JI_signum : GoodIn wsX0_compareSizes (va_wsS RX0 177 yJI_signum wsJI_signum) := goodIn_app (goodIn_of _ (by decide +kernel)) ggX0_compareSizes_JI_signum
theorem ggX0_compare_X0_isNoRegister : GoodIn wsX0_compare wsX0_isNoRegister := goodIn_sub (fun _ h => List.mem_append_right _ (List.mem_append_right _ (List.mem_append_left _ h))) al_wsX0_isNoRegister
set_option maxRecDepth 20000 in
theorem gX0_compare_X0_isNoRegister : GoodIn wsX0_compare (va_wsS RX0 34 yX0_isNoRegister wsX0_isNoRegister) := goodIn_app (goodIn_of _ (by decide +kernel)) ggX0_compare_X0_isNoRegister
theorem ggX0_compare_X0_kindOf : GoodIn wsX0_compare wsX0_kindOf := goodIn_sub (fun _ h => List.mem_append_right _ (List.mem_append_right _ (List.mem_append_right _ (List.mem_append_left _ h)))) al_wsX0_kindOf
set_option maxRecDepth 20000 in
theorem gX0_compare_X0_kindOf : GoodIn wsX0_compare (wsV RX0 48 RX0 yX0_kindOf wsX0_kindOf) := goodIn_app (goodIn_of _ (by decide +kernel)) ggX0_compare_X0_kindOf
theorem ggX0_compare_X0_signum : GoodIn wsX0_compare wsX0_signum := goodIn_sub (fun _ h => List.mem_append_right _ (List.mem_append_right _ (List.mem_append_right _ (List.mem_append_right _ (List.mem_append_left _ h))))) al_wsX0_signum
set_option maxRecDepth 20000 in
theorem gX0_compare_X0_signum : GoodIn wsX0_compare (wsV RX0 103 RX0 yX0_signum wsX0_signum) := goodIn_app (goodIn_of _ (by decide +kernel)) ggX0_compare_X0_signum
theorem ggX0_compare_X0_compareSizes : GoodIn wsX0_compare wsX0_compareSizes := goodIn_sub (fun _ h => List.mem_append_right _ (List.mem_append_right _ (List.mem_append_right _ (List.mem_append_right _ (List.mem_append_right _ h))))) al_wsX0_compareSizes
set_option maxRecDepth 20000 in
theorem gX0_compare_X0_compareSizes : GoodIn wsX0_compare (wsV RX0 106 RX0 yX0_compareSizes wsX0_compareSizes) := goodIn_app (goodIn_of _ (by decide +kernel)) ggX0_compare_X0_compareSizes
theorem ggL_compare_X0_compare : GoodIn wsL_compare wsX0_compare := goodIn_sub (fun _ h => List.mem_append_right _ h) al_wsX0_compare
set_option maxRecDepth 20000 in
theorem gL_compare_X0_compare : GoodIn wsL_compare (wsV RL 36 RX0 yX0_compare wsX0_compare) := goodIn_app (goodIn_of _ (by decide +kernel)) ggL_compare_X0_compare
theorem ggX0_storeNextGreater_X0_store : GoodIn wsX0_storeNextGreater wsX0_store := goodIn_sub (fun _ h => List.mem_append_right _ h) al_wsX0_store
set_option maxRecDepth 20000 in
theorem gX0_storeNextGreater_X0_store : GoodIn wsX0_storeNextGreater (wsV RX0 109 RX0 yX0_store wsX0_store) := goodIn_app (goodIn_of _ (by decide +kernel)) ggX0_storeNextGreater_X0_store
theorem ggX0_storeNextLesser_X0_store : GoodIn wsX0_storeNextLesser wsX0_store := goodIn_sub (fun _ h => List.mem_append_right _ h) al_wsX0_store
set_option maxRecDepth 20000 in
theorem gX0_storeNextLesser_X0_store : GoodIn wsX0_storeNextLesser (wsV RX0 109 RX0 yX0_store wsX0_store) := goodIn_app (goodIn_of _ (by decide +kernel)) ggX0_storeNextLesser_X0_store
theorem ggX0_neighbour_X0_isNoRegister : GoodIn wsX0_neighbour wsX0_isNoRegister := goodIn_sub (fun _ h => List.mem_append_right _ (List.mem_append_right _ (List.mem_append_left _ h))) al_wsX0_isNoRegister
set_option maxRecDepth 20000 in
theorem gX0_neighbour_X0_isNoRegister : GoodIn wsX0_neighbour (va_wsS RX0 34 yX0_isNoRegister wsX0_isNoRegister) := goodIn_app (goodIn_of _ (by decide +kernel)) ggX0_neighbour_X0_isNoRegister
theorem ggX0_neighbour_X0_kindOf : GoodIn wsX0_neighbour wsX0_kindOf := goodIn_sub (fun _ h => List.mem_append_right _ (List.mem_append_right _ (List.mem_append_right _ (List.mem_append_left _ h)))) al_wsX0_kindOf
set_option maxRecDepth 20000 in
theorem gX0_neighbour_X0_kindOf : GoodIn wsX0_neighbour (wsV RX0 48 RX0 yX0_kindOf wsX0_kindOf) := goodIn_app (goodIn_of _ (by decide +kernel)) ggX0_neighbour_X0_kindOf
theorem ggX0_neighbour_X0_isNegative : GoodIn wsX0_neighbour wsX0_isNegative := goodIn_sub (fun _ h => List.mem_append_right _ (List.mem_append_right _ (List.mem_append_right _ (List.mem_append_right _ (List.mem_append_left _ h))))) al_wsX0_isNegative
set_option maxRecDepth 20000 in
theorem gX0_neighbour_X0_isNegative : GoodIn wsX0_neighbour (wsV RX0 89 RX0 yX0_isNegative wsX0_isNegative) := goodIn_app (goodIn_of _ (by decide +kernel)) ggX0_neighbour_X0_isNegative
theorem ggX0_neighbour_X0_copy : GoodIn wsX0_neighbour wsX0_copy := goodIn_sub (fun _ h => List.mem_append_right _ (List.mem_append_right _ (List.mem_append_right _ (List.mem_append_right _ (List.mem_append_right _ (List.mem_append_left _ h)))))) al_wsX0_copy
set_option maxRecDepth 20000 in
theorem gX0_neighbour_X0_copy : GoodIn wsX0_neighbour (wsV RX0 72 RX0 yX0_copy wsX0_copy) := goodIn_app (goodIn_of _ (by decide +kernel)) ggX0_neighbour_X0_copy
theorem ggX0_neighbour_X0_signum : GoodIn wsX0_neighbour wsX0_signum := goodIn_sub (fun _ h => List.mem_append_right _ (List.mem_append_right _ (List.mem_append_right _ (List.mem_append_right _ (List.mem_append_right _ (List.mem_append_right _ (List.mem_append_left _ h))))))) al_wsX0_signum
set_option maxRecDepth 20000 in
theorem gX0_neighbour_X0_signum : GoodIn wsX0_neighbour (wsV RX0 103 RX0 yX0_signum wsX0_signum) := goodIn_app (goodIn_of _ (by decide +kernel)) ggX0_neighbour_X0_signum
theorem ggX0_neighbour_X0_store : GoodIn wsX0_neighbour wsX0_store := goodIn_sub (fun _ h => List.mem_append_right _ (List.mem_append_right _ (List.mem_append_right _ (List.mem_append_right _ (List.mem_append_right _ (List.mem_append_right _ (List.mem_append_right _ (List.mem_append_left _ h)))))))) al_wsX0_store
set_option maxRecDepth 20000 in
theorem gX0_neighbour_X0_store : GoodIn wsX0_neighbour (wsV RX0 109 RX0 yX0_store wsX0_store) := goodIn_app (goodIn_of _ (by decide +kernel)) ggX0_neighbour_X0_store
theorem ggX0_neighbour_X0_plainPower : GoodIn wsX0_neighbour wsX0_plainPower := goodIn_sub (fun _ h => List.mem_append_right _ (List.mem_append_right _ (List.mem_append_right _ (List.mem_append_right _ (List.mem_append_right _ (List.mem_append_right _ (List.mem_append_right _ (List.mem_append_right _ (List.mem_append_left _ h))))))))) al_wsX0_plainPower
set_option maxRecDepth 20000 in
theorem gX0_neighbour_X0_plainPower : GoodIn wsX0_neighbour (wsV RX0 113 RX0 yX0_plainPower wsX0_plainPower) := goodIn_app (goodIn_of _ (by decide +kernel)) ggX0_neighbour_X0_plainPower
theorem ggX0_neighbour_X0_plainFraction : GoodIn wsX0_neighbour wsX0_plainFraction := goodIn_sub (fun _ h => List.mem_append_right _ (List.mem_append_right _ (List.mem_append_right _ (List.mem_append_right _ (List.mem_append_right _ (List.mem_append_right _ (List.mem_append_right _ (List.mem_append_right _ (List.mem_append_right _ (List.mem_append_left _ h)))))))))) al_wsX0_plainFraction
set_option maxRecDepth 20000 in
theorem gX0_neighbour_X0_plainFraction : GoodIn wsX0_neighbour (wsV RX0 116 RX0 yX0_plainFraction wsX0_plainFraction) := goodIn_app (goodIn_of _ (by decide +kernel)) ggX0_neighbour_X0_plainFraction
theorem ggX0_neighbour_X0_storeNextGreater : GoodIn wsX0_neighbour wsX0_storeNextGreater := goodIn_sub (fun _ h => List.mem_append_right _ (List.mem_append_right _ (List.mem_append_right _ (List.mem_append_right _ (List.mem_append_right _ (List.mem_append_right _ (List.mem_append_right _ (List.mem_append_right _ (List.mem_append_right _ (List.mem_append_right _ (List.mem_append_left _ h))))))))))) al_wsX0_storeNextGreater
set_option maxRecDepth 20000 in
theorem gX0_neighbour_X0_storeNextGreater : GoodIn wsX0_neighbour (wsV RX0 120 RX0 yX0_storeNextGreater wsX0_storeNextGreater) := goodIn_app (goodIn_of _ (by decide +kernel)) ggX0_neighbour_X0_storeNextGreater
theorem ggX0_neighbour_X0_storeNextLesser : GoodIn wsX0_neighbour wsX0_storeNextLesser := goodIn_sub (fun _ h => List.mem_append_right _ (List.mem_append_right _ (List.mem_append_right _ (List.mem_append_right _ (List.mem_append_right _ (List.mem_append_right _ (List.mem_append_right _ (List.mem_append_right _ (List.mem_append_right _ (List.mem_append_right _ (List.mem_append_right _ h))))))))))) al_wsX0_storeNextLesser
set_option maxRecDepth 20000 in
theorem gX0_neighbour_X0_storeNextLesser : GoodIn wsX0_neighbour (wsV RX0 123 RX0 yX0_storeNextLesser wsX0_storeNextLesser) := goodIn_app (goodIn_of _ (by decide +kernel)) ggX0_neighbour_X0_storeNextLesser
theorem ggL_neighbour_X0_neighbour : GoodIn wsL_neighbour wsX0_neighbour := goodIn_sub (fun _ h => List.mem_append_right _ h) al_wsX0_neighbour
set_option maxRecDepth 20000 in
theorem gL_neighbour_X0_neighbour : GoodIn wsL_neighbour (wsV RL 39 RX0 yX0_neighbour wsX0_neighbour) := goodIn_app (goodIn_of _ (by decide +kernel)) ggL_neighbour_X0_neighbour
theorem ggX1_set_X1_none : GoodIn wsX1_set wsX1_none := goodIn_sub (fun _ h => List.mem_append_right _ (List.mem_append_right _ h)) al_wsX1_none
set_option maxRecDepth 20000 in
theorem gX1_set_X1_none : GoodIn wsX1_set (va_wsS RX1 28 yX1_none wsX1_none) := goodIn_app (goodIn_of _ (by decide +kernel)) ggX1_set_X1_none
theorem ggX1_part_X1_none : GoodIn wsX1_part wsX1_none := goodIn_sub (fun _ h => List.mem_append_right _ (List.mem_append_right _ (List.mem_append_left _ h))) al_wsX1_none
set_option maxRecDepth 20000 in
theorem gX1_part_X1_none : GoodIn wsX1_part (va_wsS RX1 28 yX1_none wsX1_none) := goodIn_app (goodIn_of _ (by decide +kernel)) ggX1_part_X1_none
theorem ggX1_part_X1_kind : GoodIn wsX1_part wsX1_kind := goodIn_sub (fun _ h => List.mem_append_right _ (List.mem_append_right _ (List.mem_append_right _ h))) al_wsX1_kind
set_option maxRecDepth 20000 in
theorem gX1_part_X1_kind : GoodIn wsX1_part (wsV RX1 39 RX1 yX1_kind wsX1_kind) := goodIn_app (goodIn_of _ (by decide +kernel)) ggX1_part_X1_kind
theorem ggX1_make0_X1_result : GoodIn wsX1_make0 wsX1_result := goodIn_sub (fun _ h => List.mem_append_right _ (List.mem_append_right _ (List.mem_append_left _ h))) al_wsX1_result
set_option maxRecDepth 20000 in
theorem gX1_make0_X1_result : GoodIn wsX1_make0 (wsV RX1 79 RX1 yX1_result wsX1_result) := goodIn_app (goodIn_of _ (by decide +kernel)) ggX1_make0_X1_result
theorem ggX1_make0_X1_round : GoodIn wsX1_make0 wsX1_round := goodIn_sub (fun _ h => List.mem_append_right _ (List.mem_append_right _ (List.mem_append_right _ h))) al_wsX1_round
set_option maxRecDepth 20000 in
theorem gX1_make0_X1_round : GoodIn wsX1_make0 (wsV RX1 83 RX1 yX1_round wsX1_round) := goodIn_app (goodIn_of _ (by decide +kernel)) ggX1_make0_X1_round
theorem ggX1_make_X1_none : GoodIn wsX1_make wsX1_none := goodIn_sub (fun _ h => List.mem_append_right _ (List.mem_append_right _ (List.mem_append_left _ h))) al_wsX1_none
set_option maxRecDepth 20000 in
theorem gX1_make_X1_none : GoodIn wsX1_make (va_wsS RX1 28 yX1_none wsX1_none) := goodIn_app (goodIn_of _ (by decide +kernel)) ggX1_make_X1_none
theorem ggX1_make_X1_make0 : GoodIn wsX1_make wsX1_make0 := goodIn_sub (fun _ h => List.mem_append_right _ (List.mem_append_right _ (List.mem_append_right _ (List.mem_append_left _ h)))) al_wsX1_make0
set_option maxRecDepth 20000 in
theorem gX1_make_X1_make0 : GoodIn wsX1_make (wsV RX1 89 RX1 yX1_make0 wsX1_make0) := goodIn_app (goodIn_of _ (by decide +kernel)) ggX1_make_X1_make0
theorem ggX1_make_X1_keep : GoodIn wsX1_make wsX1_keep := goodIn_sub (fun _ h => List.mem_append_right _ (List.mem_append_right _ (List.mem_append_right _ (List.mem_append_right _ h)))) al_wsX1_keep
set_option maxRecDepth 20000 in
theorem gX1_make_X1_keep : GoodIn wsX1_make (wsV RX1 92 RX1 yX1_keep wsX1_keep) := goodIn_app (goodIn_of _ (by decide +kernel)) ggX1_make_X1_keep
theorem ggX1_again_X1_none : GoodIn wsX1_again wsX1_none := goodIn_sub (fun _ h => List.mem_append_right _ (List.mem_append_right _ (List.mem_append_left _ h))) al_wsX1_none
set_option maxRecDepth 20000 in
theorem gX1_again_X1_none : GoodIn wsX1_again (va_wsS RX1 28 yX1_none wsX1_none) := goodIn_app (goodIn_of _ (by decide +kernel)) ggX1_again_X1_none
theorem ggX1_again_X1_kind : GoodIn wsX1_again wsX1_kind := goodIn_sub (fun _ h => List.mem_append_right _ (List.mem_append_right _ (List.mem_append_right _ (List.mem_append_left _ h)))) al_wsX1_kind
set_option maxRecDepth 20000 in
theorem gX1_again_X1_kind : GoodIn wsX1_again (wsV RX1 39 RX1 yX1_kind wsX1_kind) := goodIn_app (goodIn_of _ (by decide +kernel)) ggX1_again_X1_kind
theorem ggX1_again_X1_keep : GoodIn wsX1_again wsX1_keep := goodIn_sub (fun _ h => List.mem_append_right _ (List.mem_append_right _ (List.mem_append_right _ (List.mem_append_right _ (List.mem_append_left _ h))))) al_wsX1_keep
set_option maxRecDepth 20000 in
theorem gX1_again_X1_keep : GoodIn wsX1_again (wsV RX1 92 RX1 yX1_keep wsX1_keep) := goodIn_app (goodIn_of _ (by decide +kernel)) ggX1_again_X1_keep
theorem ggX1_again_X1_powerOf : GoodIn wsX1_again wsX1_powerOf := goodIn_sub (fun _ h => List.mem_append_right _ (List.mem_append_right _ (List.mem_append_right _ (List.mem_append_right _ (List.mem_append_right _ (List.mem_append_left _ h)))))) al_wsX1_powerOf
set_option maxRecDepth 20000 in
theorem gX1_again_X1_powerOf : GoodIn wsX1_again (wsV RX1 95 RX1 yX1_powerOf wsX1_powerOf) := goodIn_app (goodIn_of _ (by decide +kernel)) ggX1_again_X1_powerOf
theorem ggX1_again_X1_make0 : GoodIn wsX1_again wsX1_make0 := goodIn_sub (fun _ h => List.mem_append_right _ (List.mem_append_right _ (List.mem_append_right _ (List.mem_append_right _ (List.mem_append_right _ (List.mem_append_right _ h)))))) al_wsX1_make0
set_option maxRecDepth 20000 in
theorem gX1_again_X1_make0 : GoodIn wsX1_again (wsV RX1 89 RX1 yX1_make0 wsX1_make0) := goodIn_app (goodIn_of _ (by decide +kernel)) ggX1_again_X1_make0
theorem ggX1_isNothing_X1_kind : GoodIn wsX1_isNothing wsX1_kind := goodIn_sub (fun _ h => List.mem_append_right _ (List.mem_append_right _ h)) al_wsX1_kind
set_option maxRecDepth 20000 in
theorem gX1_isNothing_X1_kind : GoodIn wsX1_isNothing (wsV RX1 39 RX1 yX1_kind wsX1_kind) := goodIn_app (goodIn_of _ (by decide +kernel)) ggX1_isNothing_X1_kind
theorem ggX1_compareSizes_X1_kind : GoodIn wsX1_compareSizes wsX1_kind := goodIn_sub (fun _ h => List.mem_append_right _ (List.mem_append_right _ (List.mem_append_left _ h))) al_wsX1_kind
set_option maxRecDepth 20000 in
theorem gX1_compareSizes_X1_kind : GoodIn wsX1_compareSizes (wsV RX1 39 RX1 yX1_kind wsX1_kind) := goodIn_app (goodIn_of _ (by decide +kernel)) ggX1_compareSizes_X1_kind
theorem ggX1_compareSizes_X1_isNothing : GoodIn wsX1_compareSizes wsX1_isNothing := goodIn_sub (fun _ h => List.mem_append_right _ (List.mem_append_right _ (List.mem_append_right _ (List.mem_append_left _ h)))) al_wsX1_isNothing
set_option maxRecDepth 20000 in
theorem gX1_compareSizes_X1_isNothing : GoodIn wsX1_compareSizes (wsV RX1 98 RX1 yX1_isNothing wsX1_isNothing) := goodIn_app (goodIn_of _ (by decide +kernel)) ggX1_compareSizes_X1_isNothing
theorem ggX1_compareSizes_X1_powerOf : GoodIn wsX1_compareSizes wsX1_powerOf := goodIn_sub (fun _ h => List.mem_append_right _ (List.mem_append_right _ (List.mem_append_right _ (List.mem_append_right _ h)))) al_wsX1_powerOf
set_option maxRecDepth 20000 in
theorem gX1_compareSizes_X1_powerOf : GoodIn wsX1_compareSizes (wsV RX1 95 RX1 yX1_powerOf wsX1_powerOf) := goodIn_app (goodIn_of _ (by decide +kernel)) ggX1_compareSizes_X1_powerOf
theorem ggX1_compare_X1_none : GoodIn wsX1_compare wsX1_none := goodIn_sub (fun _ h => List.mem_append_right _ (List.mem_append_right _ (List.mem_append_left _ h))) al_wsX1_none
set_option maxRecDepth 20000 in
theorem gX1_compare_X1_none : GoodIn wsX1_compare (va_wsS RX1 28 yX1_none wsX1_none) := goodIn_app (goodIn_of _ (by decide +kernel)) ggX1_compare_X1_none
theorem ggX1_compare_X1_kind : GoodIn wsX1_compare wsX1_kind := goodIn_sub (fun _ h => List.mem_append_right _ (List.mem_append_right _ (List.mem_append_right _ (List.mem_append_left _ h)))) al_wsX1_kind
set_option maxRecDepth 20000 in
theorem gX1_compare_X1_kind : GoodIn wsX1_compare (wsV RX1 39 RX1 yX1_kind wsX1_kind) := goodIn_app (goodIn_of _ (by decide +kernel)) ggX1_compare_X1_kind
theorem ggX1_compare_X1_isNothing : GoodIn wsX1_compare wsX1_isNothing := goodIn_sub (fun _ h => List.mem_append_right _ (List.mem_append_right _ (List.mem_append_right _ (List.mem_append_right _ (List.mem_append_left _ h))))) al_wsX1_isNothing
set_option maxRecDepth 20000 in
theorem gX1_compare_X1_isNothing : GoodIn wsX1_compare (wsV RX1 98 RX1 yX1_isNothing wsX1_isNothing) := goodIn_app (goodIn_of _ (by decide +kernel)) ggX1_compare_X1_isNothing
theorem ggX1_compare_X1_compareSizes : GoodIn wsX1_compare wsX1_compareSizes := goodIn_sub (fun _ h => List.mem_append_right _ (List.mem_append_right _ (List.mem_append_right _ (List.mem_append_right _ (List.mem_append_right _ h))))) al_wsX1_compareSizes
set_option maxRecDepth 20000 in
theorem gX1_compare_X1_compareSizes : GoodIn wsX1_compare (wsV RX1 101 RX1 yX1_compareSizes wsX1_compareSizes) := goodIn_app (goodIn_of _ (by decide +kernel)) ggX1_compare_X1_compareSizes
theorem ggX1_neighbour_X1_none : GoodIn wsX1_neighbour wsX1_none := goodIn_sub (fun _ h => List.mem_append_right _ (List.mem_append_right _ (List.mem_append_left _ h))) al_wsX1_none
set_option maxRecDepth 20000 in
theorem gX1_neighbour_X1_none : GoodIn wsX1_neighbour (va_wsS RX1 28 yX1_none wsX1_none) := goodIn_app (goodIn_of _ (by decide +kernel)) ggX1_neighbour_X1_none
theorem ggX1_neighbour_X1_kind : GoodIn wsX1_neighbour wsX1_kind := goodIn_sub (fun _ h => List.mem_append_right _ (List.mem_append_right _ (List.mem_append_right _ (List.mem_append_left _ h)))) al_wsX1_kind
set_option maxRecDepth 20000 in
theorem gX1_neighbour_X1_kind : GoodIn wsX1_neighbour (wsV RX1 39 RX1 yX1_kind wsX1_kind) := goodIn_app (goodIn_of _ (by decide +kernel)) ggX1_neighbour_X1_kind
theorem ggX1_neighbour_X1_isNothing : GoodIn wsX1_neighbour wsX1_isNothing := goodIn_sub (fun _ h => List.mem_append_right _ (List.mem_append_right _ (List.mem_append_right _ (List.mem_append_right _ h)))) al_wsX1_isNothing
set_option maxRecDepth 20000 in
theorem gX1_neighbour_X1_isNothing : GoodIn wsX1_neighbour (wsV RX1 98 RX1 yX1_isNothing wsX1_isNothing) := goodIn_app (goodIn_of _ (by decide +kernel)) ggX1_neighbour_X1_isNothing
theorem ggL_law_X0_init : GoodIn wsL_law wsX0_init := goodIn_sub (fun _ h => List.mem_append_right _ (List.mem_append_right _ (List.mem_append_right _ (List.mem_append_left _ h)))) al_wsX0_init
theorem ggL_law_X1_init : GoodIn wsL_law wsX1_init := goodIn_sub (fun _ h => List.mem_append_right _ (List.mem_append_right _ (List.mem_append_right _ (List.mem_append_right _ (List.mem_append_left _ h))))) al_wsX1_init
theorem ggL_law_L_control : GoodIn wsL_law wsL_control := goodIn_sub (fun _ h => List.mem_append_right _ (List.mem_append_right _ (List.mem_append_right _ (List.mem_append_right _ (List.mem_append_right _ (List.mem_append_left _ h)))))) al_wsL_control
set_option maxRecDepth 20000 in
theorem gL_law_L_control : GoodIn wsL_law (va_wsS RL 47 yL_control wsL_control) := goodIn_app (goodIn_of _ (by decide +kernel)) ggL_law_L_control
theorem ggL_law_X1_control : GoodIn wsL_law wsX1_control := goodIn_sub (fun _ h => List.mem_append_right _ (List.mem_append_right _ (List.mem_append_right _ (List.mem_append_right _ (List.mem_append_right _ (List.mem_append_right _ (List.mem_append_left _ h))))))) al_wsX1_control
set_option maxRecDepth 20000 in
theorem gL_law_X1_control : GoodIn wsL_law (wsV RL 52 RX1 yX1_control wsX1_control) := goodIn_app (goodIn_of _ (by decide +kernel)) ggL_law_X1_control
theorem ggL_law_X1_thrown : GoodIn wsL_law wsX1_thrown := goodIn_sub (fun _ h => List.mem_append_right _ (List.mem_append_right _ (List.mem_append_right _ (List.mem_append_right _ (List.mem_append_right _ (List.mem_append_right _ (List.mem_append_right _ (List.mem_append_left _ h)))))))) al_wsX1_thrown
set_option maxRecDepth 20000 in
theorem gL_law_X1_thrown : GoodIn wsL_law (wsV RL 53 RX1 yX1_thrown wsX1_thrown) := goodIn_app (goodIn_of _ (by decide +kernel)) ggL_law_X1_thrown
theorem ggL_law_L_set : GoodIn wsL_law wsL_set := goodIn_sub (fun _ h => List.mem_append_right _ (List.mem_append_right _ (List.mem_append_right _ (List.mem_append_right _ (List.mem_append_right _ (List.mem_append_right _ (List.mem_append_right _ (List.mem_append_right _ (List.mem_append_left _ h))))))))) al_wsL_set
set_option maxRecDepth 20000 in
theorem gL_law_L_set : GoodIn wsL_law (va_wsS RL 57 yL_set wsL_set) := goodIn_app (goodIn_of _ (by decide +kernel)) ggL_law_L_set
theorem ggL_law_X1_set : GoodIn wsL_law wsX1_set := goodIn_sub (fun _ h => List.mem_append_right _ (List.mem_append_right _ (List.mem_append_right _ (List.mem_append_right _ (List.mem_append_right _ (List.mem_append_right _ (List.mem_append_right _ (List.mem_append_right _ (List.mem_append_right _ (List.mem_append_left _ h)))))))))) al_wsX1_set
set_option maxRecDepth 20000 in
theorem gL_law_X1_set : GoodIn wsL_law (wsV RL 60 RX1 yX1_set wsX1_set) := goodIn_app (goodIn_of _ (by decide +kernel)) ggL_law_X1_set
theorem ggL_law_L_part : GoodIn wsL_law wsL_part := goodIn_sub (fun _ h => List.mem_append_right _ (List.mem_append_right _ (List.mem_append_right _ (List.mem_append_right _ (List.mem_append_right _ (List.mem_append_right _ (List.mem_append_right _ (List.mem_append_right _ (List.mem_append_right _ (List.mem_append_right _ (List.mem_append_left _ h))))))))))) al_wsL_part
set_option maxRecDepth 20000 in
theorem gL_law_L_part : GoodIn wsL_law (va_wsS RL 61 yL_part wsL_part) := goodIn_app (goodIn_of _ (by decide +kernel)) ggL_law_L_part
theorem ggL_law_X1_part : GoodIn wsL_law wsX1_part := goodIn_sub (fun _ h => List.mem_append_right _ (List.mem_append_right _ (List.mem_append_right _ (List.mem_append_right _ (List.mem_append_right _ (List.mem_append_right _ (List.mem_append_right _ (List.mem_append_right _ (List.mem_append_right _ (List.mem_append_right _ (List.mem_append_right _ (List.mem_append_left _ h)))))))))))) al_wsX1_part
set_option maxRecDepth 20000 in
theorem gL_law_X1_part : GoodIn wsL_law (wsV RL 64 RX1 yX1_part wsX1_part) := goodIn_app (goodIn_of _ (by decide +kernel)) ggL_law_X1_part
theorem ggL_law_L_make : GoodIn wsL_law wsL_make := goodIn_sub (fun _ h => List.mem_append_right _ (List.mem_append_right _ (List.mem_append_right _ (List.mem_append_right _ (List.mem_append_right _ (List.mem_append_right _ (List.mem_append_right _ (List.mem_append_right _ (List.mem_append_right _ (List.mem_append_right _ (List.mem_append_right _ (List.mem_append_right _ (List.mem_append_left _ h))))))))))))) al_wsL_make
set_option maxRecDepth 20000 in
theorem gL_law_L_make : GoodIn wsL_law (va_wsS RL 65 yL_make wsL_make) := goodIn_app (goodIn_of _ (by decide +kernel)) ggL_law_L_make
theorem ggL_law_X1_make : GoodIn wsL_law wsX1_make := goodIn_sub (fun _ h => List.mem_append_right _ (List.mem_append_right _ (List.mem_append_right _ (List.mem_append_right _ (List.mem_append_right _ (List.mem_append_right _ (List.mem_append_right _ (List.mem_append_right _ (List.mem_append_right _ (List.mem_append_right _ (List.mem_append_right _ (List.mem_append_right _ (List.mem_append_right _ (List.mem_append_left _ h)))))))))))))) al_wsX1_make
set_option maxRecDepth 20000 in
theorem gL_law_X1_make : GoodIn wsL_law (wsV RL 68 RX1 yX1_make wsX1_make) := goodIn_app (goodIn_of _ (by decide +kernel)) ggL_law_X1_make
theorem ggL_law_L_again : GoodIn wsL_law wsL_again := goodIn_sub (fun _ h => List.mem_append_right _ (List.mem_append_right _ (List.mem_append_right _ (List.mem_append_right _ (List.mem_append_right _ (List.mem_append_right _ (List.mem_append_right _ (List.mem_append_right _ (List.mem_append_right _ (List.mem_append_right _ (List.mem_append_right _ (List.mem_append_right _ (List.mem_append_right _ (List.mem_append_right _ (List.mem_append_left _ h))))))))))))))) al_wsL_again
set_option maxRecDepth 20000 in
theorem gL_law_L_again : GoodIn wsL_law (va_wsS RL 69 yL_again wsL_again) := goodIn_app (goodIn_of _ (by decide +kernel)) ggL_law_L_again
theorem ggL_law_X1_again : GoodIn wsL_law wsX1_again := goodIn_sub (fun _ h => List.mem_append_right _ (List.mem_append_right _ (List.mem_append_right _ (List.mem_append_right _ (List.mem_append_right _ (List.mem_append_right _ (List.mem_append_right _ (List.mem_append_right _ (List.mem_append_right _ (List.mem_append_right _ (List.mem_append_right _ (List.mem_append_right _ (List.mem_append_right _ (List.mem_append_right _ (List.mem_append_right _ (List.mem_append_left _ h)))))))))))))))) al_wsX1_again
set_option maxRecDepth 20000 in
theorem gL_law_X1_again : GoodIn wsL_law (wsV RL 71 RX1 yX1_again wsX1_again) := goodIn_app (goodIn_of _ (by decide +kernel)) ggL_law_X1_again
theorem ggL_law_L_last : GoodIn wsL_law wsL_last := goodIn_sub (fun _ h => List.mem_append_right _ (List.mem_append_right _ (List.mem_append_right _ (List.mem_append_right _ (List.mem_append_right _ (List.mem_append_right _ (List.mem_append_right _ (List.mem_append_right _ (List.mem_append_right _ (List.mem_append_right _ (List.mem_append_right _ (List.mem_append_right _ (List.mem_append_right _ (List.mem_append_right _ (List.mem_append_right _ (List.mem_append_right _ (List.mem_append_left _ h))))))))))))))))) al_wsL_last
set_option maxRecDepth 20000 in
theorem gL_law_L_last : GoodIn wsL_law (va_wsS RL 72 yL_last wsL_last) := goodIn_app (goodIn_of _ (by decide +kernel)) ggL_law_L_last
theorem ggL_law_X1_last : GoodIn wsL_law wsX1_last := goodIn_sub (fun _ h => List.mem_append_right _ (List.mem_append_right _ (List.mem_append_right _ (List.mem_append_right _ (List.mem_append_right _ (List.mem_append_right _ (List.mem_append_right _ (List.mem_append_right _ (List.mem_append_right _ (List.mem_append_right _ (List.mem_append_right _ (List.mem_append_right _ (List.mem_append_right _ (List.mem_append_right _ (List.mem_append_right _ (List.mem_append_right _ (List.mem_append_right _ (List.mem_append_left _ h)))))))))))))))))) al_wsX1_last
set_option maxRecDepth 20000 in
theorem gL_law_X1_last : GoodIn wsL_law (wsV RL 75 RX1 yX1_last wsX1_last) := goodIn_app (goodIn_of _ (by decide +kernel)) ggL_law_X1_last
theorem ggL_law_L_compare : GoodIn wsL_law wsL_compare := goodIn_sub (fun _ h => List.mem_append_right _ (List.mem_append_right _ (List.mem_append_right _ (List.mem_append_right _ (List.mem_append_right _ (List.mem_append_right _ (List.mem_append_right _ (List.mem_append_right _ (List.mem_append_right _ (List.mem_append_right _ (List.mem_append_right _ (List.mem_append_right _ (List.mem_append_right _ (List.mem_append_right _ (List.mem_append_right _ (List.mem_append_right _ (List.mem_append_right _ (List.mem_append_right _ (List.mem_append_left _ h))))))))))))))))))) al_wsL_compare
set_option maxRecDepth 20000 in
theorem gL_law_L_compare : GoodIn wsL_law (va_wsS RL 76 yL_compare wsL_compare) := goodIn_app (goodIn_of _ (by decide +kernel)) ggL_law_L_compare
theorem ggL_law_X1_compare : GoodIn wsL_law wsX1_compare := goodIn_sub (fun _ h => List.mem_append_right _ (List.mem_append_right _ (List.mem_append_right _ (List.mem_append_right _ (List.mem_append_right _ (List.mem_append_right _ (List.mem_append_right _ (List.mem_append_right _ (List.mem_append_right _ (List.mem_append_right _ (List.mem_append_right _ (List.mem_append_right _ (List.mem_append_right _ (List.mem_append_right _ (List.mem_append_right _ (List.mem_append_right _ (List.mem_append_right _ (List.mem_append_right _ (List.mem_append_right _ (List.mem_append_left _ h)))))))))))))))))))) al_wsX1_compare
set_option maxRecDepth 20000 in
theorem gL_law_X1_compare : GoodIn wsL_law (wsV RL 78 RX1 yX1_compare wsX1_compare) := goodIn_app (goodIn_of _ (by decide +kernel)) ggL_law_X1_compare
theorem ggL_law_L_neighbour : GoodIn wsL_law wsL_neighbour := goodIn_sub (fun _ h => List.mem_append_right _ (List.mem_append_right _ (List.mem_append_right _ (List.mem_append_right _ (List.mem_append_right _ (List.mem_append_right _ (List.mem_append_right _ (List.mem_append_right _ (List.mem_append_right _ (List.mem_append_right _ (List.mem_append_right _ (List.mem_append_right _ (List.mem_append_right _ (List.mem_append_right _ (List.mem_append_right _ (List.mem_append_right _ (List.mem_append_right _ (List.mem_append_right _ (List.mem_append_right _ (List.mem_append_right _ (List.mem_append_left _ h))))))))))))))))))))) al_wsL_neighbour
set_option maxRecDepth 20000 in
theorem gL_law_L_neighbour : GoodIn wsL_law (va_wsS RL 79 yL_neighbour wsL_neighbour) := goodIn_app (goodIn_of _ (by decide +kernel)) ggL_law_L_neighbour
theorem ggL_law_X1_neighbour : GoodIn wsL_law wsX1_neighbour := goodIn_sub (fun _ h => List.mem_append_right _ (List.mem_append_right _ (List.mem_append_right _ (List.mem_append_right _ (List.mem_append_right _ (List.mem_append_right _ (List.mem_append_right _ (List.mem_append_right _ (List.mem_append_right _ (List.mem_append_right _ (List.mem_append_right _ (List.mem_append_right _ (List.mem_append_right _ (List.mem_append_right _ (List.mem_append_right _ (List.mem_append_right _ (List.mem_append_right _ (List.mem_append_right _ (List.mem_append_right _ (List.mem_append_right _ (List.mem_append_right _ h))))))))))))))))))))) al_wsX1_neighbour
set_option maxRecDepth 20000 in
theorem gL_law_X1_neighbour : GoodIn wsL_law (wsV RL 82 RX1 yX1_neighbour wsX1_neighbour) := goodIn_app (goodIn_of _ (by decide +kernel)) ggL_law_X1_neighbour
theorem wsL_law_in : ∀ w ∈ wsL_law, w ∈ lw_tbl := ti_wsL_law
end
