section
/-! ===== BEGIN words of one list among another's, by their places ===== -/
theorem goodIn_r {big : List Cond} (ws : List Cond) (ps : List Nat) (hp : ws = ps.filterMap (fun i => big[i]?)) (h : ws.all goodWord = true) : GoodIn big ws := by
  intro w hw
  have h1 := List.all_eq_true.mp h w hw
  rw [hp] at hw
  obtain ⟨i, -, hi⟩ := List.mem_filterMap.mp hw
  have hm : w ∈ big := by first | exact List.mem_of_getElem? hi | exact List.getElem?_mem hi
  exact ⟨hm, good_of_word h1⟩
theorem goodIn_app {big a b : List Cond} (ha : GoodIn big a) (hb : GoodIn big b) : GoodIn big (a ++ b) := fun w h => (List.mem_append.mp h).elim (ha w) (hb w)
theorem goodIn_ca {big a b : List Cond} {c : Cond} (ha : GoodIn big (c :: a)) (hb : GoodIn big b) : GoodIn big (c :: (a ++ b)) := fun w h => (List.mem_cons.mp h).elim (fun e => ha w (List.mem_cons.mpr (Or.inl e))) (fun h => (List.mem_append.mp h).elim (fun h => ha w (List.mem_cons.mpr (Or.inr h))) (hb w))
theorem goodIn_sub {big ws : List Cond} (hm : ∀ w ∈ ws, w ∈ big) (h : ws.all goodWord = true) : GoodIn big ws := fun w hw => ⟨hm w hw, good_of_word (List.all_eq_true.mp h w hw)⟩
/-! ===== END ===== -/

/-! ===== BEGIN exceptions that leave a method, and their catching by the caller (launches without stack traces) ===== -/
section VXA
/-! The laws vx_back, vx_callV, vx_callS, vx_callSW, vx_throw0, vx_throwS follow proofs of the library, with one case more: JvmDerived/Free/Laws.lean (Back.of_free), Shelf42/LK1.lean (callV, callS), Shelf/KitTraced.lean (throwNew0V, throwNewS). -/
/-- where a method has thrown q: the class by its name, the cell, what was written, the world -/
def vx_T (XC : String → State → State → Prop) (st : State) (q : Addr) (t : State) (mc ms : Nat) (free : Addr → Prop) : Prop :=
  ∃ (E : String) (ce : Cell) (L : List Loc), XC E st t ∧ t.heap[q]? = some ce ∧ ce.vm = .none ∧ st.vm.findClass E = some ce.cls ∧ st.WarmedH t.vm ∧ st.sameButNew ({ t with vm := st.vm } : State) L mc ms ∧ ∀ z ∈ L, free z.base
def vx_Q (Qc : Array Value → State → Outcome → State → Prop) (XC : String → State → State → Prop) (mc ms : Nat) (free : Addr → Prop) : Array Value → State → Outcome → State → Prop := fun a st o t =>
  (Qc a st o t ∧ ∃ L, FrameEnd st o t L mc ms ∧ ∀ q ∈ L, free q.base) ∨ ∃ q, o = .threw q ∧ vx_T XC st q t mc ms free
/-- a callee that returns or throws -/
def vx_Met (l : Launch) (y : MethodName) (ws : List Cond) (rm : Room) (Pc : Array Value → State → Prop) (Qc : Array Value → State → Outcome → State → Prop) (XC : String → State → State → Prop) (mc ms : Nat) (free : Addr → Prop) : Prop :=
  MetFree l y (headSpec ws rm) Pc (fun _ _ _ _ _ => True) (vx_Q Qc XC mc ms free)
def vx_Post (XC : String → State → State → Prop) (mc ms : Nat) (free : Addr → Prop) : Pt → Array Value → Addr → Pt → Prop := fun A a q B =>
  ∃ (g : JFrame) (mk : MethodId) (t : State) (L : List Loc) (E : String) (ce : Cell), B.U.heap = t.heap ∧ B.U.vm = t.vm ∧ XC E (A.U.calling g mk a) t ∧ t.heap[q]? = some ce ∧ ce.vm = .none ∧ A.U.vm.findClass E = some ce.cls ∧ B.locs = A.locs ++ L ∧ (∀ z ∈ L, free z.base) ∧ B.cells = A.cells + mc ∧ B.slots = A.slots + ms
def vx_Back (l : Launch) (R : Room) (p : Program) (e : Env) (below : List Frame) (s : State) (sargs : Array Value) (y : MethodName) (len W9 : Nat)
    (Pre : Pt → Array Value → Prop) (Post : Pt → Array Value → Option Value → Pt → Prop) (PostX : Pt → Array Value → Addr → Pt → Prop) : Prop :=
  ∀ (m : MethodId) (meth : Method) (c : Code) (A : Pt) (g : JFrame) (ig : Instr) (mk : MethodId) (a : Array Value),
    Stand p l e R s m sargs below meth c A.U A.locs A.cells A.slots → g.method = m → g.locals.size = c.maxLocals → decode c.code g.pc = .ok (ig, len) →
    2 * g.monitorRoom + (g.stack.map fun v => v.category).sum ≤ W9 → A.U.methodNamed? y = some mk → Pre A a →
    (∃ (v : Option Value) (B : Pt), Stand p l e R s m sargs below meth c B.U B.locs B.cells B.slots ∧ Post A a v B ∧
      Steps p.tables e below (doInvoke e (A.U.setTop g) [] mk a).1 (B.U.setTop { g with pc := g.pc + len, stack := v.toList ++ g.stack })) ∨
    (∃ (q : Addr) (B : Pt), Stand p l e R s m sargs below meth c B.U B.locs B.cells B.slots ∧ PostX A a q B ∧
      Steps p.tables e below (doInvoke e (A.U.setTop g) [] mk a).1 ((B.U.setTop g).pushFrame (.throwing q)))
section Payer
variable {l : Launch} {R : Room} {p : Program} {e : Env} {below : List Frame} {s : State} {sargs : Array Value} {y : MethodName} {len W9 : Nat}
theorem vx_back {ws : List Cond} {rm : Room} {Pc : Array Value → State → Prop} {Qc : Array Value → State → Outcome → State → Prop} {XC : String → State → State → Prop} {mc ms : Nat} {free : Addr → Prop} {bytes : ByteArray} {maxL : Nat} {ret : Option FieldType}
    (hM : vx_Met l y ws rm Pc Qc XC mc ms free) (hblind : FrameBlind Pc) (hrc : rm.cells = mc) (hrs : rm.slots = ms)
    (hframes : rm.frames + 1 ≤ R.frames) (hlocals : W9 + (maxL + 11) + rm.locals ≤ R.locals)
    (hws : ∀ w ∈ ws, ∀ a' U, s.WarmedH U.vm → w.before a' U = true) (hcode : Cond.code y bytes maxL ret ∈ ws) (hinit : ∀ a' U, s.WarmedH U.vm → (Cond.initialized y.cls).before a' U = true) :
    vx_Back l R p e below s sargs y len W9 (PreOf R mc ms Pc) (PostOf Qc mc ms free) (vx_Post XC mc ms free) := by
  intro m meth c A g ig mk a X hg hsize hdg hW hn hp
  have h1 : (headSpec ws rm).pre.before a A.U = true := atoms_intro fun w hw => hws w hw _ _ X.warmed
  have h2 : (Cond.code y bytes maxL ret).before a A.U = true := hws _ hcode _ _ X.warmed
  have h3 : (Cond.initialized y.cls).before a A.U = true := hinit _ _ X.warmed
  have h4 : A.cells + (headSpec ws rm).room.cells ≤ R.cells := by rw [show (headSpec ws rm).room.cells = mc from hrc]; exact hp.1
  have h5 : A.slots + (headSpec ws rm).room.slots ≤ R.slots := by rw [show (headSpec ws rm).room.slots = ms from hrs]; exact hp.2.1
  have hPc : Pc a (A.U.calling g mk a) := hblind _ _ _ _ hp.2.2
  obtain ⟨U, Ls, c0, s0⟩ := A
  dsimp only [Pt.U, Pt.locs, Pt.cells, Pt.slots] at h1 h2 h3 h4 h5 X hn hPc ⊢
  obtain ⟨methY, cY, hmY, hcY, -, hlY, -, -, -, -⟩ := Cond.code_spec hn h2
  obtain ⟨kY, hkY, -⟩ := className_of_methodNamed hn
  have hinitY : kY.init = .initialized := Cond.initialized_spec (findClass_of_methodNamed hn) hkY h3
  have h : At U g.method c below := by rw [hg]; exact X.here
  have hlocals9 : W9 + (maxL + 11) + (headSpec ws rm).room.locals ≤ R.locals := hlocals
  have happ : (headSpec ws rm).appliesLoose y e.platform (U.calling g mk a) = true :=
    Spec.appliesLoose_calling (g := g) h hdg hn hkY hinitY
      (X.room_calling (g := g) (R' := (headSpec ws rm).room) hsize hmY hcY hframes (by rw [hlY]; omega) h4 h5) h1
  obtain ⟨mid, hmid⟩ := h.above
  have hfr : (U.setTop g).frames = (.java g :: mid) ++ below := by rw [State.frames_setTop' g h.top, hmid]; rfl
  obtain ⟨o, s₂, hsteps, -, hend, hq⟩ := Steps.callFree hM p X.admits X.cas X.clock (acts := []) hfr happ hPc trivial
  have hq' : vx_Q Qc XC mc ms free a (U.calling g mk a) o s₂ := hq
  rw [State.frames_setTop' g h.top] at hend
  obtain ⟨g₀, hg0⟩ := Option.isSome_iff_exists.mp h.top
  obtain ⟨r, hr⟩ := State.topJava?_eq_some.mp hg0
  have hr' : (({ U with heap := s₂.heap, slotsUsed := s₂.slotsUsed } : State).setVm s₂.vm).frames = .java g₀ :: r := hr
  rcases hq' with ⟨hqc, L, hfe, hL⟩ | ⟨q, rfl, E, ce, L, hx, hce, hcv, hcl, hW₂, hsm, hL⟩
  · obtain ⟨⟨v, rfl⟩, hW₂, e2, q2, q3, q4, q5, q6⟩ := id hfe
    have e3 : s₂ = ({ (U.calling g mk a).setFrames s₂.frames with heap := s₂.heap, slotsUsed := s₂.slotsUsed } : State).setVm s₂.vm := by
      have : s₂ = ({ s₂ with vm := (U.calling g mk a).vm } : State).setVm s₂.vm := rfl
      rw [e2] at this
      exact this
    obtain ⟨c₂, i₂, len₂, hc₂, hd₂, hf₂⟩ := hend
    have hW' : U.WarmedH s₂.vm := hW₂
    have hcc : c₂ = c := by
      have h1 : s₂.code? g.method = U.code? g.method := by
        rw [State.code?_eq, State.code?_eq, hW'.alike.method?]
      exact Option.some.inj (hc₂.symm.trans (h1.trans h.code))
    subst hcc
    have hlen : len₂ = len := by rw [hdg] at hd₂; cases hd₂; rfl
    subst hlen
    have hs₂ : s₂ = (({ U with heap := s₂.heap, slotsUsed := s₂.slotsUsed } : State).setVm s₂.vm).setTop { g with pc := g.pc + len₂, stack := v.toList ++ g.stack } := by
      refine e3.trans ?_
      rw [hf₂, State.calling_eq h.top, State.setFrames_setFrames, State.setTop_of_frames _ hr', hr]
      rfl
    have hsame : U.sameButNew ({ U with heap := s₂.heap, slotsUsed := s₂.slotsUsed } : State) L mc ms := by
      refine ⟨?_, q2, q3, q4, q5, q6⟩
      obtain ⟨t, ht, -⟩ := State.frames_cons hr
      show ({ U with heap := s₂.heap, slotsUsed := s₂.slotsUsed } : State) = { U.setFrames U.frames with heap := s₂.heap, slotsUsed := s₂.slotsUsed }
      rw [State.setFrames_self ht]
    subst hg
    refine Or.inl ⟨v, ⟨(({ U with heap := s₂.heap, slotsUsed := s₂.slotsUsed } : State).setVm s₂.vm), Ls ++ L, c0 + mc, s0 + ms⟩,
      ⟨X.admits, X.cas, X.clock, X.frames, X.room, X.hears, X.method, X.code, (X.here.setHeapUsed s₂.heap s₂.slotsUsed).setVm hW'.alike, X.tail, State.WarmedH.trans X.warmed hW', X.limits, X.bytes, X.same.trans (hsame.setVm s.vm)⟩,
      ⟨g, mk, s₂, L, rfl, rfl, hqc, rfl, hL, rfl, rfl⟩, ?_⟩
    show Steps p.tables e below _ ((({ U with heap := s₂.heap, slotsUsed := s₂.slotsUsed } : State).setVm s₂.vm).setTop { g with pc := g.pc + len₂, stack := v.toList ++ g.stack })
    rw [← hs₂]
    exact hsteps
  · obtain ⟨e2, q2, q3, q4, q5, q6⟩ := id hsm
    have e3 : s₂ = ({ (U.calling g mk a).setFrames s₂.frames with heap := s₂.heap, slotsUsed := s₂.slotsUsed } : State).setVm s₂.vm := by
      have : s₂ = ({ s₂ with vm := (U.calling g mk a).vm } : State).setVm s₂.vm := rfl
      rw [e2] at this
      exact this
    have hf₂ : s₂.frames = .throwing q :: .java g :: U.frames.tail := hend
    have hW' : U.WarmedH s₂.vm := hW₂
    have hs₂ : s₂ = ((({ U with heap := s₂.heap, slotsUsed := s₂.slotsUsed } : State).setVm s₂.vm).setTop g).pushFrame (.throwing q) := by
      refine e3.trans ?_
      rw [hf₂, State.calling_eq h.top, State.setFrames_setFrames, State.pushFrame, State.frames_setTop _ hr', State.setTop_of_frames _ hr', State.setFrames_setFrames, hr]
      rfl
    have hsame : U.sameButNew ({ U with heap := s₂.heap, slotsUsed := s₂.slotsUsed } : State) L mc ms := by
      refine ⟨?_, q2, q3, q4, q5, q6⟩
      obtain ⟨t, ht, -⟩ := State.frames_cons hr
      show ({ U with heap := s₂.heap, slotsUsed := s₂.slotsUsed } : State) = { U.setFrames U.frames with heap := s₂.heap, slotsUsed := s₂.slotsUsed }
      rw [State.setFrames_self ht]
    subst hg
    refine Or.inr ⟨q, ⟨(({ U with heap := s₂.heap, slotsUsed := s₂.slotsUsed } : State).setVm s₂.vm), Ls ++ L, c0 + mc, s0 + ms⟩,
      ⟨X.admits, X.cas, X.clock, X.frames, X.room, X.hears, X.method, X.code, (X.here.setHeapUsed s₂.heap s₂.slotsUsed).setVm hW'.alike, X.tail, State.WarmedH.trans X.warmed hW', X.limits, X.bytes, X.same.trans (hsame.setVm s.vm)⟩,
      ⟨g, mk, s₂, L, E, ce, rfl, rfl, hx, hce, hcv, hcl, rfl, hL, rfl, rfl⟩, ?_⟩
    show Steps p.tables e below _ (((({ U with heap := s₂.heap, slotsUsed := s₂.slotsUsed } : State).setVm s₂.vm).setTop g).pushFrame (.throwing q))
    rw [← hs₂]
    exact hsteps
end Payer
section Calls
variable {p : Program} {l : Launch} {e : Env} {R : Room} {s : State} {m : MethodId} {args : Array Value} {below : List Frame} {meth : Method} {c : Code} {T : State} {locs : List Loc} {cells slots : Nat}
theorem vx_callV (X : Stand p l e R s m args below meth c T locs cells slots) (hexec : p.tables.exec = Jvm.exec) {own C : String} {index : Nat} {y : MethodName} {bytes : ByteArray} {maxL : Nat} {ret : Option FieldType}
    (hown : s.vm.findClass own = some m.cls) (hlink : (Cond.methodLink own index y).before args s = true) (hinst : (Cond.instanceMethod y).before args s = true) (hsel : (Cond.selects C y y).before args s = true)
    (hcode : (Cond.code y bytes maxL ret).before args s = true) (hy : y.cls ≠ "java/lang/invoke/MethodHandle" ∧ y.cls ≠ "java/lang/invoke/VarHandle")
    {W9 : Nat} {Pre : Pt → Array Value → Prop} {Post : Pt → Array Value → Option Value → Pt → Prop} {PostX : Pt → Array Value → Addr → Pt → Prop} (hK : vx_Back l R p e below s args y 3 W9 Pre Post PostX)
    {b : Addr} {cellB : Cell} (hcell : T.heap[b]? = some cellB) (hobj : cellB.vm.isStatics = false) (hcls : s.vm.findClass C = some cellB.cls)
    {g : JFrame} (hg : g.method = m) (hsize : g.locals.size = c.maxLocals) {argsL rest : List Value} (hlen : ∀ sig, parseMethodDescriptor y.desc = some sig → argsL.length = sig.parameters.length)
    (hstack : g.stack = argsL.reverse ++ .ref b :: rest) (hW : 2 * g.monitorRoom + (rest.map fun v => v.category).sum ≤ W9) (hdg : decode c.code g.pc = .ok (.invokevirtual index, 3))
    (hpre : ∀ vm₁, s.WarmedH vm₁ → Pre ⟨T.setVm vm₁, locs, cells, slots⟩ (Value.ref b :: argsL).toArray) :
    (∃ (v : Option Value) (vm₁ : Vm) (B : Pt), s.WarmedH vm₁ ∧ Stand p l e R s m args below meth c B.U B.locs B.cells B.slots ∧ Post ⟨T.setVm vm₁, locs, cells, slots⟩ (Value.ref b :: argsL).toArray v B ∧
      ∀ target, Steps p.tables e below (B.U.setTop { g with pc := g.pc + 3, stack := v.toList ++ rest }) target → Steps p.tables e below (T.setTop g) target) ∨
    (∃ (q : Addr) (vm₁ : Vm) (B : Pt), s.WarmedH vm₁ ∧ Stand p l e R s m args below meth c B.U B.locs B.cells B.slots ∧ PostX ⟨T.setVm vm₁, locs, cells, slots⟩ (Value.ref b :: argsL).toArray q B ∧
      Steps p.tables e below (T.setTop g) ((B.U.setTop { g with stack := rest }).pushFrame (.throwing q))) := by
  obtain ⟨mk, methM, hnamed, hmethM, hstM, habM⟩ := Cond.instanceMethod_spec hinst
  obtain ⟨methM', cM, hmethM', -, -, -, -, -, -, hsigM⟩ := Cond.code_spec hnamed hcode
  cases hmethM.symm.trans hmethM'
  obtain ⟨c2, r2, m2, q1, q2, q3, q4, kP, hkP, hkPi⟩ := Cond.selects_spec hsel
  cases hcls.symm.trans q1
  cases (State.methodFound?_of_named hnamed hy).symm.trans q2
  cases hnamed.symm.trans q3
  have hselP : selectMethod e.platform s.vm cellB.cls mk = .method mk := by rw [Launch.admits_selectMethod X.admits]; exact q4
  obtain ⟨vm₁, X₁, hstep₁⟩ := X.invokevirtual hexec hown hlink hnamed hmethM hstM hkP hkPi hy (a := b) (cell := cellB) hcell
    (fun z h => by rw [h] at hobj; cases hobj) hselP hmethM habM hkP hkPi (g := g) hg (argsL := argsL) (rest := rest) (hlen _ hsigM) hstack hdg
  rcases hK m meth c ⟨T.setVm vm₁, locs, cells, slots⟩ { g with stack := rest } (.invokevirtual index) mk (Value.ref b :: argsL).toArray X₁ hg hsize hdg hW (X₁.named hnamed) (hpre vm₁ X₁.warmed) with ⟨v, B, X', hpost, hsteps⟩ | ⟨q, B, X', hpost, hsteps⟩
  · exact Or.inl ⟨v, vm₁, B, X₁.warmed, X', hpost, fun target h => hstep₁ _ fun acts => by rw [doInvoke_state]; exact hsteps.trans h⟩
  · exact Or.inr ⟨q, vm₁, B, X₁.warmed, X', hpost, hstep₁ _ fun acts => by rw [doInvoke_state]; exact hsteps⟩
theorem vx_callS (X : Stand p l e R s m args below meth c T locs cells slots) (hexec : p.tables.exec = Jvm.exec) {own : String} {index : Nat} {y : MethodName} {bytes : ByteArray} {maxL : Nat} {ret : Option FieldType}
    (hown : s.vm.findClass own = some m.cls) (hlink : (Cond.methodLink own index y).before args s = true) (hstat : (Cond.static y).before args s = true) (hinit : (Cond.initialized y.cls).before args s = true)
    (hcode : (Cond.code y bytes maxL ret).before args s = true) (hy : y.cls ≠ "java/lang/invoke/MethodHandle" ∧ y.cls ≠ "java/lang/invoke/VarHandle")
    {W9 : Nat} {Pre : Pt → Array Value → Prop} {Post : Pt → Array Value → Option Value → Pt → Prop} {PostX : Pt → Array Value → Addr → Pt → Prop} (hK : vx_Back l R p e below s args y 3 W9 Pre Post PostX)
    {g : JFrame} (hg : g.method = m) (hsize : g.locals.size = c.maxLocals) {argsL rest : List Value} (hlen : ∀ sig, parseMethodDescriptor y.desc = some sig → argsL.length = sig.parameters.length)
    (hstack : g.stack = argsL.reverse ++ rest) (hW : 2 * g.monitorRoom + (rest.map fun v => v.category).sum ≤ W9) (hdg : decode c.code g.pc = .ok (.invokestatic index, 3))
    (hpre : ∀ vm₁, s.WarmedH vm₁ → Pre ⟨T.setVm vm₁, locs, cells, slots⟩ argsL.toArray) :
    (∃ (v : Option Value) (vm₁ : Vm) (B : Pt), s.WarmedH vm₁ ∧ Stand p l e R s m args below meth c B.U B.locs B.cells B.slots ∧ Post ⟨T.setVm vm₁, locs, cells, slots⟩ argsL.toArray v B ∧
      ∀ target, Steps p.tables e below (B.U.setTop { g with pc := g.pc + 3, stack := v.toList ++ rest }) target → Steps p.tables e below (T.setTop g) target) ∨
    (∃ (q : Addr) (vm₁ : Vm) (B : Pt), s.WarmedH vm₁ ∧ Stand p l e R s m args below meth c B.U B.locs B.cells B.slots ∧ PostX ⟨T.setVm vm₁, locs, cells, slots⟩ argsL.toArray q B ∧
      Steps p.tables e below (T.setTop g) ((B.U.setTop { g with stack := rest }).pushFrame (.throwing q))) := by
  obtain ⟨mk, hnamed⟩ := Cond.code_named hcode
  obtain ⟨methM, cM, hmethM, -, -, -, -, -, -, hsigM⟩ := Cond.code_spec hnamed hcode
  have hstatic : methM.isStatic = true := Cond.static_spec hnamed hmethM hstat
  obtain ⟨kP, hkP, -⟩ := className_of_methodNamed hnamed
  have hinitP : kP.init = .initialized := Cond.initialized_spec (findClass_of_methodNamed hnamed) hkP hinit
  obtain ⟨vm₁, X₁, hstep₁⟩ := X.invokestatic hexec hown hlink hnamed hmethM hstatic hkP hinitP hy (g := g) hg (argsL := argsL) (rest := rest) (hlen _ hsigM) hstack hdg
  rcases hK m meth c ⟨T.setVm vm₁, locs, cells, slots⟩ { g with stack := rest } (.invokestatic index) mk argsL.toArray X₁ hg hsize hdg hW (X₁.named hnamed) (hpre vm₁ X₁.warmed) with ⟨v, B, X', hpost, hsteps⟩ | ⟨q, B, X', hpost, hsteps⟩
  · exact Or.inl ⟨v, vm₁, B, X₁.warmed, X', hpost, fun target h => hstep₁ _ fun acts => by rw [doInvoke_state]; exact hsteps.trans h⟩
  · exact Or.inr ⟨q, vm₁, B, X₁.warmed, X', hpost, hstep₁ _ fun acts => by rw [doInvoke_state]; exact hsteps⟩
end Calls
theorem vx_cls {s : State} {T : State} {vm₁ : Vm} {E : String} {k : ClassId} (hW : s.WarmedH vm₁) (h : (T.setVm vm₁).vm.findClass E = some k) : s.vm.findClass E = some k := by
  have h1 : vm₁.findClass E = some k := h
  rw [hW.alike.findClass] at h1
  exact h1
/-- the method's frame g, with q thrown over it -/
def vx_W (p : Program) (l : Launch) (e : Env) (R : Room) (s : State) (m : MethodId) (args : Array Value) (below : List Frame) (meth : Method) (c : Code) (H : Heap) (locs : List Loc) (cells slots : Nat) (Q : State → Prop) (g : JFrame) (q : Addr) : Prop :=
  ∀ T : State, T.heap = H → Stand p l e R s m args below meth c T locs cells slots → ∃ t, Steps p.tables e below ((T.setTop g).pushFrame (.throwing q)) t ∧ Q t
def vx_Run (p : Program) (l : Launch) (e : Env) (R : Room) (s : State) (m : MethodId) (args : Array Value) (below : List Frame) (meth : Method) (c : Code) (H : Heap) (locs : List Loc) (cells slots mc ms : Nat) (g : JFrame) (rest : List Value) (Qa : State → Outcome → State → Prop) (XC : String → State → State → Prop) (free : Addr → Prop) : Prop :=
  ∀ T : State, T.heap = H → Stand p l e R s m args below meth c T locs cells slots →
    (∃ (v : Option Value) (st₀ t T' : State) (L : List Loc), st₀.heap = H ∧ Stand p l e R s m args below meth c T' (locs ++ L) (cells + mc) (slots + ms) ∧ (∀ q ∈ L, free q.base) ∧ T'.heap = t.heap ∧ T'.vm = t.vm ∧ Qa st₀ (.returned v) t ∧
      Goes p e below T g T' { g with pc := g.pc + 3, stack := v.toList ++ rest }) ∨
    (∃ (q : Addr) (st₀ t T' : State) (L : List Loc) (E : String) (ce : Cell), st₀.heap = H ∧ Stand p l e R s m args below meth c T' (locs ++ L) (cells + mc) (slots + ms) ∧ (∀ z ∈ L, free z.base) ∧ T'.heap = t.heap ∧ T'.vm = t.vm ∧ XC E st₀ t ∧ t.heap[q]? = some ce ∧ ce.vm = .none ∧ s.vm.findClass E = some ce.cls ∧
      Steps p.tables e below (T.setTop g) ((T'.setTop { g with stack := rest }).pushFrame (.throwing q)))
def vx_X {S : Type} (px : S → Prop) (B : String → S → State → Prop) (A : Nat → Prop) : String → State → State → Prop := fun E st t => ∃ u : S, px u ∧ B E u t ∧ va_F A st t
section Runs
variable {p : Program} {l : Launch} {e : Env} {R : Room} {s : State} {m : MethodId} {args : Array Value} {below : List Frame} {meth : Method} {c : Code} {H : Heap} {locs : List Loc} {cells slots : Nat}
variable {y : MethodName} {bytes cc : ByteArray} {maxL nL mc ms n index : Nat} {ret : Option FieldType} {ws : List Cond} {rm : Room} {Pc : Array Value → State → Prop} {Qc : Array Value → State → Outcome → State → Prop} {XC : String → State → State → Prop} {free : Addr → Prop} {Ts : List Cond} {own C : String} {b : Addr} {As rest : List Value} {g : JFrame}
theorem vx_callBack (cb : CallB R s args own index y bytes maxL ret ws rm mc ms n) (hM : vx_Met l y ws rm Pc Qc XC mc ms free) (hbl : FrameBlind Pc) : vx_Back l R p e below s args y 3 8 (PreOf R mc ms Pc) (PostOf Qc mc ms free) (vx_Post XC mc ms free) := by
  obtain ⟨hrc, hrs, hfr, hlo, hws, hcw, -, hini, -⟩ := cb
  exact vx_back (bytes := bytes) (maxL := maxL) (ret := ret) hM hbl hrc hrs hfr hlo hws hcw (fun a' U hW => word_at hW (Or.inl (by first | rfl | simp [Cond.onTables, Cond.keeps, Cond.steady])) hini)
theorem vx_runV (S : CallFix p m c cc nL s args Ts own) (hM : vx_Met l y ws rm Pc Qc XC mc ms free) (cw : CallW R s args own C index y bytes maxL ret ws rm mc ms n) (hp : PreV s H C b Pc As)
    (hg : g.method = m) (hn : As.length = n) (hsize : g.locals.size = nL) (hstack : g.stack = As.reverse ++ .ref b :: rest) (hW : 2 * g.monitorRoom + (rest.map fun v => v.category).sum ≤ 8) (hdg : decode cc g.pc = .ok (.invokevirtual index, 3)) (hf : cells + mc ≤ R.cells ∧ slots + ms ≤ R.slots) :
    vx_Run p l e R s m args below meth c H locs cells slots mc ms g rest (Qc (Value.ref b :: As).toArray) XC free := by
  have hK : vx_Back l R p e below s args y 3 8 (PreOf R mc ms Pc) (PostOf Qc mc ms free) (vx_Post XC mc ms free) := vx_callBack cw.1 hM hp.1
  obtain ⟨⟨-, -, -, -, -, -, hcode, -, hy, hlen, hl⟩, hin, hse⟩ := cw
  obtain ⟨hx, hb, hml, ho, -⟩ := S
  obtain ⟨-, ⟨cellB, hcB, hoB, hclB⟩, hPc⟩ := hp
  intro T hT X
  rcases vx_callV X hx (C := C) (bytes := bytes) (maxL := maxL) (ret := ret) ho hl hin hse hcode hy hK (by rw [hT]; exact hcB) hoB hclB hg (hsize.trans hml.symm) (argsL := As) (rest := rest) (fun sig h => hn.trans (hlen sig h)) hstack hW (by rw [hb]; exact hdg)
    (fun vm₁ hW₁ => ⟨hf.1, hf.2, hPc (T.setVm vm₁) hT hW₁⟩) with ⟨v, vm₁, ⟨U', l2, c2, s2⟩, hW₁, X', ⟨g', mk, t, L, e1, e2, hq, h1, hL, h2, h3⟩, st⟩ | ⟨q, vm₁, ⟨U', l2, c2, s2⟩, hW₁, X', ⟨g', mk, t, L, E, ce, e1, e2, hq, hce, hcv, hcl, h1, hL, h2, h3⟩, st⟩
  · dsimp only [Pt.U, Pt.locs, Pt.cells, Pt.slots] at X' e1 e2 h1 h2 h3 st
    subst h1; subst h2; subst h3
    exact Or.inl ⟨v, (T.setVm vm₁).calling g' mk (Value.ref b :: As).toArray, t, U', L, hT, X', hL, e1, e2, hq, st⟩
  · dsimp only [Pt.U, Pt.locs, Pt.cells, Pt.slots] at X' e1 e2 h1 h2 h3 st hcl
    subst h1; subst h2; subst h3
    exact Or.inr ⟨q, (T.setVm vm₁).calling g' mk (Value.ref b :: As).toArray, t, U', L, E, ce, hT, X', hL, e1, e2, hq, hce, hcv, vx_cls hW₁ hcl, st⟩
theorem vx_runS (S : CallFix p m c cc nL s args Ts own) (hM : vx_Met l y ws rm Pc Qc XC mc ms free) (cw : CallB R s args own index y bytes maxL ret ws rm mc ms n ∧ (Cond.static y).before args s = true) (hp : PreS s H Pc As)
    (hg : g.method = m) (hn : As.length = n) (hsize : g.locals.size = nL) (hstack : g.stack = As.reverse ++ rest) (hW : 2 * g.monitorRoom + (rest.map fun v => v.category).sum ≤ 8) (hdg : decode cc g.pc = .ok (.invokestatic index, 3)) (hf : cells + mc ≤ R.cells ∧ slots + ms ≤ R.slots) :
    vx_Run p l e R s m args below meth c H locs cells slots mc ms g rest (Qc As.toArray) XC free := by
  have hK : vx_Back l R p e below s args y 3 8 (PreOf R mc ms Pc) (PostOf Qc mc ms free) (vx_Post XC mc ms free) := vx_callBack cw.1 hM hp.1
  obtain ⟨⟨-, -, -, -, -, -, hcode, hini, hy, hlen, hl⟩, hstt⟩ := cw
  obtain ⟨hx, hb, hml, ho, -⟩ := S
  intro T hT X
  rcases vx_callS X hx (bytes := bytes) (maxL := maxL) (ret := ret) ho hl hstt hini hcode hy hK hg (hsize.trans hml.symm) (argsL := As) (rest := rest) (fun sig h => hn.trans (hlen sig h)) hstack hW (by rw [hb]; exact hdg)
    (fun vm₁ hW₁ => ⟨hf.1, hf.2, hp.2 (T.setVm vm₁) hT hW₁⟩) with ⟨v, vm₁, ⟨U', l2, c2, s2⟩, hW₁, X', ⟨g', mk, t, L, e1, e2, hq, h1, hL, h2, h3⟩, st⟩ | ⟨q, vm₁, ⟨U', l2, c2, s2⟩, hW₁, X', ⟨g', mk, t, L, E, ce, e1, e2, hq, hce, hcv, hcl, h1, hL, h2, h3⟩, st⟩
  · dsimp only [Pt.U, Pt.locs, Pt.cells, Pt.slots] at X' e1 e2 h1 h2 h3 st
    subst h1; subst h2; subst h3
    exact Or.inl ⟨v, (T.setVm vm₁).calling g' mk As.toArray, t, U', L, hT, X', hL, e1, e2, hq, st⟩
  · dsimp only [Pt.U, Pt.locs, Pt.cells, Pt.slots] at X' e1 e2 h1 h2 h3 st hcl
    subst h1; subst h2; subst h3
    exact Or.inr ⟨q, (T.setVm vm₁).calling g' mk As.toArray, t, U', L, E, ce, hT, X', hL, e1, e2, hq, hce, hcv, vx_cls hW₁ hcl, st⟩
end Runs
section Rows
variable {p : Program} {l : Launch} {e : Env} {R : Room} {s : State} {m : MethodId} {args : Array Value} {below : List Frame} {meth : Method} {c : Code} {H : Heap} {locs : List Loc} {cells slots : Nat} {Q : State → Prop}
variable {mc ms : Nat} {free : Addr → Prop} {A0 A1 : Nat → Prop} {H0 : Heap} {a : Array Value} {pc : Nat} {ls : Array Slot} {st0 rest : List Value}
theorem vx_keep {st₀ t T' : State} {L : List Loc} (h0 : st₀.heap = H) (e1 : T'.heap = t.heap) (hS : va_S A0 H0 H locs) (hA : ∀ q, q < H.size → A1 q → A0 q) (hf : ∀ q, free q → A0 q) (hL : ∀ q ∈ L, free q.base) (hF : va_F A1 st₀ t) :
    H.size ≤ T'.heap.size ∧ (∀ q : Nat, q < H.size → ¬ A1 q → T'.heap[q]? = H[q]?) ∧ va_S A0 H0 T'.heap (locs ++ L) := by
  obtain ⟨hz, hk⟩ := hF
  rw [h0] at hz hk
  exact ⟨by rw [e1]; exact hz, fun q h1 h2 => by rw [e1]; exact hk q h1 h2,
    ⟨Nat.le_trans hS.1 (by rw [e1]; exact hz), fun q h1 h2 => by rw [e1, hk q (Nat.lt_of_lt_of_le h1 hS.1) (fun z => h2 (hA q (Nat.lt_of_lt_of_le h1 hS.1) z))]; exact hS.2.1 q h1 h2, fun q hq => by
      rcases List.mem_append.mp hq with h | h
      · exact hS.2.2 q h
      · exact hf _ (hL q h)⟩⟩
theorem vx_calli {S SX : Type} {post : Int32 → S → Prop} {px : SX → Prop} {B : S → State → Prop} {BX : String → SX → State → Prop} {AX : Nat → Prop} (hr : vx_Run p l e R s m args below meth c H locs cells slots mc ms (F0 m pc ls st0) rest (va_Qi post B A1 a) (vx_X px BX AX) free) (hS : va_S A0 H0 H locs) (hA : ∀ q, q < H.size → A1 q → A0 q) (hf : ∀ q, free q → A0 q) (hAX : ∀ q, q < H.size → AX q → A0 q)
    (kx : ∀ (E : String) (ce : Cell) (q9 : Addr) (u : SX) (t : State) (H1 : Heap) (locs1 : List Loc), t.heap = H1 → s.vm.Alike t.vm → px u → BX E u t → H.size ≤ H1.size → (∀ q : Nat, q < H.size → ¬ AX q → H1[q]? = H[q]?) → va_S A0 H0 H1 locs1 → H1[q9]? = some ce → ce.vm = .none → s.vm.findClass E = some ce.cls → vx_W p l e R s m args below meth c H1 locs1 (cells + mc) (slots + ms) Q (F0 m pc ls rest) q9)
    (kk : ∀ (r : Int32) (u : S) (t : State) (H1 : Heap) (locs1 : List Loc), t.heap = H1 → s.vm.Alike t.vm → post r u → B u t → H.size ≤ H1.size → (∀ q : Nat, q < H.size → ¬ A1 q → H1[q]? = H[q]?) → va_S A0 H0 H1 locs1 → W p l e R s m args below meth c H1 locs1 (cells + mc) (slots + ms) Q (F0 m (pc + 3) ls (.int r :: rest))) : W p l e R s m args below meth c H locs cells slots Q (F0 m pc ls st0) := by
  intro T hT X
  rcases hr T hT X with ⟨v, st₀, t, T', L, h0, X', hL, e1, e2, ⟨⟨r, u, hv, hp, hb⟩, hF⟩, st⟩ | ⟨q, st₀, t, T', L, E, ce, h0, X', hL, e1, e2, ⟨u, hp, hb, hF⟩, hce, hcv, hcl, st⟩
  · cases hv
    obtain ⟨k1, k2, k3⟩ := vx_keep h0 e1 hS hA hf hL hF
    obtain ⟨t2, a1, b1⟩ := kk r u t T'.heap (locs ++ L) e1.symm (by rw [← e2]; exact X'.warmed.alike) hp hb k1 k2 k3 T' rfl X'
    exact ⟨t2, st t2 a1, b1⟩
  · obtain ⟨k1, k2, k3⟩ := vx_keep h0 e1 hS hAX hf hL hF
    obtain ⟨t2, a1, b1⟩ := kx E ce q u t T'.heap (locs ++ L) e1.symm (by rw [← e2]; exact X'.warmed.alike) hp hb k1 k2 k3 (by rw [e1]; exact hce) hcv hcl T' rfl X'
    exact ⟨t2, st.trans a1, b1⟩
theorem vx_calll {S SX : Type} {post : Int64 → S → Prop} {px : SX → Prop} {B : S → State → Prop} {BX : String → SX → State → Prop} {AX : Nat → Prop} (hr : vx_Run p l e R s m args below meth c H locs cells slots mc ms (F0 m pc ls st0) rest (va_Ql post B A1 a) (vx_X px BX AX) free) (hS : va_S A0 H0 H locs) (hA : ∀ q, q < H.size → A1 q → A0 q) (hf : ∀ q, free q → A0 q) (hAX : ∀ q, q < H.size → AX q → A0 q)
    (kx : ∀ (E : String) (ce : Cell) (q9 : Addr) (u : SX) (t : State) (H1 : Heap) (locs1 : List Loc), t.heap = H1 → s.vm.Alike t.vm → px u → BX E u t → H.size ≤ H1.size → (∀ q : Nat, q < H.size → ¬ AX q → H1[q]? = H[q]?) → va_S A0 H0 H1 locs1 → H1[q9]? = some ce → ce.vm = .none → s.vm.findClass E = some ce.cls → vx_W p l e R s m args below meth c H1 locs1 (cells + mc) (slots + ms) Q (F0 m pc ls rest) q9)
    (kk : ∀ (r : Int64) (u : S) (t : State) (H1 : Heap) (locs1 : List Loc), t.heap = H1 → s.vm.Alike t.vm → post r u → B u t → H.size ≤ H1.size → (∀ q : Nat, q < H.size → ¬ A1 q → H1[q]? = H[q]?) → va_S A0 H0 H1 locs1 → W p l e R s m args below meth c H1 locs1 (cells + mc) (slots + ms) Q (F0 m (pc + 3) ls (.long r :: rest))) : W p l e R s m args below meth c H locs cells slots Q (F0 m pc ls st0) := by
  intro T hT X
  rcases hr T hT X with ⟨v, st₀, t, T', L, h0, X', hL, e1, e2, ⟨⟨r, u, hv, hp, hb⟩, hF⟩, st⟩ | ⟨q, st₀, t, T', L, E, ce, h0, X', hL, e1, e2, ⟨u, hp, hb, hF⟩, hce, hcv, hcl, st⟩
  · cases hv
    obtain ⟨k1, k2, k3⟩ := vx_keep h0 e1 hS hA hf hL hF
    obtain ⟨t2, a1, b1⟩ := kk r u t T'.heap (locs ++ L) e1.symm (by rw [← e2]; exact X'.warmed.alike) hp hb k1 k2 k3 T' rfl X'
    exact ⟨t2, st t2 a1, b1⟩
  · obtain ⟨k1, k2, k3⟩ := vx_keep h0 e1 hS hAX hf hL hF
    obtain ⟨t2, a1, b1⟩ := kx E ce q u t T'.heap (locs ++ L) e1.symm (by rw [← e2]; exact X'.warmed.alike) hp hb k1 k2 k3 (by rw [e1]; exact hce) hcv hcl T' rfl X'
    exact ⟨t2, st.trans a1, b1⟩
theorem vx_callf {S SX : Type} {post : UInt32 → S → Prop} {px : SX → Prop} {B : S → State → Prop} {BX : String → SX → State → Prop} {AX : Nat → Prop} (hr : vx_Run p l e R s m args below meth c H locs cells slots mc ms (F0 m pc ls st0) rest (va_Qf post B A1 a) (vx_X px BX AX) free) (hS : va_S A0 H0 H locs) (hA : ∀ q, q < H.size → A1 q → A0 q) (hf : ∀ q, free q → A0 q) (hAX : ∀ q, q < H.size → AX q → A0 q)
    (kx : ∀ (E : String) (ce : Cell) (q9 : Addr) (u : SX) (t : State) (H1 : Heap) (locs1 : List Loc), t.heap = H1 → s.vm.Alike t.vm → px u → BX E u t → H.size ≤ H1.size → (∀ q : Nat, q < H.size → ¬ AX q → H1[q]? = H[q]?) → va_S A0 H0 H1 locs1 → H1[q9]? = some ce → ce.vm = .none → s.vm.findClass E = some ce.cls → vx_W p l e R s m args below meth c H1 locs1 (cells + mc) (slots + ms) Q (F0 m pc ls rest) q9)
    (kk : ∀ (r : UInt32) (u : S) (t : State) (H1 : Heap) (locs1 : List Loc), t.heap = H1 → s.vm.Alike t.vm → post r u → B u t → H.size ≤ H1.size → (∀ q : Nat, q < H.size → ¬ A1 q → H1[q]? = H[q]?) → va_S A0 H0 H1 locs1 → W p l e R s m args below meth c H1 locs1 (cells + mc) (slots + ms) Q (F0 m (pc + 3) ls (.float r :: rest))) : W p l e R s m args below meth c H locs cells slots Q (F0 m pc ls st0) := by
  intro T hT X
  rcases hr T hT X with ⟨v, st₀, t, T', L, h0, X', hL, e1, e2, ⟨⟨r, u, hv, hp, hb⟩, hF⟩, st⟩ | ⟨q, st₀, t, T', L, E, ce, h0, X', hL, e1, e2, ⟨u, hp, hb, hF⟩, hce, hcv, hcl, st⟩
  · cases hv
    obtain ⟨k1, k2, k3⟩ := vx_keep h0 e1 hS hA hf hL hF
    obtain ⟨t2, a1, b1⟩ := kk r u t T'.heap (locs ++ L) e1.symm (by rw [← e2]; exact X'.warmed.alike) hp hb k1 k2 k3 T' rfl X'
    exact ⟨t2, st t2 a1, b1⟩
  · obtain ⟨k1, k2, k3⟩ := vx_keep h0 e1 hS hAX hf hL hF
    obtain ⟨t2, a1, b1⟩ := kx E ce q u t T'.heap (locs ++ L) e1.symm (by rw [← e2]; exact X'.warmed.alike) hp hb k1 k2 k3 (by rw [e1]; exact hce) hcv hcl T' rfl X'
    exact ⟨t2, st.trans a1, b1⟩
theorem vx_calld {S SX : Type} {post : UInt64 → S → Prop} {px : SX → Prop} {B : S → State → Prop} {BX : String → SX → State → Prop} {AX : Nat → Prop} (hr : vx_Run p l e R s m args below meth c H locs cells slots mc ms (F0 m pc ls st0) rest (va_Qd post B A1 a) (vx_X px BX AX) free) (hS : va_S A0 H0 H locs) (hA : ∀ q, q < H.size → A1 q → A0 q) (hf : ∀ q, free q → A0 q) (hAX : ∀ q, q < H.size → AX q → A0 q)
    (kx : ∀ (E : String) (ce : Cell) (q9 : Addr) (u : SX) (t : State) (H1 : Heap) (locs1 : List Loc), t.heap = H1 → s.vm.Alike t.vm → px u → BX E u t → H.size ≤ H1.size → (∀ q : Nat, q < H.size → ¬ AX q → H1[q]? = H[q]?) → va_S A0 H0 H1 locs1 → H1[q9]? = some ce → ce.vm = .none → s.vm.findClass E = some ce.cls → vx_W p l e R s m args below meth c H1 locs1 (cells + mc) (slots + ms) Q (F0 m pc ls rest) q9)
    (kk : ∀ (r : UInt64) (u : S) (t : State) (H1 : Heap) (locs1 : List Loc), t.heap = H1 → s.vm.Alike t.vm → post r u → B u t → H.size ≤ H1.size → (∀ q : Nat, q < H.size → ¬ A1 q → H1[q]? = H[q]?) → va_S A0 H0 H1 locs1 → W p l e R s m args below meth c H1 locs1 (cells + mc) (slots + ms) Q (F0 m (pc + 3) ls (.double r :: rest))) : W p l e R s m args below meth c H locs cells slots Q (F0 m pc ls st0) := by
  intro T hT X
  rcases hr T hT X with ⟨v, st₀, t, T', L, h0, X', hL, e1, e2, ⟨⟨r, u, hv, hp, hb⟩, hF⟩, st⟩ | ⟨q, st₀, t, T', L, E, ce, h0, X', hL, e1, e2, ⟨u, hp, hb, hF⟩, hce, hcv, hcl, st⟩
  · cases hv
    obtain ⟨k1, k2, k3⟩ := vx_keep h0 e1 hS hA hf hL hF
    obtain ⟨t2, a1, b1⟩ := kk r u t T'.heap (locs ++ L) e1.symm (by rw [← e2]; exact X'.warmed.alike) hp hb k1 k2 k3 T' rfl X'
    exact ⟨t2, st t2 a1, b1⟩
  · obtain ⟨k1, k2, k3⟩ := vx_keep h0 e1 hS hAX hf hL hF
    obtain ⟨t2, a1, b1⟩ := kx E ce q u t T'.heap (locs ++ L) e1.symm (by rw [← e2]; exact X'.warmed.alike) hp hb k1 k2 k3 (by rw [e1]; exact hce) hcv hcl T' rfl X'
    exact ⟨t2, st.trans a1, b1⟩
theorem vx_callv {S SX : Type} {post : S → Prop} {px : SX → Prop} {B : S → State → Prop} {BX : String → SX → State → Prop} {AX : Nat → Prop} (hr : vx_Run p l e R s m args below meth c H locs cells slots mc ms (F0 m pc ls st0) rest (va_Qv post B A1 a) (vx_X px BX AX) free) (hS : va_S A0 H0 H locs) (hA : ∀ q, q < H.size → A1 q → A0 q) (hf : ∀ q, free q → A0 q) (hAX : ∀ q, q < H.size → AX q → A0 q)
    (kx : ∀ (E : String) (ce : Cell) (q9 : Addr) (u : SX) (t : State) (H1 : Heap) (locs1 : List Loc), t.heap = H1 → s.vm.Alike t.vm → px u → BX E u t → H.size ≤ H1.size → (∀ q : Nat, q < H.size → ¬ AX q → H1[q]? = H[q]?) → va_S A0 H0 H1 locs1 → H1[q9]? = some ce → ce.vm = .none → s.vm.findClass E = some ce.cls → vx_W p l e R s m args below meth c H1 locs1 (cells + mc) (slots + ms) Q (F0 m pc ls rest) q9)
    (kk : ∀ (u : S) (t : State) (H1 : Heap) (locs1 : List Loc), t.heap = H1 → s.vm.Alike t.vm → post u → B u t → H.size ≤ H1.size → (∀ q : Nat, q < H.size → ¬ A1 q → H1[q]? = H[q]?) → va_S A0 H0 H1 locs1 → W p l e R s m args below meth c H1 locs1 (cells + mc) (slots + ms) Q (F0 m (pc + 3) ls (rest))) : W p l e R s m args below meth c H locs cells slots Q (F0 m pc ls st0) := by
  intro T hT X
  rcases hr T hT X with ⟨v, st₀, t, T', L, h0, X', hL, e1, e2, ⟨⟨u, hv, hp, hb⟩, hF⟩, st⟩ | ⟨q, st₀, t, T', L, E, ce, h0, X', hL, e1, e2, ⟨u, hp, hb, hF⟩, hce, hcv, hcl, st⟩
  · cases hv
    obtain ⟨k1, k2, k3⟩ := vx_keep h0 e1 hS hA hf hL hF
    obtain ⟨t2, a1, b1⟩ := kk u t T'.heap (locs ++ L) e1.symm (by rw [← e2]; exact X'.warmed.alike) hp hb k1 k2 k3 T' rfl X'
    exact ⟨t2, st t2 a1, b1⟩
  · obtain ⟨k1, k2, k3⟩ := vx_keep h0 e1 hS hAX hf hL hF
    obtain ⟨t2, a1, b1⟩ := kx E ce q u t T'.heap (locs ++ L) e1.symm (by rw [← e2]; exact X'.warmed.alike) hp hb k1 k2 k3 (by rw [e1]; exact hce) hcv hcl T' rfl X'
    exact ⟨t2, st.trans a1, b1⟩
/-- caught by the row x of this method's table; the rows ahead don't take it -/
theorem vx_catch {own name : String} {E : String} {ce : Cell} {q : Addr} (hown : s.vm.findClass own = some m.cls) (pre : List ExceptionTableEntry) (x : ExceptionTableEntry) (suf : List ExceptionTableEntry) (hsplit : c.exceptionTable.toList = pre ++ x :: suf)
    (hpass : ∀ z ∈ pre, covers z pc = false ∨ (z.catchType ≠ 0 ∧ ∃ nm : String, (Cond.classLink own z.catchType nm).before args s = true ∧ va_Nc E nm s)) (hx : covers x pc = true) (h0 : x.catchType ≠ 0)
    (hlink : (Cond.classLink own x.catchType name).before args s = true) (hcast : (Cond.castable E name).before args s = true) (hcell : H[q]? = some ce) (hv : ce.vm = .none) (hcl : s.vm.findClass E = some ce.cls)
    (kk : W p l e R s m args below meth c H locs cells slots Q (F0 m x.handlerPc ls [.ref q])) : vx_W p l e R s m args below meth c H locs cells slots Q (F0 m pc ls rest) q := by
  intro T hT X
  have hpl : e.platform.magicAccessors = ({} : Platform).magicAccessors := by rw [X.admits.platform]
  obtain ⟨c3, c4, hc3, hc4, hasg⟩ := Cond.castable_spec hcast
  cases Option.some.inj (hc3.symm.trans hcl)
  obtain ⟨c5, hc5, hcl5⟩ := Cond.classLink_spec hown hlink e.platform hpl
  cases Option.some.inj (hc4.symm.trans hc5)
  obtain ⟨vm', X', st⟩ := X.thenCaughtThrough q (g := F0 m pc ls rest) rfl (Steps.refl _) (by rw [hT]; exact hcell) (by rw [hv]; rfl) (by obtain ⟨k9, h9, -⟩ := Vm.findClass_spec hcl; exact ⟨k9, h9⟩) pre x suf hsplit
    (fun z hz => by
      rcases hpass z hz with h | ⟨hz0, nm, hl1, hn1⟩
      · exact Or.inl h
      · obtain ⟨c6, hc6, hcl6⟩ := Cond.classLink_spec hown hl1 e.platform hpl
        obtain ⟨a8, b8, h1, h2, h3⟩ := hn1
        cases Option.some.inj (h1.symm.trans hcl)
        cases Option.some.inj (h2.symm.trans hc6)
        exact Or.inr ⟨hz0, _, hcl6, h3⟩) hx (Or.inr ⟨h0, c4, hcl5, hasg⟩)
  obtain ⟨t, a1, b1⟩ := kk (T.setVm vm') hT X'
  exact ⟨t, st.trans a1, b1⟩
end Rows
section Ends
variable {p : Program} {l : Launch} {e : Env} {R : Room} {s : State} {m : MethodId} {args : Array Value} {below : List Frame} {meth : Method} {c : Code} {H : Heap} {locs : List Loc} {cells slots : Nat} {Q : State → Prop}
variable {mc ms : Nat} {free : Addr → Prop} {A0 A1 : Nat → Prop} {H0 : Heap} {a : Array Value} {ls : Array Slot} {st0 rest : List Value}
variable {Qc : Array Value → State → Outcome → State → Prop} {XC : String → State → State → Prop}
/-- what a body that may throw owes at its end -/
def vx_MQ (below : List Frame) (Qc : Array Value → State → Outcome → State → Prop) (XC : String → State → State → Prop) (a : Array Value) (s : State) (mc ms : Nat) (free : Addr → Prop) : State → Prop := fun t =>
  ∃ o, t.status = .running ∧ Ended t below o ∧ vx_Q Qc XC mc ms free a s o t
theorem vx_ret {g : JFrame} {mc ms : Nat} (k : W p l e R s m args below meth c H locs cells slots (MQ below Qc args s mc ms free) g) : W p l e R s m args below meth c H locs cells slots (vx_MQ below Qc XC args s mc ms free) g := by
  intro T hT X
  obtain ⟨t, a1, o, b1, b2, b3, b4⟩ := k T hT X
  exact ⟨t, a1, o, b1, b2, Or.inl ⟨b3, b4⟩⟩
/-- not caught here: it goes on to the caller -/
theorem vx_widen {g : JFrame} {q : Addr} {k n : Nat} (h1 : cells ≤ k) (h2 : slots ≤ n) (kk : vx_W p l e R s m args below meth c H locs k n Q g q) : vx_W p l e R s m args below meth c H locs cells slots Q g q := fun T hT X => kk T hT (stand_widen X h1 h2)
theorem vx_out {pc : Nat} {E : String} {ce : Cell} {q : Addr} {mc ms : Nat} (hout : ∀ x ∈ c.exceptionTable.toList, covers x pc = false) (hlocks : meth.locks = false) (hcell : H[q]? = some ce) (hv : ce.vm = .none) (hcl : s.vm.findClass E = some ce.cls)
    (hx : ∀ t : State, t.heap = H → s.vm.Alike t.vm → XC E s t) (hf : ∀ z ∈ locs, free z.base) (hc : cells ≤ mc) (hs : slots ≤ ms) :
    vx_W p l e R s m args below meth c H locs cells slots (vx_MQ below Qc XC args s mc ms free) (F0 m pc ls rest) q := by
  intro T hT X
  obtain ⟨st1, hrun, hend, hW, hsm⟩ := X.leaveThrown q (g := F0 m pc ls rest) rfl rfl rfl hout hlocks
  have hcell9 : (T.setFrames (.throwing q :: below)).heap[q]? = some ce := by
    show T.heap[q]? = some ce
    rw [hT]; exact hcell
  exact ⟨_, st1, .threw q, hrun, hend, Or.inr ⟨q, rfl, E, ce, locs, hx _ hT hW.alike, hcell9, hv, hcl, hW, hsm.mono hc hs, hf⟩⟩
theorem vx_frame {U : State} {k n : Nat} (h : s.sameButNew ({ U with vm := s.vm } : State) locs k n) : s.heap.size ≤ U.heap.size ∧ ∀ q : Nat, q < s.heap.size → (∀ z ∈ locs, z.base ≠ q) → U.heap[q]? = s.heap[q]? := by
  obtain ⟨-, h2, -, -, -, h6⟩ := h
  refine ⟨h2, fun q hq hz => ?_⟩
  obtain ⟨c9, e1, e2, e3, e4⟩ := h6 q _ (Array.getElem?_eq_getElem hq)
  have hs : c9.slots = (s.heap[q]).slots := Array.ext_getElem? fun i => e4 i fun hm => hz _ hm rfl
  have h9 : c9 = s.heap[q] := by
    rw [hs] at e2
    exact e2
  have e5 : U.heap[q]? = some c9 := e1
  rw [e5, h9, Array.getElem?_eq_getElem hq]
/-- the words of a throw but the four that speak of the heap -/
def vx_no (w : Cond) : Bool := decide (w ≠ .isRef (.static Bundle.tN "UNASSIGNED_STACK" Bundle.steD)) && decide (w ≠ .isRef (.static Bundle.tN "SUPPRESSED_SENTINEL" Bundle.listD)) && decide (w ≠ .laysStatic Bundle.tN "UNASSIGNED_STACK" Bundle.steD) && decide (w ≠ .laysStatic Bundle.tN "SUPPRESSED_SENTINEL" Bundle.listD)
def vx_at0 (own : String) (ic : Nat) (X : String) (names : List String) : List Cond := (Bundle.ownAtoms0 own ic X names).filter vx_no
def vx_atS (own : String) (ic : Nat) (X : String) (names : List String) : List Cond := (Bundle.ownAtoms own ic X names).filter vx_no
/-- a word that the tables alone decide, or a good one -/
def vx_ot (w : Cond) : Bool := w.onTables || goodWord w
theorem vx_ot_at {args a' : Array Value} {s U : State} {w : Cond} (hW : s.WarmedH U.vm) (hvm : s.vm = U.vm) (hg : vx_ot w = true) (h : w.before args s = true) : w.before a' U = true := by
  simp only [vx_ot, Bool.or_eq_true] at hg
  rcases hg with hg | hg
  · exact va_tabs hg hvm h
  · exact word_at hW (good_of_word hg) h
/-- a list's words: the good ones out of the method's own list, the others by premises of their own -/
theorem vx_hat {args : Array Value} {s : State} {L B : List Cond} (h1 : ∀ w ∈ L.filter goodWord, w.before args s = true) (h2 : ∀ w ∈ L.filter (fun w => !goodWord w), w ∈ B) (h3 : ∀ w ∈ B, w.before args s = true) : ∀ w ∈ L, w.before args s = true := by
  intro w hw
  by_cases g : goodWord w = true
  · exact h1 w (List.mem_filter.mpr ⟨hw, g⟩)
  · refine h3 w (h2 w (List.mem_filter.mpr ⟨hw, ?_⟩))
    show (!goodWord w) = true
    cases hgw : goodWord w
    · rfl
    · exact absurd hgw g
theorem vx_c {args : Array Value} {s : State} {w : Cond} {B : List Cond} (h : w.before args s = true) (t : ∀ w ∈ B, w.before args s = true) : ∀ w' ∈ w :: B, w'.before args s = true := fun w' h' => (List.mem_cons.mp h').elim (fun e => by rw [e]; exact h) (t w')
theorem vx_n {args : Array Value} {s : State} : ∀ w ∈ ([] : List Cond), w.before args s = true := fun _ h => nomatch h
theorem vx_own {args : Array Value} {s : State} {L : List Cond} (h1 : ∀ w ∈ L.filter vx_no, w.before args s = true)
    (hU : (Cond.isRef (.static Bundle.tN "UNASSIGNED_STACK" Bundle.steD)).before args s = true) (hN : (Cond.isRef (.static Bundle.tN "SUPPRESSED_SENTINEL" Bundle.listD)).before args s = true)
    (lU : (Cond.laysStatic Bundle.tN "UNASSIGNED_STACK" Bundle.steD).before args s = true) (lN : (Cond.laysStatic Bundle.tN "SUPPRESSED_SENTINEL" Bundle.listD).before args s = true) : ∀ w ∈ L, w.before args s = true := by
  intro w hw
  by_cases e1 : w = .isRef (.static Bundle.tN "UNASSIGNED_STACK" Bundle.steD)
  · rw [e1]; exact hU
  · by_cases e2 : w = .isRef (.static Bundle.tN "SUPPRESSED_SENTINEL" Bundle.listD)
    · rw [e2]; exact hN
    · by_cases e3 : w = .laysStatic Bundle.tN "UNASSIGNED_STACK" Bundle.steD
      · rw [e3]; exact lU
      · by_cases e4 : w = .laysStatic Bundle.tN "SUPPRESSED_SENTINEL" Bundle.listD
        · rw [e4]; exact lN
        · exact h1 w (List.mem_filter.mpr ⟨hw, by unfold vx_no; rw [decide_eq_true e1, decide_eq_true e2, decide_eq_true e3, decide_eq_true e4]; rfl⟩)
/-- where a static field lies, its class's statics cell in H -/
def vx_L (C n d : String) (A : Nat → Prop) (U : State) (H : Heap) : Prop := ∃ (c : ClassId) (k : Class) (i : Nat) (f : Field) (a : Nat) (cell : Cell), U.vm.findClass C = some c ∧ U.fieldFound? C n d = some (c, k, i, f) ∧ f.isStatic = true ∧ k.statics = some a ∧ H[a]? = some cell ∧ cell.vm.isStatics = true ∧ cell.cls = c ∧ f.slot < cell.slots.size ∧ k.staticTypes[f.slot]? = some f.type ∧ ¬ A a
theorem vx_L.moved {C n d : String} {A : Nat → Prop} {u U : State} {H : Heap} (hvm : u.vm.Alike U.vm) (h : vx_L C n d A u H) : vx_L C n d A U H := by
  obtain ⟨c, k, i, f, a, cell, h1, h2, h3, h4, h5, h6, h7, h8, h9, h10⟩ := h
  obtain ⟨k', hi', he⟩ := State.fieldFound?_setVm hvm h2
  exact ⟨c, k', i, f, a, cell, by rw [hvm.findClass]; exact h1, hi', h3, by rw [he]; exact h4, h5, h6, h7, h8, by rw [he]; exact h9, h10⟩
theorem vx_L.kept {C n d : String} {A : Nat → Prop} {U : State} {H H1 : Heap} (h : vx_L C n d A U H) (hq : ∀ a : Nat, a < H.size → ¬ A a → H1[a]? = H[a]?) : vx_L C n d A U H1 := by
  obtain ⟨c, k, i, f, a, cell, h1, h2, h3, h4, h5, h6, h7, h8, h9, h10⟩ := h
  exact ⟨c, k, i, f, a, cell, h1, h2, h3, h4, by rw [hq a (Array.getElem?_eq_some_iff.mp h5).1 h10]; exact h5, h6, h7, h8, h9, h10⟩
theorem vx_L.narrow {C n d : String} {A B : Nat → Prop} {U : State} {H : Heap} (h : vx_L C n d A U H) (hAB : ∀ q, B q → A q) : vx_L C n d B U H := by
  obtain ⟨c, k, i, f, a, cell, h1, h2, h3, h4, h5, h6, h7, h8, h9, h10⟩ := h
  exact ⟨c, k, i, f, a, cell, h1, h2, h3, h4, h5, h6, h7, h8, h9, fun z => h10 (hAB _ z)⟩
theorem vx_L.word {C n d : String} {A : Nat → Prop} {s : State} {args : Array Value} (h : vx_L C n d A s s.heap) : (Cond.laysStatic C n d).before args s = true := by
  obtain ⟨c, k, i, f, a, cell, h1, h2, h3, h4, h5, h6, h7, h8, h9, -⟩ := h
  show (Cond.laysStatic C n d).holds args s none s [] = true
  exact Cond.laysStatic_of h1 h2 h3 h4 h5 h6 h7 h8 h9
/-- .. and what it holds: null or some reference -/
def vx_Zq (C n d : String) (A : Nat → Prop) (U : State) (H : Heap) : Prop := va_Zq C n d A U H ∧ vx_L C n d A U H
theorem vx_Zq.moved {C n d : String} {A : Nat → Prop} {u U : State} {H : Heap} (hvm : u.vm.Alike U.vm) (h : vx_Zq C n d A u H) : vx_Zq C n d A U H := ⟨va_Zq.moved hvm h.1, vx_L.moved hvm h.2⟩
theorem vx_Zq.kept {C n d : String} {A : Nat → Prop} {U : State} {H H1 : Heap} (h : vx_Zq C n d A U H) (hq : ∀ a : Nat, a < H.size → ¬ A a → H1[a]? = H[a]?) : vx_Zq C n d A U H1 := ⟨va_Zq.kept h.1 hq, vx_L.kept h.2 hq⟩
theorem vx_Zq.narrow {C n d : String} {A B : Nat → Prop} {U : State} {H : Heap} (h : vx_Zq C n d A U H) (hAB : ∀ q, B q → A q) : vx_Zq C n d B U H := ⟨va_Zq.narrow h.1 hAB, vx_L.narrow h.2 hAB⟩
theorem vx_Zqof {args : Array Value} {s : State} {C n d : String} {A : Nat → Prop} (hl : (Cond.laysStatic C n d).before args s = true) (hini : (Cond.initialized C).before args s = true) (h : (Cond.isRef (.static C n d)).before args s = true) (hA : ∀ a : Nat, a < s.heap.size → ¬ A a) : vx_Zq C n d A s s.heap := by
  refine ⟨va_Zqof hl hini h hA, ?_⟩
  obtain ⟨c, k, i, f, a, cell, h1, h2, h3, h4, h5, h6, h7, h8, h9⟩ := Cond.laysStatic_spec hl
  exact ⟨c, k, i, f, a, cell, h1, h2, h3, h4, h5, h6, h7, h8, h9, hA a (Array.getElem?_eq_some_iff.mp h5).1⟩
theorem vx_isRef {C n d : String} {v : Value} {A : Nat → Prop} {s : State} {args : Array Value} (h : va_Z C n d v A s s.heap) (hv : v.isRef = true) : (Cond.isRef (.static C n d)).before args s = true := by
  obtain ⟨cf, kf, fi, f, a, cell, h1, h2, h3, h4, h5, h6, h7, -⟩ := h
  have he : (Term.static C n d).eval args s none [] s = some v := by
    simp [Term.eval, State.fieldNamed?, h1, h2, h4, h5, h6, h7]
  simp only [Cond.before, Cond.holds, Cond.value, he]
  cases v <;> simp_all [Value.isRef]
theorem vx_isRefq {C n d : String} {A : Nat → Prop} {s : State} {args : Array Value} (h : va_Zq C n d A s s.heap) : (Cond.isRef (.static C n d)).before args s = true := by
  rcases h with h | ⟨t, h⟩
  · exact vx_isRef h rfl
  · exact vx_isRef h rfl
/-- the same frame, seen from here: as if the method were called anew in this heap -/
theorem vx_rebase {T : State} (X : Stand p l e R s m args below meth c T locs cells slots) {R' : Room} (hf : R'.frames ≤ R.frames) (hl : R'.locals ≤ R.locals) (hc : cells + R'.cells ≤ R.cells) (hs : slots + R'.slots ≤ R.slots) :
    Stand p l e R' ((T.setVm s.vm).setFrames (.invoking m args :: below)) m args below meth c T [] 0 0 := by
  have htop : (T.setVm s.vm).topJava?.isSome := X.here.top
  have hF : ((T.setVm s.vm).setFrames (.invoking m args :: below)).frames = .invoking m args :: below := State.frames_setFrames _ (State.cur_lt_of_top htop)
  obtain ⟨g₀, hg0⟩ := Option.isSome_iff_exists.mp htop
  obtain ⟨r, hr⟩ := State.topJava?_eq_some.mp hg0
  have hl9 : e.platform.stackLimits (T.setVm s.vm).me = e.platform.stackLimits s.me := X.limits
  have hb9 : (T.setVm s.vm).me.stackBytes = s.me.stackBytes := X.bytes
  refine ⟨X.admits, X.cas, X.clock, hF, ?_, X.hears, X.method, X.code, X.here, X.tail, X.warmed, ?_, ?_, ?_⟩
  · have h := X.room
    have hU : ((T.setVm s.vm).setFrames (.invoking m args :: below)).localsInUse = s.localsInUse := by
      rw [State.localsInUse_invoking hF (meth := meth) (c := c) X.method X.code, State.localsInUse_invoking X.frames X.method X.code]
    simp only [State.hasRoom, Bool.and_eq_true, decide_eq_true_eq] at h ⊢
    obtain ⟨⟨⟨⟨h1, h2, h3, h4, h5, h6⟩, h7⟩, h8⟩, h9⟩ := h
    rw [X.frames, List.length_cons] at h2 h3
    have q1 := X.heapSize
    have q2 := X.used
    simp only [hF, hU, List.length_cons, State.stackLimits_setFrames, State.stackBytes_setFrames, hl9, hb9]
    refine ⟨⟨⟨⟨by omega, by omega, by omega, by omega, by omega, h6⟩, ?_⟩, ?_⟩, X.book⟩
    · show T.heap.size + R'.cells ≤ e.platform.maxCells
      omega
    · show T.slotsUsed + R'.slots ≤ e.platform.maxSlots
      omega
  · rw [State.stackLimits_setFrames]; rfl
  · rw [State.stackBytes_setFrames]; rfl
  · refine ⟨?_, Nat.le_refl _, Nat.le_refl _, ?_, ?_, fun a c9 h9 => ⟨c9, h9, rfl, rfl, fun _ _ => rfl⟩⟩
    · obtain ⟨t, ht, -⟩ := State.frames_cons hr
      show T.setVm s.vm = { ((T.setVm s.vm).setFrames (.invoking m args :: below)).setFrames (T.setVm s.vm).frames with heap := T.heap, slotsUsed := T.slotsUsed }
      rw [State.setFrames_setFrames, State.setFrames_self ht]
      rfl
    · show T.slotsUsed = T.slotsUsed + ((T.heap.toList.drop T.heap.size).map (·.slots.size)).sum
      rw [List.drop_eq_nil_of_le (Nat.le_of_eq Array.length_toList)]
      rfl
    · show ((T.heap.toList.drop T.heap.size).map (·.slots.size)).sum ≤ 0
      rw [List.drop_eq_nil_of_le (Nat.le_of_eq Array.length_toList)]
      exact Nat.le_refl _
/-- 'throw new E()': new; dup; invokespecial; athrow -/
theorem vx_throw0 {cc : ByteArray} {pc : Nat} (hexec : p.tables.exec = Jvm.exec) (hb : c.code = cc) (hl : l.stackTraces = false) {own cls : String} {names : List String} {ik ic mc ms : Nat} {A : Nat → Prop}
    (hown : s.vm.findClass own = some m.cls) (hcls : Bundle.fit cls = true) (hnames : ∀ n ∈ names, Bundle.fit n = true)
    (hk : (Cond.classLink own ik cls).before args s = true) (hini : (Cond.initialized cls).before args s = true) (hat : ∀ w ∈ vx_at0 own ic cls names, w.before args s = true)
    (hgood : ∀ w ∈ Cond.classLink own ik cls :: Cond.initialized cls :: vx_at0 own ic cls names, vx_ot w = true)
    (hU : vx_Zq Bundle.tN "UNASSIGNED_STACK" Bundle.steD A s s.heap) (hN : vx_Zq Bundle.tN "SUPPRESSED_SENTINEL" Bundle.listD A s s.heap) (hS : va_S A s.heap H locs) (hsize : ls.size = c.maxLocals)
    (d0 : decode cc pc = .ok (.new ik, 3)) (d3 : decode cc (pc + 3) = .ok (.dup, 1)) (d4 : decode cc (pc + 4) = .ok (.invokespecial ic, 3)) (d7 : decode cc (pc + 7) = .ok (.athrow, 1))
    (hout : ∀ x ∈ c.exceptionTable.toList, covers x (pc + 7) = false)
    (hRframes : names.length + 3 < R.frames) (hRlocals : (rest.map fun v => v.category).sum + (13 * (names.length + 1) + 42) ≤ R.locals) (hRcells : cells + 1 ≤ R.cells) (hRslots : slots + 6 ≤ R.slots) (hlocks : meth.locks = false)
    (hx : ∀ t : State, s.vm.Alike t.vm → H.size ≤ t.heap.size → (∀ q : Nat, q < H.size → t.heap[q]? = H[q]?) → XC cls s t)
    (hf : ∀ z ∈ locs, free z.base) (hc : cells + 1 ≤ mc) (hs : slots + 6 ≤ ms) :
    W p l e R s m args below meth c H locs cells slots (vx_MQ below Qc XC args s mc ms free) (F0 m pc ls rest) := by
  intro T hT X
  have htr : e.platform.stackTraces = false := (show e.platform.stackTraces = l.stackTraces by rw [X.admits.platform]).trans hl
  have Y := vx_rebase X (R' := { frames := R.frames, locals := R.locals, cells := 1, slots := 6 }) (Nat.le_refl _) (Nat.le_refl _) hRcells hRslots
  obtain ⟨s', hA⟩ : ∃ z, z = (T.setVm s.vm).setFrames (.invoking m args :: below) := ⟨_, rfl⟩
  rw [← hA] at Y
  have hvm : s'.vm = s.vm := by rw [hA]; rfl
  have hhp : s'.heap = H := by rw [hA]; exact hT
  have hW0 : s.WarmedH s'.vm := by rw [hvm]; exact State.WarmedH.refl s
  have hat' : ∀ w ∈ vx_at0 own ic cls names, w.before args s' = true := fun w hw => vx_ot_at hW0 hvm.symm (hgood w (List.mem_cons_of_mem _ (List.mem_cons_of_mem _ hw))) (hat w hw)
  have hk' : (Cond.classLink own ik cls).before args s' = true := vx_ot_at hW0 hvm.symm (hgood _ List.mem_cons_self) hk
  have hini' : (Cond.initialized cls).before args s' = true := vx_ot_at hW0 hvm.symm (hgood _ (List.mem_cons_of_mem _ List.mem_cons_self)) hini
  have hU' : vx_Zq Bundle.tN "UNASSIGNED_STACK" Bundle.steD A s' s'.heap := by rw [hhp]; exact vx_Zq.moved hW0.alike (hU.kept hS.2.1)
  have hN' : vx_Zq Bundle.tN "SUPPRESSED_SENTINEL" Bundle.listD A s' s'.heap := by rw [hhp]; exact vx_Zq.moved hW0.alike (hN.kept hS.2.1)
  have h : ∀ w ∈ Bundle.ownAtoms0 own ic cls names, w.before args s' = true := vx_own hat' (vx_isRefq hU'.1) (vx_isRefq hN'.1) hU'.2.word hN'.2.word
  have hown' : s'.vm.findClass own = some m.cls := by rw [hvm]; exact hown
  have hins : (Cond.instantiable cls 6).before args s' = true := h _ (by simp [Bundle.ownAtoms0])
  obtain ⟨vm₁, cX, kX, hfX, hkX, -, -, X₁, st1⟩ := Y.newCold hexec (own := own) (C := cls) (index := ik) (n := 6) hown' hk' hins hini'
    (g := F0 m pc ls rest) rfl (by rw [hb]; exact d0) (Nat.le_refl _) (Nat.le_refl _)
  generalize hT1 : (T.setVm vm₁).pushCell { cls := cX, slots := kX.instanceTypes.map defaultValue, vm := .none } = T1 at X₁ st1
  have hcat : (Value.ref T.heap.size).category = 1 := rfl
  have hcellA : T1.heap[T.heap.size]? = some (freshCell cX kX) := by rw [← hT1]; exact State.heap_pushCell_size _ _
  have d3' : decode c.code (pc + 3) = .ok (.dup, 1) := by rw [hb]; exact d3
  obtain ⟨U, hsteps, hrun, hend, hW, hsame, ce, hce, hO⟩ := X₁.ctorThrow0 hexec htr (own := own) (cls := cls) (names := names) (ic := ic) hown' hcls hnames h (fun x hx => nomatch hx) hfX hkX hcellA (by rw [hhp, hT]; exact Nat.le_refl _)
    (g := { method := m, pc := pc + 4, locals := ls, stack := .ref T.heap.size :: .ref T.heap.size :: rest, locked := none }) rfl hsize rfl rfl (rest := rest) rfl
    (by rw [hb]; exact d4) (by rw [hb]; exact d7) hout hRframes (by simp only [List.map_cons, List.sum_cons, hcat]; omega) hlocks
  obtain ⟨f1, f2⟩ := vx_frame hsame
  rw [hhp] at f1 f2
  have hWs : s.WarmedH U.vm := State.WarmedH.trans hW0 hW
  have hcl : s.vm.findClass cls = some ce.cls := by
    have h9 := hO.cls
    rw [hvm] at h9
    exact h9
  have hall : s.sameButNew ({ U with vm := s.vm } : State) locs mc ms := by
    subst hA
    obtain ⟨e1, e2⟩ := hsame
    rw [State.setFrames_setFrames] at e1
    have h2 : (T.setVm s.vm).sameButNew ({ U with vm := s.vm } : State) [] (0 + 1) (0 + 6) := ⟨e1, e2⟩
    have h3 := X.same.trans h2
    rw [List.append_nil] at h3
    exact h3.mono hc hs
  refine ⟨U, ?_, .threw T.heap.size, hrun, hend, Or.inr ⟨T.heap.size, rfl, cls, ce, locs, hx U hWs.alike f1 (fun q hq => f2 q hq (fun z hz => nomatch hz)), hce, hO.vm, hcl, hWs, hall, hf⟩⟩
  refine st1 _ ?_
  show Steps p.tables e below (T1.setTop { method := m, pc := pc + 3, locals := ls, stack := .ref T.heap.size :: rest, locked := none }) _
  jvm_step X₁.here [X₁.here.top, hexec, d3', Value.category]
  exact hsteps
/-- 'throw new E("text")': new; dup; ldc; invokespecial; athrow -/
theorem vx_throwS {cc : ByteArray} {pc : Nat} (hexec : p.tables.exec = Jvm.exec) (hb : c.code = cc) (hl : l.stackTraces = false) {own cls text : String} {names : List String} {ik is ic mc ms sa : Nat} {A : Nat → Prop}
    (hown : s.vm.findClass own = some m.cls) (hcls : Bundle.fit cls = true) (hnames : ∀ n ∈ names, Bundle.fit n = true)
    (hk : (Cond.classLink own ik cls).before args s = true) (hini : (Cond.initialized cls).before args s = true) (hstr : vk_R own is text sa s) (hat : ∀ w ∈ vx_atS own ic cls names, w.before args s = true)
    (hgood : ∀ w ∈ Cond.classLink own ik cls :: Cond.initialized cls :: vx_atS own ic cls names, vx_ot w = true)
    (hU : vx_Zq Bundle.tN "UNASSIGNED_STACK" Bundle.steD A s s.heap) (hN : vx_Zq Bundle.tN "SUPPRESSED_SENTINEL" Bundle.listD A s s.heap) (hS : va_S A s.heap H locs) (hsize : ls.size = c.maxLocals)
    (d0 : decode cc pc = .ok (.new ik, 3)) (d3 : decode cc (pc + 3) = .ok (.dup, 1)) (d4 : decode cc (pc + 4) = .ok (.ldc is, 2)) (d6 : decode cc (pc + 6) = .ok (.invokespecial ic, 3)) (d9 : decode cc (pc + 9) = .ok (.athrow, 1))
    (hout : ∀ x ∈ c.exceptionTable.toList, covers x (pc + 9) = false)
    (hRframes : names.length + 3 < R.frames) (hRlocals : (rest.map fun v => v.category).sum + (13 * (names.length + 1) + 43) ≤ R.locals) (hRcells : cells + 1 ≤ R.cells) (hRslots : slots + 6 ≤ R.slots) (hlocks : meth.locks = false)
    (hx : ∀ t : State, s.vm.Alike t.vm → H.size ≤ t.heap.size → (∀ q : Nat, q < H.size → t.heap[q]? = H[q]?) → XC cls s t)
    (hf : ∀ z ∈ locs, free z.base) (hc : cells + 1 ≤ mc) (hs : slots + 6 ≤ ms) :
    W p l e R s m args below meth c H locs cells slots (vx_MQ below Qc XC args s mc ms free) (F0 m pc ls rest) := by
  intro T hT X
  have htr : e.platform.stackTraces = false := (show e.platform.stackTraces = l.stackTraces by rw [X.admits.platform]).trans hl
  have Y := vx_rebase X (R' := { frames := R.frames, locals := R.locals, cells := 1, slots := 6 }) (Nat.le_refl _) (Nat.le_refl _) hRcells hRslots
  obtain ⟨s', hA⟩ : ∃ z, z = (T.setVm s.vm).setFrames (.invoking m args :: below) := ⟨_, rfl⟩
  rw [← hA] at Y
  have hvm : s'.vm = s.vm := by rw [hA]; rfl
  have hhp : s'.heap = H := by rw [hA]; exact hT
  have hW0 : s.WarmedH s'.vm := by rw [hvm]; exact State.WarmedH.refl s
  have hat' : ∀ w ∈ vx_atS own ic cls names, w.before args s' = true := fun w hw => vx_ot_at hW0 hvm.symm (hgood w (List.mem_cons_of_mem _ (List.mem_cons_of_mem _ hw))) (hat w hw)
  have hk' : (Cond.classLink own ik cls).before args s' = true := vx_ot_at hW0 hvm.symm (hgood _ List.mem_cons_self) hk
  have hini' : (Cond.initialized cls).before args s' = true := vx_ot_at hW0 hvm.symm (hgood _ (List.mem_cons_of_mem _ List.mem_cons_self)) hini
  have hU' : vx_Zq Bundle.tN "UNASSIGNED_STACK" Bundle.steD A s' s'.heap := by rw [hhp]; exact vx_Zq.moved hW0.alike (hU.kept hS.2.1)
  have hN' : vx_Zq Bundle.tN "SUPPRESSED_SENTINEL" Bundle.listD A s' s'.heap := by rw [hhp]; exact vx_Zq.moved hW0.alike (hN.kept hS.2.1)
  have h : ∀ w ∈ Bundle.ownAtoms own ic cls names, w.before args s' = true := vx_own hat' (vx_isRefq hU'.1) (vx_isRefq hN'.1) hU'.2.word hN'.2.word
  have hown' : s'.vm.findClass own = some m.cls := by rw [hvm]; exact hown
  have hins : (Cond.instantiable cls 6).before args s' = true := h _ (by simp [Bundle.ownAtoms])
  obtain ⟨vm₁, cX, kX, hfX, hkX, -, -, X₁, st1⟩ := Y.newCold hexec (own := own) (C := cls) (index := ik) (n := 6) hown' hk' hins hini'
    (g := F0 m pc ls rest) rfl (by rw [hb]; exact d0) (Nat.le_refl _) (Nat.le_refl _)
  generalize hT1 : (T.setVm vm₁).pushCell { cls := cX, slots := kX.instanceTypes.map defaultValue, vm := .none } = T1 at X₁ st1
  have hcat : (Value.ref T.heap.size).category = 1 := rfl
  have hcellA : T1.heap[T.heap.size]? = some (freshCell cX kX) := by rw [← hT1]; exact State.heap_pushCell_size _ _
  have d3' : decode c.code (pc + 3) = .ok (.dup, 1) := by rw [hb]; exact d3
  have d4' : decode c.code (pc + 4) = .ok (.ldc is, 2) := by rw [hb]; exact d4
  have hstr' : vk_R own is text sa s' := vk_R.warm hW0 hstr
  obtain ⟨U, hsteps, hrun, hend, hW, hsame, ce, hce, hO⟩ := X₁.ctorThrowS hexec htr (own := own) (cls := cls) (names := names) (ic := ic) hown' hcls hnames h (fun x hx => nomatch hx) hfX hkX hcellA (by rw [hhp, hT]; exact Nat.le_refl _) (msg := .ref sa) rfl
    (g := { method := m, pc := pc + 6, locals := ls, stack := .ref sa :: .ref T.heap.size :: .ref T.heap.size :: rest, locked := none }) rfl hsize rfl rfl (rest := rest) rfl
    (by rw [hb]; exact d6) (by rw [hb]; exact d9) hout hRframes (by simp only [List.map_cons, List.sum_cons, hcat]; omega) hlocks
  obtain ⟨f1, f2⟩ := vx_frame hsame
  rw [hhp] at f1 f2
  have hWs : s.WarmedH U.vm := State.WarmedH.trans hW0 hW
  have hcl : s.vm.findClass cls = some ce.cls := by
    have h9 := hO.cls
    rw [hvm] at h9
    exact h9
  have hall : s.sameButNew ({ U with vm := s.vm } : State) locs mc ms := by
    subst hA
    obtain ⟨e1, e2⟩ := hsame
    rw [State.setFrames_setFrames] at e1
    have h2 : (T.setVm s.vm).sameButNew ({ U with vm := s.vm } : State) [] (0 + 1) (0 + 6) := ⟨e1, e2⟩
    have h3 := X.same.trans h2
    rw [List.append_nil] at h3
    exact h3.mono hc hs
  refine ⟨U, ?_, .threw T.heap.size, hrun, hend, Or.inr ⟨T.heap.size, rfl, cls, ce, locs, hx U hWs.alike f1 (fun q hq => f2 q hq (fun z hz => nomatch hz)), hce, hO.vm, hcl, hWs, hall, hf⟩⟩
  refine st1 _ ?_
  show Steps p.tables e below (T1.setTop { method := m, pc := pc + 3, locals := ls, stack := .ref T.heap.size :: rest, locked := none }) _
  jvm_step X₁.here [X₁.here.top, hexec, d3', Value.category]
  exact X₁.ldcString hexec (own := own) (text := text) (index := is) (a := sa) hown' hstr'.1 hstr'.2
    (g := { method := m, pc := pc + 4, locals := ls, stack := .ref T.heap.size :: .ref T.heap.size :: rest, locked := none }) rfl d4' _ hsteps
/-- 'throw new E("text")', the text by a wide index -/
theorem vx_throwSW {cc : ByteArray} {pc : Nat} (hexec : p.tables.exec = Jvm.exec) (hb : c.code = cc) (hl : l.stackTraces = false) {own cls text : String} {names : List String} {ik is ic mc ms sa : Nat} {A : Nat → Prop}
    (hown : s.vm.findClass own = some m.cls) (hcls : Bundle.fit cls = true) (hnames : ∀ n ∈ names, Bundle.fit n = true)
    (hk : (Cond.classLink own ik cls).before args s = true) (hini : (Cond.initialized cls).before args s = true) (hstr : vk_R own is text sa s) (hat : ∀ w ∈ vx_atS own ic cls names, w.before args s = true)
    (hgood : ∀ w ∈ Cond.classLink own ik cls :: Cond.initialized cls :: vx_atS own ic cls names, vx_ot w = true)
    (hU : vx_Zq Bundle.tN "UNASSIGNED_STACK" Bundle.steD A s s.heap) (hN : vx_Zq Bundle.tN "SUPPRESSED_SENTINEL" Bundle.listD A s s.heap) (hS : va_S A s.heap H locs) (hsize : ls.size = c.maxLocals)
    (d0 : decode cc pc = .ok (.new ik, 3)) (d3 : decode cc (pc + 3) = .ok (.dup, 1)) (d4 : decode cc (pc + 4) = .ok (.ldc_w is, 3)) (d7 : decode cc (pc + 7) = .ok (.invokespecial ic, 3)) (d10 : decode cc (pc + 10) = .ok (.athrow, 1))
    (hout : ∀ x ∈ c.exceptionTable.toList, covers x (pc + 10) = false)
    (hRframes : names.length + 3 < R.frames) (hRlocals : (rest.map fun v => v.category).sum + (13 * (names.length + 1) + 43) ≤ R.locals) (hRcells : cells + 1 ≤ R.cells) (hRslots : slots + 6 ≤ R.slots) (hlocks : meth.locks = false)
    (hx : ∀ t : State, s.vm.Alike t.vm → H.size ≤ t.heap.size → (∀ q : Nat, q < H.size → t.heap[q]? = H[q]?) → XC cls s t)
    (hf : ∀ z ∈ locs, free z.base) (hc : cells + 1 ≤ mc) (hs : slots + 6 ≤ ms) :
    W p l e R s m args below meth c H locs cells slots (vx_MQ below Qc XC args s mc ms free) (F0 m pc ls rest) := by
  intro T hT X
  have htr : e.platform.stackTraces = false := (show e.platform.stackTraces = l.stackTraces by rw [X.admits.platform]).trans hl
  have Y := vx_rebase X (R' := { frames := R.frames, locals := R.locals, cells := 1, slots := 6 }) (Nat.le_refl _) (Nat.le_refl _) hRcells hRslots
  obtain ⟨s', hA⟩ : ∃ z, z = (T.setVm s.vm).setFrames (.invoking m args :: below) := ⟨_, rfl⟩
  rw [← hA] at Y
  have hvm : s'.vm = s.vm := by rw [hA]; rfl
  have hhp : s'.heap = H := by rw [hA]; exact hT
  have hW0 : s.WarmedH s'.vm := by rw [hvm]; exact State.WarmedH.refl s
  have hat' : ∀ w ∈ vx_atS own ic cls names, w.before args s' = true := fun w hw => vx_ot_at hW0 hvm.symm (hgood w (List.mem_cons_of_mem _ (List.mem_cons_of_mem _ hw))) (hat w hw)
  have hk' : (Cond.classLink own ik cls).before args s' = true := vx_ot_at hW0 hvm.symm (hgood _ List.mem_cons_self) hk
  have hini' : (Cond.initialized cls).before args s' = true := vx_ot_at hW0 hvm.symm (hgood _ (List.mem_cons_of_mem _ List.mem_cons_self)) hini
  have hU' : vx_Zq Bundle.tN "UNASSIGNED_STACK" Bundle.steD A s' s'.heap := by rw [hhp]; exact vx_Zq.moved hW0.alike (hU.kept hS.2.1)
  have hN' : vx_Zq Bundle.tN "SUPPRESSED_SENTINEL" Bundle.listD A s' s'.heap := by rw [hhp]; exact vx_Zq.moved hW0.alike (hN.kept hS.2.1)
  have h : ∀ w ∈ Bundle.ownAtoms own ic cls names, w.before args s' = true := vx_own hat' (vx_isRefq hU'.1) (vx_isRefq hN'.1) hU'.2.word hN'.2.word
  have hown' : s'.vm.findClass own = some m.cls := by rw [hvm]; exact hown
  have hins : (Cond.instantiable cls 6).before args s' = true := h _ (by simp [Bundle.ownAtoms])
  obtain ⟨vm₁, cX, kX, hfX, hkX, -, -, X₁, st1⟩ := Y.newCold hexec (own := own) (C := cls) (index := ik) (n := 6) hown' hk' hins hini'
    (g := F0 m pc ls rest) rfl (by rw [hb]; exact d0) (Nat.le_refl _) (Nat.le_refl _)
  generalize hT1 : (T.setVm vm₁).pushCell { cls := cX, slots := kX.instanceTypes.map defaultValue, vm := .none } = T1 at X₁ st1
  have hcat : (Value.ref T.heap.size).category = 1 := rfl
  have hcellA : T1.heap[T.heap.size]? = some (freshCell cX kX) := by rw [← hT1]; exact State.heap_pushCell_size _ _
  have d3' : decode c.code (pc + 3) = .ok (.dup, 1) := by rw [hb]; exact d3
  have d4' : decode c.code (pc + 4) = .ok (.ldc_w is, 3) := by rw [hb]; exact d4
  have hstr' : vk_R own is text sa s' := vk_R.warm hW0 hstr
  obtain ⟨U, hsteps, hrun, hend, hW, hsame, ce, hce, hO⟩ := X₁.ctorThrowS hexec htr (own := own) (cls := cls) (names := names) (ic := ic) hown' hcls hnames h (fun x hx => nomatch hx) hfX hkX hcellA (by rw [hhp, hT]; exact Nat.le_refl _) (msg := .ref sa) rfl
    (g := { method := m, pc := pc + 7, locals := ls, stack := .ref sa :: .ref T.heap.size :: .ref T.heap.size :: rest, locked := none }) rfl hsize rfl rfl (rest := rest) rfl
    (by rw [hb]; exact d7) (by rw [hb]; exact d10) hout hRframes (by simp only [List.map_cons, List.sum_cons, hcat]; omega) hlocks
  obtain ⟨f1, f2⟩ := vx_frame hsame
  rw [hhp] at f1 f2
  have hWs : s.WarmedH U.vm := State.WarmedH.trans hW0 hW
  have hcl : s.vm.findClass cls = some ce.cls := by
    have h9 := hO.cls
    rw [hvm] at h9
    exact h9
  have hall : s.sameButNew ({ U with vm := s.vm } : State) locs mc ms := by
    subst hA
    obtain ⟨e1, e2⟩ := hsame
    rw [State.setFrames_setFrames] at e1
    have h2 : (T.setVm s.vm).sameButNew ({ U with vm := s.vm } : State) [] (0 + 1) (0 + 6) := ⟨e1, e2⟩
    have h3 := X.same.trans h2
    rw [List.append_nil] at h3
    exact h3.mono hc hs
  refine ⟨U, ?_, .threw T.heap.size, hrun, hend, Or.inr ⟨T.heap.size, rfl, cls, ce, locs, hx U hWs.alike f1 (fun q hq => f2 q hq (fun z hz => nomatch hz)), hce, hO.vm, hcl, hWs, hall, hf⟩⟩
  refine st1 _ ?_
  show Steps p.tables e below (T1.setTop { method := m, pc := pc + 3, locals := ls, stack := .ref T.heap.size :: rest, locked := none }) _
  jvm_step X₁.here [X₁.here.top, hexec, d3', Value.category]
  exact X₁.ldcStringW hexec (own := own) (text := text) (index := is) (a := sa) hown' hstr'.1 hstr'.2
    (g := { method := m, pc := pc + 4, locals := ls, stack := .ref T.heap.size :: .ref T.heap.size :: rest, locked := none }) rfl d4' _ hsteps
end Ends
section Bodies
variable {l : Launch}
theorem vx_ofW {y : MethodName} {ws ws' : List Cond} {rm : Room} {Pc : Array Value → State → Prop} {Qc : Array Value → State → Outcome → State → Prop} {XC : String → State → State → Prop} {mc ms : Nat} {free : Addr → Prop} {cc : ByteArray} {maxL : Nat} {ret : Option FieldType}
    (hy : plainName y.cls = true) (hw : ws = Cond.code y cc maxL ret :: ws')
    (body : ∀ p e s m args below meth c s₁, BodyLoose p l y (headSpec ws rm) cc maxL ret e s m args below meth c s₁ → c.maxLocals = maxL → (∀ x ∈ c.exceptionTable.toList, False) → Pc args s →
      W p l e (headSpec ws rm).room s m args below meth c s.heap [] 0 0 (vx_MQ below Qc XC args s mc ms free) (entryFrame m args maxL)) : vx_Met l y ws rm Pc Qc XC mc ms free := by
  refine MetFree.of_bodyS (code := cc) (maxLocals := maxL) (ret := ret) hy ?_ ?_
  · intro args s m h hn
    obtain ⟨meth, c, h1, h2, h3, h4, h5, h6, -, -⟩ := Cond.code_spec hn (atoms_spec (ws := ws) h _ (by rw [hw]; exact List.mem_cons_self))
    exact ⟨meth, c, h1, h2, h3, h4, h5, h6⟩
  · intro p e s m args below meth c s₁ B hml hP _
    have hh0 : s₁.heap = s.heap := by rw [B.state]; rfl
    have ht : ∀ x ∈ c.exceptionTable.toList, False := by
      obtain ⟨meth9, c9, h1, h2, -, -, -, -, h7, -⟩ := Cond.code_spec B.named (atoms_spec (ws := ws) B.pre _ (by rw [hw]; exact List.mem_cons_self))
      cases Option.some.inj (h1.symm.trans B.method)
      cases Option.some.inj (h2.symm.trans (Stand.of_body B).code)
      intro x hx
      rw [Array.isEmpty_iff.mp h7] at hx
      cases hx
    obtain ⟨t, a1, o, b1, b2, b3⟩ := body p e s m args below meth c s₁ B hml ht hP s₁ hh0 (Stand.of_body B)
    exact ⟨t, o, a1, b1, b2, b3⟩
/-- the table of a body with handlers -/
theorem vx_table {p : Program} {x y : MethodName} {S : Spec} {cc bytes : ByteArray} {maxL maxL' : Nat} {ret ret' : Option FieldType} {e : Env} {s s₁ : State} {m : MethodId} {args : Array Value} {below : List Frame} {meth : Method} {c : Code} {hh : List (Nat × Nat × Nat × Nat)}
    (B : BodyLoose p l y S cc maxL ret e s m args below meth c s₁) (h : (Cond.codeWith y bytes maxL' ret' hh).before args s = true) : c.exceptionTable.toList = tableOf hh := by
  obtain ⟨m9, meth9, c9, hn9, h1, h2, -, -, h6, -⟩ := Cond.codeWith_spec h
  cases Option.some.inj (hn9.symm.trans B.named)
  cases Option.some.inj (h1.symm.trans B.method)
  cases Option.some.inj (h2.symm.trans (Stand.of_body B).code)
  rw [← h6, table_eq]
end Bodies
end VXA
/-! ===== END ===== -/
/-! ===== BEGIN a static call of a method with an exception table ===== -/
section VXS
variable {p : Program} {l : Launch} {e : Env} {R : Room} {s : State} {m : MethodId} {args : Array Value} {below : List Frame} {meth : Method} {c : Code} {T : State} {H : Heap} {locs : List Loc} {cells slots : Nat}
abbrev vx_CSW (R : Room) (s : State) (args : Array Value) (own : String) (index : Nat) (y : MethodName) (bytes : ByteArray) (maxL : Nat) (ret : Option FieldType) (hh : List (Nat × Nat × Nat × Nat)) (ws : List Cond) (rm : Room) (mc ms n : Nat) : Prop :=
  (rm.cells = mc ∧ rm.slots = ms ∧ rm.frames + 1 ≤ R.frames ∧ 8 + (maxL + 11) + rm.locals ≤ R.locals ∧ (∀ w ∈ ws, ∀ (a' : Array Value) (U : State), s.WarmedH U.vm → w.before a' U = true) ∧ Cond.codeWith y bytes maxL ret hh ∈ ws) ∧
  (Cond.codeWith y bytes maxL ret hh).before args s = true ∧ (Cond.initialized y.cls).before args s = true ∧ (y.cls ≠ "java/lang/invoke/MethodHandle" ∧ y.cls ≠ "java/lang/invoke/VarHandle") ∧
  (∀ sig, parseMethodDescriptor y.desc = some sig → n = sig.parameters.length) ∧ (Cond.methodLink own index y).before args s = true ∧ (Cond.static y).before args s = true
theorem vx_cwSW {own : String} {index maxL mc ms : Nat} {y : MethodName} {bytes : ByteArray} {ret : Option FieldType} {hh : List (Nat × Nat × Nat × Nat)} {Ts ws ws' : List Cond} {rm : Room} (n : Nat) (ht : ∀ w ∈ Ts, w.before args s = true) (hT : GoodIn Ts (va_wsS own index y ws)) (hw : ws = Cond.codeWith y bytes maxL ret hh :: ws') (hrc : rm.cells = mc) (hrs : rm.slots = ms)
    (hd : y.cls ≠ "java/lang/invoke/MethodHandle" ∧ y.cls ≠ "java/lang/invoke/VarHandle" ∧ (parseMethodDescriptor y.desc).map (fun d => d.parameters.length) = some n) (hR : rm.frames + 1 ≤ R.frames ∧ 8 + (maxL + 11) + rm.locals ≤ R.locals) :
    vx_CSW R s args own index y bytes maxL ret hh ws rm mc ms n := by
  have ok : ∀ w ∈ va_wsS own index y ws, w.before args s = true := fun w h => ht w (hT w h).1
  have hG : GoodIn Ts ws := fun w h => hT w (by unfold va_wsS; exact List.mem_append_right _ h)
  have hc : Cond.codeWith y bytes maxL ret hh ∈ ws := by rw [hw]; exact List.mem_cons_self
  refine ⟨⟨hrc, hrs, hR.1, hR.2, pay_in ht hG, hc⟩, ht _ (hG _ hc).1, ok _ (by simp [va_wsS]), ⟨hd.1, hd.2.1⟩, fun sig h => ?_, ok _ (by simp [va_wsS]), ok _ (by simp [va_wsS])⟩
  have h2 := hd.2.2
  rw [h] at h2
  exact (Option.some.inj h2).symm
theorem vx_callSW (X : Stand p l e R s m args below meth c T locs cells slots) (hexec : p.tables.exec = Jvm.exec) {own : String} {index : Nat} {y : MethodName} {bytes : ByteArray} {maxL : Nat} {ret : Option FieldType} {hh : List (Nat × Nat × Nat × Nat)}
    (hown : s.vm.findClass own = some m.cls) (hlink : (Cond.methodLink own index y).before args s = true) (hstat : (Cond.static y).before args s = true) (hinit : (Cond.initialized y.cls).before args s = true)
    (hcode : (Cond.codeWith y bytes maxL ret hh).before args s = true) (hy : y.cls ≠ "java/lang/invoke/MethodHandle" ∧ y.cls ≠ "java/lang/invoke/VarHandle")
    {W9 : Nat} {Pre : Pt → Array Value → Prop} {Post : Pt → Array Value → Option Value → Pt → Prop} (hK : Back l R p e below s args y 3 W9 Pre Post)
    {g : JFrame} (hg : g.method = m) (hsize : g.locals.size = c.maxLocals) {argsL rest : List Value} (hlen : ∀ sig, parseMethodDescriptor y.desc = some sig → argsL.length = sig.parameters.length)
    (hstack : g.stack = argsL.reverse ++ rest) (hW : 2 * g.monitorRoom + (rest.map fun v => v.category).sum ≤ W9) (hdg : decode c.code g.pc = .ok (.invokestatic index, 3))
    (hpre : ∀ vm₁, s.WarmedH vm₁ → Pre ⟨T.setVm vm₁, locs, cells, slots⟩ argsL.toArray) :
    ∃ (v : Option Value) (vm₁ : Vm) (B : Pt), s.WarmedH vm₁ ∧ Stand p l e R s m args below meth c B.U B.locs B.cells B.slots ∧ Post ⟨T.setVm vm₁, locs, cells, slots⟩ argsL.toArray v B ∧
      ∀ target, Steps p.tables e below (B.U.setTop { g with pc := g.pc + 3, stack := v.toList ++ rest }) target → Steps p.tables e below (T.setTop g) target := by
  obtain ⟨mk, methM, cM, hnamed, hmethM, -, -, -, -, -, -, hsigM⟩ := Cond.codeWith_spec hcode
  have hstatic : methM.isStatic = true := Cond.static_spec hnamed hmethM hstat
  obtain ⟨kP, hkP, -⟩ := className_of_methodNamed hnamed
  have hinitP : kP.init = .initialized := Cond.initialized_spec (findClass_of_methodNamed hnamed) hkP hinit
  obtain ⟨vm₁, X₁, hstep₁⟩ := X.invokestatic hexec hown hlink hnamed hmethM hstatic hkP hinitP hy (g := g) hg (argsL := argsL) (rest := rest) (hlen _ hsigM) hstack hdg
  obtain ⟨v, B, X', hpost, hsteps⟩ := hK m meth c ⟨T.setVm vm₁, locs, cells, slots⟩ { g with stack := rest } (.invokestatic index) mk argsL.toArray X₁ hg hsize hdg hW (X₁.named hnamed) (hpre vm₁ X₁.warmed)
  exact ⟨v, vm₁, B, X₁.warmed, X', hpost, fun target h => hstep₁ _ fun acts => by rw [doInvoke_state]; exact hsteps.trans h⟩
theorem vx_runSW {y : MethodName} {bytes cc : ByteArray} {maxL nL mc ms n index : Nat} {ret : Option FieldType} {hh : List (Nat × Nat × Nat × Nat)} {ws : List Cond} {rm : Room} {Pc : Array Value → State → Prop} {Qc : Array Value → State → Outcome → State → Prop} {free : Addr → Prop} {Ts : List Cond} {own : String} {As rest : List Value} {g : JFrame}
    (S : CallFix p m c cc nL s args Ts own) (hM : Met l y ws rm Pc Qc mc ms free) (cw : vx_CSW R s args own index y bytes maxL ret hh ws rm mc ms n) (hp : PreS s H Pc As)
    (hg : g.method = m) (hn : As.length = n) (hsize : g.locals.size = nL) (hstack : g.stack = As.reverse ++ rest) (hW : 2 * g.monitorRoom + (rest.map fun v => v.category).sum ≤ 8) (hdg : decode cc g.pc = .ok (.invokestatic index, 3)) (hf : cells + mc ≤ R.cells ∧ slots + ms ≤ R.slots) :
    va_Run p l e R s m args below meth c H locs cells slots mc ms g rest (Qc As.toArray) (free) := by
  obtain ⟨⟨hrc, hrs, hfr, hlo, hws, hcw⟩, hcode, hini, hy, hlen, hl, hstt⟩ := cw
  have hK : Back l R p e below s args y 3 8 (PreOf R mc ms Pc) (PostOf Qc mc ms free) := va_backW (hh := hh) (bytes := bytes) (maxL := maxL) (ret := ret) hM hp.1 hrc hrs hfr hlo hws hcw (fun a' U hW => word_at hW (Or.inl (by first | rfl | simp [Cond.onTables, Cond.keeps, Cond.steady])) hini)
  obtain ⟨hx, hb, hml, ho, -⟩ := S
  intro T hT X
  obtain ⟨v, vm₁, ⟨U', l2, c2, s2⟩, hW₁, X', ⟨g', mk, t, L, e1, e2, hq, h1, hL, h2, h3⟩, st⟩ := vx_callSW X hx (hh := hh) (bytes := bytes) (maxL := maxL) (ret := ret) ho hl hstt hini hcode hy hK hg (hsize.trans hml.symm) (argsL := As) (rest := rest) (fun sig h => hn.trans (hlen sig h)) hstack hW (by rw [hb]; exact hdg)
    (fun vm₁ hW₁ => ⟨hf.1, hf.2, hp.2 (T.setVm vm₁) hT hW₁⟩)
  dsimp only [Pt.U, Pt.locs, Pt.cells, Pt.slots] at X' e1 e2 h1 h2 h3 st
  subst h1; subst h2; subst h3
  exact ⟨v, (T.setVm vm₁).calling g' mk As.toArray, t, U', L, hT, X', hL, e1, e2, hq, st⟩
/-- not caught here, past rows that name other classes: it goes on to the caller -/
theorem vx_outP {p : Program} {l : Launch} {e : Env} {R : Room} {s : State} {m : MethodId} {args : Array Value} {below : List Frame} {meth : Method} {c : Code} {H : Heap} {locs : List Loc} {cells slots : Nat} {free : Addr → Prop} {ls : Array Slot} {rest : List Value} {Qc : Array Value → State → Outcome → State → Prop} {XC : String → State → State → Prop}
    {pc : Nat} {own E : String} {ce : Cell} {q : Addr} {mc ms : Nat} (hown : s.vm.findClass own = some m.cls) (hlocks : meth.locks = false)
    (hpass : ∀ z ∈ c.exceptionTable.toList, covers z pc = false ∨ (z.catchType ≠ 0 ∧ ∃ nm : String, (Cond.classLink own z.catchType nm).before args s = true ∧ va_Nc E nm s)) (hcell : H[q]? = some ce) (hv : ce.vm = .none) (hcl : s.vm.findClass E = some ce.cls)
    (hx : ∀ t : State, t.heap = H → s.vm.Alike t.vm → XC E s t) (hf : ∀ z ∈ locs, free z.base) (hc : cells ≤ mc) (hs : slots ≤ ms) :
    vx_W p l e R s m args below meth c H locs cells slots (vx_MQ below Qc XC args s mc ms free) (F0 m pc ls rest) q := by
  intro T hT X
  have hpl : e.platform.magicAccessors = ({} : Platform).magicAccessors := by rw [X.admits.platform]
  obtain ⟨vm', hW', X', st⟩ := X.outThrough hlocks q (g := F0 m pc ls rest) rfl rfl rfl (cell := ce) (by rw [hT]; exact hcell) (by rw [hv]; rfl)
    (by obtain ⟨k9, h9, -⟩ := Vm.findClass_spec hcl; exact ⟨k9, h9⟩) (fun z hz => by
      rcases hpass z hz with h | ⟨hz0, nm, hl1, hn1⟩
      · exact Or.inl h
      · obtain ⟨c6, hc6, hcl6⟩ := Cond.classLink_spec hown hl1 e.platform hpl
        obtain ⟨a8, b8, h1, h2, h3⟩ := hn1
        cases Option.some.inj (h1.symm.trans hcl)
        cases Option.some.inj (h2.symm.trans hc6)
        exact Or.inr ⟨hz0, _, hcl6, h3⟩)
  obtain ⟨g₀, hfr⟩ := X'.frames_eq
  have hcell9 : ((T.setVm vm').setFrames (.throwing q :: below)).heap[q]? = some ce := by
    show T.heap[q]? = some ce
    rw [hT]; exact hcell
  have hend : Ended ((T.setVm vm').setFrames (.throwing q :: below)) below (.threw q) := State.frames_setFrames _ (State.cur_lt_of_frames hfr)
  refine ⟨(T.setVm vm').setFrames (.throwing q :: below), ?_, .threw q, X'.here.running, hend, Or.inr ⟨q, rfl, E, ce, locs, hx _ hT (X'.ends _).1.alike, hcell9, hv, hcl, (X'.ends _).1, (X'.ends _).2.mono hc hs, hf⟩⟩
  rw [X.pushThrowing_eq]
  exact st
/-- a thing of a world lies in the heap -/
theorem vx_lt {D : va_G} {cl : List vw_C} {ws : va_W} {H1 : Heap} (h : va_P D cl ws H1) {k : Nat} {q : Nat × va_E} (hk : ws[k]? = some q) : q.1 < H1.size := (h k q hk).lt
end VXS
/-! ===== END ===== -/
/-! ===== BEGIN methods with a table of their own: called by a name, returning or throwing ===== -/
section VXH
/-! vx_backW, vx_callVX, vx_callSX, vx_callVW, vx_runVW, vx_runVX, vx_runSX, vx_ofWH follow the same proofs as their sisters above (Free/Laws.lean, Shelf42/LK1.lean); vx_outP calls Shelf42/NT130.lean (outThrough). -/
section
variable {l : Launch} {R : Room} {p : Program} {e : Env} {below : List Frame} {s : State} {sargs : Array Value} {y : MethodName} {len W9 : Nat}
theorem vx_backW {ws : List Cond} {rm : Room} {Pc : Array Value → State → Prop} {Qc : Array Value → State → Outcome → State → Prop} {XC : String → State → State → Prop} {mc ms : Nat} {free : Addr → Prop} {bytes : ByteArray} {maxL : Nat} {ret : Option FieldType} {hh : List (Nat × Nat × Nat × Nat)}
    (hM : vx_Met l y ws rm Pc Qc XC mc ms free) (hblind : FrameBlind Pc) (hrc : rm.cells = mc) (hrs : rm.slots = ms)
    (hframes : rm.frames + 1 ≤ R.frames) (hlocals : W9 + (maxL + 11) + rm.locals ≤ R.locals)
    (hws : ∀ w ∈ ws, ∀ a' U, s.WarmedH U.vm → w.before a' U = true) (hcode : Cond.codeWith y bytes maxL ret hh ∈ ws) (hinit : ∀ a' U, s.WarmedH U.vm → (Cond.initialized y.cls).before a' U = true) :
    vx_Back l R p e below s sargs y len W9 (PreOf R mc ms Pc) (PostOf Qc mc ms free) (vx_Post XC mc ms free) := by
  intro m meth c A g ig mk a X hg hsize hdg hW hn hp
  have h1 : (headSpec ws rm).pre.before a A.U = true := atoms_intro fun w hw => hws w hw _ _ X.warmed
  have h2 : (Cond.codeWith y bytes maxL ret hh).before a A.U = true := hws _ hcode _ _ X.warmed
  have h3 : (Cond.initialized y.cls).before a A.U = true := hinit _ _ X.warmed
  have h4 : A.cells + (headSpec ws rm).room.cells ≤ R.cells := by rw [show (headSpec ws rm).room.cells = mc from hrc]; exact hp.1
  have h5 : A.slots + (headSpec ws rm).room.slots ≤ R.slots := by rw [show (headSpec ws rm).room.slots = ms from hrs]; exact hp.2.1
  have hPc : Pc a (A.U.calling g mk a) := hblind _ _ _ _ hp.2.2
  obtain ⟨U, Ls, c0, s0⟩ := A
  dsimp only [Pt.U, Pt.locs, Pt.cells, Pt.slots] at h1 h2 h3 h4 h5 X hn hPc ⊢
  obtain ⟨m9, methY, cY, hn9, hmY, hcY, -, hlY, -⟩ := Cond.codeWith_spec h2
  cases Option.some.inj (hn9.symm.trans hn)
  obtain ⟨kY, hkY, -⟩ := className_of_methodNamed hn
  have hinitY : kY.init = .initialized := Cond.initialized_spec (findClass_of_methodNamed hn) hkY h3
  have h : At U g.method c below := by rw [hg]; exact X.here
  have hlocals9 : W9 + (maxL + 11) + (headSpec ws rm).room.locals ≤ R.locals := hlocals
  have happ : (headSpec ws rm).appliesLoose y e.platform (U.calling g mk a) = true :=
    Spec.appliesLoose_calling (g := g) h hdg hn hkY hinitY
      (X.room_calling (g := g) (R' := (headSpec ws rm).room) hsize hmY hcY hframes (by rw [hlY]; omega) h4 h5) h1
  obtain ⟨mid, hmid⟩ := h.above
  have hfr : (U.setTop g).frames = (.java g :: mid) ++ below := by rw [State.frames_setTop' g h.top, hmid]; rfl
  obtain ⟨o, s₂, hsteps, -, hend, hq⟩ := Steps.callFree hM p X.admits X.cas X.clock (acts := []) hfr happ hPc trivial
  have hq' : vx_Q Qc XC mc ms free a (U.calling g mk a) o s₂ := hq
  rw [State.frames_setTop' g h.top] at hend
  obtain ⟨g₀, hg0⟩ := Option.isSome_iff_exists.mp h.top
  obtain ⟨r, hr⟩ := State.topJava?_eq_some.mp hg0
  have hr' : (({ U with heap := s₂.heap, slotsUsed := s₂.slotsUsed } : State).setVm s₂.vm).frames = .java g₀ :: r := hr
  rcases hq' with ⟨hqc, L, hfe, hL⟩ | ⟨q, rfl, E, ce, L, hx, hce, hcv, hcl, hW₂, hsm, hL⟩
  · obtain ⟨⟨v, rfl⟩, hW₂, e2, q2, q3, q4, q5, q6⟩ := id hfe
    have e3 : s₂ = ({ (U.calling g mk a).setFrames s₂.frames with heap := s₂.heap, slotsUsed := s₂.slotsUsed } : State).setVm s₂.vm := by
      have : s₂ = ({ s₂ with vm := (U.calling g mk a).vm } : State).setVm s₂.vm := rfl
      rw [e2] at this
      exact this
    obtain ⟨c₂, i₂, len₂, hc₂, hd₂, hf₂⟩ := hend
    have hW' : U.WarmedH s₂.vm := hW₂
    have hcc : c₂ = c := by
      have h1 : s₂.code? g.method = U.code? g.method := by
        rw [State.code?_eq, State.code?_eq, hW'.alike.method?]
      exact Option.some.inj (hc₂.symm.trans (h1.trans h.code))
    subst hcc
    have hlen : len₂ = len := by rw [hdg] at hd₂; cases hd₂; rfl
    subst hlen
    have hs₂ : s₂ = (({ U with heap := s₂.heap, slotsUsed := s₂.slotsUsed } : State).setVm s₂.vm).setTop { g with pc := g.pc + len₂, stack := v.toList ++ g.stack } := by
      refine e3.trans ?_
      rw [hf₂, State.calling_eq h.top, State.setFrames_setFrames, State.setTop_of_frames _ hr', hr]
      rfl
    have hsame : U.sameButNew ({ U with heap := s₂.heap, slotsUsed := s₂.slotsUsed } : State) L mc ms := by
      refine ⟨?_, q2, q3, q4, q5, q6⟩
      obtain ⟨t, ht, -⟩ := State.frames_cons hr
      show ({ U with heap := s₂.heap, slotsUsed := s₂.slotsUsed } : State) = { U.setFrames U.frames with heap := s₂.heap, slotsUsed := s₂.slotsUsed }
      rw [State.setFrames_self ht]
    subst hg
    refine Or.inl ⟨v, ⟨(({ U with heap := s₂.heap, slotsUsed := s₂.slotsUsed } : State).setVm s₂.vm), Ls ++ L, c0 + mc, s0 + ms⟩,
      ⟨X.admits, X.cas, X.clock, X.frames, X.room, X.hears, X.method, X.code, (X.here.setHeapUsed s₂.heap s₂.slotsUsed).setVm hW'.alike, X.tail, State.WarmedH.trans X.warmed hW', X.limits, X.bytes, X.same.trans (hsame.setVm s.vm)⟩,
      ⟨g, mk, s₂, L, rfl, rfl, hqc, rfl, hL, rfl, rfl⟩, ?_⟩
    show Steps p.tables e below _ ((({ U with heap := s₂.heap, slotsUsed := s₂.slotsUsed } : State).setVm s₂.vm).setTop { g with pc := g.pc + len₂, stack := v.toList ++ g.stack })
    rw [← hs₂]
    exact hsteps
  · obtain ⟨e2, q2, q3, q4, q5, q6⟩ := id hsm
    have e3 : s₂ = ({ (U.calling g mk a).setFrames s₂.frames with heap := s₂.heap, slotsUsed := s₂.slotsUsed } : State).setVm s₂.vm := by
      have : s₂ = ({ s₂ with vm := (U.calling g mk a).vm } : State).setVm s₂.vm := rfl
      rw [e2] at this
      exact this
    have hf₂ : s₂.frames = .throwing q :: .java g :: U.frames.tail := hend
    have hW' : U.WarmedH s₂.vm := hW₂
    have hs₂ : s₂ = ((({ U with heap := s₂.heap, slotsUsed := s₂.slotsUsed } : State).setVm s₂.vm).setTop g).pushFrame (.throwing q) := by
      refine e3.trans ?_
      rw [hf₂, State.calling_eq h.top, State.setFrames_setFrames, State.pushFrame, State.frames_setTop _ hr', State.setTop_of_frames _ hr', State.setFrames_setFrames, hr]
      rfl
    have hsame : U.sameButNew ({ U with heap := s₂.heap, slotsUsed := s₂.slotsUsed } : State) L mc ms := by
      refine ⟨?_, q2, q3, q4, q5, q6⟩
      obtain ⟨t, ht, -⟩ := State.frames_cons hr
      show ({ U with heap := s₂.heap, slotsUsed := s₂.slotsUsed } : State) = { U.setFrames U.frames with heap := s₂.heap, slotsUsed := s₂.slotsUsed }
      rw [State.setFrames_self ht]
    subst hg
    refine Or.inr ⟨q, ⟨(({ U with heap := s₂.heap, slotsUsed := s₂.slotsUsed } : State).setVm s₂.vm), Ls ++ L, c0 + mc, s0 + ms⟩,
      ⟨X.admits, X.cas, X.clock, X.frames, X.room, X.hears, X.method, X.code, (X.here.setHeapUsed s₂.heap s₂.slotsUsed).setVm hW'.alike, X.tail, State.WarmedH.trans X.warmed hW', X.limits, X.bytes, X.same.trans (hsame.setVm s.vm)⟩,
      ⟨g, mk, s₂, L, E, ce, rfl, rfl, hx, hce, hcv, hcl, rfl, hL, rfl, rfl⟩, ?_⟩
    show Steps p.tables e below _ (((({ U with heap := s₂.heap, slotsUsed := s₂.slotsUsed } : State).setVm s₂.vm).setTop g).pushFrame (.throwing q))
    rw [← hs₂]
    exact hsteps
end
variable {p : Program} {l : Launch} {e : Env} {R : Room} {s : State} {m : MethodId} {args : Array Value} {below : List Frame} {meth : Method} {c : Code} {T : State} {H : Heap} {locs : List Loc} {cells slots : Nat}
theorem vx_callVX (X : Stand p l e R s m args below meth c T locs cells slots) (hexec : p.tables.exec = Jvm.exec) {own C : String} {index : Nat} {y : MethodName} {bytes : ByteArray} {maxL : Nat} {ret : Option FieldType} {hh : List (Nat × Nat × Nat × Nat)}
    (hown : s.vm.findClass own = some m.cls) (hlink : (Cond.methodLink own index y).before args s = true) (hinst : (Cond.instanceMethod y).before args s = true) (hsel : (Cond.selects C y y).before args s = true)
    (hcode : (Cond.codeWith y bytes maxL ret hh).before args s = true) (hy : y.cls ≠ "java/lang/invoke/MethodHandle" ∧ y.cls ≠ "java/lang/invoke/VarHandle")
    {W9 : Nat} {Pre : Pt → Array Value → Prop} {Post : Pt → Array Value → Option Value → Pt → Prop} {PostX : Pt → Array Value → Addr → Pt → Prop} (hK : vx_Back l R p e below s args y 3 W9 Pre Post PostX)
    {b : Addr} {cellB : Cell} (hcell : T.heap[b]? = some cellB) (hobj : cellB.vm.isStatics = false) (hcls : s.vm.findClass C = some cellB.cls)
    {g : JFrame} (hg : g.method = m) (hsize : g.locals.size = c.maxLocals) {argsL rest : List Value} (hlen : ∀ sig, parseMethodDescriptor y.desc = some sig → argsL.length = sig.parameters.length)
    (hstack : g.stack = argsL.reverse ++ .ref b :: rest) (hW : 2 * g.monitorRoom + (rest.map fun v => v.category).sum ≤ W9) (hdg : decode c.code g.pc = .ok (.invokevirtual index, 3))
    (hpre : ∀ vm₁, s.WarmedH vm₁ → Pre ⟨T.setVm vm₁, locs, cells, slots⟩ (Value.ref b :: argsL).toArray) :
    (∃ (v : Option Value) (vm₁ : Vm) (B : Pt), s.WarmedH vm₁ ∧ Stand p l e R s m args below meth c B.U B.locs B.cells B.slots ∧ Post ⟨T.setVm vm₁, locs, cells, slots⟩ (Value.ref b :: argsL).toArray v B ∧
      ∀ target, Steps p.tables e below (B.U.setTop { g with pc := g.pc + 3, stack := v.toList ++ rest }) target → Steps p.tables e below (T.setTop g) target) ∨
    (∃ (q : Addr) (vm₁ : Vm) (B : Pt), s.WarmedH vm₁ ∧ Stand p l e R s m args below meth c B.U B.locs B.cells B.slots ∧ PostX ⟨T.setVm vm₁, locs, cells, slots⟩ (Value.ref b :: argsL).toArray q B ∧
      Steps p.tables e below (T.setTop g) ((B.U.setTop { g with stack := rest }).pushFrame (.throwing q))) := by
  obtain ⟨mk, methM, hnamed, hmethM, hstM, habM⟩ := Cond.instanceMethod_spec hinst
  obtain ⟨m8, methM', cM, hn8, hmethM', -, -, -, -, -, -, hsigM⟩ := Cond.codeWith_spec hcode
  cases Option.some.inj (hn8.symm.trans hnamed)
  cases hmethM.symm.trans hmethM'
  obtain ⟨c2, r2, m2, q1, q2, q3, q4, kP, hkP, hkPi⟩ := Cond.selects_spec hsel
  cases hcls.symm.trans q1
  cases (State.methodFound?_of_named hnamed hy).symm.trans q2
  cases hnamed.symm.trans q3
  have hselP : selectMethod e.platform s.vm cellB.cls mk = .method mk := by rw [Launch.admits_selectMethod X.admits]; exact q4
  obtain ⟨vm₁, X₁, hstep₁⟩ := X.invokevirtual hexec hown hlink hnamed hmethM hstM hkP hkPi hy (a := b) (cell := cellB) hcell
    (fun z h => by rw [h] at hobj; cases hobj) hselP hmethM habM hkP hkPi (g := g) hg (argsL := argsL) (rest := rest) (hlen _ hsigM) hstack hdg
  rcases hK m meth c ⟨T.setVm vm₁, locs, cells, slots⟩ { g with stack := rest } (.invokevirtual index) mk (Value.ref b :: argsL).toArray X₁ hg hsize hdg hW (X₁.named hnamed) (hpre vm₁ X₁.warmed) with ⟨v, B, X', hpost, hsteps⟩ | ⟨q, B, X', hpost, hsteps⟩
  · exact Or.inl ⟨v, vm₁, B, X₁.warmed, X', hpost, fun target h => hstep₁ _ fun acts => by rw [doInvoke_state]; exact hsteps.trans h⟩
  · exact Or.inr ⟨q, vm₁, B, X₁.warmed, X', hpost, hstep₁ _ fun acts => by rw [doInvoke_state]; exact hsteps⟩
theorem vx_callSX (X : Stand p l e R s m args below meth c T locs cells slots) (hexec : p.tables.exec = Jvm.exec) {own : String} {index : Nat} {y : MethodName} {bytes : ByteArray} {maxL : Nat} {ret : Option FieldType} {hh : List (Nat × Nat × Nat × Nat)}
    (hown : s.vm.findClass own = some m.cls) (hlink : (Cond.methodLink own index y).before args s = true) (hstat : (Cond.static y).before args s = true) (hinit : (Cond.initialized y.cls).before args s = true)
    (hcode : (Cond.codeWith y bytes maxL ret hh).before args s = true) (hy : y.cls ≠ "java/lang/invoke/MethodHandle" ∧ y.cls ≠ "java/lang/invoke/VarHandle")
    {W9 : Nat} {Pre : Pt → Array Value → Prop} {Post : Pt → Array Value → Option Value → Pt → Prop} {PostX : Pt → Array Value → Addr → Pt → Prop} (hK : vx_Back l R p e below s args y 3 W9 Pre Post PostX)
    {g : JFrame} (hg : g.method = m) (hsize : g.locals.size = c.maxLocals) {argsL rest : List Value} (hlen : ∀ sig, parseMethodDescriptor y.desc = some sig → argsL.length = sig.parameters.length)
    (hstack : g.stack = argsL.reverse ++ rest) (hW : 2 * g.monitorRoom + (rest.map fun v => v.category).sum ≤ W9) (hdg : decode c.code g.pc = .ok (.invokestatic index, 3))
    (hpre : ∀ vm₁, s.WarmedH vm₁ → Pre ⟨T.setVm vm₁, locs, cells, slots⟩ argsL.toArray) :
    (∃ (v : Option Value) (vm₁ : Vm) (B : Pt), s.WarmedH vm₁ ∧ Stand p l e R s m args below meth c B.U B.locs B.cells B.slots ∧ Post ⟨T.setVm vm₁, locs, cells, slots⟩ argsL.toArray v B ∧
      ∀ target, Steps p.tables e below (B.U.setTop { g with pc := g.pc + 3, stack := v.toList ++ rest }) target → Steps p.tables e below (T.setTop g) target) ∨
    (∃ (q : Addr) (vm₁ : Vm) (B : Pt), s.WarmedH vm₁ ∧ Stand p l e R s m args below meth c B.U B.locs B.cells B.slots ∧ PostX ⟨T.setVm vm₁, locs, cells, slots⟩ argsL.toArray q B ∧
      Steps p.tables e below (T.setTop g) ((B.U.setTop { g with stack := rest }).pushFrame (.throwing q))) := by
  obtain ⟨mk, methM, cM, hnamed, hmethM, -, -, -, -, -, -, hsigM⟩ := Cond.codeWith_spec hcode
  have hstatic : methM.isStatic = true := Cond.static_spec hnamed hmethM hstat
  obtain ⟨kP, hkP, -⟩ := className_of_methodNamed hnamed
  have hinitP : kP.init = .initialized := Cond.initialized_spec (findClass_of_methodNamed hnamed) hkP hinit
  obtain ⟨vm₁, X₁, hstep₁⟩ := X.invokestatic hexec hown hlink hnamed hmethM hstatic hkP hinitP hy (g := g) hg (argsL := argsL) (rest := rest) (hlen _ hsigM) hstack hdg
  rcases hK m meth c ⟨T.setVm vm₁, locs, cells, slots⟩ { g with stack := rest } (.invokestatic index) mk argsL.toArray X₁ hg hsize hdg hW (X₁.named hnamed) (hpre vm₁ X₁.warmed) with ⟨v, B, X', hpost, hsteps⟩ | ⟨q, B, X', hpost, hsteps⟩
  · exact Or.inl ⟨v, vm₁, B, X₁.warmed, X', hpost, fun target h => hstep₁ _ fun acts => by rw [doInvoke_state]; exact hsteps.trans h⟩
  · exact Or.inr ⟨q, vm₁, B, X₁.warmed, X', hpost, hstep₁ _ fun acts => by rw [doInvoke_state]; exact hsteps⟩
theorem vx_callVW (X : Stand p l e R s m args below meth c T locs cells slots) (hexec : p.tables.exec = Jvm.exec) {own C : String} {index : Nat} {y : MethodName} {bytes : ByteArray} {maxL : Nat} {ret : Option FieldType} {hh : List (Nat × Nat × Nat × Nat)}
    (hown : s.vm.findClass own = some m.cls) (hlink : (Cond.methodLink own index y).before args s = true) (hinst : (Cond.instanceMethod y).before args s = true) (hsel : (Cond.selects C y y).before args s = true)
    (hcode : (Cond.codeWith y bytes maxL ret hh).before args s = true) (hy : y.cls ≠ "java/lang/invoke/MethodHandle" ∧ y.cls ≠ "java/lang/invoke/VarHandle")
    {W9 : Nat} {Pre : Pt → Array Value → Prop} {Post : Pt → Array Value → Option Value → Pt → Prop} (hK : Back l R p e below s args y 3 W9 Pre Post)
    {b : Addr} {cellB : Cell} (hcell : T.heap[b]? = some cellB) (hobj : cellB.vm.isStatics = false) (hcls : s.vm.findClass C = some cellB.cls)
    {g : JFrame} (hg : g.method = m) (hsize : g.locals.size = c.maxLocals) {argsL rest : List Value} (hlen : ∀ sig, parseMethodDescriptor y.desc = some sig → argsL.length = sig.parameters.length)
    (hstack : g.stack = argsL.reverse ++ .ref b :: rest) (hW : 2 * g.monitorRoom + (rest.map fun v => v.category).sum ≤ W9) (hdg : decode c.code g.pc = .ok (.invokevirtual index, 3))
    (hpre : ∀ vm₁, s.WarmedH vm₁ → Pre ⟨T.setVm vm₁, locs, cells, slots⟩ (Value.ref b :: argsL).toArray) :
    ∃ (v : Option Value) (vm₁ : Vm) (B : Pt), s.WarmedH vm₁ ∧ Stand p l e R s m args below meth c B.U B.locs B.cells B.slots ∧ Post ⟨T.setVm vm₁, locs, cells, slots⟩ (Value.ref b :: argsL).toArray v B ∧
      ∀ target, Steps p.tables e below (B.U.setTop { g with pc := g.pc + 3, stack := v.toList ++ rest }) target → Steps p.tables e below (T.setTop g) target := by
  obtain ⟨mk, methM, hnamed, hmethM, hstM, habM⟩ := Cond.instanceMethod_spec hinst
  obtain ⟨m8, methM', cM, hn8, hmethM', -, -, -, -, -, -, hsigM⟩ := Cond.codeWith_spec hcode
  cases Option.some.inj (hn8.symm.trans hnamed)
  cases hmethM.symm.trans hmethM'
  obtain ⟨c2, r2, m2, q1, q2, q3, q4, kP, hkP, hkPi⟩ := Cond.selects_spec hsel
  cases hcls.symm.trans q1
  cases (State.methodFound?_of_named hnamed hy).symm.trans q2
  cases hnamed.symm.trans q3
  have hselP : selectMethod e.platform s.vm cellB.cls mk = .method mk := by rw [Launch.admits_selectMethod X.admits]; exact q4
  obtain ⟨vm₁, X₁, hstep₁⟩ := X.invokevirtual hexec hown hlink hnamed hmethM hstM hkP hkPi hy (a := b) (cell := cellB) hcell
    (fun z h => by rw [h] at hobj; cases hobj) hselP hmethM habM hkP hkPi (g := g) hg (argsL := argsL) (rest := rest) (hlen _ hsigM) hstack hdg
  obtain ⟨v, B, X', hpost, hsteps⟩ := hK m meth c ⟨T.setVm vm₁, locs, cells, slots⟩ { g with stack := rest } (.invokevirtual index) mk (Value.ref b :: argsL).toArray X₁ hg hsize hdg hW (X₁.named hnamed) (hpre vm₁ X₁.warmed)
  exact ⟨v, vm₁, B, X₁.warmed, X', hpost, fun target h => hstep₁ _ fun acts => by rw [doInvoke_state]; exact hsteps.trans h⟩
abbrev vx_CVW (R : Room) (s : State) (args : Array Value) (own C : String) (index : Nat) (y : MethodName) (bytes : ByteArray) (maxL : Nat) (ret : Option FieldType) (hh : List (Nat × Nat × Nat × Nat)) (ws : List Cond) (rm : Room) (mc ms n : Nat) : Prop :=
  (rm.cells = mc ∧ rm.slots = ms ∧ rm.frames + 1 ≤ R.frames ∧ 8 + (maxL + 11) + rm.locals ≤ R.locals ∧ (∀ w ∈ ws, ∀ (a' : Array Value) (U : State), s.WarmedH U.vm → w.before a' U = true) ∧ Cond.codeWith y bytes maxL ret hh ∈ ws) ∧
  (Cond.codeWith y bytes maxL ret hh).before args s = true ∧ (Cond.initialized y.cls).before args s = true ∧ (y.cls ≠ "java/lang/invoke/MethodHandle" ∧ y.cls ≠ "java/lang/invoke/VarHandle") ∧
  (∀ sig, parseMethodDescriptor y.desc = some sig → n = sig.parameters.length) ∧ (Cond.methodLink own index y).before args s = true ∧ (Cond.instanceMethod y).before args s = true ∧ (Cond.selects C y y).before args s = true
theorem vx_cwVW {own C : String} {index maxL mc ms : Nat} {y : MethodName} {bytes : ByteArray} {ret : Option FieldType} {hh : List (Nat × Nat × Nat × Nat)} {Ts ws ws' : List Cond} {rm : Room} (n : Nat) (ht : ∀ w ∈ Ts, w.before args s = true) (hT : GoodIn Ts (wsV own index C y ws)) (hw : ws = Cond.codeWith y bytes maxL ret hh :: ws') (hrc : rm.cells = mc) (hrs : rm.slots = ms)
    (hd : y.cls = C ∧ y.cls ≠ "java/lang/invoke/MethodHandle" ∧ y.cls ≠ "java/lang/invoke/VarHandle" ∧ (parseMethodDescriptor y.desc).map (fun d => d.parameters.length) = some n) (hR : rm.frames + 1 ≤ R.frames ∧ 8 + (maxL + 11) + rm.locals ≤ R.locals) :
    vx_CVW R s args own C index y bytes maxL ret hh ws rm mc ms n := by
  obtain ⟨hC, hd⟩ := hd
  subst hC
  have ok : ∀ w ∈ wsV own index y.cls y ws, w.before args s = true := fun w h => ht w (hT w h).1
  have hG : GoodIn Ts ws := fun w h => hT w (by unfold wsV; exact List.mem_append_right _ h)
  have hc : Cond.codeWith y bytes maxL ret hh ∈ ws := by rw [hw]; exact List.mem_cons_self
  refine ⟨⟨hrc, hrs, hR.1, hR.2, pay_in ht hG, hc⟩, ht _ (hG _ hc).1, ok _ (by simp [wsV]), ⟨hd.1, hd.2.1⟩, fun sig h => ?_, ok _ (by simp [wsV]), ok _ (by simp [wsV]), ok _ (by simp [wsV])⟩
  have h2 := hd.2.2
  rw [h] at h2
  exact (Option.some.inj h2).symm
theorem vx_runVW {y : MethodName} {bytes cc : ByteArray} {maxL nL mc ms n index : Nat} {ret : Option FieldType} {hh : List (Nat × Nat × Nat × Nat)} {ws : List Cond} {rm : Room} {Pc : Array Value → State → Prop} {Qc : Array Value → State → Outcome → State → Prop} {free : Addr → Prop} {Ts : List Cond} {own C : String} {b : Addr} {As rest : List Value} {g : JFrame}
    (S : CallFix p m c cc nL s args Ts own) (hM : Met l y ws rm Pc Qc mc ms free) (cw : vx_CVW R s args own C index y bytes maxL ret hh ws rm mc ms n) (hp : PreV s H C b Pc As)
    (hg : g.method = m) (hn : As.length = n) (hsize : g.locals.size = nL) (hstack : g.stack = As.reverse ++ .ref b :: rest) (hW : 2 * g.monitorRoom + (rest.map fun v => v.category).sum ≤ 8) (hdg : decode cc g.pc = .ok (.invokevirtual index, 3)) (hf : cells + mc ≤ R.cells ∧ slots + ms ≤ R.slots) :
    va_Run p l e R s m args below meth c H locs cells slots mc ms g rest (Qc (Value.ref b :: As).toArray) free := by
  obtain ⟨⟨hrc, hrs, hfr, hlo, hws, hcw⟩, hcode, hini, hy, hlen, hl, hin, hse⟩ := cw
  have hK : Back l R p e below s args y 3 8 (PreOf R mc ms Pc) (PostOf Qc mc ms free) := va_backW (hh := hh) (bytes := bytes) (maxL := maxL) (ret := ret) hM hp.1 hrc hrs hfr hlo hws hcw (fun a' U hW => word_at hW (Or.inl (by first | rfl | simp [Cond.onTables, Cond.keeps, Cond.steady])) hini)
  obtain ⟨hx, hb, hml, ho, -⟩ := S
  obtain ⟨-, ⟨cellB, hcB, hoB, hclB⟩, hPc⟩ := hp
  intro T hT X
  obtain ⟨v, vm₁, ⟨U', l2, c2, s2⟩, hW₁, X', ⟨g', mk, t, L, e1, e2, hq, h1, hL, h2, h3⟩, st⟩ := vx_callVW X hx (C := C) (hh := hh) (bytes := bytes) (maxL := maxL) (ret := ret) ho hl hin hse hcode hy hK (by rw [hT]; exact hcB) hoB hclB hg (hsize.trans hml.symm) (argsL := As) (rest := rest) (fun sig h => hn.trans (hlen sig h)) hstack hW (by rw [hb]; exact hdg)
    (fun vm₁ hW₁ => ⟨hf.1, hf.2, hPc (T.setVm vm₁) hT hW₁⟩)
  dsimp only [Pt.U, Pt.locs, Pt.cells, Pt.slots] at X' e1 e2 h1 h2 h3 st
  subst h1; subst h2; subst h3
  exact ⟨v, (T.setVm vm₁).calling g' mk (Value.ref b :: As).toArray, t, U', L, hT, X', hL, e1, e2, hq, st⟩
section
variable {y : MethodName} {bytes cc : ByteArray} {maxL nL mc ms n index : Nat} {ret : Option FieldType} {ws : List Cond} {rm : Room} {Pc : Array Value → State → Prop} {Qc : Array Value → State → Outcome → State → Prop} {XC : String → State → State → Prop} {free : Addr → Prop} {Ts : List Cond} {own C : String} {b : Addr} {As rest : List Value} {g : JFrame}
theorem vx_runVX {hh : List (Nat × Nat × Nat × Nat)} (S : CallFix p m c cc nL s args Ts own) (hM : vx_Met l y ws rm Pc Qc XC mc ms free) (cw : vx_CVW R s args own C index y bytes maxL ret hh ws rm mc ms n) (hp : PreV s H C b Pc As)
    (hg : g.method = m) (hn : As.length = n) (hsize : g.locals.size = nL) (hstack : g.stack = As.reverse ++ .ref b :: rest) (hW : 2 * g.monitorRoom + (rest.map fun v => v.category).sum ≤ 8) (hdg : decode cc g.pc = .ok (.invokevirtual index, 3)) (hf : cells + mc ≤ R.cells ∧ slots + ms ≤ R.slots) :
    vx_Run p l e R s m args below meth c H locs cells slots mc ms g rest (Qc (Value.ref b :: As).toArray) XC free := by
  obtain ⟨⟨hrc, hrs, hfr, hlo, hws, hcw⟩, hcode, hini, hy, hlen, hl, hin, hse⟩ := cw
  have hK : vx_Back l R p e below s args y 3 8 (PreOf R mc ms Pc) (PostOf Qc mc ms free) (vx_Post XC mc ms free) := vx_backW (hh := hh) (bytes := bytes) (maxL := maxL) (ret := ret) hM hp.1 hrc hrs hfr hlo hws hcw (fun a' U hW => word_at hW (Or.inl (by first | rfl | simp [Cond.onTables, Cond.keeps, Cond.steady])) hini)
  obtain ⟨hx, hb, hml, ho, -⟩ := S
  obtain ⟨-, ⟨cellB, hcB, hoB, hclB⟩, hPc⟩ := hp
  intro T hT X
  rcases vx_callVX X hx (C := C) (hh := hh) (bytes := bytes) (maxL := maxL) (ret := ret) ho hl hin hse hcode hy hK (by rw [hT]; exact hcB) hoB hclB hg (hsize.trans hml.symm) (argsL := As) (rest := rest) (fun sig h => hn.trans (hlen sig h)) hstack hW (by rw [hb]; exact hdg)
    (fun vm₁ hW₁ => ⟨hf.1, hf.2, hPc (T.setVm vm₁) hT hW₁⟩) with ⟨v, vm₁, ⟨U', l2, c2, s2⟩, hW₁, X', ⟨g', mk, t, L, e1, e2, hq, h1, hL, h2, h3⟩, st⟩ | ⟨q, vm₁, ⟨U', l2, c2, s2⟩, hW₁, X', ⟨g', mk, t, L, E, ce, e1, e2, hq, hce, hcv, hcl, h1, hL, h2, h3⟩, st⟩
  · dsimp only [Pt.U, Pt.locs, Pt.cells, Pt.slots] at X' e1 e2 h1 h2 h3 st
    subst h1; subst h2; subst h3
    exact Or.inl ⟨v, (T.setVm vm₁).calling g' mk (Value.ref b :: As).toArray, t, U', L, hT, X', hL, e1, e2, hq, st⟩
  · dsimp only [Pt.U, Pt.locs, Pt.cells, Pt.slots] at X' e1 e2 h1 h2 h3 st hcl
    subst h1; subst h2; subst h3
    exact Or.inr ⟨q, (T.setVm vm₁).calling g' mk (Value.ref b :: As).toArray, t, U', L, E, ce, hT, X', hL, e1, e2, hq, hce, hcv, vx_cls hW₁ hcl, st⟩
theorem vx_runSX {hh : List (Nat × Nat × Nat × Nat)} (S : CallFix p m c cc nL s args Ts own) (hM : vx_Met l y ws rm Pc Qc XC mc ms free) (cw : vx_CSW R s args own index y bytes maxL ret hh ws rm mc ms n) (hp : PreS s H Pc As)
    (hg : g.method = m) (hn : As.length = n) (hsize : g.locals.size = nL) (hstack : g.stack = As.reverse ++ rest) (hW : 2 * g.monitorRoom + (rest.map fun v => v.category).sum ≤ 8) (hdg : decode cc g.pc = .ok (.invokestatic index, 3)) (hf : cells + mc ≤ R.cells ∧ slots + ms ≤ R.slots) :
    vx_Run p l e R s m args below meth c H locs cells slots mc ms g rest (Qc As.toArray) XC free := by
  obtain ⟨⟨hrc, hrs, hfr, hlo, hws, hcw⟩, hcode, hini, hy, hlen, hl, hstt⟩ := cw
  have hK : vx_Back l R p e below s args y 3 8 (PreOf R mc ms Pc) (PostOf Qc mc ms free) (vx_Post XC mc ms free) := vx_backW (hh := hh) (bytes := bytes) (maxL := maxL) (ret := ret) hM hp.1 hrc hrs hfr hlo hws hcw (fun a' U hW => word_at hW (Or.inl (by first | rfl | simp [Cond.onTables, Cond.keeps, Cond.steady])) hini)
  obtain ⟨hx, hb, hml, ho, -⟩ := S
  intro T hT X
  rcases vx_callSX X hx (hh := hh) (bytes := bytes) (maxL := maxL) (ret := ret) ho hl hstt hini hcode hy hK hg (hsize.trans hml.symm) (argsL := As) (rest := rest) (fun sig h => hn.trans (hlen sig h)) hstack hW (by rw [hb]; exact hdg)
    (fun vm₁ hW₁ => ⟨hf.1, hf.2, hp.2 (T.setVm vm₁) hT hW₁⟩) with ⟨v, vm₁, ⟨U', l2, c2, s2⟩, hW₁, X', ⟨g', mk, t, L, e1, e2, hq, h1, hL, h2, h3⟩, st⟩ | ⟨q, vm₁, ⟨U', l2, c2, s2⟩, hW₁, X', ⟨g', mk, t, L, E, ce, e1, e2, hq, hce, hcv, hcl, h1, hL, h2, h3⟩, st⟩
  · dsimp only [Pt.U, Pt.locs, Pt.cells, Pt.slots] at X' e1 e2 h1 h2 h3 st
    subst h1; subst h2; subst h3
    exact Or.inl ⟨v, (T.setVm vm₁).calling g' mk As.toArray, t, U', L, hT, X', hL, e1, e2, hq, st⟩
  · dsimp only [Pt.U, Pt.locs, Pt.cells, Pt.slots] at X' e1 e2 h1 h2 h3 st hcl
    subst h1; subst h2; subst h3
    exact Or.inr ⟨q, (T.setVm vm₁).calling g' mk As.toArray, t, U', L, E, ce, hT, X', hL, e1, e2, hq, hce, hcv, vx_cls hW₁ hcl, st⟩
end
end VXH
theorem vx_ofWH {l : Launch} {y : MethodName} {ws ws' : List Cond} {rm : Room} {Pc : Array Value → State → Prop} {Qc : Array Value → State → Outcome → State → Prop} {XC : String → State → State → Prop} {mc ms : Nat} {free : Addr → Prop} {cc : ByteArray} {maxL : Nat} {ret : Option FieldType} {hh : List (Nat × Nat × Nat × Nat)}
    (hy : plainName y.cls = true) (hw : ws = Cond.codeWith y cc maxL ret hh :: ws')
    (body : ∀ p e s m args below meth c s₁, BodyLoose p l y (headSpec ws rm) cc maxL ret e s m args below meth c s₁ → c.maxLocals = maxL → Pc args s →
      W p l e (headSpec ws rm).room s m args below meth c s.heap [] 0 0 (vx_MQ below Qc XC args s mc ms free) (entryFrame m args maxL)) : vx_Met l y ws rm Pc Qc XC mc ms free := by
  refine MetFree.of_bodyS (code := cc) (maxLocals := maxL) (ret := ret) hy ?_ ?_
  · intro args s m h hn
    obtain ⟨m9, meth, c, hn9, h1, h2, h3, h4, -, h5, h6, -⟩ := Cond.codeWith_spec (atoms_spec (ws := ws) h _ (by rw [hw]; exact List.mem_cons_self))
    cases hn.symm.trans hn9
    exact ⟨meth, c, h1, h2, h3, h4, h5, h6⟩
  · intro p e s m args below meth c s₁ B hml hP _
    have hh0 : s₁.heap = s.heap := by rw [B.state]; rfl
    obtain ⟨t, a1, o, b1, b2, b3⟩ := body p e s m args below meth c s₁ B hml hP s₁ hh0 (Stand.of_body B)
    exact ⟨t, o, a1, b1, b2, b3⟩
/-! ===== END ===== -/
end
section
-- ===== PART A: goes FIRST, ahead of the names: the tables' words, and 'selects' of the private methods out of them =====
/-- a private method of a class that the tables say can be made, by its rows of tables_1 -/
def lw_okq (q : MethodName × Nat) : Prop := (q.1.cls ≠ "java/lang/invoke/MethodHandle" ∧ q.1.cls ≠ "java/lang/invoke/VarHandle") ∧ Cond.instantiable q.1.cls q.2 ∈ tables_1 ∧ Cond.privateMethod q.1 ∈ tables_1 ∧ Cond.instanceMethod q.1 ∈ tables_1
theorem lw_p0 : lw_okq (⟨"java/lang/Throwable", "fillInStackTrace", "(I)Ljava/lang/Throwable;"⟩, 6) := ⟨⟨by decide +kernel, by decide +kernel⟩, List.mem_of_getElem? (i := 90) (by decide +kernel), List.mem_of_getElem? (i := 88) (by decide +kernel), List.mem_of_getElem? (i := 89) (by decide +kernel)⟩
theorem lw_p1 : lw_okq (⟨"TemporaryReals", "kindOf", "(I)I"⟩, 6) := ⟨⟨by decide +kernel, by decide +kernel⟩, List.mem_of_getElem? (i := 12) (by decide +kernel), List.mem_of_getElem? (i := 159) (by decide +kernel), List.mem_of_getElem? (i := 160) (by decide +kernel)⟩
theorem lw_p2 : lw_okq (⟨"TemporaryReals", "powerOf", "(I)I"⟩, 6) := ⟨⟨by decide +kernel, by decide +kernel⟩, List.mem_of_getElem? (i := 12) (by decide +kernel), List.mem_of_getElem? (i := 163) (by decide +kernel), List.mem_of_getElem? (i := 164) (by decide +kernel)⟩
theorem lw_p3 : lw_okq (⟨"TemporaryReals", "makeSize", "(IZIJJ)I"⟩, 6) := ⟨⟨by decide +kernel, by decide +kernel⟩, List.mem_of_getElem? (i := 12) (by decide +kernel), List.mem_of_getElem? (i := 190) (by decide +kernel), List.mem_of_getElem? (i := 191) (by decide +kernel)⟩
theorem lw_p4 : lw_okq (⟨"TemporaryReals", "store", "(IZIJ)V"⟩, 6) := ⟨⟨by decide +kernel, by decide +kernel⟩, List.mem_of_getElem? (i := 12) (by decide +kernel), List.mem_of_getElem? (i := 194) (by decide +kernel), List.mem_of_getElem? (i := 195) (by decide +kernel)⟩
theorem lw_p5 : lw_okq (⟨"TemporaryReals", "tell", "(III)I"⟩, 6) := ⟨⟨by decide +kernel, by decide +kernel⟩, List.mem_of_getElem? (i := 12) (by decide +kernel), List.mem_of_getElem? (i := 199) (by decide +kernel), List.mem_of_getElem? (i := 200) (by decide +kernel)⟩
theorem lw_p6 : lw_okq (⟨"TemporaryReals", "isMasked", "(I)Z"⟩, 6) := ⟨⟨by decide +kernel, by decide +kernel⟩, List.mem_of_getElem? (i := 12) (by decide +kernel), List.mem_of_getElem? (i := 203) (by decide +kernel), List.mem_of_getElem? (i := 204) (by decide +kernel)⟩
theorem lw_p7 : lw_okq (⟨"TemporaryReals", "makeSmall", "(IZIJJ)I"⟩, 6) := ⟨⟨by decide +kernel, by decide +kernel⟩, List.mem_of_getElem? (i := 12) (by decide +kernel), List.mem_of_getElem? (i := 207) (by decide +kernel), List.mem_of_getElem? (i := 208) (by decide +kernel)⟩
theorem lw_p8 : lw_okq (⟨"TemporaryReals", "digits", "()I"⟩, 6) := ⟨⟨by decide +kernel, by decide +kernel⟩, List.mem_of_getElem? (i := 12) (by decide +kernel), List.mem_of_getElem? (i := 211) (by decide +kernel), List.mem_of_getElem? (i := 212) (by decide +kernel)⟩
theorem lw_p9 : lw_okq (⟨"TemporaryReals", "takesAbove", "(JJZ)Z"⟩, 6) := ⟨⟨by decide +kernel, by decide +kernel⟩, List.mem_of_getElem? (i := 12) (by decide +kernel), List.mem_of_getElem? (i := 221) (by decide +kernel), List.mem_of_getElem? (i := 222) (by decide +kernel)⟩
theorem lw_p10 : lw_okq (⟨"TemporaryReals", "rounding", "()I"⟩, 6) := ⟨⟨by decide +kernel, by decide +kernel⟩, List.mem_of_getElem? (i := 12) (by decide +kernel), List.mem_of_getElem? (i := 225) (by decide +kernel), List.mem_of_getElem? (i := 226) (by decide +kernel)⟩
theorem lw_p11 : lw_okq (⟨"TemporaryReals", "goesAway", "(Z)Z"⟩, 6) := ⟨⟨by decide +kernel, by decide +kernel⟩, List.mem_of_getElem? (i := 12) (by decide +kernel), List.mem_of_getElem? (i := 229) (by decide +kernel), List.mem_of_getElem? (i := 230) (by decide +kernel)⟩
theorem lw_p12 : lw_okq (⟨"TemporaryReals", "makeRounded", "(IZIJJ)I"⟩, 6) := ⟨⟨by decide +kernel, by decide +kernel⟩, List.mem_of_getElem? (i := 12) (by decide +kernel), List.mem_of_getElem? (i := 236) (by decide +kernel), List.mem_of_getElem? (i := 237) (by decide +kernel)⟩
theorem lw_p13 : lw_okq (⟨"TemporaryReals", "makeTooGreat", "(IZI)I"⟩, 6) := ⟨⟨by decide +kernel, by decide +kernel⟩, List.mem_of_getElem? (i := 12) (by decide +kernel), List.mem_of_getElem? (i := 240) (by decide +kernel), List.mem_of_getElem? (i := 241) (by decide +kernel)⟩
theorem lw_p14 : lw_okq (⟨"TemporaryReals", "copy", "(II)V"⟩, 6) := ⟨⟨by decide +kernel, by decide +kernel⟩, List.mem_of_getElem? (i := 12) (by decide +kernel), List.mem_of_getElem? (i := 252) (by decide +kernel), List.mem_of_getElem? (i := 253) (by decide +kernel)⟩
theorem lw_p15 : lw_okq (⟨"TemporaryReals", "isNegative", "(I)Z"⟩, 6) := ⟨⟨by decide +kernel, by decide +kernel⟩, List.mem_of_getElem? (i := 12) (by decide +kernel), List.mem_of_getElem? (i := 259) (by decide +kernel), List.mem_of_getElem? (i := 260) (by decide +kernel)⟩
def lw_privs_1 : List (MethodName × Nat) := [(⟨"java/lang/Throwable", "fillInStackTrace", "(I)Ljava/lang/Throwable;"⟩, 6), (⟨"TemporaryReals", "kindOf", "(I)I"⟩, 6), (⟨"TemporaryReals", "powerOf", "(I)I"⟩, 6), (⟨"TemporaryReals", "makeSize", "(IZIJJ)I"⟩, 6), (⟨"TemporaryReals", "store", "(IZIJ)V"⟩, 6), (⟨"TemporaryReals", "tell", "(III)I"⟩, 6), (⟨"TemporaryReals", "isMasked", "(I)Z"⟩, 6), (⟨"TemporaryReals", "makeSmall", "(IZIJJ)I"⟩, 6), (⟨"TemporaryReals", "digits", "()I"⟩, 6), (⟨"TemporaryReals", "takesAbove", "(JJZ)Z"⟩, 6), (⟨"TemporaryReals", "rounding", "()I"⟩, 6), (⟨"TemporaryReals", "goesAway", "(Z)Z"⟩, 6), (⟨"TemporaryReals", "makeRounded", "(IZIJJ)I"⟩, 6), (⟨"TemporaryReals", "makeTooGreat", "(IZI)I"⟩, 6), (⟨"TemporaryReals", "copy", "(II)V"⟩, 6), (⟨"TemporaryReals", "isNegative", "(I)Z"⟩, 6)]
theorem lw_r1 : ∀ q ∈ lw_privs_1, lw_okq q := List.forall_mem_cons.mpr ⟨lw_p0, List.forall_mem_cons.mpr ⟨lw_p1, List.forall_mem_cons.mpr ⟨lw_p2, List.forall_mem_cons.mpr ⟨lw_p3, List.forall_mem_cons.mpr ⟨lw_p4, List.forall_mem_cons.mpr ⟨lw_p5, List.forall_mem_cons.mpr ⟨lw_p6, List.forall_mem_cons.mpr ⟨lw_p7, List.forall_mem_cons.mpr ⟨lw_p8, List.forall_mem_cons.mpr ⟨lw_p9, List.forall_mem_cons.mpr ⟨lw_p10, List.forall_mem_cons.mpr ⟨lw_p11, List.forall_mem_cons.mpr ⟨lw_p12, List.forall_mem_cons.mpr ⟨lw_p13, List.forall_mem_cons.mpr ⟨lw_p14, List.forall_mem_cons.mpr ⟨lw_p15, fun _ h => absurd h List.not_mem_nil⟩⟩⟩⟩⟩⟩⟩⟩⟩⟩⟩⟩⟩⟩⟩⟩
theorem lw_p16 : lw_okq (⟨"TemporaryReals", "signum", "(I)I"⟩, 6) := ⟨⟨by decide +kernel, by decide +kernel⟩, List.mem_of_getElem? (i := 12) (by decide +kernel), List.mem_of_getElem? (i := 278) (by decide +kernel), List.mem_of_getElem? (i := 279) (by decide +kernel)⟩
theorem lw_p17 : lw_okq (⟨"TemporaryReals", "compareSizes", "(II)I"⟩, 6) := ⟨⟨by decide +kernel, by decide +kernel⟩, List.mem_of_getElem? (i := 12) (by decide +kernel), List.mem_of_getElem? (i := 282) (by decide +kernel), List.mem_of_getElem? (i := 283) (by decide +kernel)⟩
theorem lw_p18 : lw_okq (⟨"TemporaryReals", "plainPower", "(I)I"⟩, 6) := ⟨⟨by decide +kernel, by decide +kernel⟩, List.mem_of_getElem? (i := 12) (by decide +kernel), List.mem_of_getElem? (i := 286) (by decide +kernel), List.mem_of_getElem? (i := 287) (by decide +kernel)⟩
theorem lw_p19 : lw_okq (⟨"TemporaryReals", "plainFraction", "(I)J"⟩, 6) := ⟨⟨by decide +kernel, by decide +kernel⟩, List.mem_of_getElem? (i := 12) (by decide +kernel), List.mem_of_getElem? (i := 290) (by decide +kernel), List.mem_of_getElem? (i := 291) (by decide +kernel)⟩
theorem lw_p20 : lw_okq (⟨"TemporaryReals", "plainShift", "(I)I"⟩, 6) := ⟨⟨by decide +kernel, by decide +kernel⟩, List.mem_of_getElem? (i := 12) (by decide +kernel), List.mem_of_getElem? (i := 294) (by decide +kernel), List.mem_of_getElem? (i := 295) (by decide +kernel)⟩
theorem lw_p21 : lw_okq (⟨"TemporaryReals", "storeNextGreater", "(IZIJ)V"⟩, 6) := ⟨⟨by decide +kernel, by decide +kernel⟩, List.mem_of_getElem? (i := 12) (by decide +kernel), List.mem_of_getElem? (i := 318) (by decide +kernel), List.mem_of_getElem? (i := 319) (by decide +kernel)⟩
theorem lw_p22 : lw_okq (⟨"TemporaryReals", "storeNextLesser", "(IZIJ)V"⟩, 6) := ⟨⟨by decide +kernel, by decide +kernel⟩, List.mem_of_getElem? (i := 12) (by decide +kernel), List.mem_of_getElem? (i := 322) (by decide +kernel), List.mem_of_getElem? (i := 323) (by decide +kernel)⟩
theorem lw_p23 : lw_okq (⟨"TemporaryRealsModel", "kind", "(I)I"⟩, 15) := ⟨⟨by decide +kernel, by decide +kernel⟩, List.mem_of_getElem? (i := 326) (by decide +kernel), List.mem_of_getElem? (i := 400) (by decide +kernel), List.mem_of_getElem? (i := 401) (by decide +kernel)⟩
theorem lw_p24 : lw_okq (⟨"TemporaryRealsModel", "make", "()V"⟩, 15) := ⟨⟨by decide +kernel, by decide +kernel⟩, List.mem_of_getElem? (i := 326) (by decide +kernel), List.mem_of_getElem? (i := 412) (by decide +kernel), List.mem_of_getElem? (i := 413) (by decide +kernel)⟩
theorem lw_p25 : lw_okq (⟨"TemporaryRealsModel", "result", "(IJ)V"⟩, 15) := ⟨⟨by decide +kernel, by decide +kernel⟩, List.mem_of_getElem? (i := 326) (by decide +kernel), List.mem_of_getElem? (i := 416) (by decide +kernel), List.mem_of_getElem? (i := 417) (by decide +kernel)⟩
theorem lw_p26 : lw_okq (⟨"TemporaryRealsModel", "round", "(I)V"⟩, 15) := ⟨⟨by decide +kernel, by decide +kernel⟩, List.mem_of_getElem? (i := 326) (by decide +kernel), List.mem_of_getElem? (i := 420) (by decide +kernel), List.mem_of_getElem? (i := 421) (by decide +kernel)⟩
theorem lw_p27 : lw_okq (⟨"TemporaryRealsModel", "keep", "(I)I"⟩, 15) := ⟨⟨by decide +kernel, by decide +kernel⟩, List.mem_of_getElem? (i := 326) (by decide +kernel), List.mem_of_getElem? (i := 426) (by decide +kernel), List.mem_of_getElem? (i := 427) (by decide +kernel)⟩
theorem lw_p28 : lw_okq (⟨"TemporaryRealsModel", "powerOf", "(I)I"⟩, 15) := ⟨⟨by decide +kernel, by decide +kernel⟩, List.mem_of_getElem? (i := 326) (by decide +kernel), List.mem_of_getElem? (i := 434) (by decide +kernel), List.mem_of_getElem? (i := 435) (by decide +kernel)⟩
theorem lw_p29 : lw_okq (⟨"TemporaryRealsModel", "isNothing", "(I)Z"⟩, 15) := ⟨⟨by decide +kernel, by decide +kernel⟩, List.mem_of_getElem? (i := 326) (by decide +kernel), List.mem_of_getElem? (i := 446) (by decide +kernel), List.mem_of_getElem? (i := 447) (by decide +kernel)⟩
theorem lw_p30 : lw_okq (⟨"TemporaryRealsModel", "compareSizes", "(II)I"⟩, 15) := ⟨⟨by decide +kernel, by decide +kernel⟩, List.mem_of_getElem? (i := 326) (by decide +kernel), List.mem_of_getElem? (i := 450) (by decide +kernel), List.mem_of_getElem? (i := 451) (by decide +kernel)⟩
def lw_privs_2 : List (MethodName × Nat) := [(⟨"TemporaryReals", "signum", "(I)I"⟩, 6), (⟨"TemporaryReals", "compareSizes", "(II)I"⟩, 6), (⟨"TemporaryReals", "plainPower", "(I)I"⟩, 6), (⟨"TemporaryReals", "plainFraction", "(I)J"⟩, 6), (⟨"TemporaryReals", "plainShift", "(I)I"⟩, 6), (⟨"TemporaryReals", "storeNextGreater", "(IZIJ)V"⟩, 6), (⟨"TemporaryReals", "storeNextLesser", "(IZIJ)V"⟩, 6), (⟨"TemporaryRealsModel", "kind", "(I)I"⟩, 15), (⟨"TemporaryRealsModel", "make", "()V"⟩, 15), (⟨"TemporaryRealsModel", "result", "(IJ)V"⟩, 15), (⟨"TemporaryRealsModel", "round", "(I)V"⟩, 15), (⟨"TemporaryRealsModel", "keep", "(I)I"⟩, 15), (⟨"TemporaryRealsModel", "powerOf", "(I)I"⟩, 15), (⟨"TemporaryRealsModel", "isNothing", "(I)Z"⟩, 15), (⟨"TemporaryRealsModel", "compareSizes", "(II)I"⟩, 15)]
theorem lw_r2 : ∀ q ∈ lw_privs_2, lw_okq q := List.forall_mem_cons.mpr ⟨lw_p16, List.forall_mem_cons.mpr ⟨lw_p17, List.forall_mem_cons.mpr ⟨lw_p18, List.forall_mem_cons.mpr ⟨lw_p19, List.forall_mem_cons.mpr ⟨lw_p20, List.forall_mem_cons.mpr ⟨lw_p21, List.forall_mem_cons.mpr ⟨lw_p22, List.forall_mem_cons.mpr ⟨lw_p23, List.forall_mem_cons.mpr ⟨lw_p24, List.forall_mem_cons.mpr ⟨lw_p25, List.forall_mem_cons.mpr ⟨lw_p26, List.forall_mem_cons.mpr ⟨lw_p27, List.forall_mem_cons.mpr ⟨lw_p28, List.forall_mem_cons.mpr ⟨lw_p29, List.forall_mem_cons.mpr ⟨lw_p30, fun _ h => absurd h List.not_mem_nil⟩⟩⟩⟩⟩⟩⟩⟩⟩⟩⟩⟩⟩⟩⟩
def lw_privs : List (MethodName × Nat) := lw_privs_1 ++ (lw_privs_2)
def lw_tbl : List Cond := k2_sels lw_privs ++ tables_1
theorem lw_privs_ok : ∀ q ∈ lw_privs, lw_okq q := by
  show ∀ q ∈ lw_privs_1 ++ (lw_privs_2), lw_okq q
  exact List.forall_mem_append.mpr ⟨lw_r1, lw_r2⟩
def RX0 : String := "TemporaryReals"
def TX0 : u_T := fun k => match k with
  | 0 => ("TemporaryReals", "tops", "[I", true)
  | 1 => ("TemporaryReals", "fractions", "[J", true)
  | 2 => ("TemporaryReals", "word", "I", false)
  | 3 => ("TemporaryReals", "lastTold", "I", false)
  | 4 => ("TemporaryReals", "lastK", "I", false)
  | _ => ("TemporaryReals", "lastChange", "I", false)
def tyX0 : Nat → FieldType := fun k => match k with
  | 0 => .array .int
  | 1 => .array .long
  | 2 => .int
  | 3 => .int
  | 4 => .int
  | _ => .int
abbrev wsX00 : List Cond := u_ws RX0 TX0 6
theorem nmX0 : ∀ a, a < 6 → ∀ b, b < 6 → a ≠ b → (TX0 a).2.1 ≠ (TX0 b).2.1 := by decide +kernel
theorem tyX0_ok : ∀ k, k < 6 → parseFieldDescriptor (TX0 k).2.2.1 = some (tyX0 k) := by decide +kernel
def RX1 : String := "TemporaryRealsModel"
def TX1 : u_T := fun k => match k with
  | 0 => ("TemporaryRealsModel", "code", "I", false)
  | 1 => ("TemporaryRealsModel", "control", "I", false)
  | 2 => ("TemporaryRealsModel", "top", "[I", true)
  | 3 => ("TemporaryRealsModel", "fraction", "[J", true)
  | 4 => ("TemporaryRealsModel", "bits", "[I", true)
  | 5 => ("TemporaryRealsModel", "weight", "I", false)
  | 6 => ("TemporaryRealsModel", "first", "I", false)
  | 7 => ("TemporaryRealsModel", "minus", "Z", false)
  | 8 => ("TemporaryRealsModel", "whole", "J", false)
  | 9 => ("TemporaryRealsModel", "full", "Z", false)
  | 10 => ("TemporaryRealsModel", "told", "I", false)
  | 11 => ("TemporaryRealsModel", "greatest", "I", false)
  | 12 => ("TemporaryRealsModel", "side", "I", false)
  | 13 => ("TemporaryRealsModel", "madeTop", "I", false)
  | _ => ("TemporaryRealsModel", "madeFraction", "J", false)
def tyX1 : Nat → FieldType := fun k => match k with
  | 0 => .int
  | 1 => .int
  | 2 => .array .int
  | 3 => .array .long
  | 4 => .array .int
  | 5 => .int
  | 6 => .int
  | 7 => .boolean
  | 8 => .long
  | 9 => .boolean
  | 10 => .int
  | 11 => .int
  | 12 => .int
  | 13 => .int
  | _ => .long
abbrev wsX10 : List Cond := u_ws RX1 TX1 15
theorem nmX1 : ∀ a, a < 15 → ∀ b, b < 15 → a ≠ b → (TX1 a).2.1 ≠ (TX1 b).2.1 := by decide +kernel
theorem tyX1_ok : ∀ k, k < 15 → parseFieldDescriptor (TX1 k).2.2.1 = some (tyX1 k) := by decide +kernel
def RJI : String := "java/lang/Integer"
def RJL : String := "java/lang/Long"
def RL : String := "TemporaryRealsLaw"
abbrev xT1 : List Cond := (vx_atS RX0 41 "java/lang/IndexOutOfBoundsException" ["java/lang/RuntimeException", "java/lang/Exception"]).filter goodWord
abbrev xT2 : List Cond := (vx_atS RX0 31 "java/lang/IllegalArgumentException" ["java/lang/RuntimeException", "java/lang/Exception"]).filter goodWord
abbrev cX0_init : ByteArray := prog_1_method_1_code
def yX0_init : MethodName := ⟨RX0, "<init>", "()V"⟩
abbrev cL_control : ByteArray := method_3_code
def yL_control : MethodName := ⟨RL, "control", "(LTemporaryReals;I)I"⟩
abbrev cX0_control : ByteArray := prog_1_method_2_code
def yX0_control : MethodName := ⟨RX0, "control", "(I)V"⟩
abbrev cX0_hasMoreThan16Bits : ByteArray := prog_1_method_11_code
def yX0_hasMoreThan16Bits : MethodName := ⟨RX0, "hasMoreThan16Bits", "(I)Z"⟩
abbrev cL_set : ByteArray := method_4_code
def yL_set : MethodName := ⟨RL, "set", "(LTemporaryReals;IIII)I"⟩
abbrev cX0_set : ByteArray := prog_1_method_3_code
def yX0_set : MethodName := ⟨RX0, "set", "(IIII)V"⟩
abbrev cX0_isNoRegister : ByteArray := prog_1_method_10_code
def yX0_isNoRegister : MethodName := ⟨RX0, "isNoRegister", "(I)Z"⟩
abbrev cX0_join : ByteArray := prog_1_method_12_code
def yX0_join : MethodName := ⟨RX0, "join", "(II)J"⟩
abbrev cL_part : ByteArray := method_5_code
def yL_part : MethodName := ⟨RL, "part", "(LTemporaryReals;II[J)I"⟩
abbrev cX0_part : ByteArray := prog_1_method_4_code
def yX0_part : MethodName := ⟨RX0, "part", "(II)I"⟩
abbrev cX0_kindOf : ByteArray := prog_1_method_16_code
def yX0_kindOf : MethodName := ⟨RX0, "kindOf", "(I)I"⟩
abbrev cX0_powerOf : ByteArray := prog_1_method_15_code
def yX0_powerOf : MethodName := ⟨RX0, "powerOf", "(I)I"⟩
abbrev cJL_numberOfLeadingZeros : ByteArray := prog_8_method_48_code
def yJL_numberOfLeadingZeros : MethodName := ⟨RJL, "numberOfLeadingZeros", "(J)I"⟩
abbrev cJI_numberOfLeadingZeros : ByteArray := prog_7_method_47_code
def yJI_numberOfLeadingZeros : MethodName := ⟨RJI, "numberOfLeadingZeros", "(I)I"⟩
abbrev cL_make : ByteArray := method_6_code
def yL_make : MethodName := ⟨RL, "make", "(LTemporaryReals;IZIIIIIZ[J)I"⟩
abbrev cX0_make : ByteArray := prog_1_method_5_code
def yX0_make : MethodName := ⟨RX0, "make", "(IZIIIIIZ)I"⟩
abbrev cX0_shiftIn : ByteArray := prog_1_method_13_code
def yX0_shiftIn : MethodName := ⟨RX0, "shiftIn", "(JJI)J"⟩
abbrev cX0_makeSize : ByteArray := prog_1_method_28_code
def yX0_makeSize : MethodName := ⟨RX0, "makeSize", "(IZIJJ)I"⟩
abbrev cX0_store : ByteArray := prog_1_method_17_code
def yX0_store : MethodName := ⟨RX0, "store", "(IZIJ)V"⟩
abbrev cX0_tell : ByteArray := prog_1_method_19_code
def yX0_tell : MethodName := ⟨RX0, "tell", "(III)I"⟩
abbrev cX0_isMasked : ByteArray := prog_1_method_20_code
def yX0_isMasked : MethodName := ⟨RX0, "isMasked", "(I)Z"⟩
abbrev cX0_makeSmall : ByteArray := prog_1_method_29_code
def yX0_makeSmall : MethodName := ⟨RX0, "makeSmall", "(IZIJJ)I"⟩
abbrev cX0_digits : ByteArray := prog_1_method_21_code
def yX0_digits : MethodName := ⟨RX0, "digits", "()I"⟩
abbrev cX0_wholePart : ByteArray := prog_1_method_25_code
def yX0_wholePart : MethodName := ⟨RX0, "wholePart", "(JI)J"⟩
abbrev cX0_lostPart : ByteArray := prog_1_method_26_code
def yX0_lostPart : MethodName := ⟨RX0, "lostPart", "(JJI)J"⟩
abbrev cX0_takesAbove : ByteArray := prog_1_method_24_code
def yX0_takesAbove : MethodName := ⟨RX0, "takesAbove", "(JJZ)Z"⟩
abbrev cX0_rounding : ByteArray := prog_1_method_22_code
def yX0_rounding : MethodName := ⟨RX0, "rounding", "()I"⟩
abbrev cX0_goesAway : ByteArray := prog_1_method_23_code
def yX0_goesAway : MethodName := ⟨RX0, "goesAway", "(Z)Z"⟩
abbrev cX0_changeOf : ByteArray := prog_1_method_27_code
def yX0_changeOf : MethodName := ⟨RX0, "changeOf", "(JZ)I"⟩
abbrev cX0_makeRounded : ByteArray := prog_1_method_30_code
def yX0_makeRounded : MethodName := ⟨RX0, "makeRounded", "(IZIJJ)I"⟩
abbrev cX0_makeTooGreat : ByteArray := prog_1_method_31_code
def yX0_makeTooGreat : MethodName := ⟨RX0, "makeTooGreat", "(IZI)I"⟩
abbrev cL_again : ByteArray := method_7_code
def yL_again : MethodName := ⟨RL, "again", "(LTemporaryReals;II[J)I"⟩
abbrev cX0_again : ByteArray := prog_1_method_6_code
def yX0_again : MethodName := ⟨RX0, "again", "(II)I"⟩
abbrev cX0_copy : ByteArray := prog_1_method_18_code
def yX0_copy : MethodName := ⟨RX0, "copy", "(II)V"⟩
abbrev cX0_isNegative : ByteArray := prog_1_method_14_code
def yX0_isNegative : MethodName := ⟨RX0, "isNegative", "(I)Z"⟩
abbrev cL_last : ByteArray := method_8_code
def yL_last : MethodName := ⟨RL, "last", "(LTemporaryReals;I[J)I"⟩
abbrev cX0_last : ByteArray := prog_1_method_7_code
def yX0_last : MethodName := ⟨RX0, "last", "(I)I"⟩
abbrev cL_compare : ByteArray := method_9_code
def yL_compare : MethodName := ⟨RL, "compare", "(LTemporaryReals;II[J)I"⟩
abbrev cX0_compare : ByteArray := prog_1_method_8_code
def yX0_compare : MethodName := ⟨RX0, "compare", "(II)I"⟩
abbrev cX0_signum : ByteArray := prog_1_method_32_code
def yX0_signum : MethodName := ⟨RX0, "signum", "(I)I"⟩
abbrev cX0_compareSizes : ByteArray := prog_1_method_33_code
def yX0_compareSizes : MethodName := ⟨RX0, "compareSizes", "(II)I"⟩
abbrev cX0_plainPower : ByteArray := prog_1_method_36_code
def yX0_plainPower : MethodName := ⟨RX0, "plainPower", "(I)I"⟩
abbrev cX0_plainFraction : ByteArray := prog_1_method_35_code
def yX0_plainFraction : MethodName := ⟨RX0, "plainFraction", "(I)J"⟩
abbrev cX0_plainShift : ByteArray := prog_1_method_34_code
def yX0_plainShift : MethodName := ⟨RX0, "plainShift", "(I)I"⟩
abbrev cJL_compareUnsigned : ByteArray := prog_8_method_43_code
def yJL_compareUnsigned : MethodName := ⟨RJL, "compareUnsigned", "(JJ)I"⟩
abbrev cJL_compare : ByteArray := prog_8_method_42_code
def yJL_compare : MethodName := ⟨RJL, "compare", "(JJ)I"⟩
abbrev cJI_signum : ByteArray := prog_7_method_56_code
def yJI_signum : MethodName := ⟨RJI, "signum", "(I)I"⟩
abbrev cL_neighbour : ByteArray := method_10_code
def yL_neighbour : MethodName := ⟨RL, "neighbour", "(LTemporaryReals;IZI)I"⟩
abbrev cX0_neighbour : ByteArray := prog_1_method_9_code
def yX0_neighbour : MethodName := ⟨RX0, "neighbour", "(IZI)V"⟩
abbrev cX0_storeNextGreater : ByteArray := prog_1_method_37_code
def yX0_storeNextGreater : MethodName := ⟨RX0, "storeNextGreater", "(IZIJ)V"⟩
abbrev cX0_storeNextLesser : ByteArray := prog_1_method_38_code
def yX0_storeNextLesser : MethodName := ⟨RX0, "storeNextLesser", "(IZIJ)V"⟩
abbrev cX1_init : ByteArray := prog_3_method_1_code
def yX1_init : MethodName := ⟨RX1, "<init>", "()V"⟩
abbrev cX1_thrown : ByteArray := prog_3_method_2_code
def yX1_thrown : MethodName := ⟨RX1, "thrown", "()I"⟩
abbrev cX1_control : ByteArray := prog_3_method_4_code
def yX1_control : MethodName := ⟨RX1, "control", "(I)V"⟩
abbrev cX1_set : ByteArray := prog_3_method_5_code
def yX1_set : MethodName := ⟨RX1, "set", "(IIII)V"⟩
abbrev cX1_none : ByteArray := prog_3_method_3_code
def yX1_none : MethodName := ⟨RX1, "none", "(I)Z"⟩
abbrev cX1_part : ByteArray := prog_3_method_7_code
def yX1_part : MethodName := ⟨RX1, "part", "(II)I"⟩
abbrev cX1_kind : ByteArray := prog_3_method_6_code
def yX1_kind : MethodName := ⟨RX1, "kind", "(I)I"⟩
abbrev cX1_make : ByteArray := prog_3_method_12_code
def yX1_make : MethodName := ⟨RX1, "make", "(IZIIIIIZ)I"⟩
abbrev cX1_make0 : ByteArray := prog_3_method_10_code
def yX1_make0 : MethodName := ⟨RX1, "make", "()V"⟩
abbrev cX1_result : ByteArray := prog_3_method_9_code
def yX1_result : MethodName := ⟨RX1, "result", "(IJ)V"⟩
abbrev cX1_round : ByteArray := prog_3_method_8_code
def yX1_round : MethodName := ⟨RX1, "round", "(I)V"⟩
abbrev cX1_keep : ByteArray := prog_3_method_11_code
def yX1_keep : MethodName := ⟨RX1, "keep", "(I)I"⟩
abbrev cX1_again : ByteArray := prog_3_method_14_code
def yX1_again : MethodName := ⟨RX1, "again", "(II)I"⟩
abbrev cX1_powerOf : ByteArray := prog_3_method_13_code
def yX1_powerOf : MethodName := ⟨RX1, "powerOf", "(I)I"⟩
abbrev cX1_last : ByteArray := prog_3_method_15_code
def yX1_last : MethodName := ⟨RX1, "last", "(I)I"⟩
abbrev cX1_compare : ByteArray := prog_3_method_18_code
def yX1_compare : MethodName := ⟨RX1, "compare", "(II)I"⟩
abbrev cX1_isNothing : ByteArray := prog_3_method_16_code
def yX1_isNothing : MethodName := ⟨RX1, "isNothing", "(I)Z"⟩
abbrev cX1_compareSizes : ByteArray := prog_3_method_17_code
def yX1_compareSizes : MethodName := ⟨RX1, "compareSizes", "(II)I"⟩
abbrev cX1_neighbour : ByteArray := prog_3_method_19_code
def yX1_neighbour : MethodName := ⟨RX1, "neighbour", "(IZI)V"⟩
abbrev cL_law : ByteArray := code
def yL_law : MethodName := ⟨RL, "law", "([I)Z"⟩
abbrev vwCl : List vw_C := [(RX0, TX0, 6), (RX1, TX1, 15)]
end
section
theorem wa_a {a b : List Cond} (h1 : a.all goodWord = true) (h2 : b.all goodWord = true) : (a ++ b).all goodWord = true := by rw [List.all_append, h1, h2]; rfl
theorem wi_a {a b T : List Cond} (h1 : ∀ w ∈ a, w ∈ T) (h2 : ∀ w ∈ b, w ∈ T) : ∀ w ∈ a ++ b, w ∈ T := fun w h => (List.mem_append.mp h).elim (h1 w) (h2 w)
set_option maxRecDepth 20000 in
theorem al_wsX00 : wsX00.all goodWord = true := by decide +kernel
set_option maxRecDepth 20000 in
theorem ti_wsX00 : ∀ w ∈ wsX00, w ∈ lw_tbl := by decide +kernel
set_option maxRecDepth 20000 in
theorem al_wsX10 : wsX10.all goodWord = true := by decide +kernel
set_option maxRecDepth 20000 in
theorem ti_wsX10 : ∀ w ∈ wsX10, w ∈ lw_tbl := by decide +kernel
set_option maxRecDepth 20000 in
theorem al_xT1 : xT1.all goodWord = true := by decide +kernel
set_option maxRecDepth 20000 in
theorem ti_xT1 : ∀ w ∈ xT1, w ∈ lw_tbl := by decide +kernel
set_option maxRecDepth 20000 in
theorem al_xT2 : xT2.all goodWord = true := by decide +kernel
set_option maxRecDepth 20000 in
theorem ti_xT2 : ∀ w ∈ xT2, w ∈ lw_tbl := by decide +kernel
def owX0_init : List Cond := [Cond.code yX0_init cX0_init 1 none, Cond.methodLink RX0 3 objectInit, Cond.instanceMethod objectInit, Cond.code objectInit ⟨#[0xb1]⟩ 1 none, Cond.arrayClass .int, Cond.fieldLink RX0 11 "TemporaryReals" "tops" "[I", Cond.arrayClass .long, Cond.fieldLink RX0 15 "TemporaryReals" "fractions" "[J", Cond.fieldLink RX0 19 "TemporaryReals" "word" "I"]
set_option maxRecDepth 20000 in
theorem aloX0_init : owX0_init.all goodWord = true := by decide +kernel
set_option maxRecDepth 20000 in
theorem tihX0_init : Cond.code yX0_init cX0_init 1 none ∈ lw_tbl := List.mem_append_right _ (List.mem_of_getElem? (i := 15) rfl)
set_option maxRecDepth 20000 in
theorem tioX0_init : ∀ w ∈ owX0_init, w ∈ lw_tbl := List.forall_mem_cons.mpr ⟨tihX0_init, by decide +kernel⟩
def wsX0_init : List Cond := owX0_init ++ (wsX00)
theorem al_wsX0_init : wsX0_init.all goodWord = true := wa_a aloX0_init al_wsX00
theorem ti_wsX0_init : ∀ w ∈ wsX0_init, w ∈ lw_tbl := wi_a tioX0_init ti_wsX00
def owX0_hasMoreThan16Bits : List Cond := [Cond.code yX0_hasMoreThan16Bits cX0_hasMoreThan16Bits 1 (some .boolean), Cond.constant RX0 126 (65535)]
set_option maxRecDepth 20000 in
theorem aloX0_hasMoreThan16Bits : owX0_hasMoreThan16Bits.all goodWord = true := by decide +kernel
set_option maxRecDepth 20000 in
theorem tihX0_hasMoreThan16Bits : Cond.code yX0_hasMoreThan16Bits cX0_hasMoreThan16Bits 1 (some .boolean) ∈ lw_tbl := List.mem_append_right _ (List.mem_of_getElem? (i := 50) rfl)
set_option maxRecDepth 20000 in
theorem tioX0_hasMoreThan16Bits : ∀ w ∈ owX0_hasMoreThan16Bits, w ∈ lw_tbl := List.forall_mem_cons.mpr ⟨tihX0_hasMoreThan16Bits, by decide +kernel⟩
def wsX0_hasMoreThan16Bits : List Cond := owX0_hasMoreThan16Bits
theorem al_wsX0_hasMoreThan16Bits : wsX0_hasMoreThan16Bits.all goodWord = true := aloX0_hasMoreThan16Bits
theorem ti_wsX0_hasMoreThan16Bits : ∀ w ∈ wsX0_hasMoreThan16Bits, w ∈ lw_tbl := tioX0_hasMoreThan16Bits
def owX0_control : List Cond := [Cond.code yX0_control cX0_control 2 none, Cond.methodLink RX0 23 yX0_hasMoreThan16Bits, Cond.static yX0_hasMoreThan16Bits, Cond.initialized RX0, Cond.classLink RX0 27 "java/lang/IllegalArgumentException", Cond.initialized "java/lang/IllegalArgumentException", Cond.fieldLink RX0 19 "TemporaryReals" "word" "I"]
set_option maxRecDepth 20000 in
theorem aloX0_control : owX0_control.all goodWord = true := by decide +kernel
set_option maxRecDepth 20000 in
theorem tihX0_control : Cond.code yX0_control cX0_control 2 none ∈ lw_tbl := List.mem_append_right _ (List.mem_of_getElem? (i := 47) rfl)
set_option maxRecDepth 20000 in
theorem tioX0_control : ∀ w ∈ owX0_control, w ∈ lw_tbl := List.forall_mem_cons.mpr ⟨tihX0_control, by decide +kernel⟩
def wsX0_control : List Cond := owX0_control ++ (wsX00 ++ (xT2 ++ (wsX0_hasMoreThan16Bits)))
theorem al_wsX0_control : wsX0_control.all goodWord = true := wa_a aloX0_control (wa_a al_wsX00 (wa_a al_xT2 al_wsX0_hasMoreThan16Bits))
theorem ti_wsX0_control : ∀ w ∈ wsX0_control, w ∈ lw_tbl := wi_a tioX0_control (wi_a ti_wsX00 (wi_a ti_xT2 ti_wsX0_hasMoreThan16Bits))
def owL_control : List Cond := [Cond.codeWith yL_control cL_control 3 (some .int) [(0, 5, 8, 13)], Cond.classLink RL 13 "java/lang/IllegalArgumentException", Cond.methodLink RL 7 yX0_control, Cond.instanceMethod yX0_control, Cond.selects RX0 yX0_control yX0_control, Cond.initialized RX0]
set_option maxRecDepth 20000 in
theorem aloL_control : owL_control.all goodWord = true := by decide +kernel
set_option maxRecDepth 20000 in
theorem tihL_control : Cond.codeWith yL_control cL_control 3 (some .int) [(0, 5, 8, 13)] ∈ lw_tbl := List.mem_append_right _ (List.mem_of_getElem? (i := 42) rfl)
set_option maxRecDepth 20000 in
theorem tioL_control : ∀ w ∈ owL_control, w ∈ lw_tbl := List.forall_mem_cons.mpr ⟨tihL_control, by decide +kernel⟩
def wsL_control : List Cond := owL_control ++ (wsX0_control)
theorem al_wsL_control : wsL_control.all goodWord = true := wa_a aloL_control al_wsX0_control
theorem ti_wsL_control : ∀ w ∈ wsL_control, w ∈ lw_tbl := wi_a tioL_control ti_wsX0_control
def owX0_isNoRegister : List Cond := [Cond.code yX0_isNoRegister cX0_isNoRegister 1 (some .boolean)]
set_option maxRecDepth 20000 in
theorem aloX0_isNoRegister : owX0_isNoRegister.all goodWord = true := by decide +kernel
set_option maxRecDepth 20000 in
theorem tihX0_isNoRegister : Cond.code yX0_isNoRegister cX0_isNoRegister 1 (some .boolean) ∈ lw_tbl := List.mem_append_right _ (List.mem_of_getElem? (i := 129) rfl)
set_option maxRecDepth 20000 in
theorem tioX0_isNoRegister : ∀ w ∈ owX0_isNoRegister, w ∈ lw_tbl := List.forall_mem_cons.mpr ⟨tihX0_isNoRegister, by decide +kernel⟩
def wsX0_isNoRegister : List Cond := owX0_isNoRegister
theorem al_wsX0_isNoRegister : wsX0_isNoRegister.all goodWord = true := aloX0_isNoRegister
theorem ti_wsX0_isNoRegister : ∀ w ∈ wsX0_isNoRegister, w ∈ lw_tbl := tioX0_isNoRegister
def owX0_join : List Cond := [Cond.code yX0_join cX0_join 2 (some .long), Cond.constantLong RX0 127 (4294967295)]
set_option maxRecDepth 20000 in
theorem aloX0_join : owX0_join.all goodWord = true := by decide +kernel
set_option maxRecDepth 20000 in
theorem tihX0_join : Cond.code yX0_join cX0_join 2 (some .long) ∈ lw_tbl := List.mem_append_right _ (List.mem_of_getElem? (i := 149) rfl)
set_option maxRecDepth 20000 in
theorem tioX0_join : ∀ w ∈ owX0_join, w ∈ lw_tbl := List.forall_mem_cons.mpr ⟨tihX0_join, by decide +kernel⟩
def wsX0_join : List Cond := owX0_join
theorem al_wsX0_join : wsX0_join.all goodWord = true := aloX0_join
theorem ti_wsX0_join : ∀ w ∈ wsX0_join, w ∈ lw_tbl := tioX0_join
def owX0_set : List Cond := [Cond.code yX0_set cX0_set 5 none, Cond.methodLink RX0 34 yX0_isNoRegister, Cond.static yX0_isNoRegister, Cond.initialized RX0, Cond.classLink RX0 37 "java/lang/IndexOutOfBoundsException", Cond.initialized "java/lang/IndexOutOfBoundsException", Cond.methodLink RX0 23 yX0_hasMoreThan16Bits, Cond.static yX0_hasMoreThan16Bits, Cond.classLink RX0 27 "java/lang/IllegalArgumentException", Cond.initialized "java/lang/IllegalArgumentException", Cond.fieldLink RX0 11 "TemporaryReals" "tops" "[I", Cond.fieldLink RX0 15 "TemporaryReals" "fractions" "[J", Cond.methodLink RX0 44 yX0_join, Cond.static yX0_join]
set_option maxRecDepth 20000 in
theorem aloX0_set : owX0_set.all goodWord = true := by decide +kernel
set_option maxRecDepth 20000 in
theorem tihX0_set : Cond.code yX0_set cX0_set 5 none ∈ lw_tbl := List.mem_append_right _ (List.mem_of_getElem? (i := 126) rfl)
set_option maxRecDepth 20000 in
theorem tioX0_set : ∀ w ∈ owX0_set, w ∈ lw_tbl := List.forall_mem_cons.mpr ⟨tihX0_set, by decide +kernel⟩
def wsX0_set : List Cond := owX0_set ++ (wsX00 ++ (xT2 ++ (xT1 ++ (wsX0_isNoRegister ++ (wsX0_hasMoreThan16Bits ++ (wsX0_join))))))
theorem al_wsX0_set : wsX0_set.all goodWord = true := wa_a aloX0_set (wa_a al_wsX00 (wa_a al_xT2 (wa_a al_xT1 (wa_a al_wsX0_isNoRegister (wa_a al_wsX0_hasMoreThan16Bits al_wsX0_join)))))
theorem ti_wsX0_set : ∀ w ∈ wsX0_set, w ∈ lw_tbl := wi_a tioX0_set (wi_a ti_wsX00 (wi_a ti_xT2 (wi_a ti_xT1 (wi_a ti_wsX0_isNoRegister (wi_a ti_wsX0_hasMoreThan16Bits ti_wsX0_join)))))
def owL_set : List Cond := [Cond.codeWith yL_set cL_set 6 (some .int) [(0, 9, 12, 19), (0, 9, 16, 13)], Cond.classLink RL 19 "java/lang/IndexOutOfBoundsException", Cond.classLink RL 13 "java/lang/IllegalArgumentException", Cond.methodLink RL 15 yX0_set, Cond.instanceMethod yX0_set, Cond.selects RX0 yX0_set yX0_set, Cond.initialized RX0]
set_option maxRecDepth 20000 in
theorem aloL_set : owL_set.all goodWord = true := by decide +kernel
set_option maxRecDepth 20000 in
theorem tihL_set : Cond.codeWith yL_set cL_set 6 (some .int) [(0, 9, 12, 19), (0, 9, 16, 13)] ∈ lw_tbl := List.mem_append_right _ (List.mem_of_getElem? (i := 121) rfl)
set_option maxRecDepth 20000 in
theorem tioL_set : ∀ w ∈ owL_set, w ∈ lw_tbl := List.forall_mem_cons.mpr ⟨tihL_set, by decide +kernel⟩
def wsL_set : List Cond := owL_set ++ (wsX0_set)
theorem al_wsL_set : wsL_set.all goodWord = true := wa_a aloL_set al_wsX0_set
theorem ti_wsL_set : ∀ w ∈ wsL_set, w ∈ lw_tbl := wi_a tioL_set ti_wsX0_set
def owX0_powerOf : List Cond := [Cond.code yX0_powerOf cX0_powerOf 2 (some .int), Cond.fieldLink RX0 11 "TemporaryReals" "tops" "[I"]
set_option maxRecDepth 20000 in
theorem aloX0_powerOf : owX0_powerOf.all goodWord = true := by decide +kernel
set_option maxRecDepth 20000 in
theorem tihX0_powerOf : Cond.code yX0_powerOf cX0_powerOf 2 (some .int) ∈ lw_tbl := List.mem_append_right _ (List.mem_of_getElem? (i := 165) rfl)
set_option maxRecDepth 20000 in
theorem tioX0_powerOf : ∀ w ∈ owX0_powerOf, w ∈ lw_tbl := List.forall_mem_cons.mpr ⟨tihX0_powerOf, by decide +kernel⟩
def wsX0_powerOf : List Cond := owX0_powerOf ++ (wsX00)
theorem al_wsX0_powerOf : wsX0_powerOf.all goodWord = true := wa_a aloX0_powerOf al_wsX00
theorem ti_wsX0_powerOf : ∀ w ∈ wsX0_powerOf, w ∈ lw_tbl := wi_a tioX0_powerOf ti_wsX00
def owX0_kindOf : List Cond := [Cond.code yX0_kindOf cX0_kindOf 5 (some .int), Cond.methodLink RX0 80 yX0_powerOf, Cond.instanceMethod yX0_powerOf, Cond.selects RX0 yX0_powerOf yX0_powerOf, Cond.initialized RX0, Cond.fieldLink RX0 15 "TemporaryReals" "fractions" "[J", Cond.constantLong RX0 130 (9223372036854775807)]
set_option maxRecDepth 20000 in
theorem aloX0_kindOf : owX0_kindOf.all goodWord = true := by decide +kernel
set_option maxRecDepth 20000 in
theorem tihX0_kindOf : Cond.code yX0_kindOf cX0_kindOf 5 (some .int) ∈ lw_tbl := List.mem_append_right _ (List.mem_of_getElem? (i := 161) rfl)
set_option maxRecDepth 20000 in
theorem tioX0_kindOf : ∀ w ∈ owX0_kindOf, w ∈ lw_tbl := List.forall_mem_cons.mpr ⟨tihX0_kindOf, by decide +kernel⟩
def wsX0_kindOf : List Cond := owX0_kindOf ++ (wsX00 ++ (wsX0_powerOf))
theorem al_wsX0_kindOf : wsX0_kindOf.all goodWord = true := wa_a aloX0_kindOf (wa_a al_wsX00 al_wsX0_powerOf)
theorem ti_wsX0_kindOf : ∀ w ∈ wsX0_kindOf, w ∈ lw_tbl := wi_a tioX0_kindOf (wi_a ti_wsX00 ti_wsX0_powerOf)
def owJI_numberOfLeadingZeros : List Cond := [Cond.code yJI_numberOfLeadingZeros cJI_numberOfLeadingZeros 2 (some .int), Cond.constant RJI 264 (65536)]
set_option maxRecDepth 20000 in
theorem aloJI_numberOfLeadingZeros : owJI_numberOfLeadingZeros.all goodWord = true := by decide +kernel
set_option maxRecDepth 20000 in
theorem tihJI_numberOfLeadingZeros : Cond.code yJI_numberOfLeadingZeros cJI_numberOfLeadingZeros 2 (some .int) ∈ lw_tbl := List.mem_append_right _ (List.mem_of_getElem? (i := 172) rfl)
set_option maxRecDepth 20000 in
theorem tioJI_numberOfLeadingZeros : ∀ w ∈ owJI_numberOfLeadingZeros, w ∈ lw_tbl := List.forall_mem_cons.mpr ⟨tihJI_numberOfLeadingZeros, by decide +kernel⟩
def wsJI_numberOfLeadingZeros : List Cond := owJI_numberOfLeadingZeros
theorem al_wsJI_numberOfLeadingZeros : wsJI_numberOfLeadingZeros.all goodWord = true := aloJI_numberOfLeadingZeros
theorem ti_wsJI_numberOfLeadingZeros : ∀ w ∈ wsJI_numberOfLeadingZeros, w ∈ lw_tbl := tioJI_numberOfLeadingZeros
def owJL_numberOfLeadingZeros : List Cond := [Cond.code yJL_numberOfLeadingZeros cJL_numberOfLeadingZeros 3 (some .int), Cond.methodLink RJL 308 yJI_numberOfLeadingZeros, Cond.static yJI_numberOfLeadingZeros, Cond.initialized RJI]
set_option maxRecDepth 20000 in
theorem aloJL_numberOfLeadingZeros : owJL_numberOfLeadingZeros.all goodWord = true := by decide +kernel
set_option maxRecDepth 20000 in
theorem tihJL_numberOfLeadingZeros : Cond.code yJL_numberOfLeadingZeros cJL_numberOfLeadingZeros 3 (some .int) ∈ lw_tbl := List.mem_append_right _ (List.mem_of_getElem? (i := 169) rfl)
set_option maxRecDepth 20000 in
theorem tioJL_numberOfLeadingZeros : ∀ w ∈ owJL_numberOfLeadingZeros, w ∈ lw_tbl := List.forall_mem_cons.mpr ⟨tihJL_numberOfLeadingZeros, by decide +kernel⟩
def wsJL_numberOfLeadingZeros : List Cond := owJL_numberOfLeadingZeros ++ (wsJI_numberOfLeadingZeros)
theorem al_wsJL_numberOfLeadingZeros : wsJL_numberOfLeadingZeros.all goodWord = true := wa_a aloJL_numberOfLeadingZeros al_wsJI_numberOfLeadingZeros
theorem ti_wsJL_numberOfLeadingZeros : ∀ w ∈ wsJL_numberOfLeadingZeros, w ∈ lw_tbl := wi_a tioJL_numberOfLeadingZeros ti_wsJI_numberOfLeadingZeros
def owX0_part : List Cond := [Cond.code yX0_part cX0_part 3 (some .int), Cond.methodLink RX0 34 yX0_isNoRegister, Cond.static yX0_isNoRegister, Cond.initialized RX0, Cond.classLink RX0 37 "java/lang/IndexOutOfBoundsException", Cond.initialized "java/lang/IndexOutOfBoundsException", Cond.fieldLink RX0 11 "TemporaryReals" "tops" "[I", Cond.fieldLink RX0 15 "TemporaryReals" "fractions" "[J", Cond.methodLink RX0 48 yX0_kindOf, Cond.instanceMethod yX0_kindOf, Cond.selects RX0 yX0_kindOf yX0_kindOf, Cond.methodLink RX0 52 yJL_numberOfLeadingZeros, Cond.static yJL_numberOfLeadingZeros, Cond.initialized RJL, Cond.classLink RX0 27 "java/lang/IllegalArgumentException", Cond.initialized "java/lang/IllegalArgumentException"]
set_option maxRecDepth 20000 in
theorem aloX0_part : owX0_part.all goodWord = true := by decide +kernel
set_option maxRecDepth 20000 in
theorem tihX0_part : Cond.code yX0_part cX0_part 3 (some .int) ∈ lw_tbl := List.mem_append_right _ (List.mem_of_getElem? (i := 157) rfl)
set_option maxRecDepth 20000 in
theorem tioX0_part : ∀ w ∈ owX0_part, w ∈ lw_tbl := List.forall_mem_cons.mpr ⟨tihX0_part, by decide +kernel⟩
def wsX0_part : List Cond := owX0_part ++ (wsX00 ++ (xT2 ++ (xT1 ++ (wsX0_isNoRegister ++ (wsX0_kindOf ++ (wsJL_numberOfLeadingZeros))))))
theorem al_wsX0_part : wsX0_part.all goodWord = true := wa_a aloX0_part (wa_a al_wsX00 (wa_a al_xT2 (wa_a al_xT1 (wa_a al_wsX0_isNoRegister (wa_a al_wsX0_kindOf al_wsJL_numberOfLeadingZeros)))))
theorem ti_wsX0_part : ∀ w ∈ wsX0_part, w ∈ lw_tbl := wi_a tioX0_part (wi_a ti_wsX00 (wi_a ti_xT2 (wi_a ti_xT1 (wi_a ti_wsX0_isNoRegister (wi_a ti_wsX0_kindOf ti_wsJL_numberOfLeadingZeros)))))
def owL_part : List Cond := [Cond.codeWith yL_part cL_part 5 (some .int) [(0, 10, 13, 19), (0, 10, 17, 13)], Cond.classLink RL 19 "java/lang/IndexOutOfBoundsException", Cond.classLink RL 13 "java/lang/IllegalArgumentException", Cond.methodLink RL 21 yX0_part, Cond.instanceMethod yX0_part, Cond.selects RX0 yX0_part yX0_part, Cond.initialized RX0]
set_option maxRecDepth 20000 in
theorem aloL_part : owL_part.all goodWord = true := by decide +kernel
set_option maxRecDepth 20000 in
theorem tihL_part : Cond.codeWith yL_part cL_part 5 (some .int) [(0, 10, 13, 19), (0, 10, 17, 13)] ∈ lw_tbl := List.mem_append_right _ (List.mem_of_getElem? (i := 153) rfl)
set_option maxRecDepth 20000 in
theorem tioL_part : ∀ w ∈ owL_part, w ∈ lw_tbl := List.forall_mem_cons.mpr ⟨tihL_part, by decide +kernel⟩
def wsL_part : List Cond := owL_part ++ (wsX0_part)
theorem al_wsL_part : wsL_part.all goodWord = true := wa_a aloL_part al_wsX0_part
theorem ti_wsL_part : ∀ w ∈ wsL_part, w ∈ lw_tbl := wi_a tioL_part ti_wsX0_part
def owX0_shiftIn : List Cond := [Cond.code yX0_shiftIn cX0_shiftIn 5 (some .long)]
set_option maxRecDepth 20000 in
theorem aloX0_shiftIn : owX0_shiftIn.all goodWord = true := by decide +kernel
set_option maxRecDepth 20000 in
theorem tihX0_shiftIn : Cond.code yX0_shiftIn cX0_shiftIn 5 (some .long) ∈ lw_tbl := List.mem_append_right _ (List.mem_of_getElem? (i := 188) rfl)
set_option maxRecDepth 20000 in
theorem tioX0_shiftIn : ∀ w ∈ owX0_shiftIn, w ∈ lw_tbl := List.forall_mem_cons.mpr ⟨tihX0_shiftIn, by decide +kernel⟩
def wsX0_shiftIn : List Cond := owX0_shiftIn
theorem al_wsX0_shiftIn : wsX0_shiftIn.all goodWord = true := aloX0_shiftIn
theorem ti_wsX0_shiftIn : ∀ w ∈ wsX0_shiftIn, w ∈ lw_tbl := tioX0_shiftIn
def owX0_store : List Cond := [Cond.code yX0_store cX0_store 6 none, Cond.fieldLink RX0 11 "TemporaryReals" "tops" "[I", Cond.constant RX0 129 (32768), Cond.fieldLink RX0 15 "TemporaryReals" "fractions" "[J"]
set_option maxRecDepth 20000 in
theorem aloX0_store : owX0_store.all goodWord = true := by decide +kernel
set_option maxRecDepth 20000 in
theorem tihX0_store : Cond.code yX0_store cX0_store 6 none ∈ lw_tbl := List.mem_append_right _ (List.mem_of_getElem? (i := 196) rfl)
set_option maxRecDepth 20000 in
theorem tioX0_store : ∀ w ∈ owX0_store, w ∈ lw_tbl := List.forall_mem_cons.mpr ⟨tihX0_store, by decide +kernel⟩
def wsX0_store : List Cond := owX0_store ++ (wsX00)
theorem al_wsX0_store : wsX0_store.all goodWord = true := wa_a aloX0_store al_wsX00
theorem ti_wsX0_store : ∀ w ∈ wsX0_store, w ∈ lw_tbl := wi_a tioX0_store ti_wsX00
def owX0_tell : List Cond := [Cond.code yX0_tell cX0_tell 4 (some .int), Cond.fieldLink RX0 92 "TemporaryReals" "lastTold" "I", Cond.fieldLink RX0 95 "TemporaryReals" "lastK" "I", Cond.fieldLink RX0 98 "TemporaryReals" "lastChange" "I"]
set_option maxRecDepth 20000 in
theorem aloX0_tell : owX0_tell.all goodWord = true := by decide +kernel
set_option maxRecDepth 20000 in
theorem tihX0_tell : Cond.code yX0_tell cX0_tell 4 (some .int) ∈ lw_tbl := List.mem_append_right _ (List.mem_of_getElem? (i := 201) rfl)
set_option maxRecDepth 20000 in
theorem tioX0_tell : ∀ w ∈ owX0_tell, w ∈ lw_tbl := List.forall_mem_cons.mpr ⟨tihX0_tell, by decide +kernel⟩
def wsX0_tell : List Cond := owX0_tell ++ (wsX00)
theorem al_wsX0_tell : wsX0_tell.all goodWord = true := wa_a aloX0_tell al_wsX00
theorem ti_wsX0_tell : ∀ w ∈ wsX0_tell, w ∈ lw_tbl := wi_a tioX0_tell ti_wsX00
def owX0_isMasked : List Cond := [Cond.code yX0_isMasked cX0_isMasked 2 (some .boolean), Cond.fieldLink RX0 19 "TemporaryReals" "word" "I"]
set_option maxRecDepth 20000 in
theorem aloX0_isMasked : owX0_isMasked.all goodWord = true := by decide +kernel
set_option maxRecDepth 20000 in
theorem tihX0_isMasked : Cond.code yX0_isMasked cX0_isMasked 2 (some .boolean) ∈ lw_tbl := List.mem_append_right _ (List.mem_of_getElem? (i := 205) rfl)
set_option maxRecDepth 20000 in
theorem tioX0_isMasked : ∀ w ∈ owX0_isMasked, w ∈ lw_tbl := List.forall_mem_cons.mpr ⟨tihX0_isMasked, by decide +kernel⟩
def wsX0_isMasked : List Cond := owX0_isMasked ++ (wsX00)
theorem al_wsX0_isMasked : wsX0_isMasked.all goodWord = true := wa_a aloX0_isMasked al_wsX00
theorem ti_wsX0_isMasked : ∀ w ∈ wsX0_isMasked, w ∈ lw_tbl := wi_a tioX0_isMasked ti_wsX00
def owX0_digits : List Cond := [Cond.code yX0_digits cX0_digits 1 (some .int), Cond.fieldLink RX0 19 "TemporaryReals" "word" "I"]
set_option maxRecDepth 20000 in
theorem aloX0_digits : owX0_digits.all goodWord = true := by decide +kernel
set_option maxRecDepth 20000 in
theorem tihX0_digits : Cond.code yX0_digits cX0_digits 1 (some .int) ∈ lw_tbl := List.mem_append_right _ (List.mem_of_getElem? (i := 213) rfl)
set_option maxRecDepth 20000 in
theorem tioX0_digits : ∀ w ∈ owX0_digits, w ∈ lw_tbl := List.forall_mem_cons.mpr ⟨tihX0_digits, by decide +kernel⟩
def wsX0_digits : List Cond := owX0_digits ++ (wsX00)
theorem al_wsX0_digits : wsX0_digits.all goodWord = true := wa_a aloX0_digits al_wsX00
theorem ti_wsX0_digits : ∀ w ∈ wsX0_digits, w ∈ lw_tbl := wi_a tioX0_digits ti_wsX00
def owX0_wholePart : List Cond := [Cond.code yX0_wholePart cX0_wholePart 3 (some .long)]
set_option maxRecDepth 20000 in
theorem aloX0_wholePart : owX0_wholePart.all goodWord = true := by decide +kernel
set_option maxRecDepth 20000 in
theorem tihX0_wholePart : Cond.code yX0_wholePart cX0_wholePart 3 (some .long) ∈ lw_tbl := List.mem_append_right _ (List.mem_of_getElem? (i := 216) rfl)
set_option maxRecDepth 20000 in
theorem tioX0_wholePart : ∀ w ∈ owX0_wholePart, w ∈ lw_tbl := List.forall_mem_cons.mpr ⟨tihX0_wholePart, by decide +kernel⟩
def wsX0_wholePart : List Cond := owX0_wholePart
theorem al_wsX0_wholePart : wsX0_wholePart.all goodWord = true := aloX0_wholePart
theorem ti_wsX0_wholePart : ∀ w ∈ wsX0_wholePart, w ∈ lw_tbl := tioX0_wholePart
def owX0_lostPart : List Cond := [Cond.code yX0_lostPart cX0_lostPart 7 (some .long)]
set_option maxRecDepth 20000 in
theorem aloX0_lostPart : owX0_lostPart.all goodWord = true := by decide +kernel
set_option maxRecDepth 20000 in
theorem tihX0_lostPart : Cond.code yX0_lostPart cX0_lostPart 7 (some .long) ∈ lw_tbl := List.mem_append_right _ (List.mem_of_getElem? (i := 219) rfl)
set_option maxRecDepth 20000 in
theorem tioX0_lostPart : ∀ w ∈ owX0_lostPart, w ∈ lw_tbl := List.forall_mem_cons.mpr ⟨tihX0_lostPart, by decide +kernel⟩
def wsX0_lostPart : List Cond := owX0_lostPart
theorem al_wsX0_lostPart : wsX0_lostPart.all goodWord = true := aloX0_lostPart
theorem ti_wsX0_lostPart : ∀ w ∈ wsX0_lostPart, w ∈ lw_tbl := tioX0_lostPart
def owX0_rounding : List Cond := [Cond.code yX0_rounding cX0_rounding 1 (some .int), Cond.fieldLink RX0 19 "TemporaryReals" "word" "I"]
set_option maxRecDepth 20000 in
theorem aloX0_rounding : owX0_rounding.all goodWord = true := by decide +kernel
set_option maxRecDepth 20000 in
theorem tihX0_rounding : Cond.code yX0_rounding cX0_rounding 1 (some .int) ∈ lw_tbl := List.mem_append_right _ (List.mem_of_getElem? (i := 227) rfl)
set_option maxRecDepth 20000 in
theorem tioX0_rounding : ∀ w ∈ owX0_rounding, w ∈ lw_tbl := List.forall_mem_cons.mpr ⟨tihX0_rounding, by decide +kernel⟩
def wsX0_rounding : List Cond := owX0_rounding ++ (wsX00)
theorem al_wsX0_rounding : wsX0_rounding.all goodWord = true := wa_a aloX0_rounding al_wsX00
theorem ti_wsX0_rounding : ∀ w ∈ wsX0_rounding, w ∈ lw_tbl := wi_a tioX0_rounding ti_wsX00
def owX0_goesAway : List Cond := [Cond.code yX0_goesAway cX0_goesAway 3 (some .boolean), Cond.methodLink RX0 132 yX0_rounding, Cond.instanceMethod yX0_rounding, Cond.selects RX0 yX0_rounding yX0_rounding, Cond.initialized RX0]
set_option maxRecDepth 20000 in
theorem aloX0_goesAway : owX0_goesAway.all goodWord = true := by decide +kernel
set_option maxRecDepth 20000 in
theorem tihX0_goesAway : Cond.code yX0_goesAway cX0_goesAway 3 (some .boolean) ∈ lw_tbl := List.mem_append_right _ (List.mem_of_getElem? (i := 231) rfl)
set_option maxRecDepth 20000 in
theorem tioX0_goesAway : ∀ w ∈ owX0_goesAway, w ∈ lw_tbl := List.forall_mem_cons.mpr ⟨tihX0_goesAway, by decide +kernel⟩
def wsX0_goesAway : List Cond := owX0_goesAway ++ (wsX0_rounding)
theorem al_wsX0_goesAway : wsX0_goesAway.all goodWord = true := wa_a aloX0_goesAway al_wsX0_rounding
theorem ti_wsX0_goesAway : ∀ w ∈ wsX0_goesAway, w ∈ lw_tbl := wi_a tioX0_goesAway ti_wsX0_rounding
def owX0_takesAbove : List Cond := [Cond.code yX0_takesAbove cX0_takesAbove 6 (some .boolean), Cond.methodLink RX0 132 yX0_rounding, Cond.instanceMethod yX0_rounding, Cond.selects RX0 yX0_rounding yX0_rounding, Cond.initialized RX0, Cond.methodLink RX0 136 yX0_goesAway, Cond.instanceMethod yX0_goesAway, Cond.selects RX0 yX0_goesAway yX0_goesAway, Cond.constantLong RX0 62 (-9223372036854775808)]
set_option maxRecDepth 20000 in
theorem aloX0_takesAbove : owX0_takesAbove.all goodWord = true := by decide +kernel
set_option maxRecDepth 20000 in
theorem tihX0_takesAbove : Cond.code yX0_takesAbove cX0_takesAbove 6 (some .boolean) ∈ lw_tbl := List.mem_append_right _ (List.mem_of_getElem? (i := 223) rfl)
set_option maxRecDepth 20000 in
theorem tioX0_takesAbove : ∀ w ∈ owX0_takesAbove, w ∈ lw_tbl := List.forall_mem_cons.mpr ⟨tihX0_takesAbove, by decide +kernel⟩
def wsX0_takesAbove : List Cond := owX0_takesAbove ++ (wsX0_rounding ++ (wsX0_goesAway))
theorem al_wsX0_takesAbove : wsX0_takesAbove.all goodWord = true := wa_a aloX0_takesAbove (wa_a al_wsX0_rounding al_wsX0_goesAway)
theorem ti_wsX0_takesAbove : ∀ w ∈ wsX0_takesAbove, w ∈ lw_tbl := wi_a tioX0_takesAbove (wi_a ti_wsX0_rounding ti_wsX0_goesAway)
def owX0_changeOf : List Cond := [Cond.code yX0_changeOf cX0_changeOf 3 (some .int)]
set_option maxRecDepth 20000 in
theorem aloX0_changeOf : owX0_changeOf.all goodWord = true := by decide +kernel
set_option maxRecDepth 20000 in
theorem tihX0_changeOf : Cond.code yX0_changeOf cX0_changeOf 3 (some .int) ∈ lw_tbl := List.mem_append_right _ (List.mem_of_getElem? (i := 234) rfl)
set_option maxRecDepth 20000 in
theorem tioX0_changeOf : ∀ w ∈ owX0_changeOf, w ∈ lw_tbl := List.forall_mem_cons.mpr ⟨tihX0_changeOf, by decide +kernel⟩
def wsX0_changeOf : List Cond := owX0_changeOf
theorem al_wsX0_changeOf : wsX0_changeOf.all goodWord = true := aloX0_changeOf
theorem ti_wsX0_changeOf : ∀ w ∈ wsX0_changeOf, w ∈ lw_tbl := tioX0_changeOf
def owX0_makeSmall : List Cond := [Cond.code yX0_makeSmall cX0_makeSmall 17 (some .int), Cond.methodLink RX0 149 yX0_digits, Cond.instanceMethod yX0_digits, Cond.selects RX0 yX0_digits yX0_digits, Cond.initialized RX0, Cond.methodLink RX0 152 yX0_wholePart, Cond.static yX0_wholePart, Cond.methodLink RX0 156 yX0_lostPart, Cond.static yX0_lostPart, Cond.methodLink RX0 159 yX0_takesAbove, Cond.instanceMethod yX0_takesAbove, Cond.selects RX0 yX0_takesAbove yX0_takesAbove, Cond.methodLink RX0 109 yX0_store, Cond.instanceMethod yX0_store, Cond.selects RX0 yX0_store yX0_store, Cond.methodLink RX0 163 yX0_changeOf, Cond.static yX0_changeOf, Cond.methodLink RX0 76 yX0_tell, Cond.instanceMethod yX0_tell, Cond.selects RX0 yX0_tell yX0_tell]
set_option maxRecDepth 20000 in
theorem aloX0_makeSmall : owX0_makeSmall.all goodWord = true := by decide +kernel
set_option maxRecDepth 20000 in
theorem tihX0_makeSmall : Cond.code yX0_makeSmall cX0_makeSmall 17 (some .int) ∈ lw_tbl := List.mem_append_right _ (List.mem_of_getElem? (i := 209) rfl)
set_option maxRecDepth 20000 in
theorem tioX0_makeSmall : ∀ w ∈ owX0_makeSmall, w ∈ lw_tbl := List.forall_mem_cons.mpr ⟨tihX0_makeSmall, by decide +kernel⟩
def wsX0_makeSmall : List Cond := owX0_makeSmall ++ (wsX0_digits ++ (wsX0_wholePart ++ (wsX0_lostPart ++ (wsX0_takesAbove ++ (wsX0_store ++ (wsX0_changeOf ++ (wsX0_tell)))))))
theorem al_wsX0_makeSmall : wsX0_makeSmall.all goodWord = true := wa_a aloX0_makeSmall (wa_a al_wsX0_digits (wa_a al_wsX0_wholePart (wa_a al_wsX0_lostPart (wa_a al_wsX0_takesAbove (wa_a al_wsX0_store (wa_a al_wsX0_changeOf al_wsX0_tell))))))
theorem ti_wsX0_makeSmall : ∀ w ∈ wsX0_makeSmall, w ∈ lw_tbl := wi_a tioX0_makeSmall (wi_a ti_wsX0_digits (wi_a ti_wsX0_wholePart (wi_a ti_wsX0_lostPart (wi_a ti_wsX0_takesAbove (wi_a ti_wsX0_store (wi_a ti_wsX0_changeOf ti_wsX0_tell))))))
def owX0_makeTooGreat : List Cond := [Cond.code yX0_makeTooGreat cX0_makeTooGreat 4 (some .int), Cond.methodLink RX0 132 yX0_rounding, Cond.instanceMethod yX0_rounding, Cond.selects RX0 yX0_rounding yX0_rounding, Cond.initialized RX0, Cond.methodLink RX0 136 yX0_goesAway, Cond.instanceMethod yX0_goesAway, Cond.selects RX0 yX0_goesAway yX0_goesAway, Cond.constantLong RX0 62 (-9223372036854775808), Cond.methodLink RX0 109 yX0_store, Cond.instanceMethod yX0_store, Cond.selects RX0 yX0_store yX0_store, Cond.methodLink RX0 76 yX0_tell, Cond.instanceMethod yX0_tell, Cond.selects RX0 yX0_tell yX0_tell, Cond.constantLong RX0 171 (-1), Cond.methodLink RX0 149 yX0_digits, Cond.instanceMethod yX0_digits, Cond.selects RX0 yX0_digits yX0_digits]
set_option maxRecDepth 20000 in
theorem aloX0_makeTooGreat : owX0_makeTooGreat.all goodWord = true := by decide +kernel
set_option maxRecDepth 20000 in
theorem tihX0_makeTooGreat : Cond.code yX0_makeTooGreat cX0_makeTooGreat 4 (some .int) ∈ lw_tbl := List.mem_append_right _ (List.mem_of_getElem? (i := 242) rfl)
set_option maxRecDepth 20000 in
theorem tioX0_makeTooGreat : ∀ w ∈ owX0_makeTooGreat, w ∈ lw_tbl := List.forall_mem_cons.mpr ⟨tihX0_makeTooGreat, by decide +kernel⟩
def wsX0_makeTooGreat : List Cond := owX0_makeTooGreat ++ (wsX0_rounding ++ (wsX0_goesAway ++ (wsX0_store ++ (wsX0_tell ++ (wsX0_digits)))))
theorem al_wsX0_makeTooGreat : wsX0_makeTooGreat.all goodWord = true := wa_a aloX0_makeTooGreat (wa_a al_wsX0_rounding (wa_a al_wsX0_goesAway (wa_a al_wsX0_store (wa_a al_wsX0_tell al_wsX0_digits))))
theorem ti_wsX0_makeTooGreat : ∀ w ∈ wsX0_makeTooGreat, w ∈ lw_tbl := wi_a tioX0_makeTooGreat (wi_a ti_wsX0_rounding (wi_a ti_wsX0_goesAway (wi_a ti_wsX0_store (wi_a ti_wsX0_tell ti_wsX0_digits))))
def owX0_makeRounded : List Cond := [Cond.code yX0_makeRounded cX0_makeRounded 18 (some .int), Cond.methodLink RX0 149 yX0_digits, Cond.instanceMethod yX0_digits, Cond.selects RX0 yX0_digits yX0_digits, Cond.initialized RX0, Cond.methodLink RX0 152 yX0_wholePart, Cond.static yX0_wholePart, Cond.methodLink RX0 156 yX0_lostPart, Cond.static yX0_lostPart, Cond.methodLink RX0 159 yX0_takesAbove, Cond.instanceMethod yX0_takesAbove, Cond.selects RX0 yX0_takesAbove yX0_takesAbove, Cond.constantLong RX0 62 (-9223372036854775808), Cond.methodLink RX0 140 yX0_isMasked, Cond.instanceMethod yX0_isMasked, Cond.selects RX0 yX0_isMasked yX0_isMasked, Cond.methodLink RX0 167 yX0_makeTooGreat, Cond.instanceMethod yX0_makeTooGreat, Cond.selects RX0 yX0_makeTooGreat yX0_makeTooGreat, Cond.methodLink RX0 109 yX0_store, Cond.instanceMethod yX0_store, Cond.selects RX0 yX0_store yX0_store, Cond.methodLink RX0 163 yX0_changeOf, Cond.static yX0_changeOf, Cond.methodLink RX0 76 yX0_tell, Cond.instanceMethod yX0_tell, Cond.selects RX0 yX0_tell yX0_tell]
set_option maxRecDepth 20000 in
theorem aloX0_makeRounded : owX0_makeRounded.all goodWord = true := by decide +kernel
set_option maxRecDepth 20000 in
theorem tihX0_makeRounded : Cond.code yX0_makeRounded cX0_makeRounded 18 (some .int) ∈ lw_tbl := List.mem_append_right _ (List.mem_of_getElem? (i := 238) rfl)
set_option maxRecDepth 20000 in
theorem tioX0_makeRounded : ∀ w ∈ owX0_makeRounded, w ∈ lw_tbl := List.forall_mem_cons.mpr ⟨tihX0_makeRounded, by decide +kernel⟩
def wsX0_makeRounded : List Cond := owX0_makeRounded ++ (wsX0_digits ++ (wsX0_wholePart ++ (wsX0_lostPart ++ (wsX0_takesAbove ++ (wsX0_isMasked ++ (wsX0_makeTooGreat ++ (wsX0_store ++ (wsX0_changeOf ++ (wsX0_tell)))))))))
theorem al_wsX0_makeRounded : wsX0_makeRounded.all goodWord = true := wa_a aloX0_makeRounded (wa_a al_wsX0_digits (wa_a al_wsX0_wholePart (wa_a al_wsX0_lostPart (wa_a al_wsX0_takesAbove (wa_a al_wsX0_isMasked (wa_a al_wsX0_makeTooGreat (wa_a al_wsX0_store (wa_a al_wsX0_changeOf al_wsX0_tell))))))))
theorem ti_wsX0_makeRounded : ∀ w ∈ wsX0_makeRounded, w ∈ lw_tbl := wi_a tioX0_makeRounded (wi_a ti_wsX0_digits (wi_a ti_wsX0_wholePart (wi_a ti_wsX0_lostPart (wi_a ti_wsX0_takesAbove (wi_a ti_wsX0_isMasked (wi_a ti_wsX0_makeTooGreat (wi_a ti_wsX0_store (wi_a ti_wsX0_changeOf ti_wsX0_tell))))))))
def owX0_makeSize : List Cond := [Cond.code yX0_makeSize cX0_makeSize 8 (some .int), Cond.methodLink RX0 109 yX0_store, Cond.instanceMethod yX0_store, Cond.selects RX0 yX0_store yX0_store, Cond.initialized RX0, Cond.methodLink RX0 76 yX0_tell, Cond.instanceMethod yX0_tell, Cond.selects RX0 yX0_tell yX0_tell, Cond.methodLink RX0 140 yX0_isMasked, Cond.instanceMethod yX0_isMasked, Cond.selects RX0 yX0_isMasked yX0_isMasked, Cond.methodLink RX0 143 yX0_makeSmall, Cond.instanceMethod yX0_makeSmall, Cond.selects RX0 yX0_makeSmall yX0_makeSmall, Cond.methodLink RX0 146 yX0_makeRounded, Cond.instanceMethod yX0_makeRounded, Cond.selects RX0 yX0_makeRounded yX0_makeRounded]
set_option maxRecDepth 20000 in
theorem aloX0_makeSize : owX0_makeSize.all goodWord = true := by decide +kernel
set_option maxRecDepth 20000 in
theorem tihX0_makeSize : Cond.code yX0_makeSize cX0_makeSize 8 (some .int) ∈ lw_tbl := List.mem_append_right _ (List.mem_of_getElem? (i := 192) rfl)
set_option maxRecDepth 20000 in
theorem tioX0_makeSize : ∀ w ∈ owX0_makeSize, w ∈ lw_tbl := List.forall_mem_cons.mpr ⟨tihX0_makeSize, by decide +kernel⟩
def wsX0_makeSize : List Cond := owX0_makeSize ++ (wsX0_store ++ (wsX0_tell ++ (wsX0_isMasked ++ (wsX0_makeSmall ++ (wsX0_makeRounded)))))
theorem al_wsX0_makeSize : wsX0_makeSize.all goodWord = true := wa_a aloX0_makeSize (wa_a al_wsX0_store (wa_a al_wsX0_tell (wa_a al_wsX0_isMasked (wa_a al_wsX0_makeSmall al_wsX0_makeRounded))))
theorem ti_wsX0_makeSize : ∀ w ∈ wsX0_makeSize, w ∈ lw_tbl := wi_a tioX0_makeSize (wi_a ti_wsX0_store (wi_a ti_wsX0_tell (wi_a ti_wsX0_isMasked (wi_a ti_wsX0_makeSmall ti_wsX0_makeRounded))))
def owX0_make : List Cond := [Cond.code yX0_make cX0_make 21 (some .int), Cond.methodLink RX0 34 yX0_isNoRegister, Cond.static yX0_isNoRegister, Cond.initialized RX0, Cond.classLink RX0 37 "java/lang/IndexOutOfBoundsException", Cond.initialized "java/lang/IndexOutOfBoundsException", Cond.constant RX0 58 (-33000), Cond.constant RX0 59 (33000), Cond.classLink RX0 27 "java/lang/IllegalArgumentException", Cond.initialized "java/lang/IllegalArgumentException", Cond.methodLink RX0 44 yX0_join, Cond.static yX0_join, Cond.constantLong RX0 62 (-9223372036854775808), Cond.methodLink RX0 52 yJL_numberOfLeadingZeros, Cond.static yJL_numberOfLeadingZeros, Cond.initialized RJL, Cond.methodLink RX0 64 yX0_shiftIn, Cond.static yX0_shiftIn, Cond.methodLink RX0 68 yX0_makeSize, Cond.instanceMethod yX0_makeSize, Cond.selects RX0 yX0_makeSize yX0_makeSize]
set_option maxRecDepth 20000 in
theorem aloX0_make : owX0_make.all goodWord = true := by decide +kernel
set_option maxRecDepth 20000 in
theorem tihX0_make : Cond.code yX0_make cX0_make 21 (some .int) ∈ lw_tbl := List.mem_append_right _ (List.mem_of_getElem? (i := 181) rfl)
set_option maxRecDepth 20000 in
theorem tioX0_make : ∀ w ∈ owX0_make, w ∈ lw_tbl := List.forall_mem_cons.mpr ⟨tihX0_make, by decide +kernel⟩
def wsX0_make : List Cond := owX0_make ++ (xT2 ++ (xT1 ++ (wsX0_isNoRegister ++ (wsX0_join ++ (wsJL_numberOfLeadingZeros ++ (wsX0_shiftIn ++ (wsX0_makeSize)))))))
theorem al_wsX0_make : wsX0_make.all goodWord = true := wa_a aloX0_make (wa_a al_xT2 (wa_a al_xT1 (wa_a al_wsX0_isNoRegister (wa_a al_wsX0_join (wa_a al_wsJL_numberOfLeadingZeros (wa_a al_wsX0_shiftIn al_wsX0_makeSize))))))
theorem ti_wsX0_make : ∀ w ∈ wsX0_make, w ∈ lw_tbl := wi_a tioX0_make (wi_a ti_xT2 (wi_a ti_xT1 (wi_a ti_wsX0_isNoRegister (wi_a ti_wsX0_join (wi_a ti_wsJL_numberOfLeadingZeros (wi_a ti_wsX0_shiftIn ti_wsX0_makeSize))))))
def owL_make : List Cond := [Cond.codeWith yL_make cL_make 11 (some .int) [(0, 22, 25, 19), (0, 22, 29, 13)], Cond.classLink RL 19 "java/lang/IndexOutOfBoundsException", Cond.classLink RL 13 "java/lang/IllegalArgumentException", Cond.methodLink RL 25 yX0_make, Cond.instanceMethod yX0_make, Cond.selects RX0 yX0_make yX0_make, Cond.initialized RX0]
set_option maxRecDepth 20000 in
theorem aloL_make : owL_make.all goodWord = true := by decide +kernel
set_option maxRecDepth 20000 in
theorem tihL_make : Cond.codeWith yL_make cL_make 11 (some .int) [(0, 22, 25, 19), (0, 22, 29, 13)] ∈ lw_tbl := List.mem_append_right _ (List.mem_of_getElem? (i := 177) rfl)
set_option maxRecDepth 20000 in
theorem tioL_make : ∀ w ∈ owL_make, w ∈ lw_tbl := List.forall_mem_cons.mpr ⟨tihL_make, by decide +kernel⟩
def wsL_make : List Cond := owL_make ++ (wsX0_make)
theorem al_wsL_make : wsL_make.all goodWord = true := wa_a aloL_make al_wsX0_make
theorem ti_wsL_make : ∀ w ∈ wsL_make, w ∈ lw_tbl := wi_a tioL_make ti_wsX0_make
def owX0_copy : List Cond := [Cond.code yX0_copy cX0_copy 3 none, Cond.fieldLink RX0 11 "TemporaryReals" "tops" "[I", Cond.fieldLink RX0 15 "TemporaryReals" "fractions" "[J"]
set_option maxRecDepth 20000 in
theorem aloX0_copy : owX0_copy.all goodWord = true := by decide +kernel
set_option maxRecDepth 20000 in
theorem tihX0_copy : Cond.code yX0_copy cX0_copy 3 none ∈ lw_tbl := List.mem_append_right _ (List.mem_of_getElem? (i := 254) rfl)
set_option maxRecDepth 20000 in
theorem tioX0_copy : ∀ w ∈ owX0_copy, w ∈ lw_tbl := List.forall_mem_cons.mpr ⟨tihX0_copy, by decide +kernel⟩
def wsX0_copy : List Cond := owX0_copy ++ (wsX00)
theorem al_wsX0_copy : wsX0_copy.all goodWord = true := wa_a aloX0_copy al_wsX00
theorem ti_wsX0_copy : ∀ w ∈ wsX0_copy, w ∈ lw_tbl := wi_a tioX0_copy ti_wsX00
def owX0_isNegative : List Cond := [Cond.code yX0_isNegative cX0_isNegative 2 (some .boolean), Cond.fieldLink RX0 11 "TemporaryReals" "tops" "[I", Cond.constant RX0 129 (32768)]
set_option maxRecDepth 20000 in
theorem aloX0_isNegative : owX0_isNegative.all goodWord = true := by decide +kernel
set_option maxRecDepth 20000 in
theorem tihX0_isNegative : Cond.code yX0_isNegative cX0_isNegative 2 (some .boolean) ∈ lw_tbl := List.mem_append_right _ (List.mem_of_getElem? (i := 261) rfl)
set_option maxRecDepth 20000 in
theorem tioX0_isNegative : ∀ w ∈ owX0_isNegative, w ∈ lw_tbl := List.forall_mem_cons.mpr ⟨tihX0_isNegative, by decide +kernel⟩
def wsX0_isNegative : List Cond := owX0_isNegative ++ (wsX00)
theorem al_wsX0_isNegative : wsX0_isNegative.all goodWord = true := wa_a aloX0_isNegative al_wsX00
theorem ti_wsX0_isNegative : ∀ w ∈ wsX0_isNegative, w ∈ lw_tbl := wi_a tioX0_isNegative ti_wsX00
def owX0_again : List Cond := [Cond.code yX0_again cX0_again 8 (some .int), Cond.methodLink RX0 34 yX0_isNoRegister, Cond.static yX0_isNoRegister, Cond.initialized RX0, Cond.classLink RX0 37 "java/lang/IndexOutOfBoundsException", Cond.initialized "java/lang/IndexOutOfBoundsException", Cond.methodLink RX0 48 yX0_kindOf, Cond.instanceMethod yX0_kindOf, Cond.selects RX0 yX0_kindOf yX0_kindOf, Cond.methodLink RX0 72 yX0_copy, Cond.instanceMethod yX0_copy, Cond.selects RX0 yX0_copy yX0_copy, Cond.methodLink RX0 76 yX0_tell, Cond.instanceMethod yX0_tell, Cond.selects RX0 yX0_tell yX0_tell, Cond.fieldLink RX0 15 "TemporaryReals" "fractions" "[J", Cond.methodLink RX0 52 yJL_numberOfLeadingZeros, Cond.static yJL_numberOfLeadingZeros, Cond.initialized RJL, Cond.methodLink RX0 80 yX0_powerOf, Cond.instanceMethod yX0_powerOf, Cond.selects RX0 yX0_powerOf yX0_powerOf, Cond.methodLink RX0 83 Lib.Math.max.name, Cond.static Lib.Math.max.name, Cond.initialized "java/lang/Math", Cond.code Lib.Math.max.name Lib.Math.max.code 2 (some .int), Cond.methodLink RX0 89 yX0_isNegative, Cond.instanceMethod yX0_isNegative, Cond.selects RX0 yX0_isNegative yX0_isNegative, Cond.methodLink RX0 64 yX0_shiftIn, Cond.static yX0_shiftIn, Cond.methodLink RX0 68 yX0_makeSize, Cond.instanceMethod yX0_makeSize, Cond.selects RX0 yX0_makeSize yX0_makeSize]
set_option maxRecDepth 20000 in
theorem aloX0_again : owX0_again.all goodWord = true := by decide +kernel
set_option maxRecDepth 20000 in
theorem tihX0_again : Cond.code yX0_again cX0_again 8 (some .int) ∈ lw_tbl := List.mem_append_right _ (List.mem_of_getElem? (i := 250) rfl)
set_option maxRecDepth 20000 in
theorem tioX0_again : ∀ w ∈ owX0_again, w ∈ lw_tbl := List.forall_mem_cons.mpr ⟨tihX0_again, by decide +kernel⟩
def wsX0_again : List Cond := owX0_again ++ (wsX00 ++ (xT1 ++ (wsX0_isNoRegister ++ (wsX0_kindOf ++ (wsX0_copy ++ (wsX0_tell ++ (wsJL_numberOfLeadingZeros ++ (wsX0_powerOf ++ (wsX0_isNegative ++ (wsX0_shiftIn ++ (wsX0_makeSize)))))))))))
theorem al_wsX0_again : wsX0_again.all goodWord = true := wa_a aloX0_again (wa_a al_wsX00 (wa_a al_xT1 (wa_a al_wsX0_isNoRegister (wa_a al_wsX0_kindOf (wa_a al_wsX0_copy (wa_a al_wsX0_tell (wa_a al_wsJL_numberOfLeadingZeros (wa_a al_wsX0_powerOf (wa_a al_wsX0_isNegative (wa_a al_wsX0_shiftIn al_wsX0_makeSize))))))))))
theorem ti_wsX0_again : ∀ w ∈ wsX0_again, w ∈ lw_tbl := wi_a tioX0_again (wi_a ti_wsX00 (wi_a ti_xT1 (wi_a ti_wsX0_isNoRegister (wi_a ti_wsX0_kindOf (wi_a ti_wsX0_copy (wi_a ti_wsX0_tell (wi_a ti_wsJL_numberOfLeadingZeros (wi_a ti_wsX0_powerOf (wi_a ti_wsX0_isNegative (wi_a ti_wsX0_shiftIn ti_wsX0_makeSize))))))))))
def owL_again : List Cond := [Cond.codeWith yL_again cL_again 5 (some .int) [(0, 10, 13, 19)], Cond.classLink RL 19 "java/lang/IndexOutOfBoundsException", Cond.methodLink RL 29 yX0_again, Cond.instanceMethod yX0_again, Cond.selects RX0 yX0_again yX0_again, Cond.initialized RX0]
set_option maxRecDepth 20000 in
theorem aloL_again : owL_again.all goodWord = true := by decide +kernel
set_option maxRecDepth 20000 in
theorem tihL_again : Cond.codeWith yL_again cL_again 5 (some .int) [(0, 10, 13, 19)] ∈ lw_tbl := List.mem_append_right _ (List.mem_of_getElem? (i := 246) rfl)
set_option maxRecDepth 20000 in
theorem tioL_again : ∀ w ∈ owL_again, w ∈ lw_tbl := List.forall_mem_cons.mpr ⟨tihL_again, by decide +kernel⟩
def wsL_again : List Cond := owL_again ++ (wsX0_again)
theorem al_wsL_again : wsL_again.all goodWord = true := wa_a aloL_again al_wsX0_again
theorem ti_wsL_again : ∀ w ∈ wsL_again, w ∈ lw_tbl := wi_a tioL_again ti_wsX0_again
def owX0_last : List Cond := [Cond.code yX0_last cX0_last 2 (some .int), Cond.fieldLink RX0 92 "TemporaryReals" "lastTold" "I", Cond.fieldLink RX0 95 "TemporaryReals" "lastK" "I", Cond.fieldLink RX0 98 "TemporaryReals" "lastChange" "I", Cond.classLink RX0 27 "java/lang/IllegalArgumentException", Cond.initialized "java/lang/IllegalArgumentException"]
set_option maxRecDepth 20000 in
theorem aloX0_last : owX0_last.all goodWord = true := by decide +kernel
set_option maxRecDepth 20000 in
theorem tihX0_last : Cond.code yX0_last cX0_last 2 (some .int) ∈ lw_tbl := List.mem_append_right _ (List.mem_of_getElem? (i := 268) rfl)
set_option maxRecDepth 20000 in
theorem tioX0_last : ∀ w ∈ owX0_last, w ∈ lw_tbl := List.forall_mem_cons.mpr ⟨tihX0_last, by decide +kernel⟩
def wsX0_last : List Cond := owX0_last ++ (wsX00 ++ (xT2))
theorem al_wsX0_last : wsX0_last.all goodWord = true := wa_a aloX0_last (wa_a al_wsX00 al_xT2)
theorem ti_wsX0_last : ∀ w ∈ wsX0_last, w ∈ lw_tbl := wi_a tioX0_last (wi_a ti_wsX00 ti_xT2)
def owL_last : List Cond := [Cond.codeWith yL_last cL_last 4 (some .int) [(0, 9, 12, 13)], Cond.classLink RL 13 "java/lang/IllegalArgumentException", Cond.methodLink RL 32 yX0_last, Cond.instanceMethod yX0_last, Cond.selects RX0 yX0_last yX0_last, Cond.initialized RX0]
set_option maxRecDepth 20000 in
theorem aloL_last : owL_last.all goodWord = true := by decide +kernel
set_option maxRecDepth 20000 in
theorem tihL_last : Cond.codeWith yL_last cL_last 4 (some .int) [(0, 9, 12, 13)] ∈ lw_tbl := List.mem_append_right _ (List.mem_of_getElem? (i := 264) rfl)
set_option maxRecDepth 20000 in
theorem tioL_last : ∀ w ∈ owL_last, w ∈ lw_tbl := List.forall_mem_cons.mpr ⟨tihL_last, by decide +kernel⟩
def wsL_last : List Cond := owL_last ++ (wsX0_last)
theorem al_wsL_last : wsL_last.all goodWord = true := wa_a aloL_last al_wsX0_last
theorem ti_wsL_last : ∀ w ∈ wsL_last, w ∈ lw_tbl := wi_a tioL_last ti_wsX0_last
def owX0_signum : List Cond := [Cond.code yX0_signum cX0_signum 2 (some .int), Cond.methodLink RX0 48 yX0_kindOf, Cond.instanceMethod yX0_kindOf, Cond.selects RX0 yX0_kindOf yX0_kindOf, Cond.initialized RX0, Cond.fieldLink RX0 15 "TemporaryReals" "fractions" "[J", Cond.methodLink RX0 89 yX0_isNegative, Cond.instanceMethod yX0_isNegative, Cond.selects RX0 yX0_isNegative yX0_isNegative]
set_option maxRecDepth 20000 in
theorem aloX0_signum : owX0_signum.all goodWord = true := by decide +kernel
set_option maxRecDepth 20000 in
theorem tihX0_signum : Cond.code yX0_signum cX0_signum 2 (some .int) ∈ lw_tbl := List.mem_append_right _ (List.mem_of_getElem? (i := 280) rfl)
set_option maxRecDepth 20000 in
theorem tioX0_signum : ∀ w ∈ owX0_signum, w ∈ lw_tbl := List.forall_mem_cons.mpr ⟨tihX0_signum, by decide +kernel⟩
def wsX0_signum : List Cond := owX0_signum ++ (wsX00 ++ (wsX0_kindOf ++ (wsX0_isNegative)))
theorem al_wsX0_signum : wsX0_signum.all goodWord = true := wa_a aloX0_signum (wa_a al_wsX00 (wa_a al_wsX0_kindOf al_wsX0_isNegative))
theorem ti_wsX0_signum : ∀ w ∈ wsX0_signum, w ∈ lw_tbl := wi_a tioX0_signum (wi_a ti_wsX00 (wi_a ti_wsX0_kindOf ti_wsX0_isNegative))
def owX0_plainShift : List Cond := [Cond.code yX0_plainShift cX0_plainShift 2 (some .int), Cond.fieldLink RX0 15 "TemporaryReals" "fractions" "[J", Cond.methodLink RX0 52 yJL_numberOfLeadingZeros, Cond.static yJL_numberOfLeadingZeros, Cond.initialized RJL, Cond.methodLink RX0 80 yX0_powerOf, Cond.instanceMethod yX0_powerOf, Cond.selects RX0 yX0_powerOf yX0_powerOf, Cond.initialized RX0, Cond.methodLink RX0 83 Lib.Math.max.name, Cond.static Lib.Math.max.name, Cond.initialized "java/lang/Math", Cond.code Lib.Math.max.name Lib.Math.max.code 2 (some .int), Cond.methodLink RX0 180 Lib.Math.min.name, Cond.static Lib.Math.min.name, Cond.code Lib.Math.min.name Lib.Math.min.code 2 (some .int)]
set_option maxRecDepth 20000 in
theorem aloX0_plainShift : owX0_plainShift.all goodWord = true := by decide +kernel
set_option maxRecDepth 20000 in
theorem tihX0_plainShift : Cond.code yX0_plainShift cX0_plainShift 2 (some .int) ∈ lw_tbl := List.mem_append_right _ (List.mem_of_getElem? (i := 296) rfl)
set_option maxRecDepth 20000 in
theorem tioX0_plainShift : ∀ w ∈ owX0_plainShift, w ∈ lw_tbl := List.forall_mem_cons.mpr ⟨tihX0_plainShift, by decide +kernel⟩
def wsX0_plainShift : List Cond := owX0_plainShift ++ (wsX00 ++ (wsJL_numberOfLeadingZeros ++ (wsX0_powerOf)))
theorem al_wsX0_plainShift : wsX0_plainShift.all goodWord = true := wa_a aloX0_plainShift (wa_a al_wsX00 (wa_a al_wsJL_numberOfLeadingZeros al_wsX0_powerOf))
theorem ti_wsX0_plainShift : ∀ w ∈ wsX0_plainShift, w ∈ lw_tbl := wi_a tioX0_plainShift (wi_a ti_wsX00 (wi_a ti_wsJL_numberOfLeadingZeros ti_wsX0_powerOf))
def owX0_plainFraction : List Cond := [Cond.code yX0_plainFraction cX0_plainFraction 2 (some .long), Cond.methodLink RX0 80 yX0_powerOf, Cond.instanceMethod yX0_powerOf, Cond.selects RX0 yX0_powerOf yX0_powerOf, Cond.initialized RX0, Cond.constantLong RX0 62 (-9223372036854775808), Cond.fieldLink RX0 15 "TemporaryReals" "fractions" "[J", Cond.methodLink RX0 183 yX0_plainShift, Cond.instanceMethod yX0_plainShift, Cond.selects RX0 yX0_plainShift yX0_plainShift, Cond.methodLink RX0 64 yX0_shiftIn, Cond.static yX0_shiftIn]
set_option maxRecDepth 20000 in
theorem aloX0_plainFraction : owX0_plainFraction.all goodWord = true := by decide +kernel
set_option maxRecDepth 20000 in
theorem tihX0_plainFraction : Cond.code yX0_plainFraction cX0_plainFraction 2 (some .long) ∈ lw_tbl := List.mem_append_right _ (List.mem_of_getElem? (i := 292) rfl)
set_option maxRecDepth 20000 in
theorem tioX0_plainFraction : ∀ w ∈ owX0_plainFraction, w ∈ lw_tbl := List.forall_mem_cons.mpr ⟨tihX0_plainFraction, by decide +kernel⟩
def wsX0_plainFraction : List Cond := owX0_plainFraction ++ (wsX00 ++ (wsX0_powerOf ++ (wsX0_plainShift ++ (wsX0_shiftIn))))
theorem al_wsX0_plainFraction : wsX0_plainFraction.all goodWord = true := wa_a aloX0_plainFraction (wa_a al_wsX00 (wa_a al_wsX0_powerOf (wa_a al_wsX0_plainShift al_wsX0_shiftIn)))
theorem ti_wsX0_plainFraction : ∀ w ∈ wsX0_plainFraction, w ∈ lw_tbl := wi_a tioX0_plainFraction (wi_a ti_wsX00 (wi_a ti_wsX0_powerOf (wi_a ti_wsX0_plainShift ti_wsX0_shiftIn)))
def owX0_plainPower : List Cond := [Cond.code yX0_plainPower cX0_plainPower 2 (some .int), Cond.methodLink RX0 80 yX0_powerOf, Cond.instanceMethod yX0_powerOf, Cond.selects RX0 yX0_powerOf yX0_powerOf, Cond.initialized RX0, Cond.methodLink RX0 116 yX0_plainFraction, Cond.instanceMethod yX0_plainFraction, Cond.selects RX0 yX0_plainFraction yX0_plainFraction, Cond.methodLink RX0 83 Lib.Math.max.name, Cond.static Lib.Math.max.name, Cond.initialized "java/lang/Math", Cond.code Lib.Math.max.name Lib.Math.max.code 2 (some .int), Cond.methodLink RX0 183 yX0_plainShift, Cond.instanceMethod yX0_plainShift, Cond.selects RX0 yX0_plainShift yX0_plainShift]
set_option maxRecDepth 20000 in
theorem aloX0_plainPower : owX0_plainPower.all goodWord = true := by decide +kernel
set_option maxRecDepth 20000 in
theorem tihX0_plainPower : Cond.code yX0_plainPower cX0_plainPower 2 (some .int) ∈ lw_tbl := List.mem_append_right _ (List.mem_of_getElem? (i := 288) rfl)
set_option maxRecDepth 20000 in
theorem tioX0_plainPower : ∀ w ∈ owX0_plainPower, w ∈ lw_tbl := List.forall_mem_cons.mpr ⟨tihX0_plainPower, by decide +kernel⟩
def wsX0_plainPower : List Cond := owX0_plainPower ++ (wsX0_powerOf ++ (wsX0_plainFraction ++ (wsX0_plainShift)))
theorem al_wsX0_plainPower : wsX0_plainPower.all goodWord = true := wa_a aloX0_plainPower (wa_a al_wsX0_powerOf (wa_a al_wsX0_plainFraction al_wsX0_plainShift))
theorem ti_wsX0_plainPower : ∀ w ∈ wsX0_plainPower, w ∈ lw_tbl := wi_a tioX0_plainPower (wi_a ti_wsX0_powerOf (wi_a ti_wsX0_plainFraction ti_wsX0_plainShift))
def owJL_compare : List Cond := [Cond.code yJL_compare cJL_compare 4 (some .int)]
set_option maxRecDepth 20000 in
theorem aloJL_compare : owJL_compare.all goodWord = true := by decide +kernel
set_option maxRecDepth 20000 in
theorem tihJL_compare : Cond.code yJL_compare cJL_compare 4 (some .int) ∈ lw_tbl := List.mem_append_right _ (List.mem_of_getElem? (i := 306) rfl)
set_option maxRecDepth 20000 in
theorem tioJL_compare : ∀ w ∈ owJL_compare, w ∈ lw_tbl := List.forall_mem_cons.mpr ⟨tihJL_compare, by decide +kernel⟩
def wsJL_compare : List Cond := owJL_compare
theorem al_wsJL_compare : wsJL_compare.all goodWord = true := aloJL_compare
theorem ti_wsJL_compare : ∀ w ∈ wsJL_compare, w ∈ lw_tbl := tioJL_compare
def owJL_compareUnsigned : List Cond := [Cond.code yJL_compareUnsigned cJL_compareUnsigned 4 (some .int), Cond.constantLong RJL 168 (-9223372036854775808), Cond.methodLink RJL 302 yJL_compare, Cond.static yJL_compare, Cond.initialized RJL]
set_option maxRecDepth 20000 in
theorem aloJL_compareUnsigned : owJL_compareUnsigned.all goodWord = true := by decide +kernel
set_option maxRecDepth 20000 in
theorem tihJL_compareUnsigned : Cond.code yJL_compareUnsigned cJL_compareUnsigned 4 (some .int) ∈ lw_tbl := List.mem_append_right _ (List.mem_of_getElem? (i := 302) rfl)
set_option maxRecDepth 20000 in
theorem tioJL_compareUnsigned : ∀ w ∈ owJL_compareUnsigned, w ∈ lw_tbl := List.forall_mem_cons.mpr ⟨tihJL_compareUnsigned, by decide +kernel⟩
def wsJL_compareUnsigned : List Cond := owJL_compareUnsigned ++ (wsJL_compare)
theorem al_wsJL_compareUnsigned : wsJL_compareUnsigned.all goodWord = true := wa_a aloJL_compareUnsigned al_wsJL_compare
theorem ti_wsJL_compareUnsigned : ∀ w ∈ wsJL_compareUnsigned, w ∈ lw_tbl := wi_a tioJL_compareUnsigned ti_wsJL_compare
def owJI_signum : List Cond := [Cond.code yJI_signum cJI_signum 1 (some .int)]
set_option maxRecDepth 20000 in
theorem aloJI_signum : owJI_signum.all goodWord = true := by decide +kernel
set_option maxRecDepth 20000 in
theorem tihJI_signum : Cond.code yJI_signum cJI_signum 1 (some .int) ∈ lw_tbl := List.mem_append_right _ (List.mem_of_getElem? (i := 309) rfl)
set_option maxRecDepth 20000 in
theorem tioJI_signum : ∀ w ∈ owJI_signum, w ∈ lw_tbl := List.forall_mem_cons.mpr ⟨tihJI_signum, by decide +kernel⟩
def wsJI_signum : List Cond := owJI_signum
theorem al_wsJI_signum : wsJI_signum.all goodWord = true := aloJI_signum
theorem ti_wsJI_signum : ∀ w ∈ wsJI_signum, w ∈ lw_tbl := tioJI_signum
def owX0_compareSizes : List Cond := [Cond.code yX0_compareSizes cX0_compareSizes 5 (some .int), Cond.methodLink RX0 113 yX0_plainPower, Cond.instanceMethod yX0_plainPower, Cond.selects RX0 yX0_plainPower yX0_plainPower, Cond.initialized RX0, Cond.methodLink RX0 116 yX0_plainFraction, Cond.instanceMethod yX0_plainFraction, Cond.selects RX0 yX0_plainFraction yX0_plainFraction, Cond.methodLink RX0 173 yJL_compareUnsigned, Cond.static yJL_compareUnsigned, Cond.initialized RJL, Cond.methodLink RX0 177 yJI_signum, Cond.static yJI_signum, Cond.initialized RJI]
set_option maxRecDepth 20000 in
theorem aloX0_compareSizes : owX0_compareSizes.all goodWord = true := by decide +kernel
set_option maxRecDepth 20000 in
theorem tihX0_compareSizes : Cond.code yX0_compareSizes cX0_compareSizes 5 (some .int) ∈ lw_tbl := List.mem_append_right _ (List.mem_of_getElem? (i := 284) rfl)
set_option maxRecDepth 20000 in
theorem tioX0_compareSizes : ∀ w ∈ owX0_compareSizes, w ∈ lw_tbl := List.forall_mem_cons.mpr ⟨tihX0_compareSizes, by decide +kernel⟩
def wsX0_compareSizes : List Cond := owX0_compareSizes ++ (wsX0_plainPower ++ (wsX0_plainFraction ++ (wsJL_compareUnsigned ++ (wsJI_signum))))
theorem al_wsX0_compareSizes : wsX0_compareSizes.all goodWord = true := wa_a aloX0_compareSizes (wa_a al_wsX0_plainPower (wa_a al_wsX0_plainFraction (wa_a al_wsJL_compareUnsigned al_wsJI_signum)))
theorem ti_wsX0_compareSizes : ∀ w ∈ wsX0_compareSizes, w ∈ lw_tbl := wi_a tioX0_compareSizes (wi_a ti_wsX0_plainPower (wi_a ti_wsX0_plainFraction (wi_a ti_wsJL_compareUnsigned ti_wsJI_signum)))
def owX0_compare : List Cond := [Cond.code yX0_compare cX0_compare 5 (some .int), Cond.methodLink RX0 34 yX0_isNoRegister, Cond.static yX0_isNoRegister, Cond.initialized RX0, Cond.classLink RX0 37 "java/lang/IndexOutOfBoundsException", Cond.initialized "java/lang/IndexOutOfBoundsException", Cond.methodLink RX0 48 yX0_kindOf, Cond.instanceMethod yX0_kindOf, Cond.selects RX0 yX0_kindOf yX0_kindOf, Cond.methodLink RX0 103 yX0_signum, Cond.instanceMethod yX0_signum, Cond.selects RX0 yX0_signum yX0_signum, Cond.methodLink RX0 106 yX0_compareSizes, Cond.instanceMethod yX0_compareSizes, Cond.selects RX0 yX0_compareSizes yX0_compareSizes]
set_option maxRecDepth 20000 in
theorem aloX0_compare : owX0_compare.all goodWord = true := by decide +kernel
set_option maxRecDepth 20000 in
theorem tihX0_compare : Cond.code yX0_compare cX0_compare 5 (some .int) ∈ lw_tbl := List.mem_append_right _ (List.mem_of_getElem? (i := 276) rfl)
set_option maxRecDepth 20000 in
theorem tioX0_compare : ∀ w ∈ owX0_compare, w ∈ lw_tbl := List.forall_mem_cons.mpr ⟨tihX0_compare, by decide +kernel⟩
def wsX0_compare : List Cond := owX0_compare ++ (xT1 ++ (wsX0_isNoRegister ++ (wsX0_kindOf ++ (wsX0_signum ++ (wsX0_compareSizes)))))
theorem al_wsX0_compare : wsX0_compare.all goodWord = true := wa_a aloX0_compare (wa_a al_xT1 (wa_a al_wsX0_isNoRegister (wa_a al_wsX0_kindOf (wa_a al_wsX0_signum al_wsX0_compareSizes))))
theorem ti_wsX0_compare : ∀ w ∈ wsX0_compare, w ∈ lw_tbl := wi_a tioX0_compare (wi_a ti_xT1 (wi_a ti_wsX0_isNoRegister (wi_a ti_wsX0_kindOf (wi_a ti_wsX0_signum ti_wsX0_compareSizes))))
def owL_compare : List Cond := [Cond.codeWith yL_compare cL_compare 5 (some .int) [(0, 10, 13, 19)], Cond.classLink RL 19 "java/lang/IndexOutOfBoundsException", Cond.methodLink RL 36 yX0_compare, Cond.instanceMethod yX0_compare, Cond.selects RX0 yX0_compare yX0_compare, Cond.initialized RX0]
set_option maxRecDepth 20000 in
theorem aloL_compare : owL_compare.all goodWord = true := by decide +kernel
set_option maxRecDepth 20000 in
theorem tihL_compare : Cond.codeWith yL_compare cL_compare 5 (some .int) [(0, 10, 13, 19)] ∈ lw_tbl := List.mem_append_right _ (List.mem_of_getElem? (i := 272) rfl)
set_option maxRecDepth 20000 in
theorem tioL_compare : ∀ w ∈ owL_compare, w ∈ lw_tbl := List.forall_mem_cons.mpr ⟨tihL_compare, by decide +kernel⟩
def wsL_compare : List Cond := owL_compare ++ (wsX0_compare)
theorem al_wsL_compare : wsL_compare.all goodWord = true := wa_a aloL_compare al_wsX0_compare
theorem ti_wsL_compare : ∀ w ∈ wsL_compare, w ∈ lw_tbl := wi_a tioL_compare ti_wsX0_compare
def owX0_storeNextGreater : List Cond := [Cond.code yX0_storeNextGreater cX0_storeNextGreater 8 none, Cond.constantLong RX0 171 (-1), Cond.constantLong RX0 62 (-9223372036854775808), Cond.methodLink RX0 109 yX0_store, Cond.instanceMethod yX0_store, Cond.selects RX0 yX0_store yX0_store, Cond.initialized RX0, Cond.methodLink RX0 83 Lib.Math.max.name, Cond.static Lib.Math.max.name, Cond.initialized "java/lang/Math", Cond.code Lib.Math.max.name Lib.Math.max.code 2 (some .int)]
set_option maxRecDepth 20000 in
theorem aloX0_storeNextGreater : owX0_storeNextGreater.all goodWord = true := by decide +kernel
set_option maxRecDepth 20000 in
theorem tihX0_storeNextGreater : Cond.code yX0_storeNextGreater cX0_storeNextGreater 8 none ∈ lw_tbl := List.mem_append_right _ (List.mem_of_getElem? (i := 320) rfl)
set_option maxRecDepth 20000 in
theorem tioX0_storeNextGreater : ∀ w ∈ owX0_storeNextGreater, w ∈ lw_tbl := List.forall_mem_cons.mpr ⟨tihX0_storeNextGreater, by decide +kernel⟩
def wsX0_storeNextGreater : List Cond := owX0_storeNextGreater ++ (wsX0_store)
theorem al_wsX0_storeNextGreater : wsX0_storeNextGreater.all goodWord = true := wa_a aloX0_storeNextGreater al_wsX0_store
theorem ti_wsX0_storeNextGreater : ∀ w ∈ wsX0_storeNextGreater, w ∈ lw_tbl := wi_a tioX0_storeNextGreater ti_wsX0_store
def owX0_storeNextLesser : List Cond := [Cond.code yX0_storeNextLesser cX0_storeNextLesser 8 none, Cond.constantLong RX0 62 (-9223372036854775808), Cond.constantLong RX0 171 (-1), Cond.methodLink RX0 109 yX0_store, Cond.instanceMethod yX0_store, Cond.selects RX0 yX0_store yX0_store, Cond.initialized RX0]
set_option maxRecDepth 20000 in
theorem aloX0_storeNextLesser : owX0_storeNextLesser.all goodWord = true := by decide +kernel
set_option maxRecDepth 20000 in
theorem tihX0_storeNextLesser : Cond.code yX0_storeNextLesser cX0_storeNextLesser 8 none ∈ lw_tbl := List.mem_append_right _ (List.mem_of_getElem? (i := 324) rfl)
set_option maxRecDepth 20000 in
theorem tioX0_storeNextLesser : ∀ w ∈ owX0_storeNextLesser, w ∈ lw_tbl := List.forall_mem_cons.mpr ⟨tihX0_storeNextLesser, by decide +kernel⟩
def wsX0_storeNextLesser : List Cond := owX0_storeNextLesser ++ (wsX0_store)
theorem al_wsX0_storeNextLesser : wsX0_storeNextLesser.all goodWord = true := wa_a aloX0_storeNextLesser al_wsX0_store
theorem ti_wsX0_storeNextLesser : ∀ w ∈ wsX0_storeNextLesser, w ∈ lw_tbl := wi_a tioX0_storeNextLesser ti_wsX0_store
def owX0_neighbour : List Cond := [Cond.code yX0_neighbour cX0_neighbour 7 none, Cond.methodLink RX0 34 yX0_isNoRegister, Cond.static yX0_isNoRegister, Cond.initialized RX0, Cond.classLink RX0 37 "java/lang/IndexOutOfBoundsException", Cond.initialized "java/lang/IndexOutOfBoundsException", Cond.methodLink RX0 48 yX0_kindOf, Cond.instanceMethod yX0_kindOf, Cond.selects RX0 yX0_kindOf yX0_kindOf, Cond.methodLink RX0 89 yX0_isNegative, Cond.instanceMethod yX0_isNegative, Cond.selects RX0 yX0_isNegative yX0_isNegative, Cond.methodLink RX0 72 yX0_copy, Cond.instanceMethod yX0_copy, Cond.selects RX0 yX0_copy yX0_copy, Cond.methodLink RX0 103 yX0_signum, Cond.instanceMethod yX0_signum, Cond.selects RX0 yX0_signum yX0_signum, Cond.methodLink RX0 109 yX0_store, Cond.instanceMethod yX0_store, Cond.selects RX0 yX0_store yX0_store, Cond.methodLink RX0 113 yX0_plainPower, Cond.instanceMethod yX0_plainPower, Cond.selects RX0 yX0_plainPower yX0_plainPower, Cond.methodLink RX0 116 yX0_plainFraction, Cond.instanceMethod yX0_plainFraction, Cond.selects RX0 yX0_plainFraction yX0_plainFraction, Cond.methodLink RX0 120 yX0_storeNextGreater, Cond.instanceMethod yX0_storeNextGreater, Cond.selects RX0 yX0_storeNextGreater yX0_storeNextGreater, Cond.methodLink RX0 123 yX0_storeNextLesser, Cond.instanceMethod yX0_storeNextLesser, Cond.selects RX0 yX0_storeNextLesser yX0_storeNextLesser]
set_option maxRecDepth 20000 in
theorem aloX0_neighbour : owX0_neighbour.all goodWord = true := by decide +kernel
set_option maxRecDepth 20000 in
theorem tihX0_neighbour : Cond.code yX0_neighbour cX0_neighbour 7 none ∈ lw_tbl := List.mem_append_right _ (List.mem_of_getElem? (i := 316) rfl)
set_option maxRecDepth 20000 in
theorem tioX0_neighbour : ∀ w ∈ owX0_neighbour, w ∈ lw_tbl := List.forall_mem_cons.mpr ⟨tihX0_neighbour, by decide +kernel⟩
def wsX0_neighbour : List Cond := owX0_neighbour ++ (xT1 ++ (wsX0_isNoRegister ++ (wsX0_kindOf ++ (wsX0_isNegative ++ (wsX0_copy ++ (wsX0_signum ++ (wsX0_store ++ (wsX0_plainPower ++ (wsX0_plainFraction ++ (wsX0_storeNextGreater ++ (wsX0_storeNextLesser)))))))))))
theorem al_wsX0_neighbour : wsX0_neighbour.all goodWord = true := wa_a aloX0_neighbour (wa_a al_xT1 (wa_a al_wsX0_isNoRegister (wa_a al_wsX0_kindOf (wa_a al_wsX0_isNegative (wa_a al_wsX0_copy (wa_a al_wsX0_signum (wa_a al_wsX0_store (wa_a al_wsX0_plainPower (wa_a al_wsX0_plainFraction (wa_a al_wsX0_storeNextGreater al_wsX0_storeNextLesser))))))))))
theorem ti_wsX0_neighbour : ∀ w ∈ wsX0_neighbour, w ∈ lw_tbl := wi_a tioX0_neighbour (wi_a ti_xT1 (wi_a ti_wsX0_isNoRegister (wi_a ti_wsX0_kindOf (wi_a ti_wsX0_isNegative (wi_a ti_wsX0_copy (wi_a ti_wsX0_signum (wi_a ti_wsX0_store (wi_a ti_wsX0_plainPower (wi_a ti_wsX0_plainFraction (wi_a ti_wsX0_storeNextGreater ti_wsX0_storeNextLesser))))))))))
def owL_neighbour : List Cond := [Cond.codeWith yL_neighbour cL_neighbour 5 (some .int) [(0, 7, 10, 19)], Cond.classLink RL 19 "java/lang/IndexOutOfBoundsException", Cond.methodLink RL 39 yX0_neighbour, Cond.instanceMethod yX0_neighbour, Cond.selects RX0 yX0_neighbour yX0_neighbour, Cond.initialized RX0]
set_option maxRecDepth 20000 in
theorem aloL_neighbour : owL_neighbour.all goodWord = true := by decide +kernel
set_option maxRecDepth 20000 in
theorem tihL_neighbour : Cond.codeWith yL_neighbour cL_neighbour 5 (some .int) [(0, 7, 10, 19)] ∈ lw_tbl := List.mem_append_right _ (List.mem_of_getElem? (i := 312) rfl)
set_option maxRecDepth 20000 in
theorem tioL_neighbour : ∀ w ∈ owL_neighbour, w ∈ lw_tbl := List.forall_mem_cons.mpr ⟨tihL_neighbour, by decide +kernel⟩
def wsL_neighbour : List Cond := owL_neighbour ++ (wsX0_neighbour)
theorem al_wsL_neighbour : wsL_neighbour.all goodWord = true := wa_a aloL_neighbour al_wsX0_neighbour
theorem ti_wsL_neighbour : ∀ w ∈ wsL_neighbour, w ∈ lw_tbl := wi_a tioL_neighbour ti_wsX0_neighbour
def owX1_init : List Cond := [Cond.code yX1_init cX1_init 1 none, Cond.methodLink RX1 1 objectInit, Cond.instanceMethod objectInit, Cond.code objectInit ⟨#[0xb1]⟩ 1 none, Cond.fieldLink RX1 7 "TemporaryRealsModel" "control" "I", Cond.arrayClass .int, Cond.fieldLink RX1 13 "TemporaryRealsModel" "top" "[I", Cond.arrayClass .long, Cond.fieldLink RX1 17 "TemporaryRealsModel" "fraction" "[J", Cond.fieldLink RX1 21 "TemporaryRealsModel" "bits" "[I"]
set_option maxRecDepth 20000 in
theorem aloX1_init : owX1_init.all goodWord = true := by decide +kernel
set_option maxRecDepth 20000 in
theorem tihX1_init : Cond.code yX1_init cX1_init 1 none ∈ lw_tbl := List.mem_append_right _ (List.mem_of_getElem? (i := 329) rfl)
set_option maxRecDepth 20000 in
theorem tioX1_init : ∀ w ∈ owX1_init, w ∈ lw_tbl := List.forall_mem_cons.mpr ⟨tihX1_init, by decide +kernel⟩
def wsX1_init : List Cond := owX1_init ++ (wsX10)
theorem al_wsX1_init : wsX1_init.all goodWord = true := wa_a aloX1_init al_wsX10
theorem ti_wsX1_init : ∀ w ∈ wsX1_init, w ∈ lw_tbl := wi_a tioX1_init ti_wsX10
def owX1_thrown : List Cond := [Cond.code yX1_thrown cX1_thrown 1 (some .int), Cond.fieldLink RX1 24 "TemporaryRealsModel" "code" "I"]
set_option maxRecDepth 20000 in
theorem aloX1_thrown : owX1_thrown.all goodWord = true := by decide +kernel
set_option maxRecDepth 20000 in
theorem tihX1_thrown : Cond.code yX1_thrown cX1_thrown 1 (some .int) ∈ lw_tbl := List.mem_append_right _ (List.mem_of_getElem? (i := 380) rfl)
set_option maxRecDepth 20000 in
theorem tioX1_thrown : ∀ w ∈ owX1_thrown, w ∈ lw_tbl := List.forall_mem_cons.mpr ⟨tihX1_thrown, by decide +kernel⟩
def wsX1_thrown : List Cond := owX1_thrown ++ (wsX10)
theorem al_wsX1_thrown : wsX1_thrown.all goodWord = true := wa_a aloX1_thrown al_wsX10
theorem ti_wsX1_thrown : ∀ w ∈ wsX1_thrown, w ∈ lw_tbl := wi_a tioX1_thrown ti_wsX10
def owX1_control : List Cond := [Cond.code yX1_control cX1_control 2 none, Cond.constant RX1 27 (65535), Cond.fieldLink RX1 24 "TemporaryRealsModel" "code" "I", Cond.fieldLink RX1 7 "TemporaryRealsModel" "control" "I"]
set_option maxRecDepth 20000 in
theorem aloX1_control : owX1_control.all goodWord = true := by decide +kernel
set_option maxRecDepth 20000 in
theorem tihX1_control : Cond.code yX1_control cX1_control 2 none ∈ lw_tbl := List.mem_append_right _ (List.mem_of_getElem? (i := 384) rfl)
set_option maxRecDepth 20000 in
theorem tioX1_control : ∀ w ∈ owX1_control, w ∈ lw_tbl := List.forall_mem_cons.mpr ⟨tihX1_control, by decide +kernel⟩
def wsX1_control : List Cond := owX1_control ++ (wsX10)
theorem al_wsX1_control : wsX1_control.all goodWord = true := wa_a aloX1_control al_wsX10
theorem ti_wsX1_control : ∀ w ∈ wsX1_control, w ∈ lw_tbl := wi_a tioX1_control ti_wsX10
def owX1_none : List Cond := [Cond.code yX1_none cX1_none 1 (some .boolean)]
set_option maxRecDepth 20000 in
theorem aloX1_none : owX1_none.all goodWord = true := by decide +kernel
set_option maxRecDepth 20000 in
theorem tihX1_none : Cond.code yX1_none cX1_none 1 (some .boolean) ∈ lw_tbl := List.mem_append_right _ (List.mem_of_getElem? (i := 392) rfl)
set_option maxRecDepth 20000 in
theorem tioX1_none : ∀ w ∈ owX1_none, w ∈ lw_tbl := List.forall_mem_cons.mpr ⟨tihX1_none, by decide +kernel⟩
def wsX1_none : List Cond := owX1_none
theorem al_wsX1_none : wsX1_none.all goodWord = true := aloX1_none
theorem ti_wsX1_none : ∀ w ∈ wsX1_none, w ∈ lw_tbl := tioX1_none
def owX1_set : List Cond := [Cond.code yX1_set cX1_set 5 none, Cond.methodLink RX1 28 yX1_none, Cond.static yX1_none, Cond.initialized RX1, Cond.constant RX1 27 (65535), Cond.fieldLink RX1 24 "TemporaryRealsModel" "code" "I", Cond.fieldLink RX1 13 "TemporaryRealsModel" "top" "[I", Cond.fieldLink RX1 17 "TemporaryRealsModel" "fraction" "[J", Cond.constantLong RX1 32 (4294967296), Cond.constantLong RX1 34 (4294967295)]
set_option maxRecDepth 20000 in
theorem aloX1_set : owX1_set.all goodWord = true := by decide +kernel
set_option maxRecDepth 20000 in
theorem tihX1_set : Cond.code yX1_set cX1_set 5 none ∈ lw_tbl := List.mem_append_right _ (List.mem_of_getElem? (i := 389) rfl)
set_option maxRecDepth 20000 in
theorem tioX1_set : ∀ w ∈ owX1_set, w ∈ lw_tbl := List.forall_mem_cons.mpr ⟨tihX1_set, by decide +kernel⟩
def wsX1_set : List Cond := owX1_set ++ (wsX10 ++ (wsX1_none))
theorem al_wsX1_set : wsX1_set.all goodWord = true := wa_a aloX1_set (wa_a al_wsX10 al_wsX1_none)
theorem ti_wsX1_set : ∀ w ∈ wsX1_set, w ∈ lw_tbl := wi_a tioX1_set (wi_a ti_wsX10 ti_wsX1_none)
def owX1_kind : List Cond := [Cond.code yX1_kind cX1_kind 4 (some .int), Cond.fieldLink RX1 13 "TemporaryRealsModel" "top" "[I", Cond.constant RX1 36 (32768), Cond.fieldLink RX1 17 "TemporaryRealsModel" "fraction" "[J", Cond.constantLong RX1 37 (-9223372036854775808)]
set_option maxRecDepth 20000 in
theorem aloX1_kind : owX1_kind.all goodWord = true := by decide +kernel
set_option maxRecDepth 20000 in
theorem tihX1_kind : Cond.code yX1_kind cX1_kind 4 (some .int) ∈ lw_tbl := List.mem_append_right _ (List.mem_of_getElem? (i := 402) rfl)
set_option maxRecDepth 20000 in
theorem tioX1_kind : ∀ w ∈ owX1_kind, w ∈ lw_tbl := List.forall_mem_cons.mpr ⟨tihX1_kind, by decide +kernel⟩
def wsX1_kind : List Cond := owX1_kind ++ (wsX10)
theorem al_wsX1_kind : wsX1_kind.all goodWord = true := wa_a aloX1_kind al_wsX10
theorem ti_wsX1_kind : ∀ w ∈ wsX1_kind, w ∈ lw_tbl := wi_a tioX1_kind ti_wsX10
def owX1_part : List Cond := [Cond.code yX1_part cX1_part 4 (some .int), Cond.methodLink RX1 28 yX1_none, Cond.static yX1_none, Cond.initialized RX1, Cond.fieldLink RX1 24 "TemporaryRealsModel" "code" "I", Cond.fieldLink RX1 13 "TemporaryRealsModel" "top" "[I", Cond.fieldLink RX1 17 "TemporaryRealsModel" "fraction" "[J", Cond.methodLink RX1 39 yX1_kind, Cond.instanceMethod yX1_kind, Cond.selects RX1 yX1_kind yX1_kind]
set_option maxRecDepth 20000 in
theorem aloX1_part : owX1_part.all goodWord = true := by decide +kernel
set_option maxRecDepth 20000 in
theorem tihX1_part : Cond.code yX1_part cX1_part 4 (some .int) ∈ lw_tbl := List.mem_append_right _ (List.mem_of_getElem? (i := 398) rfl)
set_option maxRecDepth 20000 in
theorem tioX1_part : ∀ w ∈ owX1_part, w ∈ lw_tbl := List.forall_mem_cons.mpr ⟨tihX1_part, by decide +kernel⟩
def wsX1_part : List Cond := owX1_part ++ (wsX10 ++ (wsX1_none ++ (wsX1_kind)))
theorem al_wsX1_part : wsX1_part.all goodWord = true := wa_a aloX1_part (wa_a al_wsX10 (wa_a al_wsX1_none al_wsX1_kind))
theorem ti_wsX1_part : ∀ w ∈ wsX1_part, w ∈ lw_tbl := wi_a tioX1_part (wi_a ti_wsX10 (wi_a ti_wsX1_none ti_wsX1_kind))
def owX1_result : List Cond := [Cond.code yX1_result cX1_result 4 none, Cond.fieldLink RX1 55 "TemporaryRealsModel" "minus" "Z", Cond.constant RX1 36 (32768), Cond.fieldLink RX1 67 "TemporaryRealsModel" "madeTop" "I", Cond.fieldLink RX1 70 "TemporaryRealsModel" "madeFraction" "J"]
set_option maxRecDepth 20000 in
theorem aloX1_result : owX1_result.all goodWord = true := by decide +kernel
set_option maxRecDepth 20000 in
theorem tihX1_result : Cond.code yX1_result cX1_result 4 none ∈ lw_tbl := List.mem_append_right _ (List.mem_of_getElem? (i := 418) rfl)
set_option maxRecDepth 20000 in
theorem tioX1_result : ∀ w ∈ owX1_result, w ∈ lw_tbl := List.forall_mem_cons.mpr ⟨tihX1_result, by decide +kernel⟩
def wsX1_result : List Cond := owX1_result ++ (wsX10)
theorem al_wsX1_result : wsX1_result.all goodWord = true := wa_a aloX1_result al_wsX10
theorem ti_wsX1_result : ∀ w ∈ wsX1_result, w ∈ lw_tbl := wi_a tioX1_result ti_wsX10
def owX1_round : List Cond := [Cond.code yX1_round cX1_round 7 none, Cond.fieldLink RX1 7 "TemporaryRealsModel" "control" "I", Cond.fieldLink RX1 43 "TemporaryRealsModel" "whole" "J", Cond.fieldLink RX1 47 "TemporaryRealsModel" "first" "I", Cond.fieldLink RX1 50 "TemporaryRealsModel" "weight" "I", Cond.constantLong RX1 53 (2), Cond.fieldLink RX1 21 "TemporaryRealsModel" "bits" "[I", Cond.fieldLink RX1 55 "TemporaryRealsModel" "minus" "Z", Cond.fieldLink RX1 59 "TemporaryRealsModel" "side" "I", Cond.constantLong RX1 62 (-1), Cond.fieldLink RX1 64 "TemporaryRealsModel" "full" "Z"]
set_option maxRecDepth 20000 in
theorem aloX1_round : owX1_round.all goodWord = true := by decide +kernel
set_option maxRecDepth 20000 in
theorem tihX1_round : Cond.code yX1_round cX1_round 7 none ∈ lw_tbl := List.mem_append_right _ (List.mem_of_getElem? (i := 422) rfl)
set_option maxRecDepth 20000 in
theorem tioX1_round : ∀ w ∈ owX1_round, w ∈ lw_tbl := List.forall_mem_cons.mpr ⟨tihX1_round, by decide +kernel⟩
def wsX1_round : List Cond := owX1_round ++ (wsX10)
theorem al_wsX1_round : wsX1_round.all goodWord = true := wa_a aloX1_round al_wsX10
theorem ti_wsX1_round : ∀ w ∈ wsX1_round, w ∈ lw_tbl := wi_a tioX1_round ti_wsX10
def owX1_make0 : List Cond := [Cond.code yX1_make0 cX1_make0 13 none, Cond.fieldLink RX1 73 "TemporaryRealsModel" "told" "I", Cond.fieldLink RX1 59 "TemporaryRealsModel" "side" "I", Cond.fieldLink RX1 76 "TemporaryRealsModel" "greatest" "I", Cond.fieldLink RX1 47 "TemporaryRealsModel" "first" "I", Cond.fieldLink RX1 21 "TemporaryRealsModel" "bits" "[I", Cond.methodLink RX1 79 yX1_result, Cond.instanceMethod yX1_result, Cond.selects RX1 yX1_result yX1_result, Cond.initialized RX1, Cond.fieldLink RX1 7 "TemporaryRealsModel" "control" "I", Cond.fieldLink RX1 50 "TemporaryRealsModel" "weight" "I", Cond.methodLink RX1 83 yX1_round, Cond.instanceMethod yX1_round, Cond.selects RX1 yX1_round yX1_round, Cond.fieldLink RX1 43 "TemporaryRealsModel" "whole" "J", Cond.constantLong RX1 53 (2), Cond.fieldLink RX1 64 "TemporaryRealsModel" "full" "Z", Cond.constantLong RX1 37 (-9223372036854775808), Cond.fieldLink RX1 55 "TemporaryRealsModel" "minus" "Z"]
set_option maxRecDepth 20000 in
theorem aloX1_make0 : owX1_make0.all goodWord = true := by decide +kernel
set_option maxRecDepth 20000 in
theorem tihX1_make0 : Cond.code yX1_make0 cX1_make0 13 none ∈ lw_tbl := List.mem_append_right _ (List.mem_of_getElem? (i := 414) rfl)
set_option maxRecDepth 20000 in
theorem tioX1_make0 : ∀ w ∈ owX1_make0, w ∈ lw_tbl := List.forall_mem_cons.mpr ⟨tihX1_make0, by decide +kernel⟩
def wsX1_make0 : List Cond := owX1_make0 ++ (wsX10 ++ (wsX1_result ++ (wsX1_round)))
theorem al_wsX1_make0 : wsX1_make0.all goodWord = true := wa_a aloX1_make0 (wa_a al_wsX10 (wa_a al_wsX1_result al_wsX1_round))
theorem ti_wsX1_make0 : ∀ w ∈ wsX1_make0, w ∈ lw_tbl := wi_a tioX1_make0 (wi_a ti_wsX10 (wi_a ti_wsX1_result ti_wsX1_round))
def owX1_keep : List Cond := [Cond.code yX1_keep cX1_keep 2 (some .int), Cond.fieldLink RX1 13 "TemporaryRealsModel" "top" "[I", Cond.fieldLink RX1 67 "TemporaryRealsModel" "madeTop" "I", Cond.fieldLink RX1 17 "TemporaryRealsModel" "fraction" "[J", Cond.fieldLink RX1 70 "TemporaryRealsModel" "madeFraction" "J", Cond.fieldLink RX1 73 "TemporaryRealsModel" "told" "I"]
set_option maxRecDepth 20000 in
theorem aloX1_keep : owX1_keep.all goodWord = true := by decide +kernel
set_option maxRecDepth 20000 in
theorem tihX1_keep : Cond.code yX1_keep cX1_keep 2 (some .int) ∈ lw_tbl := List.mem_append_right _ (List.mem_of_getElem? (i := 428) rfl)
set_option maxRecDepth 20000 in
theorem tioX1_keep : ∀ w ∈ owX1_keep, w ∈ lw_tbl := List.forall_mem_cons.mpr ⟨tihX1_keep, by decide +kernel⟩
def wsX1_keep : List Cond := owX1_keep ++ (wsX10)
theorem al_wsX1_keep : wsX1_keep.all goodWord = true := wa_a aloX1_keep al_wsX10
theorem ti_wsX1_keep : ∀ w ∈ wsX1_keep, w ∈ lw_tbl := wi_a tioX1_keep ti_wsX10
def owX1_make : List Cond := [Cond.code yX1_make cX1_make 11 (some .int), Cond.methodLink RX1 28 yX1_none, Cond.static yX1_none, Cond.initialized RX1, Cond.constant RX1 87 (-33000), Cond.constant RX1 88 (33000), Cond.fieldLink RX1 24 "TemporaryRealsModel" "code" "I", Cond.fieldLink RX1 21 "TemporaryRealsModel" "bits" "[I", Cond.fieldLink RX1 50 "TemporaryRealsModel" "weight" "I", Cond.fieldLink RX1 55 "TemporaryRealsModel" "minus" "Z", Cond.methodLink RX1 89 yX1_make0, Cond.instanceMethod yX1_make0, Cond.selects RX1 yX1_make0 yX1_make0, Cond.methodLink RX1 92 yX1_keep, Cond.instanceMethod yX1_keep, Cond.selects RX1 yX1_keep yX1_keep]
set_option maxRecDepth 20000 in
theorem aloX1_make : owX1_make.all goodWord = true := by decide +kernel
set_option maxRecDepth 20000 in
theorem tihX1_make : Cond.code yX1_make cX1_make 11 (some .int) ∈ lw_tbl := List.mem_append_right _ (List.mem_of_getElem? (i := 408) rfl)
set_option maxRecDepth 20000 in
theorem tioX1_make : ∀ w ∈ owX1_make, w ∈ lw_tbl := List.forall_mem_cons.mpr ⟨tihX1_make, by decide +kernel⟩
def wsX1_make : List Cond := owX1_make ++ (wsX10 ++ (wsX1_none ++ (wsX1_make0 ++ (wsX1_keep))))
theorem al_wsX1_make : wsX1_make.all goodWord = true := wa_a aloX1_make (wa_a al_wsX10 (wa_a al_wsX1_none (wa_a al_wsX1_make0 al_wsX1_keep)))
theorem ti_wsX1_make : ∀ w ∈ wsX1_make, w ∈ lw_tbl := wi_a tioX1_make (wi_a ti_wsX10 (wi_a ti_wsX1_none (wi_a ti_wsX1_make0 ti_wsX1_keep)))
def owX1_powerOf : List Cond := [Cond.code yX1_powerOf cX1_powerOf 3 (some .int), Cond.fieldLink RX1 13 "TemporaryRealsModel" "top" "[I", Cond.constant RX1 36 (32768)]
set_option maxRecDepth 20000 in
theorem aloX1_powerOf : owX1_powerOf.all goodWord = true := by decide +kernel
set_option maxRecDepth 20000 in
theorem tihX1_powerOf : Cond.code yX1_powerOf cX1_powerOf 3 (some .int) ∈ lw_tbl := List.mem_append_right _ (List.mem_of_getElem? (i := 436) rfl)
set_option maxRecDepth 20000 in
theorem tioX1_powerOf : ∀ w ∈ owX1_powerOf, w ∈ lw_tbl := List.forall_mem_cons.mpr ⟨tihX1_powerOf, by decide +kernel⟩
def wsX1_powerOf : List Cond := owX1_powerOf ++ (wsX10)
theorem al_wsX1_powerOf : wsX1_powerOf.all goodWord = true := wa_a aloX1_powerOf al_wsX10
theorem ti_wsX1_powerOf : ∀ w ∈ wsX1_powerOf, w ∈ lw_tbl := wi_a tioX1_powerOf ti_wsX10
def owX1_again : List Cond := [Cond.code yX1_again cX1_again 4 (some .int), Cond.methodLink RX1 28 yX1_none, Cond.static yX1_none, Cond.initialized RX1, Cond.fieldLink RX1 24 "TemporaryRealsModel" "code" "I", Cond.methodLink RX1 39 yX1_kind, Cond.instanceMethod yX1_kind, Cond.selects RX1 yX1_kind yX1_kind, Cond.fieldLink RX1 13 "TemporaryRealsModel" "top" "[I", Cond.fieldLink RX1 67 "TemporaryRealsModel" "madeTop" "I", Cond.fieldLink RX1 17 "TemporaryRealsModel" "fraction" "[J", Cond.fieldLink RX1 70 "TemporaryRealsModel" "madeFraction" "J", Cond.fieldLink RX1 73 "TemporaryRealsModel" "told" "I", Cond.fieldLink RX1 59 "TemporaryRealsModel" "side" "I", Cond.fieldLink RX1 76 "TemporaryRealsModel" "greatest" "I", Cond.methodLink RX1 92 yX1_keep, Cond.instanceMethod yX1_keep, Cond.selects RX1 yX1_keep yX1_keep, Cond.fieldLink RX1 21 "TemporaryRealsModel" "bits" "[I", Cond.methodLink RX1 95 yX1_powerOf, Cond.instanceMethod yX1_powerOf, Cond.selects RX1 yX1_powerOf yX1_powerOf, Cond.fieldLink RX1 50 "TemporaryRealsModel" "weight" "I", Cond.fieldLink RX1 55 "TemporaryRealsModel" "minus" "Z", Cond.methodLink RX1 89 yX1_make0, Cond.instanceMethod yX1_make0, Cond.selects RX1 yX1_make0 yX1_make0]
set_option maxRecDepth 20000 in
theorem aloX1_again : owX1_again.all goodWord = true := by decide +kernel
set_option maxRecDepth 20000 in
theorem tihX1_again : Cond.code yX1_again cX1_again 4 (some .int) ∈ lw_tbl := List.mem_append_right _ (List.mem_of_getElem? (i := 432) rfl)
set_option maxRecDepth 20000 in
theorem tioX1_again : ∀ w ∈ owX1_again, w ∈ lw_tbl := List.forall_mem_cons.mpr ⟨tihX1_again, by decide +kernel⟩
def wsX1_again : List Cond := owX1_again ++ (wsX10 ++ (wsX1_none ++ (wsX1_kind ++ (wsX1_keep ++ (wsX1_powerOf ++ (wsX1_make0))))))
theorem al_wsX1_again : wsX1_again.all goodWord = true := wa_a aloX1_again (wa_a al_wsX10 (wa_a al_wsX1_none (wa_a al_wsX1_kind (wa_a al_wsX1_keep (wa_a al_wsX1_powerOf al_wsX1_make0)))))
theorem ti_wsX1_again : ∀ w ∈ wsX1_again, w ∈ lw_tbl := wi_a tioX1_again (wi_a ti_wsX10 (wi_a ti_wsX1_none (wi_a ti_wsX1_kind (wi_a ti_wsX1_keep (wi_a ti_wsX1_powerOf ti_wsX1_make0)))))
def owX1_last : List Cond := [Cond.code yX1_last cX1_last 2 (some .int), Cond.fieldLink RX1 24 "TemporaryRealsModel" "code" "I", Cond.fieldLink RX1 73 "TemporaryRealsModel" "told" "I", Cond.fieldLink RX1 76 "TemporaryRealsModel" "greatest" "I", Cond.fieldLink RX1 59 "TemporaryRealsModel" "side" "I"]
set_option maxRecDepth 20000 in
theorem aloX1_last : owX1_last.all goodWord = true := by decide +kernel
set_option maxRecDepth 20000 in
theorem tihX1_last : Cond.code yX1_last cX1_last 2 (some .int) ∈ lw_tbl := List.mem_append_right _ (List.mem_of_getElem? (i := 440) rfl)
set_option maxRecDepth 20000 in
theorem tioX1_last : ∀ w ∈ owX1_last, w ∈ lw_tbl := List.forall_mem_cons.mpr ⟨tihX1_last, by decide +kernel⟩
def wsX1_last : List Cond := owX1_last ++ (wsX10)
theorem al_wsX1_last : wsX1_last.all goodWord = true := wa_a aloX1_last al_wsX10
theorem ti_wsX1_last : ∀ w ∈ wsX1_last, w ∈ lw_tbl := wi_a tioX1_last ti_wsX10
def owX1_isNothing : List Cond := [Cond.code yX1_isNothing cX1_isNothing 2 (some .boolean), Cond.methodLink RX1 39 yX1_kind, Cond.instanceMethod yX1_kind, Cond.selects RX1 yX1_kind yX1_kind, Cond.initialized RX1, Cond.fieldLink RX1 17 "TemporaryRealsModel" "fraction" "[J"]
set_option maxRecDepth 20000 in
theorem aloX1_isNothing : owX1_isNothing.all goodWord = true := by decide +kernel
set_option maxRecDepth 20000 in
theorem tihX1_isNothing : Cond.code yX1_isNothing cX1_isNothing 2 (some .boolean) ∈ lw_tbl := List.mem_append_right _ (List.mem_of_getElem? (i := 448) rfl)
set_option maxRecDepth 20000 in
theorem tioX1_isNothing : ∀ w ∈ owX1_isNothing, w ∈ lw_tbl := List.forall_mem_cons.mpr ⟨tihX1_isNothing, by decide +kernel⟩
def wsX1_isNothing : List Cond := owX1_isNothing ++ (wsX10 ++ (wsX1_kind))
theorem al_wsX1_isNothing : wsX1_isNothing.all goodWord = true := wa_a aloX1_isNothing (wa_a al_wsX10 al_wsX1_kind)
theorem ti_wsX1_isNothing : ∀ w ∈ wsX1_isNothing, w ∈ lw_tbl := wi_a tioX1_isNothing (wi_a ti_wsX10 ti_wsX1_kind)
def owX1_compareSizes : List Cond := [Cond.code yX1_compareSizes cX1_compareSizes 9 (some .int), Cond.methodLink RX1 39 yX1_kind, Cond.instanceMethod yX1_kind, Cond.selects RX1 yX1_kind yX1_kind, Cond.initialized RX1, Cond.methodLink RX1 98 yX1_isNothing, Cond.instanceMethod yX1_isNothing, Cond.selects RX1 yX1_isNothing yX1_isNothing, Cond.fieldLink RX1 17 "TemporaryRealsModel" "fraction" "[J", Cond.methodLink RX1 95 yX1_powerOf, Cond.instanceMethod yX1_powerOf, Cond.selects RX1 yX1_powerOf yX1_powerOf, Cond.constantLong RX1 53 (2)]
set_option maxRecDepth 20000 in
theorem aloX1_compareSizes : owX1_compareSizes.all goodWord = true := by decide +kernel
set_option maxRecDepth 20000 in
theorem tihX1_compareSizes : Cond.code yX1_compareSizes cX1_compareSizes 9 (some .int) ∈ lw_tbl := List.mem_append_right _ (List.mem_of_getElem? (i := 452) rfl)
set_option maxRecDepth 20000 in
theorem tioX1_compareSizes : ∀ w ∈ owX1_compareSizes, w ∈ lw_tbl := List.forall_mem_cons.mpr ⟨tihX1_compareSizes, by decide +kernel⟩
def wsX1_compareSizes : List Cond := owX1_compareSizes ++ (wsX10 ++ (wsX1_kind ++ (wsX1_isNothing ++ (wsX1_powerOf))))
theorem al_wsX1_compareSizes : wsX1_compareSizes.all goodWord = true := wa_a aloX1_compareSizes (wa_a al_wsX10 (wa_a al_wsX1_kind (wa_a al_wsX1_isNothing al_wsX1_powerOf)))
theorem ti_wsX1_compareSizes : ∀ w ∈ wsX1_compareSizes, w ∈ lw_tbl := wi_a tioX1_compareSizes (wi_a ti_wsX10 (wi_a ti_wsX1_kind (wi_a ti_wsX1_isNothing ti_wsX1_powerOf)))
def owX1_compare : List Cond := [Cond.code yX1_compare cX1_compare 5 (some .int), Cond.methodLink RX1 28 yX1_none, Cond.static yX1_none, Cond.initialized RX1, Cond.fieldLink RX1 24 "TemporaryRealsModel" "code" "I", Cond.methodLink RX1 39 yX1_kind, Cond.instanceMethod yX1_kind, Cond.selects RX1 yX1_kind yX1_kind, Cond.methodLink RX1 98 yX1_isNothing, Cond.instanceMethod yX1_isNothing, Cond.selects RX1 yX1_isNothing yX1_isNothing, Cond.fieldLink RX1 13 "TemporaryRealsModel" "top" "[I", Cond.methodLink RX1 101 yX1_compareSizes, Cond.instanceMethod yX1_compareSizes, Cond.selects RX1 yX1_compareSizes yX1_compareSizes]
set_option maxRecDepth 20000 in
theorem aloX1_compare : owX1_compare.all goodWord = true := by decide +kernel
set_option maxRecDepth 20000 in
theorem tihX1_compare : Cond.code yX1_compare cX1_compare 5 (some .int) ∈ lw_tbl := List.mem_append_right _ (List.mem_of_getElem? (i := 444) rfl)
set_option maxRecDepth 20000 in
theorem tioX1_compare : ∀ w ∈ owX1_compare, w ∈ lw_tbl := List.forall_mem_cons.mpr ⟨tihX1_compare, by decide +kernel⟩
def wsX1_compare : List Cond := owX1_compare ++ (wsX10 ++ (wsX1_none ++ (wsX1_kind ++ (wsX1_isNothing ++ (wsX1_compareSizes)))))
theorem al_wsX1_compare : wsX1_compare.all goodWord = true := wa_a aloX1_compare (wa_a al_wsX10 (wa_a al_wsX1_none (wa_a al_wsX1_kind (wa_a al_wsX1_isNothing al_wsX1_compareSizes))))
theorem ti_wsX1_compare : ∀ w ∈ wsX1_compare, w ∈ lw_tbl := wi_a tioX1_compare (wi_a ti_wsX10 (wi_a ti_wsX1_none (wi_a ti_wsX1_kind (wi_a ti_wsX1_isNothing ti_wsX1_compareSizes))))
def owX1_neighbour : List Cond := [Cond.code yX1_neighbour cX1_neighbour 9 none, Cond.methodLink RX1 28 yX1_none, Cond.static yX1_none, Cond.initialized RX1, Cond.fieldLink RX1 24 "TemporaryRealsModel" "code" "I", Cond.fieldLink RX1 13 "TemporaryRealsModel" "top" "[I", Cond.constant RX1 36 (32768), Cond.fieldLink RX1 17 "TemporaryRealsModel" "fraction" "[J", Cond.methodLink RX1 39 yX1_kind, Cond.instanceMethod yX1_kind, Cond.selects RX1 yX1_kind yX1_kind, Cond.methodLink RX1 98 yX1_isNothing, Cond.instanceMethod yX1_isNothing, Cond.selects RX1 yX1_isNothing yX1_isNothing, Cond.constantLong RX1 37 (-9223372036854775808), Cond.constantLong RX1 53 (2)]
set_option maxRecDepth 20000 in
theorem aloX1_neighbour : owX1_neighbour.all goodWord = true := by decide +kernel
set_option maxRecDepth 20000 in
theorem tihX1_neighbour : Cond.code yX1_neighbour cX1_neighbour 9 none ∈ lw_tbl := List.mem_append_right _ (List.mem_of_getElem? (i := 456) rfl)
set_option maxRecDepth 20000 in
theorem tioX1_neighbour : ∀ w ∈ owX1_neighbour, w ∈ lw_tbl := List.forall_mem_cons.mpr ⟨tihX1_neighbour, by decide +kernel⟩
def wsX1_neighbour : List Cond := owX1_neighbour ++ (wsX10 ++ (wsX1_none ++ (wsX1_kind ++ (wsX1_isNothing))))
theorem al_wsX1_neighbour : wsX1_neighbour.all goodWord = true := wa_a aloX1_neighbour (wa_a al_wsX10 (wa_a al_wsX1_none (wa_a al_wsX1_kind al_wsX1_isNothing)))
theorem ti_wsX1_neighbour : ∀ w ∈ wsX1_neighbour, w ∈ lw_tbl := wi_a tioX1_neighbour (wi_a ti_wsX10 (wi_a ti_wsX1_none (wi_a ti_wsX1_kind ti_wsX1_isNothing)))
def owL_law : List Cond := [Cond.classLink RL 8 RX0, Cond.instantiable RX0 6, Cond.initialized RX0, Cond.methodLink RL 43 yX0_init, Cond.instanceMethod yX0_init, Cond.classLink RL 44 RX1, Cond.instantiable RX1 15, Cond.initialized RX1, Cond.methodLink RL 46 yX1_init, Cond.instanceMethod yX1_init, Cond.arrayClass .long, Cond.methodLink RL 47 yL_control, Cond.static yL_control, Cond.initialized RL, Cond.methodLink RL 52 yX1_control, Cond.instanceMethod yX1_control, Cond.selects RX1 yX1_control yX1_control, Cond.methodLink RL 53 yX1_thrown, Cond.instanceMethod yX1_thrown, Cond.selects RX1 yX1_thrown yX1_thrown, Cond.methodLink RL 57 yL_set, Cond.static yL_set, Cond.methodLink RL 60 yX1_set, Cond.instanceMethod yX1_set, Cond.selects RX1 yX1_set yX1_set, Cond.methodLink RL 61 yL_part, Cond.static yL_part, Cond.methodLink RL 64 yX1_part, Cond.instanceMethod yX1_part, Cond.selects RX1 yX1_part yX1_part, Cond.methodLink RL 65 yL_make, Cond.static yL_make, Cond.methodLink RL 68 yX1_make, Cond.instanceMethod yX1_make, Cond.selects RX1 yX1_make yX1_make, Cond.methodLink RL 69 yL_again, Cond.static yL_again, Cond.methodLink RL 71 yX1_again, Cond.instanceMethod yX1_again, Cond.selects RX1 yX1_again yX1_again, Cond.methodLink RL 72 yL_last, Cond.static yL_last, Cond.methodLink RL 75 yX1_last, Cond.instanceMethod yX1_last, Cond.selects RX1 yX1_last yX1_last, Cond.methodLink RL 76 yL_compare, Cond.static yL_compare, Cond.methodLink RL 78 yX1_compare, Cond.instanceMethod yX1_compare, Cond.selects RX1 yX1_compare yX1_compare, Cond.methodLink RL 79 yL_neighbour, Cond.static yL_neighbour, Cond.methodLink RL 82 yX1_neighbour, Cond.instanceMethod yX1_neighbour, Cond.selects RX1 yX1_neighbour yX1_neighbour]
set_option maxRecDepth 20000 in
theorem aloL_law : owL_law.all goodWord = true := by decide +kernel
set_option maxRecDepth 20000 in
theorem tioL_law : ∀ w ∈ owL_law, w ∈ lw_tbl := by decide +kernel
def wsL_law : List Cond := owL_law ++ (wsX00 ++ (wsX10 ++ (wsX0_init ++ (wsX1_init ++ (wsL_control ++ (wsX1_control ++ (wsX1_thrown ++ (wsL_set ++ (wsX1_set ++ (wsL_part ++ (wsX1_part ++ (wsL_make ++ (wsX1_make ++ (wsL_again ++ (wsX1_again ++ (wsL_last ++ (wsX1_last ++ (wsL_compare ++ (wsX1_compare ++ (wsL_neighbour ++ (wsX1_neighbour)))))))))))))))))))))
theorem al_wsL_law : wsL_law.all goodWord = true := wa_a aloL_law (wa_a al_wsX00 (wa_a al_wsX10 (wa_a al_wsX0_init (wa_a al_wsX1_init (wa_a al_wsL_control (wa_a al_wsX1_control (wa_a al_wsX1_thrown (wa_a al_wsL_set (wa_a al_wsX1_set (wa_a al_wsL_part (wa_a al_wsX1_part (wa_a al_wsL_make (wa_a al_wsX1_make (wa_a al_wsL_again (wa_a al_wsX1_again (wa_a al_wsL_last (wa_a al_wsX1_last (wa_a al_wsL_compare (wa_a al_wsX1_compare (wa_a al_wsL_neighbour al_wsX1_neighbour))))))))))))))))))))
theorem ti_wsL_law : ∀ w ∈ wsL_law, w ∈ lw_tbl := wi_a tioL_law (wi_a ti_wsX00 (wi_a ti_wsX10 (wi_a ti_wsX0_init (wi_a ti_wsX1_init (wi_a ti_wsL_control (wi_a ti_wsX1_control (wi_a ti_wsX1_thrown (wi_a ti_wsL_set (wi_a ti_wsX1_set (wi_a ti_wsL_part (wi_a ti_wsX1_part (wi_a ti_wsL_make (wi_a ti_wsX1_make (wi_a ti_wsL_again (wi_a ti_wsX1_again (wi_a ti_wsL_last (wi_a ti_wsX1_last (wi_a ti_wsL_compare (wi_a ti_wsX1_compare (wi_a ti_wsL_neighbour ti_wsX1_neighbour))))))))))))))))))))
end
section
theorem ggX0_control_X0_hasMoreThan16Bits : GoodIn wsX0_control wsX0_hasMoreThan16Bits := goodIn_sub (fun _ h => List.mem_append_right _ (List.mem_append_right _ (List.mem_append_right _ h))) al_wsX0_hasMoreThan16Bits
set_option maxRecDepth 20000 in
theorem gX0_control_X0_hasMoreThan16Bits : GoodIn wsX0_control (va_wsS RX0 23 yX0_hasMoreThan16Bits wsX0_hasMoreThan16Bits) := goodIn_app (goodIn_of _ (by decide +kernel)) ggX0_control_X0_hasMoreThan16Bits
theorem ggL_control_X0_control : GoodIn wsL_control wsX0_control := goodIn_sub (fun _ h => List.mem_append_right _ h) al_wsX0_control
set_option maxRecDepth 20000 in
theorem gL_control_X0_control : GoodIn wsL_control (wsV RL 7 RX0 yX0_control wsX0_control) := goodIn_app (goodIn_of _ (by decide +kernel)) ggL_control_X0_control
theorem ggX0_set_X0_isNoRegister : GoodIn wsX0_set wsX0_isNoRegister := goodIn_sub (fun _ h => List.mem_append_right _ (List.mem_append_right _ (List.mem_append_right _ (List.mem_append_right _ (List.mem_append_left _ h))))) al_wsX0_isNoRegister
set_option maxRecDepth 20000 in
theorem gX0_set_X0_isNoRegister : GoodIn wsX0_set (va_wsS RX0 34 yX0_isNoRegister wsX0_isNoRegister) := goodIn_app (goodIn_of _ (by decide +kernel)) ggX0_set_X0_isNoRegister
theorem ggX0_set_X0_hasMoreThan16Bits : GoodIn wsX0_set wsX0_hasMoreThan16Bits := goodIn_sub (fun _ h => List.mem_append_right _ (List.mem_append_right _ (List.mem_append_right _ (List.mem_append_right _ (List.mem_append_right _ (List.mem_append_left _ h)))))) al_wsX0_hasMoreThan16Bits
set_option maxRecDepth 20000 in
theorem gX0_set_X0_hasMoreThan16Bits : GoodIn wsX0_set (va_wsS RX0 23 yX0_hasMoreThan16Bits wsX0_hasMoreThan16Bits) := goodIn_app (goodIn_of _ (by decide +kernel)) ggX0_set_X0_hasMoreThan16Bits
theorem ggX0_set_X0_join : GoodIn wsX0_set wsX0_join := goodIn_sub (fun _ h => List.mem_append_right _ (List.mem_append_right _ (List.mem_append_right _ (List.mem_append_right _ (List.mem_append_right _ (List.mem_append_right _ h)))))) al_wsX0_join
set_option maxRecDepth 20000 in
theorem gX0_set_X0_join : GoodIn wsX0_set (va_wsS RX0 44 yX0_join wsX0_join) := goodIn_app (goodIn_of _ (by decide +kernel)) ggX0_set_X0_join
theorem ggL_set_X0_set : GoodIn wsL_set wsX0_set := goodIn_sub (fun _ h => List.mem_append_right _ h) al_wsX0_set
set_option maxRecDepth 20000 in
theorem gL_set_X0_set : GoodIn wsL_set (wsV RL 15 RX0 yX0_set wsX0_set) := goodIn_app (goodIn_of _ (by decide +kernel)) ggL_set_X0_set
theorem ggX0_kindOf_X0_powerOf : GoodIn wsX0_kindOf wsX0_powerOf := goodIn_sub (fun _ h => List.mem_append_right _ (List.mem_append_right _ h)) al_wsX0_powerOf
set_option maxRecDepth 20000 in
theorem gX0_kindOf_X0_powerOf : GoodIn wsX0_kindOf (wsV RX0 80 RX0 yX0_powerOf wsX0_powerOf) := goodIn_app (goodIn_of _ (by decide +kernel)) ggX0_kindOf_X0_powerOf
theorem ggJL_numberOfLeadingZeros_JI_numberOfLeadingZeros : GoodIn wsJL_numberOfLeadingZeros wsJI_numberOfLeadingZeros := goodIn_sub (fun _ h => List.mem_append_right _ h) al_wsJI_numberOfLeadingZeros
set_option maxRecDepth 20000 in
theorem gJL_numberOfLeadingZeros_JI_numberOfLeadingZeros : GoodIn wsJL_numberOfLeadingZeros (va_wsS RJL 308 yJI_numberOfLeadingZeros wsJI_numberOfLeadingZeros) := goodIn_app (goodIn_of _ (by decide +kernel)) ggJL_numberOfLeadingZeros_JI_numberOfLeadingZeros
theorem ggX0_part_X0_isNoRegister : GoodIn wsX0_part wsX0_isNoRegister := goodIn_sub (fun _ h => List.mem_append_right _ (List.mem_append_right _ (List.mem_append_right _ (List.mem_append_right _ (List.mem_append_left _ h))))) al_wsX0_isNoRegister
set_option maxRecDepth 20000 in
theorem gX0_part_X0_isNoRegister : GoodIn wsX0_part (va_wsS RX0 34 yX0_isNoRegister wsX0_isNoRegister) := goodIn_app (goodIn_of _ (by decide +kernel)) ggX0_part_X0_isNoRegister
theorem ggX0_part_X0_kindOf : GoodIn wsX0_part wsX0_kindOf := goodIn_sub (fun _ h => List.mem_append_right _ (List.mem_append_right _ (List.mem_append_right _ (List.mem_append_right _ (List.mem_append_right _ (List.mem_append_left _ h)))))) al_wsX0_kindOf
set_option maxRecDepth 20000 in
theorem gX0_part_X0_kindOf : GoodIn wsX0_part (wsV RX0 48 RX0 yX0_kindOf wsX0_kindOf) := goodIn_app (goodIn_of _ (by decide +kernel)) ggX0_part_X0_kindOf
theorem ggX0_part_JL_numberOfLeadingZeros : GoodIn wsX0_part wsJL_numberOfLeadingZeros := goodIn_sub (fun _ h => List.mem_append_right _ (List.mem_append_right _ (List.mem_append_right _ (List.mem_append_right _ (List.mem_append_right _ (List.mem_append_right _ h)))))) al_wsJL_numberOfLeadingZeros
set_option maxRecDepth 20000 in
theorem gX0_part_JL_numberOfLeadingZeros : GoodIn wsX0_part (va_wsS RX0 52 yJL_numberOfLeadingZeros wsJL_numberOfLeadingZeros) := goodIn_app (goodIn_of _ (by decide +kernel)) ggX0_part_JL_numberOfLeadingZeros
theorem ggL_part_X0_part : GoodIn wsL_part wsX0_part := goodIn_sub (fun _ h => List.mem_append_right _ h) al_wsX0_part
set_option maxRecDepth 20000 in
theorem gL_part_X0_part : GoodIn wsL_part (wsV RL 21 RX0 yX0_part wsX0_part) := goodIn_app (goodIn_of _ (by decide +kernel)) ggL_part_X0_part
theorem ggX0_goesAway_X0_rounding : GoodIn wsX0_goesAway wsX0_rounding := goodIn_sub (fun _ h => List.mem_append_right _ h) al_wsX0_rounding
set_option maxRecDepth 20000 in
theorem gX0_goesAway_X0_rounding : GoodIn wsX0_goesAway (wsV RX0 132 RX0 yX0_rounding wsX0_rounding) := goodIn_app (goodIn_of _ (by decide +kernel)) ggX0_goesAway_X0_rounding
theorem ggX0_takesAbove_X0_rounding : GoodIn wsX0_takesAbove wsX0_rounding := goodIn_sub (fun _ h => List.mem_append_right _ (List.mem_append_left _ h)) al_wsX0_rounding
set_option maxRecDepth 20000 in
theorem gX0_takesAbove_X0_rounding : GoodIn wsX0_takesAbove (wsV RX0 132 RX0 yX0_rounding wsX0_rounding) := goodIn_app (goodIn_of _ (by decide +kernel)) ggX0_takesAbove_X0_rounding
theorem ggX0_takesAbove_X0_goesAway : GoodIn wsX0_takesAbove wsX0_goesAway := goodIn_sub (fun _ h => List.mem_append_right _ (List.mem_append_right _ h)) al_wsX0_goesAway
set_option maxRecDepth 20000 in
theorem gX0_takesAbove_X0_goesAway : GoodIn wsX0_takesAbove (wsV RX0 136 RX0 yX0_goesAway wsX0_goesAway) := goodIn_app (goodIn_of _ (by decide +kernel)) ggX0_takesAbove_X0_goesAway
theorem ggX0_makeSmall_X0_digits : GoodIn wsX0_makeSmall wsX0_digits := goodIn_sub (fun _ h => List.mem_append_right _ (List.mem_append_left _ h)) al_wsX0_digits
set_option maxRecDepth 20000 in
theorem gX0_makeSmall_X0_digits : GoodIn wsX0_makeSmall (wsV RX0 149 RX0 yX0_digits wsX0_digits) := goodIn_app (goodIn_of _ (by decide +kernel)) ggX0_makeSmall_X0_digits
theorem ggX0_makeSmall_X0_wholePart : GoodIn wsX0_makeSmall wsX0_wholePart := goodIn_sub (fun _ h => List.mem_append_right _ (List.mem_append_right _ (List.mem_append_left _ h))) al_wsX0_wholePart
set_option maxRecDepth 20000 in
theorem gX0_makeSmall_X0_wholePart : GoodIn wsX0_makeSmall (va_wsS RX0 152 yX0_wholePart wsX0_wholePart) := goodIn_app (goodIn_of _ (by decide +kernel)) ggX0_makeSmall_X0_wholePart
theorem ggX0_makeSmall_X0_lostPart : GoodIn wsX0_makeSmall wsX0_lostPart := goodIn_sub (fun _ h => List.mem_append_right _ (List.mem_append_right _ (List.mem_append_right _ (List.mem_append_left _ h)))) al_wsX0_lostPart
set_option maxRecDepth 20000 in
theorem gX0_makeSmall_X0_lostPart : GoodIn wsX0_makeSmall (va_wsS RX0 156 yX0_lostPart wsX0_lostPart) := goodIn_app (goodIn_of _ (by decide +kernel)) ggX0_makeSmall_X0_lostPart
theorem ggX0_makeSmall_X0_takesAbove : GoodIn wsX0_makeSmall wsX0_takesAbove := goodIn_sub (fun _ h => List.mem_append_right _ (List.mem_append_right _ (List.mem_append_right _ (List.mem_append_right _ (List.mem_append_left _ h))))) al_wsX0_takesAbove
set_option maxRecDepth 20000 in
theorem gX0_makeSmall_X0_takesAbove : GoodIn wsX0_makeSmall (wsV RX0 159 RX0 yX0_takesAbove wsX0_takesAbove) := goodIn_app (goodIn_of _ (by decide +kernel)) ggX0_makeSmall_X0_takesAbove
theorem ggX0_makeSmall_X0_store : GoodIn wsX0_makeSmall wsX0_store := goodIn_sub (fun _ h => List.mem_append_right _ (List.mem_append_right _ (List.mem_append_right _ (List.mem_append_right _ (List.mem_append_right _ (List.mem_append_left _ h)))))) al_wsX0_store
set_option maxRecDepth 20000 in
theorem gX0_makeSmall_X0_store : GoodIn wsX0_makeSmall (wsV RX0 109 RX0 yX0_store wsX0_store) := goodIn_app (goodIn_of _ (by decide +kernel)) ggX0_makeSmall_X0_store
theorem ggX0_makeSmall_X0_changeOf : GoodIn wsX0_makeSmall wsX0_changeOf := goodIn_sub (fun _ h => List.mem_append_right _ (List.mem_append_right _ (List.mem_append_right _ (List.mem_append_right _ (List.mem_append_right _ (List.mem_append_right _ (List.mem_append_left _ h))))))) al_wsX0_changeOf
set_option maxRecDepth 20000 in
theorem gX0_makeSmall_X0_changeOf : GoodIn wsX0_makeSmall (va_wsS RX0 163 yX0_changeOf wsX0_changeOf) := goodIn_app (goodIn_of _ (by decide +kernel)) ggX0_makeSmall_X0_changeOf
theorem ggX0_makeSmall_X0_tell : GoodIn wsX0_makeSmall wsX0_tell := goodIn_sub (fun _ h => List.mem_append_right _ (List.mem_append_right _ (List.mem_append_right _ (List.mem_append_right _ (List.mem_append_right _ (List.mem_append_right _ (List.mem_append_right _ h))))))) al_wsX0_tell
set_option maxRecDepth 20000 in
theorem gX0_makeSmall_X0_tell : GoodIn wsX0_makeSmall (wsV RX0 76 RX0 yX0_tell wsX0_tell) := goodIn_app (goodIn_of _ (by decide +kernel)) ggX0_makeSmall_X0_tell
theorem ggX0_makeTooGreat_X0_rounding : GoodIn wsX0_makeTooGreat wsX0_rounding := goodIn_sub (fun _ h => List.mem_append_right _ (List.mem_append_left _ h)) al_wsX0_rounding
set_option maxRecDepth 20000 in
theorem gX0_makeTooGreat_X0_rounding : GoodIn wsX0_makeTooGreat (wsV RX0 132 RX0 yX0_rounding wsX0_rounding) := goodIn_app (goodIn_of _ (by decide +kernel)) ggX0_makeTooGreat_X0_rounding
theorem ggX0_makeTooGreat_X0_goesAway : GoodIn wsX0_makeTooGreat wsX0_goesAway := goodIn_sub (fun _ h => List.mem_append_right _ (List.mem_append_right _ (List.mem_append_left _ h))) al_wsX0_goesAway
set_option maxRecDepth 20000 in
theorem gX0_makeTooGreat_X0_goesAway : GoodIn wsX0_makeTooGreat (wsV RX0 136 RX0 yX0_goesAway wsX0_goesAway) := goodIn_app (goodIn_of _ (by decide +kernel)) ggX0_makeTooGreat_X0_goesAway
theorem ggX0_makeTooGreat_X0_store : GoodIn wsX0_makeTooGreat wsX0_store := goodIn_sub (fun _ h => List.mem_append_right _ (List.mem_append_right _ (List.mem_append_right _ (List.mem_append_left _ h)))) al_wsX0_store
set_option maxRecDepth 20000 in
theorem gX0_makeTooGreat_X0_store : GoodIn wsX0_makeTooGreat (wsV RX0 109 RX0 yX0_store wsX0_store) := goodIn_app (goodIn_of _ (by decide +kernel)) ggX0_makeTooGreat_X0_store
theorem ggX0_makeTooGreat_X0_tell : GoodIn wsX0_makeTooGreat wsX0_tell := goodIn_sub (fun _ h => List.mem_append_right _ (List.mem_append_right _ (List.mem_append_right _ (List.mem_append_right _ (List.mem_append_left _ h))))) al_wsX0_tell
set_option maxRecDepth 20000 in
theorem gX0_makeTooGreat_X0_tell : GoodIn wsX0_makeTooGreat (wsV RX0 76 RX0 yX0_tell wsX0_tell) := goodIn_app (goodIn_of _ (by decide +kernel)) ggX0_makeTooGreat_X0_tell
theorem ggX0_makeTooGreat_X0_digits : GoodIn wsX0_makeTooGreat wsX0_digits := goodIn_sub (fun _ h => List.mem_append_right _ (List.mem_append_right _ (List.mem_append_right _ (List.mem_append_right _ (List.mem_append_right _ h))))) al_wsX0_digits
set_option maxRecDepth 20000 in
theorem gX0_makeTooGreat_X0_digits : GoodIn wsX0_makeTooGreat (wsV RX0 149 RX0 yX0_digits wsX0_digits) := goodIn_app (goodIn_of _ (by decide +kernel)) ggX0_makeTooGreat_X0_digits
theorem ggX0_makeRounded_X0_digits : GoodIn wsX0_makeRounded wsX0_digits := goodIn_sub (fun _ h => List.mem_append_right _ (List.mem_append_left _ h)) al_wsX0_digits
set_option maxRecDepth 20000 in
theorem gX0_makeRounded_X0_digits : GoodIn wsX0_makeRounded (wsV RX0 149 RX0 yX0_digits wsX0_digits) := goodIn_app (goodIn_of _ (by decide +kernel)) ggX0_makeRounded_X0_digits
theorem ggX0_makeRounded_X0_wholePart : GoodIn wsX0_makeRounded wsX0_wholePart := goodIn_sub (fun _ h => List.mem_append_right _ (List.mem_append_right _ (List.mem_append_left _ h))) al_wsX0_wholePart
set_option maxRecDepth 20000 in
theorem gX0_makeRounded_X0_wholePart : GoodIn wsX0_makeRounded (va_wsS RX0 152 yX0_wholePart wsX0_wholePart) := goodIn_app (goodIn_of _ (by decide +kernel)) ggX0_makeRounded_X0_wholePart
theorem ggX0_makeRounded_X0_lostPart : GoodIn wsX0_makeRounded wsX0_lostPart := goodIn_sub (fun _ h => List.mem_append_right _ (List.mem_append_right _ (List.mem_append_right _ (List.mem_append_left _ h)))) al_wsX0_lostPart
set_option maxRecDepth 20000 in
theorem gX0_makeRounded_X0_lostPart : GoodIn wsX0_makeRounded (va_wsS RX0 156 yX0_lostPart wsX0_lostPart) := goodIn_app (goodIn_of _ (by decide +kernel)) ggX0_makeRounded_X0_lostPart
theorem ggX0_makeRounded_X0_takesAbove : GoodIn wsX0_makeRounded wsX0_takesAbove := goodIn_sub (fun _ h => List.mem_append_right _ (List.mem_append_right _ (List.mem_append_right _ (List.mem_append_right _ (List.mem_append_left _ h))))) al_wsX0_takesAbove
set_option maxRecDepth 20000 in
theorem gX0_makeRounded_X0_takesAbove : GoodIn wsX0_makeRounded (wsV RX0 159 RX0 yX0_takesAbove wsX0_takesAbove) := goodIn_app (goodIn_of _ (by decide +kernel)) ggX0_makeRounded_X0_takesAbove
theorem ggX0_makeRounded_X0_isMasked : GoodIn wsX0_makeRounded wsX0_isMasked := goodIn_sub (fun _ h => List.mem_append_right _ (List.mem_append_right _ (List.mem_append_right _ (List.mem_append_right _ (List.mem_append_right _ (List.mem_append_left _ h)))))) al_wsX0_isMasked
set_option maxRecDepth 20000 in
theorem gX0_makeRounded_X0_isMasked : GoodIn wsX0_makeRounded (wsV RX0 140 RX0 yX0_isMasked wsX0_isMasked) := goodIn_app (goodIn_of _ (by decide +kernel)) ggX0_makeRounded_X0_isMasked
theorem ggX0_makeRounded_X0_makeTooGreat : GoodIn wsX0_makeRounded wsX0_makeTooGreat := goodIn_sub (fun _ h => List.mem_append_right _ (List.mem_append_right _ (List.mem_append_right _ (List.mem_append_right _ (List.mem_append_right _ (List.mem_append_right _ (List.mem_append_left _ h))))))) al_wsX0_makeTooGreat
set_option maxRecDepth 20000 in
theorem gX0_makeRounded_X0_makeTooGreat : GoodIn wsX0_makeRounded (wsV RX0 167 RX0 yX0_makeTooGreat wsX0_makeTooGreat) := goodIn_app (goodIn_of _ (by decide +kernel)) ggX0_makeRounded_X0_makeTooGreat
theorem ggX0_makeRounded_X0_store : GoodIn wsX0_makeRounded wsX0_store := goodIn_sub (fun _ h => List.mem_append_right _ (List.mem_append_right _ (List.mem_append_right _ (List.mem_append_right _ (List.mem_append_right _ (List.mem_append_right _ (List.mem_append_right _ (List.mem_append_left _ h)))))))) al_wsX0_store
set_option maxRecDepth 20000 in
theorem gX0_makeRounded_X0_store : GoodIn wsX0_makeRounded (wsV RX0 109 RX0 yX0_store wsX0_store) := goodIn_app (goodIn_of _ (by decide +kernel)) ggX0_makeRounded_X0_store
theorem ggX0_makeRounded_X0_changeOf : GoodIn wsX0_makeRounded wsX0_changeOf := goodIn_sub (fun _ h => List.mem_append_right _ (List.mem_append_right _ (List.mem_append_right _ (List.mem_append_right _ (List.mem_append_right _ (List.mem_append_right _ (List.mem_append_right _ (List.mem_append_right _ (List.mem_append_left _ h))))))))) al_wsX0_changeOf
set_option maxRecDepth 20000 in
theorem gX0_makeRounded_X0_changeOf : GoodIn wsX0_makeRounded (va_wsS RX0 163 yX0_changeOf wsX0_changeOf) := goodIn_app (goodIn_of _ (by decide +kernel)) ggX0_makeRounded_X0_changeOf
theorem ggX0_makeRounded_X0_tell : GoodIn wsX0_makeRounded wsX0_tell := goodIn_sub (fun _ h => List.mem_append_right _ (List.mem_append_right _ (List.mem_append_right _ (List.mem_append_right _ (List.mem_append_right _ (List.mem_append_right _ (List.mem_append_right _ (List.mem_append_right _ (List.mem_append_right _ h))))))))) al_wsX0_tell
set_option maxRecDepth 20000 in
theorem gX0_makeRounded_X0_tell : GoodIn wsX0_makeRounded (wsV RX0 76 RX0 yX0_tell wsX0_tell) := goodIn_app (goodIn_of _ (by decide +kernel)) ggX0_makeRounded_X0_tell
theorem ggX0_makeSize_X0_store : GoodIn wsX0_makeSize wsX0_store := goodIn_sub (fun _ h => List.mem_append_right _ (List.mem_append_left _ h)) al_wsX0_store
set_option maxRecDepth 20000 in
theorem gX0_makeSize_X0_store : GoodIn wsX0_makeSize (wsV RX0 109 RX0 yX0_store wsX0_store) := goodIn_app (goodIn_of _ (by decide +kernel)) ggX0_makeSize_X0_store
theorem ggX0_makeSize_X0_tell : GoodIn wsX0_makeSize wsX0_tell := goodIn_sub (fun _ h => List.mem_append_right _ (List.mem_append_right _ (List.mem_append_left _ h))) al_wsX0_tell
set_option maxRecDepth 20000 in
theorem gX0_makeSize_X0_tell : GoodIn wsX0_makeSize (wsV RX0 76 RX0 yX0_tell wsX0_tell) := goodIn_app (goodIn_of _ (by decide +kernel)) ggX0_makeSize_X0_tell
theorem ggX0_makeSize_X0_isMasked : GoodIn wsX0_makeSize wsX0_isMasked := goodIn_sub (fun _ h => List.mem_append_right _ (List.mem_append_right _ (List.mem_append_right _ (List.mem_append_left _ h)))) al_wsX0_isMasked
set_option maxRecDepth 20000 in
theorem gX0_makeSize_X0_isMasked : GoodIn wsX0_makeSize (wsV RX0 140 RX0 yX0_isMasked wsX0_isMasked) := goodIn_app (goodIn_of _ (by decide +kernel)) ggX0_makeSize_X0_isMasked
theorem ggX0_makeSize_X0_makeSmall : GoodIn wsX0_makeSize wsX0_makeSmall := goodIn_sub (fun _ h => List.mem_append_right _ (List.mem_append_right _ (List.mem_append_right _ (List.mem_append_right _ (List.mem_append_left _ h))))) al_wsX0_makeSmall
set_option maxRecDepth 20000 in
theorem gX0_makeSize_X0_makeSmall : GoodIn wsX0_makeSize (wsV RX0 143 RX0 yX0_makeSmall wsX0_makeSmall) := goodIn_app (goodIn_of _ (by decide +kernel)) ggX0_makeSize_X0_makeSmall
theorem ggX0_makeSize_X0_makeRounded : GoodIn wsX0_makeSize wsX0_makeRounded := goodIn_sub (fun _ h => List.mem_append_right _ (List.mem_append_right _ (List.mem_append_right _ (List.mem_append_right _ (List.mem_append_right _ h))))) al_wsX0_makeRounded
set_option maxRecDepth 20000 in
theorem gX0_makeSize_X0_makeRounded : GoodIn wsX0_makeSize (wsV RX0 146 RX0 yX0_makeRounded wsX0_makeRounded) := goodIn_app (goodIn_of _ (by decide +kernel)) ggX0_makeSize_X0_makeRounded
theorem ggX0_make_X0_isNoRegister : GoodIn wsX0_make wsX0_isNoRegister := goodIn_sub (fun _ h => List.mem_append_right _ (List.mem_append_right _ (List.mem_append_right _ (List.mem_append_left _ h)))) al_wsX0_isNoRegister
set_option maxRecDepth 20000 in
theorem gX0_make_X0_isNoRegister : GoodIn wsX0_make (va_wsS RX0 34 yX0_isNoRegister wsX0_isNoRegister) := goodIn_app (goodIn_of _ (by decide +kernel)) ggX0_make_X0_isNoRegister
theorem ggX0_make_X0_join : GoodIn wsX0_make wsX0_join := goodIn_sub (fun _ h => List.mem_append_right _ (List.mem_append_right _ (List.mem_append_right _ (List.mem_append_right _ (List.mem_append_left _ h))))) al_wsX0_join
set_option maxRecDepth 20000 in
theorem gX0_make_X0_join : GoodIn wsX0_make (va_wsS RX0 44 yX0_join wsX0_join) := goodIn_app (goodIn_of _ (by decide +kernel)) ggX0_make_X0_join
theorem ggX0_make_JL_numberOfLeadingZeros : GoodIn wsX0_make wsJL_numberOfLeadingZeros := goodIn_sub (fun _ h => List.mem_append_right _ (List.mem_append_right _ (List.mem_append_right _ (List.mem_append_right _ (List.mem_append_right _ (List.mem_append_left _ h)))))) al_wsJL_numberOfLeadingZeros
set_option maxRecDepth 20000 in
theorem gX0_make_JL_numberOfLeadingZeros : GoodIn wsX0_make (va_wsS RX0 52 yJL_numberOfLeadingZeros wsJL_numberOfLeadingZeros) := goodIn_app (goodIn_of _ (by decide +kernel)) ggX0_make_JL_numberOfLeadingZeros
theorem ggX0_make_X0_shiftIn : GoodIn wsX0_make wsX0_shiftIn := goodIn_sub (fun _ h => List.mem_append_right _ (List.mem_append_right _ (List.mem_append_right _ (List.mem_append_right _ (List.mem_append_right _ (List.mem_append_right _ (List.mem_append_left _ h))))))) al_wsX0_shiftIn
set_option maxRecDepth 20000 in
theorem gX0_make_X0_shiftIn : GoodIn wsX0_make (va_wsS RX0 64 yX0_shiftIn wsX0_shiftIn) := goodIn_app (goodIn_of _ (by decide +kernel)) ggX0_make_X0_shiftIn
theorem ggX0_make_X0_makeSize : GoodIn wsX0_make wsX0_makeSize := goodIn_sub (fun _ h => List.mem_append_right _ (List.mem_append_right _ (List.mem_append_right _ (List.mem_append_right _ (List.mem_append_right _ (List.mem_append_right _ (List.mem_append_right _ h))))))) al_wsX0_makeSize
set_option maxRecDepth 20000 in
theorem gX0_make_X0_makeSize : GoodIn wsX0_make (wsV RX0 68 RX0 yX0_makeSize wsX0_makeSize) := goodIn_app (goodIn_of _ (by decide +kernel)) ggX0_make_X0_makeSize
theorem ggL_make_X0_make : GoodIn wsL_make wsX0_make := goodIn_sub (fun _ h => List.mem_append_right _ h) al_wsX0_make
set_option maxRecDepth 20000 in
theorem gL_make_X0_make : GoodIn wsL_make (wsV RL 25 RX0 yX0_make wsX0_make) := goodIn_app (goodIn_of _ (by decide +kernel)) ggL_make_X0_make
theorem ggX0_again_X0_isNoRegister : GoodIn wsX0_again wsX0_isNoRegister := goodIn_sub (fun _ h => List.mem_append_right _ (List.mem_append_right _ (List.mem_append_right _ (List.mem_append_left _ h)))) al_wsX0_isNoRegister
set_option maxRecDepth 20000 in
theorem gX0_again_X0_isNoRegister : GoodIn wsX0_again (va_wsS RX0 34 yX0_isNoRegister wsX0_isNoRegister) := goodIn_app (goodIn_of _ (by decide +kernel)) ggX0_again_X0_isNoRegister
theorem ggX0_again_X0_kindOf : GoodIn wsX0_again wsX0_kindOf := goodIn_sub (fun _ h => List.mem_append_right _ (List.mem_append_right _ (List.mem_append_right _ (List.mem_append_right _ (List.mem_append_left _ h))))) al_wsX0_kindOf
set_option maxRecDepth 20000 in
theorem gX0_again_X0_kindOf : GoodIn wsX0_again (wsV RX0 48 RX0 yX0_kindOf wsX0_kindOf) := goodIn_app (goodIn_of _ (by decide +kernel)) ggX0_again_X0_kindOf
theorem ggX0_again_X0_copy : GoodIn wsX0_again wsX0_copy := goodIn_sub (fun _ h => List.mem_append_right _ (List.mem_append_right _ (List.mem_append_right _ (List.mem_append_right _ (List.mem_append_right _ (List.mem_append_left _ h)))))) al_wsX0_copy
set_option maxRecDepth 20000 in
theorem gX0_again_X0_copy : GoodIn wsX0_again (wsV RX0 72 RX0 yX0_copy wsX0_copy) := goodIn_app (goodIn_of _ (by decide +kernel)) ggX0_again_X0_copy
theorem ggX0_again_X0_tell : GoodIn wsX0_again wsX0_tell := goodIn_sub (fun _ h => List.mem_append_right _ (List.mem_append_right _ (List.mem_append_right _ (List.mem_append_right _ (List.mem_append_right _ (List.mem_append_right _ (List.mem_append_left _ h))))))) al_wsX0_tell
set_option maxRecDepth 20000 in
theorem gX0_again_X0_tell : GoodIn wsX0_again (wsV RX0 76 RX0 yX0_tell wsX0_tell) := goodIn_app (goodIn_of _ (by decide +kernel)) ggX0_again_X0_tell
theorem ggX0_again_JL_numberOfLeadingZeros : GoodIn wsX0_again wsJL_numberOfLeadingZeros := goodIn_sub (fun _ h => List.mem_append_right _ (List.mem_append_right _ (List.mem_append_right _ (List.mem_append_right _ (List.mem_append_right _ (List.mem_append_right _ (List.mem_append_right _ (List.mem_append_left _ h)))))))) al_wsJL_numberOfLeadingZeros
set_option maxRecDepth 20000 in
theorem gX0_again_JL_numberOfLeadingZeros : GoodIn wsX0_again (va_wsS RX0 52 yJL_numberOfLeadingZeros wsJL_numberOfLeadingZeros) := goodIn_app (goodIn_of _ (by decide +kernel)) ggX0_again_JL_numberOfLeadingZeros
theorem ggX0_again_X0_powerOf : GoodIn wsX0_again wsX0_powerOf := goodIn_sub (fun _ h => List.mem_append_right _ (List.mem_append_right _ (List.mem_append_right _ (List.mem_append_right _ (List.mem_append_right _ (List.mem_append_right _ (List.mem_append_right _ (List.mem_append_right _ (List.mem_append_left _ h))))))))) al_wsX0_powerOf
set_option maxRecDepth 20000 in
theorem gX0_again_X0_powerOf : GoodIn wsX0_again (wsV RX0 80 RX0 yX0_powerOf wsX0_powerOf) := goodIn_app (goodIn_of _ (by decide +kernel)) ggX0_again_X0_powerOf
theorem ggX0_again_X0_isNegative : GoodIn wsX0_again wsX0_isNegative := goodIn_sub (fun _ h => List.mem_append_right _ (List.mem_append_right _ (List.mem_append_right _ (List.mem_append_right _ (List.mem_append_right _ (List.mem_append_right _ (List.mem_append_right _ (List.mem_append_right _ (List.mem_append_right _ (List.mem_append_left _ h)))))))))) al_wsX0_isNegative
set_option maxRecDepth 20000 in
theorem gX0_again_X0_isNegative : GoodIn wsX0_again (wsV RX0 89 RX0 yX0_isNegative wsX0_isNegative) := goodIn_app (goodIn_of _ (by decide +kernel)) ggX0_again_X0_isNegative
theorem ggX0_again_X0_shiftIn : GoodIn wsX0_again wsX0_shiftIn := goodIn_sub (fun _ h => List.mem_append_right _ (List.mem_append_right _ (List.mem_append_right _ (List.mem_append_right _ (List.mem_append_right _ (List.mem_append_right _ (List.mem_append_right _ (List.mem_append_right _ (List.mem_append_right _ (List.mem_append_right _ (List.mem_append_left _ h))))))))))) al_wsX0_shiftIn
set_option maxRecDepth 20000 in
theorem gX0_again_X0_shiftIn : GoodIn wsX0_again (va_wsS RX0 64 yX0_shiftIn wsX0_shiftIn) := goodIn_app (goodIn_of _ (by decide +kernel)) ggX0_again_X0_shiftIn
theorem ggX0_again_X0_makeSize : GoodIn wsX0_again wsX0_makeSize := goodIn_sub (fun _ h => List.mem_append_right _ (List.mem_append_right _ (List.mem_append_right _ (List.mem_append_right _ (List.mem_append_right _ (List.mem_append_right _ (List.mem_append_right _ (List.mem_append_right _ (List.mem_append_right _ (List.mem_append_right _ (List.mem_append_right _ h))))))))))) al_wsX0_makeSize
set_option maxRecDepth 20000 in
theorem gX0_again_X0_makeSize : GoodIn wsX0_again (wsV RX0 68 RX0 yX0_makeSize wsX0_makeSize) := goodIn_app (goodIn_of _ (by decide +kernel)) ggX0_again_X0_makeSize
theorem ggL_again_X0_again : GoodIn wsL_again wsX0_again := goodIn_sub (fun _ h => List.mem_append_right _ h) al_wsX0_again
set_option maxRecDepth 20000 in
theorem gL_again_X0_again : GoodIn wsL_again (wsV RL 29 RX0 yX0_again wsX0_again) := goodIn_app (goodIn_of _ (by decide +kernel)) ggL_again_X0_again
theorem ggL_last_X0_last : GoodIn wsL_last wsX0_last := goodIn_sub (fun _ h => List.mem_append_right _ h) al_wsX0_last
set_option maxRecDepth 20000 in
theorem gL_last_X0_last : GoodIn wsL_last (wsV RL 32 RX0 yX0_last wsX0_last) := goodIn_app (goodIn_of _ (by decide +kernel)) ggL_last_X0_last
theorem ggX0_signum_X0_kindOf : GoodIn wsX0_signum wsX0_kindOf := goodIn_sub (fun _ h => List.mem_append_right _ (List.mem_append_right _ (List.mem_append_left _ h))) al_wsX0_kindOf
set_option maxRecDepth 20000 in
theorem gX0_signum_X0_kindOf : GoodIn wsX0_signum (wsV RX0 48 RX0 yX0_kindOf wsX0_kindOf) := goodIn_app (goodIn_of _ (by decide +kernel)) ggX0_signum_X0_kindOf
theorem ggX0_signum_X0_isNegative : GoodIn wsX0_signum wsX0_isNegative := goodIn_sub (fun _ h => List.mem_append_right _ (List.mem_append_right _ (List.mem_append_right _ h))) al_wsX0_isNegative
set_option maxRecDepth 20000 in
theorem gX0_signum_X0_isNegative : GoodIn wsX0_signum (wsV RX0 89 RX0 yX0_isNegative wsX0_isNegative) := goodIn_app (goodIn_of _ (by decide +kernel)) ggX0_signum_X0_isNegative
theorem ggX0_plainShift_JL_numberOfLeadingZeros : GoodIn wsX0_plainShift wsJL_numberOfLeadingZeros := goodIn_sub (fun _ h => List.mem_append_right _ (List.mem_append_right _ (List.mem_append_left _ h))) al_wsJL_numberOfLeadingZeros
set_option maxRecDepth 20000 in
theorem gX0_plainShift_JL_numberOfLeadingZeros : GoodIn wsX0_plainShift (va_wsS RX0 52 yJL_numberOfLeadingZeros wsJL_numberOfLeadingZeros) := goodIn_app (goodIn_of _ (by decide +kernel)) ggX0_plainShift_JL_numberOfLeadingZeros
theorem ggX0_plainShift_X0_powerOf : GoodIn wsX0_plainShift wsX0_powerOf := goodIn_sub (fun _ h => List.mem_append_right _ (List.mem_append_right _ (List.mem_append_right _ h))) al_wsX0_powerOf
set_option maxRecDepth 20000 in
theorem gX0_plainShift_X0_powerOf : GoodIn wsX0_plainShift (wsV RX0 80 RX0 yX0_powerOf wsX0_powerOf) := goodIn_app (goodIn_of _ (by decide +kernel)) ggX0_plainShift_X0_powerOf
theorem ggX0_plainFraction_X0_powerOf : GoodIn wsX0_plainFraction wsX0_powerOf := goodIn_sub (fun _ h => List.mem_append_right _ (List.mem_append_right _ (List.mem_append_left _ h))) al_wsX0_powerOf
set_option maxRecDepth 20000 in
theorem gX0_plainFraction_X0_powerOf : GoodIn wsX0_plainFraction (wsV RX0 80 RX0 yX0_powerOf wsX0_powerOf) := goodIn_app (goodIn_of _ (by decide +kernel)) ggX0_plainFraction_X0_powerOf
theorem ggX0_plainFraction_X0_plainShift : GoodIn wsX0_plainFraction wsX0_plainShift := goodIn_sub (fun _ h => List.mem_append_right _ (List.mem_append_right _ (List.mem_append_right _ (List.mem_append_left _ h)))) al_wsX0_plainShift
set_option maxRecDepth 20000 in
theorem gX0_plainFraction_X0_plainShift : GoodIn wsX0_plainFraction (wsV RX0 183 RX0 yX0_plainShift wsX0_plainShift) := goodIn_app (goodIn_of _ (by decide +kernel)) ggX0_plainFraction_X0_plainShift
theorem ggX0_plainFraction_X0_shiftIn : GoodIn wsX0_plainFraction wsX0_shiftIn := goodIn_sub (fun _ h => List.mem_append_right _ (List.mem_append_right _ (List.mem_append_right _ (List.mem_append_right _ h)))) al_wsX0_shiftIn
set_option maxRecDepth 20000 in
theorem gX0_plainFraction_X0_shiftIn : GoodIn wsX0_plainFraction (va_wsS RX0 64 yX0_shiftIn wsX0_shiftIn) := goodIn_app (goodIn_of _ (by decide +kernel)) ggX0_plainFraction_X0_shiftIn
theorem ggX0_plainPower_X0_powerOf : GoodIn wsX0_plainPower wsX0_powerOf := goodIn_sub (fun _ h => List.mem_append_right _ (List.mem_append_left _ h)) al_wsX0_powerOf
set_option maxRecDepth 20000 in
theorem gX0_plainPower_X0_powerOf : GoodIn wsX0_plainPower (wsV RX0 80 RX0 yX0_powerOf wsX0_powerOf) := goodIn_app (goodIn_of _ (by decide +kernel)) ggX0_plainPower_X0_powerOf
theorem ggX0_plainPower_X0_plainFraction : GoodIn wsX0_plainPower wsX0_plainFraction := goodIn_sub (fun _ h => List.mem_append_right _ (List.mem_append_right _ (List.mem_append_left _ h))) al_wsX0_plainFraction
set_option maxRecDepth 20000 in
theorem gX0_plainPower_X0_plainFraction : GoodIn wsX0_plainPower (wsV RX0 116 RX0 yX0_plainFraction wsX0_plainFraction) := goodIn_app (goodIn_of _ (by decide +kernel)) ggX0_plainPower_X0_plainFraction
theorem ggX0_plainPower_X0_plainShift : GoodIn wsX0_plainPower wsX0_plainShift := goodIn_sub (fun _ h => List.mem_append_right _ (List.mem_append_right _ (List.mem_append_right _ h))) al_wsX0_plainShift
set_option maxRecDepth 20000 in
theorem gX0_plainPower_X0_plainShift : GoodIn wsX0_plainPower (wsV RX0 183 RX0 yX0_plainShift wsX0_plainShift) := goodIn_app (goodIn_of _ (by decide +kernel)) ggX0_plainPower_X0_plainShift
theorem ggJL_compareUnsigned_JL_compare : GoodIn wsJL_compareUnsigned wsJL_compare := goodIn_sub (fun _ h => List.mem_append_right _ h) al_wsJL_compare
set_option maxRecDepth 20000 in
theorem gJL_compareUnsigned_JL_compare : GoodIn wsJL_compareUnsigned (va_wsS RJL 302 yJL_compare wsJL_compare) := goodIn_app (goodIn_of _ (by decide +kernel)) ggJL_compareUnsigned_JL_compare
theorem ggX0_compareSizes_X0_plainPower : GoodIn wsX0_compareSizes wsX0_plainPower := goodIn_sub (fun _ h => List.mem_append_right _ (List.mem_append_left _ h)) al_wsX0_plainPower
set_option maxRecDepth 20000 in
theorem gX0_compareSizes_X0_plainPower : GoodIn wsX0_compareSizes (wsV RX0 113 RX0 yX0_plainPower wsX0_plainPower) := goodIn_app (goodIn_of _ (by decide +kernel)) ggX0_compareSizes_X0_plainPower
theorem ggX0_compareSizes_X0_plainFraction : GoodIn wsX0_compareSizes wsX0_plainFraction := goodIn_sub (fun _ h => List.mem_append_right _ (List.mem_append_right _ (List.mem_append_left _ h))) al_wsX0_plainFraction
set_option maxRecDepth 20000 in
theorem gX0_compareSizes_X0_plainFraction : GoodIn wsX0_compareSizes (wsV RX0 116 RX0 yX0_plainFraction wsX0_plainFraction) := goodIn_app (goodIn_of _ (by decide +kernel)) ggX0_compareSizes_X0_plainFraction
theorem ggX0_compareSizes_JL_compareUnsigned : GoodIn wsX0_compareSizes wsJL_compareUnsigned := goodIn_sub (fun _ h => List.mem_append_right _ (List.mem_append_right _ (List.mem_append_right _ (List.mem_append_left _ h)))) al_wsJL_compareUnsigned
set_option maxRecDepth 20000 in
theorem gX0_compareSizes_JL_compareUnsigned : GoodIn wsX0_compareSizes (va_wsS RX0 173 yJL_compareUnsigned wsJL_compareUnsigned) := goodIn_app (goodIn_of _ (by decide +kernel)) ggX0_compareSizes_JL_compareUnsigned
theorem ggX0_compareSizes_JI_signum : GoodIn wsX0_compareSizes wsJI_signum := goodIn_sub (fun _ h => List.mem_append_right _ (List.mem_append_right _ (List.mem_append_right _ (List.mem_append_right _ h)))) al_wsJI_signum
set_option maxRecDepth 20000 in
theorem gX0_compareSizes_JI_signum : GoodIn wsX0_compareSizes (va_wsS RX0 177 yJI_signum wsJI_signum) := goodIn_app (goodIn_of _ (by decide +kernel)) ggX0_compareSizes_JI_signum
theorem ggX0_compare_X0_isNoRegister : GoodIn wsX0_compare wsX0_isNoRegister := goodIn_sub (fun _ h => List.mem_append_right _ (List.mem_append_right _ (List.mem_append_left _ h))) al_wsX0_isNoRegister
set_option maxRecDepth 20000 in
theorem gX0_compare_X0_isNoRegister : GoodIn wsX0_compare (va_wsS RX0 34 yX0_isNoRegister wsX0_isNoRegister) := goodIn_app (goodIn_of _ (by decide +kernel)) ggX0_compare_X0_isNoRegister
theorem ggX0_compare_X0_kindOf : GoodIn wsX0_compare wsX0_kindOf := goodIn_sub (fun _ h => List.mem_append_right _ (List.mem_append_right _ (List.mem_append_right _ (List.mem_append_left _ h)))) al_wsX0_kindOf
set_option maxRecDepth 20000 in
theorem gX0_compare_X0_kindOf : GoodIn wsX0_compare (wsV RX0 48 RX0 yX0_kindOf wsX0_kindOf) := goodIn_app (goodIn_of _ (by decide +kernel)) ggX0_compare_X0_kindOf
theorem ggX0_compare_X0_signum : GoodIn wsX0_compare wsX0_signum := goodIn_sub (fun _ h => List.mem_append_right _ (List.mem_append_right _ (List.mem_append_right _ (List.mem_append_right _ (List.mem_append_left _ h))))) al_wsX0_signum
set_option maxRecDepth 20000 in
theorem gX0_compare_X0_signum : GoodIn wsX0_compare (wsV RX0 103 RX0 yX0_signum wsX0_signum) := goodIn_app (goodIn_of _ (by decide +kernel)) ggX0_compare_X0_signum
theorem ggX0_compare_X0_compareSizes : GoodIn wsX0_compare wsX0_compareSizes := goodIn_sub (fun _ h => List.mem_append_right _ (List.mem_append_right _ (List.mem_append_right _ (List.mem_append_right _ (List.mem_append_right _ h))))) al_wsX0_compareSizes
set_option maxRecDepth 20000 in
theorem gX0_compare_X0_compareSizes : GoodIn wsX0_compare (wsV RX0 106 RX0 yX0_compareSizes wsX0_compareSizes) := goodIn_app (goodIn_of _ (by decide +kernel)) ggX0_compare_X0_compareSizes
theorem ggL_compare_X0_compare : GoodIn wsL_compare wsX0_compare := goodIn_sub (fun _ h => List.mem_append_right _ h) al_wsX0_compare
set_option maxRecDepth 20000 in
theorem gL_compare_X0_compare : GoodIn wsL_compare (wsV RL 36 RX0 yX0_compare wsX0_compare) := goodIn_app (goodIn_of _ (by decide +kernel)) ggL_compare_X0_compare
theorem ggX0_storeNextGreater_X0_store : GoodIn wsX0_storeNextGreater wsX0_store := goodIn_sub (fun _ h => List.mem_append_right _ h) al_wsX0_store
set_option maxRecDepth 20000 in
theorem gX0_storeNextGreater_X0_store : GoodIn wsX0_storeNextGreater (wsV RX0 109 RX0 yX0_store wsX0_store) := goodIn_app (goodIn_of _ (by decide +kernel)) ggX0_storeNextGreater_X0_store
theorem ggX0_storeNextLesser_X0_store : GoodIn wsX0_storeNextLesser wsX0_store := goodIn_sub (fun _ h => List.mem_append_right _ h) al_wsX0_store
set_option maxRecDepth 20000 in
theorem gX0_storeNextLesser_X0_store : GoodIn wsX0_storeNextLesser (wsV RX0 109 RX0 yX0_store wsX0_store) := goodIn_app (goodIn_of _ (by decide +kernel)) ggX0_storeNextLesser_X0_store
theorem ggX0_neighbour_X0_isNoRegister : GoodIn wsX0_neighbour wsX0_isNoRegister := goodIn_sub (fun _ h => List.mem_append_right _ (List.mem_append_right _ (List.mem_append_left _ h))) al_wsX0_isNoRegister
set_option maxRecDepth 20000 in
theorem gX0_neighbour_X0_isNoRegister : GoodIn wsX0_neighbour (va_wsS RX0 34 yX0_isNoRegister wsX0_isNoRegister) := goodIn_app (goodIn_of _ (by decide +kernel)) ggX0_neighbour_X0_isNoRegister
theorem ggX0_neighbour_X0_kindOf : GoodIn wsX0_neighbour wsX0_kindOf := goodIn_sub (fun _ h => List.mem_append_right _ (List.mem_append_right _ (List.mem_append_right _ (List.mem_append_left _ h)))) al_wsX0_kindOf
set_option maxRecDepth 20000 in
theorem gX0_neighbour_X0_kindOf : GoodIn wsX0_neighbour (wsV RX0 48 RX0 yX0_kindOf wsX0_kindOf) := goodIn_app (goodIn_of _ (by decide +kernel)) ggX0_neighbour_X0_kindOf
theorem ggX0_neighbour_X0_isNegative : GoodIn wsX0_neighbour wsX0_isNegative := goodIn_sub (fun _ h => List.mem_append_right _ (List.mem_append_right _ (List.mem_append_right _ (List.mem_append_right _ (List.mem_append_left _ h))))) al_wsX0_isNegative
set_option maxRecDepth 20000 in
theorem gX0_neighbour_X0_isNegative : GoodIn wsX0_neighbour (wsV RX0 89 RX0 yX0_isNegative wsX0_isNegative) := goodIn_app (goodIn_of _ (by decide +kernel)) ggX0_neighbour_X0_isNegative
theorem ggX0_neighbour_X0_copy : GoodIn wsX0_neighbour wsX0_copy := goodIn_sub (fun _ h => List.mem_append_right _ (List.mem_append_right _ (List.mem_append_right _ (List.mem_append_right _ (List.mem_append_right _ (List.mem_append_left _ h)))))) al_wsX0_copy
set_option maxRecDepth 20000 in
theorem gX0_neighbour_X0_copy : GoodIn wsX0_neighbour (wsV RX0 72 RX0 yX0_copy wsX0_copy) := goodIn_app (goodIn_of _ (by decide +kernel)) ggX0_neighbour_X0_copy
theorem ggX0_neighbour_X0_signum : GoodIn wsX0_neighbour wsX0_signum := goodIn_sub (fun _ h => List.mem_append_right _ (List.mem_append_right _ (List.mem_append_right _ (List.mem_append_right _ (List.mem_append_right _ (List.mem_append_right _ (List.mem_append_left _ h))))))) al_wsX0_signum
set_option maxRecDepth 20000 in
theorem gX0_neighbour_X0_signum : GoodIn wsX0_neighbour (wsV RX0 103 RX0 yX0_signum wsX0_signum) := goodIn_app (goodIn_of _ (by decide +kernel)) ggX0_neighbour_X0_signum
theorem ggX0_neighbour_X0_store : GoodIn wsX0_neighbour wsX0_store := goodIn_sub (fun _ h => List.mem_append_right _ (List.mem_append_right _ (List.mem_append_right _ (List.mem_append_right _ (List.mem_append_right _ (List.mem_append_right _ (List.mem_append_right _ (List.mem_append_left _ h)))))))) al_wsX0_store
set_option maxRecDepth 20000 in
theorem gX0_neighbour_X0_store : GoodIn wsX0_neighbour (wsV RX0 109 RX0 yX0_store wsX0_store) := goodIn_app (goodIn_of _ (by decide +kernel)) ggX0_neighbour_X0_store
theorem ggX0_neighbour_X0_plainPower : GoodIn wsX0_neighbour wsX0_plainPower := goodIn_sub (fun _ h => List.mem_append_right _ (List.mem_append_right _ (List.mem_append_right _ (List.mem_append_right _ (List.mem_append_right _ (List.mem_append_right _ (List.mem_append_right _ (List.mem_append_right _ (List.mem_append_left _ h))))))))) al_wsX0_plainPower
set_option maxRecDepth 20000 in
theorem gX0_neighbour_X0_plainPower : GoodIn wsX0_neighbour (wsV RX0 113 RX0 yX0_plainPower wsX0_plainPower) := goodIn_app (goodIn_of _ (by decide +kernel)) ggX0_neighbour_X0_plainPower
theorem ggX0_neighbour_X0_plainFraction : GoodIn wsX0_neighbour wsX0_plainFraction := goodIn_sub (fun _ h => List.mem_append_right _ (List.mem_append_right _ (List.mem_append_right _ (List.mem_append_right _ (List.mem_append_right _ (List.mem_append_right _ (List.mem_append_right _ (List.mem_append_right _ (List.mem_append_right _ (List.mem_append_left _ h)))))))))) al_wsX0_plainFraction
set_option maxRecDepth 20000 in
theorem gX0_neighbour_X0_plainFraction : GoodIn wsX0_neighbour (wsV RX0 116 RX0 yX0_plainFraction wsX0_plainFraction) := goodIn_app (goodIn_of _ (by decide +kernel)) ggX0_neighbour_X0_plainFraction
theorem ggX0_neighbour_X0_storeNextGreater : GoodIn wsX0_neighbour wsX0_storeNextGreater := goodIn_sub (fun _ h => List.mem_append_right _ (List.mem_append_right _ (List.mem_append_right _ (List.mem_append_right _ (List.mem_append_right _ (List.mem_append_right _ (List.mem_append_right _ (List.mem_append_right _ (List.mem_append_right _ (List.mem_append_right _ (List.mem_append_left _ h))))))))))) al_wsX0_storeNextGreater
set_option maxRecDepth 20000 in
theorem gX0_neighbour_X0_storeNextGreater : GoodIn wsX0_neighbour (wsV RX0 120 RX0 yX0_storeNextGreater wsX0_storeNextGreater) := goodIn_app (goodIn_of _ (by decide +kernel)) ggX0_neighbour_X0_storeNextGreater
theorem ggX0_neighbour_X0_storeNextLesser : GoodIn wsX0_neighbour wsX0_storeNextLesser := goodIn_sub (fun _ h => List.mem_append_right _ (List.mem_append_right _ (List.mem_append_right _ (List.mem_append_right _ (List.mem_append_right _ (List.mem_append_right _ (List.mem_append_right _ (List.mem_append_right _ (List.mem_append_right _ (List.mem_append_right _ (List.mem_append_right _ h))))))))))) al_wsX0_storeNextLesser
set_option maxRecDepth 20000 in
theorem gX0_neighbour_X0_storeNextLesser : GoodIn wsX0_neighbour (wsV RX0 123 RX0 yX0_storeNextLesser wsX0_storeNextLesser) := goodIn_app (goodIn_of _ (by decide +kernel)) ggX0_neighbour_X0_storeNextLesser
theorem ggL_neighbour_X0_neighbour : GoodIn wsL_neighbour wsX0_neighbour := goodIn_sub (fun _ h => List.mem_append_right _ h) al_wsX0_neighbour
set_option maxRecDepth 20000 in
theorem gL_neighbour_X0_neighbour : GoodIn wsL_neighbour (wsV RL 39 RX0 yX0_neighbour wsX0_neighbour) := goodIn_app (goodIn_of _ (by decide +kernel)) ggL_neighbour_X0_neighbour
theorem ggX1_set_X1_none : GoodIn wsX1_set wsX1_none := goodIn_sub (fun _ h => List.mem_append_right _ (List.mem_append_right _ h)) al_wsX1_none
set_option maxRecDepth 20000 in
theorem gX1_set_X1_none : GoodIn wsX1_set (va_wsS RX1 28 yX1_none wsX1_none) := goodIn_app (goodIn_of _ (by decide +kernel)) ggX1_set_X1_none
theorem ggX1_part_X1_none : GoodIn wsX1_part wsX1_none := goodIn_sub (fun _ h => List.mem_append_right _ (List.mem_append_right _ (List.mem_append_left _ h))) al_wsX1_none
set_option maxRecDepth 20000 in
theorem gX1_part_X1_none : GoodIn wsX1_part (va_wsS RX1 28 yX1_none wsX1_none) := goodIn_app (goodIn_of _ (by decide +kernel)) ggX1_part_X1_none
theorem ggX1_part_X1_kind : GoodIn wsX1_part wsX1_kind := goodIn_sub (fun _ h => List.mem_append_right _ (List.mem_append_right _ (List.mem_append_right _ h))) al_wsX1_kind
set_option maxRecDepth 20000 in
theorem gX1_part_X1_kind : GoodIn wsX1_part (wsV RX1 39 RX1 yX1_kind wsX1_kind) := goodIn_app (goodIn_of _ (by decide +kernel)) ggX1_part_X1_kind
theorem ggX1_make0_X1_result : GoodIn wsX1_make0 wsX1_result := goodIn_sub (fun _ h => List.mem_append_right _ (List.mem_append_right _ (List.mem_append_left _ h))) al_wsX1_result
set_option maxRecDepth 20000 in
theorem gX1_make0_X1_result : GoodIn wsX1_make0 (wsV RX1 79 RX1 yX1_result wsX1_result) := goodIn_app (goodIn_of _ (by decide +kernel)) ggX1_make0_X1_result
theorem ggX1_make0_X1_round : GoodIn wsX1_make0 wsX1_round := goodIn_sub (fun _ h => List.mem_append_right _ (List.mem_append_right _ (List.mem_append_right _ h))) al_wsX1_round
set_option maxRecDepth 20000 in
theorem gX1_make0_X1_round : GoodIn wsX1_make0 (wsV RX1 83 RX1 yX1_round wsX1_round) := goodIn_app (goodIn_of _ (by decide +kernel)) ggX1_make0_X1_round
theorem ggX1_make_X1_none : GoodIn wsX1_make wsX1_none := goodIn_sub (fun _ h => List.mem_append_right _ (List.mem_append_right _ (List.mem_append_left _ h))) al_wsX1_none
set_option maxRecDepth 20000 in
theorem gX1_make_X1_none : GoodIn wsX1_make (va_wsS RX1 28 yX1_none wsX1_none) := goodIn_app (goodIn_of _ (by decide +kernel)) ggX1_make_X1_none
theorem ggX1_make_X1_make0 : GoodIn wsX1_make wsX1_make0 := goodIn_sub (fun _ h => List.mem_append_right _ (List.mem_append_right _ (List.mem_append_right _ (List.mem_append_left _ h)))) al_wsX1_make0
set_option maxRecDepth 20000 in
theorem gX1_make_X1_make0 : GoodIn wsX1_make (wsV RX1 89 RX1 yX1_make0 wsX1_make0) := goodIn_app (goodIn_of _ (by decide +kernel)) ggX1_make_X1_make0
theorem ggX1_make_X1_keep : GoodIn wsX1_make wsX1_keep := goodIn_sub (fun _ h => List.mem_append_right _ (List.mem_append_right _ (List.mem_append_right _ (List.mem_append_right _ h)))) al_wsX1_keep
set_option maxRecDepth 20000 in
theorem gX1_make_X1_keep : GoodIn wsX1_make (wsV RX1 92 RX1 yX1_keep wsX1_keep) := goodIn_app (goodIn_of _ (by decide +kernel)) ggX1_make_X1_keep
theorem ggX1_again_X1_none : GoodIn wsX1_again wsX1_none := goodIn_sub (fun _ h => List.mem_append_right _ (List.mem_append_right _ (List.mem_append_left _ h))) al_wsX1_none
set_option maxRecDepth 20000 in
theorem gX1_again_X1_none : GoodIn wsX1_again (va_wsS RX1 28 yX1_none wsX1_none) := goodIn_app (goodIn_of _ (by decide +kernel)) ggX1_again_X1_none
theorem ggX1_again_X1_kind : GoodIn wsX1_again wsX1_kind := goodIn_sub (fun _ h => List.mem_append_right _ (List.mem_append_right _ (List.mem_append_right _ (List.mem_append_left _ h)))) al_wsX1_kind
set_option maxRecDepth 20000 in
theorem gX1_again_X1_kind : GoodIn wsX1_again (wsV RX1 39 RX1 yX1_kind wsX1_kind) := goodIn_app (goodIn_of _ (by decide +kernel)) ggX1_again_X1_kind
theorem ggX1_again_X1_keep : GoodIn wsX1_again wsX1_keep := goodIn_sub (fun _ h => List.mem_append_right _ (List.mem_append_right _ (List.mem_append_right _ (List.mem_append_right _ (List.mem_append_left _ h))))) al_wsX1_keep
set_option maxRecDepth 20000 in
theorem gX1_again_X1_keep : GoodIn wsX1_again (wsV RX1 92 RX1 yX1_keep wsX1_keep) := goodIn_app (goodIn_of _ (by decide +kernel)) ggX1_again_X1_keep
theorem ggX1_again_X1_powerOf : GoodIn wsX1_again wsX1_powerOf := goodIn_sub (fun _ h => List.mem_append_right _ (List.mem_append_right _ (List.mem_append_right _ (List.mem_append_right _ (List.mem_append_right _ (List.mem_append_left _ h)))))) al_wsX1_powerOf
set_option maxRecDepth 20000 in
theorem gX1_again_X1_powerOf : GoodIn wsX1_again (wsV RX1 95 RX1 yX1_powerOf wsX1_powerOf) := goodIn_app (goodIn_of _ (by decide +kernel)) ggX1_again_X1_powerOf
theorem ggX1_again_X1_make0 : GoodIn wsX1_again wsX1_make0 := goodIn_sub (fun _ h => List.mem_append_right _ (List.mem_append_right _ (List.mem_append_right _ (List.mem_append_right _ (List.mem_append_right _ (List.mem_append_right _ h)))))) al_wsX1_make0
set_option maxRecDepth 20000 in
theorem gX1_again_X1_make0 : GoodIn wsX1_again (wsV RX1 89 RX1 yX1_make0 wsX1_make0) := goodIn_app (goodIn_of _ (by decide +kernel)) ggX1_again_X1_make0
theorem ggX1_isNothing_X1_kind : GoodIn wsX1_isNothing wsX1_kind := goodIn_sub (fun _ h => List.mem_append_right _ (List.mem_append_right _ h)) al_wsX1_kind
set_option maxRecDepth 20000 in
theorem gX1_isNothing_X1_kind : GoodIn wsX1_isNothing (wsV RX1 39 RX1 yX1_kind wsX1_kind) := goodIn_app (goodIn_of _ (by decide +kernel)) ggX1_isNothing_X1_kind
theorem ggX1_compareSizes_X1_kind : GoodIn wsX1_compareSizes wsX1_kind := goodIn_sub (fun _ h => List.mem_append_right _ (List.mem_append_right _ (List.mem_append_left _ h))) al_wsX1_kind
set_option maxRecDepth 20000 in
theorem gX1_compareSizes_X1_kind : GoodIn wsX1_compareSizes (wsV RX1 39 RX1 yX1_kind wsX1_kind) := goodIn_app (goodIn_of _ (by decide +kernel)) ggX1_compareSizes_X1_kind
theorem ggX1_compareSizes_X1_isNothing : GoodIn wsX1_compareSizes wsX1_isNothing := goodIn_sub (fun _ h => List.mem_append_right _ (List.mem_append_right _ (List.mem_append_right _ (List.mem_append_left _ h)))) al_wsX1_isNothing
set_option maxRecDepth 20000 in
theorem gX1_compareSizes_X1_isNothing : GoodIn wsX1_compareSizes (wsV RX1 98 RX1 yX1_isNothing wsX1_isNothing) := goodIn_app (goodIn_of _ (by decide +kernel)) ggX1_compareSizes_X1_isNothing
theorem ggX1_compareSizes_X1_powerOf : GoodIn wsX1_compareSizes wsX1_powerOf := goodIn_sub (fun _ h => List.mem_append_right _ (List.mem_append_right _ (List.mem_append_right _ (List.mem_append_right _ h)))) al_wsX1_powerOf
set_option maxRecDepth 20000 in
theorem gX1_compareSizes_X1_powerOf : GoodIn wsX1_compareSizes (wsV RX1 95 RX1 yX1_powerOf wsX1_powerOf) := goodIn_app (goodIn_of _ (by decide +kernel)) ggX1_compareSizes_X1_powerOf
theorem ggX1_compare_X1_none : GoodIn wsX1_compare wsX1_none := goodIn_sub (fun _ h => List.mem_append_right _ (List.mem_append_right _ (List.mem_append_left _ h))) al_wsX1_none
set_option maxRecDepth 20000 in
theorem gX1_compare_X1_none : GoodIn wsX1_compare (va_wsS RX1 28 yX1_none wsX1_none) := goodIn_app (goodIn_of _ (by decide +kernel)) ggX1_compare_X1_none
theorem ggX1_compare_X1_kind : GoodIn wsX1_compare wsX1_kind := goodIn_sub (fun _ h => List.mem_append_right _ (List.mem_append_right _ (List.mem_append_right _ (List.mem_append_left _ h)))) al_wsX1_kind
set_option maxRecDepth 20000 in
theorem gX1_compare_X1_kind : GoodIn wsX1_compare (wsV RX1 39 RX1 yX1_kind wsX1_kind) := goodIn_app (goodIn_of _ (by decide +kernel)) ggX1_compare_X1_kind
theorem ggX1_compare_X1_isNothing : GoodIn wsX1_compare wsX1_isNothing := goodIn_sub (fun _ h => List.mem_append_right _ (List.mem_append_right _ (List.mem_append_right _ (List.mem_append_right _ (List.mem_append_left _ h))))) al_wsX1_isNothing
set_option maxRecDepth 20000 in
theorem gX1_compare_X1_isNothing : GoodIn wsX1_compare (wsV RX1 98 RX1 yX1_isNothing wsX1_isNothing) := goodIn_app (goodIn_of _ (by decide +kernel)) ggX1_compare_X1_isNothing
theorem ggX1_compare_X1_compareSizes : GoodIn wsX1_compare wsX1_compareSizes := goodIn_sub (fun _ h => List.mem_append_right _ (List.mem_append_right _ (List.mem_append_right _ (List.mem_append_right _ (List.mem_append_right _ h))))) al_wsX1_compareSizes
set_option maxRecDepth 20000 in
theorem gX1_compare_X1_compareSizes : GoodIn wsX1_compare (wsV RX1 101 RX1 yX1_compareSizes wsX1_compareSizes) := goodIn_app (goodIn_of _ (by decide +kernel)) ggX1_compare_X1_compareSizes
theorem ggX1_neighbour_X1_none : GoodIn wsX1_neighbour wsX1_none := goodIn_sub (fun _ h => List.mem_append_right _ (List.mem_append_right _ (List.mem_append_left _ h))) al_wsX1_none
set_option maxRecDepth 20000 in
theorem gX1_neighbour_X1_none : GoodIn wsX1_neighbour (va_wsS RX1 28 yX1_none wsX1_none) := goodIn_app (goodIn_of _ (by decide +kernel)) ggX1_neighbour_X1_none
theorem ggX1_neighbour_X1_kind : GoodIn wsX1_neighbour wsX1_kind := goodIn_sub (fun _ h => List.mem_append_right _ (List.mem_append_right _ (List.mem_append_right _ (List.mem_append_left _ h)))) al_wsX1_kind
set_option maxRecDepth 20000 in
theorem gX1_neighbour_X1_kind : GoodIn wsX1_neighbour (wsV RX1 39 RX1 yX1_kind wsX1_kind) := goodIn_app (goodIn_of _ (by decide +kernel)) ggX1_neighbour_X1_kind
theorem ggX1_neighbour_X1_isNothing : GoodIn wsX1_neighbour wsX1_isNothing := goodIn_sub (fun _ h => List.mem_append_right _ (List.mem_append_right _ (List.mem_append_right _ (List.mem_append_right _ h)))) al_wsX1_isNothing
set_option maxRecDepth 20000 in
theorem gX1_neighbour_X1_isNothing : GoodIn wsX1_neighbour (wsV RX1 98 RX1 yX1_isNothing wsX1_isNothing) := goodIn_app (goodIn_of _ (by decide +kernel)) ggX1_neighbour_X1_isNothing
theorem ggL_law_X0_init : GoodIn wsL_law wsX0_init := goodIn_sub (fun _ h => List.mem_append_right _ (List.mem_append_right _ (List.mem_append_right _ (List.mem_append_left _ h)))) al_wsX0_init
theorem ggL_law_X1_init : GoodIn wsL_law wsX1_init := goodIn_sub (fun _ h => List.mem_append_right _ (List.mem_append_right _ (List.mem_append_right _ (List.mem_append_right _ (List.mem_append_left _ h))))) al_wsX1_init
theorem ggL_law_L_control : GoodIn wsL_law wsL_control := goodIn_sub (fun _ h => List.mem_append_right _ (List.mem_append_right _ (List.mem_append_right _ (List.mem_append_right _ (List.mem_append_right _ (List.mem_append_left _ h)))))) al_wsL_control
set_option maxRecDepth 20000 in
theorem gL_law_L_control : GoodIn wsL_law (va_wsS RL 47 yL_control wsL_control) := goodIn_app (goodIn_of _ (by decide +kernel)) ggL_law_L_control
theorem ggL_law_X1_control : GoodIn wsL_law wsX1_control := goodIn_sub (fun _ h => List.mem_append_right _ (List.mem_append_right _ (List.mem_append_right _ (List.mem_append_right _ (List.mem_append_right _ (List.mem_append_right _ (List.mem_append_left _ h))))))) al_wsX1_control
set_option maxRecDepth 20000 in
theorem gL_law_X1_control : GoodIn wsL_law (wsV RL 52 RX1 yX1_control wsX1_control) := goodIn_app (goodIn_of _ (by decide +kernel)) ggL_law_X1_control
theorem ggL_law_X1_thrown : GoodIn wsL_law wsX1_thrown := goodIn_sub (fun _ h => List.mem_append_right _ (List.mem_append_right _ (List.mem_append_right _ (List.mem_append_right _ (List.mem_append_right _ (List.mem_append_right _ (List.mem_append_right _ (List.mem_append_left _ h)))))))) al_wsX1_thrown
set_option maxRecDepth 20000 in
theorem gL_law_X1_thrown : GoodIn wsL_law (wsV RL 53 RX1 yX1_thrown wsX1_thrown) := goodIn_app (goodIn_of _ (by decide +kernel)) ggL_law_X1_thrown
theorem ggL_law_L_set : GoodIn wsL_law wsL_set := goodIn_sub (fun _ h => List.mem_append_right _ (List.mem_append_right _ (List.mem_append_right _ (List.mem_append_right _ (List.mem_append_right _ (List.mem_append_right _ (List.mem_append_right _ (List.mem_append_right _ (List.mem_append_left _ h))))))))) al_wsL_set
set_option maxRecDepth 20000 in
theorem gL_law_L_set : GoodIn wsL_law (va_wsS RL 57 yL_set wsL_set) := goodIn_app (goodIn_of _ (by decide +kernel)) ggL_law_L_set
theorem ggL_law_X1_set : GoodIn wsL_law wsX1_set := goodIn_sub (fun _ h => List.mem_append_right _ (List.mem_append_right _ (List.mem_append_right _ (List.mem_append_right _ (List.mem_append_right _ (List.mem_append_right _ (List.mem_append_right _ (List.mem_append_right _ (List.mem_append_right _ (List.mem_append_left _ h)))))))))) al_wsX1_set
set_option maxRecDepth 20000 in
theorem gL_law_X1_set : GoodIn wsL_law (wsV RL 60 RX1 yX1_set wsX1_set) := goodIn_app (goodIn_of _ (by decide +kernel)) ggL_law_X1_set
theorem ggL_law_L_part : GoodIn wsL_law wsL_part := goodIn_sub (fun _ h => List.mem_append_right _ (List.mem_append_right _ (List.mem_append_right _ (List.mem_append_right _ (List.mem_append_right _ (List.mem_append_right _ (List.mem_append_right _ (List.mem_append_right _ (List.mem_append_right _ (List.mem_append_right _ (List.mem_append_left _ h))))))))))) al_wsL_part
set_option maxRecDepth 20000 in
theorem gL_law_L_part : GoodIn wsL_law (va_wsS RL 61 yL_part wsL_part) := goodIn_app (goodIn_of _ (by decide +kernel)) ggL_law_L_part
theorem ggL_law_X1_part : GoodIn wsL_law wsX1_part := goodIn_sub (fun _ h => List.mem_append_right _ (List.mem_append_right _ (List.mem_append_right _ (List.mem_append_right _ (List.mem_append_right _ (List.mem_append_right _ (List.mem_append_right _ (List.mem_append_right _ (List.mem_append_right _ (List.mem_append_right _ (List.mem_append_right _ (List.mem_append_left _ h)))))))))))) al_wsX1_part
set_option maxRecDepth 20000 in
theorem gL_law_X1_part : GoodIn wsL_law (wsV RL 64 RX1 yX1_part wsX1_part) := goodIn_app (goodIn_of _ (by decide +kernel)) ggL_law_X1_part
theorem ggL_law_L_make : GoodIn wsL_law wsL_make := goodIn_sub (fun _ h => List.mem_append_right _ (List.mem_append_right _ (List.mem_append_right _ (List.mem_append_right _ (List.mem_append_right _ (List.mem_append_right _ (List.mem_append_right _ (List.mem_append_right _ (List.mem_append_right _ (List.mem_append_right _ (List.mem_append_right _ (List.mem_append_right _ (List.mem_append_left _ h))))))))))))) al_wsL_make
set_option maxRecDepth 20000 in
theorem gL_law_L_make : GoodIn wsL_law (va_wsS RL 65 yL_make wsL_make) := goodIn_app (goodIn_of _ (by decide +kernel)) ggL_law_L_make
theorem ggL_law_X1_make : GoodIn wsL_law wsX1_make := goodIn_sub (fun _ h => List.mem_append_right _ (List.mem_append_right _ (List.mem_append_right _ (List.mem_append_right _ (List.mem_append_right _ (List.mem_append_right _ (List.mem_append_right _ (List.mem_append_right _ (List.mem_append_right _ (List.mem_append_right _ (List.mem_append_right _ (List.mem_append_right _ (List.mem_append_right _ (List.mem_append_left _ h)))))))))))))) al_wsX1_make
set_option maxRecDepth 20000 in
theorem gL_law_X1_make : GoodIn wsL_law (wsV RL 68 RX1 yX1_make wsX1_make) := goodIn_app (goodIn_of _ (by decide +kernel)) ggL_law_X1_make
theorem ggL_law_L_again : GoodIn wsL_law wsL_again := goodIn_sub (fun _ h => List.mem_append_right _ (List.mem_append_right _ (List.mem_append_right _ (List.mem_append_right _ (List.mem_append_right _ (List.mem_append_right _ (List.mem_append_right _ (List.mem_append_right _ (List.mem_append_right _ (List.mem_append_right _ (List.mem_append_right _ (List.mem_append_right _ (List.mem_append_right _ (List.mem_append_right _ (List.mem_append_left _ h))))))))))))))) al_wsL_again
set_option maxRecDepth 20000 in
theorem gL_law_L_again : GoodIn wsL_law (va_wsS RL 69 yL_again wsL_again) := goodIn_app (goodIn_of _ (by decide +kernel)) ggL_law_L_again
theorem ggL_law_X1_again : GoodIn wsL_law wsX1_again := goodIn_sub (fun _ h => List.mem_append_right _ (List.mem_append_right _ (List.mem_append_right _ (List.mem_append_right _ (List.mem_append_right _ (List.mem_append_right _ (List.mem_append_right _ (List.mem_append_right _ (List.mem_append_right _ (List.mem_append_right _ (List.mem_append_right _ (List.mem_append_right _ (List.mem_append_right _ (List.mem_append_right _ (List.mem_append_right _ (List.mem_append_left _ h)))))))))))))))) al_wsX1_again
set_option maxRecDepth 20000 in
theorem gL_law_X1_again : GoodIn wsL_law (wsV RL 71 RX1 yX1_again wsX1_again) := goodIn_app (goodIn_of _ (by decide +kernel)) ggL_law_X1_again
theorem ggL_law_L_last : GoodIn wsL_law wsL_last := goodIn_sub (fun _ h => List.mem_append_right _ (List.mem_append_right _ (List.mem_append_right _ (List.mem_append_right _ (List.mem_append_right _ (List.mem_append_right _ (List.mem_append_right _ (List.mem_append_right _ (List.mem_append_right _ (List.mem_append_right _ (List.mem_append_right _ (List.mem_append_right _ (List.mem_append_right _ (List.mem_append_right _ (List.mem_append_right _ (List.mem_append_right _ (List.mem_append_left _ h))))))))))))))))) al_wsL_last
set_option maxRecDepth 20000 in
theorem gL_law_L_last : GoodIn wsL_law (va_wsS RL 72 yL_last wsL_last) := goodIn_app (goodIn_of _ (by decide +kernel)) ggL_law_L_last
theorem ggL_law_X1_last : GoodIn wsL_law wsX1_last := goodIn_sub (fun _ h => List.mem_append_right _ (List.mem_append_right _ (List.mem_append_right _ (List.mem_append_right _ (List.mem_append_right _ (List.mem_append_right _ (List.mem_append_right _ (List.mem_append_right _ (List.mem_append_right _ (List.mem_append_right _ (List.mem_append_right _ (List.mem_append_right _ (List.mem_append_right _ (List.mem_append_right _ (List.mem_append_right _ (List.mem_append_right _ (List.mem_append_right _ (List.mem_append_left _ h)))))))))))))))))) al_wsX1_last
set_option maxRecDepth 20000 in
theorem gL_law_X1_last : GoodIn wsL_law (wsV RL 75 RX1 yX1_last wsX1_last) := goodIn_app (goodIn_of _ (by decide +kernel)) ggL_law_X1_last
theorem ggL_law_L_compare : GoodIn wsL_law wsL_compare := goodIn_sub (fun _ h => List.mem_append_right _ (List.mem_append_right _ (List.mem_append_right _ (List.mem_append_right _ (List.mem_append_right _ (List.mem_append_right _ (List.mem_append_right _ (List.mem_append_right _ (List.mem_append_right _ (List.mem_append_right _ (List.mem_append_right _ (List.mem_append_right _ (List.mem_append_right _ (List.mem_append_right _ (List.mem_append_right _ (List.mem_append_right _ (List.mem_append_right _ (List.mem_append_right _ (List.mem_append_left _ h))))))))))))))))))) al_wsL_compare
set_option maxRecDepth 20000 in
theorem gL_law_L_compare : GoodIn wsL_law (va_wsS RL 76 yL_compare wsL_compare) := goodIn_app (goodIn_of _ (by decide +kernel)) ggL_law_L_compare
theorem ggL_law_X1_compare : GoodIn wsL_law wsX1_compare := goodIn_sub (fun _ h => List.mem_append_right _ (List.mem_append_right _ (List.mem_append_right _ (List.mem_append_right _ (List.mem_append_right _ (List.mem_append_right _ (List.mem_append_right _ (List.mem_append_right _ (List.mem_append_right _ (List.mem_append_right _ (List.mem_append_right _ (List.mem_append_right _ (List.mem_append_right _ (List.mem_append_right _ (List.mem_append_right _ (List.mem_append_right _ (List.mem_append_right _ (List.mem_append_right _ (List.mem_append_right _ (List.mem_append_left _ h)))))))))))))))))))) al_wsX1_compare
set_option maxRecDepth 20000 in
theorem gL_law_X1_compare : GoodIn wsL_law (wsV RL 78 RX1 yX1_compare wsX1_compare) := goodIn_app (goodIn_of _ (by decide +kernel)) ggL_law_X1_compare
theorem ggL_law_L_neighbour : GoodIn wsL_law wsL_neighbour := goodIn_sub (fun _ h => List.mem_append_right _ (List.mem_append_right _ (List.mem_append_right _ (List.mem_append_right _ (List.mem_append_right _ (List.mem_append_right _ (List.mem_append_right _ (List.mem_append_right _ (List.mem_append_right _ (List.mem_append_right _ (List.mem_append_right _ (List.mem_append_right _ (List.mem_append_right _ (List.mem_append_right _ (List.mem_append_right _ (List.mem_append_right _ (List.mem_append_right _ (List.mem_append_right _ (List.mem_append_right _ (List.mem_append_right _ (List.mem_append_left _ h))))))))))))))))))))) al_wsL_neighbour
set_option maxRecDepth 20000 in
theorem gL_law_L_neighbour : GoodIn wsL_law (va_wsS RL 79 yL_neighbour wsL_neighbour) := goodIn_app (goodIn_of _ (by decide +kernel)) ggL_law_L_neighbour
theorem ggL_law_X1_neighbour : GoodIn wsL_law wsX1_neighbour := goodIn_sub (fun _ h => List.mem_append_right _ (List.mem_append_right _ (List.mem_append_right _ (List.mem_append_right _ (List.mem_append_right _ (List.mem_append_right _ (List.mem_append_right _ (List.mem_append_right _ (List.mem_append_right _ (List.mem_append_right _ (List.mem_append_right _ (List.mem_append_right _ (List.mem_append_right _ (List.mem_append_right _ (List.mem_append_right _ (List.mem_append_right _ (List.mem_append_right _ (List.mem_append_right _ (List.mem_append_right _ (List.mem_append_right _ (List.mem_append_right _ h))))))))))))))))))))) al_wsX1_neighbour
set_option maxRecDepth 20000 in
theorem gL_law_X1_neighbour : GoodIn wsL_law (wsV RL 82 RX1 yX1_neighbour wsX1_neighbour) := goodIn_app (goodIn_of _ (by decide +kernel)) ggL_law_X1_neighbour
theorem wsL_law_in : ∀ w ∈ wsL_law, w ∈ lw_tbl := ti_wsL_law
end
section
theorem dX0_init_0 : decode cX0_init 0 = .ok (.aload_n 0, 1) := by decide +kernel
theorem dX0_init_1 : decode cX0_init 1 = .ok (.invokespecial 3, 3) := by decide +kernel
theorem dX0_init_4 : decode cX0_init 4 = .ok (.aload_n 0, 1) := by decide +kernel
theorem dX0_init_5 : decode cX0_init 5 = .ok (.bipush 8, 2) := by decide +kernel
theorem dX0_init_7 : decode cX0_init 7 = .ok (.newarray .int, 2) := by decide +kernel
theorem dX0_init_9 : decode cX0_init 9 = .ok (.putfield 11, 3) := by decide +kernel
theorem dX0_init_12 : decode cX0_init 12 = .ok (.aload_n 0, 1) := by decide +kernel
theorem dX0_init_13 : decode cX0_init 13 = .ok (.bipush 8, 2) := by decide +kernel
theorem dX0_init_15 : decode cX0_init 15 = .ok (.newarray .long, 2) := by decide +kernel
theorem dX0_init_17 : decode cX0_init 17 = .ok (.putfield 15, 3) := by decide +kernel
theorem dX0_init_20 : decode cX0_init 20 = .ok (.aload_n 0, 1) := by decide +kernel
theorem dX0_init_21 : decode cX0_init 21 = .ok (.sipush 1023, 3) := by decide +kernel
theorem dX0_init_24 : decode cX0_init 24 = .ok (.putfield 19, 3) := by decide +kernel
theorem dX0_init_27 : decode cX0_init 27 = .ok (.return_, 1) := by decide +kernel
theorem dX0_control_0 : decode cX0_control 0 = .ok (.iload_n 1, 1) := by decide +kernel
theorem dX0_control_1 : decode cX0_control 1 = .ok (.invokestatic 23, 3) := by decide +kernel
theorem dX0_control_4 : decode cX0_control 4 = .ok (.ifCond .eq 13, 3) := by decide +kernel
theorem dX0_control_7 : decode cX0_control 7 = .ok (.new 27, 3) := by decide +kernel
theorem dX0_control_10 : decode cX0_control 10 = .ok (.dup, 1) := by decide +kernel
theorem dX0_control_11 : decode cX0_control 11 = .ok (.ldc 29, 2) := by decide +kernel
theorem dX0_control_13 : decode cX0_control 13 = .ok (.invokespecial 31, 3) := by decide +kernel
theorem dX0_control_16 : decode cX0_control 16 = .ok (.athrow, 1) := by decide +kernel
theorem dX0_control_17 : decode cX0_control 17 = .ok (.aload_n 0, 1) := by decide +kernel
theorem dX0_control_18 : decode cX0_control 18 = .ok (.iload_n 1, 1) := by decide +kernel
theorem dX0_control_19 : decode cX0_control 19 = .ok (.putfield 19, 3) := by decide +kernel
theorem dX0_control_22 : decode cX0_control 22 = .ok (.return_, 1) := by decide +kernel
theorem dX0_hasMoreThan16Bits_0 : decode cX0_hasMoreThan16Bits 0 = .ok (.iload_n 0, 1) := by decide +kernel
theorem dX0_hasMoreThan16Bits_1 : decode cX0_hasMoreThan16Bits 1 = .ok (.ifCond .lt 9, 3) := by decide +kernel
theorem dX0_hasMoreThan16Bits_4 : decode cX0_hasMoreThan16Bits 4 = .ok (.iload_n 0, 1) := by decide +kernel
theorem dX0_hasMoreThan16Bits_5 : decode cX0_hasMoreThan16Bits 5 = .ok (.ldc 126, 2) := by decide +kernel
theorem dX0_hasMoreThan16Bits_7 : decode cX0_hasMoreThan16Bits 7 = .ok (.if_icmp .le 7, 3) := by decide +kernel
theorem dX0_hasMoreThan16Bits_10 : decode cX0_hasMoreThan16Bits 10 = .ok (.iconst 1, 1) := by decide +kernel
theorem dX0_hasMoreThan16Bits_11 : decode cX0_hasMoreThan16Bits 11 = .ok (.goto 4, 3) := by decide +kernel
theorem dX0_hasMoreThan16Bits_14 : decode cX0_hasMoreThan16Bits 14 = .ok (.iconst 0, 1) := by decide +kernel
theorem dX0_hasMoreThan16Bits_15 : decode cX0_hasMoreThan16Bits 15 = .ok (.ireturn, 1) := by decide +kernel
theorem dX0_set_0 : decode cX0_set 0 = .ok (.iload_n 1, 1) := by decide +kernel
theorem dX0_set_1 : decode cX0_set 1 = .ok (.invokestatic 34, 3) := by decide +kernel
theorem dX0_set_4 : decode cX0_set 4 = .ok (.ifCond .eq 13, 3) := by decide +kernel
theorem dX0_set_7 : decode cX0_set 7 = .ok (.new 37, 3) := by decide +kernel
theorem dX0_set_10 : decode cX0_set 10 = .ok (.dup, 1) := by decide +kernel
theorem dX0_set_11 : decode cX0_set 11 = .ok (.ldc 39, 2) := by decide +kernel
theorem dX0_set_13 : decode cX0_set 13 = .ok (.invokespecial 41, 3) := by decide +kernel
theorem dX0_set_16 : decode cX0_set 16 = .ok (.athrow, 1) := by decide +kernel
theorem dX0_set_17 : decode cX0_set 17 = .ok (.iload_n 2, 1) := by decide +kernel
theorem dX0_set_18 : decode cX0_set 18 = .ok (.invokestatic 23, 3) := by decide +kernel
theorem dX0_set_21 : decode cX0_set 21 = .ok (.ifCond .eq 13, 3) := by decide +kernel
theorem dX0_set_24 : decode cX0_set 24 = .ok (.new 27, 3) := by decide +kernel
theorem dX0_set_27 : decode cX0_set 27 = .ok (.dup, 1) := by decide +kernel
theorem dX0_set_28 : decode cX0_set 28 = .ok (.ldc 42, 2) := by decide +kernel
theorem dX0_set_30 : decode cX0_set 30 = .ok (.invokespecial 31, 3) := by decide +kernel
theorem dX0_set_33 : decode cX0_set 33 = .ok (.athrow, 1) := by decide +kernel
theorem dX0_set_34 : decode cX0_set 34 = .ok (.aload_n 0, 1) := by decide +kernel
theorem dX0_set_35 : decode cX0_set 35 = .ok (.getfield 11, 3) := by decide +kernel
theorem dX0_set_38 : decode cX0_set 38 = .ok (.iload_n 1, 1) := by decide +kernel
theorem dX0_set_39 : decode cX0_set 39 = .ok (.iload_n 2, 1) := by decide +kernel
theorem dX0_set_40 : decode cX0_set 40 = .ok (.iastore, 1) := by decide +kernel
theorem dX0_set_41 : decode cX0_set 41 = .ok (.aload_n 0, 1) := by decide +kernel
theorem dX0_set_42 : decode cX0_set 42 = .ok (.getfield 15, 3) := by decide +kernel
theorem dX0_set_45 : decode cX0_set 45 = .ok (.iload_n 1, 1) := by decide +kernel
theorem dX0_set_46 : decode cX0_set 46 = .ok (.iload_n 3, 1) := by decide +kernel
theorem dX0_set_47 : decode cX0_set 47 = .ok (.iload 4, 2) := by decide +kernel
theorem dX0_set_49 : decode cX0_set 49 = .ok (.invokestatic 44, 3) := by decide +kernel
theorem dX0_set_52 : decode cX0_set 52 = .ok (.lastore, 1) := by decide +kernel
theorem dX0_set_53 : decode cX0_set 53 = .ok (.return_, 1) := by decide +kernel
theorem dX0_isNoRegister_0 : decode cX0_isNoRegister 0 = .ok (.iload_n 0, 1) := by decide +kernel
theorem dX0_isNoRegister_1 : decode cX0_isNoRegister 1 = .ok (.ifCond .lt 9, 3) := by decide +kernel
theorem dX0_isNoRegister_4 : decode cX0_isNoRegister 4 = .ok (.iload_n 0, 1) := by decide +kernel
theorem dX0_isNoRegister_5 : decode cX0_isNoRegister 5 = .ok (.bipush 8, 2) := by decide +kernel
theorem dX0_isNoRegister_7 : decode cX0_isNoRegister 7 = .ok (.if_icmp .lt 7, 3) := by decide +kernel
theorem dX0_isNoRegister_10 : decode cX0_isNoRegister 10 = .ok (.iconst 1, 1) := by decide +kernel
theorem dX0_isNoRegister_11 : decode cX0_isNoRegister 11 = .ok (.goto 4, 3) := by decide +kernel
theorem dX0_isNoRegister_14 : decode cX0_isNoRegister 14 = .ok (.iconst 0, 1) := by decide +kernel
theorem dX0_isNoRegister_15 : decode cX0_isNoRegister 15 = .ok (.ireturn, 1) := by decide +kernel
theorem dX0_join_0 : decode cX0_join 0 = .ok (.iload_n 0, 1) := by decide +kernel
theorem dX0_join_1 : decode cX0_join 1 = .ok (.i2l, 1) := by decide +kernel
theorem dX0_join_2 : decode cX0_join 2 = .ok (.bipush 32, 2) := by decide +kernel
theorem dX0_join_4 : decode cX0_join 4 = .ok (.lshl, 1) := by decide +kernel
theorem dX0_join_5 : decode cX0_join 5 = .ok (.iload_n 1, 1) := by decide +kernel
theorem dX0_join_6 : decode cX0_join 6 = .ok (.i2l, 1) := by decide +kernel
theorem dX0_join_7 : decode cX0_join 7 = .ok (.ldc2_w 127, 3) := by decide +kernel
theorem dX0_join_10 : decode cX0_join 10 = .ok (.land, 1) := by decide +kernel
theorem dX0_join_11 : decode cX0_join 11 = .ok (.lor, 1) := by decide +kernel
theorem dX0_join_12 : decode cX0_join 12 = .ok (.lreturn, 1) := by decide +kernel
theorem dX0_part_0 : decode cX0_part 0 = .ok (.iload_n 1, 1) := by decide +kernel
theorem dX0_part_1 : decode cX0_part 1 = .ok (.invokestatic 34, 3) := by decide +kernel
theorem dX0_part_4 : decode cX0_part 4 = .ok (.ifCond .eq 13, 3) := by decide +kernel
theorem dX0_part_7 : decode cX0_part 7 = .ok (.new 37, 3) := by decide +kernel
theorem dX0_part_10 : decode cX0_part 10 = .ok (.dup, 1) := by decide +kernel
theorem dX0_part_11 : decode cX0_part 11 = .ok (.ldc 39, 2) := by decide +kernel
theorem dX0_part_13 : decode cX0_part 13 = .ok (.invokespecial 41, 3) := by decide +kernel
theorem dX0_part_16 : decode cX0_part 16 = .ok (.athrow, 1) := by decide +kernel
theorem dX0_part_17 : decode cX0_part 17 = .ok (.iload_n 2, 1) := by decide +kernel
theorem dX0_part_18 : decode cX0_part 18 = .ok (.tableswitch 76 0 4 #[34, 41, 52, 60, 66], 34) := by decide +kernel
theorem dX0_part_52 : decode cX0_part 52 = .ok (.aload_n 0, 1) := by decide +kernel
theorem dX0_part_53 : decode cX0_part 53 = .ok (.getfield 11, 3) := by decide +kernel
theorem dX0_part_56 : decode cX0_part 56 = .ok (.iload_n 1, 1) := by decide +kernel
theorem dX0_part_57 : decode cX0_part 57 = .ok (.iaload, 1) := by decide +kernel
theorem dX0_part_58 : decode cX0_part 58 = .ok (.ireturn, 1) := by decide +kernel
theorem dX0_part_59 : decode cX0_part 59 = .ok (.aload_n 0, 1) := by decide +kernel
theorem dX0_part_60 : decode cX0_part 60 = .ok (.getfield 15, 3) := by decide +kernel
theorem dX0_part_63 : decode cX0_part 63 = .ok (.iload_n 1, 1) := by decide +kernel
theorem dX0_part_64 : decode cX0_part 64 = .ok (.laload, 1) := by decide +kernel
theorem dX0_part_65 : decode cX0_part 65 = .ok (.bipush 32, 2) := by decide +kernel
theorem dX0_part_67 : decode cX0_part 67 = .ok (.lushr, 1) := by decide +kernel
theorem dX0_part_68 : decode cX0_part 68 = .ok (.l2i, 1) := by decide +kernel
theorem dX0_part_69 : decode cX0_part 69 = .ok (.ireturn, 1) := by decide +kernel
theorem dX0_part_70 : decode cX0_part 70 = .ok (.aload_n 0, 1) := by decide +kernel
theorem dX0_part_71 : decode cX0_part 71 = .ok (.getfield 15, 3) := by decide +kernel
theorem dX0_part_74 : decode cX0_part 74 = .ok (.iload_n 1, 1) := by decide +kernel
theorem dX0_part_75 : decode cX0_part 75 = .ok (.laload, 1) := by decide +kernel
theorem dX0_part_76 : decode cX0_part 76 = .ok (.l2i, 1) := by decide +kernel
theorem dX0_part_77 : decode cX0_part 77 = .ok (.ireturn, 1) := by decide +kernel
theorem dX0_part_78 : decode cX0_part 78 = .ok (.aload_n 0, 1) := by decide +kernel
theorem dX0_part_79 : decode cX0_part 79 = .ok (.iload_n 1, 1) := by decide +kernel
theorem dX0_part_80 : decode cX0_part 80 = .ok (.invokevirtual 48, 3) := by decide +kernel
theorem dX0_part_83 : decode cX0_part 83 = .ok (.ireturn, 1) := by decide +kernel
theorem dX0_part_84 : decode cX0_part 84 = .ok (.aload_n 0, 1) := by decide +kernel
theorem dX0_part_85 : decode cX0_part 85 = .ok (.getfield 15, 3) := by decide +kernel
theorem dX0_part_88 : decode cX0_part 88 = .ok (.iload_n 1, 1) := by decide +kernel
theorem dX0_part_89 : decode cX0_part 89 = .ok (.laload, 1) := by decide +kernel
theorem dX0_part_90 : decode cX0_part 90 = .ok (.invokestatic 52, 3) := by decide +kernel
theorem dX0_part_93 : decode cX0_part 93 = .ok (.ireturn, 1) := by decide +kernel
theorem dX0_part_94 : decode cX0_part 94 = .ok (.new 27, 3) := by decide +kernel
theorem dX0_part_97 : decode cX0_part 97 = .ok (.dup, 1) := by decide +kernel
theorem dX0_part_98 : decode cX0_part 98 = .ok (.ldc 56, 2) := by decide +kernel
theorem dX0_part_100 : decode cX0_part 100 = .ok (.invokespecial 31, 3) := by decide +kernel
theorem dX0_part_103 : decode cX0_part 103 = .ok (.athrow, 1) := by decide +kernel
theorem dX0_kindOf_0 : decode cX0_kindOf 0 = .ok (.aload_n 0, 1) := by decide +kernel
theorem dX0_kindOf_1 : decode cX0_kindOf 1 = .ok (.iload_n 1, 1) := by decide +kernel
theorem dX0_kindOf_2 : decode cX0_kindOf 2 = .ok (.invokevirtual 80, 3) := by decide +kernel
theorem dX0_kindOf_5 : decode cX0_kindOf 5 = .ok (.istore_n 2, 1) := by decide +kernel
theorem dX0_kindOf_6 : decode cX0_kindOf 6 = .ok (.aload_n 0, 1) := by decide +kernel
theorem dX0_kindOf_7 : decode cX0_kindOf 7 = .ok (.getfield 15, 3) := by decide +kernel
theorem dX0_kindOf_10 : decode cX0_kindOf 10 = .ok (.iload_n 1, 1) := by decide +kernel
theorem dX0_kindOf_11 : decode cX0_kindOf 11 = .ok (.laload, 1) := by decide +kernel
theorem dX0_kindOf_12 : decode cX0_kindOf 12 = .ok (.lstore_n 3, 1) := by decide +kernel
theorem dX0_kindOf_13 : decode cX0_kindOf 13 = .ok (.iload_n 2, 1) := by decide +kernel
theorem dX0_kindOf_14 : decode cX0_kindOf 14 = .ok (.sipush 32767, 3) := by decide +kernel
theorem dX0_kindOf_17 : decode cX0_kindOf 17 = .ok (.if_icmp .ne 19, 3) := by decide +kernel
theorem dX0_kindOf_20 : decode cX0_kindOf 20 = .ok (.lload_n 3, 1) := by decide +kernel
theorem dX0_kindOf_21 : decode cX0_kindOf 21 = .ok (.ldc2_w 130, 3) := by decide +kernel
theorem dX0_kindOf_24 : decode cX0_kindOf 24 = .ok (.land, 1) := by decide +kernel
theorem dX0_kindOf_25 : decode cX0_kindOf 25 = .ok (.lconst 0, 1) := by decide +kernel
theorem dX0_kindOf_26 : decode cX0_kindOf 26 = .ok (.lcmp, 1) := by decide +kernel
theorem dX0_kindOf_27 : decode cX0_kindOf 27 = .ok (.ifCond .ne 7, 3) := by decide +kernel
theorem dX0_kindOf_30 : decode cX0_kindOf 30 = .ok (.iconst 4, 1) := by decide +kernel
theorem dX0_kindOf_31 : decode cX0_kindOf 31 = .ok (.goto 4, 3) := by decide +kernel
theorem dX0_kindOf_34 : decode cX0_kindOf 34 = .ok (.iconst 5, 1) := by decide +kernel
theorem dX0_kindOf_35 : decode cX0_kindOf 35 = .ok (.ireturn, 1) := by decide +kernel
theorem dX0_kindOf_36 : decode cX0_kindOf 36 = .ok (.iload_n 2, 1) := by decide +kernel
theorem dX0_kindOf_37 : decode cX0_kindOf 37 = .ok (.ifCond .ne 15, 3) := by decide +kernel
theorem dX0_kindOf_40 : decode cX0_kindOf 40 = .ok (.lload_n 3, 1) := by decide +kernel
theorem dX0_kindOf_41 : decode cX0_kindOf 41 = .ok (.lconst 0, 1) := by decide +kernel
theorem dX0_kindOf_42 : decode cX0_kindOf 42 = .ok (.lcmp, 1) := by decide +kernel
theorem dX0_kindOf_43 : decode cX0_kindOf 43 = .ok (.ifCond .ne 7, 3) := by decide +kernel
theorem dX0_kindOf_46 : decode cX0_kindOf 46 = .ok (.iconst 0, 1) := by decide +kernel
theorem dX0_kindOf_47 : decode cX0_kindOf 47 = .ok (.goto 4, 3) := by decide +kernel
theorem dX0_kindOf_50 : decode cX0_kindOf 50 = .ok (.iconst 1, 1) := by decide +kernel
theorem dX0_kindOf_51 : decode cX0_kindOf 51 = .ok (.ireturn, 1) := by decide +kernel
theorem dX0_kindOf_52 : decode cX0_kindOf 52 = .ok (.lload_n 3, 1) := by decide +kernel
theorem dX0_kindOf_53 : decode cX0_kindOf 53 = .ok (.lconst 0, 1) := by decide +kernel
theorem dX0_kindOf_54 : decode cX0_kindOf 54 = .ok (.lcmp, 1) := by decide +kernel
theorem dX0_kindOf_55 : decode cX0_kindOf 55 = .ok (.ifCond .ge 7, 3) := by decide +kernel
theorem dX0_kindOf_58 : decode cX0_kindOf 58 = .ok (.iconst 3, 1) := by decide +kernel
theorem dX0_kindOf_59 : decode cX0_kindOf 59 = .ok (.goto 4, 3) := by decide +kernel
theorem dX0_kindOf_62 : decode cX0_kindOf 62 = .ok (.iconst 2, 1) := by decide +kernel
theorem dX0_kindOf_63 : decode cX0_kindOf 63 = .ok (.ireturn, 1) := by decide +kernel
theorem dX0_powerOf_0 : decode cX0_powerOf 0 = .ok (.aload_n 0, 1) := by decide +kernel
theorem dX0_powerOf_1 : decode cX0_powerOf 1 = .ok (.getfield 11, 3) := by decide +kernel
theorem dX0_powerOf_4 : decode cX0_powerOf 4 = .ok (.iload_n 1, 1) := by decide +kernel
theorem dX0_powerOf_5 : decode cX0_powerOf 5 = .ok (.iaload, 1) := by decide +kernel
theorem dX0_powerOf_6 : decode cX0_powerOf 6 = .ok (.sipush 32767, 3) := by decide +kernel
theorem dX0_powerOf_9 : decode cX0_powerOf 9 = .ok (.iand, 1) := by decide +kernel
theorem dX0_powerOf_10 : decode cX0_powerOf 10 = .ok (.ireturn, 1) := by decide +kernel
theorem dJL_numberOfLeadingZeros_0 : decode cJL_numberOfLeadingZeros 0 = .ok (.lload_n 0, 1) := by decide +kernel
theorem dJL_numberOfLeadingZeros_1 : decode cJL_numberOfLeadingZeros 1 = .ok (.bipush 32, 2) := by decide +kernel
theorem dJL_numberOfLeadingZeros_3 : decode cJL_numberOfLeadingZeros 3 = .ok (.lushr, 1) := by decide +kernel
theorem dJL_numberOfLeadingZeros_4 : decode cJL_numberOfLeadingZeros 4 = .ok (.l2i, 1) := by decide +kernel
theorem dJL_numberOfLeadingZeros_5 : decode cJL_numberOfLeadingZeros 5 = .ok (.istore_n 2, 1) := by decide +kernel
theorem dJL_numberOfLeadingZeros_6 : decode cJL_numberOfLeadingZeros 6 = .ok (.iload_n 2, 1) := by decide +kernel
theorem dJL_numberOfLeadingZeros_7 : decode cJL_numberOfLeadingZeros 7 = .ok (.ifCond .ne 14, 3) := by decide +kernel
theorem dJL_numberOfLeadingZeros_10 : decode cJL_numberOfLeadingZeros 10 = .ok (.bipush 32, 2) := by decide +kernel
theorem dJL_numberOfLeadingZeros_12 : decode cJL_numberOfLeadingZeros 12 = .ok (.lload_n 0, 1) := by decide +kernel
theorem dJL_numberOfLeadingZeros_13 : decode cJL_numberOfLeadingZeros 13 = .ok (.l2i, 1) := by decide +kernel
theorem dJL_numberOfLeadingZeros_14 : decode cJL_numberOfLeadingZeros 14 = .ok (.invokestatic 308, 3) := by decide +kernel
theorem dJL_numberOfLeadingZeros_17 : decode cJL_numberOfLeadingZeros 17 = .ok (.iadd, 1) := by decide +kernel
theorem dJL_numberOfLeadingZeros_18 : decode cJL_numberOfLeadingZeros 18 = .ok (.goto 7, 3) := by decide +kernel
theorem dJL_numberOfLeadingZeros_21 : decode cJL_numberOfLeadingZeros 21 = .ok (.iload_n 2, 1) := by decide +kernel
theorem dJL_numberOfLeadingZeros_22 : decode cJL_numberOfLeadingZeros 22 = .ok (.invokestatic 308, 3) := by decide +kernel
theorem dJL_numberOfLeadingZeros_25 : decode cJL_numberOfLeadingZeros 25 = .ok (.ireturn, 1) := by decide +kernel
theorem dJI_numberOfLeadingZeros_0 : decode cJI_numberOfLeadingZeros 0 = .ok (.iload_n 0, 1) := by decide +kernel
theorem dJI_numberOfLeadingZeros_1 : decode cJI_numberOfLeadingZeros 1 = .ok (.ifCond .gt 14, 3) := by decide +kernel
theorem dJI_numberOfLeadingZeros_4 : decode cJI_numberOfLeadingZeros 4 = .ok (.iload_n 0, 1) := by decide +kernel
theorem dJI_numberOfLeadingZeros_5 : decode cJI_numberOfLeadingZeros 5 = .ok (.ifCond .ne 8, 3) := by decide +kernel
theorem dJI_numberOfLeadingZeros_8 : decode cJI_numberOfLeadingZeros 8 = .ok (.bipush 32, 2) := by decide +kernel
theorem dJI_numberOfLeadingZeros_10 : decode cJI_numberOfLeadingZeros 10 = .ok (.goto 4, 3) := by decide +kernel
theorem dJI_numberOfLeadingZeros_13 : decode cJI_numberOfLeadingZeros 13 = .ok (.iconst 0, 1) := by decide +kernel
theorem dJI_numberOfLeadingZeros_14 : decode cJI_numberOfLeadingZeros 14 = .ok (.ireturn, 1) := by decide +kernel
theorem dJI_numberOfLeadingZeros_15 : decode cJI_numberOfLeadingZeros 15 = .ok (.bipush 31, 2) := by decide +kernel
theorem dJI_numberOfLeadingZeros_17 : decode cJI_numberOfLeadingZeros 17 = .ok (.istore_n 1, 1) := by decide +kernel
theorem dJI_numberOfLeadingZeros_18 : decode cJI_numberOfLeadingZeros 18 = .ok (.iload_n 0, 1) := by decide +kernel
theorem dJI_numberOfLeadingZeros_19 : decode cJI_numberOfLeadingZeros 19 = .ok (.ldc_w 264, 3) := by decide +kernel
theorem dJI_numberOfLeadingZeros_22 : decode cJI_numberOfLeadingZeros 22 = .ok (.if_icmp .lt 11, 3) := by decide +kernel
theorem dJI_numberOfLeadingZeros_25 : decode cJI_numberOfLeadingZeros 25 = .ok (.iinc 1 (-16), 3) := by decide +kernel
theorem dJI_numberOfLeadingZeros_28 : decode cJI_numberOfLeadingZeros 28 = .ok (.iload_n 0, 1) := by decide +kernel
theorem dJI_numberOfLeadingZeros_29 : decode cJI_numberOfLeadingZeros 29 = .ok (.bipush 16, 2) := by decide +kernel
theorem dJI_numberOfLeadingZeros_31 : decode cJI_numberOfLeadingZeros 31 = .ok (.iushr, 1) := by decide +kernel
theorem dJI_numberOfLeadingZeros_32 : decode cJI_numberOfLeadingZeros 32 = .ok (.istore_n 0, 1) := by decide +kernel
theorem dJI_numberOfLeadingZeros_33 : decode cJI_numberOfLeadingZeros 33 = .ok (.iload_n 0, 1) := by decide +kernel
theorem dJI_numberOfLeadingZeros_34 : decode cJI_numberOfLeadingZeros 34 = .ok (.sipush 256, 3) := by decide +kernel
theorem dJI_numberOfLeadingZeros_37 : decode cJI_numberOfLeadingZeros 37 = .ok (.if_icmp .lt 11, 3) := by decide +kernel
theorem dJI_numberOfLeadingZeros_40 : decode cJI_numberOfLeadingZeros 40 = .ok (.iinc 1 (-8), 3) := by decide +kernel
theorem dJI_numberOfLeadingZeros_43 : decode cJI_numberOfLeadingZeros 43 = .ok (.iload_n 0, 1) := by decide +kernel
theorem dJI_numberOfLeadingZeros_44 : decode cJI_numberOfLeadingZeros 44 = .ok (.bipush 8, 2) := by decide +kernel
theorem dJI_numberOfLeadingZeros_46 : decode cJI_numberOfLeadingZeros 46 = .ok (.iushr, 1) := by decide +kernel
theorem dJI_numberOfLeadingZeros_47 : decode cJI_numberOfLeadingZeros 47 = .ok (.istore_n 0, 1) := by decide +kernel
theorem dJI_numberOfLeadingZeros_48 : decode cJI_numberOfLeadingZeros 48 = .ok (.iload_n 0, 1) := by decide +kernel
theorem dJI_numberOfLeadingZeros_49 : decode cJI_numberOfLeadingZeros 49 = .ok (.bipush 16, 2) := by decide +kernel
theorem dJI_numberOfLeadingZeros_51 : decode cJI_numberOfLeadingZeros 51 = .ok (.if_icmp .lt 10, 3) := by decide +kernel
theorem dJI_numberOfLeadingZeros_54 : decode cJI_numberOfLeadingZeros 54 = .ok (.iinc 1 (-4), 3) := by decide +kernel
theorem dJI_numberOfLeadingZeros_57 : decode cJI_numberOfLeadingZeros 57 = .ok (.iload_n 0, 1) := by decide +kernel
theorem dJI_numberOfLeadingZeros_58 : decode cJI_numberOfLeadingZeros 58 = .ok (.iconst 4, 1) := by decide +kernel
theorem dJI_numberOfLeadingZeros_59 : decode cJI_numberOfLeadingZeros 59 = .ok (.iushr, 1) := by decide +kernel
theorem dJI_numberOfLeadingZeros_60 : decode cJI_numberOfLeadingZeros 60 = .ok (.istore_n 0, 1) := by decide +kernel
theorem dJI_numberOfLeadingZeros_61 : decode cJI_numberOfLeadingZeros 61 = .ok (.iload_n 0, 1) := by decide +kernel
theorem dJI_numberOfLeadingZeros_62 : decode cJI_numberOfLeadingZeros 62 = .ok (.iconst 4, 1) := by decide +kernel
theorem dJI_numberOfLeadingZeros_63 : decode cJI_numberOfLeadingZeros 63 = .ok (.if_icmp .lt 10, 3) := by decide +kernel
theorem dJI_numberOfLeadingZeros_66 : decode cJI_numberOfLeadingZeros 66 = .ok (.iinc 1 (-2), 3) := by decide +kernel
theorem dJI_numberOfLeadingZeros_69 : decode cJI_numberOfLeadingZeros 69 = .ok (.iload_n 0, 1) := by decide +kernel
theorem dJI_numberOfLeadingZeros_70 : decode cJI_numberOfLeadingZeros 70 = .ok (.iconst 2, 1) := by decide +kernel
theorem dJI_numberOfLeadingZeros_71 : decode cJI_numberOfLeadingZeros 71 = .ok (.iushr, 1) := by decide +kernel
theorem dJI_numberOfLeadingZeros_72 : decode cJI_numberOfLeadingZeros 72 = .ok (.istore_n 0, 1) := by decide +kernel
theorem dJI_numberOfLeadingZeros_73 : decode cJI_numberOfLeadingZeros 73 = .ok (.iload_n 1, 1) := by decide +kernel
theorem dJI_numberOfLeadingZeros_74 : decode cJI_numberOfLeadingZeros 74 = .ok (.iload_n 0, 1) := by decide +kernel
theorem dJI_numberOfLeadingZeros_75 : decode cJI_numberOfLeadingZeros 75 = .ok (.iconst 1, 1) := by decide +kernel
theorem dJI_numberOfLeadingZeros_76 : decode cJI_numberOfLeadingZeros 76 = .ok (.iushr, 1) := by decide +kernel
theorem dJI_numberOfLeadingZeros_77 : decode cJI_numberOfLeadingZeros 77 = .ok (.isub, 1) := by decide +kernel
theorem dJI_numberOfLeadingZeros_78 : decode cJI_numberOfLeadingZeros 78 = .ok (.ireturn, 1) := by decide +kernel
theorem dX0_make_0 : decode cX0_make 0 = .ok (.iload_n 1, 1) := by decide +kernel
theorem dX0_make_1 : decode cX0_make 1 = .ok (.invokestatic 34, 3) := by decide +kernel
theorem dX0_make_4 : decode cX0_make 4 = .ok (.ifCond .eq 13, 3) := by decide +kernel
theorem dX0_make_7 : decode cX0_make 7 = .ok (.new 37, 3) := by decide +kernel
theorem dX0_make_10 : decode cX0_make 10 = .ok (.dup, 1) := by decide +kernel
theorem dX0_make_11 : decode cX0_make 11 = .ok (.ldc 39, 2) := by decide +kernel
theorem dX0_make_13 : decode cX0_make 13 = .ok (.invokespecial 41, 3) := by decide +kernel
theorem dX0_make_16 : decode cX0_make 16 = .ok (.athrow, 1) := by decide +kernel
theorem dX0_make_17 : decode cX0_make 17 = .ok (.iload_n 3, 1) := by decide +kernel
theorem dX0_make_18 : decode cX0_make 18 = .ok (.ldc 58, 2) := by decide +kernel
theorem dX0_make_20 : decode cX0_make 20 = .ok (.if_icmp .lt 9, 3) := by decide +kernel
theorem dX0_make_23 : decode cX0_make 23 = .ok (.iload_n 3, 1) := by decide +kernel
theorem dX0_make_24 : decode cX0_make 24 = .ok (.ldc 59, 2) := by decide +kernel
theorem dX0_make_26 : decode cX0_make 26 = .ok (.if_icmp .le 13, 3) := by decide +kernel
theorem dX0_make_29 : decode cX0_make 29 = .ok (.new 27, 3) := by decide +kernel
theorem dX0_make_32 : decode cX0_make 32 = .ok (.dup, 1) := by decide +kernel
theorem dX0_make_33 : decode cX0_make 33 = .ok (.ldc 60, 2) := by decide +kernel
theorem dX0_make_35 : decode cX0_make 35 = .ok (.invokespecial 31, 3) := by decide +kernel
theorem dX0_make_38 : decode cX0_make 38 = .ok (.athrow, 1) := by decide +kernel
theorem dX0_make_39 : decode cX0_make 39 = .ok (.iload 4, 2) := by decide +kernel
theorem dX0_make_41 : decode cX0_make 41 = .ok (.iload 5, 2) := by decide +kernel
theorem dX0_make_43 : decode cX0_make 43 = .ok (.invokestatic 44, 3) := by decide +kernel
theorem dX0_make_46 : decode cX0_make 46 = .ok (.lstore 9, 2) := by decide +kernel
theorem dX0_make_48 : decode cX0_make 48 = .ok (.iload 6, 2) := by decide +kernel
theorem dX0_make_50 : decode cX0_make 50 = .ok (.iload 7, 2) := by decide +kernel
theorem dX0_make_52 : decode cX0_make 52 = .ok (.invokestatic 44, 3) := by decide +kernel
theorem dX0_make_55 : decode cX0_make 55 = .ok (.lstore 11, 2) := by decide +kernel
theorem dX0_make_57 : decode cX0_make 57 = .ok (.iload 8, 2) := by decide +kernel
theorem dX0_make_59 : decode cX0_make 59 = .ok (.ifCond .eq 9, 3) := by decide +kernel
theorem dX0_make_62 : decode cX0_make 62 = .ok (.ldc2_w 62, 3) := by decide +kernel
theorem dX0_make_65 : decode cX0_make 65 = .ok (.goto 4, 3) := by decide +kernel
theorem dX0_make_68 : decode cX0_make 68 = .ok (.lconst 0, 1) := by decide +kernel
theorem dX0_make_69 : decode cX0_make 69 = .ok (.lstore 13, 2) := by decide +kernel
theorem dX0_make_71 : decode cX0_make 71 = .ok (.iload_n 3, 1) := by decide +kernel
theorem dX0_make_72 : decode cX0_make 72 = .ok (.bipush 127, 2) := by decide +kernel
theorem dX0_make_74 : decode cX0_make 74 = .ok (.iadd, 1) := by decide +kernel
theorem dX0_make_75 : decode cX0_make 75 = .ok (.istore 15, 2) := by decide +kernel
theorem dX0_make_77 : decode cX0_make 77 = .ok (.lload 9, 2) := by decide +kernel
theorem dX0_make_79 : decode cX0_make 79 = .ok (.lconst 0, 1) := by decide +kernel
theorem dX0_make_80 : decode cX0_make 80 = .ok (.lcmp, 1) := by decide +kernel
theorem dX0_make_81 : decode cX0_make 81 = .ok (.ifCond .ne 17, 3) := by decide +kernel
theorem dX0_make_84 : decode cX0_make 84 = .ok (.lload 11, 2) := by decide +kernel
theorem dX0_make_86 : decode cX0_make 86 = .ok (.lstore 9, 2) := by decide +kernel
theorem dX0_make_88 : decode cX0_make 88 = .ok (.lload 13, 2) := by decide +kernel
theorem dX0_make_90 : decode cX0_make 90 = .ok (.lstore 11, 2) := by decide +kernel
theorem dX0_make_92 : decode cX0_make 92 = .ok (.lconst 0, 1) := by decide +kernel
theorem dX0_make_93 : decode cX0_make 93 = .ok (.lstore 13, 2) := by decide +kernel
theorem dX0_make_95 : decode cX0_make 95 = .ok (.iinc 15 (-64), 3) := by decide +kernel
theorem dX0_make_98 : decode cX0_make 98 = .ok (.lload 9, 2) := by decide +kernel
theorem dX0_make_100 : decode cX0_make 100 = .ok (.invokestatic 52, 3) := by decide +kernel
theorem dX0_make_103 : decode cX0_make 103 = .ok (.istore 16, 2) := by decide +kernel
theorem dX0_make_105 : decode cX0_make 105 = .ok (.lload 9, 2) := by decide +kernel
theorem dX0_make_107 : decode cX0_make 107 = .ok (.lload 11, 2) := by decide +kernel
theorem dX0_make_109 : decode cX0_make 109 = .ok (.iload 16, 2) := by decide +kernel
theorem dX0_make_111 : decode cX0_make 111 = .ok (.invokestatic 64, 3) := by decide +kernel
theorem dX0_make_114 : decode cX0_make 114 = .ok (.lstore 17, 2) := by decide +kernel
theorem dX0_make_116 : decode cX0_make 116 = .ok (.lload 11, 2) := by decide +kernel
theorem dX0_make_118 : decode cX0_make 118 = .ok (.lload 13, 2) := by decide +kernel
theorem dX0_make_120 : decode cX0_make 120 = .ok (.iload 16, 2) := by decide +kernel
theorem dX0_make_122 : decode cX0_make 122 = .ok (.invokestatic 64, 3) := by decide +kernel
theorem dX0_make_125 : decode cX0_make 125 = .ok (.lstore 19, 2) := by decide +kernel
theorem dX0_make_127 : decode cX0_make 127 = .ok (.iload 16, 2) := by decide +kernel
theorem dX0_make_129 : decode cX0_make 129 = .ok (.ifCond .ne 16, 3) := by decide +kernel
theorem dX0_make_132 : decode cX0_make 132 = .ok (.lload 13, 2) := by decide +kernel
theorem dX0_make_134 : decode cX0_make 134 = .ok (.lconst 0, 1) := by decide +kernel
theorem dX0_make_135 : decode cX0_make 135 = .ok (.lcmp, 1) := by decide +kernel
theorem dX0_make_136 : decode cX0_make 136 = .ok (.ifCond .eq 9, 3) := by decide +kernel
theorem dX0_make_139 : decode cX0_make 139 = .ok (.lload 19, 2) := by decide +kernel
theorem dX0_make_141 : decode cX0_make 141 = .ok (.lconst 1, 1) := by decide +kernel
theorem dX0_make_142 : decode cX0_make 142 = .ok (.lor, 1) := by decide +kernel
theorem dX0_make_143 : decode cX0_make 143 = .ok (.lstore 19, 2) := by decide +kernel
theorem dX0_make_145 : decode cX0_make 145 = .ok (.aload_n 0, 1) := by decide +kernel
theorem dX0_make_146 : decode cX0_make 146 = .ok (.iload_n 1, 1) := by decide +kernel
theorem dX0_make_147 : decode cX0_make 147 = .ok (.iload_n 2, 1) := by decide +kernel
theorem dX0_make_148 : decode cX0_make 148 = .ok (.iload 15, 2) := by decide +kernel
theorem dX0_make_150 : decode cX0_make 150 = .ok (.iload 16, 2) := by decide +kernel
theorem dX0_make_152 : decode cX0_make 152 = .ok (.isub, 1) := by decide +kernel
theorem dX0_make_153 : decode cX0_make 153 = .ok (.lload 17, 2) := by decide +kernel
theorem dX0_make_155 : decode cX0_make 155 = .ok (.lload 19, 2) := by decide +kernel
theorem dX0_make_157 : decode cX0_make 157 = .ok (.invokevirtual 68, 3) := by decide +kernel
theorem dX0_make_160 : decode cX0_make 160 = .ok (.ireturn, 1) := by decide +kernel
theorem dX0_shiftIn_0 : decode cX0_shiftIn 0 = .ok (.iload 4, 2) := by decide +kernel
theorem dX0_shiftIn_2 : decode cX0_shiftIn 2 = .ok (.ifCond .gt 5, 3) := by decide +kernel
theorem dX0_shiftIn_5 : decode cX0_shiftIn 5 = .ok (.lload_n 0, 1) := by decide +kernel
theorem dX0_shiftIn_6 : decode cX0_shiftIn 6 = .ok (.lreturn, 1) := by decide +kernel
theorem dX0_shiftIn_7 : decode cX0_shiftIn 7 = .ok (.iload 4, 2) := by decide +kernel
theorem dX0_shiftIn_9 : decode cX0_shiftIn 9 = .ok (.bipush 64, 2) := by decide +kernel
theorem dX0_shiftIn_11 : decode cX0_shiftIn 11 = .ok (.if_icmp .lt 5, 3) := by decide +kernel
theorem dX0_shiftIn_14 : decode cX0_shiftIn 14 = .ok (.lload_n 2, 1) := by decide +kernel
theorem dX0_shiftIn_15 : decode cX0_shiftIn 15 = .ok (.lreturn, 1) := by decide +kernel
theorem dX0_shiftIn_16 : decode cX0_shiftIn 16 = .ok (.lload_n 0, 1) := by decide +kernel
theorem dX0_shiftIn_17 : decode cX0_shiftIn 17 = .ok (.iload 4, 2) := by decide +kernel
theorem dX0_shiftIn_19 : decode cX0_shiftIn 19 = .ok (.lshl, 1) := by decide +kernel
theorem dX0_shiftIn_20 : decode cX0_shiftIn 20 = .ok (.lload_n 2, 1) := by decide +kernel
theorem dX0_shiftIn_21 : decode cX0_shiftIn 21 = .ok (.bipush 64, 2) := by decide +kernel
theorem dX0_shiftIn_23 : decode cX0_shiftIn 23 = .ok (.iload 4, 2) := by decide +kernel
theorem dX0_shiftIn_25 : decode cX0_shiftIn 25 = .ok (.isub, 1) := by decide +kernel
theorem dX0_shiftIn_26 : decode cX0_shiftIn 26 = .ok (.lushr, 1) := by decide +kernel
theorem dX0_shiftIn_27 : decode cX0_shiftIn 27 = .ok (.lor, 1) := by decide +kernel
theorem dX0_shiftIn_28 : decode cX0_shiftIn 28 = .ok (.lreturn, 1) := by decide +kernel
theorem dX0_makeSize_0 : decode cX0_makeSize 0 = .ok (.lload 4, 2) := by decide +kernel
theorem dX0_makeSize_2 : decode cX0_makeSize 2 = .ok (.lconst 0, 1) := by decide +kernel
theorem dX0_makeSize_3 : decode cX0_makeSize 3 = .ok (.lcmp, 1) := by decide +kernel
theorem dX0_makeSize_4 : decode cX0_makeSize 4 = .ok (.ifCond .ne 19, 3) := by decide +kernel
theorem dX0_makeSize_7 : decode cX0_makeSize 7 = .ok (.aload_n 0, 1) := by decide +kernel
theorem dX0_makeSize_8 : decode cX0_makeSize 8 = .ok (.iload_n 1, 1) := by decide +kernel
theorem dX0_makeSize_9 : decode cX0_makeSize 9 = .ok (.iload_n 2, 1) := by decide +kernel
theorem dX0_makeSize_10 : decode cX0_makeSize 10 = .ok (.iconst 0, 1) := by decide +kernel
theorem dX0_makeSize_11 : decode cX0_makeSize 11 = .ok (.lconst 0, 1) := by decide +kernel
theorem dX0_makeSize_12 : decode cX0_makeSize 12 = .ok (.invokevirtual 109, 3) := by decide +kernel
theorem dX0_makeSize_15 : decode cX0_makeSize 15 = .ok (.aload_n 0, 1) := by decide +kernel
theorem dX0_makeSize_16 : decode cX0_makeSize 16 = .ok (.iconst 0, 1) := by decide +kernel
theorem dX0_makeSize_17 : decode cX0_makeSize 17 = .ok (.iconst 0, 1) := by decide +kernel
theorem dX0_makeSize_18 : decode cX0_makeSize 18 = .ok (.iconst 0, 1) := by decide +kernel
theorem dX0_makeSize_19 : decode cX0_makeSize 19 = .ok (.invokevirtual 76, 3) := by decide +kernel
theorem dX0_makeSize_22 : decode cX0_makeSize 22 = .ok (.ireturn, 1) := by decide +kernel
theorem dX0_makeSize_23 : decode cX0_makeSize 23 = .ok (.iload_n 3, 1) := by decide +kernel
theorem dX0_makeSize_24 : decode cX0_makeSize 24 = .ok (.sipush (-16382), 3) := by decide +kernel
theorem dX0_makeSize_27 : decode cX0_makeSize 27 = .ok (.if_icmp .ge 24, 3) := by decide +kernel
theorem dX0_makeSize_30 : decode cX0_makeSize 30 = .ok (.aload_n 0, 1) := by decide +kernel
theorem dX0_makeSize_31 : decode cX0_makeSize 31 = .ok (.bipush 16, 2) := by decide +kernel
theorem dX0_makeSize_33 : decode cX0_makeSize 33 = .ok (.invokevirtual 140, 3) := by decide +kernel
theorem dX0_makeSize_36 : decode cX0_makeSize 36 = .ok (.ifCond .eq 15, 3) := by decide +kernel
theorem dX0_makeSize_39 : decode cX0_makeSize 39 = .ok (.aload_n 0, 1) := by decide +kernel
theorem dX0_makeSize_40 : decode cX0_makeSize 40 = .ok (.iload_n 1, 1) := by decide +kernel
theorem dX0_makeSize_41 : decode cX0_makeSize 41 = .ok (.iload_n 2, 1) := by decide +kernel
theorem dX0_makeSize_42 : decode cX0_makeSize 42 = .ok (.iload_n 3, 1) := by decide +kernel
theorem dX0_makeSize_43 : decode cX0_makeSize 43 = .ok (.lload 4, 2) := by decide +kernel
theorem dX0_makeSize_45 : decode cX0_makeSize 45 = .ok (.lload 6, 2) := by decide +kernel
theorem dX0_makeSize_47 : decode cX0_makeSize 47 = .ok (.invokevirtual 143, 3) := by decide +kernel
theorem dX0_makeSize_50 : decode cX0_makeSize 50 = .ok (.ireturn, 1) := by decide +kernel
theorem dX0_makeSize_51 : decode cX0_makeSize 51 = .ok (.aload_n 0, 1) := by decide +kernel
theorem dX0_makeSize_52 : decode cX0_makeSize 52 = .ok (.iload_n 1, 1) := by decide +kernel
theorem dX0_makeSize_53 : decode cX0_makeSize 53 = .ok (.iload_n 2, 1) := by decide +kernel
theorem dX0_makeSize_54 : decode cX0_makeSize 54 = .ok (.iload_n 3, 1) := by decide +kernel
theorem dX0_makeSize_55 : decode cX0_makeSize 55 = .ok (.lload 4, 2) := by decide +kernel
theorem dX0_makeSize_57 : decode cX0_makeSize 57 = .ok (.lload 6, 2) := by decide +kernel
theorem dX0_makeSize_59 : decode cX0_makeSize 59 = .ok (.invokevirtual 146, 3) := by decide +kernel
theorem dX0_makeSize_62 : decode cX0_makeSize 62 = .ok (.ireturn, 1) := by decide +kernel
theorem dX0_store_0 : decode cX0_store 0 = .ok (.aload_n 0, 1) := by decide +kernel
theorem dX0_store_1 : decode cX0_store 1 = .ok (.getfield 11, 3) := by decide +kernel
theorem dX0_store_4 : decode cX0_store 4 = .ok (.iload_n 1, 1) := by decide +kernel
theorem dX0_store_5 : decode cX0_store 5 = .ok (.iload_n 2, 1) := by decide +kernel
theorem dX0_store_6 : decode cX0_store 6 = .ok (.ifCond .eq 8, 3) := by decide +kernel
theorem dX0_store_9 : decode cX0_store 9 = .ok (.ldc 129, 2) := by decide +kernel
theorem dX0_store_11 : decode cX0_store 11 = .ok (.goto 4, 3) := by decide +kernel
theorem dX0_store_14 : decode cX0_store 14 = .ok (.iconst 0, 1) := by decide +kernel
theorem dX0_store_15 : decode cX0_store 15 = .ok (.iload_n 3, 1) := by decide +kernel
theorem dX0_store_16 : decode cX0_store 16 = .ok (.ior, 1) := by decide +kernel
theorem dX0_store_17 : decode cX0_store 17 = .ok (.iastore, 1) := by decide +kernel
theorem dX0_store_18 : decode cX0_store 18 = .ok (.aload_n 0, 1) := by decide +kernel
theorem dX0_store_19 : decode cX0_store 19 = .ok (.getfield 15, 3) := by decide +kernel
theorem dX0_store_22 : decode cX0_store 22 = .ok (.iload_n 1, 1) := by decide +kernel
theorem dX0_store_23 : decode cX0_store 23 = .ok (.lload 4, 2) := by decide +kernel
theorem dX0_store_25 : decode cX0_store 25 = .ok (.lastore, 1) := by decide +kernel
theorem dX0_store_26 : decode cX0_store 26 = .ok (.return_, 1) := by decide +kernel
theorem dX0_tell_0 : decode cX0_tell 0 = .ok (.aload_n 0, 1) := by decide +kernel
theorem dX0_tell_1 : decode cX0_tell 1 = .ok (.iload_n 1, 1) := by decide +kernel
theorem dX0_tell_2 : decode cX0_tell 2 = .ok (.putfield 92, 3) := by decide +kernel
theorem dX0_tell_5 : decode cX0_tell 5 = .ok (.aload_n 0, 1) := by decide +kernel
theorem dX0_tell_6 : decode cX0_tell 6 = .ok (.iload_n 2, 1) := by decide +kernel
theorem dX0_tell_7 : decode cX0_tell 7 = .ok (.putfield 95, 3) := by decide +kernel
theorem dX0_tell_10 : decode cX0_tell 10 = .ok (.aload_n 0, 1) := by decide +kernel
theorem dX0_tell_11 : decode cX0_tell 11 = .ok (.iload_n 3, 1) := by decide +kernel
theorem dX0_tell_12 : decode cX0_tell 12 = .ok (.putfield 98, 3) := by decide +kernel
theorem dX0_tell_15 : decode cX0_tell 15 = .ok (.iload_n 1, 1) := by decide +kernel
theorem dX0_tell_16 : decode cX0_tell 16 = .ok (.ireturn, 1) := by decide +kernel
theorem dX0_isMasked_0 : decode cX0_isMasked 0 = .ok (.aload_n 0, 1) := by decide +kernel
theorem dX0_isMasked_1 : decode cX0_isMasked 1 = .ok (.getfield 19, 3) := by decide +kernel
theorem dX0_isMasked_4 : decode cX0_isMasked 4 = .ok (.iload_n 1, 1) := by decide +kernel
theorem dX0_isMasked_5 : decode cX0_isMasked 5 = .ok (.iand, 1) := by decide +kernel
theorem dX0_isMasked_6 : decode cX0_isMasked 6 = .ok (.ifCond .eq 7, 3) := by decide +kernel
theorem dX0_isMasked_9 : decode cX0_isMasked 9 = .ok (.iconst 1, 1) := by decide +kernel
theorem dX0_isMasked_10 : decode cX0_isMasked 10 = .ok (.goto 4, 3) := by decide +kernel
theorem dX0_isMasked_13 : decode cX0_isMasked 13 = .ok (.iconst 0, 1) := by decide +kernel
theorem dX0_isMasked_14 : decode cX0_isMasked 14 = .ok (.ireturn, 1) := by decide +kernel
theorem dX0_makeSmall_0 : decode cX0_makeSmall 0 = .ok (.bipush 64, 2) := by decide +kernel
theorem dX0_makeSmall_2 : decode cX0_makeSmall 2 = .ok (.aload_n 0, 1) := by decide +kernel
theorem dX0_makeSmall_3 : decode cX0_makeSmall 3 = .ok (.invokevirtual 149, 3) := by decide +kernel
theorem dX0_makeSmall_6 : decode cX0_makeSmall 6 = .ok (.isub, 1) := by decide +kernel
theorem dX0_makeSmall_7 : decode cX0_makeSmall 7 = .ok (.istore 8, 2) := by decide +kernel
theorem dX0_makeSmall_9 : decode cX0_makeSmall 9 = .ok (.sipush (-16382), 3) := by decide +kernel
theorem dX0_makeSmall_12 : decode cX0_makeSmall 12 = .ok (.iload_n 3, 1) := by decide +kernel
theorem dX0_makeSmall_13 : decode cX0_makeSmall 13 = .ok (.isub, 1) := by decide +kernel
theorem dX0_makeSmall_14 : decode cX0_makeSmall 14 = .ok (.iload 8, 2) := by decide +kernel
theorem dX0_makeSmall_16 : decode cX0_makeSmall 16 = .ok (.iadd, 1) := by decide +kernel
theorem dX0_makeSmall_17 : decode cX0_makeSmall 17 = .ok (.istore 9, 2) := by decide +kernel
theorem dX0_makeSmall_19 : decode cX0_makeSmall 19 = .ok (.lload 4, 2) := by decide +kernel
theorem dX0_makeSmall_21 : decode cX0_makeSmall 21 = .ok (.iload 9, 2) := by decide +kernel
theorem dX0_makeSmall_23 : decode cX0_makeSmall 23 = .ok (.invokestatic 152, 3) := by decide +kernel
theorem dX0_makeSmall_26 : decode cX0_makeSmall 26 = .ok (.lstore 10, 2) := by decide +kernel
theorem dX0_makeSmall_28 : decode cX0_makeSmall 28 = .ok (.lload 4, 2) := by decide +kernel
theorem dX0_makeSmall_30 : decode cX0_makeSmall 30 = .ok (.lload 6, 2) := by decide +kernel
theorem dX0_makeSmall_32 : decode cX0_makeSmall 32 = .ok (.iload 9, 2) := by decide +kernel
theorem dX0_makeSmall_34 : decode cX0_makeSmall 34 = .ok (.invokestatic 156, 3) := by decide +kernel
theorem dX0_makeSmall_37 : decode cX0_makeSmall 37 = .ok (.lstore 12, 2) := by decide +kernel
theorem dX0_makeSmall_39 : decode cX0_makeSmall 39 = .ok (.aload_n 0, 1) := by decide +kernel
theorem dX0_makeSmall_40 : decode cX0_makeSmall 40 = .ok (.lload 10, 2) := by decide +kernel
theorem dX0_makeSmall_42 : decode cX0_makeSmall 42 = .ok (.lload 12, 2) := by decide +kernel
theorem dX0_makeSmall_44 : decode cX0_makeSmall 44 = .ok (.iload_n 2, 1) := by decide +kernel
theorem dX0_makeSmall_45 : decode cX0_makeSmall 45 = .ok (.invokevirtual 159, 3) := by decide +kernel
theorem dX0_makeSmall_48 : decode cX0_makeSmall 48 = .ok (.istore 14, 2) := by decide +kernel
theorem dX0_makeSmall_50 : decode cX0_makeSmall 50 = .ok (.iload 14, 2) := by decide +kernel
theorem dX0_makeSmall_52 : decode cX0_makeSmall 52 = .ok (.ifCond .eq 10, 3) := by decide +kernel
theorem dX0_makeSmall_55 : decode cX0_makeSmall 55 = .ok (.lload 10, 2) := by decide +kernel
theorem dX0_makeSmall_57 : decode cX0_makeSmall 57 = .ok (.lconst 1, 1) := by decide +kernel
theorem dX0_makeSmall_58 : decode cX0_makeSmall 58 = .ok (.ladd, 1) := by decide +kernel
theorem dX0_makeSmall_59 : decode cX0_makeSmall 59 = .ok (.goto 5, 3) := by decide +kernel
theorem dX0_makeSmall_62 : decode cX0_makeSmall 62 = .ok (.lload 10, 2) := by decide +kernel
theorem dX0_makeSmall_64 : decode cX0_makeSmall 64 = .ok (.iload 8, 2) := by decide +kernel
theorem dX0_makeSmall_66 : decode cX0_makeSmall 66 = .ok (.lshl, 1) := by decide +kernel
theorem dX0_makeSmall_67 : decode cX0_makeSmall 67 = .ok (.lstore 15, 2) := by decide +kernel
theorem dX0_makeSmall_69 : decode cX0_makeSmall 69 = .ok (.aload_n 0, 1) := by decide +kernel
theorem dX0_makeSmall_70 : decode cX0_makeSmall 70 = .ok (.iload_n 1, 1) := by decide +kernel
theorem dX0_makeSmall_71 : decode cX0_makeSmall 71 = .ok (.iload_n 2, 1) := by decide +kernel
theorem dX0_makeSmall_72 : decode cX0_makeSmall 72 = .ok (.lload 15, 2) := by decide +kernel
theorem dX0_makeSmall_74 : decode cX0_makeSmall 74 = .ok (.lconst 0, 1) := by decide +kernel
theorem dX0_makeSmall_75 : decode cX0_makeSmall 75 = .ok (.lcmp, 1) := by decide +kernel
theorem dX0_makeSmall_76 : decode cX0_makeSmall 76 = .ok (.ifCond .ge 7, 3) := by decide +kernel
theorem dX0_makeSmall_79 : decode cX0_makeSmall 79 = .ok (.iconst 1, 1) := by decide +kernel
theorem dX0_makeSmall_80 : decode cX0_makeSmall 80 = .ok (.goto 4, 3) := by decide +kernel
theorem dX0_makeSmall_83 : decode cX0_makeSmall 83 = .ok (.iconst 0, 1) := by decide +kernel
theorem dX0_makeSmall_84 : decode cX0_makeSmall 84 = .ok (.lload 15, 2) := by decide +kernel
theorem dX0_makeSmall_86 : decode cX0_makeSmall 86 = .ok (.invokevirtual 109, 3) := by decide +kernel
theorem dX0_makeSmall_89 : decode cX0_makeSmall 89 = .ok (.aload_n 0, 1) := by decide +kernel
theorem dX0_makeSmall_90 : decode cX0_makeSmall 90 = .ok (.lload 12, 2) := by decide +kernel
theorem dX0_makeSmall_92 : decode cX0_makeSmall 92 = .ok (.lconst 0, 1) := by decide +kernel
theorem dX0_makeSmall_93 : decode cX0_makeSmall 93 = .ok (.lcmp, 1) := by decide +kernel
theorem dX0_makeSmall_94 : decode cX0_makeSmall 94 = .ok (.ifCond .ne 7, 3) := by decide +kernel
theorem dX0_makeSmall_97 : decode cX0_makeSmall 97 = .ok (.iconst 0, 1) := by decide +kernel
theorem dX0_makeSmall_98 : decode cX0_makeSmall 98 = .ok (.goto 5, 3) := by decide +kernel
theorem dX0_makeSmall_101 : decode cX0_makeSmall 101 = .ok (.bipush 48, 2) := by decide +kernel
theorem dX0_makeSmall_103 : decode cX0_makeSmall 103 = .ok (.iload_n 3, 1) := by decide +kernel
theorem dX0_makeSmall_104 : decode cX0_makeSmall 104 = .ok (.lload 12, 2) := by decide +kernel
theorem dX0_makeSmall_106 : decode cX0_makeSmall 106 = .ok (.iload 14, 2) := by decide +kernel
theorem dX0_makeSmall_108 : decode cX0_makeSmall 108 = .ok (.invokestatic 163, 3) := by decide +kernel
theorem dX0_makeSmall_111 : decode cX0_makeSmall 111 = .ok (.invokevirtual 76, 3) := by decide +kernel
theorem dX0_makeSmall_114 : decode cX0_makeSmall 114 = .ok (.ireturn, 1) := by decide +kernel
theorem dX0_digits_0 : decode cX0_digits 0 = .ok (.aload_n 0, 1) := by decide +kernel
theorem dX0_digits_1 : decode cX0_digits 1 = .ok (.getfield 19, 3) := by decide +kernel
theorem dX0_digits_4 : decode cX0_digits 4 = .ok (.bipush 8, 2) := by decide +kernel
theorem dX0_digits_6 : decode cX0_digits 6 = .ok (.ishr, 1) := by decide +kernel
theorem dX0_digits_7 : decode cX0_digits 7 = .ok (.iconst 3, 1) := by decide +kernel
theorem dX0_digits_8 : decode cX0_digits 8 = .ok (.iand, 1) := by decide +kernel
theorem dX0_digits_9 : decode cX0_digits 9 = .ok (.lookupswitch 33 #[(0, 27), (2, 30)], 27) := by decide +kernel
theorem dX0_digits_36 : decode cX0_digits 36 = .ok (.bipush 24, 2) := by decide +kernel
theorem dX0_digits_38 : decode cX0_digits 38 = .ok (.ireturn, 1) := by decide +kernel
theorem dX0_digits_39 : decode cX0_digits 39 = .ok (.bipush 53, 2) := by decide +kernel
theorem dX0_digits_41 : decode cX0_digits 41 = .ok (.ireturn, 1) := by decide +kernel
theorem dX0_digits_42 : decode cX0_digits 42 = .ok (.bipush 64, 2) := by decide +kernel
theorem dX0_digits_44 : decode cX0_digits 44 = .ok (.ireturn, 1) := by decide +kernel
theorem dX0_wholePart_0 : decode cX0_wholePart 0 = .ok (.iload_n 2, 1) := by decide +kernel
theorem dX0_wholePart_1 : decode cX0_wholePart 1 = .ok (.bipush 64, 2) := by decide +kernel
theorem dX0_wholePart_3 : decode cX0_wholePart 3 = .ok (.if_icmp .lt 7, 3) := by decide +kernel
theorem dX0_wholePart_6 : decode cX0_wholePart 6 = .ok (.lconst 0, 1) := by decide +kernel
theorem dX0_wholePart_7 : decode cX0_wholePart 7 = .ok (.goto 6, 3) := by decide +kernel
theorem dX0_wholePart_10 : decode cX0_wholePart 10 = .ok (.lload_n 0, 1) := by decide +kernel
theorem dX0_wholePart_11 : decode cX0_wholePart 11 = .ok (.iload_n 2, 1) := by decide +kernel
theorem dX0_wholePart_12 : decode cX0_wholePart 12 = .ok (.lushr, 1) := by decide +kernel
theorem dX0_wholePart_13 : decode cX0_wholePart 13 = .ok (.lreturn, 1) := by decide +kernel
theorem dX0_lostPart_0 : decode cX0_lostPart 0 = .ok (.iload 4, 2) := by decide +kernel
theorem dX0_lostPart_2 : decode cX0_lostPart 2 = .ok (.ifCond .gt 5, 3) := by decide +kernel
theorem dX0_lostPart_5 : decode cX0_lostPart 5 = .ok (.lload_n 2, 1) := by decide +kernel
theorem dX0_lostPart_6 : decode cX0_lostPart 6 = .ok (.lreturn, 1) := by decide +kernel
theorem dX0_lostPart_7 : decode cX0_lostPart 7 = .ok (.iload 4, 2) := by decide +kernel
theorem dX0_lostPart_9 : decode cX0_lostPart 9 = .ok (.bipush 64, 2) := by decide +kernel
theorem dX0_lostPart_11 : decode cX0_lostPart 11 = .ok (.if_icmp .le 5, 3) := by decide +kernel
theorem dX0_lostPart_14 : decode cX0_lostPart 14 = .ok (.lconst 1, 1) := by decide +kernel
theorem dX0_lostPart_15 : decode cX0_lostPart 15 = .ok (.lreturn, 1) := by decide +kernel
theorem dX0_lostPart_16 : decode cX0_lostPart 16 = .ok (.lload_n 0, 1) := by decide +kernel
theorem dX0_lostPart_17 : decode cX0_lostPart 17 = .ok (.bipush 64, 2) := by decide +kernel
theorem dX0_lostPart_19 : decode cX0_lostPart 19 = .ok (.iload 4, 2) := by decide +kernel
theorem dX0_lostPart_21 : decode cX0_lostPart 21 = .ok (.isub, 1) := by decide +kernel
theorem dX0_lostPart_22 : decode cX0_lostPart 22 = .ok (.lshl, 1) := by decide +kernel
theorem dX0_lostPart_23 : decode cX0_lostPart 23 = .ok (.lstore 5, 2) := by decide +kernel
theorem dX0_lostPart_25 : decode cX0_lostPart 25 = .ok (.lload_n 2, 1) := by decide +kernel
theorem dX0_lostPart_26 : decode cX0_lostPart 26 = .ok (.lconst 0, 1) := by decide +kernel
theorem dX0_lostPart_27 : decode cX0_lostPart 27 = .ok (.lcmp, 1) := by decide +kernel
theorem dX0_lostPart_28 : decode cX0_lostPart 28 = .ok (.ifCond .ne 8, 3) := by decide +kernel
theorem dX0_lostPart_31 : decode cX0_lostPart 31 = .ok (.lload 5, 2) := by decide +kernel
theorem dX0_lostPart_33 : decode cX0_lostPart 33 = .ok (.goto 7, 3) := by decide +kernel
theorem dX0_lostPart_36 : decode cX0_lostPart 36 = .ok (.lload 5, 2) := by decide +kernel
theorem dX0_lostPart_38 : decode cX0_lostPart 38 = .ok (.lconst 1, 1) := by decide +kernel
theorem dX0_lostPart_39 : decode cX0_lostPart 39 = .ok (.lor, 1) := by decide +kernel
theorem dX0_lostPart_40 : decode cX0_lostPart 40 = .ok (.lreturn, 1) := by decide +kernel
theorem dX0_takesAbove_0 : decode cX0_takesAbove 0 = .ok (.lload_n 3, 1) := by decide +kernel
theorem dX0_takesAbove_1 : decode cX0_takesAbove 1 = .ok (.lconst 0, 1) := by decide +kernel
theorem dX0_takesAbove_2 : decode cX0_takesAbove 2 = .ok (.lcmp, 1) := by decide +kernel
theorem dX0_takesAbove_3 : decode cX0_takesAbove 3 = .ok (.ifCond .ne 5, 3) := by decide +kernel
theorem dX0_takesAbove_6 : decode cX0_takesAbove 6 = .ok (.iconst 0, 1) := by decide +kernel
theorem dX0_takesAbove_7 : decode cX0_takesAbove 7 = .ok (.ireturn, 1) := by decide +kernel
theorem dX0_takesAbove_8 : decode cX0_takesAbove 8 = .ok (.aload_n 0, 1) := by decide +kernel
theorem dX0_takesAbove_9 : decode cX0_takesAbove 9 = .ok (.invokevirtual 132, 3) := by decide +kernel
theorem dX0_takesAbove_12 : decode cX0_takesAbove 12 = .ok (.ifCond .eq 10, 3) := by decide +kernel
theorem dX0_takesAbove_15 : decode cX0_takesAbove 15 = .ok (.aload_n 0, 1) := by decide +kernel
theorem dX0_takesAbove_16 : decode cX0_takesAbove 16 = .ok (.iload 5, 2) := by decide +kernel
theorem dX0_takesAbove_18 : decode cX0_takesAbove 18 = .ok (.invokevirtual 136, 3) := by decide +kernel
theorem dX0_takesAbove_21 : decode cX0_takesAbove 21 = .ok (.ireturn, 1) := by decide +kernel
theorem dX0_takesAbove_22 : decode cX0_takesAbove 22 = .ok (.lload_n 3, 1) := by decide +kernel
theorem dX0_takesAbove_23 : decode cX0_takesAbove 23 = .ok (.ldc2_w 62, 3) := by decide +kernel
theorem dX0_takesAbove_26 : decode cX0_takesAbove 26 = .ok (.lcmp, 1) := by decide +kernel
theorem dX0_takesAbove_27 : decode cX0_takesAbove 27 = .ok (.ifCond .ne 17, 3) := by decide +kernel
theorem dX0_takesAbove_30 : decode cX0_takesAbove 30 = .ok (.lload_n 1, 1) := by decide +kernel
theorem dX0_takesAbove_31 : decode cX0_takesAbove 31 = .ok (.lconst 1, 1) := by decide +kernel
theorem dX0_takesAbove_32 : decode cX0_takesAbove 32 = .ok (.land, 1) := by decide +kernel
theorem dX0_takesAbove_33 : decode cX0_takesAbove 33 = .ok (.lconst 0, 1) := by decide +kernel
theorem dX0_takesAbove_34 : decode cX0_takesAbove 34 = .ok (.lcmp, 1) := by decide +kernel
theorem dX0_takesAbove_35 : decode cX0_takesAbove 35 = .ok (.ifCond .eq 7, 3) := by decide +kernel
theorem dX0_takesAbove_38 : decode cX0_takesAbove 38 = .ok (.iconst 1, 1) := by decide +kernel
theorem dX0_takesAbove_39 : decode cX0_takesAbove 39 = .ok (.goto 4, 3) := by decide +kernel
theorem dX0_takesAbove_42 : decode cX0_takesAbove 42 = .ok (.iconst 0, 1) := by decide +kernel
theorem dX0_takesAbove_43 : decode cX0_takesAbove 43 = .ok (.ireturn, 1) := by decide +kernel
theorem dX0_takesAbove_44 : decode cX0_takesAbove 44 = .ok (.lload_n 3, 1) := by decide +kernel
theorem dX0_takesAbove_45 : decode cX0_takesAbove 45 = .ok (.lconst 0, 1) := by decide +kernel
theorem dX0_takesAbove_46 : decode cX0_takesAbove 46 = .ok (.lcmp, 1) := by decide +kernel
theorem dX0_takesAbove_47 : decode cX0_takesAbove 47 = .ok (.ifCond .ge 7, 3) := by decide +kernel
theorem dX0_takesAbove_50 : decode cX0_takesAbove 50 = .ok (.iconst 1, 1) := by decide +kernel
theorem dX0_takesAbove_51 : decode cX0_takesAbove 51 = .ok (.goto 4, 3) := by decide +kernel
theorem dX0_takesAbove_54 : decode cX0_takesAbove 54 = .ok (.iconst 0, 1) := by decide +kernel
theorem dX0_takesAbove_55 : decode cX0_takesAbove 55 = .ok (.ireturn, 1) := by decide +kernel
theorem dX0_rounding_0 : decode cX0_rounding 0 = .ok (.aload_n 0, 1) := by decide +kernel
theorem dX0_rounding_1 : decode cX0_rounding 1 = .ok (.getfield 19, 3) := by decide +kernel
theorem dX0_rounding_4 : decode cX0_rounding 4 = .ok (.bipush 10, 2) := by decide +kernel
theorem dX0_rounding_6 : decode cX0_rounding 6 = .ok (.ishr, 1) := by decide +kernel
theorem dX0_rounding_7 : decode cX0_rounding 7 = .ok (.iconst 3, 1) := by decide +kernel
theorem dX0_rounding_8 : decode cX0_rounding 8 = .ok (.iand, 1) := by decide +kernel
theorem dX0_rounding_9 : decode cX0_rounding 9 = .ok (.ireturn, 1) := by decide +kernel
theorem dX0_goesAway_0 : decode cX0_goesAway 0 = .ok (.aload_n 0, 1) := by decide +kernel
theorem dX0_goesAway_1 : decode cX0_goesAway 1 = .ok (.invokevirtual 132, 3) := by decide +kernel
theorem dX0_goesAway_4 : decode cX0_goesAway 4 = .ok (.istore_n 2, 1) := by decide +kernel
theorem dX0_goesAway_5 : decode cX0_goesAway 5 = .ok (.iload_n 2, 1) := by decide +kernel
theorem dX0_goesAway_6 : decode cX0_goesAway 6 = .ok (.iconst 1, 1) := by decide +kernel
theorem dX0_goesAway_7 : decode cX0_goesAway 7 = .ok (.if_icmp .ne 7, 3) := by decide +kernel
theorem dX0_goesAway_10 : decode cX0_goesAway 10 = .ok (.iload_n 1, 1) := by decide +kernel
theorem dX0_goesAway_11 : decode cX0_goesAway 11 = .ok (.ifCond .ne 12, 3) := by decide +kernel
theorem dX0_goesAway_14 : decode cX0_goesAway 14 = .ok (.iload_n 2, 1) := by decide +kernel
theorem dX0_goesAway_15 : decode cX0_goesAway 15 = .ok (.iconst 2, 1) := by decide +kernel
theorem dX0_goesAway_16 : decode cX0_goesAway 16 = .ok (.if_icmp .ne 11, 3) := by decide +kernel
theorem dX0_goesAway_19 : decode cX0_goesAway 19 = .ok (.iload_n 1, 1) := by decide +kernel
theorem dX0_goesAway_20 : decode cX0_goesAway 20 = .ok (.ifCond .ne 7, 3) := by decide +kernel
theorem dX0_goesAway_23 : decode cX0_goesAway 23 = .ok (.iconst 1, 1) := by decide +kernel
theorem dX0_goesAway_24 : decode cX0_goesAway 24 = .ok (.goto 4, 3) := by decide +kernel
theorem dX0_goesAway_27 : decode cX0_goesAway 27 = .ok (.iconst 0, 1) := by decide +kernel
theorem dX0_goesAway_28 : decode cX0_goesAway 28 = .ok (.ireturn, 1) := by decide +kernel
theorem dX0_changeOf_0 : decode cX0_changeOf 0 = .ok (.lload_n 0, 1) := by decide +kernel
theorem dX0_changeOf_1 : decode cX0_changeOf 1 = .ok (.lconst 0, 1) := by decide +kernel
theorem dX0_changeOf_2 : decode cX0_changeOf 2 = .ok (.lcmp, 1) := by decide +kernel
theorem dX0_changeOf_3 : decode cX0_changeOf 3 = .ok (.ifCond .ne 5, 3) := by decide +kernel
theorem dX0_changeOf_6 : decode cX0_changeOf 6 = .ok (.iconst 0, 1) := by decide +kernel
theorem dX0_changeOf_7 : decode cX0_changeOf 7 = .ok (.ireturn, 1) := by decide +kernel
theorem dX0_changeOf_8 : decode cX0_changeOf 8 = .ok (.iload_n 2, 1) := by decide +kernel
theorem dX0_changeOf_9 : decode cX0_changeOf 9 = .ok (.ifCond .eq 7, 3) := by decide +kernel
theorem dX0_changeOf_12 : decode cX0_changeOf 12 = .ok (.iconst 1, 1) := by decide +kernel
theorem dX0_changeOf_13 : decode cX0_changeOf 13 = .ok (.goto 4, 3) := by decide +kernel
theorem dX0_changeOf_16 : decode cX0_changeOf 16 = .ok (.iconst (-1), 1) := by decide +kernel
theorem dX0_changeOf_17 : decode cX0_changeOf 17 = .ok (.ireturn, 1) := by decide +kernel
theorem dX0_makeRounded_0 : decode cX0_makeRounded 0 = .ok (.bipush 64, 2) := by decide +kernel
theorem dX0_makeRounded_2 : decode cX0_makeRounded 2 = .ok (.aload_n 0, 1) := by decide +kernel
theorem dX0_makeRounded_3 : decode cX0_makeRounded 3 = .ok (.invokevirtual 149, 3) := by decide +kernel
theorem dX0_makeRounded_6 : decode cX0_makeRounded 6 = .ok (.isub, 1) := by decide +kernel
theorem dX0_makeRounded_7 : decode cX0_makeRounded 7 = .ok (.istore 8, 2) := by decide +kernel
theorem dX0_makeRounded_9 : decode cX0_makeRounded 9 = .ok (.lload 4, 2) := by decide +kernel
theorem dX0_makeRounded_11 : decode cX0_makeRounded 11 = .ok (.iload 8, 2) := by decide +kernel
theorem dX0_makeRounded_13 : decode cX0_makeRounded 13 = .ok (.invokestatic 152, 3) := by decide +kernel
theorem dX0_makeRounded_16 : decode cX0_makeRounded 16 = .ok (.lstore 9, 2) := by decide +kernel
theorem dX0_makeRounded_18 : decode cX0_makeRounded 18 = .ok (.lload 4, 2) := by decide +kernel
theorem dX0_makeRounded_20 : decode cX0_makeRounded 20 = .ok (.lload 6, 2) := by decide +kernel
theorem dX0_makeRounded_22 : decode cX0_makeRounded 22 = .ok (.iload 8, 2) := by decide +kernel
theorem dX0_makeRounded_24 : decode cX0_makeRounded 24 = .ok (.invokestatic 156, 3) := by decide +kernel
theorem dX0_makeRounded_27 : decode cX0_makeRounded 27 = .ok (.lstore 11, 2) := by decide +kernel
theorem dX0_makeRounded_29 : decode cX0_makeRounded 29 = .ok (.aload_n 0, 1) := by decide +kernel
theorem dX0_makeRounded_30 : decode cX0_makeRounded 30 = .ok (.lload 9, 2) := by decide +kernel
theorem dX0_makeRounded_32 : decode cX0_makeRounded 32 = .ok (.lload 11, 2) := by decide +kernel
theorem dX0_makeRounded_34 : decode cX0_makeRounded 34 = .ok (.iload_n 2, 1) := by decide +kernel
theorem dX0_makeRounded_35 : decode cX0_makeRounded 35 = .ok (.invokevirtual 159, 3) := by decide +kernel
theorem dX0_makeRounded_38 : decode cX0_makeRounded 38 = .ok (.istore 13, 2) := by decide +kernel
theorem dX0_makeRounded_40 : decode cX0_makeRounded 40 = .ok (.iload 13, 2) := by decide +kernel
theorem dX0_makeRounded_42 : decode cX0_makeRounded 42 = .ok (.ifCond .eq 10, 3) := by decide +kernel
theorem dX0_makeRounded_45 : decode cX0_makeRounded 45 = .ok (.lload 9, 2) := by decide +kernel
theorem dX0_makeRounded_47 : decode cX0_makeRounded 47 = .ok (.lconst 1, 1) := by decide +kernel
theorem dX0_makeRounded_48 : decode cX0_makeRounded 48 = .ok (.ladd, 1) := by decide +kernel
theorem dX0_makeRounded_49 : decode cX0_makeRounded 49 = .ok (.goto 5, 3) := by decide +kernel
theorem dX0_makeRounded_52 : decode cX0_makeRounded 52 = .ok (.lload 9, 2) := by decide +kernel
theorem dX0_makeRounded_54 : decode cX0_makeRounded 54 = .ok (.iload 8, 2) := by decide +kernel
theorem dX0_makeRounded_56 : decode cX0_makeRounded 56 = .ok (.lshl, 1) := by decide +kernel
theorem dX0_makeRounded_57 : decode cX0_makeRounded 57 = .ok (.lstore 14, 2) := by decide +kernel
theorem dX0_makeRounded_59 : decode cX0_makeRounded 59 = .ok (.iload_n 3, 1) := by decide +kernel
theorem dX0_makeRounded_60 : decode cX0_makeRounded 60 = .ok (.istore 16, 2) := by decide +kernel
theorem dX0_makeRounded_62 : decode cX0_makeRounded 62 = .ok (.lload 14, 2) := by decide +kernel
theorem dX0_makeRounded_64 : decode cX0_makeRounded 64 = .ok (.lconst 0, 1) := by decide +kernel
theorem dX0_makeRounded_65 : decode cX0_makeRounded 65 = .ok (.lcmp, 1) := by decide +kernel
theorem dX0_makeRounded_66 : decode cX0_makeRounded 66 = .ok (.ifCond .ne 11, 3) := by decide +kernel
theorem dX0_makeRounded_69 : decode cX0_makeRounded 69 = .ok (.ldc2_w 62, 3) := by decide +kernel
theorem dX0_makeRounded_72 : decode cX0_makeRounded 72 = .ok (.lstore 14, 2) := by decide +kernel
theorem dX0_makeRounded_74 : decode cX0_makeRounded 74 = .ok (.iinc 16 1, 3) := by decide +kernel
theorem dX0_makeRounded_77 : decode cX0_makeRounded 77 = .ok (.lload 11, 2) := by decide +kernel
theorem dX0_makeRounded_79 : decode cX0_makeRounded 79 = .ok (.lconst 0, 1) := by decide +kernel
theorem dX0_makeRounded_80 : decode cX0_makeRounded 80 = .ok (.lcmp, 1) := by decide +kernel
theorem dX0_makeRounded_81 : decode cX0_makeRounded 81 = .ok (.ifCond .ne 7, 3) := by decide +kernel
theorem dX0_makeRounded_84 : decode cX0_makeRounded 84 = .ok (.iconst 0, 1) := by decide +kernel
theorem dX0_makeRounded_85 : decode cX0_makeRounded 85 = .ok (.goto 5, 3) := by decide +kernel
theorem dX0_makeRounded_88 : decode cX0_makeRounded 88 = .ok (.bipush 32, 2) := by decide +kernel
theorem dX0_makeRounded_90 : decode cX0_makeRounded 90 = .ok (.istore 17, 2) := by decide +kernel
theorem dX0_makeRounded_92 : decode cX0_makeRounded 92 = .ok (.iload_n 3, 1) := by decide +kernel
theorem dX0_makeRounded_93 : decode cX0_makeRounded 93 = .ok (.sipush (-16382), 3) := by decide +kernel
theorem dX0_makeRounded_96 : decode cX0_makeRounded 96 = .ok (.if_icmp .ge 15, 3) := by decide +kernel
theorem dX0_makeRounded_99 : decode cX0_makeRounded 99 = .ok (.iinc 17 16, 3) := by decide +kernel
theorem dX0_makeRounded_102 : decode cX0_makeRounded 102 = .ok (.iinc 16 24576, 6) := by decide +kernel
theorem dX0_makeRounded_108 : decode cX0_makeRounded 108 = .ok (.goto 37, 3) := by decide +kernel
theorem dX0_makeRounded_111 : decode cX0_makeRounded 111 = .ok (.iload 16, 2) := by decide +kernel
theorem dX0_makeRounded_113 : decode cX0_makeRounded 113 = .ok (.sipush 16383, 3) := by decide +kernel
theorem dX0_makeRounded_116 : decode cX0_makeRounded 116 = .ok (.if_icmp .le 29, 3) := by decide +kernel
theorem dX0_makeRounded_119 : decode cX0_makeRounded 119 = .ok (.aload_n 0, 1) := by decide +kernel
theorem dX0_makeRounded_120 : decode cX0_makeRounded 120 = .ok (.bipush 8, 2) := by decide +kernel
theorem dX0_makeRounded_122 : decode cX0_makeRounded 122 = .ok (.invokevirtual 140, 3) := by decide +kernel
theorem dX0_makeRounded_125 : decode cX0_makeRounded 125 = .ok (.ifCond .eq 11, 3) := by decide +kernel
theorem dX0_makeRounded_128 : decode cX0_makeRounded 128 = .ok (.aload_n 0, 1) := by decide +kernel
theorem dX0_makeRounded_129 : decode cX0_makeRounded 129 = .ok (.iload_n 1, 1) := by decide +kernel
theorem dX0_makeRounded_130 : decode cX0_makeRounded 130 = .ok (.iload_n 2, 1) := by decide +kernel
theorem dX0_makeRounded_131 : decode cX0_makeRounded 131 = .ok (.iload_n 3, 1) := by decide +kernel
theorem dX0_makeRounded_132 : decode cX0_makeRounded 132 = .ok (.invokevirtual 167, 3) := by decide +kernel
theorem dX0_makeRounded_135 : decode cX0_makeRounded 135 = .ok (.ireturn, 1) := by decide +kernel
theorem dX0_makeRounded_136 : decode cX0_makeRounded 136 = .ok (.iinc 17 8, 3) := by decide +kernel
theorem dX0_makeRounded_139 : decode cX0_makeRounded 139 = .ok (.iinc 16 (-24576), 6) := by decide +kernel
theorem dX0_makeRounded_145 : decode cX0_makeRounded 145 = .ok (.aload_n 0, 1) := by decide +kernel
theorem dX0_makeRounded_146 : decode cX0_makeRounded 146 = .ok (.iload_n 1, 1) := by decide +kernel
theorem dX0_makeRounded_147 : decode cX0_makeRounded 147 = .ok (.iload_n 2, 1) := by decide +kernel
theorem dX0_makeRounded_148 : decode cX0_makeRounded 148 = .ok (.iload 16, 2) := by decide +kernel
theorem dX0_makeRounded_150 : decode cX0_makeRounded 150 = .ok (.sipush 16383, 3) := by decide +kernel
theorem dX0_makeRounded_153 : decode cX0_makeRounded 153 = .ok (.iadd, 1) := by decide +kernel
theorem dX0_makeRounded_154 : decode cX0_makeRounded 154 = .ok (.lload 14, 2) := by decide +kernel
theorem dX0_makeRounded_156 : decode cX0_makeRounded 156 = .ok (.invokevirtual 109, 3) := by decide +kernel
theorem dX0_makeRounded_159 : decode cX0_makeRounded 159 = .ok (.aload_n 0, 1) := by decide +kernel
theorem dX0_makeRounded_160 : decode cX0_makeRounded 160 = .ok (.iload 17, 2) := by decide +kernel
theorem dX0_makeRounded_162 : decode cX0_makeRounded 162 = .ok (.iload_n 3, 1) := by decide +kernel
theorem dX0_makeRounded_163 : decode cX0_makeRounded 163 = .ok (.lload 11, 2) := by decide +kernel
theorem dX0_makeRounded_165 : decode cX0_makeRounded 165 = .ok (.iload 13, 2) := by decide +kernel
theorem dX0_makeRounded_167 : decode cX0_makeRounded 167 = .ok (.invokestatic 163, 3) := by decide +kernel
theorem dX0_makeRounded_170 : decode cX0_makeRounded 170 = .ok (.invokevirtual 76, 3) := by decide +kernel
theorem dX0_makeRounded_173 : decode cX0_makeRounded 173 = .ok (.ireturn, 1) := by decide +kernel
theorem dX0_makeTooGreat_0 : decode cX0_makeTooGreat 0 = .ok (.aload_n 0, 1) := by decide +kernel
theorem dX0_makeTooGreat_1 : decode cX0_makeTooGreat 1 = .ok (.invokevirtual 132, 3) := by decide +kernel
theorem dX0_makeTooGreat_4 : decode cX0_makeTooGreat 4 = .ok (.ifCond .eq 11, 3) := by decide +kernel
theorem dX0_makeTooGreat_7 : decode cX0_makeTooGreat 7 = .ok (.aload_n 0, 1) := by decide +kernel
theorem dX0_makeTooGreat_8 : decode cX0_makeTooGreat 8 = .ok (.iload_n 2, 1) := by decide +kernel
theorem dX0_makeTooGreat_9 : decode cX0_makeTooGreat 9 = .ok (.invokevirtual 136, 3) := by decide +kernel
theorem dX0_makeTooGreat_12 : decode cX0_makeTooGreat 12 = .ok (.ifCond .eq 24, 3) := by decide +kernel
theorem dX0_makeTooGreat_15 : decode cX0_makeTooGreat 15 = .ok (.aload_n 0, 1) := by decide +kernel
theorem dX0_makeTooGreat_16 : decode cX0_makeTooGreat 16 = .ok (.iload_n 1, 1) := by decide +kernel
theorem dX0_makeTooGreat_17 : decode cX0_makeTooGreat 17 = .ok (.iload_n 2, 1) := by decide +kernel
theorem dX0_makeTooGreat_18 : decode cX0_makeTooGreat 18 = .ok (.sipush 32767, 3) := by decide +kernel
theorem dX0_makeTooGreat_21 : decode cX0_makeTooGreat 21 = .ok (.ldc2_w 62, 3) := by decide +kernel
theorem dX0_makeTooGreat_24 : decode cX0_makeTooGreat 24 = .ok (.invokevirtual 109, 3) := by decide +kernel
theorem dX0_makeTooGreat_27 : decode cX0_makeTooGreat 27 = .ok (.aload_n 0, 1) := by decide +kernel
theorem dX0_makeTooGreat_28 : decode cX0_makeTooGreat 28 = .ok (.bipush 40, 2) := by decide +kernel
theorem dX0_makeTooGreat_30 : decode cX0_makeTooGreat 30 = .ok (.iload_n 3, 1) := by decide +kernel
theorem dX0_makeTooGreat_31 : decode cX0_makeTooGreat 31 = .ok (.iconst 1, 1) := by decide +kernel
theorem dX0_makeTooGreat_32 : decode cX0_makeTooGreat 32 = .ok (.invokevirtual 76, 3) := by decide +kernel
theorem dX0_makeTooGreat_35 : decode cX0_makeTooGreat 35 = .ok (.ireturn, 1) := by decide +kernel
theorem dX0_makeTooGreat_36 : decode cX0_makeTooGreat 36 = .ok (.aload_n 0, 1) := by decide +kernel
theorem dX0_makeTooGreat_37 : decode cX0_makeTooGreat 37 = .ok (.iload_n 1, 1) := by decide +kernel
theorem dX0_makeTooGreat_38 : decode cX0_makeTooGreat 38 = .ok (.iload_n 2, 1) := by decide +kernel
theorem dX0_makeTooGreat_39 : decode cX0_makeTooGreat 39 = .ok (.sipush 32766, 3) := by decide +kernel
theorem dX0_makeTooGreat_42 : decode cX0_makeTooGreat 42 = .ok (.ldc2_w 171, 3) := by decide +kernel
theorem dX0_makeTooGreat_45 : decode cX0_makeTooGreat 45 = .ok (.bipush 64, 2) := by decide +kernel
theorem dX0_makeTooGreat_47 : decode cX0_makeTooGreat 47 = .ok (.aload_n 0, 1) := by decide +kernel
theorem dX0_makeTooGreat_48 : decode cX0_makeTooGreat 48 = .ok (.invokevirtual 149, 3) := by decide +kernel
theorem dX0_makeTooGreat_51 : decode cX0_makeTooGreat 51 = .ok (.isub, 1) := by decide +kernel
theorem dX0_makeTooGreat_52 : decode cX0_makeTooGreat 52 = .ok (.lshl, 1) := by decide +kernel
theorem dX0_makeTooGreat_53 : decode cX0_makeTooGreat 53 = .ok (.invokevirtual 109, 3) := by decide +kernel
theorem dX0_makeTooGreat_56 : decode cX0_makeTooGreat 56 = .ok (.aload_n 0, 1) := by decide +kernel
theorem dX0_makeTooGreat_57 : decode cX0_makeTooGreat 57 = .ok (.bipush 40, 2) := by decide +kernel
theorem dX0_makeTooGreat_59 : decode cX0_makeTooGreat 59 = .ok (.iload_n 3, 1) := by decide +kernel
theorem dX0_makeTooGreat_60 : decode cX0_makeTooGreat 60 = .ok (.iconst (-1), 1) := by decide +kernel
theorem dX0_makeTooGreat_61 : decode cX0_makeTooGreat 61 = .ok (.invokevirtual 76, 3) := by decide +kernel
theorem dX0_makeTooGreat_64 : decode cX0_makeTooGreat 64 = .ok (.ireturn, 1) := by decide +kernel
theorem dX0_again_0 : decode cX0_again 0 = .ok (.iload_n 1, 1) := by decide +kernel
theorem dX0_again_1 : decode cX0_again 1 = .ok (.invokestatic 34, 3) := by decide +kernel
theorem dX0_again_4 : decode cX0_again 4 = .ok (.ifCond .ne 10, 3) := by decide +kernel
theorem dX0_again_7 : decode cX0_again 7 = .ok (.iload_n 2, 1) := by decide +kernel
theorem dX0_again_8 : decode cX0_again 8 = .ok (.invokestatic 34, 3) := by decide +kernel
theorem dX0_again_11 : decode cX0_again 11 = .ok (.ifCond .eq 13, 3) := by decide +kernel
theorem dX0_again_14 : decode cX0_again 14 = .ok (.new 37, 3) := by decide +kernel
theorem dX0_again_17 : decode cX0_again 17 = .ok (.dup, 1) := by decide +kernel
theorem dX0_again_18 : decode cX0_again 18 = .ok (.ldc 39, 2) := by decide +kernel
theorem dX0_again_20 : decode cX0_again 20 = .ok (.invokespecial 41, 3) := by decide +kernel
theorem dX0_again_23 : decode cX0_again 23 = .ok (.athrow, 1) := by decide +kernel
theorem dX0_again_24 : decode cX0_again 24 = .ok (.aload_n 0, 1) := by decide +kernel
theorem dX0_again_25 : decode cX0_again 25 = .ok (.iload_n 1, 1) := by decide +kernel
theorem dX0_again_26 : decode cX0_again 26 = .ok (.invokevirtual 48, 3) := by decide +kernel
theorem dX0_again_29 : decode cX0_again 29 = .ok (.istore_n 3, 1) := by decide +kernel
theorem dX0_again_30 : decode cX0_again 30 = .ok (.iload_n 3, 1) := by decide +kernel
theorem dX0_again_31 : decode cX0_again 31 = .ok (.iconst 4, 1) := by decide +kernel
theorem dX0_again_32 : decode cX0_again 32 = .ok (.if_icmp .eq 8, 3) := by decide +kernel
theorem dX0_again_35 : decode cX0_again 35 = .ok (.iload_n 3, 1) := by decide +kernel
theorem dX0_again_36 : decode cX0_again 36 = .ok (.iconst 5, 1) := by decide +kernel
theorem dX0_again_37 : decode cX0_again 37 = .ok (.if_icmp .ne 17, 3) := by decide +kernel
theorem dX0_again_40 : decode cX0_again 40 = .ok (.aload_n 0, 1) := by decide +kernel
theorem dX0_again_41 : decode cX0_again 41 = .ok (.iload_n 1, 1) := by decide +kernel
theorem dX0_again_42 : decode cX0_again 42 = .ok (.iload_n 2, 1) := by decide +kernel
theorem dX0_again_43 : decode cX0_again 43 = .ok (.invokevirtual 72, 3) := by decide +kernel
theorem dX0_again_46 : decode cX0_again 46 = .ok (.aload_n 0, 1) := by decide +kernel
theorem dX0_again_47 : decode cX0_again 47 = .ok (.iconst 0, 1) := by decide +kernel
theorem dX0_again_48 : decode cX0_again 48 = .ok (.iconst 0, 1) := by decide +kernel
theorem dX0_again_49 : decode cX0_again 49 = .ok (.iconst 0, 1) := by decide +kernel
theorem dX0_again_50 : decode cX0_again 50 = .ok (.invokevirtual 76, 3) := by decide +kernel
theorem dX0_again_53 : decode cX0_again 53 = .ok (.ireturn, 1) := by decide +kernel
theorem dX0_again_54 : decode cX0_again 54 = .ok (.aload_n 0, 1) := by decide +kernel
theorem dX0_again_55 : decode cX0_again 55 = .ok (.getfield 15, 3) := by decide +kernel
theorem dX0_again_58 : decode cX0_again 58 = .ok (.iload_n 1, 1) := by decide +kernel
theorem dX0_again_59 : decode cX0_again 59 = .ok (.laload, 1) := by decide +kernel
theorem dX0_again_60 : decode cX0_again 60 = .ok (.lstore 4, 2) := by decide +kernel
theorem dX0_again_62 : decode cX0_again 62 = .ok (.lload 4, 2) := by decide +kernel
theorem dX0_again_64 : decode cX0_again 64 = .ok (.invokestatic 52, 3) := by decide +kernel
theorem dX0_again_67 : decode cX0_again 67 = .ok (.istore 6, 2) := by decide +kernel
theorem dX0_again_69 : decode cX0_again 69 = .ok (.aload_n 0, 1) := by decide +kernel
theorem dX0_again_70 : decode cX0_again 70 = .ok (.iload_n 1, 1) := by decide +kernel
theorem dX0_again_71 : decode cX0_again 71 = .ok (.invokevirtual 80, 3) := by decide +kernel
theorem dX0_again_74 : decode cX0_again 74 = .ok (.iconst 1, 1) := by decide +kernel
theorem dX0_again_75 : decode cX0_again 75 = .ok (.invokestatic 83, 3) := by decide +kernel
theorem dX0_again_78 : decode cX0_again 78 = .ok (.sipush 16383, 3) := by decide +kernel
theorem dX0_again_81 : decode cX0_again 81 = .ok (.isub, 1) := by decide +kernel
theorem dX0_again_82 : decode cX0_again 82 = .ok (.iload 6, 2) := by decide +kernel
theorem dX0_again_84 : decode cX0_again 84 = .ok (.isub, 1) := by decide +kernel
theorem dX0_again_85 : decode cX0_again 85 = .ok (.istore 7, 2) := by decide +kernel
theorem dX0_again_87 : decode cX0_again 87 = .ok (.aload_n 0, 1) := by decide +kernel
theorem dX0_again_88 : decode cX0_again 88 = .ok (.iload_n 2, 1) := by decide +kernel
theorem dX0_again_89 : decode cX0_again 89 = .ok (.aload_n 0, 1) := by decide +kernel
theorem dX0_again_90 : decode cX0_again 90 = .ok (.iload_n 1, 1) := by decide +kernel
theorem dX0_again_91 : decode cX0_again 91 = .ok (.invokevirtual 89, 3) := by decide +kernel
theorem dX0_again_94 : decode cX0_again 94 = .ok (.iload 7, 2) := by decide +kernel
theorem dX0_again_96 : decode cX0_again 96 = .ok (.lload 4, 2) := by decide +kernel
theorem dX0_again_98 : decode cX0_again 98 = .ok (.lconst 0, 1) := by decide +kernel
theorem dX0_again_99 : decode cX0_again 99 = .ok (.iload 6, 2) := by decide +kernel
theorem dX0_again_101 : decode cX0_again 101 = .ok (.invokestatic 64, 3) := by decide +kernel
theorem dX0_again_104 : decode cX0_again 104 = .ok (.lconst 0, 1) := by decide +kernel
theorem dX0_again_105 : decode cX0_again 105 = .ok (.invokevirtual 68, 3) := by decide +kernel
theorem dX0_again_108 : decode cX0_again 108 = .ok (.ireturn, 1) := by decide +kernel
theorem dX0_copy_0 : decode cX0_copy 0 = .ok (.aload_n 0, 1) := by decide +kernel
theorem dX0_copy_1 : decode cX0_copy 1 = .ok (.getfield 11, 3) := by decide +kernel
theorem dX0_copy_4 : decode cX0_copy 4 = .ok (.iload_n 2, 1) := by decide +kernel
theorem dX0_copy_5 : decode cX0_copy 5 = .ok (.aload_n 0, 1) := by decide +kernel
theorem dX0_copy_6 : decode cX0_copy 6 = .ok (.getfield 11, 3) := by decide +kernel
theorem dX0_copy_9 : decode cX0_copy 9 = .ok (.iload_n 1, 1) := by decide +kernel
theorem dX0_copy_10 : decode cX0_copy 10 = .ok (.iaload, 1) := by decide +kernel
theorem dX0_copy_11 : decode cX0_copy 11 = .ok (.iastore, 1) := by decide +kernel
theorem dX0_copy_12 : decode cX0_copy 12 = .ok (.aload_n 0, 1) := by decide +kernel
theorem dX0_copy_13 : decode cX0_copy 13 = .ok (.getfield 15, 3) := by decide +kernel
theorem dX0_copy_16 : decode cX0_copy 16 = .ok (.iload_n 2, 1) := by decide +kernel
theorem dX0_copy_17 : decode cX0_copy 17 = .ok (.aload_n 0, 1) := by decide +kernel
theorem dX0_copy_18 : decode cX0_copy 18 = .ok (.getfield 15, 3) := by decide +kernel
theorem dX0_copy_21 : decode cX0_copy 21 = .ok (.iload_n 1, 1) := by decide +kernel
theorem dX0_copy_22 : decode cX0_copy 22 = .ok (.laload, 1) := by decide +kernel
theorem dX0_copy_23 : decode cX0_copy 23 = .ok (.lastore, 1) := by decide +kernel
theorem dX0_copy_24 : decode cX0_copy 24 = .ok (.return_, 1) := by decide +kernel
theorem dX0_isNegative_0 : decode cX0_isNegative 0 = .ok (.aload_n 0, 1) := by decide +kernel
theorem dX0_isNegative_1 : decode cX0_isNegative 1 = .ok (.getfield 11, 3) := by decide +kernel
theorem dX0_isNegative_4 : decode cX0_isNegative 4 = .ok (.iload_n 1, 1) := by decide +kernel
theorem dX0_isNegative_5 : decode cX0_isNegative 5 = .ok (.iaload, 1) := by decide +kernel
theorem dX0_isNegative_6 : decode cX0_isNegative 6 = .ok (.ldc 129, 2) := by decide +kernel
theorem dX0_isNegative_8 : decode cX0_isNegative 8 = .ok (.iand, 1) := by decide +kernel
theorem dX0_isNegative_9 : decode cX0_isNegative 9 = .ok (.ifCond .eq 7, 3) := by decide +kernel
theorem dX0_isNegative_12 : decode cX0_isNegative 12 = .ok (.iconst 1, 1) := by decide +kernel
theorem dX0_isNegative_13 : decode cX0_isNegative 13 = .ok (.goto 4, 3) := by decide +kernel
theorem dX0_isNegative_16 : decode cX0_isNegative 16 = .ok (.iconst 0, 1) := by decide +kernel
theorem dX0_isNegative_17 : decode cX0_isNegative 17 = .ok (.ireturn, 1) := by decide +kernel
theorem dX0_last_0 : decode cX0_last 0 = .ok (.iload_n 1, 1) := by decide +kernel
theorem dX0_last_1 : decode cX0_last 1 = .ok (.tableswitch 42 0 2 #[27, 32, 37], 27) := by decide +kernel
theorem dX0_last_28 : decode cX0_last 28 = .ok (.aload_n 0, 1) := by decide +kernel
theorem dX0_last_29 : decode cX0_last 29 = .ok (.getfield 92, 3) := by decide +kernel
theorem dX0_last_32 : decode cX0_last 32 = .ok (.ireturn, 1) := by decide +kernel
theorem dX0_last_33 : decode cX0_last 33 = .ok (.aload_n 0, 1) := by decide +kernel
theorem dX0_last_34 : decode cX0_last 34 = .ok (.getfield 95, 3) := by decide +kernel
theorem dX0_last_37 : decode cX0_last 37 = .ok (.ireturn, 1) := by decide +kernel
theorem dX0_last_38 : decode cX0_last 38 = .ok (.aload_n 0, 1) := by decide +kernel
theorem dX0_last_39 : decode cX0_last 39 = .ok (.getfield 98, 3) := by decide +kernel
theorem dX0_last_42 : decode cX0_last 42 = .ok (.ireturn, 1) := by decide +kernel
theorem dX0_last_43 : decode cX0_last 43 = .ok (.new 27, 3) := by decide +kernel
theorem dX0_last_46 : decode cX0_last 46 = .ok (.dup, 1) := by decide +kernel
theorem dX0_last_47 : decode cX0_last 47 = .ok (.ldc 101, 2) := by decide +kernel
theorem dX0_last_49 : decode cX0_last 49 = .ok (.invokespecial 31, 3) := by decide +kernel
theorem dX0_last_52 : decode cX0_last 52 = .ok (.athrow, 1) := by decide +kernel
theorem dX0_compare_0 : decode cX0_compare 0 = .ok (.iload_n 1, 1) := by decide +kernel
theorem dX0_compare_1 : decode cX0_compare 1 = .ok (.invokestatic 34, 3) := by decide +kernel
theorem dX0_compare_4 : decode cX0_compare 4 = .ok (.ifCond .ne 10, 3) := by decide +kernel
theorem dX0_compare_7 : decode cX0_compare 7 = .ok (.iload_n 2, 1) := by decide +kernel
theorem dX0_compare_8 : decode cX0_compare 8 = .ok (.invokestatic 34, 3) := by decide +kernel
theorem dX0_compare_11 : decode cX0_compare 11 = .ok (.ifCond .eq 13, 3) := by decide +kernel
theorem dX0_compare_14 : decode cX0_compare 14 = .ok (.new 37, 3) := by decide +kernel
theorem dX0_compare_17 : decode cX0_compare 17 = .ok (.dup, 1) := by decide +kernel
theorem dX0_compare_18 : decode cX0_compare 18 = .ok (.ldc 39, 2) := by decide +kernel
theorem dX0_compare_20 : decode cX0_compare 20 = .ok (.invokespecial 41, 3) := by decide +kernel
theorem dX0_compare_23 : decode cX0_compare 23 = .ok (.athrow, 1) := by decide +kernel
theorem dX0_compare_24 : decode cX0_compare 24 = .ok (.aload_n 0, 1) := by decide +kernel
theorem dX0_compare_25 : decode cX0_compare 25 = .ok (.iload_n 1, 1) := by decide +kernel
theorem dX0_compare_26 : decode cX0_compare 26 = .ok (.invokevirtual 48, 3) := by decide +kernel
theorem dX0_compare_29 : decode cX0_compare 29 = .ok (.iconst 5, 1) := by decide +kernel
theorem dX0_compare_30 : decode cX0_compare 30 = .ok (.if_icmp .eq 12, 3) := by decide +kernel
theorem dX0_compare_33 : decode cX0_compare 33 = .ok (.aload_n 0, 1) := by decide +kernel
theorem dX0_compare_34 : decode cX0_compare 34 = .ok (.iload_n 2, 1) := by decide +kernel
theorem dX0_compare_35 : decode cX0_compare 35 = .ok (.invokevirtual 48, 3) := by decide +kernel
theorem dX0_compare_38 : decode cX0_compare 38 = .ok (.iconst 5, 1) := by decide +kernel
theorem dX0_compare_39 : decode cX0_compare 39 = .ok (.if_icmp .ne 5, 3) := by decide +kernel
theorem dX0_compare_42 : decode cX0_compare 42 = .ok (.iconst 2, 1) := by decide +kernel
theorem dX0_compare_43 : decode cX0_compare 43 = .ok (.ireturn, 1) := by decide +kernel
theorem dX0_compare_44 : decode cX0_compare 44 = .ok (.aload_n 0, 1) := by decide +kernel
theorem dX0_compare_45 : decode cX0_compare 45 = .ok (.iload_n 1, 1) := by decide +kernel
theorem dX0_compare_46 : decode cX0_compare 46 = .ok (.invokevirtual 103, 3) := by decide +kernel
theorem dX0_compare_49 : decode cX0_compare 49 = .ok (.istore_n 3, 1) := by decide +kernel
theorem dX0_compare_50 : decode cX0_compare 50 = .ok (.aload_n 0, 1) := by decide +kernel
theorem dX0_compare_51 : decode cX0_compare 51 = .ok (.iload_n 2, 1) := by decide +kernel
theorem dX0_compare_52 : decode cX0_compare 52 = .ok (.invokevirtual 103, 3) := by decide +kernel
theorem dX0_compare_55 : decode cX0_compare 55 = .ok (.istore 4, 2) := by decide +kernel
theorem dX0_compare_57 : decode cX0_compare 57 = .ok (.iload_n 3, 1) := by decide +kernel
theorem dX0_compare_58 : decode cX0_compare 58 = .ok (.iload 4, 2) := by decide +kernel
theorem dX0_compare_60 : decode cX0_compare 60 = .ok (.if_icmp .eq 15, 3) := by decide +kernel
theorem dX0_compare_63 : decode cX0_compare 63 = .ok (.iload_n 3, 1) := by decide +kernel
theorem dX0_compare_64 : decode cX0_compare 64 = .ok (.iload 4, 2) := by decide +kernel
theorem dX0_compare_66 : decode cX0_compare 66 = .ok (.if_icmp .ge 7, 3) := by decide +kernel
theorem dX0_compare_69 : decode cX0_compare 69 = .ok (.iconst (-1), 1) := by decide +kernel
theorem dX0_compare_70 : decode cX0_compare 70 = .ok (.goto 4, 3) := by decide +kernel
theorem dX0_compare_73 : decode cX0_compare 73 = .ok (.iconst 1, 1) := by decide +kernel
theorem dX0_compare_74 : decode cX0_compare 74 = .ok (.ireturn, 1) := by decide +kernel
theorem dX0_compare_75 : decode cX0_compare 75 = .ok (.iload_n 3, 1) := by decide +kernel
theorem dX0_compare_76 : decode cX0_compare 76 = .ok (.aload_n 0, 1) := by decide +kernel
theorem dX0_compare_77 : decode cX0_compare 77 = .ok (.iload_n 1, 1) := by decide +kernel
theorem dX0_compare_78 : decode cX0_compare 78 = .ok (.iload_n 2, 1) := by decide +kernel
theorem dX0_compare_79 : decode cX0_compare 79 = .ok (.invokevirtual 106, 3) := by decide +kernel
theorem dX0_compare_82 : decode cX0_compare 82 = .ok (.imul, 1) := by decide +kernel
theorem dX0_compare_83 : decode cX0_compare 83 = .ok (.ireturn, 1) := by decide +kernel
theorem dX0_signum_0 : decode cX0_signum 0 = .ok (.aload_n 0, 1) := by decide +kernel
theorem dX0_signum_1 : decode cX0_signum 1 = .ok (.iload_n 1, 1) := by decide +kernel
theorem dX0_signum_2 : decode cX0_signum 2 = .ok (.invokevirtual 48, 3) := by decide +kernel
theorem dX0_signum_5 : decode cX0_signum 5 = .ok (.iconst 4, 1) := by decide +kernel
theorem dX0_signum_6 : decode cX0_signum 6 = .ok (.if_icmp .eq 16, 3) := by decide +kernel
theorem dX0_signum_9 : decode cX0_signum 9 = .ok (.aload_n 0, 1) := by decide +kernel
theorem dX0_signum_10 : decode cX0_signum 10 = .ok (.getfield 15, 3) := by decide +kernel
theorem dX0_signum_13 : decode cX0_signum 13 = .ok (.iload_n 1, 1) := by decide +kernel
theorem dX0_signum_14 : decode cX0_signum 14 = .ok (.laload, 1) := by decide +kernel
theorem dX0_signum_15 : decode cX0_signum 15 = .ok (.lconst 0, 1) := by decide +kernel
theorem dX0_signum_16 : decode cX0_signum 16 = .ok (.lcmp, 1) := by decide +kernel
theorem dX0_signum_17 : decode cX0_signum 17 = .ok (.ifCond .ne 5, 3) := by decide +kernel
theorem dX0_signum_20 : decode cX0_signum 20 = .ok (.iconst 0, 1) := by decide +kernel
theorem dX0_signum_21 : decode cX0_signum 21 = .ok (.ireturn, 1) := by decide +kernel
theorem dX0_signum_22 : decode cX0_signum 22 = .ok (.aload_n 0, 1) := by decide +kernel
theorem dX0_signum_23 : decode cX0_signum 23 = .ok (.iload_n 1, 1) := by decide +kernel
theorem dX0_signum_24 : decode cX0_signum 24 = .ok (.invokevirtual 89, 3) := by decide +kernel
theorem dX0_signum_27 : decode cX0_signum 27 = .ok (.ifCond .eq 7, 3) := by decide +kernel
theorem dX0_signum_30 : decode cX0_signum 30 = .ok (.iconst (-1), 1) := by decide +kernel
theorem dX0_signum_31 : decode cX0_signum 31 = .ok (.goto 4, 3) := by decide +kernel
theorem dX0_signum_34 : decode cX0_signum 34 = .ok (.iconst 1, 1) := by decide +kernel
theorem dX0_signum_35 : decode cX0_signum 35 = .ok (.ireturn, 1) := by decide +kernel
theorem dX0_compareSizes_0 : decode cX0_compareSizes 0 = .ok (.aload_n 0, 1) := by decide +kernel
theorem dX0_compareSizes_1 : decode cX0_compareSizes 1 = .ok (.iload_n 1, 1) := by decide +kernel
theorem dX0_compareSizes_2 : decode cX0_compareSizes 2 = .ok (.invokevirtual 113, 3) := by decide +kernel
theorem dX0_compareSizes_5 : decode cX0_compareSizes 5 = .ok (.istore_n 3, 1) := by decide +kernel
theorem dX0_compareSizes_6 : decode cX0_compareSizes 6 = .ok (.aload_n 0, 1) := by decide +kernel
theorem dX0_compareSizes_7 : decode cX0_compareSizes 7 = .ok (.iload_n 2, 1) := by decide +kernel
theorem dX0_compareSizes_8 : decode cX0_compareSizes 8 = .ok (.invokevirtual 113, 3) := by decide +kernel
theorem dX0_compareSizes_11 : decode cX0_compareSizes 11 = .ok (.istore 4, 2) := by decide +kernel
theorem dX0_compareSizes_13 : decode cX0_compareSizes 13 = .ok (.iload_n 3, 1) := by decide +kernel
theorem dX0_compareSizes_14 : decode cX0_compareSizes 14 = .ok (.iload 4, 2) := by decide +kernel
theorem dX0_compareSizes_16 : decode cX0_compareSizes 16 = .ok (.if_icmp .eq 15, 3) := by decide +kernel
theorem dX0_compareSizes_19 : decode cX0_compareSizes 19 = .ok (.iload_n 3, 1) := by decide +kernel
theorem dX0_compareSizes_20 : decode cX0_compareSizes 20 = .ok (.iload 4, 2) := by decide +kernel
theorem dX0_compareSizes_22 : decode cX0_compareSizes 22 = .ok (.if_icmp .ge 7, 3) := by decide +kernel
theorem dX0_compareSizes_25 : decode cX0_compareSizes 25 = .ok (.iconst (-1), 1) := by decide +kernel
theorem dX0_compareSizes_26 : decode cX0_compareSizes 26 = .ok (.goto 4, 3) := by decide +kernel
theorem dX0_compareSizes_29 : decode cX0_compareSizes 29 = .ok (.iconst 1, 1) := by decide +kernel
theorem dX0_compareSizes_30 : decode cX0_compareSizes 30 = .ok (.ireturn, 1) := by decide +kernel
theorem dX0_compareSizes_31 : decode cX0_compareSizes 31 = .ok (.aload_n 0, 1) := by decide +kernel
theorem dX0_compareSizes_32 : decode cX0_compareSizes 32 = .ok (.iload_n 1, 1) := by decide +kernel
theorem dX0_compareSizes_33 : decode cX0_compareSizes 33 = .ok (.invokevirtual 116, 3) := by decide +kernel
theorem dX0_compareSizes_36 : decode cX0_compareSizes 36 = .ok (.aload_n 0, 1) := by decide +kernel
theorem dX0_compareSizes_37 : decode cX0_compareSizes 37 = .ok (.iload_n 2, 1) := by decide +kernel
theorem dX0_compareSizes_38 : decode cX0_compareSizes 38 = .ok (.invokevirtual 116, 3) := by decide +kernel
theorem dX0_compareSizes_41 : decode cX0_compareSizes 41 = .ok (.invokestatic 173, 3) := by decide +kernel
theorem dX0_compareSizes_44 : decode cX0_compareSizes 44 = .ok (.invokestatic 177, 3) := by decide +kernel
theorem dX0_compareSizes_47 : decode cX0_compareSizes 47 = .ok (.ireturn, 1) := by decide +kernel
theorem dX0_plainPower_0 : decode cX0_plainPower 0 = .ok (.aload_n 0, 1) := by decide +kernel
theorem dX0_plainPower_1 : decode cX0_plainPower 1 = .ok (.iload_n 1, 1) := by decide +kernel
theorem dX0_plainPower_2 : decode cX0_plainPower 2 = .ok (.invokevirtual 80, 3) := by decide +kernel
theorem dX0_plainPower_5 : decode cX0_plainPower 5 = .ok (.sipush 32767, 3) := by decide +kernel
theorem dX0_plainPower_8 : decode cX0_plainPower 8 = .ok (.if_icmp .ne 7, 3) := by decide +kernel
theorem dX0_plainPower_11 : decode cX0_plainPower 11 = .ok (.sipush 32767, 3) := by decide +kernel
theorem dX0_plainPower_14 : decode cX0_plainPower 14 = .ok (.ireturn, 1) := by decide +kernel
theorem dX0_plainPower_15 : decode cX0_plainPower 15 = .ok (.aload_n 0, 1) := by decide +kernel
theorem dX0_plainPower_16 : decode cX0_plainPower 16 = .ok (.iload_n 1, 1) := by decide +kernel
theorem dX0_plainPower_17 : decode cX0_plainPower 17 = .ok (.invokevirtual 116, 3) := by decide +kernel
theorem dX0_plainPower_20 : decode cX0_plainPower 20 = .ok (.lconst 0, 1) := by decide +kernel
theorem dX0_plainPower_21 : decode cX0_plainPower 21 = .ok (.lcmp, 1) := by decide +kernel
theorem dX0_plainPower_22 : decode cX0_plainPower 22 = .ok (.ifCond .ge 21, 3) := by decide +kernel
theorem dX0_plainPower_25 : decode cX0_plainPower 25 = .ok (.aload_n 0, 1) := by decide +kernel
theorem dX0_plainPower_26 : decode cX0_plainPower 26 = .ok (.iload_n 1, 1) := by decide +kernel
theorem dX0_plainPower_27 : decode cX0_plainPower 27 = .ok (.invokevirtual 80, 3) := by decide +kernel
theorem dX0_plainPower_30 : decode cX0_plainPower 30 = .ok (.iconst 1, 1) := by decide +kernel
theorem dX0_plainPower_31 : decode cX0_plainPower 31 = .ok (.invokestatic 83, 3) := by decide +kernel
theorem dX0_plainPower_34 : decode cX0_plainPower 34 = .ok (.aload_n 0, 1) := by decide +kernel
theorem dX0_plainPower_35 : decode cX0_plainPower 35 = .ok (.iload_n 1, 1) := by decide +kernel
theorem dX0_plainPower_36 : decode cX0_plainPower 36 = .ok (.invokevirtual 183, 3) := by decide +kernel
theorem dX0_plainPower_39 : decode cX0_plainPower 39 = .ok (.isub, 1) := by decide +kernel
theorem dX0_plainPower_40 : decode cX0_plainPower 40 = .ok (.goto 4, 3) := by decide +kernel
theorem dX0_plainPower_43 : decode cX0_plainPower 43 = .ok (.iconst 0, 1) := by decide +kernel
theorem dX0_plainPower_44 : decode cX0_plainPower 44 = .ok (.ireturn, 1) := by decide +kernel
theorem dX0_plainFraction_0 : decode cX0_plainFraction 0 = .ok (.aload_n 0, 1) := by decide +kernel
theorem dX0_plainFraction_1 : decode cX0_plainFraction 1 = .ok (.iload_n 1, 1) := by decide +kernel
theorem dX0_plainFraction_2 : decode cX0_plainFraction 2 = .ok (.invokevirtual 80, 3) := by decide +kernel
theorem dX0_plainFraction_5 : decode cX0_plainFraction 5 = .ok (.sipush 32767, 3) := by decide +kernel
theorem dX0_plainFraction_8 : decode cX0_plainFraction 8 = .ok (.if_icmp .ne 7, 3) := by decide +kernel
theorem dX0_plainFraction_11 : decode cX0_plainFraction 11 = .ok (.ldc2_w 62, 3) := by decide +kernel
theorem dX0_plainFraction_14 : decode cX0_plainFraction 14 = .ok (.lreturn, 1) := by decide +kernel
theorem dX0_plainFraction_15 : decode cX0_plainFraction 15 = .ok (.aload_n 0, 1) := by decide +kernel
theorem dX0_plainFraction_16 : decode cX0_plainFraction 16 = .ok (.getfield 15, 3) := by decide +kernel
theorem dX0_plainFraction_19 : decode cX0_plainFraction 19 = .ok (.iload_n 1, 1) := by decide +kernel
theorem dX0_plainFraction_20 : decode cX0_plainFraction 20 = .ok (.laload, 1) := by decide +kernel
theorem dX0_plainFraction_21 : decode cX0_plainFraction 21 = .ok (.lconst 0, 1) := by decide +kernel
theorem dX0_plainFraction_22 : decode cX0_plainFraction 22 = .ok (.aload_n 0, 1) := by decide +kernel
theorem dX0_plainFraction_23 : decode cX0_plainFraction 23 = .ok (.iload_n 1, 1) := by decide +kernel
theorem dX0_plainFraction_24 : decode cX0_plainFraction 24 = .ok (.invokevirtual 183, 3) := by decide +kernel
theorem dX0_plainFraction_27 : decode cX0_plainFraction 27 = .ok (.invokestatic 64, 3) := by decide +kernel
theorem dX0_plainFraction_30 : decode cX0_plainFraction 30 = .ok (.lreturn, 1) := by decide +kernel
theorem dX0_plainShift_0 : decode cX0_plainShift 0 = .ok (.aload_n 0, 1) := by decide +kernel
theorem dX0_plainShift_1 : decode cX0_plainShift 1 = .ok (.getfield 15, 3) := by decide +kernel
theorem dX0_plainShift_4 : decode cX0_plainShift 4 = .ok (.iload_n 1, 1) := by decide +kernel
theorem dX0_plainShift_5 : decode cX0_plainShift 5 = .ok (.laload, 1) := by decide +kernel
theorem dX0_plainShift_6 : decode cX0_plainShift 6 = .ok (.invokestatic 52, 3) := by decide +kernel
theorem dX0_plainShift_9 : decode cX0_plainShift 9 = .ok (.aload_n 0, 1) := by decide +kernel
theorem dX0_plainShift_10 : decode cX0_plainShift 10 = .ok (.iload_n 1, 1) := by decide +kernel
theorem dX0_plainShift_11 : decode cX0_plainShift 11 = .ok (.invokevirtual 80, 3) := by decide +kernel
theorem dX0_plainShift_14 : decode cX0_plainShift 14 = .ok (.iconst 1, 1) := by decide +kernel
theorem dX0_plainShift_15 : decode cX0_plainShift 15 = .ok (.invokestatic 83, 3) := by decide +kernel
theorem dX0_plainShift_18 : decode cX0_plainShift 18 = .ok (.iconst 1, 1) := by decide +kernel
theorem dX0_plainShift_19 : decode cX0_plainShift 19 = .ok (.isub, 1) := by decide +kernel
theorem dX0_plainShift_20 : decode cX0_plainShift 20 = .ok (.invokestatic 180, 3) := by decide +kernel
theorem dX0_plainShift_23 : decode cX0_plainShift 23 = .ok (.ireturn, 1) := by decide +kernel
theorem dJL_compareUnsigned_0 : decode cJL_compareUnsigned 0 = .ok (.lload_n 0, 1) := by decide +kernel
theorem dJL_compareUnsigned_1 : decode cJL_compareUnsigned 1 = .ok (.ldc2_w 168, 3) := by decide +kernel
theorem dJL_compareUnsigned_4 : decode cJL_compareUnsigned 4 = .ok (.ladd, 1) := by decide +kernel
theorem dJL_compareUnsigned_5 : decode cJL_compareUnsigned 5 = .ok (.lload_n 2, 1) := by decide +kernel
theorem dJL_compareUnsigned_6 : decode cJL_compareUnsigned 6 = .ok (.ldc2_w 168, 3) := by decide +kernel
theorem dJL_compareUnsigned_9 : decode cJL_compareUnsigned 9 = .ok (.ladd, 1) := by decide +kernel
theorem dJL_compareUnsigned_10 : decode cJL_compareUnsigned 10 = .ok (.invokestatic 302, 3) := by decide +kernel
theorem dJL_compareUnsigned_13 : decode cJL_compareUnsigned 13 = .ok (.ireturn, 1) := by decide +kernel
theorem dJL_compare_0 : decode cJL_compare 0 = .ok (.lload_n 0, 1) := by decide +kernel
theorem dJL_compare_1 : decode cJL_compare 1 = .ok (.lload_n 2, 1) := by decide +kernel
theorem dJL_compare_2 : decode cJL_compare 2 = .ok (.lcmp, 1) := by decide +kernel
theorem dJL_compare_3 : decode cJL_compare 3 = .ok (.ifCond .ge 7, 3) := by decide +kernel
theorem dJL_compare_6 : decode cJL_compare 6 = .ok (.iconst (-1), 1) := by decide +kernel
theorem dJL_compare_7 : decode cJL_compare 7 = .ok (.goto 14, 3) := by decide +kernel
theorem dJL_compare_10 : decode cJL_compare 10 = .ok (.lload_n 0, 1) := by decide +kernel
theorem dJL_compare_11 : decode cJL_compare 11 = .ok (.lload_n 2, 1) := by decide +kernel
theorem dJL_compare_12 : decode cJL_compare 12 = .ok (.lcmp, 1) := by decide +kernel
theorem dJL_compare_13 : decode cJL_compare 13 = .ok (.ifCond .ne 7, 3) := by decide +kernel
theorem dJL_compare_16 : decode cJL_compare 16 = .ok (.iconst 0, 1) := by decide +kernel
theorem dJL_compare_17 : decode cJL_compare 17 = .ok (.goto 4, 3) := by decide +kernel
theorem dJL_compare_20 : decode cJL_compare 20 = .ok (.iconst 1, 1) := by decide +kernel
theorem dJL_compare_21 : decode cJL_compare 21 = .ok (.ireturn, 1) := by decide +kernel
theorem dJI_signum_0 : decode cJI_signum 0 = .ok (.iload_n 0, 1) := by decide +kernel
theorem dJI_signum_1 : decode cJI_signum 1 = .ok (.bipush 31, 2) := by decide +kernel
theorem dJI_signum_3 : decode cJI_signum 3 = .ok (.ishr, 1) := by decide +kernel
theorem dJI_signum_4 : decode cJI_signum 4 = .ok (.iload_n 0, 1) := by decide +kernel
theorem dJI_signum_5 : decode cJI_signum 5 = .ok (.ineg, 1) := by decide +kernel
theorem dJI_signum_6 : decode cJI_signum 6 = .ok (.bipush 31, 2) := by decide +kernel
theorem dJI_signum_8 : decode cJI_signum 8 = .ok (.iushr, 1) := by decide +kernel
theorem dJI_signum_9 : decode cJI_signum 9 = .ok (.ior, 1) := by decide +kernel
theorem dJI_signum_10 : decode cJI_signum 10 = .ok (.ireturn, 1) := by decide +kernel
theorem dX0_neighbour_0 : decode cX0_neighbour 0 = .ok (.iload_n 1, 1) := by decide +kernel
theorem dX0_neighbour_1 : decode cX0_neighbour 1 = .ok (.invokestatic 34, 3) := by decide +kernel
theorem dX0_neighbour_4 : decode cX0_neighbour 4 = .ok (.ifCond .ne 10, 3) := by decide +kernel
theorem dX0_neighbour_7 : decode cX0_neighbour 7 = .ok (.iload_n 3, 1) := by decide +kernel
theorem dX0_neighbour_8 : decode cX0_neighbour 8 = .ok (.invokestatic 34, 3) := by decide +kernel
theorem dX0_neighbour_11 : decode cX0_neighbour 11 = .ok (.ifCond .eq 13, 3) := by decide +kernel
theorem dX0_neighbour_14 : decode cX0_neighbour 14 = .ok (.new 37, 3) := by decide +kernel
theorem dX0_neighbour_17 : decode cX0_neighbour 17 = .ok (.dup, 1) := by decide +kernel
theorem dX0_neighbour_18 : decode cX0_neighbour 18 = .ok (.ldc 39, 2) := by decide +kernel
theorem dX0_neighbour_20 : decode cX0_neighbour 20 = .ok (.invokespecial 41, 3) := by decide +kernel
theorem dX0_neighbour_23 : decode cX0_neighbour 23 = .ok (.athrow, 1) := by decide +kernel
theorem dX0_neighbour_24 : decode cX0_neighbour 24 = .ok (.aload_n 0, 1) := by decide +kernel
theorem dX0_neighbour_25 : decode cX0_neighbour 25 = .ok (.iload_n 1, 1) := by decide +kernel
theorem dX0_neighbour_26 : decode cX0_neighbour 26 = .ok (.invokevirtual 48, 3) := by decide +kernel
theorem dX0_neighbour_29 : decode cX0_neighbour 29 = .ok (.istore 4, 2) := by decide +kernel
theorem dX0_neighbour_31 : decode cX0_neighbour 31 = .ok (.aload_n 0, 1) := by decide +kernel
theorem dX0_neighbour_32 : decode cX0_neighbour 32 = .ok (.iload_n 1, 1) := by decide +kernel
theorem dX0_neighbour_33 : decode cX0_neighbour 33 = .ok (.invokevirtual 89, 3) := by decide +kernel
theorem dX0_neighbour_36 : decode cX0_neighbour 36 = .ok (.istore 5, 2) := by decide +kernel
theorem dX0_neighbour_38 : decode cX0_neighbour 38 = .ok (.iload_n 2, 1) := by decide +kernel
theorem dX0_neighbour_39 : decode cX0_neighbour 39 = .ok (.iload 5, 2) := by decide +kernel
theorem dX0_neighbour_41 : decode cX0_neighbour 41 = .ok (.if_icmp .eq 7, 3) := by decide +kernel
theorem dX0_neighbour_44 : decode cX0_neighbour 44 = .ok (.iconst 1, 1) := by decide +kernel
theorem dX0_neighbour_45 : decode cX0_neighbour 45 = .ok (.goto 4, 3) := by decide +kernel
theorem dX0_neighbour_48 : decode cX0_neighbour 48 = .ok (.iconst 0, 1) := by decide +kernel
theorem dX0_neighbour_49 : decode cX0_neighbour 49 = .ok (.istore 6, 2) := by decide +kernel
theorem dX0_neighbour_51 : decode cX0_neighbour 51 = .ok (.iload 4, 2) := by decide +kernel
theorem dX0_neighbour_53 : decode cX0_neighbour 53 = .ok (.iconst 5, 1) := by decide +kernel
theorem dX0_neighbour_54 : decode cX0_neighbour 54 = .ok (.if_icmp .eq 14, 3) := by decide +kernel
theorem dX0_neighbour_57 : decode cX0_neighbour 57 = .ok (.iload 4, 2) := by decide +kernel
theorem dX0_neighbour_59 : decode cX0_neighbour 59 = .ok (.iconst 4, 1) := by decide +kernel
theorem dX0_neighbour_60 : decode cX0_neighbour 60 = .ok (.if_icmp .ne 17, 3) := by decide +kernel
theorem dX0_neighbour_63 : decode cX0_neighbour 63 = .ok (.iload 6, 2) := by decide +kernel
theorem dX0_neighbour_65 : decode cX0_neighbour 65 = .ok (.ifCond .eq 12, 3) := by decide +kernel
theorem dX0_neighbour_68 : decode cX0_neighbour 68 = .ok (.aload_n 0, 1) := by decide +kernel
theorem dX0_neighbour_69 : decode cX0_neighbour 69 = .ok (.iload_n 1, 1) := by decide +kernel
theorem dX0_neighbour_70 : decode cX0_neighbour 70 = .ok (.iload_n 3, 1) := by decide +kernel
theorem dX0_neighbour_71 : decode cX0_neighbour 71 = .ok (.invokevirtual 72, 3) := by decide +kernel
theorem dX0_neighbour_74 : decode cX0_neighbour 74 = .ok (.goto 72, 3) := by decide +kernel
theorem dX0_neighbour_77 : decode cX0_neighbour 77 = .ok (.aload_n 0, 1) := by decide +kernel
theorem dX0_neighbour_78 : decode cX0_neighbour 78 = .ok (.iload_n 1, 1) := by decide +kernel
theorem dX0_neighbour_79 : decode cX0_neighbour 79 = .ok (.invokevirtual 103, 3) := by decide +kernel
theorem dX0_neighbour_82 : decode cX0_neighbour 82 = .ok (.ifCond .ne 22, 3) := by decide +kernel
theorem dX0_neighbour_85 : decode cX0_neighbour 85 = .ok (.aload_n 0, 1) := by decide +kernel
theorem dX0_neighbour_86 : decode cX0_neighbour 86 = .ok (.iload_n 3, 1) := by decide +kernel
theorem dX0_neighbour_87 : decode cX0_neighbour 87 = .ok (.iload_n 2, 1) := by decide +kernel
theorem dX0_neighbour_88 : decode cX0_neighbour 88 = .ok (.ifCond .ne 7, 3) := by decide +kernel
theorem dX0_neighbour_91 : decode cX0_neighbour 91 = .ok (.iconst 1, 1) := by decide +kernel
theorem dX0_neighbour_92 : decode cX0_neighbour 92 = .ok (.goto 4, 3) := by decide +kernel
theorem dX0_neighbour_95 : decode cX0_neighbour 95 = .ok (.iconst 0, 1) := by decide +kernel
theorem dX0_neighbour_96 : decode cX0_neighbour 96 = .ok (.iconst 0, 1) := by decide +kernel
theorem dX0_neighbour_97 : decode cX0_neighbour 97 = .ok (.lconst 1, 1) := by decide +kernel
theorem dX0_neighbour_98 : decode cX0_neighbour 98 = .ok (.invokevirtual 109, 3) := by decide +kernel
theorem dX0_neighbour_101 : decode cX0_neighbour 101 = .ok (.goto 45, 3) := by decide +kernel
theorem dX0_neighbour_104 : decode cX0_neighbour 104 = .ok (.iload 6, 2) := by decide +kernel
theorem dX0_neighbour_106 : decode cX0_neighbour 106 = .ok (.ifCond .eq 23, 3) := by decide +kernel
theorem dX0_neighbour_109 : decode cX0_neighbour 109 = .ok (.aload_n 0, 1) := by decide +kernel
theorem dX0_neighbour_110 : decode cX0_neighbour 110 = .ok (.iload_n 3, 1) := by decide +kernel
theorem dX0_neighbour_111 : decode cX0_neighbour 111 = .ok (.iload 5, 2) := by decide +kernel
theorem dX0_neighbour_113 : decode cX0_neighbour 113 = .ok (.aload_n 0, 1) := by decide +kernel
theorem dX0_neighbour_114 : decode cX0_neighbour 114 = .ok (.iload_n 1, 1) := by decide +kernel
theorem dX0_neighbour_115 : decode cX0_neighbour 115 = .ok (.invokevirtual 113, 3) := by decide +kernel
theorem dX0_neighbour_118 : decode cX0_neighbour 118 = .ok (.aload_n 0, 1) := by decide +kernel
theorem dX0_neighbour_119 : decode cX0_neighbour 119 = .ok (.iload_n 1, 1) := by decide +kernel
theorem dX0_neighbour_120 : decode cX0_neighbour 120 = .ok (.invokevirtual 116, 3) := by decide +kernel
theorem dX0_neighbour_123 : decode cX0_neighbour 123 = .ok (.invokevirtual 120, 3) := by decide +kernel
theorem dX0_neighbour_126 : decode cX0_neighbour 126 = .ok (.goto 20, 3) := by decide +kernel
theorem dX0_neighbour_129 : decode cX0_neighbour 129 = .ok (.aload_n 0, 1) := by decide +kernel
theorem dX0_neighbour_130 : decode cX0_neighbour 130 = .ok (.iload_n 3, 1) := by decide +kernel
theorem dX0_neighbour_131 : decode cX0_neighbour 131 = .ok (.iload 5, 2) := by decide +kernel
theorem dX0_neighbour_133 : decode cX0_neighbour 133 = .ok (.aload_n 0, 1) := by decide +kernel
theorem dX0_neighbour_134 : decode cX0_neighbour 134 = .ok (.iload_n 1, 1) := by decide +kernel
theorem dX0_neighbour_135 : decode cX0_neighbour 135 = .ok (.invokevirtual 113, 3) := by decide +kernel
theorem dX0_neighbour_138 : decode cX0_neighbour 138 = .ok (.aload_n 0, 1) := by decide +kernel
theorem dX0_neighbour_139 : decode cX0_neighbour 139 = .ok (.iload_n 1, 1) := by decide +kernel
theorem dX0_neighbour_140 : decode cX0_neighbour 140 = .ok (.invokevirtual 116, 3) := by decide +kernel
theorem dX0_neighbour_143 : decode cX0_neighbour 143 = .ok (.invokevirtual 123, 3) := by decide +kernel
theorem dX0_neighbour_146 : decode cX0_neighbour 146 = .ok (.return_, 1) := by decide +kernel
theorem dX0_storeNextGreater_0 : decode cX0_storeNextGreater 0 = .ok (.lload 4, 2) := by decide +kernel
theorem dX0_storeNextGreater_2 : decode cX0_storeNextGreater 2 = .ok (.ldc2_w 171, 3) := by decide +kernel
theorem dX0_storeNextGreater_5 : decode cX0_storeNextGreater 5 = .ok (.lcmp, 1) := by decide +kernel
theorem dX0_storeNextGreater_6 : decode cX0_storeNextGreater 6 = .ok (.ifCond .ne 18, 3) := by decide +kernel
theorem dX0_storeNextGreater_9 : decode cX0_storeNextGreater 9 = .ok (.aload_n 0, 1) := by decide +kernel
theorem dX0_storeNextGreater_10 : decode cX0_storeNextGreater 10 = .ok (.iload_n 1, 1) := by decide +kernel
theorem dX0_storeNextGreater_11 : decode cX0_storeNextGreater 11 = .ok (.iload_n 2, 1) := by decide +kernel
theorem dX0_storeNextGreater_12 : decode cX0_storeNextGreater 12 = .ok (.iload_n 3, 1) := by decide +kernel
theorem dX0_storeNextGreater_13 : decode cX0_storeNextGreater 13 = .ok (.iconst 1, 1) := by decide +kernel
theorem dX0_storeNextGreater_14 : decode cX0_storeNextGreater 14 = .ok (.iadd, 1) := by decide +kernel
theorem dX0_storeNextGreater_15 : decode cX0_storeNextGreater 15 = .ok (.ldc2_w 62, 3) := by decide +kernel
theorem dX0_storeNextGreater_18 : decode cX0_storeNextGreater 18 = .ok (.invokevirtual 109, 3) := by decide +kernel
theorem dX0_storeNextGreater_21 : decode cX0_storeNextGreater 21 = .ok (.goto 33, 3) := by decide +kernel
theorem dX0_storeNextGreater_24 : decode cX0_storeNextGreater 24 = .ok (.lload 4, 2) := by decide +kernel
theorem dX0_storeNextGreater_26 : decode cX0_storeNextGreater 26 = .ok (.lconst 1, 1) := by decide +kernel
theorem dX0_storeNextGreater_27 : decode cX0_storeNextGreater 27 = .ok (.ladd, 1) := by decide +kernel
theorem dX0_storeNextGreater_28 : decode cX0_storeNextGreater 28 = .ok (.lstore 6, 2) := by decide +kernel
theorem dX0_storeNextGreater_30 : decode cX0_storeNextGreater 30 = .ok (.aload_n 0, 1) := by decide +kernel
theorem dX0_storeNextGreater_31 : decode cX0_storeNextGreater 31 = .ok (.iload_n 1, 1) := by decide +kernel
theorem dX0_storeNextGreater_32 : decode cX0_storeNextGreater 32 = .ok (.iload_n 2, 1) := by decide +kernel
theorem dX0_storeNextGreater_33 : decode cX0_storeNextGreater 33 = .ok (.lload 6, 2) := by decide +kernel
theorem dX0_storeNextGreater_35 : decode cX0_storeNextGreater 35 = .ok (.lconst 0, 1) := by decide +kernel
theorem dX0_storeNextGreater_36 : decode cX0_storeNextGreater 36 = .ok (.lcmp, 1) := by decide +kernel
theorem dX0_storeNextGreater_37 : decode cX0_storeNextGreater 37 = .ok (.ifCond .ge 11, 3) := by decide +kernel
theorem dX0_storeNextGreater_40 : decode cX0_storeNextGreater 40 = .ok (.iload_n 3, 1) := by decide +kernel
theorem dX0_storeNextGreater_41 : decode cX0_storeNextGreater 41 = .ok (.iconst 1, 1) := by decide +kernel
theorem dX0_storeNextGreater_42 : decode cX0_storeNextGreater 42 = .ok (.invokestatic 83, 3) := by decide +kernel
theorem dX0_storeNextGreater_45 : decode cX0_storeNextGreater 45 = .ok (.goto 4, 3) := by decide +kernel
theorem dX0_storeNextGreater_48 : decode cX0_storeNextGreater 48 = .ok (.iconst 0, 1) := by decide +kernel
theorem dX0_storeNextGreater_49 : decode cX0_storeNextGreater 49 = .ok (.lload 6, 2) := by decide +kernel
theorem dX0_storeNextGreater_51 : decode cX0_storeNextGreater 51 = .ok (.invokevirtual 109, 3) := by decide +kernel
theorem dX0_storeNextGreater_54 : decode cX0_storeNextGreater 54 = .ok (.return_, 1) := by decide +kernel
theorem dX0_storeNextLesser_0 : decode cX0_storeNextLesser 0 = .ok (.lload 4, 2) := by decide +kernel
theorem dX0_storeNextLesser_2 : decode cX0_storeNextLesser 2 = .ok (.ldc2_w 62, 3) := by decide +kernel
theorem dX0_storeNextLesser_5 : decode cX0_storeNextLesser 5 = .ok (.lcmp, 1) := by decide +kernel
theorem dX0_storeNextLesser_6 : decode cX0_storeNextLesser 6 = .ok (.ifCond .ne 23, 3) := by decide +kernel
theorem dX0_storeNextLesser_9 : decode cX0_storeNextLesser 9 = .ok (.iload_n 3, 1) := by decide +kernel
theorem dX0_storeNextLesser_10 : decode cX0_storeNextLesser 10 = .ok (.iconst 1, 1) := by decide +kernel
theorem dX0_storeNextLesser_11 : decode cX0_storeNextLesser 11 = .ok (.if_icmp .le 18, 3) := by decide +kernel
theorem dX0_storeNextLesser_14 : decode cX0_storeNextLesser 14 = .ok (.aload_n 0, 1) := by decide +kernel
theorem dX0_storeNextLesser_15 : decode cX0_storeNextLesser 15 = .ok (.iload_n 1, 1) := by decide +kernel
theorem dX0_storeNextLesser_16 : decode cX0_storeNextLesser 16 = .ok (.iload_n 2, 1) := by decide +kernel
theorem dX0_storeNextLesser_17 : decode cX0_storeNextLesser 17 = .ok (.iload_n 3, 1) := by decide +kernel
theorem dX0_storeNextLesser_18 : decode cX0_storeNextLesser 18 = .ok (.iconst 1, 1) := by decide +kernel
theorem dX0_storeNextLesser_19 : decode cX0_storeNextLesser 19 = .ok (.isub, 1) := by decide +kernel
theorem dX0_storeNextLesser_20 : decode cX0_storeNextLesser 20 = .ok (.ldc2_w 171, 3) := by decide +kernel
theorem dX0_storeNextLesser_23 : decode cX0_storeNextLesser 23 = .ok (.invokevirtual 109, 3) := by decide +kernel
theorem dX0_storeNextLesser_26 : decode cX0_storeNextLesser 26 = .ok (.goto 29, 3) := by decide +kernel
theorem dX0_storeNextLesser_29 : decode cX0_storeNextLesser 29 = .ok (.lload 4, 2) := by decide +kernel
theorem dX0_storeNextLesser_31 : decode cX0_storeNextLesser 31 = .ok (.lconst 1, 1) := by decide +kernel
theorem dX0_storeNextLesser_32 : decode cX0_storeNextLesser 32 = .ok (.lsub, 1) := by decide +kernel
theorem dX0_storeNextLesser_33 : decode cX0_storeNextLesser 33 = .ok (.lstore 6, 2) := by decide +kernel
theorem dX0_storeNextLesser_35 : decode cX0_storeNextLesser 35 = .ok (.aload_n 0, 1) := by decide +kernel
theorem dX0_storeNextLesser_36 : decode cX0_storeNextLesser 36 = .ok (.iload_n 1, 1) := by decide +kernel
theorem dX0_storeNextLesser_37 : decode cX0_storeNextLesser 37 = .ok (.iload_n 2, 1) := by decide +kernel
theorem dX0_storeNextLesser_38 : decode cX0_storeNextLesser 38 = .ok (.lload 6, 2) := by decide +kernel
theorem dX0_storeNextLesser_40 : decode cX0_storeNextLesser 40 = .ok (.lconst 0, 1) := by decide +kernel
theorem dX0_storeNextLesser_41 : decode cX0_storeNextLesser 41 = .ok (.lcmp, 1) := by decide +kernel
theorem dX0_storeNextLesser_42 : decode cX0_storeNextLesser 42 = .ok (.ifCond .ge 7, 3) := by decide +kernel
theorem dX0_storeNextLesser_45 : decode cX0_storeNextLesser 45 = .ok (.iload_n 3, 1) := by decide +kernel
theorem dX0_storeNextLesser_46 : decode cX0_storeNextLesser 46 = .ok (.goto 4, 3) := by decide +kernel
theorem dX0_storeNextLesser_49 : decode cX0_storeNextLesser 49 = .ok (.iconst 0, 1) := by decide +kernel
theorem dX0_storeNextLesser_50 : decode cX0_storeNextLesser 50 = .ok (.lload 6, 2) := by decide +kernel
theorem dX0_storeNextLesser_52 : decode cX0_storeNextLesser 52 = .ok (.invokevirtual 109, 3) := by decide +kernel
theorem dX0_storeNextLesser_55 : decode cX0_storeNextLesser 55 = .ok (.return_, 1) := by decide +kernel
end
section
theorem dX1_init_0 : decode cX1_init 0 = .ok (.aload_n 0, 1) := by decide +kernel
theorem dX1_init_1 : decode cX1_init 1 = .ok (.invokespecial 1, 3) := by decide +kernel
theorem dX1_init_4 : decode cX1_init 4 = .ok (.aload_n 0, 1) := by decide +kernel
theorem dX1_init_5 : decode cX1_init 5 = .ok (.sipush 1023, 3) := by decide +kernel
theorem dX1_init_8 : decode cX1_init 8 = .ok (.putfield 7, 3) := by decide +kernel
theorem dX1_init_11 : decode cX1_init 11 = .ok (.aload_n 0, 1) := by decide +kernel
theorem dX1_init_12 : decode cX1_init 12 = .ok (.bipush 8, 2) := by decide +kernel
theorem dX1_init_14 : decode cX1_init 14 = .ok (.newarray .int, 2) := by decide +kernel
theorem dX1_init_16 : decode cX1_init 16 = .ok (.putfield 13, 3) := by decide +kernel
theorem dX1_init_19 : decode cX1_init 19 = .ok (.aload_n 0, 1) := by decide +kernel
theorem dX1_init_20 : decode cX1_init 20 = .ok (.bipush 8, 2) := by decide +kernel
theorem dX1_init_22 : decode cX1_init 22 = .ok (.newarray .long, 2) := by decide +kernel
theorem dX1_init_24 : decode cX1_init 24 = .ok (.putfield 17, 3) := by decide +kernel
theorem dX1_init_27 : decode cX1_init 27 = .ok (.aload_n 0, 1) := by decide +kernel
theorem dX1_init_28 : decode cX1_init 28 = .ok (.sipush 129, 3) := by decide +kernel
theorem dX1_init_31 : decode cX1_init 31 = .ok (.newarray .int, 2) := by decide +kernel
theorem dX1_init_33 : decode cX1_init 33 = .ok (.putfield 21, 3) := by decide +kernel
theorem dX1_init_36 : decode cX1_init 36 = .ok (.return_, 1) := by decide +kernel
theorem dX1_thrown_0 : decode cX1_thrown 0 = .ok (.aload_n 0, 1) := by decide +kernel
theorem dX1_thrown_1 : decode cX1_thrown 1 = .ok (.getfield 24, 3) := by decide +kernel
theorem dX1_thrown_4 : decode cX1_thrown 4 = .ok (.ireturn, 1) := by decide +kernel
theorem dX1_control_0 : decode cX1_control 0 = .ok (.aload_n 0, 1) := by decide +kernel
theorem dX1_control_1 : decode cX1_control 1 = .ok (.iload_n 1, 1) := by decide +kernel
theorem dX1_control_2 : decode cX1_control 2 = .ok (.ifCond .lt 9, 3) := by decide +kernel
theorem dX1_control_5 : decode cX1_control 5 = .ok (.iload_n 1, 1) := by decide +kernel
theorem dX1_control_6 : decode cX1_control 6 = .ok (.ldc 27, 2) := by decide +kernel
theorem dX1_control_8 : decode cX1_control 8 = .ok (.if_icmp .le 7, 3) := by decide +kernel
theorem dX1_control_11 : decode cX1_control 11 = .ok (.iconst 1, 1) := by decide +kernel
theorem dX1_control_12 : decode cX1_control 12 = .ok (.goto 4, 3) := by decide +kernel
theorem dX1_control_15 : decode cX1_control 15 = .ok (.iconst 0, 1) := by decide +kernel
theorem dX1_control_16 : decode cX1_control 16 = .ok (.putfield 24, 3) := by decide +kernel
theorem dX1_control_19 : decode cX1_control 19 = .ok (.aload_n 0, 1) := by decide +kernel
theorem dX1_control_20 : decode cX1_control 20 = .ok (.getfield 24, 3) := by decide +kernel
theorem dX1_control_23 : decode cX1_control 23 = .ok (.ifCond .ne 8, 3) := by decide +kernel
theorem dX1_control_26 : decode cX1_control 26 = .ok (.aload_n 0, 1) := by decide +kernel
theorem dX1_control_27 : decode cX1_control 27 = .ok (.iload_n 1, 1) := by decide +kernel
theorem dX1_control_28 : decode cX1_control 28 = .ok (.putfield 7, 3) := by decide +kernel
theorem dX1_control_31 : decode cX1_control 31 = .ok (.return_, 1) := by decide +kernel
theorem dX1_set_0 : decode cX1_set 0 = .ok (.aload_n 0, 1) := by decide +kernel
theorem dX1_set_1 : decode cX1_set 1 = .ok (.iload_n 1, 1) := by decide +kernel
theorem dX1_set_2 : decode cX1_set 2 = .ok (.invokestatic 28, 3) := by decide +kernel
theorem dX1_set_5 : decode cX1_set 5 = .ok (.ifCond .eq 7, 3) := by decide +kernel
theorem dX1_set_8 : decode cX1_set 8 = .ok (.iconst 1, 1) := by decide +kernel
theorem dX1_set_9 : decode cX1_set 9 = .ok (.goto 18, 3) := by decide +kernel
theorem dX1_set_12 : decode cX1_set 12 = .ok (.iload_n 2, 1) := by decide +kernel
theorem dX1_set_13 : decode cX1_set 13 = .ok (.ifCond .lt 9, 3) := by decide +kernel
theorem dX1_set_16 : decode cX1_set 16 = .ok (.iload_n 2, 1) := by decide +kernel
theorem dX1_set_17 : decode cX1_set 17 = .ok (.ldc 27, 2) := by decide +kernel
theorem dX1_set_19 : decode cX1_set 19 = .ok (.if_icmp .le 7, 3) := by decide +kernel
theorem dX1_set_22 : decode cX1_set 22 = .ok (.iconst 2, 1) := by decide +kernel
theorem dX1_set_23 : decode cX1_set 23 = .ok (.goto 4, 3) := by decide +kernel
theorem dX1_set_26 : decode cX1_set 26 = .ok (.iconst 0, 1) := by decide +kernel
theorem dX1_set_27 : decode cX1_set 27 = .ok (.putfield 24, 3) := by decide +kernel
theorem dX1_set_30 : decode cX1_set 30 = .ok (.aload_n 0, 1) := by decide +kernel
theorem dX1_set_31 : decode cX1_set 31 = .ok (.getfield 24, 3) := by decide +kernel
theorem dX1_set_34 : decode cX1_set 34 = .ok (.ifCond .le 4, 3) := by decide +kernel
theorem dX1_set_37 : decode cX1_set 37 = .ok (.return_, 1) := by decide +kernel
theorem dX1_set_38 : decode cX1_set 38 = .ok (.aload_n 0, 1) := by decide +kernel
theorem dX1_set_39 : decode cX1_set 39 = .ok (.getfield 13, 3) := by decide +kernel
theorem dX1_set_42 : decode cX1_set 42 = .ok (.iload_n 1, 1) := by decide +kernel
theorem dX1_set_43 : decode cX1_set 43 = .ok (.iload_n 2, 1) := by decide +kernel
theorem dX1_set_44 : decode cX1_set 44 = .ok (.iastore, 1) := by decide +kernel
theorem dX1_set_45 : decode cX1_set 45 = .ok (.aload_n 0, 1) := by decide +kernel
theorem dX1_set_46 : decode cX1_set 46 = .ok (.getfield 17, 3) := by decide +kernel
theorem dX1_set_49 : decode cX1_set 49 = .ok (.iload_n 1, 1) := by decide +kernel
theorem dX1_set_50 : decode cX1_set 50 = .ok (.iload_n 3, 1) := by decide +kernel
theorem dX1_set_51 : decode cX1_set 51 = .ok (.i2l, 1) := by decide +kernel
theorem dX1_set_52 : decode cX1_set 52 = .ok (.ldc2_w 32, 3) := by decide +kernel
theorem dX1_set_55 : decode cX1_set 55 = .ok (.lmul, 1) := by decide +kernel
theorem dX1_set_56 : decode cX1_set 56 = .ok (.iload 4, 2) := by decide +kernel
theorem dX1_set_58 : decode cX1_set 58 = .ok (.i2l, 1) := by decide +kernel
theorem dX1_set_59 : decode cX1_set 59 = .ok (.ldc2_w 34, 3) := by decide +kernel
theorem dX1_set_62 : decode cX1_set 62 = .ok (.land, 1) := by decide +kernel
theorem dX1_set_63 : decode cX1_set 63 = .ok (.ladd, 1) := by decide +kernel
theorem dX1_set_64 : decode cX1_set 64 = .ok (.lastore, 1) := by decide +kernel
theorem dX1_set_65 : decode cX1_set 65 = .ok (.return_, 1) := by decide +kernel
theorem dX1_none_0 : decode cX1_none 0 = .ok (.iload_n 0, 1) := by decide +kernel
theorem dX1_none_1 : decode cX1_none 1 = .ok (.ifCond .lt 9, 3) := by decide +kernel
theorem dX1_none_4 : decode cX1_none 4 = .ok (.iload_n 0, 1) := by decide +kernel
theorem dX1_none_5 : decode cX1_none 5 = .ok (.bipush 7, 2) := by decide +kernel
theorem dX1_none_7 : decode cX1_none 7 = .ok (.if_icmp .le 7, 3) := by decide +kernel
theorem dX1_none_10 : decode cX1_none 10 = .ok (.iconst 1, 1) := by decide +kernel
theorem dX1_none_11 : decode cX1_none 11 = .ok (.goto 4, 3) := by decide +kernel
theorem dX1_none_14 : decode cX1_none 14 = .ok (.iconst 0, 1) := by decide +kernel
theorem dX1_none_15 : decode cX1_none 15 = .ok (.ireturn, 1) := by decide +kernel
theorem dX1_part_0 : decode cX1_part 0 = .ok (.aload_n 0, 1) := by decide +kernel
theorem dX1_part_1 : decode cX1_part 1 = .ok (.iload_n 1, 1) := by decide +kernel
theorem dX1_part_2 : decode cX1_part 2 = .ok (.invokestatic 28, 3) := by decide +kernel
theorem dX1_part_5 : decode cX1_part 5 = .ok (.ifCond .eq 7, 3) := by decide +kernel
theorem dX1_part_8 : decode cX1_part 8 = .ok (.iconst 1, 1) := by decide +kernel
theorem dX1_part_9 : decode cX1_part 9 = .ok (.goto 17, 3) := by decide +kernel
theorem dX1_part_12 : decode cX1_part 12 = .ok (.iload_n 2, 1) := by decide +kernel
theorem dX1_part_13 : decode cX1_part 13 = .ok (.ifCond .lt 8, 3) := by decide +kernel
theorem dX1_part_16 : decode cX1_part 16 = .ok (.iload_n 2, 1) := by decide +kernel
theorem dX1_part_17 : decode cX1_part 17 = .ok (.iconst 4, 1) := by decide +kernel
theorem dX1_part_18 : decode cX1_part 18 = .ok (.if_icmp .le 7, 3) := by decide +kernel
theorem dX1_part_21 : decode cX1_part 21 = .ok (.iconst 2, 1) := by decide +kernel
theorem dX1_part_22 : decode cX1_part 22 = .ok (.goto 4, 3) := by decide +kernel
theorem dX1_part_25 : decode cX1_part 25 = .ok (.iconst 0, 1) := by decide +kernel
theorem dX1_part_26 : decode cX1_part 26 = .ok (.putfield 24, 3) := by decide +kernel
theorem dX1_part_29 : decode cX1_part 29 = .ok (.aload_n 0, 1) := by decide +kernel
theorem dX1_part_30 : decode cX1_part 30 = .ok (.getfield 24, 3) := by decide +kernel
theorem dX1_part_33 : decode cX1_part 33 = .ok (.ifCond .le 5, 3) := by decide +kernel
theorem dX1_part_36 : decode cX1_part 36 = .ok (.iconst 0, 1) := by decide +kernel
theorem dX1_part_37 : decode cX1_part 37 = .ok (.ireturn, 1) := by decide +kernel
theorem dX1_part_38 : decode cX1_part 38 = .ok (.iload_n 2, 1) := by decide +kernel
theorem dX1_part_39 : decode cX1_part 39 = .ok (.ifCond .ne 10, 3) := by decide +kernel
theorem dX1_part_42 : decode cX1_part 42 = .ok (.aload_n 0, 1) := by decide +kernel
theorem dX1_part_43 : decode cX1_part 43 = .ok (.getfield 13, 3) := by decide +kernel
theorem dX1_part_46 : decode cX1_part 46 = .ok (.iload_n 1, 1) := by decide +kernel
theorem dX1_part_47 : decode cX1_part 47 = .ok (.iaload, 1) := by decide +kernel
theorem dX1_part_48 : decode cX1_part 48 = .ok (.ireturn, 1) := by decide +kernel
theorem dX1_part_49 : decode cX1_part 49 = .ok (.iload_n 2, 1) := by decide +kernel
theorem dX1_part_50 : decode cX1_part 50 = .ok (.iconst 1, 1) := by decide +kernel
theorem dX1_part_51 : decode cX1_part 51 = .ok (.if_icmp .ne 14, 3) := by decide +kernel
theorem dX1_part_54 : decode cX1_part 54 = .ok (.aload_n 0, 1) := by decide +kernel
theorem dX1_part_55 : decode cX1_part 55 = .ok (.getfield 17, 3) := by decide +kernel
theorem dX1_part_58 : decode cX1_part 58 = .ok (.iload_n 1, 1) := by decide +kernel
theorem dX1_part_59 : decode cX1_part 59 = .ok (.laload, 1) := by decide +kernel
theorem dX1_part_60 : decode cX1_part 60 = .ok (.bipush 32, 2) := by decide +kernel
theorem dX1_part_62 : decode cX1_part 62 = .ok (.lshr, 1) := by decide +kernel
theorem dX1_part_63 : decode cX1_part 63 = .ok (.l2i, 1) := by decide +kernel
theorem dX1_part_64 : decode cX1_part 64 = .ok (.ireturn, 1) := by decide +kernel
theorem dX1_part_65 : decode cX1_part 65 = .ok (.iload_n 2, 1) := by decide +kernel
theorem dX1_part_66 : decode cX1_part 66 = .ok (.iconst 2, 1) := by decide +kernel
theorem dX1_part_67 : decode cX1_part 67 = .ok (.if_icmp .ne 11, 3) := by decide +kernel
theorem dX1_part_70 : decode cX1_part 70 = .ok (.aload_n 0, 1) := by decide +kernel
theorem dX1_part_71 : decode cX1_part 71 = .ok (.getfield 17, 3) := by decide +kernel
theorem dX1_part_74 : decode cX1_part 74 = .ok (.iload_n 1, 1) := by decide +kernel
theorem dX1_part_75 : decode cX1_part 75 = .ok (.laload, 1) := by decide +kernel
theorem dX1_part_76 : decode cX1_part 76 = .ok (.l2i, 1) := by decide +kernel
theorem dX1_part_77 : decode cX1_part 77 = .ok (.ireturn, 1) := by decide +kernel
theorem dX1_part_78 : decode cX1_part 78 = .ok (.iload_n 2, 1) := by decide +kernel
theorem dX1_part_79 : decode cX1_part 79 = .ok (.iconst 3, 1) := by decide +kernel
theorem dX1_part_80 : decode cX1_part 80 = .ok (.if_icmp .ne 9, 3) := by decide +kernel
theorem dX1_part_83 : decode cX1_part 83 = .ok (.aload_n 0, 1) := by decide +kernel
theorem dX1_part_84 : decode cX1_part 84 = .ok (.iload_n 1, 1) := by decide +kernel
theorem dX1_part_85 : decode cX1_part 85 = .ok (.invokevirtual 39, 3) := by decide +kernel
theorem dX1_part_88 : decode cX1_part 88 = .ok (.ireturn, 1) := by decide +kernel
theorem dX1_part_89 : decode cX1_part 89 = .ok (.iconst 0, 1) := by decide +kernel
theorem dX1_part_90 : decode cX1_part 90 = .ok (.istore_n 3, 1) := by decide +kernel
theorem dX1_part_91 : decode cX1_part 91 = .ok (.iload_n 3, 1) := by decide +kernel
theorem dX1_part_92 : decode cX1_part 92 = .ok (.bipush 64, 2) := by decide +kernel
theorem dX1_part_94 : decode cX1_part 94 = .ok (.if_icmp .ge 27, 3) := by decide +kernel
theorem dX1_part_97 : decode cX1_part 97 = .ok (.aload_n 0, 1) := by decide +kernel
theorem dX1_part_98 : decode cX1_part 98 = .ok (.getfield 17, 3) := by decide +kernel
theorem dX1_part_101 : decode cX1_part 101 = .ok (.iload_n 1, 1) := by decide +kernel
theorem dX1_part_102 : decode cX1_part 102 = .ok (.laload, 1) := by decide +kernel
theorem dX1_part_103 : decode cX1_part 103 = .ok (.bipush 63, 2) := by decide +kernel
theorem dX1_part_105 : decode cX1_part 105 = .ok (.iload_n 3, 1) := by decide +kernel
theorem dX1_part_106 : decode cX1_part 106 = .ok (.isub, 1) := by decide +kernel
theorem dX1_part_107 : decode cX1_part 107 = .ok (.lshr, 1) := by decide +kernel
theorem dX1_part_108 : decode cX1_part 108 = .ok (.lconst 1, 1) := by decide +kernel
theorem dX1_part_109 : decode cX1_part 109 = .ok (.land, 1) := by decide +kernel
theorem dX1_part_110 : decode cX1_part 110 = .ok (.lconst 0, 1) := by decide +kernel
theorem dX1_part_111 : decode cX1_part 111 = .ok (.lcmp, 1) := by decide +kernel
theorem dX1_part_112 : decode cX1_part 112 = .ok (.ifCond .ne 9, 3) := by decide +kernel
theorem dX1_part_115 : decode cX1_part 115 = .ok (.iinc 3 1, 3) := by decide +kernel
theorem dX1_part_118 : decode cX1_part 118 = .ok (.goto (-27), 3) := by decide +kernel
theorem dX1_part_121 : decode cX1_part 121 = .ok (.iload_n 3, 1) := by decide +kernel
theorem dX1_part_122 : decode cX1_part 122 = .ok (.ireturn, 1) := by decide +kernel
theorem dX1_kind_0 : decode cX1_kind 0 = .ok (.aload_n 0, 1) := by decide +kernel
theorem dX1_kind_1 : decode cX1_kind 1 = .ok (.getfield 13, 3) := by decide +kernel
theorem dX1_kind_4 : decode cX1_kind 4 = .ok (.iload_n 1, 1) := by decide +kernel
theorem dX1_kind_5 : decode cX1_kind 5 = .ok (.iaload, 1) := by decide +kernel
theorem dX1_kind_6 : decode cX1_kind 6 = .ok (.ldc 36, 2) := by decide +kernel
theorem dX1_kind_8 : decode cX1_kind 8 = .ok (.irem, 1) := by decide +kernel
theorem dX1_kind_9 : decode cX1_kind 9 = .ok (.istore_n 2, 1) := by decide +kernel
theorem dX1_kind_10 : decode cX1_kind 10 = .ok (.aload_n 0, 1) := by decide +kernel
theorem dX1_kind_11 : decode cX1_kind 11 = .ok (.getfield 17, 3) := by decide +kernel
theorem dX1_kind_14 : decode cX1_kind 14 = .ok (.iload_n 1, 1) := by decide +kernel
theorem dX1_kind_15 : decode cX1_kind 15 = .ok (.laload, 1) := by decide +kernel
theorem dX1_kind_16 : decode cX1_kind 16 = .ok (.lconst 0, 1) := by decide +kernel
theorem dX1_kind_17 : decode cX1_kind 17 = .ok (.lcmp, 1) := by decide +kernel
theorem dX1_kind_18 : decode cX1_kind 18 = .ok (.ifCond .eq 16, 3) := by decide +kernel
theorem dX1_kind_21 : decode cX1_kind 21 = .ok (.aload_n 0, 1) := by decide +kernel
theorem dX1_kind_22 : decode cX1_kind 22 = .ok (.getfield 17, 3) := by decide +kernel
theorem dX1_kind_25 : decode cX1_kind 25 = .ok (.iload_n 1, 1) := by decide +kernel
theorem dX1_kind_26 : decode cX1_kind 26 = .ok (.laload, 1) := by decide +kernel
theorem dX1_kind_27 : decode cX1_kind 27 = .ok (.ldc2_w 37, 3) := by decide +kernel
theorem dX1_kind_30 : decode cX1_kind 30 = .ok (.lcmp, 1) := by decide +kernel
theorem dX1_kind_31 : decode cX1_kind 31 = .ok (.ifCond .ne 7, 3) := by decide +kernel
theorem dX1_kind_34 : decode cX1_kind 34 = .ok (.iconst 1, 1) := by decide +kernel
theorem dX1_kind_35 : decode cX1_kind 35 = .ok (.goto 4, 3) := by decide +kernel
theorem dX1_kind_38 : decode cX1_kind 38 = .ok (.iconst 0, 1) := by decide +kernel
theorem dX1_kind_39 : decode cX1_kind 39 = .ok (.istore_n 3, 1) := by decide +kernel
theorem dX1_kind_40 : decode cX1_kind 40 = .ok (.iload_n 2, 1) := by decide +kernel
theorem dX1_kind_41 : decode cX1_kind 41 = .ok (.sipush 32767, 3) := by decide +kernel
theorem dX1_kind_44 : decode cX1_kind 44 = .ok (.if_icmp .ne 13, 3) := by decide +kernel
theorem dX1_kind_47 : decode cX1_kind 47 = .ok (.iload_n 3, 1) := by decide +kernel
theorem dX1_kind_48 : decode cX1_kind 48 = .ok (.ifCond .eq 7, 3) := by decide +kernel
theorem dX1_kind_51 : decode cX1_kind 51 = .ok (.iconst 4, 1) := by decide +kernel
theorem dX1_kind_52 : decode cX1_kind 52 = .ok (.goto 4, 3) := by decide +kernel
theorem dX1_kind_55 : decode cX1_kind 55 = .ok (.iconst 5, 1) := by decide +kernel
theorem dX1_kind_56 : decode cX1_kind 56 = .ok (.ireturn, 1) := by decide +kernel
theorem dX1_kind_57 : decode cX1_kind 57 = .ok (.iload_n 2, 1) := by decide +kernel
theorem dX1_kind_58 : decode cX1_kind 58 = .ok (.ifCond .ne 20, 3) := by decide +kernel
theorem dX1_kind_61 : decode cX1_kind 61 = .ok (.aload_n 0, 1) := by decide +kernel
theorem dX1_kind_62 : decode cX1_kind 62 = .ok (.getfield 17, 3) := by decide +kernel
theorem dX1_kind_65 : decode cX1_kind 65 = .ok (.iload_n 1, 1) := by decide +kernel
theorem dX1_kind_66 : decode cX1_kind 66 = .ok (.laload, 1) := by decide +kernel
theorem dX1_kind_67 : decode cX1_kind 67 = .ok (.lconst 0, 1) := by decide +kernel
theorem dX1_kind_68 : decode cX1_kind 68 = .ok (.lcmp, 1) := by decide +kernel
theorem dX1_kind_69 : decode cX1_kind 69 = .ok (.ifCond .ne 7, 3) := by decide +kernel
theorem dX1_kind_72 : decode cX1_kind 72 = .ok (.iconst 0, 1) := by decide +kernel
theorem dX1_kind_73 : decode cX1_kind 73 = .ok (.goto 4, 3) := by decide +kernel
theorem dX1_kind_76 : decode cX1_kind 76 = .ok (.iconst 1, 1) := by decide +kernel
theorem dX1_kind_77 : decode cX1_kind 77 = .ok (.ireturn, 1) := by decide +kernel
theorem dX1_kind_78 : decode cX1_kind 78 = .ok (.aload_n 0, 1) := by decide +kernel
theorem dX1_kind_79 : decode cX1_kind 79 = .ok (.getfield 17, 3) := by decide +kernel
theorem dX1_kind_82 : decode cX1_kind 82 = .ok (.iload_n 1, 1) := by decide +kernel
theorem dX1_kind_83 : decode cX1_kind 83 = .ok (.laload, 1) := by decide +kernel
theorem dX1_kind_84 : decode cX1_kind 84 = .ok (.lconst 0, 1) := by decide +kernel
theorem dX1_kind_85 : decode cX1_kind 85 = .ok (.lcmp, 1) := by decide +kernel
theorem dX1_kind_86 : decode cX1_kind 86 = .ok (.ifCond .ge 7, 3) := by decide +kernel
theorem dX1_kind_89 : decode cX1_kind 89 = .ok (.iconst 3, 1) := by decide +kernel
theorem dX1_kind_90 : decode cX1_kind 90 = .ok (.goto 4, 3) := by decide +kernel
theorem dX1_kind_93 : decode cX1_kind 93 = .ok (.iconst 2, 1) := by decide +kernel
theorem dX1_kind_94 : decode cX1_kind 94 = .ok (.ireturn, 1) := by decide +kernel
theorem dX1_make_0 : decode cX1_make 0 = .ok (.aload_n 0, 1) := by decide +kernel
theorem dX1_make_1 : decode cX1_make 1 = .ok (.iload_n 1, 1) := by decide +kernel
theorem dX1_make_2 : decode cX1_make 2 = .ok (.invokestatic 28, 3) := by decide +kernel
theorem dX1_make_5 : decode cX1_make 5 = .ok (.ifCond .eq 7, 3) := by decide +kernel
theorem dX1_make_8 : decode cX1_make 8 = .ok (.iconst 1, 1) := by decide +kernel
theorem dX1_make_9 : decode cX1_make 9 = .ok (.goto 20, 3) := by decide +kernel
theorem dX1_make_12 : decode cX1_make 12 = .ok (.iload_n 3, 1) := by decide +kernel
theorem dX1_make_13 : decode cX1_make 13 = .ok (.ldc 87, 2) := by decide +kernel
theorem dX1_make_15 : decode cX1_make 15 = .ok (.if_icmp .lt 9, 3) := by decide +kernel
theorem dX1_make_18 : decode cX1_make 18 = .ok (.iload_n 3, 1) := by decide +kernel
theorem dX1_make_19 : decode cX1_make 19 = .ok (.ldc 88, 2) := by decide +kernel
theorem dX1_make_21 : decode cX1_make 21 = .ok (.if_icmp .le 7, 3) := by decide +kernel
theorem dX1_make_24 : decode cX1_make 24 = .ok (.iconst 2, 1) := by decide +kernel
theorem dX1_make_25 : decode cX1_make 25 = .ok (.goto 4, 3) := by decide +kernel
theorem dX1_make_28 : decode cX1_make 28 = .ok (.iconst 0, 1) := by decide +kernel
theorem dX1_make_29 : decode cX1_make 29 = .ok (.putfield 24, 3) := by decide +kernel
theorem dX1_make_32 : decode cX1_make 32 = .ok (.aload_n 0, 1) := by decide +kernel
theorem dX1_make_33 : decode cX1_make 33 = .ok (.getfield 24, 3) := by decide +kernel
theorem dX1_make_36 : decode cX1_make 36 = .ok (.ifCond .le 5, 3) := by decide +kernel
theorem dX1_make_39 : decode cX1_make 39 = .ok (.iconst 0, 1) := by decide +kernel
theorem dX1_make_40 : decode cX1_make 40 = .ok (.ireturn, 1) := by decide +kernel
theorem dX1_make_41 : decode cX1_make 41 = .ok (.iconst 0, 1) := by decide +kernel
theorem dX1_make_42 : decode cX1_make 42 = .ok (.istore 9, 2) := by decide +kernel
theorem dX1_make_44 : decode cX1_make 44 = .ok (.iload 9, 2) := by decide +kernel
theorem dX1_make_46 : decode cX1_make 46 = .ok (.sipush 128, 3) := by decide +kernel
theorem dX1_make_49 : decode cX1_make 49 = .ok (.if_icmp .ge 69, 3) := by decide +kernel
theorem dX1_make_52 : decode cX1_make 52 = .ok (.iload 9, 2) := by decide +kernel
theorem dX1_make_54 : decode cX1_make 54 = .ok (.bipush 32, 2) := by decide +kernel
theorem dX1_make_56 : decode cX1_make 56 = .ok (.if_icmp .ge 8, 3) := by decide +kernel
theorem dX1_make_59 : decode cX1_make 59 = .ok (.iload 4, 2) := by decide +kernel
theorem dX1_make_61 : decode cX1_make 61 = .ok (.goto 29, 3) := by decide +kernel
theorem dX1_make_64 : decode cX1_make 64 = .ok (.iload 9, 2) := by decide +kernel
theorem dX1_make_66 : decode cX1_make 66 = .ok (.bipush 64, 2) := by decide +kernel
theorem dX1_make_68 : decode cX1_make 68 = .ok (.if_icmp .ge 8, 3) := by decide +kernel
theorem dX1_make_71 : decode cX1_make 71 = .ok (.iload 5, 2) := by decide +kernel
theorem dX1_make_73 : decode cX1_make 73 = .ok (.goto 17, 3) := by decide +kernel
theorem dX1_make_76 : decode cX1_make 76 = .ok (.iload 9, 2) := by decide +kernel
theorem dX1_make_78 : decode cX1_make 78 = .ok (.bipush 96, 2) := by decide +kernel
theorem dX1_make_80 : decode cX1_make 80 = .ok (.if_icmp .ge 8, 3) := by decide +kernel
theorem dX1_make_83 : decode cX1_make 83 = .ok (.iload 6, 2) := by decide +kernel
theorem dX1_make_85 : decode cX1_make 85 = .ok (.goto 5, 3) := by decide +kernel
theorem dX1_make_88 : decode cX1_make 88 = .ok (.iload 7, 2) := by decide +kernel
theorem dX1_make_90 : decode cX1_make 90 = .ok (.istore 10, 2) := by decide +kernel
theorem dX1_make_92 : decode cX1_make 92 = .ok (.aload_n 0, 1) := by decide +kernel
theorem dX1_make_93 : decode cX1_make 93 = .ok (.getfield 21, 3) := by decide +kernel
theorem dX1_make_96 : decode cX1_make 96 = .ok (.iload 9, 2) := by decide +kernel
theorem dX1_make_98 : decode cX1_make 98 = .ok (.iload 10, 2) := by decide +kernel
theorem dX1_make_100 : decode cX1_make 100 = .ok (.bipush 31, 2) := by decide +kernel
theorem dX1_make_102 : decode cX1_make 102 = .ok (.iload 9, 2) := by decide +kernel
theorem dX1_make_104 : decode cX1_make 104 = .ok (.bipush 32, 2) := by decide +kernel
theorem dX1_make_106 : decode cX1_make 106 = .ok (.irem, 1) := by decide +kernel
theorem dX1_make_107 : decode cX1_make 107 = .ok (.isub, 1) := by decide +kernel
theorem dX1_make_108 : decode cX1_make 108 = .ok (.ishr, 1) := by decide +kernel
theorem dX1_make_109 : decode cX1_make 109 = .ok (.iconst 1, 1) := by decide +kernel
theorem dX1_make_110 : decode cX1_make 110 = .ok (.iand, 1) := by decide +kernel
theorem dX1_make_111 : decode cX1_make 111 = .ok (.iastore, 1) := by decide +kernel
theorem dX1_make_112 : decode cX1_make 112 = .ok (.iinc 9 1, 3) := by decide +kernel
theorem dX1_make_115 : decode cX1_make 115 = .ok (.goto (-71), 3) := by decide +kernel
theorem dX1_make_118 : decode cX1_make 118 = .ok (.aload_n 0, 1) := by decide +kernel
theorem dX1_make_119 : decode cX1_make 119 = .ok (.getfield 21, 3) := by decide +kernel
theorem dX1_make_122 : decode cX1_make 122 = .ok (.sipush 128, 3) := by decide +kernel
theorem dX1_make_125 : decode cX1_make 125 = .ok (.iload 8, 2) := by decide +kernel
theorem dX1_make_127 : decode cX1_make 127 = .ok (.ifCond .eq 7, 3) := by decide +kernel
theorem dX1_make_130 : decode cX1_make 130 = .ok (.iconst 1, 1) := by decide +kernel
theorem dX1_make_131 : decode cX1_make 131 = .ok (.goto 4, 3) := by decide +kernel
theorem dX1_make_134 : decode cX1_make 134 = .ok (.iconst 0, 1) := by decide +kernel
theorem dX1_make_135 : decode cX1_make 135 = .ok (.iastore, 1) := by decide +kernel
theorem dX1_make_136 : decode cX1_make 136 = .ok (.aload_n 0, 1) := by decide +kernel
theorem dX1_make_137 : decode cX1_make 137 = .ok (.iload_n 3, 1) := by decide +kernel
theorem dX1_make_138 : decode cX1_make 138 = .ok (.bipush 127, 2) := by decide +kernel
theorem dX1_make_140 : decode cX1_make 140 = .ok (.iadd, 1) := by decide +kernel
theorem dX1_make_141 : decode cX1_make 141 = .ok (.putfield 50, 3) := by decide +kernel
theorem dX1_make_144 : decode cX1_make 144 = .ok (.aload_n 0, 1) := by decide +kernel
theorem dX1_make_145 : decode cX1_make 145 = .ok (.iload_n 2, 1) := by decide +kernel
theorem dX1_make_146 : decode cX1_make 146 = .ok (.putfield 55, 3) := by decide +kernel
theorem dX1_make_149 : decode cX1_make 149 = .ok (.aload_n 0, 1) := by decide +kernel
theorem dX1_make_150 : decode cX1_make 150 = .ok (.invokevirtual 89, 3) := by decide +kernel
theorem dX1_make_153 : decode cX1_make 153 = .ok (.aload_n 0, 1) := by decide +kernel
theorem dX1_make_154 : decode cX1_make 154 = .ok (.iload_n 1, 1) := by decide +kernel
theorem dX1_make_155 : decode cX1_make 155 = .ok (.invokevirtual 92, 3) := by decide +kernel
theorem dX1_make_158 : decode cX1_make 158 = .ok (.ireturn, 1) := by decide +kernel
theorem dX1_make0_0 : decode cX1_make0 0 = .ok (.aload_n 0, 1) := by decide +kernel
theorem dX1_make0_1 : decode cX1_make0 1 = .ok (.iconst 0, 1) := by decide +kernel
theorem dX1_make0_2 : decode cX1_make0 2 = .ok (.putfield 73, 3) := by decide +kernel
theorem dX1_make0_5 : decode cX1_make0 5 = .ok (.aload_n 0, 1) := by decide +kernel
theorem dX1_make0_6 : decode cX1_make0 6 = .ok (.iconst 0, 1) := by decide +kernel
theorem dX1_make0_7 : decode cX1_make0 7 = .ok (.putfield 59, 3) := by decide +kernel
theorem dX1_make0_10 : decode cX1_make0 10 = .ok (.aload_n 0, 1) := by decide +kernel
theorem dX1_make0_11 : decode cX1_make0 11 = .ok (.iconst 0, 1) := by decide +kernel
theorem dX1_make0_12 : decode cX1_make0 12 = .ok (.putfield 76, 3) := by decide +kernel
theorem dX1_make0_15 : decode cX1_make0 15 = .ok (.aload_n 0, 1) := by decide +kernel
theorem dX1_make0_16 : decode cX1_make0 16 = .ok (.iconst 0, 1) := by decide +kernel
theorem dX1_make0_17 : decode cX1_make0 17 = .ok (.putfield 47, 3) := by decide +kernel
theorem dX1_make0_20 : decode cX1_make0 20 = .ok (.aload_n 0, 1) := by decide +kernel
theorem dX1_make0_21 : decode cX1_make0 21 = .ok (.getfield 47, 3) := by decide +kernel
theorem dX1_make0_24 : decode cX1_make0 24 = .ok (.sipush 129, 3) := by decide +kernel
theorem dX1_make0_27 : decode cX1_make0 27 = .ok (.if_icmp .ge 28, 3) := by decide +kernel
theorem dX1_make0_30 : decode cX1_make0 30 = .ok (.aload_n 0, 1) := by decide +kernel
theorem dX1_make0_31 : decode cX1_make0 31 = .ok (.getfield 21, 3) := by decide +kernel
theorem dX1_make0_34 : decode cX1_make0 34 = .ok (.aload_n 0, 1) := by decide +kernel
theorem dX1_make0_35 : decode cX1_make0 35 = .ok (.getfield 47, 3) := by decide +kernel
theorem dX1_make0_38 : decode cX1_make0 38 = .ok (.iaload, 1) := by decide +kernel
theorem dX1_make0_39 : decode cX1_make0 39 = .ok (.ifCond .ne 16, 3) := by decide +kernel
theorem dX1_make0_42 : decode cX1_make0 42 = .ok (.aload_n 0, 1) := by decide +kernel
theorem dX1_make0_43 : decode cX1_make0 43 = .ok (.dup, 1) := by decide +kernel
theorem dX1_make0_44 : decode cX1_make0 44 = .ok (.getfield 47, 3) := by decide +kernel
theorem dX1_make0_47 : decode cX1_make0 47 = .ok (.iconst 1, 1) := by decide +kernel
theorem dX1_make0_48 : decode cX1_make0 48 = .ok (.iadd, 1) := by decide +kernel
theorem dX1_make0_49 : decode cX1_make0 49 = .ok (.putfield 47, 3) := by decide +kernel
theorem dX1_make0_52 : decode cX1_make0 52 = .ok (.goto (-32), 3) := by decide +kernel
theorem dX1_make0_55 : decode cX1_make0 55 = .ok (.aload_n 0, 1) := by decide +kernel
theorem dX1_make0_56 : decode cX1_make0 56 = .ok (.getfield 47, 3) := by decide +kernel
theorem dX1_make0_59 : decode cX1_make0 59 = .ok (.sipush 129, 3) := by decide +kernel
theorem dX1_make0_62 : decode cX1_make0 62 = .ok (.if_icmp .ne 10, 3) := by decide +kernel
theorem dX1_make0_65 : decode cX1_make0 65 = .ok (.aload_n 0, 1) := by decide +kernel
theorem dX1_make0_66 : decode cX1_make0 66 = .ok (.iconst 0, 1) := by decide +kernel
theorem dX1_make0_67 : decode cX1_make0 67 = .ok (.lconst 0, 1) := by decide +kernel
theorem dX1_make0_68 : decode cX1_make0 68 = .ok (.invokevirtual 79, 3) := by decide +kernel
theorem dX1_make0_71 : decode cX1_make0 71 = .ok (.return_, 1) := by decide +kernel
theorem dX1_make0_72 : decode cX1_make0 72 = .ok (.aload_n 0, 1) := by decide +kernel
theorem dX1_make0_73 : decode cX1_make0 73 = .ok (.getfield 7, 3) := by decide +kernel
theorem dX1_make0_76 : decode cX1_make0 76 = .ok (.bipush 8, 2) := by decide +kernel
theorem dX1_make0_78 : decode cX1_make0 78 = .ok (.ishr, 1) := by decide +kernel
theorem dX1_make0_79 : decode cX1_make0 79 = .ok (.iconst 3, 1) := by decide +kernel
theorem dX1_make0_80 : decode cX1_make0 80 = .ok (.iand, 1) := by decide +kernel
theorem dX1_make0_81 : decode cX1_make0 81 = .ok (.ifCond .ne 8, 3) := by decide +kernel
theorem dX1_make0_84 : decode cX1_make0 84 = .ok (.bipush 24, 2) := by decide +kernel
theorem dX1_make0_86 : decode cX1_make0 86 = .ok (.goto 23, 3) := by decide +kernel
theorem dX1_make0_89 : decode cX1_make0 89 = .ok (.aload_n 0, 1) := by decide +kernel
theorem dX1_make0_90 : decode cX1_make0 90 = .ok (.getfield 7, 3) := by decide +kernel
theorem dX1_make0_93 : decode cX1_make0 93 = .ok (.bipush 8, 2) := by decide +kernel
theorem dX1_make0_95 : decode cX1_make0 95 = .ok (.ishr, 1) := by decide +kernel
theorem dX1_make0_96 : decode cX1_make0 96 = .ok (.iconst 3, 1) := by decide +kernel
theorem dX1_make0_97 : decode cX1_make0 97 = .ok (.iand, 1) := by decide +kernel
theorem dX1_make0_98 : decode cX1_make0 98 = .ok (.iconst 2, 1) := by decide +kernel
theorem dX1_make0_99 : decode cX1_make0 99 = .ok (.if_icmp .ne 8, 3) := by decide +kernel
theorem dX1_make0_102 : decode cX1_make0 102 = .ok (.bipush 53, 2) := by decide +kernel
theorem dX1_make0_104 : decode cX1_make0 104 = .ok (.goto 5, 3) := by decide +kernel
theorem dX1_make0_107 : decode cX1_make0 107 = .ok (.bipush 64, 2) := by decide +kernel
theorem dX1_make0_109 : decode cX1_make0 109 = .ok (.istore_n 1, 1) := by decide +kernel
theorem dX1_make0_110 : decode cX1_make0 110 = .ok (.aload_n 0, 1) := by decide +kernel
theorem dX1_make0_111 : decode cX1_make0 111 = .ok (.getfield 50, 3) := by decide +kernel
theorem dX1_make0_114 : decode cX1_make0 114 = .ok (.aload_n 0, 1) := by decide +kernel
theorem dX1_make0_115 : decode cX1_make0 115 = .ok (.getfield 47, 3) := by decide +kernel
theorem dX1_make0_118 : decode cX1_make0 118 = .ok (.isub, 1) := by decide +kernel
theorem dX1_make0_119 : decode cX1_make0 119 = .ok (.istore_n 2, 1) := by decide +kernel
theorem dX1_make0_120 : decode cX1_make0 120 = .ok (.aload_n 0, 1) := by decide +kernel
theorem dX1_make0_121 : decode cX1_make0 121 = .ok (.iload_n 2, 1) := by decide +kernel
theorem dX1_make0_122 : decode cX1_make0 122 = .ok (.putfield 76, 3) := by decide +kernel
theorem dX1_make0_125 : decode cX1_make0 125 = .ok (.iload_n 2, 1) := by decide +kernel
theorem dX1_make0_126 : decode cX1_make0 126 = .ok (.sipush (-16382), 3) := by decide +kernel
theorem dX1_make0_129 : decode cX1_make0 129 = .ok (.if_icmp .ge 7, 3) := by decide +kernel
theorem dX1_make0_132 : decode cX1_make0 132 = .ok (.iconst 1, 1) := by decide +kernel
theorem dX1_make0_133 : decode cX1_make0 133 = .ok (.goto 4, 3) := by decide +kernel
theorem dX1_make0_136 : decode cX1_make0 136 = .ok (.iconst 0, 1) := by decide +kernel
theorem dX1_make0_137 : decode cX1_make0 137 = .ok (.istore_n 3, 1) := by decide +kernel
theorem dX1_make0_138 : decode cX1_make0 138 = .ok (.iload_n 3, 1) := by decide +kernel
theorem dX1_make0_139 : decode cX1_make0 139 = .ok (.ifCond .eq 88, 3) := by decide +kernel
theorem dX1_make0_142 : decode cX1_make0 142 = .ok (.aload_n 0, 1) := by decide +kernel
theorem dX1_make0_143 : decode cX1_make0 143 = .ok (.getfield 7, 3) := by decide +kernel
theorem dX1_make0_146 : decode cX1_make0 146 = .ok (.bipush 16, 2) := by decide +kernel
theorem dX1_make0_148 : decode cX1_make0 148 = .ok (.iand, 1) := by decide +kernel
theorem dX1_make0_149 : decode cX1_make0 149 = .ok (.ifCond .eq 78, 3) := by decide +kernel
theorem dX1_make0_152 : decode cX1_make0 152 = .ok (.aload_n 0, 1) := by decide +kernel
theorem dX1_make0_153 : decode cX1_make0 153 = .ok (.sipush (-16381), 3) := by decide +kernel
theorem dX1_make0_156 : decode cX1_make0 156 = .ok (.iload_n 1, 1) := by decide +kernel
theorem dX1_make0_157 : decode cX1_make0 157 = .ok (.isub, 1) := by decide +kernel
theorem dX1_make0_158 : decode cX1_make0 158 = .ok (.invokevirtual 83, 3) := by decide +kernel
theorem dX1_make0_161 : decode cX1_make0 161 = .ok (.aload_n 0, 1) := by decide +kernel
theorem dX1_make0_162 : decode cX1_make0 162 = .ok (.getfield 43, 3) := by decide +kernel
theorem dX1_make0_165 : decode cX1_make0 165 = .ok (.lstore 4, 2) := by decide +kernel
theorem dX1_make0_167 : decode cX1_make0 167 = .ok (.iload_n 1, 1) := by decide +kernel
theorem dX1_make0_168 : decode cX1_make0 168 = .ok (.istore 6, 2) := by decide +kernel
theorem dX1_make0_170 : decode cX1_make0 170 = .ok (.iload 6, 2) := by decide +kernel
theorem dX1_make0_172 : decode cX1_make0 172 = .ok (.bipush 64, 2) := by decide +kernel
theorem dX1_make0_174 : decode cX1_make0 174 = .ok (.if_icmp .ge 17, 3) := by decide +kernel
theorem dX1_make0_177 : decode cX1_make0 177 = .ok (.ldc2_w 53, 3) := by decide +kernel
theorem dX1_make0_180 : decode cX1_make0 180 = .ok (.lload 4, 2) := by decide +kernel
theorem dX1_make0_182 : decode cX1_make0 182 = .ok (.lmul, 1) := by decide +kernel
theorem dX1_make0_183 : decode cX1_make0 183 = .ok (.lstore 4, 2) := by decide +kernel
theorem dX1_make0_185 : decode cX1_make0 185 = .ok (.iinc 6 1, 3) := by decide +kernel
theorem dX1_make0_188 : decode cX1_make0 188 = .ok (.goto (-18), 3) := by decide +kernel
theorem dX1_make0_191 : decode cX1_make0 191 = .ok (.aload_n 0, 1) := by decide +kernel
theorem dX1_make0_192 : decode cX1_make0 192 = .ok (.lload 4, 2) := by decide +kernel
theorem dX1_make0_194 : decode cX1_make0 194 = .ok (.lconst 0, 1) := by decide +kernel
theorem dX1_make0_195 : decode cX1_make0 195 = .ok (.lcmp, 1) := by decide +kernel
theorem dX1_make0_196 : decode cX1_make0 196 = .ok (.ifCond .ge 7, 3) := by decide +kernel
theorem dX1_make0_199 : decode cX1_make0 199 = .ok (.iconst 1, 1) := by decide +kernel
theorem dX1_make0_200 : decode cX1_make0 200 = .ok (.goto 4, 3) := by decide +kernel
theorem dX1_make0_203 : decode cX1_make0 203 = .ok (.iconst 0, 1) := by decide +kernel
theorem dX1_make0_204 : decode cX1_make0 204 = .ok (.lload 4, 2) := by decide +kernel
theorem dX1_make0_206 : decode cX1_make0 206 = .ok (.invokevirtual 79, 3) := by decide +kernel
theorem dX1_make0_209 : decode cX1_make0 209 = .ok (.aload_n 0, 1) := by decide +kernel
theorem dX1_make0_210 : decode cX1_make0 210 = .ok (.aload_n 0, 1) := by decide +kernel
theorem dX1_make0_211 : decode cX1_make0 211 = .ok (.getfield 59, 3) := by decide +kernel
theorem dX1_make0_214 : decode cX1_make0 214 = .ok (.ifCond .eq 8, 3) := by decide +kernel
theorem dX1_make0_217 : decode cX1_make0 217 = .ok (.bipush 48, 2) := by decide +kernel
theorem dX1_make0_219 : decode cX1_make0 219 = .ok (.goto 4, 3) := by decide +kernel
theorem dX1_make0_222 : decode cX1_make0 222 = .ok (.iconst 0, 1) := by decide +kernel
theorem dX1_make0_223 : decode cX1_make0 223 = .ok (.putfield 73, 3) := by decide +kernel
theorem dX1_make0_226 : decode cX1_make0 226 = .ok (.return_, 1) := by decide +kernel
theorem dX1_make0_227 : decode cX1_make0 227 = .ok (.aload_n 0, 1) := by decide +kernel
theorem dX1_make0_228 : decode cX1_make0 228 = .ok (.iload_n 2, 1) := by decide +kernel
theorem dX1_make0_229 : decode cX1_make0 229 = .ok (.iconst 1, 1) := by decide +kernel
theorem dX1_make0_230 : decode cX1_make0 230 = .ok (.iadd, 1) := by decide +kernel
theorem dX1_make0_231 : decode cX1_make0 231 = .ok (.iload_n 1, 1) := by decide +kernel
theorem dX1_make0_232 : decode cX1_make0 232 = .ok (.isub, 1) := by decide +kernel
theorem dX1_make0_233 : decode cX1_make0 233 = .ok (.invokevirtual 83, 3) := by decide +kernel
theorem dX1_make0_236 : decode cX1_make0 236 = .ok (.aload_n 0, 1) := by decide +kernel
theorem dX1_make0_237 : decode cX1_make0 237 = .ok (.getfield 64, 3) := by decide +kernel
theorem dX1_make0_240 : decode cX1_make0 240 = .ok (.ifCond .ne 20, 3) := by decide +kernel
theorem dX1_make0_243 : decode cX1_make0 243 = .ok (.iload_n 1, 1) := by decide +kernel
theorem dX1_make0_244 : decode cX1_make0 244 = .ok (.bipush 64, 2) := by decide +kernel
theorem dX1_make0_246 : decode cX1_make0 246 = .ok (.if_icmp .ge 18, 3) := by decide +kernel
theorem dX1_make0_249 : decode cX1_make0 249 = .ok (.aload_n 0, 1) := by decide +kernel
theorem dX1_make0_250 : decode cX1_make0 250 = .ok (.getfield 43, 3) := by decide +kernel
theorem dX1_make0_253 : decode cX1_make0 253 = .ok (.lconst 1, 1) := by decide +kernel
theorem dX1_make0_254 : decode cX1_make0 254 = .ok (.iload_n 1, 1) := by decide +kernel
theorem dX1_make0_255 : decode cX1_make0 255 = .ok (.lshl, 1) := by decide +kernel
theorem dX1_make0_256 : decode cX1_make0 256 = .ok (.lcmp, 1) := by decide +kernel
theorem dX1_make0_257 : decode cX1_make0 257 = .ok (.ifCond .ne 7, 3) := by decide +kernel
theorem dX1_make0_260 : decode cX1_make0 260 = .ok (.iconst 1, 1) := by decide +kernel
theorem dX1_make0_261 : decode cX1_make0 261 = .ok (.goto 4, 3) := by decide +kernel
theorem dX1_make0_264 : decode cX1_make0 264 = .ok (.iconst 0, 1) := by decide +kernel
theorem dX1_make0_265 : decode cX1_make0 265 = .ok (.istore 4, 2) := by decide +kernel
theorem dX1_make0_267 : decode cX1_make0 267 = .ok (.iload 4, 2) := by decide +kernel
theorem dX1_make0_269 : decode cX1_make0 269 = .ok (.ifCond .eq 9, 3) := by decide +kernel
theorem dX1_make0_272 : decode cX1_make0 272 = .ok (.iload_n 2, 1) := by decide +kernel
theorem dX1_make0_273 : decode cX1_make0 273 = .ok (.iconst 1, 1) := by decide +kernel
theorem dX1_make0_274 : decode cX1_make0 274 = .ok (.iadd, 1) := by decide +kernel
theorem dX1_make0_275 : decode cX1_make0 275 = .ok (.goto 4, 3) := by decide +kernel
theorem dX1_make0_278 : decode cX1_make0 278 = .ok (.iload_n 2, 1) := by decide +kernel
theorem dX1_make0_279 : decode cX1_make0 279 = .ok (.istore 5, 2) := by decide +kernel
theorem dX1_make0_281 : decode cX1_make0 281 = .ok (.iload 4, 2) := by decide +kernel
theorem dX1_make0_283 : decode cX1_make0 283 = .ok (.ifCond .eq 9, 3) := by decide +kernel
theorem dX1_make0_286 : decode cX1_make0 286 = .ok (.ldc2_w 37, 3) := by decide +kernel
theorem dX1_make0_289 : decode cX1_make0 289 = .ok (.goto 7, 3) := by decide +kernel
theorem dX1_make0_292 : decode cX1_make0 292 = .ok (.aload_n 0, 1) := by decide +kernel
theorem dX1_make0_293 : decode cX1_make0 293 = .ok (.getfield 43, 3) := by decide +kernel
theorem dX1_make0_296 : decode cX1_make0 296 = .ok (.lstore 6, 2) := by decide +kernel
theorem dX1_make0_298 : decode cX1_make0 298 = .ok (.iload_n 1, 1) := by decide +kernel
theorem dX1_make0_299 : decode cX1_make0 299 = .ok (.istore 8, 2) := by decide +kernel
theorem dX1_make0_301 : decode cX1_make0 301 = .ok (.iload 8, 2) := by decide +kernel
theorem dX1_make0_303 : decode cX1_make0 303 = .ok (.bipush 64, 2) := by decide +kernel
theorem dX1_make0_305 : decode cX1_make0 305 = .ok (.if_icmp .ge 22, 3) := by decide +kernel
theorem dX1_make0_308 : decode cX1_make0 308 = .ok (.iload 4, 2) := by decide +kernel
theorem dX1_make0_310 : decode cX1_make0 310 = .ok (.ifCond .ne 17, 3) := by decide +kernel
theorem dX1_make0_313 : decode cX1_make0 313 = .ok (.ldc2_w 53, 3) := by decide +kernel
theorem dX1_make0_316 : decode cX1_make0 316 = .ok (.lload 6, 2) := by decide +kernel
theorem dX1_make0_318 : decode cX1_make0 318 = .ok (.lmul, 1) := by decide +kernel
theorem dX1_make0_319 : decode cX1_make0 319 = .ok (.lstore 6, 2) := by decide +kernel
theorem dX1_make0_321 : decode cX1_make0 321 = .ok (.iinc 8 1, 3) := by decide +kernel
theorem dX1_make0_324 : decode cX1_make0 324 = .ok (.goto (-23), 3) := by decide +kernel
theorem dX1_make0_327 : decode cX1_make0 327 = .ok (.aload_n 0, 1) := by decide +kernel
theorem dX1_make0_328 : decode cX1_make0 328 = .ok (.aload_n 0, 1) := by decide +kernel
theorem dX1_make0_329 : decode cX1_make0 329 = .ok (.getfield 59, 3) := by decide +kernel
theorem dX1_make0_332 : decode cX1_make0 332 = .ok (.ifCond .eq 8, 3) := by decide +kernel
theorem dX1_make0_335 : decode cX1_make0 335 = .ok (.bipush 32, 2) := by decide +kernel
theorem dX1_make0_337 : decode cX1_make0 337 = .ok (.goto 4, 3) := by decide +kernel
theorem dX1_make0_340 : decode cX1_make0 340 = .ok (.iconst 0, 1) := by decide +kernel
theorem dX1_make0_341 : decode cX1_make0 341 = .ok (.putfield 73, 3) := by decide +kernel
theorem dX1_make0_344 : decode cX1_make0 344 = .ok (.iload_n 3, 1) := by decide +kernel
theorem dX1_make0_345 : decode cX1_make0 345 = .ok (.ifCond .eq 33, 3) := by decide +kernel
theorem dX1_make0_348 : decode cX1_make0 348 = .ok (.aload_n 0, 1) := by decide +kernel
theorem dX1_make0_349 : decode cX1_make0 349 = .ok (.dup, 1) := by decide +kernel
theorem dX1_make0_350 : decode cX1_make0 350 = .ok (.getfield 73, 3) := by decide +kernel
theorem dX1_make0_353 : decode cX1_make0 353 = .ok (.bipush 16, 2) := by decide +kernel
theorem dX1_make0_355 : decode cX1_make0 355 = .ok (.iadd, 1) := by decide +kernel
theorem dX1_make0_356 : decode cX1_make0 356 = .ok (.putfield 73, 3) := by decide +kernel
theorem dX1_make0_359 : decode cX1_make0 359 = .ok (.aload_n 0, 1) := by decide +kernel
theorem dX1_make0_360 : decode cX1_make0 360 = .ok (.iload 5, 2) := by decide +kernel
theorem dX1_make0_362 : decode cX1_make0 362 = .ok (.sipush 16383, 3) := by decide +kernel
theorem dX1_make0_365 : decode cX1_make0 365 = .ok (.iadd, 1) := by decide +kernel
theorem dX1_make0_366 : decode cX1_make0 366 = .ok (.sipush 24576, 3) := by decide +kernel
theorem dX1_make0_369 : decode cX1_make0 369 = .ok (.iadd, 1) := by decide +kernel
theorem dX1_make0_370 : decode cX1_make0 370 = .ok (.lload 6, 2) := by decide +kernel
theorem dX1_make0_372 : decode cX1_make0 372 = .ok (.invokevirtual 79, 3) := by decide +kernel
theorem dX1_make0_375 : decode cX1_make0 375 = .ok (.goto 196, 3) := by decide +kernel
theorem dX1_make0_378 : decode cX1_make0 378 = .ok (.iload 5, 2) := by decide +kernel
theorem dX1_make0_380 : decode cX1_make0 380 = .ok (.sipush 16384, 3) := by decide +kernel
theorem dX1_make0_383 : decode cX1_make0 383 = .ok (.if_icmp .ge 18, 3) := by decide +kernel
theorem dX1_make0_386 : decode cX1_make0 386 = .ok (.aload_n 0, 1) := by decide +kernel
theorem dX1_make0_387 : decode cX1_make0 387 = .ok (.iload 5, 2) := by decide +kernel
theorem dX1_make0_389 : decode cX1_make0 389 = .ok (.sipush 16383, 3) := by decide +kernel
theorem dX1_make0_392 : decode cX1_make0 392 = .ok (.iadd, 1) := by decide +kernel
theorem dX1_make0_393 : decode cX1_make0 393 = .ok (.lload 6, 2) := by decide +kernel
theorem dX1_make0_395 : decode cX1_make0 395 = .ok (.invokevirtual 79, 3) := by decide +kernel
theorem dX1_make0_398 : decode cX1_make0 398 = .ok (.goto 173, 3) := by decide +kernel
theorem dX1_make0_401 : decode cX1_make0 401 = .ok (.aload_n 0, 1) := by decide +kernel
theorem dX1_make0_402 : decode cX1_make0 402 = .ok (.getfield 7, 3) := by decide +kernel
theorem dX1_make0_405 : decode cX1_make0 405 = .ok (.bipush 8, 2) := by decide +kernel
theorem dX1_make0_407 : decode cX1_make0 407 = .ok (.iand, 1) := by decide +kernel
theorem dX1_make0_408 : decode cX1_make0 408 = .ok (.ifCond .ne 33, 3) := by decide +kernel
theorem dX1_make0_411 : decode cX1_make0 411 = .ok (.aload_n 0, 1) := by decide +kernel
theorem dX1_make0_412 : decode cX1_make0 412 = .ok (.dup, 1) := by decide +kernel
theorem dX1_make0_413 : decode cX1_make0 413 = .ok (.getfield 73, 3) := by decide +kernel
theorem dX1_make0_416 : decode cX1_make0 416 = .ok (.bipush 8, 2) := by decide +kernel
theorem dX1_make0_418 : decode cX1_make0 418 = .ok (.iadd, 1) := by decide +kernel
theorem dX1_make0_419 : decode cX1_make0 419 = .ok (.putfield 73, 3) := by decide +kernel
theorem dX1_make0_422 : decode cX1_make0 422 = .ok (.aload_n 0, 1) := by decide +kernel
theorem dX1_make0_423 : decode cX1_make0 423 = .ok (.iload 5, 2) := by decide +kernel
theorem dX1_make0_425 : decode cX1_make0 425 = .ok (.sipush 16383, 3) := by decide +kernel
theorem dX1_make0_428 : decode cX1_make0 428 = .ok (.iadd, 1) := by decide +kernel
theorem dX1_make0_429 : decode cX1_make0 429 = .ok (.sipush 24576, 3) := by decide +kernel
theorem dX1_make0_432 : decode cX1_make0 432 = .ok (.isub, 1) := by decide +kernel
theorem dX1_make0_433 : decode cX1_make0 433 = .ok (.lload 6, 2) := by decide +kernel
theorem dX1_make0_435 : decode cX1_make0 435 = .ok (.invokevirtual 79, 3) := by decide +kernel
theorem dX1_make0_438 : decode cX1_make0 438 = .ok (.goto 133, 3) := by decide +kernel
theorem dX1_make0_441 : decode cX1_make0 441 = .ok (.aload_n 0, 1) := by decide +kernel
theorem dX1_make0_442 : decode cX1_make0 442 = .ok (.getfield 7, 3) := by decide +kernel
theorem dX1_make0_445 : decode cX1_make0 445 = .ok (.bipush 10, 2) := by decide +kernel
theorem dX1_make0_447 : decode cX1_make0 447 = .ok (.ishr, 1) := by decide +kernel
theorem dX1_make0_448 : decode cX1_make0 448 = .ok (.iconst 3, 1) := by decide +kernel
theorem dX1_make0_449 : decode cX1_make0 449 = .ok (.iand, 1) := by decide +kernel
theorem dX1_make0_450 : decode cX1_make0 450 = .ok (.istore 8, 2) := by decide +kernel
theorem dX1_make0_452 : decode cX1_make0 452 = .ok (.iload 8, 2) := by decide +kernel
theorem dX1_make0_454 : decode cX1_make0 454 = .ok (.ifCond .eq 20, 3) := by decide +kernel
theorem dX1_make0_457 : decode cX1_make0 457 = .ok (.iload 8, 2) := by decide +kernel
theorem dX1_make0_459 : decode cX1_make0 459 = .ok (.aload_n 0, 1) := by decide +kernel
theorem dX1_make0_460 : decode cX1_make0 460 = .ok (.getfield 55, 3) := by decide +kernel
theorem dX1_make0_463 : decode cX1_make0 463 = .ok (.ifCond .eq 7, 3) := by decide +kernel
theorem dX1_make0_466 : decode cX1_make0 466 = .ok (.iconst 1, 1) := by decide +kernel
theorem dX1_make0_467 : decode cX1_make0 467 = .ok (.goto 4, 3) := by decide +kernel
theorem dX1_make0_470 : decode cX1_make0 470 = .ok (.iconst 2, 1) := by decide +kernel
theorem dX1_make0_471 : decode cX1_make0 471 = .ok (.if_icmp .ne 7, 3) := by decide +kernel
theorem dX1_make0_474 : decode cX1_make0 474 = .ok (.iconst 1, 1) := by decide +kernel
theorem dX1_make0_475 : decode cX1_make0 475 = .ok (.goto 4, 3) := by decide +kernel
theorem dX1_make0_478 : decode cX1_make0 478 = .ok (.iconst 0, 1) := by decide +kernel
theorem dX1_make0_479 : decode cX1_make0 479 = .ok (.istore 9, 2) := by decide +kernel
theorem dX1_make0_481 : decode cX1_make0 481 = .ok (.aload_n 0, 1) := by decide +kernel
theorem dX1_make0_482 : decode cX1_make0 482 = .ok (.bipush 40, 2) := by decide +kernel
theorem dX1_make0_484 : decode cX1_make0 484 = .ok (.putfield 73, 3) := by decide +kernel
theorem dX1_make0_487 : decode cX1_make0 487 = .ok (.aload_n 0, 1) := by decide +kernel
theorem dX1_make0_488 : decode cX1_make0 488 = .ok (.iload 9, 2) := by decide +kernel
theorem dX1_make0_490 : decode cX1_make0 490 = .ok (.ifCond .eq 7, 3) := by decide +kernel
theorem dX1_make0_493 : decode cX1_make0 493 = .ok (.iconst 1, 1) := by decide +kernel
theorem dX1_make0_494 : decode cX1_make0 494 = .ok (.goto 4, 3) := by decide +kernel
theorem dX1_make0_497 : decode cX1_make0 497 = .ok (.iconst (-1), 1) := by decide +kernel
theorem dX1_make0_498 : decode cX1_make0 498 = .ok (.putfield 59, 3) := by decide +kernel
theorem dX1_make0_501 : decode cX1_make0 501 = .ok (.lconst 0, 1) := by decide +kernel
theorem dX1_make0_502 : decode cX1_make0 502 = .ok (.lstore 10, 2) := by decide +kernel
theorem dX1_make0_504 : decode cX1_make0 504 = .ok (.iconst 0, 1) := by decide +kernel
theorem dX1_make0_505 : decode cX1_make0 505 = .ok (.istore 12, 2) := by decide +kernel
theorem dX1_make0_507 : decode cX1_make0 507 = .ok (.iload 12, 2) := by decide +kernel
theorem dX1_make0_509 : decode cX1_make0 509 = .ok (.bipush 64, 2) := by decide +kernel
theorem dX1_make0_511 : decode cX1_make0 511 = .ok (.if_icmp .ge 29, 3) := by decide +kernel
theorem dX1_make0_514 : decode cX1_make0 514 = .ok (.ldc2_w 53, 3) := by decide +kernel
theorem dX1_make0_517 : decode cX1_make0 517 = .ok (.lload 10, 2) := by decide +kernel
theorem dX1_make0_519 : decode cX1_make0 519 = .ok (.lmul, 1) := by decide +kernel
theorem dX1_make0_520 : decode cX1_make0 520 = .ok (.iload 12, 2) := by decide +kernel
theorem dX1_make0_522 : decode cX1_make0 522 = .ok (.iload_n 1, 1) := by decide +kernel
theorem dX1_make0_523 : decode cX1_make0 523 = .ok (.if_icmp .ge 7, 3) := by decide +kernel
theorem dX1_make0_526 : decode cX1_make0 526 = .ok (.lconst 1, 1) := by decide +kernel
theorem dX1_make0_527 : decode cX1_make0 527 = .ok (.goto 4, 3) := by decide +kernel
theorem dX1_make0_530 : decode cX1_make0 530 = .ok (.lconst 0, 1) := by decide +kernel
theorem dX1_make0_531 : decode cX1_make0 531 = .ok (.ladd, 1) := by decide +kernel
theorem dX1_make0_532 : decode cX1_make0 532 = .ok (.lstore 10, 2) := by decide +kernel
theorem dX1_make0_534 : decode cX1_make0 534 = .ok (.iinc 12 1, 3) := by decide +kernel
theorem dX1_make0_537 : decode cX1_make0 537 = .ok (.goto (-30), 3) := by decide +kernel
theorem dX1_make0_540 : decode cX1_make0 540 = .ok (.aload_n 0, 1) := by decide +kernel
theorem dX1_make0_541 : decode cX1_make0 541 = .ok (.iload 9, 2) := by decide +kernel
theorem dX1_make0_543 : decode cX1_make0 543 = .ok (.ifCond .eq 9, 3) := by decide +kernel
theorem dX1_make0_546 : decode cX1_make0 546 = .ok (.sipush 32767, 3) := by decide +kernel
theorem dX1_make0_549 : decode cX1_make0 549 = .ok (.goto 6, 3) := by decide +kernel
theorem dX1_make0_552 : decode cX1_make0 552 = .ok (.sipush 32766, 3) := by decide +kernel
theorem dX1_make0_555 : decode cX1_make0 555 = .ok (.iload 9, 2) := by decide +kernel
theorem dX1_make0_557 : decode cX1_make0 557 = .ok (.ifCond .eq 9, 3) := by decide +kernel
theorem dX1_make0_560 : decode cX1_make0 560 = .ok (.ldc2_w 37, 3) := by decide +kernel
theorem dX1_make0_563 : decode cX1_make0 563 = .ok (.goto 5, 3) := by decide +kernel
theorem dX1_make0_566 : decode cX1_make0 566 = .ok (.lload 10, 2) := by decide +kernel
theorem dX1_make0_568 : decode cX1_make0 568 = .ok (.invokevirtual 79, 3) := by decide +kernel
theorem dX1_make0_571 : decode cX1_make0 571 = .ok (.return_, 1) := by decide +kernel
theorem dX1_result_0 : decode cX1_result 0 = .ok (.aload_n 0, 1) := by decide +kernel
theorem dX1_result_1 : decode cX1_result 1 = .ok (.aload_n 0, 1) := by decide +kernel
theorem dX1_result_2 : decode cX1_result 2 = .ok (.getfield 55, 3) := by decide +kernel
theorem dX1_result_5 : decode cX1_result 5 = .ok (.ifCond .eq 8, 3) := by decide +kernel
theorem dX1_result_8 : decode cX1_result 8 = .ok (.ldc 36, 2) := by decide +kernel
theorem dX1_result_10 : decode cX1_result 10 = .ok (.goto 4, 3) := by decide +kernel
theorem dX1_result_13 : decode cX1_result 13 = .ok (.iconst 0, 1) := by decide +kernel
theorem dX1_result_14 : decode cX1_result 14 = .ok (.iload_n 1, 1) := by decide +kernel
theorem dX1_result_15 : decode cX1_result 15 = .ok (.iadd, 1) := by decide +kernel
theorem dX1_result_16 : decode cX1_result 16 = .ok (.putfield 67, 3) := by decide +kernel
theorem dX1_result_19 : decode cX1_result 19 = .ok (.aload_n 0, 1) := by decide +kernel
theorem dX1_result_20 : decode cX1_result 20 = .ok (.lload_n 2, 1) := by decide +kernel
theorem dX1_result_21 : decode cX1_result 21 = .ok (.putfield 70, 3) := by decide +kernel
theorem dX1_result_24 : decode cX1_result 24 = .ok (.return_, 1) := by decide +kernel
theorem dX1_round_0 : decode cX1_round 0 = .ok (.aload_n 0, 1) := by decide +kernel
theorem dX1_round_1 : decode cX1_round 1 = .ok (.getfield 7, 3) := by decide +kernel
theorem dX1_round_4 : decode cX1_round 4 = .ok (.bipush 10, 2) := by decide +kernel
theorem dX1_round_6 : decode cX1_round 6 = .ok (.ishr, 1) := by decide +kernel
theorem dX1_round_7 : decode cX1_round 7 = .ok (.iconst 3, 1) := by decide +kernel
theorem dX1_round_8 : decode cX1_round 8 = .ok (.iand, 1) := by decide +kernel
theorem dX1_round_9 : decode cX1_round 9 = .ok (.istore_n 2, 1) := by decide +kernel
theorem dX1_round_10 : decode cX1_round 10 = .ok (.aload_n 0, 1) := by decide +kernel
theorem dX1_round_11 : decode cX1_round 11 = .ok (.lconst 0, 1) := by decide +kernel
theorem dX1_round_12 : decode cX1_round 12 = .ok (.putfield 43, 3) := by decide +kernel
theorem dX1_round_15 : decode cX1_round 15 = .ok (.iconst 0, 1) := by decide +kernel
theorem dX1_round_16 : decode cX1_round 16 = .ok (.istore_n 3, 1) := by decide +kernel
theorem dX1_round_17 : decode cX1_round 17 = .ok (.iconst 0, 1) := by decide +kernel
theorem dX1_round_18 : decode cX1_round 18 = .ok (.istore 4, 2) := by decide +kernel
theorem dX1_round_20 : decode cX1_round 20 = .ok (.aload_n 0, 1) := by decide +kernel
theorem dX1_round_21 : decode cX1_round 21 = .ok (.getfield 47, 3) := by decide +kernel
theorem dX1_round_24 : decode cX1_round 24 = .ok (.istore 5, 2) := by decide +kernel
theorem dX1_round_26 : decode cX1_round 26 = .ok (.iload 5, 2) := by decide +kernel
theorem dX1_round_28 : decode cX1_round 28 = .ok (.sipush 129, 3) := by decide +kernel
theorem dX1_round_31 : decode cX1_round 31 = .ok (.if_icmp .ge 101, 3) := by decide +kernel
theorem dX1_round_34 : decode cX1_round 34 = .ok (.aload_n 0, 1) := by decide +kernel
theorem dX1_round_35 : decode cX1_round 35 = .ok (.getfield 50, 3) := by decide +kernel
theorem dX1_round_38 : decode cX1_round 38 = .ok (.iload 5, 2) := by decide +kernel
theorem dX1_round_40 : decode cX1_round 40 = .ok (.isub, 1) := by decide +kernel
theorem dX1_round_41 : decode cX1_round 41 = .ok (.istore 6, 2) := by decide +kernel
theorem dX1_round_43 : decode cX1_round 43 = .ok (.iload 6, 2) := by decide +kernel
theorem dX1_round_45 : decode cX1_round 45 = .ok (.iload_n 1, 1) := by decide +kernel
theorem dX1_round_46 : decode cX1_round 46 = .ok (.if_icmp .lt 24, 3) := by decide +kernel
theorem dX1_round_49 : decode cX1_round 49 = .ok (.aload_n 0, 1) := by decide +kernel
theorem dX1_round_50 : decode cX1_round 50 = .ok (.ldc2_w 53, 3) := by decide +kernel
theorem dX1_round_53 : decode cX1_round 53 = .ok (.aload_n 0, 1) := by decide +kernel
theorem dX1_round_54 : decode cX1_round 54 = .ok (.getfield 43, 3) := by decide +kernel
theorem dX1_round_57 : decode cX1_round 57 = .ok (.lmul, 1) := by decide +kernel
theorem dX1_round_58 : decode cX1_round 58 = .ok (.aload_n 0, 1) := by decide +kernel
theorem dX1_round_59 : decode cX1_round 59 = .ok (.getfield 21, 3) := by decide +kernel
theorem dX1_round_62 : decode cX1_round 62 = .ok (.iload 5, 2) := by decide +kernel
theorem dX1_round_64 : decode cX1_round 64 = .ok (.iaload, 1) := by decide +kernel
theorem dX1_round_65 : decode cX1_round 65 = .ok (.i2l, 1) := by decide +kernel
theorem dX1_round_66 : decode cX1_round 66 = .ok (.ladd, 1) := by decide +kernel
theorem dX1_round_67 : decode cX1_round 67 = .ok (.putfield 43, 3) := by decide +kernel
theorem dX1_round_70 : decode cX1_round 70 = .ok (.iload 6, 2) := by decide +kernel
theorem dX1_round_72 : decode cX1_round 72 = .ok (.iload_n 1, 1) := by decide +kernel
theorem dX1_round_73 : decode cX1_round 73 = .ok (.iconst 1, 1) := by decide +kernel
theorem dX1_round_74 : decode cX1_round 74 = .ok (.isub, 1) := by decide +kernel
theorem dX1_round_75 : decode cX1_round 75 = .ok (.if_icmp .ne 20, 3) := by decide +kernel
theorem dX1_round_78 : decode cX1_round 78 = .ok (.aload_n 0, 1) := by decide +kernel
theorem dX1_round_79 : decode cX1_round 79 = .ok (.getfield 21, 3) := by decide +kernel
theorem dX1_round_82 : decode cX1_round 82 = .ok (.iload 5, 2) := by decide +kernel
theorem dX1_round_84 : decode cX1_round 84 = .ok (.iaload, 1) := by decide +kernel
theorem dX1_round_85 : decode cX1_round 85 = .ok (.iconst 1, 1) := by decide +kernel
theorem dX1_round_86 : decode cX1_round 86 = .ok (.if_icmp .ne 7, 3) := by decide +kernel
theorem dX1_round_89 : decode cX1_round 89 = .ok (.iconst 1, 1) := by decide +kernel
theorem dX1_round_90 : decode cX1_round 90 = .ok (.goto 4, 3) := by decide +kernel
theorem dX1_round_93 : decode cX1_round 93 = .ok (.iconst 0, 1) := by decide +kernel
theorem dX1_round_94 : decode cX1_round 94 = .ok (.istore_n 3, 1) := by decide +kernel
theorem dX1_round_95 : decode cX1_round 95 = .ok (.iload 6, 2) := by decide +kernel
theorem dX1_round_97 : decode cX1_round 97 = .ok (.iload_n 1, 1) := by decide +kernel
theorem dX1_round_98 : decode cX1_round 98 = .ok (.iconst 1, 1) := by decide +kernel
theorem dX1_round_99 : decode cX1_round 99 = .ok (.isub, 1) := by decide +kernel
theorem dX1_round_100 : decode cX1_round 100 = .ok (.if_icmp .ge 26, 3) := by decide +kernel
theorem dX1_round_103 : decode cX1_round 103 = .ok (.iload 4, 2) := by decide +kernel
theorem dX1_round_105 : decode cX1_round 105 = .ok (.ifCond .ne 14, 3) := by decide +kernel
theorem dX1_round_108 : decode cX1_round 108 = .ok (.aload_n 0, 1) := by decide +kernel
theorem dX1_round_109 : decode cX1_round 109 = .ok (.getfield 21, 3) := by decide +kernel
theorem dX1_round_112 : decode cX1_round 112 = .ok (.iload 5, 2) := by decide +kernel
theorem dX1_round_114 : decode cX1_round 114 = .ok (.iaload, 1) := by decide +kernel
theorem dX1_round_115 : decode cX1_round 115 = .ok (.iconst 1, 1) := by decide +kernel
theorem dX1_round_116 : decode cX1_round 116 = .ok (.if_icmp .ne 7, 3) := by decide +kernel
theorem dX1_round_119 : decode cX1_round 119 = .ok (.iconst 1, 1) := by decide +kernel
theorem dX1_round_120 : decode cX1_round 120 = .ok (.goto 4, 3) := by decide +kernel
theorem dX1_round_123 : decode cX1_round 123 = .ok (.iconst 0, 1) := by decide +kernel
theorem dX1_round_124 : decode cX1_round 124 = .ok (.istore 4, 2) := by decide +kernel
theorem dX1_round_126 : decode cX1_round 126 = .ok (.iinc 5 1, 3) := by decide +kernel
theorem dX1_round_129 : decode cX1_round 129 = .ok (.goto (-103), 3) := by decide +kernel
theorem dX1_round_132 : decode cX1_round 132 = .ok (.aload_n 0, 1) := by decide +kernel
theorem dX1_round_133 : decode cX1_round 133 = .ok (.getfield 50, 3) := by decide +kernel
theorem dX1_round_136 : decode cX1_round 136 = .ok (.sipush 129, 3) := by decide +kernel
theorem dX1_round_139 : decode cX1_round 139 = .ok (.isub, 1) := by decide +kernel
theorem dX1_round_140 : decode cX1_round 140 = .ok (.istore 5, 2) := by decide +kernel
theorem dX1_round_142 : decode cX1_round 142 = .ok (.iload 5, 2) := by decide +kernel
theorem dX1_round_144 : decode cX1_round 144 = .ok (.iload_n 1, 1) := by decide +kernel
theorem dX1_round_145 : decode cX1_round 145 = .ok (.if_icmp .lt 21, 3) := by decide +kernel
theorem dX1_round_148 : decode cX1_round 148 = .ok (.aload_n 0, 1) := by decide +kernel
theorem dX1_round_149 : decode cX1_round 149 = .ok (.ldc2_w 53, 3) := by decide +kernel
theorem dX1_round_152 : decode cX1_round 152 = .ok (.aload_n 0, 1) := by decide +kernel
theorem dX1_round_153 : decode cX1_round 153 = .ok (.getfield 43, 3) := by decide +kernel
theorem dX1_round_156 : decode cX1_round 156 = .ok (.lmul, 1) := by decide +kernel
theorem dX1_round_157 : decode cX1_round 157 = .ok (.putfield 43, 3) := by decide +kernel
theorem dX1_round_160 : decode cX1_round 160 = .ok (.iinc 5 (-1), 3) := by decide +kernel
theorem dX1_round_163 : decode cX1_round 163 = .ok (.goto (-21), 3) := by decide +kernel
theorem dX1_round_166 : decode cX1_round 166 = .ok (.iload_n 3, 1) := by decide +kernel
theorem dX1_round_167 : decode cX1_round 167 = .ok (.ifCond .ne 8, 3) := by decide +kernel
theorem dX1_round_170 : decode cX1_round 170 = .ok (.iload 4, 2) := by decide +kernel
theorem dX1_round_172 : decode cX1_round 172 = .ok (.ifCond .eq 7, 3) := by decide +kernel
theorem dX1_round_175 : decode cX1_round 175 = .ok (.iconst 1, 1) := by decide +kernel
theorem dX1_round_176 : decode cX1_round 176 = .ok (.goto 4, 3) := by decide +kernel
theorem dX1_round_179 : decode cX1_round 179 = .ok (.iconst 0, 1) := by decide +kernel
theorem dX1_round_180 : decode cX1_round 180 = .ok (.istore 5, 2) := by decide +kernel
theorem dX1_round_182 : decode cX1_round 182 = .ok (.iload_n 2, 1) := by decide +kernel
theorem dX1_round_183 : decode cX1_round 183 = .ok (.ifCond .ne 33, 3) := by decide +kernel
theorem dX1_round_186 : decode cX1_round 186 = .ok (.iload_n 3, 1) := by decide +kernel
theorem dX1_round_187 : decode cX1_round 187 = .ok (.ifCond .eq 25, 3) := by decide +kernel
theorem dX1_round_190 : decode cX1_round 190 = .ok (.iload 4, 2) := by decide +kernel
theorem dX1_round_192 : decode cX1_round 192 = .ok (.ifCond .ne 16, 3) := by decide +kernel
theorem dX1_round_195 : decode cX1_round 195 = .ok (.aload_n 0, 1) := by decide +kernel
theorem dX1_round_196 : decode cX1_round 196 = .ok (.getfield 43, 3) := by decide +kernel
theorem dX1_round_199 : decode cX1_round 199 = .ok (.ldc2_w 53, 3) := by decide +kernel
theorem dX1_round_202 : decode cX1_round 202 = .ok (.lrem, 1) := by decide +kernel
theorem dX1_round_203 : decode cX1_round 203 = .ok (.lconst 0, 1) := by decide +kernel
theorem dX1_round_204 : decode cX1_round 204 = .ok (.lcmp, 1) := by decide +kernel
theorem dX1_round_205 : decode cX1_round 205 = .ok (.ifCond .eq 7, 3) := by decide +kernel
theorem dX1_round_208 : decode cX1_round 208 = .ok (.iconst 1, 1) := by decide +kernel
theorem dX1_round_209 : decode cX1_round 209 = .ok (.goto 33, 3) := by decide +kernel
theorem dX1_round_212 : decode cX1_round 212 = .ok (.iconst 0, 1) := by decide +kernel
theorem dX1_round_213 : decode cX1_round 213 = .ok (.goto 29, 3) := by decide +kernel
theorem dX1_round_216 : decode cX1_round 216 = .ok (.iload 5, 2) := by decide +kernel
theorem dX1_round_218 : decode cX1_round 218 = .ok (.ifCond .eq 23, 3) := by decide +kernel
theorem dX1_round_221 : decode cX1_round 221 = .ok (.iload_n 2, 1) := by decide +kernel
theorem dX1_round_222 : decode cX1_round 222 = .ok (.aload_n 0, 1) := by decide +kernel
theorem dX1_round_223 : decode cX1_round 223 = .ok (.getfield 55, 3) := by decide +kernel
theorem dX1_round_226 : decode cX1_round 226 = .ok (.ifCond .eq 7, 3) := by decide +kernel
theorem dX1_round_229 : decode cX1_round 229 = .ok (.iconst 1, 1) := by decide +kernel
theorem dX1_round_230 : decode cX1_round 230 = .ok (.goto 4, 3) := by decide +kernel
theorem dX1_round_233 : decode cX1_round 233 = .ok (.iconst 2, 1) := by decide +kernel
theorem dX1_round_234 : decode cX1_round 234 = .ok (.if_icmp .ne 7, 3) := by decide +kernel
theorem dX1_round_237 : decode cX1_round 237 = .ok (.iconst 1, 1) := by decide +kernel
theorem dX1_round_238 : decode cX1_round 238 = .ok (.goto 4, 3) := by decide +kernel
theorem dX1_round_241 : decode cX1_round 241 = .ok (.iconst 0, 1) := by decide +kernel
theorem dX1_round_242 : decode cX1_round 242 = .ok (.istore 6, 2) := by decide +kernel
theorem dX1_round_244 : decode cX1_round 244 = .ok (.aload_n 0, 1) := by decide +kernel
theorem dX1_round_245 : decode cX1_round 245 = .ok (.iload 5, 2) := by decide +kernel
theorem dX1_round_247 : decode cX1_round 247 = .ok (.ifCond .ne 7, 3) := by decide +kernel
theorem dX1_round_250 : decode cX1_round 250 = .ok (.iconst 0, 1) := by decide +kernel
theorem dX1_round_251 : decode cX1_round 251 = .ok (.goto 13, 3) := by decide +kernel
theorem dX1_round_254 : decode cX1_round 254 = .ok (.iload 6, 2) := by decide +kernel
theorem dX1_round_256 : decode cX1_round 256 = .ok (.ifCond .eq 7, 3) := by decide +kernel
theorem dX1_round_259 : decode cX1_round 259 = .ok (.iconst 1, 1) := by decide +kernel
theorem dX1_round_260 : decode cX1_round 260 = .ok (.goto 4, 3) := by decide +kernel
theorem dX1_round_263 : decode cX1_round 263 = .ok (.iconst (-1), 1) := by decide +kernel
theorem dX1_round_264 : decode cX1_round 264 = .ok (.putfield 59, 3) := by decide +kernel
theorem dX1_round_267 : decode cX1_round 267 = .ok (.aload_n 0, 1) := by decide +kernel
theorem dX1_round_268 : decode cX1_round 268 = .ok (.iload 6, 2) := by decide +kernel
theorem dX1_round_270 : decode cX1_round 270 = .ok (.ifCond .eq 18, 3) := by decide +kernel
theorem dX1_round_273 : decode cX1_round 273 = .ok (.aload_n 0, 1) := by decide +kernel
theorem dX1_round_274 : decode cX1_round 274 = .ok (.getfield 43, 3) := by decide +kernel
theorem dX1_round_277 : decode cX1_round 277 = .ok (.ldc2_w 62, 3) := by decide +kernel
theorem dX1_round_280 : decode cX1_round 280 = .ok (.lcmp, 1) := by decide +kernel
theorem dX1_round_281 : decode cX1_round 281 = .ok (.ifCond .ne 7, 3) := by decide +kernel
theorem dX1_round_284 : decode cX1_round 284 = .ok (.iconst 1, 1) := by decide +kernel
theorem dX1_round_285 : decode cX1_round 285 = .ok (.goto 4, 3) := by decide +kernel
theorem dX1_round_288 : decode cX1_round 288 = .ok (.iconst 0, 1) := by decide +kernel
theorem dX1_round_289 : decode cX1_round 289 = .ok (.putfield 64, 3) := by decide +kernel
theorem dX1_round_292 : decode cX1_round 292 = .ok (.aload_n 0, 1) := by decide +kernel
theorem dX1_round_293 : decode cX1_round 293 = .ok (.iload 6, 2) := by decide +kernel
theorem dX1_round_295 : decode cX1_round 295 = .ok (.ifCond .eq 12, 3) := by decide +kernel
theorem dX1_round_298 : decode cX1_round 298 = .ok (.aload_n 0, 1) := by decide +kernel
theorem dX1_round_299 : decode cX1_round 299 = .ok (.getfield 43, 3) := by decide +kernel
theorem dX1_round_302 : decode cX1_round 302 = .ok (.lconst 1, 1) := by decide +kernel
theorem dX1_round_303 : decode cX1_round 303 = .ok (.ladd, 1) := by decide +kernel
theorem dX1_round_304 : decode cX1_round 304 = .ok (.goto 7, 3) := by decide +kernel
theorem dX1_round_307 : decode cX1_round 307 = .ok (.aload_n 0, 1) := by decide +kernel
theorem dX1_round_308 : decode cX1_round 308 = .ok (.getfield 43, 3) := by decide +kernel
theorem dX1_round_311 : decode cX1_round 311 = .ok (.putfield 43, 3) := by decide +kernel
theorem dX1_round_314 : decode cX1_round 314 = .ok (.return_, 1) := by decide +kernel
theorem dX1_keep_0 : decode cX1_keep 0 = .ok (.aload_n 0, 1) := by decide +kernel
theorem dX1_keep_1 : decode cX1_keep 1 = .ok (.getfield 13, 3) := by decide +kernel
theorem dX1_keep_4 : decode cX1_keep 4 = .ok (.iload_n 1, 1) := by decide +kernel
theorem dX1_keep_5 : decode cX1_keep 5 = .ok (.aload_n 0, 1) := by decide +kernel
theorem dX1_keep_6 : decode cX1_keep 6 = .ok (.getfield 67, 3) := by decide +kernel
theorem dX1_keep_9 : decode cX1_keep 9 = .ok (.iastore, 1) := by decide +kernel
theorem dX1_keep_10 : decode cX1_keep 10 = .ok (.aload_n 0, 1) := by decide +kernel
theorem dX1_keep_11 : decode cX1_keep 11 = .ok (.getfield 17, 3) := by decide +kernel
theorem dX1_keep_14 : decode cX1_keep 14 = .ok (.iload_n 1, 1) := by decide +kernel
theorem dX1_keep_15 : decode cX1_keep 15 = .ok (.aload_n 0, 1) := by decide +kernel
theorem dX1_keep_16 : decode cX1_keep 16 = .ok (.getfield 70, 3) := by decide +kernel
theorem dX1_keep_19 : decode cX1_keep 19 = .ok (.lastore, 1) := by decide +kernel
theorem dX1_keep_20 : decode cX1_keep 20 = .ok (.aload_n 0, 1) := by decide +kernel
theorem dX1_keep_21 : decode cX1_keep 21 = .ok (.getfield 73, 3) := by decide +kernel
theorem dX1_keep_24 : decode cX1_keep 24 = .ok (.ireturn, 1) := by decide +kernel
theorem dX1_again_0 : decode cX1_again 0 = .ok (.aload_n 0, 1) := by decide +kernel
theorem dX1_again_1 : decode cX1_again 1 = .ok (.iload_n 1, 1) := by decide +kernel
theorem dX1_again_2 : decode cX1_again 2 = .ok (.invokestatic 28, 3) := by decide +kernel
theorem dX1_again_5 : decode cX1_again 5 = .ok (.ifCond .ne 10, 3) := by decide +kernel
theorem dX1_again_8 : decode cX1_again 8 = .ok (.iload_n 2, 1) := by decide +kernel
theorem dX1_again_9 : decode cX1_again 9 = .ok (.invokestatic 28, 3) := by decide +kernel
theorem dX1_again_12 : decode cX1_again 12 = .ok (.ifCond .eq 7, 3) := by decide +kernel
theorem dX1_again_15 : decode cX1_again 15 = .ok (.iconst 1, 1) := by decide +kernel
theorem dX1_again_16 : decode cX1_again 16 = .ok (.goto 4, 3) := by decide +kernel
theorem dX1_again_19 : decode cX1_again 19 = .ok (.iconst 0, 1) := by decide +kernel
theorem dX1_again_20 : decode cX1_again 20 = .ok (.putfield 24, 3) := by decide +kernel
theorem dX1_again_23 : decode cX1_again 23 = .ok (.aload_n 0, 1) := by decide +kernel
theorem dX1_again_24 : decode cX1_again 24 = .ok (.getfield 24, 3) := by decide +kernel
theorem dX1_again_27 : decode cX1_again 27 = .ok (.ifCond .le 5, 3) := by decide +kernel
theorem dX1_again_30 : decode cX1_again 30 = .ok (.iconst 0, 1) := by decide +kernel
theorem dX1_again_31 : decode cX1_again 31 = .ok (.ireturn, 1) := by decide +kernel
theorem dX1_again_32 : decode cX1_again 32 = .ok (.aload_n 0, 1) := by decide +kernel
theorem dX1_again_33 : decode cX1_again 33 = .ok (.iload_n 1, 1) := by decide +kernel
theorem dX1_again_34 : decode cX1_again 34 = .ok (.invokevirtual 39, 3) := by decide +kernel
theorem dX1_again_37 : decode cX1_again 37 = .ok (.iconst 3, 1) := by decide +kernel
theorem dX1_again_38 : decode cX1_again 38 = .ok (.if_icmp .le 44, 3) := by decide +kernel
theorem dX1_again_41 : decode cX1_again 41 = .ok (.aload_n 0, 1) := by decide +kernel
theorem dX1_again_42 : decode cX1_again 42 = .ok (.aload_n 0, 1) := by decide +kernel
theorem dX1_again_43 : decode cX1_again 43 = .ok (.getfield 13, 3) := by decide +kernel
theorem dX1_again_46 : decode cX1_again 46 = .ok (.iload_n 1, 1) := by decide +kernel
theorem dX1_again_47 : decode cX1_again 47 = .ok (.iaload, 1) := by decide +kernel
theorem dX1_again_48 : decode cX1_again 48 = .ok (.putfield 67, 3) := by decide +kernel
theorem dX1_again_51 : decode cX1_again 51 = .ok (.aload_n 0, 1) := by decide +kernel
theorem dX1_again_52 : decode cX1_again 52 = .ok (.aload_n 0, 1) := by decide +kernel
theorem dX1_again_53 : decode cX1_again 53 = .ok (.getfield 17, 3) := by decide +kernel
theorem dX1_again_56 : decode cX1_again 56 = .ok (.iload_n 1, 1) := by decide +kernel
theorem dX1_again_57 : decode cX1_again 57 = .ok (.laload, 1) := by decide +kernel
theorem dX1_again_58 : decode cX1_again 58 = .ok (.putfield 70, 3) := by decide +kernel
theorem dX1_again_61 : decode cX1_again 61 = .ok (.aload_n 0, 1) := by decide +kernel
theorem dX1_again_62 : decode cX1_again 62 = .ok (.iconst 0, 1) := by decide +kernel
theorem dX1_again_63 : decode cX1_again 63 = .ok (.putfield 73, 3) := by decide +kernel
theorem dX1_again_66 : decode cX1_again 66 = .ok (.aload_n 0, 1) := by decide +kernel
theorem dX1_again_67 : decode cX1_again 67 = .ok (.iconst 0, 1) := by decide +kernel
theorem dX1_again_68 : decode cX1_again 68 = .ok (.putfield 59, 3) := by decide +kernel
theorem dX1_again_71 : decode cX1_again 71 = .ok (.aload_n 0, 1) := by decide +kernel
theorem dX1_again_72 : decode cX1_again 72 = .ok (.iconst 0, 1) := by decide +kernel
theorem dX1_again_73 : decode cX1_again 73 = .ok (.putfield 76, 3) := by decide +kernel
theorem dX1_again_76 : decode cX1_again 76 = .ok (.aload_n 0, 1) := by decide +kernel
theorem dX1_again_77 : decode cX1_again 77 = .ok (.iload_n 2, 1) := by decide +kernel
theorem dX1_again_78 : decode cX1_again 78 = .ok (.invokevirtual 92, 3) := by decide +kernel
theorem dX1_again_81 : decode cX1_again 81 = .ok (.ireturn, 1) := by decide +kernel
theorem dX1_again_82 : decode cX1_again 82 = .ok (.iconst 0, 1) := by decide +kernel
theorem dX1_again_83 : decode cX1_again 83 = .ok (.istore_n 3, 1) := by decide +kernel
theorem dX1_again_84 : decode cX1_again 84 = .ok (.iload_n 3, 1) := by decide +kernel
theorem dX1_again_85 : decode cX1_again 85 = .ok (.sipush 129, 3) := by decide +kernel
theorem dX1_again_88 : decode cX1_again 88 = .ok (.if_icmp .ge 46, 3) := by decide +kernel
theorem dX1_again_91 : decode cX1_again 91 = .ok (.aload_n 0, 1) := by decide +kernel
theorem dX1_again_92 : decode cX1_again 92 = .ok (.getfield 21, 3) := by decide +kernel
theorem dX1_again_95 : decode cX1_again 95 = .ok (.iload_n 3, 1) := by decide +kernel
theorem dX1_again_96 : decode cX1_again 96 = .ok (.iload_n 3, 1) := by decide +kernel
theorem dX1_again_97 : decode cX1_again 97 = .ok (.bipush 64, 2) := by decide +kernel
theorem dX1_again_99 : decode cX1_again 99 = .ok (.if_icmp .lt 10, 3) := by decide +kernel
theorem dX1_again_102 : decode cX1_again 102 = .ok (.iload_n 3, 1) := by decide +kernel
theorem dX1_again_103 : decode cX1_again 103 = .ok (.sipush 128, 3) := by decide +kernel
theorem dX1_again_106 : decode cX1_again 106 = .ok (.if_icmp .ne 7, 3) := by decide +kernel
theorem dX1_again_109 : decode cX1_again 109 = .ok (.iconst 0, 1) := by decide +kernel
theorem dX1_again_110 : decode cX1_again 110 = .ok (.goto 17, 3) := by decide +kernel
theorem dX1_again_113 : decode cX1_again 113 = .ok (.aload_n 0, 1) := by decide +kernel
theorem dX1_again_114 : decode cX1_again 114 = .ok (.getfield 17, 3) := by decide +kernel
theorem dX1_again_117 : decode cX1_again 117 = .ok (.iload_n 1, 1) := by decide +kernel
theorem dX1_again_118 : decode cX1_again 118 = .ok (.laload, 1) := by decide +kernel
theorem dX1_again_119 : decode cX1_again 119 = .ok (.bipush 127, 2) := by decide +kernel
theorem dX1_again_121 : decode cX1_again 121 = .ok (.iload_n 3, 1) := by decide +kernel
theorem dX1_again_122 : decode cX1_again 122 = .ok (.isub, 1) := by decide +kernel
theorem dX1_again_123 : decode cX1_again 123 = .ok (.lshr, 1) := by decide +kernel
theorem dX1_again_124 : decode cX1_again 124 = .ok (.lconst 1, 1) := by decide +kernel
theorem dX1_again_125 : decode cX1_again 125 = .ok (.land, 1) := by decide +kernel
theorem dX1_again_126 : decode cX1_again 126 = .ok (.l2i, 1) := by decide +kernel
theorem dX1_again_127 : decode cX1_again 127 = .ok (.iastore, 1) := by decide +kernel
theorem dX1_again_128 : decode cX1_again 128 = .ok (.iinc 3 1, 3) := by decide +kernel
theorem dX1_again_131 : decode cX1_again 131 = .ok (.goto (-47), 3) := by decide +kernel
theorem dX1_again_134 : decode cX1_again 134 = .ok (.aload_n 0, 1) := by decide +kernel
theorem dX1_again_135 : decode cX1_again 135 = .ok (.aload_n 0, 1) := by decide +kernel
theorem dX1_again_136 : decode cX1_again 136 = .ok (.iload_n 1, 1) := by decide +kernel
theorem dX1_again_137 : decode cX1_again 137 = .ok (.invokevirtual 95, 3) := by decide +kernel
theorem dX1_again_140 : decode cX1_again 140 = .ok (.sipush 16446, 3) := by decide +kernel
theorem dX1_again_143 : decode cX1_again 143 = .ok (.isub, 1) := by decide +kernel
theorem dX1_again_144 : decode cX1_again 144 = .ok (.bipush 127, 2) := by decide +kernel
theorem dX1_again_146 : decode cX1_again 146 = .ok (.iadd, 1) := by decide +kernel
theorem dX1_again_147 : decode cX1_again 147 = .ok (.putfield 50, 3) := by decide +kernel
theorem dX1_again_150 : decode cX1_again 150 = .ok (.aload_n 0, 1) := by decide +kernel
theorem dX1_again_151 : decode cX1_again 151 = .ok (.aload_n 0, 1) := by decide +kernel
theorem dX1_again_152 : decode cX1_again 152 = .ok (.getfield 13, 3) := by decide +kernel
theorem dX1_again_155 : decode cX1_again 155 = .ok (.iload_n 1, 1) := by decide +kernel
theorem dX1_again_156 : decode cX1_again 156 = .ok (.iaload, 1) := by decide +kernel
theorem dX1_again_157 : decode cX1_again 157 = .ok (.sipush 32767, 3) := by decide +kernel
theorem dX1_again_160 : decode cX1_again 160 = .ok (.if_icmp .le 7, 3) := by decide +kernel
theorem dX1_again_163 : decode cX1_again 163 = .ok (.iconst 1, 1) := by decide +kernel
theorem dX1_again_164 : decode cX1_again 164 = .ok (.goto 4, 3) := by decide +kernel
theorem dX1_again_167 : decode cX1_again 167 = .ok (.iconst 0, 1) := by decide +kernel
theorem dX1_again_168 : decode cX1_again 168 = .ok (.putfield 55, 3) := by decide +kernel
theorem dX1_again_171 : decode cX1_again 171 = .ok (.aload_n 0, 1) := by decide +kernel
theorem dX1_again_172 : decode cX1_again 172 = .ok (.invokevirtual 89, 3) := by decide +kernel
theorem dX1_again_175 : decode cX1_again 175 = .ok (.aload_n 0, 1) := by decide +kernel
theorem dX1_again_176 : decode cX1_again 176 = .ok (.iload_n 2, 1) := by decide +kernel
theorem dX1_again_177 : decode cX1_again 177 = .ok (.invokevirtual 92, 3) := by decide +kernel
theorem dX1_again_180 : decode cX1_again 180 = .ok (.ireturn, 1) := by decide +kernel
theorem dX1_powerOf_0 : decode cX1_powerOf 0 = .ok (.aload_n 0, 1) := by decide +kernel
theorem dX1_powerOf_1 : decode cX1_powerOf 1 = .ok (.getfield 13, 3) := by decide +kernel
theorem dX1_powerOf_4 : decode cX1_powerOf 4 = .ok (.iload_n 1, 1) := by decide +kernel
theorem dX1_powerOf_5 : decode cX1_powerOf 5 = .ok (.iaload, 1) := by decide +kernel
theorem dX1_powerOf_6 : decode cX1_powerOf 6 = .ok (.ldc 36, 2) := by decide +kernel
theorem dX1_powerOf_8 : decode cX1_powerOf 8 = .ok (.irem, 1) := by decide +kernel
theorem dX1_powerOf_9 : decode cX1_powerOf 9 = .ok (.istore_n 2, 1) := by decide +kernel
theorem dX1_powerOf_10 : decode cX1_powerOf 10 = .ok (.iload_n 2, 1) := by decide +kernel
theorem dX1_powerOf_11 : decode cX1_powerOf 11 = .ok (.ifCond .ne 7, 3) := by decide +kernel
theorem dX1_powerOf_14 : decode cX1_powerOf 14 = .ok (.iconst 1, 1) := by decide +kernel
theorem dX1_powerOf_15 : decode cX1_powerOf 15 = .ok (.goto 4, 3) := by decide +kernel
theorem dX1_powerOf_18 : decode cX1_powerOf 18 = .ok (.iload_n 2, 1) := by decide +kernel
theorem dX1_powerOf_19 : decode cX1_powerOf 19 = .ok (.ireturn, 1) := by decide +kernel
theorem dX1_last_0 : decode cX1_last 0 = .ok (.aload_n 0, 1) := by decide +kernel
theorem dX1_last_1 : decode cX1_last 1 = .ok (.iload_n 1, 1) := by decide +kernel
theorem dX1_last_2 : decode cX1_last 2 = .ok (.ifCond .lt 8, 3) := by decide +kernel
theorem dX1_last_5 : decode cX1_last 5 = .ok (.iload_n 1, 1) := by decide +kernel
theorem dX1_last_6 : decode cX1_last 6 = .ok (.iconst 2, 1) := by decide +kernel
theorem dX1_last_7 : decode cX1_last 7 = .ok (.if_icmp .le 7, 3) := by decide +kernel
theorem dX1_last_10 : decode cX1_last 10 = .ok (.iconst 1, 1) := by decide +kernel
theorem dX1_last_11 : decode cX1_last 11 = .ok (.goto 4, 3) := by decide +kernel
theorem dX1_last_14 : decode cX1_last 14 = .ok (.iconst 0, 1) := by decide +kernel
theorem dX1_last_15 : decode cX1_last 15 = .ok (.putfield 24, 3) := by decide +kernel
theorem dX1_last_18 : decode cX1_last 18 = .ok (.aload_n 0, 1) := by decide +kernel
theorem dX1_last_19 : decode cX1_last 19 = .ok (.getfield 24, 3) := by decide +kernel
theorem dX1_last_22 : decode cX1_last 22 = .ok (.ifCond .le 7, 3) := by decide +kernel
theorem dX1_last_25 : decode cX1_last 25 = .ok (.iconst 0, 1) := by decide +kernel
theorem dX1_last_26 : decode cX1_last 26 = .ok (.goto 30, 3) := by decide +kernel
theorem dX1_last_29 : decode cX1_last 29 = .ok (.iload_n 1, 1) := by decide +kernel
theorem dX1_last_30 : decode cX1_last 30 = .ok (.ifCond .ne 10, 3) := by decide +kernel
theorem dX1_last_33 : decode cX1_last 33 = .ok (.aload_n 0, 1) := by decide +kernel
theorem dX1_last_34 : decode cX1_last 34 = .ok (.getfield 73, 3) := by decide +kernel
theorem dX1_last_37 : decode cX1_last 37 = .ok (.goto 19, 3) := by decide +kernel
theorem dX1_last_40 : decode cX1_last 40 = .ok (.iload_n 1, 1) := by decide +kernel
theorem dX1_last_41 : decode cX1_last 41 = .ok (.iconst 1, 1) := by decide +kernel
theorem dX1_last_42 : decode cX1_last 42 = .ok (.if_icmp .ne 10, 3) := by decide +kernel
theorem dX1_last_45 : decode cX1_last 45 = .ok (.aload_n 0, 1) := by decide +kernel
theorem dX1_last_46 : decode cX1_last 46 = .ok (.getfield 76, 3) := by decide +kernel
theorem dX1_last_49 : decode cX1_last 49 = .ok (.goto 7, 3) := by decide +kernel
theorem dX1_last_52 : decode cX1_last 52 = .ok (.aload_n 0, 1) := by decide +kernel
theorem dX1_last_53 : decode cX1_last 53 = .ok (.getfield 59, 3) := by decide +kernel
theorem dX1_last_56 : decode cX1_last 56 = .ok (.ireturn, 1) := by decide +kernel
theorem dX1_compare_0 : decode cX1_compare 0 = .ok (.aload_n 0, 1) := by decide +kernel
theorem dX1_compare_1 : decode cX1_compare 1 = .ok (.iload_n 1, 1) := by decide +kernel
theorem dX1_compare_2 : decode cX1_compare 2 = .ok (.invokestatic 28, 3) := by decide +kernel
theorem dX1_compare_5 : decode cX1_compare 5 = .ok (.ifCond .ne 10, 3) := by decide +kernel
theorem dX1_compare_8 : decode cX1_compare 8 = .ok (.iload_n 2, 1) := by decide +kernel
theorem dX1_compare_9 : decode cX1_compare 9 = .ok (.invokestatic 28, 3) := by decide +kernel
theorem dX1_compare_12 : decode cX1_compare 12 = .ok (.ifCond .eq 7, 3) := by decide +kernel
theorem dX1_compare_15 : decode cX1_compare 15 = .ok (.iconst 1, 1) := by decide +kernel
theorem dX1_compare_16 : decode cX1_compare 16 = .ok (.goto 4, 3) := by decide +kernel
theorem dX1_compare_19 : decode cX1_compare 19 = .ok (.iconst 0, 1) := by decide +kernel
theorem dX1_compare_20 : decode cX1_compare 20 = .ok (.putfield 24, 3) := by decide +kernel
theorem dX1_compare_23 : decode cX1_compare 23 = .ok (.aload_n 0, 1) := by decide +kernel
theorem dX1_compare_24 : decode cX1_compare 24 = .ok (.getfield 24, 3) := by decide +kernel
theorem dX1_compare_27 : decode cX1_compare 27 = .ok (.ifCond .le 5, 3) := by decide +kernel
theorem dX1_compare_30 : decode cX1_compare 30 = .ok (.iconst 0, 1) := by decide +kernel
theorem dX1_compare_31 : decode cX1_compare 31 = .ok (.ireturn, 1) := by decide +kernel
theorem dX1_compare_32 : decode cX1_compare 32 = .ok (.aload_n 0, 1) := by decide +kernel
theorem dX1_compare_33 : decode cX1_compare 33 = .ok (.iload_n 1, 1) := by decide +kernel
theorem dX1_compare_34 : decode cX1_compare 34 = .ok (.invokevirtual 39, 3) := by decide +kernel
theorem dX1_compare_37 : decode cX1_compare 37 = .ok (.iconst 5, 1) := by decide +kernel
theorem dX1_compare_38 : decode cX1_compare 38 = .ok (.if_icmp .eq 12, 3) := by decide +kernel
theorem dX1_compare_41 : decode cX1_compare 41 = .ok (.aload_n 0, 1) := by decide +kernel
theorem dX1_compare_42 : decode cX1_compare 42 = .ok (.iload_n 2, 1) := by decide +kernel
theorem dX1_compare_43 : decode cX1_compare 43 = .ok (.invokevirtual 39, 3) := by decide +kernel
theorem dX1_compare_46 : decode cX1_compare 46 = .ok (.iconst 5, 1) := by decide +kernel
theorem dX1_compare_47 : decode cX1_compare 47 = .ok (.if_icmp .ne 5, 3) := by decide +kernel
theorem dX1_compare_50 : decode cX1_compare 50 = .ok (.iconst 2, 1) := by decide +kernel
theorem dX1_compare_51 : decode cX1_compare 51 = .ok (.ireturn, 1) := by decide +kernel
theorem dX1_compare_52 : decode cX1_compare 52 = .ok (.aload_n 0, 1) := by decide +kernel
theorem dX1_compare_53 : decode cX1_compare 53 = .ok (.iload_n 1, 1) := by decide +kernel
theorem dX1_compare_54 : decode cX1_compare 54 = .ok (.invokevirtual 98, 3) := by decide +kernel
theorem dX1_compare_57 : decode cX1_compare 57 = .ok (.ifCond .eq 7, 3) := by decide +kernel
theorem dX1_compare_60 : decode cX1_compare 60 = .ok (.iconst 0, 1) := by decide +kernel
theorem dX1_compare_61 : decode cX1_compare 61 = .ok (.goto 20, 3) := by decide +kernel
theorem dX1_compare_64 : decode cX1_compare 64 = .ok (.aload_n 0, 1) := by decide +kernel
theorem dX1_compare_65 : decode cX1_compare 65 = .ok (.getfield 13, 3) := by decide +kernel
theorem dX1_compare_68 : decode cX1_compare 68 = .ok (.iload_n 1, 1) := by decide +kernel
theorem dX1_compare_69 : decode cX1_compare 69 = .ok (.iaload, 1) := by decide +kernel
theorem dX1_compare_70 : decode cX1_compare 70 = .ok (.sipush 32767, 3) := by decide +kernel
theorem dX1_compare_73 : decode cX1_compare 73 = .ok (.if_icmp .le 7, 3) := by decide +kernel
theorem dX1_compare_76 : decode cX1_compare 76 = .ok (.iconst (-1), 1) := by decide +kernel
theorem dX1_compare_77 : decode cX1_compare 77 = .ok (.goto 4, 3) := by decide +kernel
theorem dX1_compare_80 : decode cX1_compare 80 = .ok (.iconst 1, 1) := by decide +kernel
theorem dX1_compare_81 : decode cX1_compare 81 = .ok (.istore_n 3, 1) := by decide +kernel
theorem dX1_compare_82 : decode cX1_compare 82 = .ok (.aload_n 0, 1) := by decide +kernel
theorem dX1_compare_83 : decode cX1_compare 83 = .ok (.iload_n 2, 1) := by decide +kernel
theorem dX1_compare_84 : decode cX1_compare 84 = .ok (.invokevirtual 98, 3) := by decide +kernel
theorem dX1_compare_87 : decode cX1_compare 87 = .ok (.ifCond .eq 7, 3) := by decide +kernel
theorem dX1_compare_90 : decode cX1_compare 90 = .ok (.iconst 0, 1) := by decide +kernel
theorem dX1_compare_91 : decode cX1_compare 91 = .ok (.goto 20, 3) := by decide +kernel
theorem dX1_compare_94 : decode cX1_compare 94 = .ok (.aload_n 0, 1) := by decide +kernel
theorem dX1_compare_95 : decode cX1_compare 95 = .ok (.getfield 13, 3) := by decide +kernel
theorem dX1_compare_98 : decode cX1_compare 98 = .ok (.iload_n 2, 1) := by decide +kernel
theorem dX1_compare_99 : decode cX1_compare 99 = .ok (.iaload, 1) := by decide +kernel
theorem dX1_compare_100 : decode cX1_compare 100 = .ok (.sipush 32767, 3) := by decide +kernel
theorem dX1_compare_103 : decode cX1_compare 103 = .ok (.if_icmp .le 7, 3) := by decide +kernel
theorem dX1_compare_106 : decode cX1_compare 106 = .ok (.iconst (-1), 1) := by decide +kernel
theorem dX1_compare_107 : decode cX1_compare 107 = .ok (.goto 4, 3) := by decide +kernel
theorem dX1_compare_110 : decode cX1_compare 110 = .ok (.iconst 1, 1) := by decide +kernel
theorem dX1_compare_111 : decode cX1_compare 111 = .ok (.istore 4, 2) := by decide +kernel
theorem dX1_compare_113 : decode cX1_compare 113 = .ok (.iload_n 3, 1) := by decide +kernel
theorem dX1_compare_114 : decode cX1_compare 114 = .ok (.iload 4, 2) := by decide +kernel
theorem dX1_compare_116 : decode cX1_compare 116 = .ok (.if_icmp .eq 15, 3) := by decide +kernel
theorem dX1_compare_119 : decode cX1_compare 119 = .ok (.iload_n 3, 1) := by decide +kernel
theorem dX1_compare_120 : decode cX1_compare 120 = .ok (.iload 4, 2) := by decide +kernel
theorem dX1_compare_122 : decode cX1_compare 122 = .ok (.if_icmp .ge 7, 3) := by decide +kernel
theorem dX1_compare_125 : decode cX1_compare 125 = .ok (.iconst (-1), 1) := by decide +kernel
theorem dX1_compare_126 : decode cX1_compare 126 = .ok (.goto 4, 3) := by decide +kernel
theorem dX1_compare_129 : decode cX1_compare 129 = .ok (.iconst 1, 1) := by decide +kernel
theorem dX1_compare_130 : decode cX1_compare 130 = .ok (.ireturn, 1) := by decide +kernel
theorem dX1_compare_131 : decode cX1_compare 131 = .ok (.iload_n 3, 1) := by decide +kernel
theorem dX1_compare_132 : decode cX1_compare 132 = .ok (.aload_n 0, 1) := by decide +kernel
theorem dX1_compare_133 : decode cX1_compare 133 = .ok (.iload_n 1, 1) := by decide +kernel
theorem dX1_compare_134 : decode cX1_compare 134 = .ok (.iload_n 2, 1) := by decide +kernel
theorem dX1_compare_135 : decode cX1_compare 135 = .ok (.invokevirtual 101, 3) := by decide +kernel
theorem dX1_compare_138 : decode cX1_compare 138 = .ok (.imul, 1) := by decide +kernel
theorem dX1_compare_139 : decode cX1_compare 139 = .ok (.ireturn, 1) := by decide +kernel
theorem dX1_isNothing_0 : decode cX1_isNothing 0 = .ok (.aload_n 0, 1) := by decide +kernel
theorem dX1_isNothing_1 : decode cX1_isNothing 1 = .ok (.iload_n 1, 1) := by decide +kernel
theorem dX1_isNothing_2 : decode cX1_isNothing 2 = .ok (.invokevirtual 39, 3) := by decide +kernel
theorem dX1_isNothing_5 : decode cX1_isNothing 5 = .ok (.iconst 3, 1) := by decide +kernel
theorem dX1_isNothing_6 : decode cX1_isNothing 6 = .ok (.if_icmp .ge 18, 3) := by decide +kernel
theorem dX1_isNothing_9 : decode cX1_isNothing 9 = .ok (.aload_n 0, 1) := by decide +kernel
theorem dX1_isNothing_10 : decode cX1_isNothing 10 = .ok (.getfield 17, 3) := by decide +kernel
theorem dX1_isNothing_13 : decode cX1_isNothing 13 = .ok (.iload_n 1, 1) := by decide +kernel
theorem dX1_isNothing_14 : decode cX1_isNothing 14 = .ok (.laload, 1) := by decide +kernel
theorem dX1_isNothing_15 : decode cX1_isNothing 15 = .ok (.lconst 0, 1) := by decide +kernel
theorem dX1_isNothing_16 : decode cX1_isNothing 16 = .ok (.lcmp, 1) := by decide +kernel
theorem dX1_isNothing_17 : decode cX1_isNothing 17 = .ok (.ifCond .ne 7, 3) := by decide +kernel
theorem dX1_isNothing_20 : decode cX1_isNothing 20 = .ok (.iconst 1, 1) := by decide +kernel
theorem dX1_isNothing_21 : decode cX1_isNothing 21 = .ok (.goto 4, 3) := by decide +kernel
theorem dX1_isNothing_24 : decode cX1_isNothing 24 = .ok (.iconst 0, 1) := by decide +kernel
theorem dX1_isNothing_25 : decode cX1_isNothing 25 = .ok (.ireturn, 1) := by decide +kernel
theorem dX1_compareSizes_0 : decode cX1_compareSizes 0 = .ok (.aload_n 0, 1) := by decide +kernel
theorem dX1_compareSizes_1 : decode cX1_compareSizes 1 = .ok (.iload_n 1, 1) := by decide +kernel
theorem dX1_compareSizes_2 : decode cX1_compareSizes 2 = .ok (.invokevirtual 39, 3) := by decide +kernel
theorem dX1_compareSizes_5 : decode cX1_compareSizes 5 = .ok (.iconst 4, 1) := by decide +kernel
theorem dX1_compareSizes_6 : decode cX1_compareSizes 6 = .ok (.if_icmp .eq 12, 3) := by decide +kernel
theorem dX1_compareSizes_9 : decode cX1_compareSizes 9 = .ok (.aload_n 0, 1) := by decide +kernel
theorem dX1_compareSizes_10 : decode cX1_compareSizes 10 = .ok (.iload_n 2, 1) := by decide +kernel
theorem dX1_compareSizes_11 : decode cX1_compareSizes 11 = .ok (.invokevirtual 39, 3) := by decide +kernel
theorem dX1_compareSizes_14 : decode cX1_compareSizes 14 = .ok (.iconst 4, 1) := by decide +kernel
theorem dX1_compareSizes_15 : decode cX1_compareSizes 15 = .ok (.if_icmp .ne 33, 3) := by decide +kernel
theorem dX1_compareSizes_18 : decode cX1_compareSizes 18 = .ok (.aload_n 0, 1) := by decide +kernel
theorem dX1_compareSizes_19 : decode cX1_compareSizes 19 = .ok (.iload_n 1, 1) := by decide +kernel
theorem dX1_compareSizes_20 : decode cX1_compareSizes 20 = .ok (.invokevirtual 39, 3) := by decide +kernel
theorem dX1_compareSizes_23 : decode cX1_compareSizes 23 = .ok (.iconst 4, 1) := by decide +kernel
theorem dX1_compareSizes_24 : decode cX1_compareSizes 24 = .ok (.if_icmp .ne 7, 3) := by decide +kernel
theorem dX1_compareSizes_27 : decode cX1_compareSizes 27 = .ok (.iconst 1, 1) := by decide +kernel
theorem dX1_compareSizes_28 : decode cX1_compareSizes 28 = .ok (.goto 4, 3) := by decide +kernel
theorem dX1_compareSizes_31 : decode cX1_compareSizes 31 = .ok (.iconst 0, 1) := by decide +kernel
theorem dX1_compareSizes_32 : decode cX1_compareSizes 32 = .ok (.aload_n 0, 1) := by decide +kernel
theorem dX1_compareSizes_33 : decode cX1_compareSizes 33 = .ok (.iload_n 2, 1) := by decide +kernel
theorem dX1_compareSizes_34 : decode cX1_compareSizes 34 = .ok (.invokevirtual 39, 3) := by decide +kernel
theorem dX1_compareSizes_37 : decode cX1_compareSizes 37 = .ok (.iconst 4, 1) := by decide +kernel
theorem dX1_compareSizes_38 : decode cX1_compareSizes 38 = .ok (.if_icmp .ne 7, 3) := by decide +kernel
theorem dX1_compareSizes_41 : decode cX1_compareSizes 41 = .ok (.iconst 1, 1) := by decide +kernel
theorem dX1_compareSizes_42 : decode cX1_compareSizes 42 = .ok (.goto 4, 3) := by decide +kernel
theorem dX1_compareSizes_45 : decode cX1_compareSizes 45 = .ok (.iconst 0, 1) := by decide +kernel
theorem dX1_compareSizes_46 : decode cX1_compareSizes 46 = .ok (.isub, 1) := by decide +kernel
theorem dX1_compareSizes_47 : decode cX1_compareSizes 47 = .ok (.ireturn, 1) := by decide +kernel
theorem dX1_compareSizes_48 : decode cX1_compareSizes 48 = .ok (.aload_n 0, 1) := by decide +kernel
theorem dX1_compareSizes_49 : decode cX1_compareSizes 49 = .ok (.iload_n 1, 1) := by decide +kernel
theorem dX1_compareSizes_50 : decode cX1_compareSizes 50 = .ok (.invokevirtual 98, 3) := by decide +kernel
theorem dX1_compareSizes_53 : decode cX1_compareSizes 53 = .ok (.ifCond .ne 11, 3) := by decide +kernel
theorem dX1_compareSizes_56 : decode cX1_compareSizes 56 = .ok (.aload_n 0, 1) := by decide +kernel
theorem dX1_compareSizes_57 : decode cX1_compareSizes 57 = .ok (.iload_n 2, 1) := by decide +kernel
theorem dX1_compareSizes_58 : decode cX1_compareSizes 58 = .ok (.invokevirtual 98, 3) := by decide +kernel
theorem dX1_compareSizes_61 : decode cX1_compareSizes 61 = .ok (.ifCond .eq 31, 3) := by decide +kernel
theorem dX1_compareSizes_64 : decode cX1_compareSizes 64 = .ok (.aload_n 0, 1) := by decide +kernel
theorem dX1_compareSizes_65 : decode cX1_compareSizes 65 = .ok (.iload_n 2, 1) := by decide +kernel
theorem dX1_compareSizes_66 : decode cX1_compareSizes 66 = .ok (.invokevirtual 98, 3) := by decide +kernel
theorem dX1_compareSizes_69 : decode cX1_compareSizes 69 = .ok (.ifCond .eq 7, 3) := by decide +kernel
theorem dX1_compareSizes_72 : decode cX1_compareSizes 72 = .ok (.iconst 1, 1) := by decide +kernel
theorem dX1_compareSizes_73 : decode cX1_compareSizes 73 = .ok (.goto 4, 3) := by decide +kernel
theorem dX1_compareSizes_76 : decode cX1_compareSizes 76 = .ok (.iconst 0, 1) := by decide +kernel
theorem dX1_compareSizes_77 : decode cX1_compareSizes 77 = .ok (.aload_n 0, 1) := by decide +kernel
theorem dX1_compareSizes_78 : decode cX1_compareSizes 78 = .ok (.iload_n 1, 1) := by decide +kernel
theorem dX1_compareSizes_79 : decode cX1_compareSizes 79 = .ok (.invokevirtual 98, 3) := by decide +kernel
theorem dX1_compareSizes_82 : decode cX1_compareSizes 82 = .ok (.ifCond .eq 7, 3) := by decide +kernel
theorem dX1_compareSizes_85 : decode cX1_compareSizes 85 = .ok (.iconst 1, 1) := by decide +kernel
theorem dX1_compareSizes_86 : decode cX1_compareSizes 86 = .ok (.goto 4, 3) := by decide +kernel
theorem dX1_compareSizes_89 : decode cX1_compareSizes 89 = .ok (.iconst 0, 1) := by decide +kernel
theorem dX1_compareSizes_90 : decode cX1_compareSizes 90 = .ok (.isub, 1) := by decide +kernel
theorem dX1_compareSizes_91 : decode cX1_compareSizes 91 = .ok (.ireturn, 1) := by decide +kernel
theorem dX1_compareSizes_92 : decode cX1_compareSizes 92 = .ok (.aload_n 0, 1) := by decide +kernel
theorem dX1_compareSizes_93 : decode cX1_compareSizes 93 = .ok (.getfield 17, 3) := by decide +kernel
theorem dX1_compareSizes_96 : decode cX1_compareSizes 96 = .ok (.iload_n 1, 1) := by decide +kernel
theorem dX1_compareSizes_97 : decode cX1_compareSizes 97 = .ok (.laload, 1) := by decide +kernel
theorem dX1_compareSizes_98 : decode cX1_compareSizes 98 = .ok (.lstore_n 3, 1) := by decide +kernel
theorem dX1_compareSizes_99 : decode cX1_compareSizes 99 = .ok (.aload_n 0, 1) := by decide +kernel
theorem dX1_compareSizes_100 : decode cX1_compareSizes 100 = .ok (.iload_n 1, 1) := by decide +kernel
theorem dX1_compareSizes_101 : decode cX1_compareSizes 101 = .ok (.invokevirtual 95, 3) := by decide +kernel
theorem dX1_compareSizes_104 : decode cX1_compareSizes 104 = .ok (.istore 5, 2) := by decide +kernel
theorem dX1_compareSizes_106 : decode cX1_compareSizes 106 = .ok (.aload_n 0, 1) := by decide +kernel
theorem dX1_compareSizes_107 : decode cX1_compareSizes 107 = .ok (.getfield 17, 3) := by decide +kernel
theorem dX1_compareSizes_110 : decode cX1_compareSizes 110 = .ok (.iload_n 2, 1) := by decide +kernel
theorem dX1_compareSizes_111 : decode cX1_compareSizes 111 = .ok (.laload, 1) := by decide +kernel
theorem dX1_compareSizes_112 : decode cX1_compareSizes 112 = .ok (.lstore 6, 2) := by decide +kernel
theorem dX1_compareSizes_114 : decode cX1_compareSizes 114 = .ok (.aload_n 0, 1) := by decide +kernel
theorem dX1_compareSizes_115 : decode cX1_compareSizes 115 = .ok (.iload_n 2, 1) := by decide +kernel
theorem dX1_compareSizes_116 : decode cX1_compareSizes 116 = .ok (.invokevirtual 95, 3) := by decide +kernel
theorem dX1_compareSizes_119 : decode cX1_compareSizes 119 = .ok (.istore 8, 2) := by decide +kernel
theorem dX1_compareSizes_121 : decode cX1_compareSizes 121 = .ok (.lload_n 3, 1) := by decide +kernel
theorem dX1_compareSizes_122 : decode cX1_compareSizes 122 = .ok (.lconst 0, 1) := by decide +kernel
theorem dX1_compareSizes_123 : decode cX1_compareSizes 123 = .ok (.lcmp, 1) := by decide +kernel
theorem dX1_compareSizes_124 : decode cX1_compareSizes 124 = .ok (.ifCond .le 15, 3) := by decide +kernel
theorem dX1_compareSizes_127 : decode cX1_compareSizes 127 = .ok (.ldc2_w 53, 3) := by decide +kernel
theorem dX1_compareSizes_130 : decode cX1_compareSizes 130 = .ok (.lload_n 3, 1) := by decide +kernel
theorem dX1_compareSizes_131 : decode cX1_compareSizes 131 = .ok (.lmul, 1) := by decide +kernel
theorem dX1_compareSizes_132 : decode cX1_compareSizes 132 = .ok (.lstore_n 3, 1) := by decide +kernel
theorem dX1_compareSizes_133 : decode cX1_compareSizes 133 = .ok (.iinc 5 (-1), 3) := by decide +kernel
theorem dX1_compareSizes_136 : decode cX1_compareSizes 136 = .ok (.goto (-15), 3) := by decide +kernel
theorem dX1_compareSizes_139 : decode cX1_compareSizes 139 = .ok (.lload 6, 2) := by decide +kernel
theorem dX1_compareSizes_141 : decode cX1_compareSizes 141 = .ok (.lconst 0, 1) := by decide +kernel
theorem dX1_compareSizes_142 : decode cX1_compareSizes 142 = .ok (.lcmp, 1) := by decide +kernel
theorem dX1_compareSizes_143 : decode cX1_compareSizes 143 = .ok (.ifCond .le 17, 3) := by decide +kernel
theorem dX1_compareSizes_146 : decode cX1_compareSizes 146 = .ok (.ldc2_w 53, 3) := by decide +kernel
theorem dX1_compareSizes_149 : decode cX1_compareSizes 149 = .ok (.lload 6, 2) := by decide +kernel
theorem dX1_compareSizes_151 : decode cX1_compareSizes 151 = .ok (.lmul, 1) := by decide +kernel
theorem dX1_compareSizes_152 : decode cX1_compareSizes 152 = .ok (.lstore 6, 2) := by decide +kernel
theorem dX1_compareSizes_154 : decode cX1_compareSizes 154 = .ok (.iinc 8 (-1), 3) := by decide +kernel
theorem dX1_compareSizes_157 : decode cX1_compareSizes 157 = .ok (.goto (-18), 3) := by decide +kernel
theorem dX1_compareSizes_160 : decode cX1_compareSizes 160 = .ok (.iload 5, 2) := by decide +kernel
theorem dX1_compareSizes_162 : decode cX1_compareSizes 162 = .ok (.iload 8, 2) := by decide +kernel
theorem dX1_compareSizes_164 : decode cX1_compareSizes 164 = .ok (.if_icmp .eq 16, 3) := by decide +kernel
theorem dX1_compareSizes_167 : decode cX1_compareSizes 167 = .ok (.iload 5, 2) := by decide +kernel
theorem dX1_compareSizes_169 : decode cX1_compareSizes 169 = .ok (.iload 8, 2) := by decide +kernel
theorem dX1_compareSizes_171 : decode cX1_compareSizes 171 = .ok (.if_icmp .ge 7, 3) := by decide +kernel
theorem dX1_compareSizes_174 : decode cX1_compareSizes 174 = .ok (.iconst (-1), 1) := by decide +kernel
theorem dX1_compareSizes_175 : decode cX1_compareSizes 175 = .ok (.goto 4, 3) := by decide +kernel
theorem dX1_compareSizes_178 : decode cX1_compareSizes 178 = .ok (.iconst 1, 1) := by decide +kernel
theorem dX1_compareSizes_179 : decode cX1_compareSizes 179 = .ok (.ireturn, 1) := by decide +kernel
theorem dX1_compareSizes_180 : decode cX1_compareSizes 180 = .ok (.lload_n 3, 1) := by decide +kernel
theorem dX1_compareSizes_181 : decode cX1_compareSizes 181 = .ok (.lload 6, 2) := by decide +kernel
theorem dX1_compareSizes_183 : decode cX1_compareSizes 183 = .ok (.lcmp, 1) := by decide +kernel
theorem dX1_compareSizes_184 : decode cX1_compareSizes 184 = .ok (.ifCond .ne 7, 3) := by decide +kernel
theorem dX1_compareSizes_187 : decode cX1_compareSizes 187 = .ok (.iconst 0, 1) := by decide +kernel
theorem dX1_compareSizes_188 : decode cX1_compareSizes 188 = .ok (.goto 15, 3) := by decide +kernel
theorem dX1_compareSizes_191 : decode cX1_compareSizes 191 = .ok (.lload_n 3, 1) := by decide +kernel
theorem dX1_compareSizes_192 : decode cX1_compareSizes 192 = .ok (.lload 6, 2) := by decide +kernel
theorem dX1_compareSizes_194 : decode cX1_compareSizes 194 = .ok (.lcmp, 1) := by decide +kernel
theorem dX1_compareSizes_195 : decode cX1_compareSizes 195 = .ok (.ifCond .ge 7, 3) := by decide +kernel
theorem dX1_compareSizes_198 : decode cX1_compareSizes 198 = .ok (.iconst (-1), 1) := by decide +kernel
theorem dX1_compareSizes_199 : decode cX1_compareSizes 199 = .ok (.goto 4, 3) := by decide +kernel
theorem dX1_compareSizes_202 : decode cX1_compareSizes 202 = .ok (.iconst 1, 1) := by decide +kernel
theorem dX1_compareSizes_203 : decode cX1_compareSizes 203 = .ok (.ireturn, 1) := by decide +kernel
theorem dX1_neighbour_0 : decode cX1_neighbour 0 = .ok (.aload_n 0, 1) := by decide +kernel
theorem dX1_neighbour_1 : decode cX1_neighbour 1 = .ok (.iload_n 1, 1) := by decide +kernel
theorem dX1_neighbour_2 : decode cX1_neighbour 2 = .ok (.invokestatic 28, 3) := by decide +kernel
theorem dX1_neighbour_5 : decode cX1_neighbour 5 = .ok (.ifCond .ne 10, 3) := by decide +kernel
theorem dX1_neighbour_8 : decode cX1_neighbour 8 = .ok (.iload_n 3, 1) := by decide +kernel
theorem dX1_neighbour_9 : decode cX1_neighbour 9 = .ok (.invokestatic 28, 3) := by decide +kernel
theorem dX1_neighbour_12 : decode cX1_neighbour 12 = .ok (.ifCond .eq 7, 3) := by decide +kernel
theorem dX1_neighbour_15 : decode cX1_neighbour 15 = .ok (.iconst 1, 1) := by decide +kernel
theorem dX1_neighbour_16 : decode cX1_neighbour 16 = .ok (.goto 4, 3) := by decide +kernel
theorem dX1_neighbour_19 : decode cX1_neighbour 19 = .ok (.iconst 0, 1) := by decide +kernel
theorem dX1_neighbour_20 : decode cX1_neighbour 20 = .ok (.putfield 24, 3) := by decide +kernel
theorem dX1_neighbour_23 : decode cX1_neighbour 23 = .ok (.aload_n 0, 1) := by decide +kernel
theorem dX1_neighbour_24 : decode cX1_neighbour 24 = .ok (.getfield 24, 3) := by decide +kernel
theorem dX1_neighbour_27 : decode cX1_neighbour 27 = .ok (.ifCond .le 4, 3) := by decide +kernel
theorem dX1_neighbour_30 : decode cX1_neighbour 30 = .ok (.return_, 1) := by decide +kernel
theorem dX1_neighbour_31 : decode cX1_neighbour 31 = .ok (.aload_n 0, 1) := by decide +kernel
theorem dX1_neighbour_32 : decode cX1_neighbour 32 = .ok (.getfield 13, 3) := by decide +kernel
theorem dX1_neighbour_35 : decode cX1_neighbour 35 = .ok (.iload_n 1, 1) := by decide +kernel
theorem dX1_neighbour_36 : decode cX1_neighbour 36 = .ok (.iaload, 1) := by decide +kernel
theorem dX1_neighbour_37 : decode cX1_neighbour 37 = .ok (.sipush 32767, 3) := by decide +kernel
theorem dX1_neighbour_40 : decode cX1_neighbour 40 = .ok (.if_icmp .le 7, 3) := by decide +kernel
theorem dX1_neighbour_43 : decode cX1_neighbour 43 = .ok (.iconst 1, 1) := by decide +kernel
theorem dX1_neighbour_44 : decode cX1_neighbour 44 = .ok (.goto 4, 3) := by decide +kernel
theorem dX1_neighbour_47 : decode cX1_neighbour 47 = .ok (.iconst 0, 1) := by decide +kernel
theorem dX1_neighbour_48 : decode cX1_neighbour 48 = .ok (.istore 4, 2) := by decide +kernel
theorem dX1_neighbour_50 : decode cX1_neighbour 50 = .ok (.aload_n 0, 1) := by decide +kernel
theorem dX1_neighbour_51 : decode cX1_neighbour 51 = .ok (.getfield 13, 3) := by decide +kernel
theorem dX1_neighbour_54 : decode cX1_neighbour 54 = .ok (.iload_n 1, 1) := by decide +kernel
theorem dX1_neighbour_55 : decode cX1_neighbour 55 = .ok (.iaload, 1) := by decide +kernel
theorem dX1_neighbour_56 : decode cX1_neighbour 56 = .ok (.ldc 36, 2) := by decide +kernel
theorem dX1_neighbour_58 : decode cX1_neighbour 58 = .ok (.irem, 1) := by decide +kernel
theorem dX1_neighbour_59 : decode cX1_neighbour 59 = .ok (.istore 5, 2) := by decide +kernel
theorem dX1_neighbour_61 : decode cX1_neighbour 61 = .ok (.aload_n 0, 1) := by decide +kernel
theorem dX1_neighbour_62 : decode cX1_neighbour 62 = .ok (.getfield 17, 3) := by decide +kernel
theorem dX1_neighbour_65 : decode cX1_neighbour 65 = .ok (.iload_n 1, 1) := by decide +kernel
theorem dX1_neighbour_66 : decode cX1_neighbour 66 = .ok (.laload, 1) := by decide +kernel
theorem dX1_neighbour_67 : decode cX1_neighbour 67 = .ok (.lstore 6, 2) := by decide +kernel
theorem dX1_neighbour_69 : decode cX1_neighbour 69 = .ok (.aload_n 0, 1) := by decide +kernel
theorem dX1_neighbour_70 : decode cX1_neighbour 70 = .ok (.iload_n 1, 1) := by decide +kernel
theorem dX1_neighbour_71 : decode cX1_neighbour 71 = .ok (.invokevirtual 39, 3) := by decide +kernel
theorem dX1_neighbour_74 : decode cX1_neighbour 74 = .ok (.iconst 5, 1) := by decide +kernel
theorem dX1_neighbour_75 : decode cX1_neighbour 75 = .ok (.if_icmp .eq 18, 3) := by decide +kernel
theorem dX1_neighbour_78 : decode cX1_neighbour 78 = .ok (.aload_n 0, 1) := by decide +kernel
theorem dX1_neighbour_79 : decode cX1_neighbour 79 = .ok (.iload_n 1, 1) := by decide +kernel
theorem dX1_neighbour_80 : decode cX1_neighbour 80 = .ok (.invokevirtual 39, 3) := by decide +kernel
theorem dX1_neighbour_83 : decode cX1_neighbour 83 = .ok (.iconst 4, 1) := by decide +kernel
theorem dX1_neighbour_84 : decode cX1_neighbour 84 = .ok (.if_icmp .ne 30, 3) := by decide +kernel
theorem dX1_neighbour_87 : decode cX1_neighbour 87 = .ok (.iload 4, 2) := by decide +kernel
theorem dX1_neighbour_89 : decode cX1_neighbour 89 = .ok (.iload_n 2, 1) := by decide +kernel
theorem dX1_neighbour_90 : decode cX1_neighbour 90 = .ok (.if_icmp .eq 24, 3) := by decide +kernel
theorem dX1_neighbour_93 : decode cX1_neighbour 93 = .ok (.aload_n 0, 1) := by decide +kernel
theorem dX1_neighbour_94 : decode cX1_neighbour 94 = .ok (.getfield 13, 3) := by decide +kernel
theorem dX1_neighbour_97 : decode cX1_neighbour 97 = .ok (.iload_n 3, 1) := by decide +kernel
theorem dX1_neighbour_98 : decode cX1_neighbour 98 = .ok (.aload_n 0, 1) := by decide +kernel
theorem dX1_neighbour_99 : decode cX1_neighbour 99 = .ok (.getfield 13, 3) := by decide +kernel
theorem dX1_neighbour_102 : decode cX1_neighbour 102 = .ok (.iload_n 1, 1) := by decide +kernel
theorem dX1_neighbour_103 : decode cX1_neighbour 103 = .ok (.iaload, 1) := by decide +kernel
theorem dX1_neighbour_104 : decode cX1_neighbour 104 = .ok (.iastore, 1) := by decide +kernel
theorem dX1_neighbour_105 : decode cX1_neighbour 105 = .ok (.aload_n 0, 1) := by decide +kernel
theorem dX1_neighbour_106 : decode cX1_neighbour 106 = .ok (.getfield 17, 3) := by decide +kernel
theorem dX1_neighbour_109 : decode cX1_neighbour 109 = .ok (.iload_n 3, 1) := by decide +kernel
theorem dX1_neighbour_110 : decode cX1_neighbour 110 = .ok (.lload 6, 2) := by decide +kernel
theorem dX1_neighbour_112 : decode cX1_neighbour 112 = .ok (.lastore, 1) := by decide +kernel
theorem dX1_neighbour_113 : decode cX1_neighbour 113 = .ok (.return_, 1) := by decide +kernel
theorem dX1_neighbour_114 : decode cX1_neighbour 114 = .ok (.iload 4, 2) := by decide +kernel
theorem dX1_neighbour_116 : decode cX1_neighbour 116 = .ok (.iload_n 2, 1) := by decide +kernel
theorem dX1_neighbour_117 : decode cX1_neighbour 117 = .ok (.if_icmp .eq 7, 3) := by decide +kernel
theorem dX1_neighbour_120 : decode cX1_neighbour 120 = .ok (.iconst 1, 1) := by decide +kernel
theorem dX1_neighbour_121 : decode cX1_neighbour 121 = .ok (.goto 4, 3) := by decide +kernel
theorem dX1_neighbour_124 : decode cX1_neighbour 124 = .ok (.iconst 0, 1) := by decide +kernel
theorem dX1_neighbour_125 : decode cX1_neighbour 125 = .ok (.istore 8, 2) := by decide +kernel
theorem dX1_neighbour_127 : decode cX1_neighbour 127 = .ok (.aload_n 0, 1) := by decide +kernel
theorem dX1_neighbour_128 : decode cX1_neighbour 128 = .ok (.iload_n 1, 1) := by decide +kernel
theorem dX1_neighbour_129 : decode cX1_neighbour 129 = .ok (.invokevirtual 98, 3) := by decide +kernel
theorem dX1_neighbour_132 : decode cX1_neighbour 132 = .ok (.ifCond .eq 23, 3) := by decide +kernel
theorem dX1_neighbour_135 : decode cX1_neighbour 135 = .ok (.iload_n 2, 1) := by decide +kernel
theorem dX1_neighbour_136 : decode cX1_neighbour 136 = .ok (.ifCond .ne 7, 3) := by decide +kernel
theorem dX1_neighbour_139 : decode cX1_neighbour 139 = .ok (.iconst 1, 1) := by decide +kernel
theorem dX1_neighbour_140 : decode cX1_neighbour 140 = .ok (.goto 4, 3) := by decide +kernel
theorem dX1_neighbour_143 : decode cX1_neighbour 143 = .ok (.iconst 0, 1) := by decide +kernel
theorem dX1_neighbour_144 : decode cX1_neighbour 144 = .ok (.istore 4, 2) := by decide +kernel
theorem dX1_neighbour_146 : decode cX1_neighbour 146 = .ok (.iconst 0, 1) := by decide +kernel
theorem dX1_neighbour_147 : decode cX1_neighbour 147 = .ok (.istore 5, 2) := by decide +kernel
theorem dX1_neighbour_149 : decode cX1_neighbour 149 = .ok (.lconst 1, 1) := by decide +kernel
theorem dX1_neighbour_150 : decode cX1_neighbour 150 = .ok (.lstore 6, 2) := by decide +kernel
theorem dX1_neighbour_152 : decode cX1_neighbour 152 = .ok (.goto 128, 3) := by decide +kernel
theorem dX1_neighbour_155 : decode cX1_neighbour 155 = .ok (.aload_n 0, 1) := by decide +kernel
theorem dX1_neighbour_156 : decode cX1_neighbour 156 = .ok (.iload_n 1, 1) := by decide +kernel
theorem dX1_neighbour_157 : decode cX1_neighbour 157 = .ok (.invokevirtual 39, 3) := by decide +kernel
theorem dX1_neighbour_160 : decode cX1_neighbour 160 = .ok (.iconst 4, 1) := by decide +kernel
theorem dX1_neighbour_161 : decode cX1_neighbour 161 = .ok (.if_icmp .ne 8, 3) := by decide +kernel
theorem dX1_neighbour_164 : decode cX1_neighbour 164 = .ok (.ldc2_w 37, 3) := by decide +kernel
theorem dX1_neighbour_167 : decode cX1_neighbour 167 = .ok (.lstore 6, 2) := by decide +kernel
theorem dX1_neighbour_169 : decode cX1_neighbour 169 = .ok (.iload 5, 2) := by decide +kernel
theorem dX1_neighbour_171 : decode cX1_neighbour 171 = .ok (.ifCond .ne 7, 3) := by decide +kernel
theorem dX1_neighbour_174 : decode cX1_neighbour 174 = .ok (.iconst 1, 1) := by decide +kernel
theorem dX1_neighbour_175 : decode cX1_neighbour 175 = .ok (.goto 5, 3) := by decide +kernel
theorem dX1_neighbour_178 : decode cX1_neighbour 178 = .ok (.iload 5, 2) := by decide +kernel
theorem dX1_neighbour_180 : decode cX1_neighbour 180 = .ok (.istore 5, 2) := by decide +kernel
theorem dX1_neighbour_182 : decode cX1_neighbour 182 = .ok (.iload 5, 2) := by decide +kernel
theorem dX1_neighbour_184 : decode cX1_neighbour 184 = .ok (.iconst 1, 1) := by decide +kernel
theorem dX1_neighbour_185 : decode cX1_neighbour 185 = .ok (.if_icmp .le 24, 3) := by decide +kernel
theorem dX1_neighbour_188 : decode cX1_neighbour 188 = .ok (.lload 6, 2) := by decide +kernel
theorem dX1_neighbour_190 : decode cX1_neighbour 190 = .ok (.lconst 0, 1) := by decide +kernel
theorem dX1_neighbour_191 : decode cX1_neighbour 191 = .ok (.lcmp, 1) := by decide +kernel
theorem dX1_neighbour_192 : decode cX1_neighbour 192 = .ok (.ifCond .lt 17, 3) := by decide +kernel
theorem dX1_neighbour_195 : decode cX1_neighbour 195 = .ok (.ldc2_w 53, 3) := by decide +kernel
theorem dX1_neighbour_198 : decode cX1_neighbour 198 = .ok (.lload 6, 2) := by decide +kernel
theorem dX1_neighbour_200 : decode cX1_neighbour 200 = .ok (.lmul, 1) := by decide +kernel
theorem dX1_neighbour_201 : decode cX1_neighbour 201 = .ok (.lstore 6, 2) := by decide +kernel
theorem dX1_neighbour_203 : decode cX1_neighbour 203 = .ok (.iinc 5 (-1), 3) := by decide +kernel
theorem dX1_neighbour_206 : decode cX1_neighbour 206 = .ok (.goto (-24), 3) := by decide +kernel
theorem dX1_neighbour_209 : decode cX1_neighbour 209 = .ok (.iload 8, 2) := by decide +kernel
theorem dX1_neighbour_211 : decode cX1_neighbour 211 = .ok (.ifCond .eq 27, 3) := by decide +kernel
theorem dX1_neighbour_214 : decode cX1_neighbour 214 = .ok (.lload 6, 2) := by decide +kernel
theorem dX1_neighbour_216 : decode cX1_neighbour 216 = .ok (.lconst 1, 1) := by decide +kernel
theorem dX1_neighbour_217 : decode cX1_neighbour 217 = .ok (.ladd, 1) := by decide +kernel
theorem dX1_neighbour_218 : decode cX1_neighbour 218 = .ok (.lstore 6, 2) := by decide +kernel
theorem dX1_neighbour_220 : decode cX1_neighbour 220 = .ok (.lload 6, 2) := by decide +kernel
theorem dX1_neighbour_222 : decode cX1_neighbour 222 = .ok (.lconst 0, 1) := by decide +kernel
theorem dX1_neighbour_223 : decode cX1_neighbour 223 = .ok (.lcmp, 1) := by decide +kernel
theorem dX1_neighbour_224 : decode cX1_neighbour 224 = .ok (.ifCond .ne 41, 3) := by decide +kernel
theorem dX1_neighbour_227 : decode cX1_neighbour 227 = .ok (.ldc2_w 37, 3) := by decide +kernel
theorem dX1_neighbour_230 : decode cX1_neighbour 230 = .ok (.lstore 6, 2) := by decide +kernel
theorem dX1_neighbour_232 : decode cX1_neighbour 232 = .ok (.iinc 5 1, 3) := by decide +kernel
theorem dX1_neighbour_235 : decode cX1_neighbour 235 = .ok (.goto 30, 3) := by decide +kernel
theorem dX1_neighbour_238 : decode cX1_neighbour 238 = .ok (.lload 6, 2) := by decide +kernel
theorem dX1_neighbour_240 : decode cX1_neighbour 240 = .ok (.ldc2_w 37, 3) := by decide +kernel
theorem dX1_neighbour_243 : decode cX1_neighbour 243 = .ok (.lcmp, 1) := by decide +kernel
theorem dX1_neighbour_244 : decode cX1_neighbour 244 = .ok (.ifCond .ne 15, 3) := by decide +kernel
theorem dX1_neighbour_247 : decode cX1_neighbour 247 = .ok (.iload 5, 2) := by decide +kernel
theorem dX1_neighbour_249 : decode cX1_neighbour 249 = .ok (.iconst 1, 1) := by decide +kernel
theorem dX1_neighbour_250 : decode cX1_neighbour 250 = .ok (.if_icmp .le 9, 3) := by decide +kernel
theorem dX1_neighbour_253 : decode cX1_neighbour 253 = .ok (.lconst 0, 1) := by decide +kernel
theorem dX1_neighbour_254 : decode cX1_neighbour 254 = .ok (.lstore 6, 2) := by decide +kernel
theorem dX1_neighbour_256 : decode cX1_neighbour 256 = .ok (.iinc 5 (-1), 3) := by decide +kernel
theorem dX1_neighbour_259 : decode cX1_neighbour 259 = .ok (.lload 6, 2) := by decide +kernel
theorem dX1_neighbour_261 : decode cX1_neighbour 261 = .ok (.lconst 1, 1) := by decide +kernel
theorem dX1_neighbour_262 : decode cX1_neighbour 262 = .ok (.lsub, 1) := by decide +kernel
theorem dX1_neighbour_263 : decode cX1_neighbour 263 = .ok (.lstore 6, 2) := by decide +kernel
theorem dX1_neighbour_265 : decode cX1_neighbour 265 = .ok (.lload 6, 2) := by decide +kernel
theorem dX1_neighbour_267 : decode cX1_neighbour 267 = .ok (.lconst 0, 1) := by decide +kernel
theorem dX1_neighbour_268 : decode cX1_neighbour 268 = .ok (.lcmp, 1) := by decide +kernel
theorem dX1_neighbour_269 : decode cX1_neighbour 269 = .ok (.ifCond .lt 7, 3) := by decide +kernel
theorem dX1_neighbour_272 : decode cX1_neighbour 272 = .ok (.iconst 0, 1) := by decide +kernel
theorem dX1_neighbour_273 : decode cX1_neighbour 273 = .ok (.goto 5, 3) := by decide +kernel
theorem dX1_neighbour_276 : decode cX1_neighbour 276 = .ok (.iload 5, 2) := by decide +kernel
theorem dX1_neighbour_278 : decode cX1_neighbour 278 = .ok (.istore 5, 2) := by decide +kernel
theorem dX1_neighbour_280 : decode cX1_neighbour 280 = .ok (.aload_n 0, 1) := by decide +kernel
theorem dX1_neighbour_281 : decode cX1_neighbour 281 = .ok (.getfield 13, 3) := by decide +kernel
theorem dX1_neighbour_284 : decode cX1_neighbour 284 = .ok (.iload_n 3, 1) := by decide +kernel
theorem dX1_neighbour_285 : decode cX1_neighbour 285 = .ok (.iload 4, 2) := by decide +kernel
theorem dX1_neighbour_287 : decode cX1_neighbour 287 = .ok (.ifCond .eq 8, 3) := by decide +kernel
theorem dX1_neighbour_290 : decode cX1_neighbour 290 = .ok (.ldc 36, 2) := by decide +kernel
theorem dX1_neighbour_292 : decode cX1_neighbour 292 = .ok (.goto 4, 3) := by decide +kernel
theorem dX1_neighbour_295 : decode cX1_neighbour 295 = .ok (.iconst 0, 1) := by decide +kernel
theorem dX1_neighbour_296 : decode cX1_neighbour 296 = .ok (.iload 5, 2) := by decide +kernel
theorem dX1_neighbour_298 : decode cX1_neighbour 298 = .ok (.iadd, 1) := by decide +kernel
theorem dX1_neighbour_299 : decode cX1_neighbour 299 = .ok (.iastore, 1) := by decide +kernel
theorem dX1_neighbour_300 : decode cX1_neighbour 300 = .ok (.aload_n 0, 1) := by decide +kernel
theorem dX1_neighbour_301 : decode cX1_neighbour 301 = .ok (.getfield 17, 3) := by decide +kernel
theorem dX1_neighbour_304 : decode cX1_neighbour 304 = .ok (.iload_n 3, 1) := by decide +kernel
theorem dX1_neighbour_305 : decode cX1_neighbour 305 = .ok (.lload 6, 2) := by decide +kernel
theorem dX1_neighbour_307 : decode cX1_neighbour 307 = .ok (.lastore, 1) := by decide +kernel
theorem dX1_neighbour_308 : decode cX1_neighbour 308 = .ok (.return_, 1) := by decide +kernel
end
section
theorem dL_control_0 : decode cL_control 0 = .ok (.aload_n 0, 1) := by decide +kernel
theorem dL_control_1 : decode cL_control 1 = .ok (.iload_n 1, 1) := by decide +kernel
theorem dL_control_2 : decode cL_control 2 = .ok (.invokevirtual 7, 3) := by decide +kernel
theorem dL_control_5 : decode cL_control 5 = .ok (.goto 6, 3) := by decide +kernel
theorem dL_control_8 : decode cL_control 8 = .ok (.astore_n 2, 1) := by decide +kernel
theorem dL_control_9 : decode cL_control 9 = .ok (.iconst 1, 1) := by decide +kernel
theorem dL_control_10 : decode cL_control 10 = .ok (.ireturn, 1) := by decide +kernel
theorem dL_control_11 : decode cL_control 11 = .ok (.iconst 0, 1) := by decide +kernel
theorem dL_control_12 : decode cL_control 12 = .ok (.ireturn, 1) := by decide +kernel
theorem dL_set_0 : decode cL_set 0 = .ok (.aload_n 0, 1) := by decide +kernel
theorem dL_set_1 : decode cL_set 1 = .ok (.iload_n 1, 1) := by decide +kernel
theorem dL_set_2 : decode cL_set 2 = .ok (.iload_n 2, 1) := by decide +kernel
theorem dL_set_3 : decode cL_set 3 = .ok (.iload_n 3, 1) := by decide +kernel
theorem dL_set_4 : decode cL_set 4 = .ok (.iload 4, 2) := by decide +kernel
theorem dL_set_6 : decode cL_set 6 = .ok (.invokevirtual 15, 3) := by decide +kernel
theorem dL_set_9 : decode cL_set 9 = .ok (.goto 11, 3) := by decide +kernel
theorem dL_set_12 : decode cL_set 12 = .ok (.astore 5, 2) := by decide +kernel
theorem dL_set_14 : decode cL_set 14 = .ok (.iconst 1, 1) := by decide +kernel
theorem dL_set_15 : decode cL_set 15 = .ok (.ireturn, 1) := by decide +kernel
theorem dL_set_16 : decode cL_set 16 = .ok (.astore 5, 2) := by decide +kernel
theorem dL_set_18 : decode cL_set 18 = .ok (.iconst 2, 1) := by decide +kernel
theorem dL_set_19 : decode cL_set 19 = .ok (.ireturn, 1) := by decide +kernel
theorem dL_set_20 : decode cL_set 20 = .ok (.iconst 0, 1) := by decide +kernel
theorem dL_set_21 : decode cL_set 21 = .ok (.ireturn, 1) := by decide +kernel
theorem dL_part_0 : decode cL_part 0 = .ok (.aload_n 3, 1) := by decide +kernel
theorem dL_part_1 : decode cL_part 1 = .ok (.iconst 0, 1) := by decide +kernel
theorem dL_part_2 : decode cL_part 2 = .ok (.aload_n 0, 1) := by decide +kernel
theorem dL_part_3 : decode cL_part 3 = .ok (.iload_n 1, 1) := by decide +kernel
theorem dL_part_4 : decode cL_part 4 = .ok (.iload_n 2, 1) := by decide +kernel
theorem dL_part_5 : decode cL_part 5 = .ok (.invokevirtual 21, 3) := by decide +kernel
theorem dL_part_8 : decode cL_part 8 = .ok (.i2l, 1) := by decide +kernel
theorem dL_part_9 : decode cL_part 9 = .ok (.lastore, 1) := by decide +kernel
theorem dL_part_10 : decode cL_part 10 = .ok (.goto 11, 3) := by decide +kernel
theorem dL_part_13 : decode cL_part 13 = .ok (.astore 4, 2) := by decide +kernel
theorem dL_part_15 : decode cL_part 15 = .ok (.iconst 1, 1) := by decide +kernel
theorem dL_part_16 : decode cL_part 16 = .ok (.ireturn, 1) := by decide +kernel
theorem dL_part_17 : decode cL_part 17 = .ok (.astore 4, 2) := by decide +kernel
theorem dL_part_19 : decode cL_part 19 = .ok (.iconst 2, 1) := by decide +kernel
theorem dL_part_20 : decode cL_part 20 = .ok (.ireturn, 1) := by decide +kernel
theorem dL_part_21 : decode cL_part 21 = .ok (.iconst 0, 1) := by decide +kernel
theorem dL_part_22 : decode cL_part 22 = .ok (.ireturn, 1) := by decide +kernel
theorem dL_make_0 : decode cL_make 0 = .ok (.aload 9, 2) := by decide +kernel
theorem dL_make_2 : decode cL_make 2 = .ok (.iconst 0, 1) := by decide +kernel
theorem dL_make_3 : decode cL_make 3 = .ok (.aload_n 0, 1) := by decide +kernel
theorem dL_make_4 : decode cL_make 4 = .ok (.iload_n 1, 1) := by decide +kernel
theorem dL_make_5 : decode cL_make 5 = .ok (.iload_n 2, 1) := by decide +kernel
theorem dL_make_6 : decode cL_make 6 = .ok (.iload_n 3, 1) := by decide +kernel
theorem dL_make_7 : decode cL_make 7 = .ok (.iload 4, 2) := by decide +kernel
theorem dL_make_9 : decode cL_make 9 = .ok (.iload 5, 2) := by decide +kernel
theorem dL_make_11 : decode cL_make 11 = .ok (.iload 6, 2) := by decide +kernel
theorem dL_make_13 : decode cL_make 13 = .ok (.iload 7, 2) := by decide +kernel
theorem dL_make_15 : decode cL_make 15 = .ok (.iload 8, 2) := by decide +kernel
theorem dL_make_17 : decode cL_make 17 = .ok (.invokevirtual 25, 3) := by decide +kernel
theorem dL_make_20 : decode cL_make 20 = .ok (.i2l, 1) := by decide +kernel
theorem dL_make_21 : decode cL_make 21 = .ok (.lastore, 1) := by decide +kernel
theorem dL_make_22 : decode cL_make 22 = .ok (.goto 11, 3) := by decide +kernel
theorem dL_make_25 : decode cL_make 25 = .ok (.astore 10, 2) := by decide +kernel
theorem dL_make_27 : decode cL_make 27 = .ok (.iconst 1, 1) := by decide +kernel
theorem dL_make_28 : decode cL_make 28 = .ok (.ireturn, 1) := by decide +kernel
theorem dL_make_29 : decode cL_make 29 = .ok (.astore 10, 2) := by decide +kernel
theorem dL_make_31 : decode cL_make 31 = .ok (.iconst 2, 1) := by decide +kernel
theorem dL_make_32 : decode cL_make 32 = .ok (.ireturn, 1) := by decide +kernel
theorem dL_make_33 : decode cL_make 33 = .ok (.iconst 0, 1) := by decide +kernel
theorem dL_make_34 : decode cL_make 34 = .ok (.ireturn, 1) := by decide +kernel
theorem dL_again_0 : decode cL_again 0 = .ok (.aload_n 3, 1) := by decide +kernel
theorem dL_again_1 : decode cL_again 1 = .ok (.iconst 0, 1) := by decide +kernel
theorem dL_again_2 : decode cL_again 2 = .ok (.aload_n 0, 1) := by decide +kernel
theorem dL_again_3 : decode cL_again 3 = .ok (.iload_n 1, 1) := by decide +kernel
theorem dL_again_4 : decode cL_again 4 = .ok (.iload_n 2, 1) := by decide +kernel
theorem dL_again_5 : decode cL_again 5 = .ok (.invokevirtual 29, 3) := by decide +kernel
theorem dL_again_8 : decode cL_again 8 = .ok (.i2l, 1) := by decide +kernel
theorem dL_again_9 : decode cL_again 9 = .ok (.lastore, 1) := by decide +kernel
theorem dL_again_10 : decode cL_again 10 = .ok (.goto 7, 3) := by decide +kernel
theorem dL_again_13 : decode cL_again 13 = .ok (.astore 4, 2) := by decide +kernel
theorem dL_again_15 : decode cL_again 15 = .ok (.iconst 1, 1) := by decide +kernel
theorem dL_again_16 : decode cL_again 16 = .ok (.ireturn, 1) := by decide +kernel
theorem dL_again_17 : decode cL_again 17 = .ok (.iconst 0, 1) := by decide +kernel
theorem dL_again_18 : decode cL_again 18 = .ok (.ireturn, 1) := by decide +kernel
theorem dL_last_0 : decode cL_last 0 = .ok (.aload_n 2, 1) := by decide +kernel
theorem dL_last_1 : decode cL_last 1 = .ok (.iconst 0, 1) := by decide +kernel
theorem dL_last_2 : decode cL_last 2 = .ok (.aload_n 0, 1) := by decide +kernel
theorem dL_last_3 : decode cL_last 3 = .ok (.iload_n 1, 1) := by decide +kernel
theorem dL_last_4 : decode cL_last 4 = .ok (.invokevirtual 32, 3) := by decide +kernel
theorem dL_last_7 : decode cL_last 7 = .ok (.i2l, 1) := by decide +kernel
theorem dL_last_8 : decode cL_last 8 = .ok (.lastore, 1) := by decide +kernel
theorem dL_last_9 : decode cL_last 9 = .ok (.goto 6, 3) := by decide +kernel
theorem dL_last_12 : decode cL_last 12 = .ok (.astore_n 3, 1) := by decide +kernel
theorem dL_last_13 : decode cL_last 13 = .ok (.iconst 1, 1) := by decide +kernel
theorem dL_last_14 : decode cL_last 14 = .ok (.ireturn, 1) := by decide +kernel
theorem dL_last_15 : decode cL_last 15 = .ok (.iconst 0, 1) := by decide +kernel
theorem dL_last_16 : decode cL_last 16 = .ok (.ireturn, 1) := by decide +kernel
theorem dL_compare_0 : decode cL_compare 0 = .ok (.aload_n 3, 1) := by decide +kernel
theorem dL_compare_1 : decode cL_compare 1 = .ok (.iconst 0, 1) := by decide +kernel
theorem dL_compare_2 : decode cL_compare 2 = .ok (.aload_n 0, 1) := by decide +kernel
theorem dL_compare_3 : decode cL_compare 3 = .ok (.iload_n 1, 1) := by decide +kernel
theorem dL_compare_4 : decode cL_compare 4 = .ok (.iload_n 2, 1) := by decide +kernel
theorem dL_compare_5 : decode cL_compare 5 = .ok (.invokevirtual 36, 3) := by decide +kernel
theorem dL_compare_8 : decode cL_compare 8 = .ok (.i2l, 1) := by decide +kernel
theorem dL_compare_9 : decode cL_compare 9 = .ok (.lastore, 1) := by decide +kernel
theorem dL_compare_10 : decode cL_compare 10 = .ok (.goto 7, 3) := by decide +kernel
theorem dL_compare_13 : decode cL_compare 13 = .ok (.astore 4, 2) := by decide +kernel
theorem dL_compare_15 : decode cL_compare 15 = .ok (.iconst 1, 1) := by decide +kernel
theorem dL_compare_16 : decode cL_compare 16 = .ok (.ireturn, 1) := by decide +kernel
theorem dL_compare_17 : decode cL_compare 17 = .ok (.iconst 0, 1) := by decide +kernel
theorem dL_compare_18 : decode cL_compare 18 = .ok (.ireturn, 1) := by decide +kernel
theorem dL_neighbour_0 : decode cL_neighbour 0 = .ok (.aload_n 0, 1) := by decide +kernel
theorem dL_neighbour_1 : decode cL_neighbour 1 = .ok (.iload_n 1, 1) := by decide +kernel
theorem dL_neighbour_2 : decode cL_neighbour 2 = .ok (.iload_n 2, 1) := by decide +kernel
theorem dL_neighbour_3 : decode cL_neighbour 3 = .ok (.iload_n 3, 1) := by decide +kernel
theorem dL_neighbour_4 : decode cL_neighbour 4 = .ok (.invokevirtual 39, 3) := by decide +kernel
theorem dL_neighbour_7 : decode cL_neighbour 7 = .ok (.goto 7, 3) := by decide +kernel
theorem dL_neighbour_10 : decode cL_neighbour 10 = .ok (.astore 4, 2) := by decide +kernel
theorem dL_neighbour_12 : decode cL_neighbour 12 = .ok (.iconst 1, 1) := by decide +kernel
theorem dL_neighbour_13 : decode cL_neighbour 13 = .ok (.ireturn, 1) := by decide +kernel
theorem dL_neighbour_14 : decode cL_neighbour 14 = .ok (.iconst 0, 1) := by decide +kernel
theorem dL_neighbour_15 : decode cL_neighbour 15 = .ok (.ireturn, 1) := by decide +kernel
theorem dL_law_0 : decode cL_law 0 = .ok (.new 8, 3) := by decide +kernel
theorem dL_law_3 : decode cL_law 3 = .ok (.dup, 1) := by decide +kernel
theorem dL_law_4 : decode cL_law 4 = .ok (.invokespecial 43, 3) := by decide +kernel
theorem dL_law_7 : decode cL_law 7 = .ok (.astore_n 1, 1) := by decide +kernel
theorem dL_law_8 : decode cL_law 8 = .ok (.new 44, 3) := by decide +kernel
theorem dL_law_11 : decode cL_law 11 = .ok (.dup, 1) := by decide +kernel
theorem dL_law_12 : decode cL_law 12 = .ok (.invokespecial 46, 3) := by decide +kernel
theorem dL_law_15 : decode cL_law 15 = .ok (.astore_n 2, 1) := by decide +kernel
theorem dL_law_16 : decode cL_law 16 = .ok (.iconst 1, 1) := by decide +kernel
theorem dL_law_17 : decode cL_law 17 = .ok (.newarray .long, 2) := by decide +kernel
theorem dL_law_19 : decode cL_law 19 = .ok (.astore_n 3, 1) := by decide +kernel
theorem dL_law_20 : decode cL_law 20 = .ok (.iconst 0, 1) := by decide +kernel
theorem dL_law_21 : decode cL_law 21 = .ok (.istore 4, 2) := by decide +kernel
theorem dL_law_23 : decode cL_law 23 = .ok (.iload 4, 2) := by decide +kernel
theorem dL_law_25 : decode cL_law 25 = .ok (.aload_n 0, 1) := by decide +kernel
theorem dL_law_26 : decode cL_law 26 = .ok (.arraylength, 1) := by decide +kernel
theorem dL_law_27 : decode cL_law 27 = .ok (.bipush 9, 2) := by decide +kernel
theorem dL_law_29 : decode cL_law 29 = .ok (.isub, 1) := by decide +kernel
theorem dL_law_30 : decode cL_law 30 = .ok (.if_icmp .gt 686, 3) := by decide +kernel
theorem dL_law_33 : decode cL_law 33 = .ok (.aload_n 0, 1) := by decide +kernel
theorem dL_law_34 : decode cL_law 34 = .ok (.iload 4, 2) := by decide +kernel
theorem dL_law_36 : decode cL_law 36 = .ok (.iaload, 1) := by decide +kernel
theorem dL_law_37 : decode cL_law 37 = .ok (.bipush 7, 2) := by decide +kernel
theorem dL_law_39 : decode cL_law 39 = .ok (.iand, 1) := by decide +kernel
theorem dL_law_40 : decode cL_law 40 = .ok (.tableswitch 670 0 7 #[48, 84, 156, 224, 402, 470, 526, 594], 48) := by decide +kernel
theorem dL_law_88 : decode cL_law 88 = .ok (.aload_n 1, 1) := by decide +kernel
theorem dL_law_89 : decode cL_law 89 = .ok (.aload_n 0, 1) := by decide +kernel
theorem dL_law_90 : decode cL_law 90 = .ok (.iload 4, 2) := by decide +kernel
theorem dL_law_92 : decode cL_law 92 = .ok (.iconst 1, 1) := by decide +kernel
theorem dL_law_93 : decode cL_law 93 = .ok (.iadd, 1) := by decide +kernel
theorem dL_law_94 : decode cL_law 94 = .ok (.iaload, 1) := by decide +kernel
theorem dL_law_95 : decode cL_law 95 = .ok (.invokestatic 47, 3) := by decide +kernel
theorem dL_law_98 : decode cL_law 98 = .ok (.istore 5, 2) := by decide +kernel
theorem dL_law_100 : decode cL_law 100 = .ok (.aload_n 2, 1) := by decide +kernel
theorem dL_law_101 : decode cL_law 101 = .ok (.aload_n 0, 1) := by decide +kernel
theorem dL_law_102 : decode cL_law 102 = .ok (.iload 4, 2) := by decide +kernel
theorem dL_law_104 : decode cL_law 104 = .ok (.iconst 1, 1) := by decide +kernel
theorem dL_law_105 : decode cL_law 105 = .ok (.iadd, 1) := by decide +kernel
theorem dL_law_106 : decode cL_law 106 = .ok (.iaload, 1) := by decide +kernel
theorem dL_law_107 : decode cL_law 107 = .ok (.invokevirtual 52, 3) := by decide +kernel
theorem dL_law_110 : decode cL_law 110 = .ok (.aload_n 2, 1) := by decide +kernel
theorem dL_law_111 : decode cL_law 111 = .ok (.invokevirtual 53, 3) := by decide +kernel
theorem dL_law_114 : decode cL_law 114 = .ok (.iload 5, 2) := by decide +kernel
theorem dL_law_116 : decode cL_law 116 = .ok (.if_icmp .eq 5, 3) := by decide +kernel
theorem dL_law_119 : decode cL_law 119 = .ok (.iconst 0, 1) := by decide +kernel
theorem dL_law_120 : decode cL_law 120 = .ok (.ireturn, 1) := by decide +kernel
theorem dL_law_121 : decode cL_law 121 = .ok (.goto 589, 3) := by decide +kernel
theorem dL_law_124 : decode cL_law 124 = .ok (.aload_n 1, 1) := by decide +kernel
theorem dL_law_125 : decode cL_law 125 = .ok (.aload_n 0, 1) := by decide +kernel
theorem dL_law_126 : decode cL_law 126 = .ok (.iload 4, 2) := by decide +kernel
theorem dL_law_128 : decode cL_law 128 = .ok (.iconst 1, 1) := by decide +kernel
theorem dL_law_129 : decode cL_law 129 = .ok (.iadd, 1) := by decide +kernel
theorem dL_law_130 : decode cL_law 130 = .ok (.iaload, 1) := by decide +kernel
theorem dL_law_131 : decode cL_law 131 = .ok (.aload_n 0, 1) := by decide +kernel
theorem dL_law_132 : decode cL_law 132 = .ok (.iload 4, 2) := by decide +kernel
theorem dL_law_134 : decode cL_law 134 = .ok (.iconst 2, 1) := by decide +kernel
theorem dL_law_135 : decode cL_law 135 = .ok (.iadd, 1) := by decide +kernel
theorem dL_law_136 : decode cL_law 136 = .ok (.iaload, 1) := by decide +kernel
theorem dL_law_137 : decode cL_law 137 = .ok (.aload_n 0, 1) := by decide +kernel
theorem dL_law_138 : decode cL_law 138 = .ok (.iload 4, 2) := by decide +kernel
theorem dL_law_140 : decode cL_law 140 = .ok (.iconst 3, 1) := by decide +kernel
theorem dL_law_141 : decode cL_law 141 = .ok (.iadd, 1) := by decide +kernel
theorem dL_law_142 : decode cL_law 142 = .ok (.iaload, 1) := by decide +kernel
theorem dL_law_143 : decode cL_law 143 = .ok (.aload_n 0, 1) := by decide +kernel
theorem dL_law_144 : decode cL_law 144 = .ok (.iload 4, 2) := by decide +kernel
theorem dL_law_146 : decode cL_law 146 = .ok (.iconst 4, 1) := by decide +kernel
theorem dL_law_147 : decode cL_law 147 = .ok (.iadd, 1) := by decide +kernel
theorem dL_law_148 : decode cL_law 148 = .ok (.iaload, 1) := by decide +kernel
theorem dL_law_149 : decode cL_law 149 = .ok (.invokestatic 57, 3) := by decide +kernel
theorem dL_law_152 : decode cL_law 152 = .ok (.istore 5, 2) := by decide +kernel
theorem dL_law_154 : decode cL_law 154 = .ok (.aload_n 2, 1) := by decide +kernel
theorem dL_law_155 : decode cL_law 155 = .ok (.aload_n 0, 1) := by decide +kernel
theorem dL_law_156 : decode cL_law 156 = .ok (.iload 4, 2) := by decide +kernel
theorem dL_law_158 : decode cL_law 158 = .ok (.iconst 1, 1) := by decide +kernel
theorem dL_law_159 : decode cL_law 159 = .ok (.iadd, 1) := by decide +kernel
theorem dL_law_160 : decode cL_law 160 = .ok (.iaload, 1) := by decide +kernel
theorem dL_law_161 : decode cL_law 161 = .ok (.aload_n 0, 1) := by decide +kernel
theorem dL_law_162 : decode cL_law 162 = .ok (.iload 4, 2) := by decide +kernel
theorem dL_law_164 : decode cL_law 164 = .ok (.iconst 2, 1) := by decide +kernel
theorem dL_law_165 : decode cL_law 165 = .ok (.iadd, 1) := by decide +kernel
theorem dL_law_166 : decode cL_law 166 = .ok (.iaload, 1) := by decide +kernel
theorem dL_law_167 : decode cL_law 167 = .ok (.aload_n 0, 1) := by decide +kernel
theorem dL_law_168 : decode cL_law 168 = .ok (.iload 4, 2) := by decide +kernel
theorem dL_law_170 : decode cL_law 170 = .ok (.iconst 3, 1) := by decide +kernel
theorem dL_law_171 : decode cL_law 171 = .ok (.iadd, 1) := by decide +kernel
theorem dL_law_172 : decode cL_law 172 = .ok (.iaload, 1) := by decide +kernel
theorem dL_law_173 : decode cL_law 173 = .ok (.aload_n 0, 1) := by decide +kernel
theorem dL_law_174 : decode cL_law 174 = .ok (.iload 4, 2) := by decide +kernel
theorem dL_law_176 : decode cL_law 176 = .ok (.iconst 4, 1) := by decide +kernel
theorem dL_law_177 : decode cL_law 177 = .ok (.iadd, 1) := by decide +kernel
theorem dL_law_178 : decode cL_law 178 = .ok (.iaload, 1) := by decide +kernel
theorem dL_law_179 : decode cL_law 179 = .ok (.invokevirtual 60, 3) := by decide +kernel
theorem dL_law_182 : decode cL_law 182 = .ok (.aload_n 2, 1) := by decide +kernel
theorem dL_law_183 : decode cL_law 183 = .ok (.invokevirtual 53, 3) := by decide +kernel
theorem dL_law_186 : decode cL_law 186 = .ok (.iload 5, 2) := by decide +kernel
theorem dL_law_188 : decode cL_law 188 = .ok (.if_icmp .eq 5, 3) := by decide +kernel
theorem dL_law_191 : decode cL_law 191 = .ok (.iconst 0, 1) := by decide +kernel
theorem dL_law_192 : decode cL_law 192 = .ok (.ireturn, 1) := by decide +kernel
theorem dL_law_193 : decode cL_law 193 = .ok (.goto 517, 3) := by decide +kernel
theorem dL_law_196 : decode cL_law 196 = .ok (.aload_n 1, 1) := by decide +kernel
theorem dL_law_197 : decode cL_law 197 = .ok (.aload_n 0, 1) := by decide +kernel
theorem dL_law_198 : decode cL_law 198 = .ok (.iload 4, 2) := by decide +kernel
theorem dL_law_200 : decode cL_law 200 = .ok (.iconst 1, 1) := by decide +kernel
theorem dL_law_201 : decode cL_law 201 = .ok (.iadd, 1) := by decide +kernel
theorem dL_law_202 : decode cL_law 202 = .ok (.iaload, 1) := by decide +kernel
theorem dL_law_203 : decode cL_law 203 = .ok (.aload_n 0, 1) := by decide +kernel
theorem dL_law_204 : decode cL_law 204 = .ok (.iload 4, 2) := by decide +kernel
theorem dL_law_206 : decode cL_law 206 = .ok (.iconst 2, 1) := by decide +kernel
theorem dL_law_207 : decode cL_law 207 = .ok (.iadd, 1) := by decide +kernel
theorem dL_law_208 : decode cL_law 208 = .ok (.iaload, 1) := by decide +kernel
theorem dL_law_209 : decode cL_law 209 = .ok (.aload_n 3, 1) := by decide +kernel
theorem dL_law_210 : decode cL_law 210 = .ok (.invokestatic 61, 3) := by decide +kernel
theorem dL_law_213 : decode cL_law 213 = .ok (.istore 5, 2) := by decide +kernel
theorem dL_law_215 : decode cL_law 215 = .ok (.aload_n 2, 1) := by decide +kernel
theorem dL_law_216 : decode cL_law 216 = .ok (.aload_n 0, 1) := by decide +kernel
theorem dL_law_217 : decode cL_law 217 = .ok (.iload 4, 2) := by decide +kernel
theorem dL_law_219 : decode cL_law 219 = .ok (.iconst 1, 1) := by decide +kernel
theorem dL_law_220 : decode cL_law 220 = .ok (.iadd, 1) := by decide +kernel
theorem dL_law_221 : decode cL_law 221 = .ok (.iaload, 1) := by decide +kernel
theorem dL_law_222 : decode cL_law 222 = .ok (.aload_n 0, 1) := by decide +kernel
theorem dL_law_223 : decode cL_law 223 = .ok (.iload 4, 2) := by decide +kernel
theorem dL_law_225 : decode cL_law 225 = .ok (.iconst 2, 1) := by decide +kernel
theorem dL_law_226 : decode cL_law 226 = .ok (.iadd, 1) := by decide +kernel
theorem dL_law_227 : decode cL_law 227 = .ok (.iaload, 1) := by decide +kernel
theorem dL_law_228 : decode cL_law 228 = .ok (.invokevirtual 64, 3) := by decide +kernel
theorem dL_law_231 : decode cL_law 231 = .ok (.istore 6, 2) := by decide +kernel
theorem dL_law_233 : decode cL_law 233 = .ok (.aload_n 2, 1) := by decide +kernel
theorem dL_law_234 : decode cL_law 234 = .ok (.invokevirtual 53, 3) := by decide +kernel
theorem dL_law_237 : decode cL_law 237 = .ok (.iload 5, 2) := by decide +kernel
theorem dL_law_239 : decode cL_law 239 = .ok (.if_icmp .eq 5, 3) := by decide +kernel
theorem dL_law_242 : decode cL_law 242 = .ok (.iconst 0, 1) := by decide +kernel
theorem dL_law_243 : decode cL_law 243 = .ok (.ireturn, 1) := by decide +kernel
theorem dL_law_244 : decode cL_law 244 = .ok (.iload 5, 2) := by decide +kernel
theorem dL_law_246 : decode cL_law 246 = .ok (.ifCond .ne 15, 3) := by decide +kernel
theorem dL_law_249 : decode cL_law 249 = .ok (.aload_n 3, 1) := by decide +kernel
theorem dL_law_250 : decode cL_law 250 = .ok (.iconst 0, 1) := by decide +kernel
theorem dL_law_251 : decode cL_law 251 = .ok (.laload, 1) := by decide +kernel
theorem dL_law_252 : decode cL_law 252 = .ok (.iload 6, 2) := by decide +kernel
theorem dL_law_254 : decode cL_law 254 = .ok (.i2l, 1) := by decide +kernel
theorem dL_law_255 : decode cL_law 255 = .ok (.lcmp, 1) := by decide +kernel
theorem dL_law_256 : decode cL_law 256 = .ok (.ifCond .eq 5, 3) := by decide +kernel
theorem dL_law_259 : decode cL_law 259 = .ok (.iconst 0, 1) := by decide +kernel
theorem dL_law_260 : decode cL_law 260 = .ok (.ireturn, 1) := by decide +kernel
theorem dL_law_261 : decode cL_law 261 = .ok (.goto 449, 3) := by decide +kernel
theorem dL_law_264 : decode cL_law 264 = .ok (.aload_n 1, 1) := by decide +kernel
theorem dL_law_265 : decode cL_law 265 = .ok (.aload_n 0, 1) := by decide +kernel
theorem dL_law_266 : decode cL_law 266 = .ok (.iload 4, 2) := by decide +kernel
theorem dL_law_268 : decode cL_law 268 = .ok (.iconst 1, 1) := by decide +kernel
theorem dL_law_269 : decode cL_law 269 = .ok (.iadd, 1) := by decide +kernel
theorem dL_law_270 : decode cL_law 270 = .ok (.iaload, 1) := by decide +kernel
theorem dL_law_271 : decode cL_law 271 = .ok (.aload_n 0, 1) := by decide +kernel
theorem dL_law_272 : decode cL_law 272 = .ok (.iload 4, 2) := by decide +kernel
theorem dL_law_274 : decode cL_law 274 = .ok (.iconst 2, 1) := by decide +kernel
theorem dL_law_275 : decode cL_law 275 = .ok (.iadd, 1) := by decide +kernel
theorem dL_law_276 : decode cL_law 276 = .ok (.iaload, 1) := by decide +kernel
theorem dL_law_277 : decode cL_law 277 = .ok (.ifCond .eq 7, 3) := by decide +kernel
theorem dL_law_280 : decode cL_law 280 = .ok (.iconst 1, 1) := by decide +kernel
theorem dL_law_281 : decode cL_law 281 = .ok (.goto 4, 3) := by decide +kernel
theorem dL_law_284 : decode cL_law 284 = .ok (.iconst 0, 1) := by decide +kernel
theorem dL_law_285 : decode cL_law 285 = .ok (.aload_n 0, 1) := by decide +kernel
theorem dL_law_286 : decode cL_law 286 = .ok (.iload 4, 2) := by decide +kernel
theorem dL_law_288 : decode cL_law 288 = .ok (.iconst 3, 1) := by decide +kernel
theorem dL_law_289 : decode cL_law 289 = .ok (.iadd, 1) := by decide +kernel
theorem dL_law_290 : decode cL_law 290 = .ok (.iaload, 1) := by decide +kernel
theorem dL_law_291 : decode cL_law 291 = .ok (.aload_n 0, 1) := by decide +kernel
theorem dL_law_292 : decode cL_law 292 = .ok (.iload 4, 2) := by decide +kernel
theorem dL_law_294 : decode cL_law 294 = .ok (.iconst 4, 1) := by decide +kernel
theorem dL_law_295 : decode cL_law 295 = .ok (.iadd, 1) := by decide +kernel
theorem dL_law_296 : decode cL_law 296 = .ok (.iaload, 1) := by decide +kernel
theorem dL_law_297 : decode cL_law 297 = .ok (.aload_n 0, 1) := by decide +kernel
theorem dL_law_298 : decode cL_law 298 = .ok (.iload 4, 2) := by decide +kernel
theorem dL_law_300 : decode cL_law 300 = .ok (.iconst 5, 1) := by decide +kernel
theorem dL_law_301 : decode cL_law 301 = .ok (.iadd, 1) := by decide +kernel
theorem dL_law_302 : decode cL_law 302 = .ok (.iaload, 1) := by decide +kernel
theorem dL_law_303 : decode cL_law 303 = .ok (.aload_n 0, 1) := by decide +kernel
theorem dL_law_304 : decode cL_law 304 = .ok (.iload 4, 2) := by decide +kernel
theorem dL_law_306 : decode cL_law 306 = .ok (.bipush 6, 2) := by decide +kernel
theorem dL_law_308 : decode cL_law 308 = .ok (.iadd, 1) := by decide +kernel
theorem dL_law_309 : decode cL_law 309 = .ok (.iaload, 1) := by decide +kernel
theorem dL_law_310 : decode cL_law 310 = .ok (.aload_n 0, 1) := by decide +kernel
theorem dL_law_311 : decode cL_law 311 = .ok (.iload 4, 2) := by decide +kernel
theorem dL_law_313 : decode cL_law 313 = .ok (.bipush 7, 2) := by decide +kernel
theorem dL_law_315 : decode cL_law 315 = .ok (.iadd, 1) := by decide +kernel
theorem dL_law_316 : decode cL_law 316 = .ok (.iaload, 1) := by decide +kernel
theorem dL_law_317 : decode cL_law 317 = .ok (.aload_n 0, 1) := by decide +kernel
theorem dL_law_318 : decode cL_law 318 = .ok (.iload 4, 2) := by decide +kernel
theorem dL_law_320 : decode cL_law 320 = .ok (.bipush 8, 2) := by decide +kernel
theorem dL_law_322 : decode cL_law 322 = .ok (.iadd, 1) := by decide +kernel
theorem dL_law_323 : decode cL_law 323 = .ok (.iaload, 1) := by decide +kernel
theorem dL_law_324 : decode cL_law 324 = .ok (.ifCond .eq 7, 3) := by decide +kernel
theorem dL_law_327 : decode cL_law 327 = .ok (.iconst 1, 1) := by decide +kernel
theorem dL_law_328 : decode cL_law 328 = .ok (.goto 4, 3) := by decide +kernel
theorem dL_law_331 : decode cL_law 331 = .ok (.iconst 0, 1) := by decide +kernel
theorem dL_law_332 : decode cL_law 332 = .ok (.aload_n 3, 1) := by decide +kernel
theorem dL_law_333 : decode cL_law 333 = .ok (.invokestatic 65, 3) := by decide +kernel
theorem dL_law_336 : decode cL_law 336 = .ok (.istore 5, 2) := by decide +kernel
theorem dL_law_338 : decode cL_law 338 = .ok (.aload_n 2, 1) := by decide +kernel
theorem dL_law_339 : decode cL_law 339 = .ok (.aload_n 0, 1) := by decide +kernel
theorem dL_law_340 : decode cL_law 340 = .ok (.iload 4, 2) := by decide +kernel
theorem dL_law_342 : decode cL_law 342 = .ok (.iconst 1, 1) := by decide +kernel
theorem dL_law_343 : decode cL_law 343 = .ok (.iadd, 1) := by decide +kernel
theorem dL_law_344 : decode cL_law 344 = .ok (.iaload, 1) := by decide +kernel
theorem dL_law_345 : decode cL_law 345 = .ok (.aload_n 0, 1) := by decide +kernel
theorem dL_law_346 : decode cL_law 346 = .ok (.iload 4, 2) := by decide +kernel
theorem dL_law_348 : decode cL_law 348 = .ok (.iconst 2, 1) := by decide +kernel
theorem dL_law_349 : decode cL_law 349 = .ok (.iadd, 1) := by decide +kernel
theorem dL_law_350 : decode cL_law 350 = .ok (.iaload, 1) := by decide +kernel
theorem dL_law_351 : decode cL_law 351 = .ok (.ifCond .eq 7, 3) := by decide +kernel
theorem dL_law_354 : decode cL_law 354 = .ok (.iconst 1, 1) := by decide +kernel
theorem dL_law_355 : decode cL_law 355 = .ok (.goto 4, 3) := by decide +kernel
theorem dL_law_358 : decode cL_law 358 = .ok (.iconst 0, 1) := by decide +kernel
theorem dL_law_359 : decode cL_law 359 = .ok (.aload_n 0, 1) := by decide +kernel
theorem dL_law_360 : decode cL_law 360 = .ok (.iload 4, 2) := by decide +kernel
theorem dL_law_362 : decode cL_law 362 = .ok (.iconst 3, 1) := by decide +kernel
theorem dL_law_363 : decode cL_law 363 = .ok (.iadd, 1) := by decide +kernel
theorem dL_law_364 : decode cL_law 364 = .ok (.iaload, 1) := by decide +kernel
theorem dL_law_365 : decode cL_law 365 = .ok (.aload_n 0, 1) := by decide +kernel
theorem dL_law_366 : decode cL_law 366 = .ok (.iload 4, 2) := by decide +kernel
theorem dL_law_368 : decode cL_law 368 = .ok (.iconst 4, 1) := by decide +kernel
theorem dL_law_369 : decode cL_law 369 = .ok (.iadd, 1) := by decide +kernel
theorem dL_law_370 : decode cL_law 370 = .ok (.iaload, 1) := by decide +kernel
theorem dL_law_371 : decode cL_law 371 = .ok (.aload_n 0, 1) := by decide +kernel
theorem dL_law_372 : decode cL_law 372 = .ok (.iload 4, 2) := by decide +kernel
theorem dL_law_374 : decode cL_law 374 = .ok (.iconst 5, 1) := by decide +kernel
theorem dL_law_375 : decode cL_law 375 = .ok (.iadd, 1) := by decide +kernel
theorem dL_law_376 : decode cL_law 376 = .ok (.iaload, 1) := by decide +kernel
theorem dL_law_377 : decode cL_law 377 = .ok (.aload_n 0, 1) := by decide +kernel
theorem dL_law_378 : decode cL_law 378 = .ok (.iload 4, 2) := by decide +kernel
theorem dL_law_380 : decode cL_law 380 = .ok (.bipush 6, 2) := by decide +kernel
theorem dL_law_382 : decode cL_law 382 = .ok (.iadd, 1) := by decide +kernel
theorem dL_law_383 : decode cL_law 383 = .ok (.iaload, 1) := by decide +kernel
theorem dL_law_384 : decode cL_law 384 = .ok (.aload_n 0, 1) := by decide +kernel
theorem dL_law_385 : decode cL_law 385 = .ok (.iload 4, 2) := by decide +kernel
theorem dL_law_387 : decode cL_law 387 = .ok (.bipush 7, 2) := by decide +kernel
theorem dL_law_389 : decode cL_law 389 = .ok (.iadd, 1) := by decide +kernel
theorem dL_law_390 : decode cL_law 390 = .ok (.iaload, 1) := by decide +kernel
theorem dL_law_391 : decode cL_law 391 = .ok (.aload_n 0, 1) := by decide +kernel
theorem dL_law_392 : decode cL_law 392 = .ok (.iload 4, 2) := by decide +kernel
theorem dL_law_394 : decode cL_law 394 = .ok (.bipush 8, 2) := by decide +kernel
theorem dL_law_396 : decode cL_law 396 = .ok (.iadd, 1) := by decide +kernel
theorem dL_law_397 : decode cL_law 397 = .ok (.iaload, 1) := by decide +kernel
theorem dL_law_398 : decode cL_law 398 = .ok (.ifCond .eq 7, 3) := by decide +kernel
theorem dL_law_401 : decode cL_law 401 = .ok (.iconst 1, 1) := by decide +kernel
theorem dL_law_402 : decode cL_law 402 = .ok (.goto 4, 3) := by decide +kernel
theorem dL_law_405 : decode cL_law 405 = .ok (.iconst 0, 1) := by decide +kernel
theorem dL_law_406 : decode cL_law 406 = .ok (.invokevirtual 68, 3) := by decide +kernel
theorem dL_law_409 : decode cL_law 409 = .ok (.istore 6, 2) := by decide +kernel
theorem dL_law_411 : decode cL_law 411 = .ok (.aload_n 2, 1) := by decide +kernel
theorem dL_law_412 : decode cL_law 412 = .ok (.invokevirtual 53, 3) := by decide +kernel
theorem dL_law_415 : decode cL_law 415 = .ok (.iload 5, 2) := by decide +kernel
theorem dL_law_417 : decode cL_law 417 = .ok (.if_icmp .eq 5, 3) := by decide +kernel
theorem dL_law_420 : decode cL_law 420 = .ok (.iconst 0, 1) := by decide +kernel
theorem dL_law_421 : decode cL_law 421 = .ok (.ireturn, 1) := by decide +kernel
theorem dL_law_422 : decode cL_law 422 = .ok (.iload 5, 2) := by decide +kernel
theorem dL_law_424 : decode cL_law 424 = .ok (.ifCond .ne 15, 3) := by decide +kernel
theorem dL_law_427 : decode cL_law 427 = .ok (.aload_n 3, 1) := by decide +kernel
theorem dL_law_428 : decode cL_law 428 = .ok (.iconst 0, 1) := by decide +kernel
theorem dL_law_429 : decode cL_law 429 = .ok (.laload, 1) := by decide +kernel
theorem dL_law_430 : decode cL_law 430 = .ok (.iload 6, 2) := by decide +kernel
theorem dL_law_432 : decode cL_law 432 = .ok (.i2l, 1) := by decide +kernel
theorem dL_law_433 : decode cL_law 433 = .ok (.lcmp, 1) := by decide +kernel
theorem dL_law_434 : decode cL_law 434 = .ok (.ifCond .eq 5, 3) := by decide +kernel
theorem dL_law_437 : decode cL_law 437 = .ok (.iconst 0, 1) := by decide +kernel
theorem dL_law_438 : decode cL_law 438 = .ok (.ireturn, 1) := by decide +kernel
theorem dL_law_439 : decode cL_law 439 = .ok (.goto 271, 3) := by decide +kernel
theorem dL_law_442 : decode cL_law 442 = .ok (.aload_n 1, 1) := by decide +kernel
theorem dL_law_443 : decode cL_law 443 = .ok (.aload_n 0, 1) := by decide +kernel
theorem dL_law_444 : decode cL_law 444 = .ok (.iload 4, 2) := by decide +kernel
theorem dL_law_446 : decode cL_law 446 = .ok (.iconst 1, 1) := by decide +kernel
theorem dL_law_447 : decode cL_law 447 = .ok (.iadd, 1) := by decide +kernel
theorem dL_law_448 : decode cL_law 448 = .ok (.iaload, 1) := by decide +kernel
theorem dL_law_449 : decode cL_law 449 = .ok (.aload_n 0, 1) := by decide +kernel
theorem dL_law_450 : decode cL_law 450 = .ok (.iload 4, 2) := by decide +kernel
theorem dL_law_452 : decode cL_law 452 = .ok (.iconst 2, 1) := by decide +kernel
theorem dL_law_453 : decode cL_law 453 = .ok (.iadd, 1) := by decide +kernel
theorem dL_law_454 : decode cL_law 454 = .ok (.iaload, 1) := by decide +kernel
theorem dL_law_455 : decode cL_law 455 = .ok (.aload_n 3, 1) := by decide +kernel
theorem dL_law_456 : decode cL_law 456 = .ok (.invokestatic 69, 3) := by decide +kernel
theorem dL_law_459 : decode cL_law 459 = .ok (.istore 5, 2) := by decide +kernel
theorem dL_law_461 : decode cL_law 461 = .ok (.aload_n 2, 1) := by decide +kernel
theorem dL_law_462 : decode cL_law 462 = .ok (.aload_n 0, 1) := by decide +kernel
theorem dL_law_463 : decode cL_law 463 = .ok (.iload 4, 2) := by decide +kernel
theorem dL_law_465 : decode cL_law 465 = .ok (.iconst 1, 1) := by decide +kernel
theorem dL_law_466 : decode cL_law 466 = .ok (.iadd, 1) := by decide +kernel
theorem dL_law_467 : decode cL_law 467 = .ok (.iaload, 1) := by decide +kernel
theorem dL_law_468 : decode cL_law 468 = .ok (.aload_n 0, 1) := by decide +kernel
theorem dL_law_469 : decode cL_law 469 = .ok (.iload 4, 2) := by decide +kernel
theorem dL_law_471 : decode cL_law 471 = .ok (.iconst 2, 1) := by decide +kernel
theorem dL_law_472 : decode cL_law 472 = .ok (.iadd, 1) := by decide +kernel
theorem dL_law_473 : decode cL_law 473 = .ok (.iaload, 1) := by decide +kernel
theorem dL_law_474 : decode cL_law 474 = .ok (.invokevirtual 71, 3) := by decide +kernel
theorem dL_law_477 : decode cL_law 477 = .ok (.istore 6, 2) := by decide +kernel
theorem dL_law_479 : decode cL_law 479 = .ok (.aload_n 2, 1) := by decide +kernel
theorem dL_law_480 : decode cL_law 480 = .ok (.invokevirtual 53, 3) := by decide +kernel
theorem dL_law_483 : decode cL_law 483 = .ok (.iload 5, 2) := by decide +kernel
theorem dL_law_485 : decode cL_law 485 = .ok (.if_icmp .eq 5, 3) := by decide +kernel
theorem dL_law_488 : decode cL_law 488 = .ok (.iconst 0, 1) := by decide +kernel
theorem dL_law_489 : decode cL_law 489 = .ok (.ireturn, 1) := by decide +kernel
theorem dL_law_490 : decode cL_law 490 = .ok (.iload 5, 2) := by decide +kernel
theorem dL_law_492 : decode cL_law 492 = .ok (.ifCond .ne 15, 3) := by decide +kernel
theorem dL_law_495 : decode cL_law 495 = .ok (.aload_n 3, 1) := by decide +kernel
theorem dL_law_496 : decode cL_law 496 = .ok (.iconst 0, 1) := by decide +kernel
theorem dL_law_497 : decode cL_law 497 = .ok (.laload, 1) := by decide +kernel
theorem dL_law_498 : decode cL_law 498 = .ok (.iload 6, 2) := by decide +kernel
theorem dL_law_500 : decode cL_law 500 = .ok (.i2l, 1) := by decide +kernel
theorem dL_law_501 : decode cL_law 501 = .ok (.lcmp, 1) := by decide +kernel
theorem dL_law_502 : decode cL_law 502 = .ok (.ifCond .eq 5, 3) := by decide +kernel
theorem dL_law_505 : decode cL_law 505 = .ok (.iconst 0, 1) := by decide +kernel
theorem dL_law_506 : decode cL_law 506 = .ok (.ireturn, 1) := by decide +kernel
theorem dL_law_507 : decode cL_law 507 = .ok (.goto 203, 3) := by decide +kernel
theorem dL_law_510 : decode cL_law 510 = .ok (.aload_n 1, 1) := by decide +kernel
theorem dL_law_511 : decode cL_law 511 = .ok (.aload_n 0, 1) := by decide +kernel
theorem dL_law_512 : decode cL_law 512 = .ok (.iload 4, 2) := by decide +kernel
theorem dL_law_514 : decode cL_law 514 = .ok (.iconst 1, 1) := by decide +kernel
theorem dL_law_515 : decode cL_law 515 = .ok (.iadd, 1) := by decide +kernel
theorem dL_law_516 : decode cL_law 516 = .ok (.iaload, 1) := by decide +kernel
theorem dL_law_517 : decode cL_law 517 = .ok (.aload_n 3, 1) := by decide +kernel
theorem dL_law_518 : decode cL_law 518 = .ok (.invokestatic 72, 3) := by decide +kernel
theorem dL_law_521 : decode cL_law 521 = .ok (.istore 5, 2) := by decide +kernel
theorem dL_law_523 : decode cL_law 523 = .ok (.aload_n 2, 1) := by decide +kernel
theorem dL_law_524 : decode cL_law 524 = .ok (.aload_n 0, 1) := by decide +kernel
theorem dL_law_525 : decode cL_law 525 = .ok (.iload 4, 2) := by decide +kernel
theorem dL_law_527 : decode cL_law 527 = .ok (.iconst 1, 1) := by decide +kernel
theorem dL_law_528 : decode cL_law 528 = .ok (.iadd, 1) := by decide +kernel
theorem dL_law_529 : decode cL_law 529 = .ok (.iaload, 1) := by decide +kernel
theorem dL_law_530 : decode cL_law 530 = .ok (.invokevirtual 75, 3) := by decide +kernel
theorem dL_law_533 : decode cL_law 533 = .ok (.istore 6, 2) := by decide +kernel
theorem dL_law_535 : decode cL_law 535 = .ok (.aload_n 2, 1) := by decide +kernel
theorem dL_law_536 : decode cL_law 536 = .ok (.invokevirtual 53, 3) := by decide +kernel
theorem dL_law_539 : decode cL_law 539 = .ok (.iload 5, 2) := by decide +kernel
theorem dL_law_541 : decode cL_law 541 = .ok (.if_icmp .eq 5, 3) := by decide +kernel
theorem dL_law_544 : decode cL_law 544 = .ok (.iconst 0, 1) := by decide +kernel
theorem dL_law_545 : decode cL_law 545 = .ok (.ireturn, 1) := by decide +kernel
theorem dL_law_546 : decode cL_law 546 = .ok (.iload 5, 2) := by decide +kernel
theorem dL_law_548 : decode cL_law 548 = .ok (.ifCond .ne 15, 3) := by decide +kernel
theorem dL_law_551 : decode cL_law 551 = .ok (.aload_n 3, 1) := by decide +kernel
theorem dL_law_552 : decode cL_law 552 = .ok (.iconst 0, 1) := by decide +kernel
theorem dL_law_553 : decode cL_law 553 = .ok (.laload, 1) := by decide +kernel
theorem dL_law_554 : decode cL_law 554 = .ok (.iload 6, 2) := by decide +kernel
theorem dL_law_556 : decode cL_law 556 = .ok (.i2l, 1) := by decide +kernel
theorem dL_law_557 : decode cL_law 557 = .ok (.lcmp, 1) := by decide +kernel
theorem dL_law_558 : decode cL_law 558 = .ok (.ifCond .eq 5, 3) := by decide +kernel
theorem dL_law_561 : decode cL_law 561 = .ok (.iconst 0, 1) := by decide +kernel
theorem dL_law_562 : decode cL_law 562 = .ok (.ireturn, 1) := by decide +kernel
theorem dL_law_563 : decode cL_law 563 = .ok (.goto 147, 3) := by decide +kernel
theorem dL_law_566 : decode cL_law 566 = .ok (.aload_n 1, 1) := by decide +kernel
theorem dL_law_567 : decode cL_law 567 = .ok (.aload_n 0, 1) := by decide +kernel
theorem dL_law_568 : decode cL_law 568 = .ok (.iload 4, 2) := by decide +kernel
theorem dL_law_570 : decode cL_law 570 = .ok (.iconst 1, 1) := by decide +kernel
theorem dL_law_571 : decode cL_law 571 = .ok (.iadd, 1) := by decide +kernel
theorem dL_law_572 : decode cL_law 572 = .ok (.iaload, 1) := by decide +kernel
theorem dL_law_573 : decode cL_law 573 = .ok (.aload_n 0, 1) := by decide +kernel
theorem dL_law_574 : decode cL_law 574 = .ok (.iload 4, 2) := by decide +kernel
theorem dL_law_576 : decode cL_law 576 = .ok (.iconst 2, 1) := by decide +kernel
theorem dL_law_577 : decode cL_law 577 = .ok (.iadd, 1) := by decide +kernel
theorem dL_law_578 : decode cL_law 578 = .ok (.iaload, 1) := by decide +kernel
theorem dL_law_579 : decode cL_law 579 = .ok (.aload_n 3, 1) := by decide +kernel
theorem dL_law_580 : decode cL_law 580 = .ok (.invokestatic 76, 3) := by decide +kernel
theorem dL_law_583 : decode cL_law 583 = .ok (.istore 5, 2) := by decide +kernel
theorem dL_law_585 : decode cL_law 585 = .ok (.aload_n 2, 1) := by decide +kernel
theorem dL_law_586 : decode cL_law 586 = .ok (.aload_n 0, 1) := by decide +kernel
theorem dL_law_587 : decode cL_law 587 = .ok (.iload 4, 2) := by decide +kernel
theorem dL_law_589 : decode cL_law 589 = .ok (.iconst 1, 1) := by decide +kernel
theorem dL_law_590 : decode cL_law 590 = .ok (.iadd, 1) := by decide +kernel
theorem dL_law_591 : decode cL_law 591 = .ok (.iaload, 1) := by decide +kernel
theorem dL_law_592 : decode cL_law 592 = .ok (.aload_n 0, 1) := by decide +kernel
theorem dL_law_593 : decode cL_law 593 = .ok (.iload 4, 2) := by decide +kernel
theorem dL_law_595 : decode cL_law 595 = .ok (.iconst 2, 1) := by decide +kernel
theorem dL_law_596 : decode cL_law 596 = .ok (.iadd, 1) := by decide +kernel
theorem dL_law_597 : decode cL_law 597 = .ok (.iaload, 1) := by decide +kernel
theorem dL_law_598 : decode cL_law 598 = .ok (.invokevirtual 78, 3) := by decide +kernel
theorem dL_law_601 : decode cL_law 601 = .ok (.istore 6, 2) := by decide +kernel
theorem dL_law_603 : decode cL_law 603 = .ok (.aload_n 2, 1) := by decide +kernel
theorem dL_law_604 : decode cL_law 604 = .ok (.invokevirtual 53, 3) := by decide +kernel
theorem dL_law_607 : decode cL_law 607 = .ok (.iload 5, 2) := by decide +kernel
theorem dL_law_609 : decode cL_law 609 = .ok (.if_icmp .eq 5, 3) := by decide +kernel
theorem dL_law_612 : decode cL_law 612 = .ok (.iconst 0, 1) := by decide +kernel
theorem dL_law_613 : decode cL_law 613 = .ok (.ireturn, 1) := by decide +kernel
theorem dL_law_614 : decode cL_law 614 = .ok (.iload 5, 2) := by decide +kernel
theorem dL_law_616 : decode cL_law 616 = .ok (.ifCond .ne 15, 3) := by decide +kernel
theorem dL_law_619 : decode cL_law 619 = .ok (.aload_n 3, 1) := by decide +kernel
theorem dL_law_620 : decode cL_law 620 = .ok (.iconst 0, 1) := by decide +kernel
theorem dL_law_621 : decode cL_law 621 = .ok (.laload, 1) := by decide +kernel
theorem dL_law_622 : decode cL_law 622 = .ok (.iload 6, 2) := by decide +kernel
theorem dL_law_624 : decode cL_law 624 = .ok (.i2l, 1) := by decide +kernel
theorem dL_law_625 : decode cL_law 625 = .ok (.lcmp, 1) := by decide +kernel
theorem dL_law_626 : decode cL_law 626 = .ok (.ifCond .eq 5, 3) := by decide +kernel
theorem dL_law_629 : decode cL_law 629 = .ok (.iconst 0, 1) := by decide +kernel
theorem dL_law_630 : decode cL_law 630 = .ok (.ireturn, 1) := by decide +kernel
theorem dL_law_631 : decode cL_law 631 = .ok (.goto 79, 3) := by decide +kernel
theorem dL_law_634 : decode cL_law 634 = .ok (.aload_n 1, 1) := by decide +kernel
theorem dL_law_635 : decode cL_law 635 = .ok (.aload_n 0, 1) := by decide +kernel
theorem dL_law_636 : decode cL_law 636 = .ok (.iload 4, 2) := by decide +kernel
theorem dL_law_638 : decode cL_law 638 = .ok (.iconst 1, 1) := by decide +kernel
theorem dL_law_639 : decode cL_law 639 = .ok (.iadd, 1) := by decide +kernel
theorem dL_law_640 : decode cL_law 640 = .ok (.iaload, 1) := by decide +kernel
theorem dL_law_641 : decode cL_law 641 = .ok (.aload_n 0, 1) := by decide +kernel
theorem dL_law_642 : decode cL_law 642 = .ok (.iload 4, 2) := by decide +kernel
theorem dL_law_644 : decode cL_law 644 = .ok (.iconst 2, 1) := by decide +kernel
theorem dL_law_645 : decode cL_law 645 = .ok (.iadd, 1) := by decide +kernel
theorem dL_law_646 : decode cL_law 646 = .ok (.iaload, 1) := by decide +kernel
theorem dL_law_647 : decode cL_law 647 = .ok (.ifCond .eq 7, 3) := by decide +kernel
theorem dL_law_650 : decode cL_law 650 = .ok (.iconst 1, 1) := by decide +kernel
theorem dL_law_651 : decode cL_law 651 = .ok (.goto 4, 3) := by decide +kernel
theorem dL_law_654 : decode cL_law 654 = .ok (.iconst 0, 1) := by decide +kernel
theorem dL_law_655 : decode cL_law 655 = .ok (.aload_n 0, 1) := by decide +kernel
theorem dL_law_656 : decode cL_law 656 = .ok (.iload 4, 2) := by decide +kernel
theorem dL_law_658 : decode cL_law 658 = .ok (.iconst 3, 1) := by decide +kernel
theorem dL_law_659 : decode cL_law 659 = .ok (.iadd, 1) := by decide +kernel
theorem dL_law_660 : decode cL_law 660 = .ok (.iaload, 1) := by decide +kernel
theorem dL_law_661 : decode cL_law 661 = .ok (.invokestatic 79, 3) := by decide +kernel
theorem dL_law_664 : decode cL_law 664 = .ok (.istore 5, 2) := by decide +kernel
theorem dL_law_666 : decode cL_law 666 = .ok (.aload_n 2, 1) := by decide +kernel
theorem dL_law_667 : decode cL_law 667 = .ok (.aload_n 0, 1) := by decide +kernel
theorem dL_law_668 : decode cL_law 668 = .ok (.iload 4, 2) := by decide +kernel
theorem dL_law_670 : decode cL_law 670 = .ok (.iconst 1, 1) := by decide +kernel
theorem dL_law_671 : decode cL_law 671 = .ok (.iadd, 1) := by decide +kernel
theorem dL_law_672 : decode cL_law 672 = .ok (.iaload, 1) := by decide +kernel
theorem dL_law_673 : decode cL_law 673 = .ok (.aload_n 0, 1) := by decide +kernel
theorem dL_law_674 : decode cL_law 674 = .ok (.iload 4, 2) := by decide +kernel
theorem dL_law_676 : decode cL_law 676 = .ok (.iconst 2, 1) := by decide +kernel
theorem dL_law_677 : decode cL_law 677 = .ok (.iadd, 1) := by decide +kernel
theorem dL_law_678 : decode cL_law 678 = .ok (.iaload, 1) := by decide +kernel
theorem dL_law_679 : decode cL_law 679 = .ok (.ifCond .eq 7, 3) := by decide +kernel
theorem dL_law_682 : decode cL_law 682 = .ok (.iconst 1, 1) := by decide +kernel
theorem dL_law_683 : decode cL_law 683 = .ok (.goto 4, 3) := by decide +kernel
theorem dL_law_686 : decode cL_law 686 = .ok (.iconst 0, 1) := by decide +kernel
theorem dL_law_687 : decode cL_law 687 = .ok (.aload_n 0, 1) := by decide +kernel
theorem dL_law_688 : decode cL_law 688 = .ok (.iload 4, 2) := by decide +kernel
theorem dL_law_690 : decode cL_law 690 = .ok (.iconst 3, 1) := by decide +kernel
theorem dL_law_691 : decode cL_law 691 = .ok (.iadd, 1) := by decide +kernel
theorem dL_law_692 : decode cL_law 692 = .ok (.iaload, 1) := by decide +kernel
theorem dL_law_693 : decode cL_law 693 = .ok (.invokevirtual 82, 3) := by decide +kernel
theorem dL_law_696 : decode cL_law 696 = .ok (.aload_n 2, 1) := by decide +kernel
theorem dL_law_697 : decode cL_law 697 = .ok (.invokevirtual 53, 3) := by decide +kernel
theorem dL_law_700 : decode cL_law 700 = .ok (.iload 5, 2) := by decide +kernel
theorem dL_law_702 : decode cL_law 702 = .ok (.if_icmp .eq 5, 3) := by decide +kernel
theorem dL_law_705 : decode cL_law 705 = .ok (.iconst 0, 1) := by decide +kernel
theorem dL_law_706 : decode cL_law 706 = .ok (.ireturn, 1) := by decide +kernel
theorem dL_law_707 : decode cL_law 707 = .ok (.goto 3, 3) := by decide +kernel
theorem dL_law_710 : decode cL_law 710 = .ok (.iinc 4 9, 3) := by decide +kernel
theorem dL_law_713 : decode cL_law 713 = .ok (.goto (-690), 3) := by decide +kernel
theorem dL_law_716 : decode cL_law 716 = .ok (.iconst 1, 1) := by decide +kernel
theorem dL_law_717 : decode cL_law 717 = .ok (.ireturn, 1) := by decide +kernel
end
section
/-! rows of our own: joins of roads, readers and writers called on a whole world -/
section WH
variable {p : Program} {l : Launch} {e : Env} {R : Room} {s : State} {m : MethodId} {args : Array Value} {below : List Frame} {meth : Method} {c : Code} {H : Heap} {locs : List Loc} {cells slots : Nat} {Q : State → Prop} {pc : Nat} {ls : Array Slot} {rest : List Value}
theorem w_join {g : JFrame} (gJ : JFrame) (hj : W p l e R s m args below meth c H locs cells slots Q gJ) (k : W p l e R s m args below meth c H locs cells slots Q gJ → W p l e R s m args below meth c H locs cells slots Q g) : W p l e R s m args below meth c H locs cells slots Q g := k hj
theorem w_asi {x y : Int32} (h : y = x) (k : W p l e R s m args below meth c H locs cells slots Q (F0 m pc ls (.int y :: rest))) : W p l e R s m args below meth c H locs cells slots Q (F0 m pc ls (.int x :: rest)) := h ▸ k
theorem w_asl {x y : Int64} (h : y = x) (k : W p l e R s m args below meth c H locs cells slots Q (F0 m pc ls (.long y :: rest))) : W p l e R s m args below meth c H locs cells slots Q (F0 m pc ls (.long x :: rest)) := h ▸ k
end WH
/-- a reader's start: the world ws is there -/
def rd_Pc (D : va_G) (ws : va_W) (tys : List (ClassId × FieldType)) (av : List Value) : Array Value → State → Prop := va_Pc av (fun U => va_P D vwCl ws U.heap ∧ va_K D vwCl tys U)
theorem rd_blind {D : va_G} {ws : va_W} {tys : List (ClassId × FieldType)} {av : List Value} : FrameBlind (rd_Pc D ws tys av) := fun a U g mk q => ⟨q.1, q.2.1, va_K.moved (u := U) (U := U.calling g mk a) (Vm.Alike.refl U.vm) q.2.2⟩
theorem rd_preV {s : State} {H : Heap} {D : va_G} {ws : va_W} {tys : List (ClassId × FieldType)} {C : String} {T : u_T} {N ci b : Nat} {fs As : List Value} (hK : va_K D vwCl tys s) (hP : va_P D vwCl ws H) (he : ws[0]? = some (b, .inr (ci, fs))) (hc : vwCl[ci]? = some (C, T, N)) : PreV s H C b (rd_Pc D ws tys (.ref b :: As)) As :=
  ⟨rd_blind, va_recv hK hP (ci := ci) (q0 := 0) hc he, fun U hU hW => ⟨rfl, by rw [hU]; exact hP, va_K.moved hW.alike hK⟩⟩
theorem pu_pre {s : State} {H : Heap} {As : List Value} : PreS s H (va_Pc As (fun _ => True)) As := ⟨fun _ _ _ _ q => q, fun _ _ _ => ⟨rfl, trivial⟩⟩
/-- a writer's start -/
def wr_Pc (D : va_G) (ws : va_W) (tys : List (ClassId × FieldType)) (sz : Nat) (av : List Value) : Array Value → State → Prop := va_Pc av (fun U => U.heap.size = sz ∧ va_P D vwCl ws U.heap ∧ va_K D vwCl tys U ∧ va_D (fun _ => True) ws)
theorem wr_blind {D : va_G} {ws : va_W} {tys : List (ClassId × FieldType)} {sz : Nat} {av : List Value} : FrameBlind (wr_Pc D ws tys sz av) := fun a U g mk q => ⟨q.1, q.2.1, q.2.2.1, va_K.moved (u := U) (U := U.calling g mk a) (Vm.Alike.refl U.vm) q.2.2.2.1, q.2.2.2.2⟩
theorem wr_preV {s : State} {H : Heap} {D : va_G} {ws : va_W} {tys : List (ClassId × FieldType)} {C : String} {T : u_T} {N ci b : Nat} {fs As : List Value} {A : Nat → Prop} (hK : va_K D vwCl tys s) (hP : va_P D vwCl ws H) (hD : va_D A ws) (he : ws[0]? = some (b, .inr (ci, fs))) (hc : vwCl[ci]? = some (C, T, N)) : PreV s H C b (wr_Pc D ws tys H.size (.ref b :: As)) As :=
  ⟨wr_blind, va_recv hK hP (ci := ci) (q0 := 0) hc he, fun U hU hW => ⟨rfl, by rw [hU], by rw [hU]; exact hP, va_K.moved hW.alike hK, hD.weaken (fun _ _ _ _ => trivial)⟩⟩
/-- a writer's end: the answer and the state are v -/
def wr_Qi (D : va_G) {S : Type} (W1 : S → va_W) (v : Int32 × S) (A : Nat → Prop) : Array Value → State → Outcome → State → Prop := va_Qi (fun r u => (r, u) = v) (fun u t => va_P D vwCl (W1 u) t.heap ∧ va_D A (W1 u)) A
def wr_Ql (D : va_G) {S : Type} (W1 : S → va_W) (v : Int64 × S) (A : Nat → Prop) : Array Value → State → Outcome → State → Prop := va_Ql (fun r u => (r, u) = v) (fun u t => va_P D vwCl (W1 u) t.heap ∧ va_D A (W1 u)) A
def wr_Qv (D : va_G) {S : Type} (W1 : S → va_W) (v : S) (A : Nat → Prop) : Array Value → State → Outcome → State → Prop := va_Qv (fun u => u = v) (fun u t => va_P D vwCl (W1 u) t.heap ∧ va_D A (W1 u)) A
theorem wr_in {A : Nat → Prop} {ws : va_W} {H0 H : Heap} {locs : List Loc} (hD : va_D A ws) (hS : va_S A H0 H locs) (hA : ∀ q, H0.size ≤ q → A q) : ∀ q, va_A ws H.size q → A q := by
  intro q h
  rcases h with ⟨k, e, hk⟩ | h
  · exact hD.2 k _ hk
  · exact hA q (Nat.le_trans hS.1 h)
section WC
variable {p : Program} {l : Launch} {e : Env} {R : Room} {s : State} {m : MethodId} {args : Array Value} {below : List Frame} {meth : Method} {c : Code} {H H0 : Heap} {locs : List Loc} {cells slots mc ms : Nat} {Q : State → Prop} {pc : Nat} {ls : Array Slot} {rest st0 : List Value} {A : Nat → Prop} {D : va_G} {ws : va_W} {a : Array Value} {S : Type} {W1 : S → va_W}
theorem wr_calli {v v9 : Int32 × S} (hr : va_Run p l e R s m args below meth c H locs cells slots mc ms (F0 m pc ls st0) rest (wr_Qi D W1 v (va_A ws H.size) a) (va_A ws H.size)) (hv : v = v9) (hD : va_D A ws) (hS : va_S A H0 H locs) (hA : ∀ q, H0.size ≤ q → A q)
    (kk : ∀ (H1 : Heap) (locs1 : List Loc), va_P D vwCl (W1 v9.2) H1 → va_D A (W1 v9.2) → va_S A H0 H1 locs1 → W p l e R s m args below meth c H1 locs1 (cells + mc) (slots + ms) Q (F0 m (pc + 3) ls (.int v9.1 :: rest))) : W p l e R s m args below meth c H locs cells slots Q (F0 m pc ls st0) := by
  subst hv
  refine va_calli hr hS (fun q _ h => wr_in hD hS hA q h) (wr_in hD hS hA) (fun r u t H1 locs1 ht hvm hw hB hz1 hk1 hS1 => ?_)
  subst hw
  rw [ht] at hB
  exact kk H1 locs1 hB.1 (hB.2.weaken (fun _ _ _ h => wr_in hD hS hA _ h)) hS1
theorem wr_calll {v v9 : Int64 × S} (hr : va_Run p l e R s m args below meth c H locs cells slots mc ms (F0 m pc ls st0) rest (wr_Ql D W1 v (va_A ws H.size) a) (va_A ws H.size)) (hv : v = v9) (hD : va_D A ws) (hS : va_S A H0 H locs) (hA : ∀ q, H0.size ≤ q → A q)
    (kk : ∀ (H1 : Heap) (locs1 : List Loc), va_P D vwCl (W1 v9.2) H1 → va_D A (W1 v9.2) → va_S A H0 H1 locs1 → W p l e R s m args below meth c H1 locs1 (cells + mc) (slots + ms) Q (F0 m (pc + 3) ls (.long v9.1 :: rest))) : W p l e R s m args below meth c H locs cells slots Q (F0 m pc ls st0) := by
  subst hv
  refine va_calll hr hS (fun q _ h => wr_in hD hS hA q h) (wr_in hD hS hA) (fun r u t H1 locs1 ht hvm hw hB hz1 hk1 hS1 => ?_)
  subst hw
  rw [ht] at hB
  exact kk H1 locs1 hB.1 (hB.2.weaken (fun _ _ _ h => wr_in hD hS hA _ h)) hS1
theorem wr_callv {v v9 : S} (hr : va_Run p l e R s m args below meth c H locs cells slots mc ms (F0 m pc ls st0) rest (wr_Qv D W1 v (va_A ws H.size) a) (va_A ws H.size)) (hv : v = v9) (hD : va_D A ws) (hS : va_S A H0 H locs) (hA : ∀ q, H0.size ≤ q → A q)
    (kk : ∀ (H1 : Heap) (locs1 : List Loc), va_P D vwCl (W1 v9) H1 → va_D A (W1 v9) → va_S A H0 H1 locs1 → W p l e R s m args below meth c H1 locs1 (cells + mc) (slots + ms) Q (F0 m (pc + 3) ls rest)) : W p l e R s m args below meth c H locs cells slots Q (F0 m pc ls st0) := by
  subst hv
  refine va_callv hr hS (fun q _ h => wr_in hD hS hA q h) (wr_in hD hS hA) (fun u t H1 locs1 ht hvm hw hB hz1 hk1 hS1 => ?_)
  subst hw
  rw [ht] at hB
  exact kk H1 locs1 hB.1 (hB.2.weaken (fun _ _ _ h => wr_in hD hS hA _ h)) hS1
end WC
/-! the class's state: tops, fractions, word, lastTold, lastK, lastChange -/
abbrev XS : Type := (Nat → Int32) × (Nat → Int64) × Int32 × Int32 × Int32 × Int32
abbrev x_W (cI cL : ClassId) (h0 qt qf : Nat) (ft : Nat → Int32) (ff : Nat → Int64) (w lt lk lc : Int32) : va_W := [(h0, .inr (0, [.ref qt, .ref qf, .int w, .int lt, .int lk, .int lc])), (qt, .inl (cI, 8, .inl ft)), (qf, .inl (cL, 8, .inr (.inl ff)))]
abbrev x_WU (cI cL : ClassId) (h0 qt qf : Nat) (u : XS) : va_W := x_W cI cL h0 qt qf u.1 u.2.1 u.2.2.1 u.2.2.2.1 u.2.2.2.2.1 u.2.2.2.2.2
abbrev x_T (cI cL : ClassId) : List (ClassId × FieldType) := [(cI, .int), (cL, .long)]
end
section
def f_JI_numberOfLeadingZeros (a1 : Int32) : Int32 :=
  if 0 < a1 then
    if a1 < 65536 then
      if a1 < 256 then
        if a1 < 16 then
          if a1 < 4 then
            (31 - ((Int32.toUInt32 a1 >>> (Int32.toUInt32 1 &&& Int32.toUInt32 31)).toInt32))
          else
            ((31 + (-2)) - ((Int32.toUInt32 ((Int32.toUInt32 a1 >>> (Int32.toUInt32 2 &&& Int32.toUInt32 31)).toInt32) >>> (Int32.toUInt32 1 &&& Int32.toUInt32 31)).toInt32))
        else
          if ((Int32.toUInt32 a1 >>> (Int32.toUInt32 4 &&& Int32.toUInt32 31)).toInt32) < 4 then
            ((31 + (-4)) - ((Int32.toUInt32 ((Int32.toUInt32 a1 >>> (Int32.toUInt32 4 &&& Int32.toUInt32 31)).toInt32) >>> (Int32.toUInt32 1 &&& Int32.toUInt32 31)).toInt32))
          else
            (((31 + (-4)) + (-2)) - ((Int32.toUInt32 ((Int32.toUInt32 ((Int32.toUInt32 a1 >>> (Int32.toUInt32 4 &&& Int32.toUInt32 31)).toInt32) >>> (Int32.toUInt32 2 &&& Int32.toUInt32 31)).toInt32) >>> (Int32.toUInt32 1 &&& Int32.toUInt32 31)).toInt32))
      else
        if ((Int32.toUInt32 a1 >>> (Int32.toUInt32 8 &&& Int32.toUInt32 31)).toInt32) < 16 then
          if ((Int32.toUInt32 a1 >>> (Int32.toUInt32 8 &&& Int32.toUInt32 31)).toInt32) < 4 then
            ((31 + (-8)) - ((Int32.toUInt32 ((Int32.toUInt32 a1 >>> (Int32.toUInt32 8 &&& Int32.toUInt32 31)).toInt32) >>> (Int32.toUInt32 1 &&& Int32.toUInt32 31)).toInt32))
          else
            (((31 + (-8)) + (-2)) - ((Int32.toUInt32 ((Int32.toUInt32 ((Int32.toUInt32 a1 >>> (Int32.toUInt32 8 &&& Int32.toUInt32 31)).toInt32) >>> (Int32.toUInt32 2 &&& Int32.toUInt32 31)).toInt32) >>> (Int32.toUInt32 1 &&& Int32.toUInt32 31)).toInt32))
        else
          if ((Int32.toUInt32 ((Int32.toUInt32 a1 >>> (Int32.toUInt32 8 &&& Int32.toUInt32 31)).toInt32) >>> (Int32.toUInt32 4 &&& Int32.toUInt32 31)).toInt32) < 4 then
            (((31 + (-8)) + (-4)) - ((Int32.toUInt32 ((Int32.toUInt32 ((Int32.toUInt32 a1 >>> (Int32.toUInt32 8 &&& Int32.toUInt32 31)).toInt32) >>> (Int32.toUInt32 4 &&& Int32.toUInt32 31)).toInt32) >>> (Int32.toUInt32 1 &&& Int32.toUInt32 31)).toInt32))
          else
            ((((31 + (-8)) + (-4)) + (-2)) - ((Int32.toUInt32 ((Int32.toUInt32 ((Int32.toUInt32 ((Int32.toUInt32 a1 >>> (Int32.toUInt32 8 &&& Int32.toUInt32 31)).toInt32) >>> (Int32.toUInt32 4 &&& Int32.toUInt32 31)).toInt32) >>> (Int32.toUInt32 2 &&& Int32.toUInt32 31)).toInt32) >>> (Int32.toUInt32 1 &&& Int32.toUInt32 31)).toInt32))
    else
      if ((Int32.toUInt32 a1 >>> (Int32.toUInt32 16 &&& Int32.toUInt32 31)).toInt32) < 256 then
        if ((Int32.toUInt32 a1 >>> (Int32.toUInt32 16 &&& Int32.toUInt32 31)).toInt32) < 16 then
          if ((Int32.toUInt32 a1 >>> (Int32.toUInt32 16 &&& Int32.toUInt32 31)).toInt32) < 4 then
            ((31 + (-16)) - ((Int32.toUInt32 ((Int32.toUInt32 a1 >>> (Int32.toUInt32 16 &&& Int32.toUInt32 31)).toInt32) >>> (Int32.toUInt32 1 &&& Int32.toUInt32 31)).toInt32))
          else
            (((31 + (-16)) + (-2)) - ((Int32.toUInt32 ((Int32.toUInt32 ((Int32.toUInt32 a1 >>> (Int32.toUInt32 16 &&& Int32.toUInt32 31)).toInt32) >>> (Int32.toUInt32 2 &&& Int32.toUInt32 31)).toInt32) >>> (Int32.toUInt32 1 &&& Int32.toUInt32 31)).toInt32))
        else
          if ((Int32.toUInt32 ((Int32.toUInt32 a1 >>> (Int32.toUInt32 16 &&& Int32.toUInt32 31)).toInt32) >>> (Int32.toUInt32 4 &&& Int32.toUInt32 31)).toInt32) < 4 then
            (((31 + (-16)) + (-4)) - ((Int32.toUInt32 ((Int32.toUInt32 ((Int32.toUInt32 a1 >>> (Int32.toUInt32 16 &&& Int32.toUInt32 31)).toInt32) >>> (Int32.toUInt32 4 &&& Int32.toUInt32 31)).toInt32) >>> (Int32.toUInt32 1 &&& Int32.toUInt32 31)).toInt32))
          else
            ((((31 + (-16)) + (-4)) + (-2)) - ((Int32.toUInt32 ((Int32.toUInt32 ((Int32.toUInt32 ((Int32.toUInt32 a1 >>> (Int32.toUInt32 16 &&& Int32.toUInt32 31)).toInt32) >>> (Int32.toUInt32 4 &&& Int32.toUInt32 31)).toInt32) >>> (Int32.toUInt32 2 &&& Int32.toUInt32 31)).toInt32) >>> (Int32.toUInt32 1 &&& Int32.toUInt32 31)).toInt32))
      else
        if ((Int32.toUInt32 ((Int32.toUInt32 a1 >>> (Int32.toUInt32 16 &&& Int32.toUInt32 31)).toInt32) >>> (Int32.toUInt32 8 &&& Int32.toUInt32 31)).toInt32) < 16 then
          if ((Int32.toUInt32 ((Int32.toUInt32 a1 >>> (Int32.toUInt32 16 &&& Int32.toUInt32 31)).toInt32) >>> (Int32.toUInt32 8 &&& Int32.toUInt32 31)).toInt32) < 4 then
            (((31 + (-16)) + (-8)) - ((Int32.toUInt32 ((Int32.toUInt32 ((Int32.toUInt32 a1 >>> (Int32.toUInt32 16 &&& Int32.toUInt32 31)).toInt32) >>> (Int32.toUInt32 8 &&& Int32.toUInt32 31)).toInt32) >>> (Int32.toUInt32 1 &&& Int32.toUInt32 31)).toInt32))
          else
            ((((31 + (-16)) + (-8)) + (-2)) - ((Int32.toUInt32 ((Int32.toUInt32 ((Int32.toUInt32 ((Int32.toUInt32 a1 >>> (Int32.toUInt32 16 &&& Int32.toUInt32 31)).toInt32) >>> (Int32.toUInt32 8 &&& Int32.toUInt32 31)).toInt32) >>> (Int32.toUInt32 2 &&& Int32.toUInt32 31)).toInt32) >>> (Int32.toUInt32 1 &&& Int32.toUInt32 31)).toInt32))
        else
          if ((Int32.toUInt32 ((Int32.toUInt32 ((Int32.toUInt32 a1 >>> (Int32.toUInt32 16 &&& Int32.toUInt32 31)).toInt32) >>> (Int32.toUInt32 8 &&& Int32.toUInt32 31)).toInt32) >>> (Int32.toUInt32 4 &&& Int32.toUInt32 31)).toInt32) < 4 then
            ((((31 + (-16)) + (-8)) + (-4)) - ((Int32.toUInt32 ((Int32.toUInt32 ((Int32.toUInt32 ((Int32.toUInt32 a1 >>> (Int32.toUInt32 16 &&& Int32.toUInt32 31)).toInt32) >>> (Int32.toUInt32 8 &&& Int32.toUInt32 31)).toInt32) >>> (Int32.toUInt32 4 &&& Int32.toUInt32 31)).toInt32) >>> (Int32.toUInt32 1 &&& Int32.toUInt32 31)).toInt32))
          else
            (((((31 + (-16)) + (-8)) + (-4)) + (-2)) - ((Int32.toUInt32 ((Int32.toUInt32 ((Int32.toUInt32 ((Int32.toUInt32 ((Int32.toUInt32 a1 >>> (Int32.toUInt32 16 &&& Int32.toUInt32 31)).toInt32) >>> (Int32.toUInt32 8 &&& Int32.toUInt32 31)).toInt32) >>> (Int32.toUInt32 4 &&& Int32.toUInt32 31)).toInt32) >>> (Int32.toUInt32 2 &&& Int32.toUInt32 31)).toInt32) >>> (Int32.toUInt32 1 &&& Int32.toUInt32 31)).toInt32))
  else
    (if a1 = 0 then 32 else 0)
set_option maxHeartbeats 4000000 in
set_option maxRecDepth 100000 in
theorem c_JI_numberOfLeadingZeros (l : Launch) (a1 : Int32) : Met l yJI_numberOfLeadingZeros wsJI_numberOfLeadingZeros ({ frames := 0, cells := 0, slots := 0, locals := 0 }) (va_Pc [.int a1] (fun _ => True)) (k2_QcV (.int (f_JI_numberOfLeadingZeros a1))) 0 0 (fun _ => False) := by
  refine va_MetF (cc := cJI_numberOfLeadingZeros) (maxL := 2) (ret := (some .int)) (by decide) rfl ?_
  intro p e s m args below meth c s₁ B hml hv
  obtain ⟨rfl, -⟩ := hv
  have hx := B.exec
  have hb := B.bytes
  have hr := B.returns
  have hts := atoms_spec (ws := wsJI_numberOfLeadingZeros) B.pre
  have hown : s.vm.findClass RJI = some m.cls := findClass_of_methodNamed B.named
  have hlocks := B.notSynchronized
  have hl := lv_entry ([.int a1]) (n := 2) (Nat.le_of_ble_eq_true rfl)
  rw [lg_entry_eq]
  generalize (lg_sl ([.int a1]) ++ List.replicate (2 - (lg_sl ([.int a1])).length) Slot.unset).toArray = ls at hl ⊢
  have hl : lv_has ls 2 [(0, .int a1)] := hl
  refine lv_iload_n hx hb dJI_numberOfLeadingZeros_0 rfl (lv_at hl 0 rfl) ?_
  refine lv_if_gt (tgt := 15) hx hb dJI_numberOfLeadingZeros_1 (by decide) (fun c_1 => ?_) (fun c_1 => ?_)
  · refine lv_bipush (v := 31) hx hb dJI_numberOfLeadingZeros_15 (by decide) ?_
    refine lv_istore_n (lv' := [(1, .int 31), (0, .int a1)]) hx hb dJI_numberOfLeadingZeros_17 rfl hl (by decide) rfl (fun ls hl => ?_)
    refine lv_iload_n hx hb dJI_numberOfLeadingZeros_18 rfl (lv_at hl 1 rfl) ?_
    refine lv_ldcw (v := 65536) hx hb hown (hts (.constant RJI 264 65536) (by decide +kernel)) dJI_numberOfLeadingZeros_19 ?_
    refine lv_icmp_lt (tgt := 33) hx hb dJI_numberOfLeadingZeros_22 (by decide) (fun c_2 => ?_) (fun c_2 => ?_)
    · refine lv_iload_n hx hb dJI_numberOfLeadingZeros_33 rfl (lv_at hl 1 rfl) ?_
      refine lv_sipush (v := 256) hx hb dJI_numberOfLeadingZeros_34 (by decide) ?_
      refine lv_icmp_lt (tgt := 48) hx hb dJI_numberOfLeadingZeros_37 (by decide) (fun c_3 => ?_) (fun c_3 => ?_)
      · refine lv_iload_n hx hb dJI_numberOfLeadingZeros_48 rfl (lv_at hl 1 rfl) ?_
        refine lv_bipush (v := 16) hx hb dJI_numberOfLeadingZeros_49 (by decide) ?_
        refine lv_icmp_lt (tgt := 61) hx hb dJI_numberOfLeadingZeros_51 (by decide) (fun c_4 => ?_) (fun c_4 => ?_)
        · refine lv_iload_n hx hb dJI_numberOfLeadingZeros_61 rfl (lv_at hl 1 rfl) ?_
          refine lv_iconst (v := 4) hx hb dJI_numberOfLeadingZeros_62 (by decide) ?_
          refine lv_icmp_lt (tgt := 73) hx hb dJI_numberOfLeadingZeros_63 (by decide) (fun c_5 => ?_) (fun c_5 => ?_)
          · refine lv_iload_n hx hb dJI_numberOfLeadingZeros_73 rfl (lv_at hl 0 rfl) ?_
            refine lv_iload_n hx hb dJI_numberOfLeadingZeros_74 rfl (lv_at hl 1 rfl) ?_
            refine lv_iconst (v := 1) hx hb dJI_numberOfLeadingZeros_75 (by decide) ?_
            refine lv_iushr hx hb dJI_numberOfLeadingZeros_76 rfl ?_
            refine lv_isub hx hb dJI_numberOfLeadingZeros_77 ?_
            refine w_asi (y := (f_JI_numberOfLeadingZeros a1)) (by unfold f_JI_numberOfLeadingZeros; rw [if_pos c_1, if_pos c_2, if_pos c_3, if_pos c_4, if_pos c_5]) ?_
            exact W.iret (v := (f_JI_numberOfLeadingZeros a1)) hx hb hr (fun t ht _ => ⟨rfl, ht⟩) (fun _ h => nomatch h) dJI_numberOfLeadingZeros_78
          · refine lv_iinc (v := (31 + (-2))) (lv' := [(1, .int (31 + (-2))), (0, .int a1)]) hx hb dJI_numberOfLeadingZeros_66 hl (k := 0) rfl rfl (by decide) rfl (fun ls hl => ?_)
            refine lv_iload_n hx hb dJI_numberOfLeadingZeros_69 rfl (lv_at hl 1 rfl) ?_
            refine lv_iconst (v := 2) hx hb dJI_numberOfLeadingZeros_70 (by decide) ?_
            refine lv_iushr hx hb dJI_numberOfLeadingZeros_71 rfl ?_
            refine lv_istore_n (lv' := [(0, .int ((Int32.toUInt32 a1 >>> (Int32.toUInt32 2 &&& Int32.toUInt32 31)).toInt32)), (1, .int (31 + (-2)))]) hx hb dJI_numberOfLeadingZeros_72 rfl hl (by decide) rfl (fun ls hl => ?_)
            refine lv_iload_n hx hb dJI_numberOfLeadingZeros_73 rfl (lv_at hl 1 rfl) ?_
            refine lv_iload_n hx hb dJI_numberOfLeadingZeros_74 rfl (lv_at hl 0 rfl) ?_
            refine lv_iconst (v := 1) hx hb dJI_numberOfLeadingZeros_75 (by decide) ?_
            refine lv_iushr hx hb dJI_numberOfLeadingZeros_76 rfl ?_
            refine lv_isub hx hb dJI_numberOfLeadingZeros_77 ?_
            refine w_asi (y := (f_JI_numberOfLeadingZeros a1)) (by unfold f_JI_numberOfLeadingZeros; rw [if_pos c_1, if_pos c_2, if_pos c_3, if_pos c_4, if_neg c_5]) ?_
            exact W.iret (v := (f_JI_numberOfLeadingZeros a1)) hx hb hr (fun t ht _ => ⟨rfl, ht⟩) (fun _ h => nomatch h) dJI_numberOfLeadingZeros_78
        · refine lv_iinc (v := (31 + (-4))) (lv' := [(1, .int (31 + (-4))), (0, .int a1)]) hx hb dJI_numberOfLeadingZeros_54 hl (k := 0) rfl rfl (by decide) rfl (fun ls hl => ?_)
          refine lv_iload_n hx hb dJI_numberOfLeadingZeros_57 rfl (lv_at hl 1 rfl) ?_
          refine lv_iconst (v := 4) hx hb dJI_numberOfLeadingZeros_58 (by decide) ?_
          refine lv_iushr hx hb dJI_numberOfLeadingZeros_59 rfl ?_
          refine lv_istore_n (lv' := [(0, .int ((Int32.toUInt32 a1 >>> (Int32.toUInt32 4 &&& Int32.toUInt32 31)).toInt32)), (1, .int (31 + (-4)))]) hx hb dJI_numberOfLeadingZeros_60 rfl hl (by decide) rfl (fun ls hl => ?_)
          refine lv_iload_n hx hb dJI_numberOfLeadingZeros_61 rfl (lv_at hl 0 rfl) ?_
          refine lv_iconst (v := 4) hx hb dJI_numberOfLeadingZeros_62 (by decide) ?_
          refine lv_icmp_lt (tgt := 73) hx hb dJI_numberOfLeadingZeros_63 (by decide) (fun c_6 => ?_) (fun c_6 => ?_)
          · refine lv_iload_n hx hb dJI_numberOfLeadingZeros_73 rfl (lv_at hl 1 rfl) ?_
            refine lv_iload_n hx hb dJI_numberOfLeadingZeros_74 rfl (lv_at hl 0 rfl) ?_
            refine lv_iconst (v := 1) hx hb dJI_numberOfLeadingZeros_75 (by decide) ?_
            refine lv_iushr hx hb dJI_numberOfLeadingZeros_76 rfl ?_
            refine lv_isub hx hb dJI_numberOfLeadingZeros_77 ?_
            refine w_asi (y := (f_JI_numberOfLeadingZeros a1)) (by unfold f_JI_numberOfLeadingZeros; rw [if_pos c_1, if_pos c_2, if_pos c_3, if_neg c_4, if_pos c_6]) ?_
            exact W.iret (v := (f_JI_numberOfLeadingZeros a1)) hx hb hr (fun t ht _ => ⟨rfl, ht⟩) (fun _ h => nomatch h) dJI_numberOfLeadingZeros_78
          · refine lv_iinc (v := ((31 + (-4)) + (-2))) (lv' := [(1, .int ((31 + (-4)) + (-2))), (0, .int ((Int32.toUInt32 a1 >>> (Int32.toUInt32 4 &&& Int32.toUInt32 31)).toInt32))]) hx hb dJI_numberOfLeadingZeros_66 hl (k := 1) rfl rfl (by decide) rfl (fun ls hl => ?_)
            refine lv_iload_n hx hb dJI_numberOfLeadingZeros_69 rfl (lv_at hl 1 rfl) ?_
            refine lv_iconst (v := 2) hx hb dJI_numberOfLeadingZeros_70 (by decide) ?_
            refine lv_iushr hx hb dJI_numberOfLeadingZeros_71 rfl ?_
            refine lv_istore_n (lv' := [(0, .int ((Int32.toUInt32 ((Int32.toUInt32 a1 >>> (Int32.toUInt32 4 &&& Int32.toUInt32 31)).toInt32) >>> (Int32.toUInt32 2 &&& Int32.toUInt32 31)).toInt32)), (1, .int ((31 + (-4)) + (-2)))]) hx hb dJI_numberOfLeadingZeros_72 rfl hl (by decide) rfl (fun ls hl => ?_)
            refine lv_iload_n hx hb dJI_numberOfLeadingZeros_73 rfl (lv_at hl 1 rfl) ?_
            refine lv_iload_n hx hb dJI_numberOfLeadingZeros_74 rfl (lv_at hl 0 rfl) ?_
            refine lv_iconst (v := 1) hx hb dJI_numberOfLeadingZeros_75 (by decide) ?_
            refine lv_iushr hx hb dJI_numberOfLeadingZeros_76 rfl ?_
            refine lv_isub hx hb dJI_numberOfLeadingZeros_77 ?_
            refine w_asi (y := (f_JI_numberOfLeadingZeros a1)) (by unfold f_JI_numberOfLeadingZeros; rw [if_pos c_1, if_pos c_2, if_pos c_3, if_neg c_4, if_neg c_6]) ?_
            exact W.iret (v := (f_JI_numberOfLeadingZeros a1)) hx hb hr (fun t ht _ => ⟨rfl, ht⟩) (fun _ h => nomatch h) dJI_numberOfLeadingZeros_78
      · refine lv_iinc (v := (31 + (-8))) (lv' := [(1, .int (31 + (-8))), (0, .int a1)]) hx hb dJI_numberOfLeadingZeros_40 hl (k := 0) rfl rfl (by decide) rfl (fun ls hl => ?_)
        refine lv_iload_n hx hb dJI_numberOfLeadingZeros_43 rfl (lv_at hl 1 rfl) ?_
        refine lv_bipush (v := 8) hx hb dJI_numberOfLeadingZeros_44 (by decide) ?_
        refine lv_iushr hx hb dJI_numberOfLeadingZeros_46 rfl ?_
        refine lv_istore_n (lv' := [(0, .int ((Int32.toUInt32 a1 >>> (Int32.toUInt32 8 &&& Int32.toUInt32 31)).toInt32)), (1, .int (31 + (-8)))]) hx hb dJI_numberOfLeadingZeros_47 rfl hl (by decide) rfl (fun ls hl => ?_)
        refine lv_iload_n hx hb dJI_numberOfLeadingZeros_48 rfl (lv_at hl 0 rfl) ?_
        refine lv_bipush (v := 16) hx hb dJI_numberOfLeadingZeros_49 (by decide) ?_
        refine lv_icmp_lt (tgt := 61) hx hb dJI_numberOfLeadingZeros_51 (by decide) (fun c_7 => ?_) (fun c_7 => ?_)
        · refine lv_iload_n hx hb dJI_numberOfLeadingZeros_61 rfl (lv_at hl 0 rfl) ?_
          refine lv_iconst (v := 4) hx hb dJI_numberOfLeadingZeros_62 (by decide) ?_
          refine lv_icmp_lt (tgt := 73) hx hb dJI_numberOfLeadingZeros_63 (by decide) (fun c_8 => ?_) (fun c_8 => ?_)
          · refine lv_iload_n hx hb dJI_numberOfLeadingZeros_73 rfl (lv_at hl 1 rfl) ?_
            refine lv_iload_n hx hb dJI_numberOfLeadingZeros_74 rfl (lv_at hl 0 rfl) ?_
            refine lv_iconst (v := 1) hx hb dJI_numberOfLeadingZeros_75 (by decide) ?_
            refine lv_iushr hx hb dJI_numberOfLeadingZeros_76 rfl ?_
            refine lv_isub hx hb dJI_numberOfLeadingZeros_77 ?_
            refine w_asi (y := (f_JI_numberOfLeadingZeros a1)) (by unfold f_JI_numberOfLeadingZeros; rw [if_pos c_1, if_pos c_2, if_neg c_3, if_pos c_7, if_pos c_8]) ?_
            exact W.iret (v := (f_JI_numberOfLeadingZeros a1)) hx hb hr (fun t ht _ => ⟨rfl, ht⟩) (fun _ h => nomatch h) dJI_numberOfLeadingZeros_78
          · refine lv_iinc (v := ((31 + (-8)) + (-2))) (lv' := [(1, .int ((31 + (-8)) + (-2))), (0, .int ((Int32.toUInt32 a1 >>> (Int32.toUInt32 8 &&& Int32.toUInt32 31)).toInt32))]) hx hb dJI_numberOfLeadingZeros_66 hl (k := 1) rfl rfl (by decide) rfl (fun ls hl => ?_)
            refine lv_iload_n hx hb dJI_numberOfLeadingZeros_69 rfl (lv_at hl 1 rfl) ?_
            refine lv_iconst (v := 2) hx hb dJI_numberOfLeadingZeros_70 (by decide) ?_
            refine lv_iushr hx hb dJI_numberOfLeadingZeros_71 rfl ?_
            refine lv_istore_n (lv' := [(0, .int ((Int32.toUInt32 ((Int32.toUInt32 a1 >>> (Int32.toUInt32 8 &&& Int32.toUInt32 31)).toInt32) >>> (Int32.toUInt32 2 &&& Int32.toUInt32 31)).toInt32)), (1, .int ((31 + (-8)) + (-2)))]) hx hb dJI_numberOfLeadingZeros_72 rfl hl (by decide) rfl (fun ls hl => ?_)
            refine lv_iload_n hx hb dJI_numberOfLeadingZeros_73 rfl (lv_at hl 1 rfl) ?_
            refine lv_iload_n hx hb dJI_numberOfLeadingZeros_74 rfl (lv_at hl 0 rfl) ?_
            refine lv_iconst (v := 1) hx hb dJI_numberOfLeadingZeros_75 (by decide) ?_
            refine lv_iushr hx hb dJI_numberOfLeadingZeros_76 rfl ?_
            refine lv_isub hx hb dJI_numberOfLeadingZeros_77 ?_
            refine w_asi (y := (f_JI_numberOfLeadingZeros a1)) (by unfold f_JI_numberOfLeadingZeros; rw [if_pos c_1, if_pos c_2, if_neg c_3, if_pos c_7, if_neg c_8]) ?_
            exact W.iret (v := (f_JI_numberOfLeadingZeros a1)) hx hb hr (fun t ht _ => ⟨rfl, ht⟩) (fun _ h => nomatch h) dJI_numberOfLeadingZeros_78
        · refine lv_iinc (v := ((31 + (-8)) + (-4))) (lv' := [(1, .int ((31 + (-8)) + (-4))), (0, .int ((Int32.toUInt32 a1 >>> (Int32.toUInt32 8 &&& Int32.toUInt32 31)).toInt32))]) hx hb dJI_numberOfLeadingZeros_54 hl (k := 1) rfl rfl (by decide) rfl (fun ls hl => ?_)
          refine lv_iload_n hx hb dJI_numberOfLeadingZeros_57 rfl (lv_at hl 1 rfl) ?_
          refine lv_iconst (v := 4) hx hb dJI_numberOfLeadingZeros_58 (by decide) ?_
          refine lv_iushr hx hb dJI_numberOfLeadingZeros_59 rfl ?_
          refine lv_istore_n (lv' := [(0, .int ((Int32.toUInt32 ((Int32.toUInt32 a1 >>> (Int32.toUInt32 8 &&& Int32.toUInt32 31)).toInt32) >>> (Int32.toUInt32 4 &&& Int32.toUInt32 31)).toInt32)), (1, .int ((31 + (-8)) + (-4)))]) hx hb dJI_numberOfLeadingZeros_60 rfl hl (by decide) rfl (fun ls hl => ?_)
          refine lv_iload_n hx hb dJI_numberOfLeadingZeros_61 rfl (lv_at hl 0 rfl) ?_
          refine lv_iconst (v := 4) hx hb dJI_numberOfLeadingZeros_62 (by decide) ?_
          refine lv_icmp_lt (tgt := 73) hx hb dJI_numberOfLeadingZeros_63 (by decide) (fun c_9 => ?_) (fun c_9 => ?_)
          · refine lv_iload_n hx hb dJI_numberOfLeadingZeros_73 rfl (lv_at hl 1 rfl) ?_
            refine lv_iload_n hx hb dJI_numberOfLeadingZeros_74 rfl (lv_at hl 0 rfl) ?_
            refine lv_iconst (v := 1) hx hb dJI_numberOfLeadingZeros_75 (by decide) ?_
            refine lv_iushr hx hb dJI_numberOfLeadingZeros_76 rfl ?_
            refine lv_isub hx hb dJI_numberOfLeadingZeros_77 ?_
            refine w_asi (y := (f_JI_numberOfLeadingZeros a1)) (by unfold f_JI_numberOfLeadingZeros; rw [if_pos c_1, if_pos c_2, if_neg c_3, if_neg c_7, if_pos c_9]) ?_
            exact W.iret (v := (f_JI_numberOfLeadingZeros a1)) hx hb hr (fun t ht _ => ⟨rfl, ht⟩) (fun _ h => nomatch h) dJI_numberOfLeadingZeros_78
          · refine lv_iinc (v := (((31 + (-8)) + (-4)) + (-2))) (lv' := [(1, .int (((31 + (-8)) + (-4)) + (-2))), (0, .int ((Int32.toUInt32 ((Int32.toUInt32 a1 >>> (Int32.toUInt32 8 &&& Int32.toUInt32 31)).toInt32) >>> (Int32.toUInt32 4 &&& Int32.toUInt32 31)).toInt32))]) hx hb dJI_numberOfLeadingZeros_66 hl (k := 1) rfl rfl (by decide) rfl (fun ls hl => ?_)
            refine lv_iload_n hx hb dJI_numberOfLeadingZeros_69 rfl (lv_at hl 1 rfl) ?_
            refine lv_iconst (v := 2) hx hb dJI_numberOfLeadingZeros_70 (by decide) ?_
            refine lv_iushr hx hb dJI_numberOfLeadingZeros_71 rfl ?_
            refine lv_istore_n (lv' := [(0, .int ((Int32.toUInt32 ((Int32.toUInt32 ((Int32.toUInt32 a1 >>> (Int32.toUInt32 8 &&& Int32.toUInt32 31)).toInt32) >>> (Int32.toUInt32 4 &&& Int32.toUInt32 31)).toInt32) >>> (Int32.toUInt32 2 &&& Int32.toUInt32 31)).toInt32)), (1, .int (((31 + (-8)) + (-4)) + (-2)))]) hx hb dJI_numberOfLeadingZeros_72 rfl hl (by decide) rfl (fun ls hl => ?_)
            refine lv_iload_n hx hb dJI_numberOfLeadingZeros_73 rfl (lv_at hl 1 rfl) ?_
            refine lv_iload_n hx hb dJI_numberOfLeadingZeros_74 rfl (lv_at hl 0 rfl) ?_
            refine lv_iconst (v := 1) hx hb dJI_numberOfLeadingZeros_75 (by decide) ?_
            refine lv_iushr hx hb dJI_numberOfLeadingZeros_76 rfl ?_
            refine lv_isub hx hb dJI_numberOfLeadingZeros_77 ?_
            refine w_asi (y := (f_JI_numberOfLeadingZeros a1)) (by unfold f_JI_numberOfLeadingZeros; rw [if_pos c_1, if_pos c_2, if_neg c_3, if_neg c_7, if_neg c_9]) ?_
            exact W.iret (v := (f_JI_numberOfLeadingZeros a1)) hx hb hr (fun t ht _ => ⟨rfl, ht⟩) (fun _ h => nomatch h) dJI_numberOfLeadingZeros_78
    · refine lv_iinc (v := (31 + (-16))) (lv' := [(1, .int (31 + (-16))), (0, .int a1)]) hx hb dJI_numberOfLeadingZeros_25 hl (k := 0) rfl rfl (by decide) rfl (fun ls hl => ?_)
      refine lv_iload_n hx hb dJI_numberOfLeadingZeros_28 rfl (lv_at hl 1 rfl) ?_
      refine lv_bipush (v := 16) hx hb dJI_numberOfLeadingZeros_29 (by decide) ?_
      refine lv_iushr hx hb dJI_numberOfLeadingZeros_31 rfl ?_
      refine lv_istore_n (lv' := [(0, .int ((Int32.toUInt32 a1 >>> (Int32.toUInt32 16 &&& Int32.toUInt32 31)).toInt32)), (1, .int (31 + (-16)))]) hx hb dJI_numberOfLeadingZeros_32 rfl hl (by decide) rfl (fun ls hl => ?_)
      refine lv_iload_n hx hb dJI_numberOfLeadingZeros_33 rfl (lv_at hl 0 rfl) ?_
      refine lv_sipush (v := 256) hx hb dJI_numberOfLeadingZeros_34 (by decide) ?_
      refine lv_icmp_lt (tgt := 48) hx hb dJI_numberOfLeadingZeros_37 (by decide) (fun c_10 => ?_) (fun c_10 => ?_)
      · refine lv_iload_n hx hb dJI_numberOfLeadingZeros_48 rfl (lv_at hl 0 rfl) ?_
        refine lv_bipush (v := 16) hx hb dJI_numberOfLeadingZeros_49 (by decide) ?_
        refine lv_icmp_lt (tgt := 61) hx hb dJI_numberOfLeadingZeros_51 (by decide) (fun c_11 => ?_) (fun c_11 => ?_)
        · refine lv_iload_n hx hb dJI_numberOfLeadingZeros_61 rfl (lv_at hl 0 rfl) ?_
          refine lv_iconst (v := 4) hx hb dJI_numberOfLeadingZeros_62 (by decide) ?_
          refine lv_icmp_lt (tgt := 73) hx hb dJI_numberOfLeadingZeros_63 (by decide) (fun c_12 => ?_) (fun c_12 => ?_)
          · refine lv_iload_n hx hb dJI_numberOfLeadingZeros_73 rfl (lv_at hl 1 rfl) ?_
            refine lv_iload_n hx hb dJI_numberOfLeadingZeros_74 rfl (lv_at hl 0 rfl) ?_
            refine lv_iconst (v := 1) hx hb dJI_numberOfLeadingZeros_75 (by decide) ?_
            refine lv_iushr hx hb dJI_numberOfLeadingZeros_76 rfl ?_
            refine lv_isub hx hb dJI_numberOfLeadingZeros_77 ?_
            refine w_asi (y := (f_JI_numberOfLeadingZeros a1)) (by unfold f_JI_numberOfLeadingZeros; rw [if_pos c_1, if_neg c_2, if_pos c_10, if_pos c_11, if_pos c_12]) ?_
            exact W.iret (v := (f_JI_numberOfLeadingZeros a1)) hx hb hr (fun t ht _ => ⟨rfl, ht⟩) (fun _ h => nomatch h) dJI_numberOfLeadingZeros_78
          · refine lv_iinc (v := ((31 + (-16)) + (-2))) (lv' := [(1, .int ((31 + (-16)) + (-2))), (0, .int ((Int32.toUInt32 a1 >>> (Int32.toUInt32 16 &&& Int32.toUInt32 31)).toInt32))]) hx hb dJI_numberOfLeadingZeros_66 hl (k := 1) rfl rfl (by decide) rfl (fun ls hl => ?_)
            refine lv_iload_n hx hb dJI_numberOfLeadingZeros_69 rfl (lv_at hl 1 rfl) ?_
            refine lv_iconst (v := 2) hx hb dJI_numberOfLeadingZeros_70 (by decide) ?_
            refine lv_iushr hx hb dJI_numberOfLeadingZeros_71 rfl ?_
            refine lv_istore_n (lv' := [(0, .int ((Int32.toUInt32 ((Int32.toUInt32 a1 >>> (Int32.toUInt32 16 &&& Int32.toUInt32 31)).toInt32) >>> (Int32.toUInt32 2 &&& Int32.toUInt32 31)).toInt32)), (1, .int ((31 + (-16)) + (-2)))]) hx hb dJI_numberOfLeadingZeros_72 rfl hl (by decide) rfl (fun ls hl => ?_)
            refine lv_iload_n hx hb dJI_numberOfLeadingZeros_73 rfl (lv_at hl 1 rfl) ?_
            refine lv_iload_n hx hb dJI_numberOfLeadingZeros_74 rfl (lv_at hl 0 rfl) ?_
            refine lv_iconst (v := 1) hx hb dJI_numberOfLeadingZeros_75 (by decide) ?_
            refine lv_iushr hx hb dJI_numberOfLeadingZeros_76 rfl ?_
            refine lv_isub hx hb dJI_numberOfLeadingZeros_77 ?_
            refine w_asi (y := (f_JI_numberOfLeadingZeros a1)) (by unfold f_JI_numberOfLeadingZeros; rw [if_pos c_1, if_neg c_2, if_pos c_10, if_pos c_11, if_neg c_12]) ?_
            exact W.iret (v := (f_JI_numberOfLeadingZeros a1)) hx hb hr (fun t ht _ => ⟨rfl, ht⟩) (fun _ h => nomatch h) dJI_numberOfLeadingZeros_78
        · refine lv_iinc (v := ((31 + (-16)) + (-4))) (lv' := [(1, .int ((31 + (-16)) + (-4))), (0, .int ((Int32.toUInt32 a1 >>> (Int32.toUInt32 16 &&& Int32.toUInt32 31)).toInt32))]) hx hb dJI_numberOfLeadingZeros_54 hl (k := 1) rfl rfl (by decide) rfl (fun ls hl => ?_)
          refine lv_iload_n hx hb dJI_numberOfLeadingZeros_57 rfl (lv_at hl 1 rfl) ?_
          refine lv_iconst (v := 4) hx hb dJI_numberOfLeadingZeros_58 (by decide) ?_
          refine lv_iushr hx hb dJI_numberOfLeadingZeros_59 rfl ?_
          refine lv_istore_n (lv' := [(0, .int ((Int32.toUInt32 ((Int32.toUInt32 a1 >>> (Int32.toUInt32 16 &&& Int32.toUInt32 31)).toInt32) >>> (Int32.toUInt32 4 &&& Int32.toUInt32 31)).toInt32)), (1, .int ((31 + (-16)) + (-4)))]) hx hb dJI_numberOfLeadingZeros_60 rfl hl (by decide) rfl (fun ls hl => ?_)
          refine lv_iload_n hx hb dJI_numberOfLeadingZeros_61 rfl (lv_at hl 0 rfl) ?_
          refine lv_iconst (v := 4) hx hb dJI_numberOfLeadingZeros_62 (by decide) ?_
          refine lv_icmp_lt (tgt := 73) hx hb dJI_numberOfLeadingZeros_63 (by decide) (fun c_13 => ?_) (fun c_13 => ?_)
          · refine lv_iload_n hx hb dJI_numberOfLeadingZeros_73 rfl (lv_at hl 1 rfl) ?_
            refine lv_iload_n hx hb dJI_numberOfLeadingZeros_74 rfl (lv_at hl 0 rfl) ?_
            refine lv_iconst (v := 1) hx hb dJI_numberOfLeadingZeros_75 (by decide) ?_
            refine lv_iushr hx hb dJI_numberOfLeadingZeros_76 rfl ?_
            refine lv_isub hx hb dJI_numberOfLeadingZeros_77 ?_
            refine w_asi (y := (f_JI_numberOfLeadingZeros a1)) (by unfold f_JI_numberOfLeadingZeros; rw [if_pos c_1, if_neg c_2, if_pos c_10, if_neg c_11, if_pos c_13]) ?_
            exact W.iret (v := (f_JI_numberOfLeadingZeros a1)) hx hb hr (fun t ht _ => ⟨rfl, ht⟩) (fun _ h => nomatch h) dJI_numberOfLeadingZeros_78
          · refine lv_iinc (v := (((31 + (-16)) + (-4)) + (-2))) (lv' := [(1, .int (((31 + (-16)) + (-4)) + (-2))), (0, .int ((Int32.toUInt32 ((Int32.toUInt32 a1 >>> (Int32.toUInt32 16 &&& Int32.toUInt32 31)).toInt32) >>> (Int32.toUInt32 4 &&& Int32.toUInt32 31)).toInt32))]) hx hb dJI_numberOfLeadingZeros_66 hl (k := 1) rfl rfl (by decide) rfl (fun ls hl => ?_)
            refine lv_iload_n hx hb dJI_numberOfLeadingZeros_69 rfl (lv_at hl 1 rfl) ?_
            refine lv_iconst (v := 2) hx hb dJI_numberOfLeadingZeros_70 (by decide) ?_
            refine lv_iushr hx hb dJI_numberOfLeadingZeros_71 rfl ?_
            refine lv_istore_n (lv' := [(0, .int ((Int32.toUInt32 ((Int32.toUInt32 ((Int32.toUInt32 a1 >>> (Int32.toUInt32 16 &&& Int32.toUInt32 31)).toInt32) >>> (Int32.toUInt32 4 &&& Int32.toUInt32 31)).toInt32) >>> (Int32.toUInt32 2 &&& Int32.toUInt32 31)).toInt32)), (1, .int (((31 + (-16)) + (-4)) + (-2)))]) hx hb dJI_numberOfLeadingZeros_72 rfl hl (by decide) rfl (fun ls hl => ?_)
            refine lv_iload_n hx hb dJI_numberOfLeadingZeros_73 rfl (lv_at hl 1 rfl) ?_
            refine lv_iload_n hx hb dJI_numberOfLeadingZeros_74 rfl (lv_at hl 0 rfl) ?_
            refine lv_iconst (v := 1) hx hb dJI_numberOfLeadingZeros_75 (by decide) ?_
            refine lv_iushr hx hb dJI_numberOfLeadingZeros_76 rfl ?_
            refine lv_isub hx hb dJI_numberOfLeadingZeros_77 ?_
            refine w_asi (y := (f_JI_numberOfLeadingZeros a1)) (by unfold f_JI_numberOfLeadingZeros; rw [if_pos c_1, if_neg c_2, if_pos c_10, if_neg c_11, if_neg c_13]) ?_
            exact W.iret (v := (f_JI_numberOfLeadingZeros a1)) hx hb hr (fun t ht _ => ⟨rfl, ht⟩) (fun _ h => nomatch h) dJI_numberOfLeadingZeros_78
      · refine lv_iinc (v := ((31 + (-16)) + (-8))) (lv' := [(1, .int ((31 + (-16)) + (-8))), (0, .int ((Int32.toUInt32 a1 >>> (Int32.toUInt32 16 &&& Int32.toUInt32 31)).toInt32))]) hx hb dJI_numberOfLeadingZeros_40 hl (k := 1) rfl rfl (by decide) rfl (fun ls hl => ?_)
        refine lv_iload_n hx hb dJI_numberOfLeadingZeros_43 rfl (lv_at hl 1 rfl) ?_
        refine lv_bipush (v := 8) hx hb dJI_numberOfLeadingZeros_44 (by decide) ?_
        refine lv_iushr hx hb dJI_numberOfLeadingZeros_46 rfl ?_
        refine lv_istore_n (lv' := [(0, .int ((Int32.toUInt32 ((Int32.toUInt32 a1 >>> (Int32.toUInt32 16 &&& Int32.toUInt32 31)).toInt32) >>> (Int32.toUInt32 8 &&& Int32.toUInt32 31)).toInt32)), (1, .int ((31 + (-16)) + (-8)))]) hx hb dJI_numberOfLeadingZeros_47 rfl hl (by decide) rfl (fun ls hl => ?_)
        refine lv_iload_n hx hb dJI_numberOfLeadingZeros_48 rfl (lv_at hl 0 rfl) ?_
        refine lv_bipush (v := 16) hx hb dJI_numberOfLeadingZeros_49 (by decide) ?_
        refine lv_icmp_lt (tgt := 61) hx hb dJI_numberOfLeadingZeros_51 (by decide) (fun c_14 => ?_) (fun c_14 => ?_)
        · refine lv_iload_n hx hb dJI_numberOfLeadingZeros_61 rfl (lv_at hl 0 rfl) ?_
          refine lv_iconst (v := 4) hx hb dJI_numberOfLeadingZeros_62 (by decide) ?_
          refine lv_icmp_lt (tgt := 73) hx hb dJI_numberOfLeadingZeros_63 (by decide) (fun c_15 => ?_) (fun c_15 => ?_)
          · refine lv_iload_n hx hb dJI_numberOfLeadingZeros_73 rfl (lv_at hl 1 rfl) ?_
            refine lv_iload_n hx hb dJI_numberOfLeadingZeros_74 rfl (lv_at hl 0 rfl) ?_
            refine lv_iconst (v := 1) hx hb dJI_numberOfLeadingZeros_75 (by decide) ?_
            refine lv_iushr hx hb dJI_numberOfLeadingZeros_76 rfl ?_
            refine lv_isub hx hb dJI_numberOfLeadingZeros_77 ?_
            refine w_asi (y := (f_JI_numberOfLeadingZeros a1)) (by unfold f_JI_numberOfLeadingZeros; rw [if_pos c_1, if_neg c_2, if_neg c_10, if_pos c_14, if_pos c_15]) ?_
            exact W.iret (v := (f_JI_numberOfLeadingZeros a1)) hx hb hr (fun t ht _ => ⟨rfl, ht⟩) (fun _ h => nomatch h) dJI_numberOfLeadingZeros_78
          · refine lv_iinc (v := (((31 + (-16)) + (-8)) + (-2))) (lv' := [(1, .int (((31 + (-16)) + (-8)) + (-2))), (0, .int ((Int32.toUInt32 ((Int32.toUInt32 a1 >>> (Int32.toUInt32 16 &&& Int32.toUInt32 31)).toInt32) >>> (Int32.toUInt32 8 &&& Int32.toUInt32 31)).toInt32))]) hx hb dJI_numberOfLeadingZeros_66 hl (k := 1) rfl rfl (by decide) rfl (fun ls hl => ?_)
            refine lv_iload_n hx hb dJI_numberOfLeadingZeros_69 rfl (lv_at hl 1 rfl) ?_
            refine lv_iconst (v := 2) hx hb dJI_numberOfLeadingZeros_70 (by decide) ?_
            refine lv_iushr hx hb dJI_numberOfLeadingZeros_71 rfl ?_
            refine lv_istore_n (lv' := [(0, .int ((Int32.toUInt32 ((Int32.toUInt32 ((Int32.toUInt32 a1 >>> (Int32.toUInt32 16 &&& Int32.toUInt32 31)).toInt32) >>> (Int32.toUInt32 8 &&& Int32.toUInt32 31)).toInt32) >>> (Int32.toUInt32 2 &&& Int32.toUInt32 31)).toInt32)), (1, .int (((31 + (-16)) + (-8)) + (-2)))]) hx hb dJI_numberOfLeadingZeros_72 rfl hl (by decide) rfl (fun ls hl => ?_)
            refine lv_iload_n hx hb dJI_numberOfLeadingZeros_73 rfl (lv_at hl 1 rfl) ?_
            refine lv_iload_n hx hb dJI_numberOfLeadingZeros_74 rfl (lv_at hl 0 rfl) ?_
            refine lv_iconst (v := 1) hx hb dJI_numberOfLeadingZeros_75 (by decide) ?_
            refine lv_iushr hx hb dJI_numberOfLeadingZeros_76 rfl ?_
            refine lv_isub hx hb dJI_numberOfLeadingZeros_77 ?_
            refine w_asi (y := (f_JI_numberOfLeadingZeros a1)) (by unfold f_JI_numberOfLeadingZeros; rw [if_pos c_1, if_neg c_2, if_neg c_10, if_pos c_14, if_neg c_15]) ?_
            exact W.iret (v := (f_JI_numberOfLeadingZeros a1)) hx hb hr (fun t ht _ => ⟨rfl, ht⟩) (fun _ h => nomatch h) dJI_numberOfLeadingZeros_78
        · refine lv_iinc (v := (((31 + (-16)) + (-8)) + (-4))) (lv' := [(1, .int (((31 + (-16)) + (-8)) + (-4))), (0, .int ((Int32.toUInt32 ((Int32.toUInt32 a1 >>> (Int32.toUInt32 16 &&& Int32.toUInt32 31)).toInt32) >>> (Int32.toUInt32 8 &&& Int32.toUInt32 31)).toInt32))]) hx hb dJI_numberOfLeadingZeros_54 hl (k := 1) rfl rfl (by decide) rfl (fun ls hl => ?_)
          refine lv_iload_n hx hb dJI_numberOfLeadingZeros_57 rfl (lv_at hl 1 rfl) ?_
          refine lv_iconst (v := 4) hx hb dJI_numberOfLeadingZeros_58 (by decide) ?_
          refine lv_iushr hx hb dJI_numberOfLeadingZeros_59 rfl ?_
          refine lv_istore_n (lv' := [(0, .int ((Int32.toUInt32 ((Int32.toUInt32 ((Int32.toUInt32 a1 >>> (Int32.toUInt32 16 &&& Int32.toUInt32 31)).toInt32) >>> (Int32.toUInt32 8 &&& Int32.toUInt32 31)).toInt32) >>> (Int32.toUInt32 4 &&& Int32.toUInt32 31)).toInt32)), (1, .int (((31 + (-16)) + (-8)) + (-4)))]) hx hb dJI_numberOfLeadingZeros_60 rfl hl (by decide) rfl (fun ls hl => ?_)
          refine lv_iload_n hx hb dJI_numberOfLeadingZeros_61 rfl (lv_at hl 0 rfl) ?_
          refine lv_iconst (v := 4) hx hb dJI_numberOfLeadingZeros_62 (by decide) ?_
          refine lv_icmp_lt (tgt := 73) hx hb dJI_numberOfLeadingZeros_63 (by decide) (fun c_16 => ?_) (fun c_16 => ?_)
          · refine lv_iload_n hx hb dJI_numberOfLeadingZeros_73 rfl (lv_at hl 1 rfl) ?_
            refine lv_iload_n hx hb dJI_numberOfLeadingZeros_74 rfl (lv_at hl 0 rfl) ?_
            refine lv_iconst (v := 1) hx hb dJI_numberOfLeadingZeros_75 (by decide) ?_
            refine lv_iushr hx hb dJI_numberOfLeadingZeros_76 rfl ?_
            refine lv_isub hx hb dJI_numberOfLeadingZeros_77 ?_
            refine w_asi (y := (f_JI_numberOfLeadingZeros a1)) (by unfold f_JI_numberOfLeadingZeros; rw [if_pos c_1, if_neg c_2, if_neg c_10, if_neg c_14, if_pos c_16]) ?_
            exact W.iret (v := (f_JI_numberOfLeadingZeros a1)) hx hb hr (fun t ht _ => ⟨rfl, ht⟩) (fun _ h => nomatch h) dJI_numberOfLeadingZeros_78
          · refine lv_iinc (v := ((((31 + (-16)) + (-8)) + (-4)) + (-2))) (lv' := [(1, .int ((((31 + (-16)) + (-8)) + (-4)) + (-2))), (0, .int ((Int32.toUInt32 ((Int32.toUInt32 ((Int32.toUInt32 a1 >>> (Int32.toUInt32 16 &&& Int32.toUInt32 31)).toInt32) >>> (Int32.toUInt32 8 &&& Int32.toUInt32 31)).toInt32) >>> (Int32.toUInt32 4 &&& Int32.toUInt32 31)).toInt32))]) hx hb dJI_numberOfLeadingZeros_66 hl (k := 1) rfl rfl (by decide) rfl (fun ls hl => ?_)
            refine lv_iload_n hx hb dJI_numberOfLeadingZeros_69 rfl (lv_at hl 1 rfl) ?_
            refine lv_iconst (v := 2) hx hb dJI_numberOfLeadingZeros_70 (by decide) ?_
            refine lv_iushr hx hb dJI_numberOfLeadingZeros_71 rfl ?_
            refine lv_istore_n (lv' := [(0, .int ((Int32.toUInt32 ((Int32.toUInt32 ((Int32.toUInt32 ((Int32.toUInt32 a1 >>> (Int32.toUInt32 16 &&& Int32.toUInt32 31)).toInt32) >>> (Int32.toUInt32 8 &&& Int32.toUInt32 31)).toInt32) >>> (Int32.toUInt32 4 &&& Int32.toUInt32 31)).toInt32) >>> (Int32.toUInt32 2 &&& Int32.toUInt32 31)).toInt32)), (1, .int ((((31 + (-16)) + (-8)) + (-4)) + (-2)))]) hx hb dJI_numberOfLeadingZeros_72 rfl hl (by decide) rfl (fun ls hl => ?_)
            refine lv_iload_n hx hb dJI_numberOfLeadingZeros_73 rfl (lv_at hl 1 rfl) ?_
            refine lv_iload_n hx hb dJI_numberOfLeadingZeros_74 rfl (lv_at hl 0 rfl) ?_
            refine lv_iconst (v := 1) hx hb dJI_numberOfLeadingZeros_75 (by decide) ?_
            refine lv_iushr hx hb dJI_numberOfLeadingZeros_76 rfl ?_
            refine lv_isub hx hb dJI_numberOfLeadingZeros_77 ?_
            refine w_asi (y := (f_JI_numberOfLeadingZeros a1)) (by unfold f_JI_numberOfLeadingZeros; rw [if_pos c_1, if_neg c_2, if_neg c_10, if_neg c_14, if_neg c_16]) ?_
            exact W.iret (v := (f_JI_numberOfLeadingZeros a1)) hx hb hr (fun t ht _ => ⟨rfl, ht⟩) (fun _ h => nomatch h) dJI_numberOfLeadingZeros_78
  · refine lv_iload_n hx hb dJI_numberOfLeadingZeros_4 rfl (lv_at hl 0 rfl) ?_
    refine w_join (F0 m 14 ls (.int (if a1 = 0 then 32 else 0) :: [])) ?_ (fun hJ_17 => ?_)
    · refine w_asi (y := (f_JI_numberOfLeadingZeros a1)) (by unfold f_JI_numberOfLeadingZeros; rw [if_neg c_1]) ?_
      exact W.iret (v := (f_JI_numberOfLeadingZeros a1)) hx hb hr (fun t ht _ => ⟨rfl, ht⟩) (fun _ h => nomatch h) dJI_numberOfLeadingZeros_14
    · refine lv_if_ne (tgt := 13) hx hb dJI_numberOfLeadingZeros_5 (by decide) (fun c_18 => ?_) (fun c_18 => ?_)
      · refine lv_iconst (v := 0) hx hb dJI_numberOfLeadingZeros_13 (by decide) ?_
        exact W.eq (by rw [if_neg c_18]) hJ_17
      · refine lv_bipush (v := 32) hx hb dJI_numberOfLeadingZeros_8 (by decide) ?_
        refine lv_goto (tgt := 14) hx hb dJI_numberOfLeadingZeros_10 (by decide) ?_
        exact W.eq (by rw [if_pos c_18]) hJ_17
def f_JL_numberOfLeadingZeros (a1 : Int64) : Int32 :=
  (if (Int64.toInt32 ((Int64.toUInt64 a1 >>> ((Int32.toInt64 32).toUInt64 &&& Int64.toUInt64 63)).toInt64)) = 0 then (32 + (f_JI_numberOfLeadingZeros (Int64.toInt32 a1))) else (f_JI_numberOfLeadingZeros (Int64.toInt32 ((Int64.toUInt64 a1 >>> ((Int32.toInt64 32).toUInt64 &&& Int64.toUInt64 63)).toInt64))))
set_option maxHeartbeats 4000000 in
set_option maxRecDepth 100000 in
theorem c_JL_numberOfLeadingZeros (l : Launch) (a1 : Int64) : Met l yJL_numberOfLeadingZeros wsJL_numberOfLeadingZeros ({ frames := 1, cells := 0, slots := 0, locals := 21 }) (va_Pc [.long a1] (fun _ => True)) (k2_QcV (.int (f_JL_numberOfLeadingZeros a1))) 0 0 (fun _ => False) := by
  refine va_MetF (cc := cJL_numberOfLeadingZeros) (maxL := 3) (ret := (some .int)) (by decide) rfl ?_
  intro p e s m args below meth c s₁ B hml hv
  obtain ⟨rfl, -⟩ := hv
  have hx := B.exec
  have hb := B.bytes
  have hr := B.returns
  have hts := atoms_spec (ws := wsJL_numberOfLeadingZeros) B.pre
  have hown : s.vm.findClass RJL = some m.cls := findClass_of_methodNamed B.named
  have hlocks := B.notSynchronized
  have hl := lv_entry ([.long a1]) (n := 3) (Nat.le_of_ble_eq_true rfl)
  rw [lg_entry_eq]
  generalize (lg_sl ([.long a1]) ++ List.replicate (3 - (lg_sl ([.long a1])).length) Slot.unset).toArray = ls at hl ⊢
  have hl : lv_has ls 3 [(0, .long a1)] := hl
  refine lv_lload_n hx hb dJL_numberOfLeadingZeros_0 rfl (lv_at hl 0 rfl) ?_
  refine lv_bipush (v := 32) hx hb dJL_numberOfLeadingZeros_1 (by decide) ?_
  refine lv_lushr hx hb dJL_numberOfLeadingZeros_3 rfl ?_
  refine lv_l2i hx hb dJL_numberOfLeadingZeros_4 rfl ?_
  refine lv_istore_n (lv' := [(2, .int (Int64.toInt32 ((Int64.toUInt64 a1 >>> ((Int32.toInt64 32).toUInt64 &&& Int64.toUInt64 63)).toInt64))), (0, .long a1)]) hx hb dJL_numberOfLeadingZeros_5 rfl hl (by decide) rfl (fun ls hl => ?_)
  refine lv_iload_n hx hb dJL_numberOfLeadingZeros_6 rfl (lv_at hl 0 rfl) ?_
  refine w_join (F0 m 25 ls (.int (if (Int64.toInt32 ((Int64.toUInt64 a1 >>> ((Int32.toInt64 32).toUInt64 &&& Int64.toUInt64 63)).toInt64)) = 0 then (32 + (f_JI_numberOfLeadingZeros (Int64.toInt32 a1))) else (f_JI_numberOfLeadingZeros (Int64.toInt32 ((Int64.toUInt64 a1 >>> ((Int32.toInt64 32).toUInt64 &&& Int64.toUInt64 63)).toInt64)))) :: [])) ?_ (fun hJ_1 => ?_)
  · refine w_asi (y := (f_JL_numberOfLeadingZeros a1)) (by unfold f_JL_numberOfLeadingZeros; rfl) ?_
    exact W.iret (v := (f_JL_numberOfLeadingZeros a1)) hx hb hr (fun t ht _ => ⟨rfl, ht⟩) (fun _ h => nomatch h) dJL_numberOfLeadingZeros_25
  · refine lv_if_ne (tgt := 21) hx hb dJL_numberOfLeadingZeros_7 (by decide) (fun c_2 => ?_) (fun c_2 => ?_)
    · refine lv_iload_n hx hb dJL_numberOfLeadingZeros_21 rfl (lv_at hl 0 rfl) ?_
      refine W.callV (r := .int (f_JI_numberOfLeadingZeros (Int64.toInt32 ((Int64.toUInt64 a1 >>> ((Int32.toInt64 32).toUInt64 &&& Int64.toUInt64 63)).toInt64)))) (W.runS (As := [.int (Int64.toInt32 ((Int64.toUInt64 a1 >>> ((Int32.toInt64 32).toUInt64 &&& Int64.toUInt64 63)).toInt64))]) (rest := []) ⟨hx, hb, hml, hown, hts⟩ (c_JI_numberOfLeadingZeros l (Int64.toInt32 ((Int64.toUInt64 a1 >>> ((Int32.toInt64 32).toUInt64 &&& Int64.toUInt64 63)).toInt64)) ) (va_cwS 1 hts gJL_numberOfLeadingZeros_JI_numberOfLeadingZeros rfl rfl rfl (by decide +kernel) ⟨Nat.le_of_ble_eq_true rfl, Nat.le_of_ble_eq_true rfl⟩) pu_pre rfl rfl hl.1 rfl (lv_room (Nat.le_of_ble_eq_true rfl)) dJL_numberOfLeadingZeros_22 ⟨Nat.zero_le _, Nat.zero_le _⟩) ?_
      refine W.eq (g2 := F0 m 25 ls ([.int (f_JI_numberOfLeadingZeros (Int64.toInt32 ((Int64.toUInt64 a1 >>> ((Int32.toInt64 32).toUInt64 &&& Int64.toUInt64 63)).toInt64)))])) rfl ?_
      exact W.eq (by rw [if_neg c_2]) hJ_1
    · refine lv_bipush (v := 32) hx hb dJL_numberOfLeadingZeros_10 (by decide) ?_
      refine lv_lload_n hx hb dJL_numberOfLeadingZeros_12 rfl (lv_at hl 1 rfl) ?_
      refine lv_l2i hx hb dJL_numberOfLeadingZeros_13 rfl ?_
      refine W.callV (r := .int (f_JI_numberOfLeadingZeros (Int64.toInt32 a1))) (W.runS (As := [.int (Int64.toInt32 a1)]) (rest := [.int 32]) ⟨hx, hb, hml, hown, hts⟩ (c_JI_numberOfLeadingZeros l (Int64.toInt32 a1) ) (va_cwS 1 hts gJL_numberOfLeadingZeros_JI_numberOfLeadingZeros rfl rfl rfl (by decide +kernel) ⟨Nat.le_of_ble_eq_true rfl, Nat.le_of_ble_eq_true rfl⟩) pu_pre rfl rfl hl.1 rfl (lv_room (Nat.le_of_ble_eq_true rfl)) dJL_numberOfLeadingZeros_14 ⟨Nat.zero_le _, Nat.zero_le _⟩) ?_
      refine W.eq (g2 := F0 m 17 ls ([.int (f_JI_numberOfLeadingZeros (Int64.toInt32 a1)), .int 32])) rfl ?_
      refine lv_iadd hx hb dJL_numberOfLeadingZeros_17 ?_
      refine lv_goto (tgt := 25) hx hb dJL_numberOfLeadingZeros_18 (by decide) ?_
      exact W.eq (by rw [if_pos c_2]) hJ_1
def f_JL_compare (a1 : Int64) (a2 : Int64) : Int32 :=
  (if 0 ≤ (lg_cmp a1 a2) then (if (lg_cmp a1 a2) = 0 then 0 else 1) else (-1))
set_option maxHeartbeats 4000000 in
set_option maxRecDepth 100000 in
theorem c_JL_compare (l : Launch) (a1 : Int64) (a2 : Int64) : Met l yJL_compare wsJL_compare ({ frames := 0, cells := 0, slots := 0, locals := 0 }) (va_Pc [.long a1, .long a2] (fun _ => True)) (k2_QcV (.int (f_JL_compare a1 a2))) 0 0 (fun _ => False) := by
  refine va_MetF (cc := cJL_compare) (maxL := 4) (ret := (some .int)) (by decide) rfl ?_
  intro p e s m args below meth c s₁ B hml hv
  obtain ⟨rfl, -⟩ := hv
  have hx := B.exec
  have hb := B.bytes
  have hr := B.returns
  have hts := atoms_spec (ws := wsJL_compare) B.pre
  have hown : s.vm.findClass RJL = some m.cls := findClass_of_methodNamed B.named
  have hlocks := B.notSynchronized
  have hl := lv_entry ([.long a1, .long a2]) (n := 4) (Nat.le_of_ble_eq_true rfl)
  rw [lg_entry_eq]
  generalize (lg_sl ([.long a1, .long a2]) ++ List.replicate (4 - (lg_sl ([.long a1, .long a2])).length) Slot.unset).toArray = ls at hl ⊢
  have hl : lv_has ls 4 [(0, .long a1), (2, .long a2)] := hl
  refine lv_lload_n hx hb dJL_compare_0 rfl (lv_at hl 0 rfl) ?_
  refine lv_lload_n hx hb dJL_compare_1 rfl (lv_at hl 1 rfl) ?_
  refine W.lcmp hx hb dJL_compare_2 ?_
  refine w_join (F0 m 21 ls (.int (if 0 ≤ (lg_cmp a1 a2) then (if (lg_cmp a1 a2) = 0 then 0 else 1) else (-1)) :: [])) ?_ (fun hJ_1 => ?_)
  · refine w_asi (y := (f_JL_compare a1 a2)) (by unfold f_JL_compare; rfl) ?_
    exact W.iret (v := (f_JL_compare a1 a2)) hx hb hr (fun t ht _ => ⟨rfl, ht⟩) (fun _ h => nomatch h) dJL_compare_21
  · refine lv_if_ge (tgt := 10) hx hb dJL_compare_3 (by decide) (fun c_2 => ?_) (fun c_2 => ?_)
    · refine lv_lload_n hx hb dJL_compare_10 rfl (lv_at hl 0 rfl) ?_
      refine lv_lload_n hx hb dJL_compare_11 rfl (lv_at hl 1 rfl) ?_
      refine W.lcmp hx hb dJL_compare_12 ?_
      refine lv_if_ne (tgt := 20) hx hb dJL_compare_13 (by decide) (fun c_3 => ?_) (fun c_3 => ?_)
      · refine lv_iconst (v := 1) hx hb dJL_compare_20 (by decide) ?_
        exact W.eq (by rw [if_pos c_2, if_neg c_3]) hJ_1
      · refine lv_iconst (v := 0) hx hb dJL_compare_16 (by decide) ?_
        refine lv_goto (tgt := 21) hx hb dJL_compare_17 (by decide) ?_
        exact W.eq (by rw [if_pos c_2, if_pos c_3]) hJ_1
    · refine lv_iconst (v := (-1)) hx hb dJL_compare_6 (by decide) ?_
      refine lv_goto (tgt := 21) hx hb dJL_compare_7 (by decide) ?_
      exact W.eq (by rw [if_neg c_2]) hJ_1
def f_JL_compareUnsigned (a1 : Int64) (a2 : Int64) : Int32 :=
  (f_JL_compare (a1 + (-9223372036854775808)) (a2 + (-9223372036854775808)))
set_option maxHeartbeats 4000000 in
set_option maxRecDepth 100000 in
theorem c_JL_compareUnsigned (l : Launch) (a1 : Int64) (a2 : Int64) : Met l yJL_compareUnsigned wsJL_compareUnsigned ({ frames := 1, cells := 0, slots := 0, locals := 23 }) (va_Pc [.long a1, .long a2] (fun _ => True)) (k2_QcV (.int (f_JL_compareUnsigned a1 a2))) 0 0 (fun _ => False) := by
  refine va_MetF (cc := cJL_compareUnsigned) (maxL := 4) (ret := (some .int)) (by decide) rfl ?_
  intro p e s m args below meth c s₁ B hml hv
  obtain ⟨rfl, -⟩ := hv
  have hx := B.exec
  have hb := B.bytes
  have hr := B.returns
  have hts := atoms_spec (ws := wsJL_compareUnsigned) B.pre
  have hown : s.vm.findClass RJL = some m.cls := findClass_of_methodNamed B.named
  have hlocks := B.notSynchronized
  have hl := lv_entry ([.long a1, .long a2]) (n := 4) (Nat.le_of_ble_eq_true rfl)
  rw [lg_entry_eq]
  generalize (lg_sl ([.long a1, .long a2]) ++ List.replicate (4 - (lg_sl ([.long a1, .long a2])).length) Slot.unset).toArray = ls at hl ⊢
  have hl : lv_has ls 4 [(0, .long a1), (2, .long a2)] := hl
  refine lv_lload_n hx hb dJL_compareUnsigned_0 rfl (lv_at hl 0 rfl) ?_
  refine lv_ldc2 (v := (-9223372036854775808)) hx hb hown (hts (.constantLong RJL 168 (-9223372036854775808)) (by decide +kernel)) dJL_compareUnsigned_1 ?_
  refine lv_ladd hx hb dJL_compareUnsigned_4 ?_
  refine lv_lload_n hx hb dJL_compareUnsigned_5 rfl (lv_at hl 1 rfl) ?_
  refine lv_ldc2 (v := (-9223372036854775808)) hx hb hown (hts (.constantLong RJL 168 (-9223372036854775808)) (by decide +kernel)) dJL_compareUnsigned_6 ?_
  refine lv_ladd hx hb dJL_compareUnsigned_9 ?_
  refine W.callV (r := .int (f_JL_compare (a1 + (-9223372036854775808)) (a2 + (-9223372036854775808)))) (W.runS (As := [.long (a1 + (-9223372036854775808)), .long (a2 + (-9223372036854775808))]) (rest := []) ⟨hx, hb, hml, hown, hts⟩ (c_JL_compare l (a1 + (-9223372036854775808)) (a2 + (-9223372036854775808)) ) (va_cwS 2 hts gJL_compareUnsigned_JL_compare rfl rfl rfl (by decide +kernel) ⟨Nat.le_of_ble_eq_true rfl, Nat.le_of_ble_eq_true rfl⟩) pu_pre rfl rfl hl.1 rfl (lv_room (Nat.le_of_ble_eq_true rfl)) dJL_compareUnsigned_10 ⟨Nat.zero_le _, Nat.zero_le _⟩) ?_
  refine W.eq (g2 := F0 m 13 ls ([.int (f_JL_compare (a1 + (-9223372036854775808)) (a2 + (-9223372036854775808)))])) rfl ?_
  refine w_asi (y := (f_JL_compareUnsigned a1 a2)) (by unfold f_JL_compareUnsigned; rfl) ?_
  exact W.iret (v := (f_JL_compareUnsigned a1 a2)) hx hb hr (fun t ht _ => ⟨rfl, ht⟩) (fun _ h => nomatch h) dJL_compareUnsigned_13
def f_JI_signum (a1 : Int32) : Int32 :=
  ((a1 >>> (31 &&& 31)) ||| ((Int32.toUInt32 (-a1) >>> (Int32.toUInt32 31 &&& Int32.toUInt32 31)).toInt32))
set_option maxHeartbeats 4000000 in
set_option maxRecDepth 100000 in
theorem c_JI_signum (l : Launch) (a1 : Int32) : Met l yJI_signum wsJI_signum ({ frames := 0, cells := 0, slots := 0, locals := 0 }) (va_Pc [.int a1] (fun _ => True)) (k2_QcV (.int (f_JI_signum a1))) 0 0 (fun _ => False) := by
  refine va_MetF (cc := cJI_signum) (maxL := 1) (ret := (some .int)) (by decide) rfl ?_
  intro p e s m args below meth c s₁ B hml hv
  obtain ⟨rfl, -⟩ := hv
  have hx := B.exec
  have hb := B.bytes
  have hr := B.returns
  have hts := atoms_spec (ws := wsJI_signum) B.pre
  have hown : s.vm.findClass RJI = some m.cls := findClass_of_methodNamed B.named
  have hlocks := B.notSynchronized
  have hl := lv_entry ([.int a1]) (n := 1) (Nat.le_of_ble_eq_true rfl)
  rw [lg_entry_eq]
  generalize (lg_sl ([.int a1]) ++ List.replicate (1 - (lg_sl ([.int a1])).length) Slot.unset).toArray = ls at hl ⊢
  have hl : lv_has ls 1 [(0, .int a1)] := hl
  refine lv_iload_n hx hb dJI_signum_0 rfl (lv_at hl 0 rfl) ?_
  refine lv_bipush (v := 31) hx hb dJI_signum_1 (by decide) ?_
  refine lv_ishr hx hb dJI_signum_3 ?_
  refine lv_iload_n hx hb dJI_signum_4 rfl (lv_at hl 0 rfl) ?_
  refine lv_ineg hx hb dJI_signum_5 ?_
  refine lv_bipush (v := 31) hx hb dJI_signum_6 (by decide) ?_
  refine lv_iushr hx hb dJI_signum_8 rfl ?_
  refine lv_ior hx hb dJI_signum_9 ?_
  refine w_asi (y := (f_JI_signum a1)) (by unfold f_JI_signum; rfl) ?_
  exact W.iret (v := (f_JI_signum a1)) hx hb hr (fun t ht _ => ⟨rfl, ht⟩) (fun _ h => nomatch h) dJI_signum_10
end
section
def f_X0_isNoRegister (a1 : Int32) : Int32 :=
  (if a1 < 0 then 1 else (if a1 < 8 then 0 else 1))
theorem nb_X0_isNoRegister (a1 : Int32) : narrow .boolean (.int (f_X0_isNoRegister a1)) = .int (f_X0_isNoRegister a1) := by
  unfold f_X0_isNoRegister
  (repeat' split) <;> first | rfl
set_option maxHeartbeats 4000000 in
set_option maxRecDepth 100000 in
theorem c_X0_isNoRegister (l : Launch) (a1 : Int32) : Met l yX0_isNoRegister wsX0_isNoRegister ({ frames := 0, cells := 0, slots := 0, locals := 0 }) (va_Pc [.int a1] (fun _ => True)) (k2_QcV (.int (f_X0_isNoRegister a1))) 0 0 (fun _ => False) := by
  refine Met.ofW (cc := cX0_isNoRegister) (maxL := 1) (ret := (some .boolean)) (by decide) rfl ?_
  intro p e s m args below meth c s₁ B hml hv
  obtain ⟨rfl, -⟩ := hv
  have hx := B.exec
  have hb := B.bytes
  have hr := B.returns
  have hts := atoms_spec (ws := wsX0_isNoRegister) B.pre
  have hown : s.vm.findClass RX0 = some m.cls := findClass_of_methodNamed B.named
  have hlocks := B.notSynchronized
  have hl := lv_entry ([.int a1]) (n := 1) (Nat.le_of_ble_eq_true rfl)
  rw [lg_entry_eq]
  generalize (lg_sl ([.int a1]) ++ List.replicate (1 - (lg_sl ([.int a1])).length) Slot.unset).toArray = ls at hl ⊢
  have hl : lv_has ls 1 [(0, .int a1)] := hl
  refine lv_iload_n hx hb dX0_isNoRegister_0 rfl (lv_at hl 0 rfl) ?_
  refine w_join (F0 m 15 ls (.int (if a1 < 0 then 1 else (if a1 < 8 then 0 else 1)) :: [])) ?_ (fun hJ_1 => ?_)
  · refine w_asi (y := (f_X0_isNoRegister a1)) (by unfold f_X0_isNoRegister; rfl) ?_
    exact W.zret (v := (f_X0_isNoRegister a1)) (ty := .boolean) hx hb hr (nb_X0_isNoRegister ..) (fun t ht _ => ⟨rfl, ht⟩) (fun _ h => nomatch h) dX0_isNoRegister_15
  · refine lv_if_lt (tgt := 10) hx hb dX0_isNoRegister_1 (by decide) (fun c_2 => ?_) (fun c_2 => ?_)
    · refine lv_iconst (v := 1) hx hb dX0_isNoRegister_10 (by decide) ?_
      refine lv_goto (tgt := 15) hx hb dX0_isNoRegister_11 (by decide) ?_
      exact W.eq (by rw [if_pos c_2]) hJ_1
    · refine lv_iload_n hx hb dX0_isNoRegister_4 rfl (lv_at hl 0 rfl) ?_
      refine lv_bipush (v := 8) hx hb dX0_isNoRegister_5 (by decide) ?_
      refine lv_icmp_lt (tgt := 14) hx hb dX0_isNoRegister_7 (by decide) (fun c_3 => ?_) (fun c_3 => ?_)
      · refine lv_iconst (v := 0) hx hb dX0_isNoRegister_14 (by decide) ?_
        exact W.eq (by rw [if_neg c_2, if_pos c_3]) hJ_1
      · refine lv_iconst (v := 1) hx hb dX0_isNoRegister_10 (by decide) ?_
        refine lv_goto (tgt := 15) hx hb dX0_isNoRegister_11 (by decide) ?_
        exact W.eq (by rw [if_neg c_2, if_neg c_3]) hJ_1
theorem x_reg {r : Int32} (h : f_X0_isNoRegister r = 0) : vp_in r 8 := by
  unfold f_X0_isNoRegister at h
  unfold vp_in
  by_cases c1 : r < 0
  · rw [if_pos c1] at h; exact absurd h (by decide)
  · rw [if_neg c1] at h
    by_cases c2 : r < 8
    · rintro (h3 | h3)
      · exact c1 h3
      · obtain ⟨j, hj, rfl⟩ := nI_of c1
        rw [nI_clamp hj] at h3
        exact nI_nlt h3 hj c2
    · rw [if_neg c2] at h; exact absurd h (by decide)
theorem x_regA {r : Int32} {X : Bool} (h : ¬ (if f_X0_isNoRegister r = 0 then X else true) = true) : vp_in r 8 := by
  by_cases c : f_X0_isNoRegister r = 0
  · exact x_reg c
  · rw [if_neg c] at h; exact absurd rfl h
theorem x_regB {r : Int32} {C : Prop} [Decidable C] (h : ¬ (if C then (if f_X0_isNoRegister r = 0 then false else true) else true) = true) : vp_in r 8 := by
  by_cases c1 : C
  · rw [if_pos c1] at h
    by_cases c : f_X0_isNoRegister r = 0
    · exact x_reg c
    · rw [if_neg c] at h; exact absurd rfl h
  · rw [if_neg c1] at h; exact absurd rfl h
def f_X0_hasMoreThan16Bits (a1 : Int32) : Int32 :=
  (if a1 < 0 then 1 else (if a1 ≤ 65535 then 0 else 1))
theorem nb_X0_hasMoreThan16Bits (a1 : Int32) : narrow .boolean (.int (f_X0_hasMoreThan16Bits a1)) = .int (f_X0_hasMoreThan16Bits a1) := by
  unfold f_X0_hasMoreThan16Bits
  (repeat' split) <;> first | rfl
set_option maxHeartbeats 4000000 in
set_option maxRecDepth 100000 in
theorem c_X0_hasMoreThan16Bits (l : Launch) (a1 : Int32) : Met l yX0_hasMoreThan16Bits wsX0_hasMoreThan16Bits ({ frames := 0, cells := 0, slots := 0, locals := 0 }) (va_Pc [.int a1] (fun _ => True)) (k2_QcV (.int (f_X0_hasMoreThan16Bits a1))) 0 0 (fun _ => False) := by
  refine Met.ofW (cc := cX0_hasMoreThan16Bits) (maxL := 1) (ret := (some .boolean)) (by decide) rfl ?_
  intro p e s m args below meth c s₁ B hml hv
  obtain ⟨rfl, -⟩ := hv
  have hx := B.exec
  have hb := B.bytes
  have hr := B.returns
  have hts := atoms_spec (ws := wsX0_hasMoreThan16Bits) B.pre
  have hown : s.vm.findClass RX0 = some m.cls := findClass_of_methodNamed B.named
  have hlocks := B.notSynchronized
  have hl := lv_entry ([.int a1]) (n := 1) (Nat.le_of_ble_eq_true rfl)
  rw [lg_entry_eq]
  generalize (lg_sl ([.int a1]) ++ List.replicate (1 - (lg_sl ([.int a1])).length) Slot.unset).toArray = ls at hl ⊢
  have hl : lv_has ls 1 [(0, .int a1)] := hl
  refine lv_iload_n hx hb dX0_hasMoreThan16Bits_0 rfl (lv_at hl 0 rfl) ?_
  refine w_join (F0 m 15 ls (.int (if a1 < 0 then 1 else (if a1 ≤ 65535 then 0 else 1)) :: [])) ?_ (fun hJ_1 => ?_)
  · refine w_asi (y := (f_X0_hasMoreThan16Bits a1)) (by unfold f_X0_hasMoreThan16Bits; rfl) ?_
    exact W.zret (v := (f_X0_hasMoreThan16Bits a1)) (ty := .boolean) hx hb hr (nb_X0_hasMoreThan16Bits ..) (fun t ht _ => ⟨rfl, ht⟩) (fun _ h => nomatch h) dX0_hasMoreThan16Bits_15
  · refine lv_if_lt (tgt := 10) hx hb dX0_hasMoreThan16Bits_1 (by decide) (fun c_2 => ?_) (fun c_2 => ?_)
    · refine lv_iconst (v := 1) hx hb dX0_hasMoreThan16Bits_10 (by decide) ?_
      refine lv_goto (tgt := 15) hx hb dX0_hasMoreThan16Bits_11 (by decide) ?_
      exact W.eq (by rw [if_pos c_2]) hJ_1
    · refine lv_iload_n hx hb dX0_hasMoreThan16Bits_4 rfl (lv_at hl 0 rfl) ?_
      refine lv_ldc (v := 65535) hx hb hown (hts (.constant RX0 126 65535) (by decide +kernel)) dX0_hasMoreThan16Bits_5 ?_
      refine lv_icmp_le (tgt := 14) hx hb dX0_hasMoreThan16Bits_7 (by decide) (fun c_3 => ?_) (fun c_3 => ?_)
      · refine lv_iconst (v := 0) hx hb dX0_hasMoreThan16Bits_14 (by decide) ?_
        exact W.eq (by rw [if_neg c_2, if_pos c_3]) hJ_1
      · refine lv_iconst (v := 1) hx hb dX0_hasMoreThan16Bits_10 (by decide) ?_
        refine lv_goto (tgt := 15) hx hb dX0_hasMoreThan16Bits_11 (by decide) ?_
        exact W.eq (by rw [if_neg c_2, if_neg c_3]) hJ_1
def f_X0_join (a1 : Int32) (a2 : Int32) : Int64 :=
  (((Int32.toInt64 a1) <<< (Int32.toInt64 32 &&& 63)) ||| ((Int32.toInt64 a2) &&& 4294967295))
set_option maxHeartbeats 4000000 in
set_option maxRecDepth 100000 in
theorem c_X0_join (l : Launch) (a1 : Int32) (a2 : Int32) : Met l yX0_join wsX0_join ({ frames := 0, cells := 0, slots := 0, locals := 0 }) (va_Pc [.int a1, .int a2] (fun _ => True)) (k2_QcV (.long (f_X0_join a1 a2))) 0 0 (fun _ => False) := by
  refine Met.ofW (cc := cX0_join) (maxL := 2) (ret := (some .long)) (by decide) rfl ?_
  intro p e s m args below meth c s₁ B hml hv
  obtain ⟨rfl, -⟩ := hv
  have hx := B.exec
  have hb := B.bytes
  have hr := B.returns
  have hts := atoms_spec (ws := wsX0_join) B.pre
  have hown : s.vm.findClass RX0 = some m.cls := findClass_of_methodNamed B.named
  have hlocks := B.notSynchronized
  have hl := lv_entry ([.int a1, .int a2]) (n := 2) (Nat.le_of_ble_eq_true rfl)
  rw [lg_entry_eq]
  generalize (lg_sl ([.int a1, .int a2]) ++ List.replicate (2 - (lg_sl ([.int a1, .int a2])).length) Slot.unset).toArray = ls at hl ⊢
  have hl : lv_has ls 2 [(0, .int a1), (1, .int a2)] := hl
  refine lv_iload_n hx hb dX0_join_0 rfl (lv_at hl 0 rfl) ?_
  refine lv_i2l hx hb dX0_join_1 rfl ?_
  refine lv_bipush (v := 32) hx hb dX0_join_2 (by decide) ?_
  refine lv_lshl hx hb dX0_join_4 rfl ?_
  refine lv_iload_n hx hb dX0_join_5 rfl (lv_at hl 1 rfl) ?_
  refine lv_i2l hx hb dX0_join_6 rfl ?_
  refine lv_ldc2 (v := 4294967295) hx hb hown (hts (.constantLong RX0 127 4294967295) (by decide +kernel)) dX0_join_7 ?_
  refine lv_land hx hb dX0_join_10 ?_
  refine lv_lor hx hb dX0_join_11 ?_
  refine w_asl (y := (f_X0_join a1 a2)) (by unfold f_X0_join; rfl) ?_
  exact W.lret (v := (f_X0_join a1 a2)) hx hb hr (fun t ht _ => ⟨rfl, ht⟩) (fun _ h => nomatch h) dX0_join_12
def f_X0_shiftIn (a1 : Int64) (a2 : Int64) (a3 : Int32) : Int64 :=
  if 0 < a3 then
    if a3 < 64 then
      ((a1 <<< (Int32.toInt64 a3 &&& 63)) ||| ((Int64.toUInt64 a2 >>> ((Int32.toInt64 (64 - a3)).toUInt64 &&& Int64.toUInt64 63)).toInt64))
    else
      a2
  else
    a1
set_option maxHeartbeats 4000000 in
set_option maxRecDepth 100000 in
theorem c_X0_shiftIn (l : Launch) (a1 : Int64) (a2 : Int64) (a3 : Int32) : Met l yX0_shiftIn wsX0_shiftIn ({ frames := 0, cells := 0, slots := 0, locals := 0 }) (va_Pc [.long a1, .long a2, .int a3] (fun _ => True)) (k2_QcV (.long (f_X0_shiftIn a1 a2 a3))) 0 0 (fun _ => False) := by
  refine Met.ofW (cc := cX0_shiftIn) (maxL := 5) (ret := (some .long)) (by decide) rfl ?_
  intro p e s m args below meth c s₁ B hml hv
  obtain ⟨rfl, -⟩ := hv
  have hx := B.exec
  have hb := B.bytes
  have hr := B.returns
  have hts := atoms_spec (ws := wsX0_shiftIn) B.pre
  have hown : s.vm.findClass RX0 = some m.cls := findClass_of_methodNamed B.named
  have hlocks := B.notSynchronized
  have hl := lv_entry ([.long a1, .long a2, .int a3]) (n := 5) (Nat.le_of_ble_eq_true rfl)
  rw [lg_entry_eq]
  generalize (lg_sl ([.long a1, .long a2, .int a3]) ++ List.replicate (5 - (lg_sl ([.long a1, .long a2, .int a3])).length) Slot.unset).toArray = ls at hl ⊢
  have hl : lv_has ls 5 [(0, .long a1), (2, .long a2), (4, .int a3)] := hl
  refine lv_iload hx hb dX0_shiftIn_0 (lv_at hl 2 rfl) ?_
  refine lv_if_gt (tgt := 7) hx hb dX0_shiftIn_2 (by decide) (fun c_1 => ?_) (fun c_1 => ?_)
  · refine lv_iload hx hb dX0_shiftIn_7 (lv_at hl 2 rfl) ?_
    refine lv_bipush (v := 64) hx hb dX0_shiftIn_9 (by decide) ?_
    refine lv_icmp_lt (tgt := 16) hx hb dX0_shiftIn_11 (by decide) (fun c_2 => ?_) (fun c_2 => ?_)
    · refine lv_lload_n hx hb dX0_shiftIn_16 rfl (lv_at hl 0 rfl) ?_
      refine lv_iload hx hb dX0_shiftIn_17 (lv_at hl 2 rfl) ?_
      refine lv_lshl hx hb dX0_shiftIn_19 rfl ?_
      refine lv_lload_n hx hb dX0_shiftIn_20 rfl (lv_at hl 1 rfl) ?_
      refine lv_bipush (v := 64) hx hb dX0_shiftIn_21 (by decide) ?_
      refine lv_iload hx hb dX0_shiftIn_23 (lv_at hl 2 rfl) ?_
      refine lv_isub hx hb dX0_shiftIn_25 ?_
      refine lv_lushr hx hb dX0_shiftIn_26 rfl ?_
      refine lv_lor hx hb dX0_shiftIn_27 ?_
      refine w_asl (y := (f_X0_shiftIn a1 a2 a3)) (by unfold f_X0_shiftIn; rw [if_pos c_1, if_pos c_2]) ?_
      exact W.lret (v := (f_X0_shiftIn a1 a2 a3)) hx hb hr (fun t ht _ => ⟨rfl, ht⟩) (fun _ h => nomatch h) dX0_shiftIn_28
    · refine lv_lload_n hx hb dX0_shiftIn_14 rfl (lv_at hl 1 rfl) ?_
      refine w_asl (y := (f_X0_shiftIn a1 a2 a3)) (by unfold f_X0_shiftIn; rw [if_pos c_1, if_neg c_2]) ?_
      exact W.lret (v := (f_X0_shiftIn a1 a2 a3)) hx hb hr (fun t ht _ => ⟨rfl, ht⟩) (fun _ h => nomatch h) dX0_shiftIn_15
  · refine lv_lload_n hx hb dX0_shiftIn_5 rfl (lv_at hl 0 rfl) ?_
    refine w_asl (y := (f_X0_shiftIn a1 a2 a3)) (by unfold f_X0_shiftIn; rw [if_neg c_1]) ?_
    exact W.lret (v := (f_X0_shiftIn a1 a2 a3)) hx hb hr (fun t ht _ => ⟨rfl, ht⟩) (fun _ h => nomatch h) dX0_shiftIn_6
def f_X0_wholePart (a1 : Int64) (a2 : Int32) : Int64 :=
  (if a2 < 64 then (Int64.toUInt64 a1 >>> ((Int32.toInt64 a2).toUInt64 &&& Int64.toUInt64 63)).toInt64 else 0)
set_option maxHeartbeats 4000000 in
set_option maxRecDepth 100000 in
theorem c_X0_wholePart (l : Launch) (a1 : Int64) (a2 : Int32) : Met l yX0_wholePart wsX0_wholePart ({ frames := 0, cells := 0, slots := 0, locals := 0 }) (va_Pc [.long a1, .int a2] (fun _ => True)) (k2_QcV (.long (f_X0_wholePart a1 a2))) 0 0 (fun _ => False) := by
  refine Met.ofW (cc := cX0_wholePart) (maxL := 3) (ret := (some .long)) (by decide) rfl ?_
  intro p e s m args below meth c s₁ B hml hv
  obtain ⟨rfl, -⟩ := hv
  have hx := B.exec
  have hb := B.bytes
  have hr := B.returns
  have hts := atoms_spec (ws := wsX0_wholePart) B.pre
  have hown : s.vm.findClass RX0 = some m.cls := findClass_of_methodNamed B.named
  have hlocks := B.notSynchronized
  have hl := lv_entry ([.long a1, .int a2]) (n := 3) (Nat.le_of_ble_eq_true rfl)
  rw [lg_entry_eq]
  generalize (lg_sl ([.long a1, .int a2]) ++ List.replicate (3 - (lg_sl ([.long a1, .int a2])).length) Slot.unset).toArray = ls at hl ⊢
  have hl : lv_has ls 3 [(0, .long a1), (2, .int a2)] := hl
  refine lv_iload_n hx hb dX0_wholePart_0 rfl (lv_at hl 1 rfl) ?_
  refine lv_bipush (v := 64) hx hb dX0_wholePart_1 (by decide) ?_
  refine w_join (F0 m 13 ls (.long (if a2 < 64 then (Int64.toUInt64 a1 >>> ((Int32.toInt64 a2).toUInt64 &&& Int64.toUInt64 63)).toInt64 else 0) :: [])) ?_ (fun hJ_1 => ?_)
  · refine w_asl (y := (f_X0_wholePart a1 a2)) (by unfold f_X0_wholePart; rfl) ?_
    exact W.lret (v := (f_X0_wholePart a1 a2)) hx hb hr (fun t ht _ => ⟨rfl, ht⟩) (fun _ h => nomatch h) dX0_wholePart_13
  · refine lv_icmp_lt (tgt := 10) hx hb dX0_wholePart_3 (by decide) (fun c_2 => ?_) (fun c_2 => ?_)
    · refine lv_lload_n hx hb dX0_wholePart_10 rfl (lv_at hl 0 rfl) ?_
      refine lv_iload_n hx hb dX0_wholePart_11 rfl (lv_at hl 1 rfl) ?_
      refine lv_lushr hx hb dX0_wholePart_12 rfl ?_
      exact W.eq (by rw [if_pos c_2]) hJ_1
    · refine lv_lconst (v := 0) hx hb dX0_wholePart_6 (by decide) ?_
      refine lv_goto (tgt := 13) hx hb dX0_wholePart_7 (by decide) ?_
      exact W.eq (by rw [if_neg c_2]) hJ_1
def f_X0_lostPart (a1 : Int64) (a2 : Int64) (a3 : Int32) : Int64 :=
  if 0 < a3 then
    if a3 ≤ 64 then
      (if (lg_cmp a2 0) = 0 then (a1 <<< (Int32.toInt64 (64 - a3) &&& 63)) else ((a1 <<< (Int32.toInt64 (64 - a3) &&& 63)) ||| 1))
    else
      1
  else
    a2
set_option maxHeartbeats 4000000 in
set_option maxRecDepth 100000 in
theorem c_X0_lostPart (l : Launch) (a1 : Int64) (a2 : Int64) (a3 : Int32) : Met l yX0_lostPart wsX0_lostPart ({ frames := 0, cells := 0, slots := 0, locals := 0 }) (va_Pc [.long a1, .long a2, .int a3] (fun _ => True)) (k2_QcV (.long (f_X0_lostPart a1 a2 a3))) 0 0 (fun _ => False) := by
  refine Met.ofW (cc := cX0_lostPart) (maxL := 7) (ret := (some .long)) (by decide) rfl ?_
  intro p e s m args below meth c s₁ B hml hv
  obtain ⟨rfl, -⟩ := hv
  have hx := B.exec
  have hb := B.bytes
  have hr := B.returns
  have hts := atoms_spec (ws := wsX0_lostPart) B.pre
  have hown : s.vm.findClass RX0 = some m.cls := findClass_of_methodNamed B.named
  have hlocks := B.notSynchronized
  have hl := lv_entry ([.long a1, .long a2, .int a3]) (n := 7) (Nat.le_of_ble_eq_true rfl)
  rw [lg_entry_eq]
  generalize (lg_sl ([.long a1, .long a2, .int a3]) ++ List.replicate (7 - (lg_sl ([.long a1, .long a2, .int a3])).length) Slot.unset).toArray = ls at hl ⊢
  have hl : lv_has ls 7 [(0, .long a1), (2, .long a2), (4, .int a3)] := hl
  refine lv_iload hx hb dX0_lostPart_0 (lv_at hl 2 rfl) ?_
  refine lv_if_gt (tgt := 7) hx hb dX0_lostPart_2 (by decide) (fun c_1 => ?_) (fun c_1 => ?_)
  · refine lv_iload hx hb dX0_lostPart_7 (lv_at hl 2 rfl) ?_
    refine lv_bipush (v := 64) hx hb dX0_lostPart_9 (by decide) ?_
    refine lv_icmp_le (tgt := 16) hx hb dX0_lostPart_11 (by decide) (fun c_2 => ?_) (fun c_2 => ?_)
    · refine lv_lload_n hx hb dX0_lostPart_16 rfl (lv_at hl 0 rfl) ?_
      refine lv_bipush (v := 64) hx hb dX0_lostPart_17 (by decide) ?_
      refine lv_iload hx hb dX0_lostPart_19 (lv_at hl 2 rfl) ?_
      refine lv_isub hx hb dX0_lostPart_21 ?_
      refine lv_lshl hx hb dX0_lostPart_22 rfl ?_
      refine lv_lstore (lv' := [(5, .long (a1 <<< (Int32.toInt64 (64 - a3) &&& 63))), (0, .long a1), (2, .long a2), (4, .int a3)]) hx hb dX0_lostPart_23 hl (by decide) rfl (fun ls hl => ?_)
      refine lv_lload_n hx hb dX0_lostPart_25 rfl (lv_at hl 2 rfl) ?_
      refine lv_lconst (v := 0) hx hb dX0_lostPart_26 (by decide) ?_
      refine W.lcmp hx hb dX0_lostPart_27 ?_
      refine w_join (F0 m 40 ls (.long (if (lg_cmp a2 0) = 0 then (a1 <<< (Int32.toInt64 (64 - a3) &&& 63)) else ((a1 <<< (Int32.toInt64 (64 - a3) &&& 63)) ||| 1)) :: [])) ?_ (fun hJ_3 => ?_)
      · refine w_asl (y := (f_X0_lostPart a1 a2 a3)) (by unfold f_X0_lostPart; rw [if_pos c_1, if_pos c_2]) ?_
        exact W.lret (v := (f_X0_lostPart a1 a2 a3)) hx hb hr (fun t ht _ => ⟨rfl, ht⟩) (fun _ h => nomatch h) dX0_lostPart_40
      · refine lv_if_ne (tgt := 36) hx hb dX0_lostPart_28 (by decide) (fun c_4 => ?_) (fun c_4 => ?_)
        · refine lv_lload hx hb dX0_lostPart_36 (lv_at hl 0 rfl) ?_
          refine lv_lconst (v := 1) hx hb dX0_lostPart_38 (by decide) ?_
          refine lv_lor hx hb dX0_lostPart_39 ?_
          exact W.eq (by rw [if_neg c_4]) hJ_3
        · refine lv_lload hx hb dX0_lostPart_31 (lv_at hl 0 rfl) ?_
          refine lv_goto (tgt := 40) hx hb dX0_lostPart_33 (by decide) ?_
          exact W.eq (by rw [if_pos c_4]) hJ_3
    · refine lv_lconst (v := 1) hx hb dX0_lostPart_14 (by decide) ?_
      refine w_asl (y := (f_X0_lostPart a1 a2 a3)) (by unfold f_X0_lostPart; rw [if_pos c_1, if_neg c_2]) ?_
      exact W.lret (v := (f_X0_lostPart a1 a2 a3)) hx hb hr (fun t ht _ => ⟨rfl, ht⟩) (fun _ h => nomatch h) dX0_lostPart_15
  · refine lv_lload_n hx hb dX0_lostPart_5 rfl (lv_at hl 1 rfl) ?_
    refine w_asl (y := (f_X0_lostPart a1 a2 a3)) (by unfold f_X0_lostPart; rw [if_neg c_1]) ?_
    exact W.lret (v := (f_X0_lostPart a1 a2 a3)) hx hb hr (fun t ht _ => ⟨rfl, ht⟩) (fun _ h => nomatch h) dX0_lostPart_6
def f_X0_changeOf (a1 : Int64) (a2 : Int32) : Int32 :=
  if (lg_cmp a1 0) = 0 then
    0
  else
    (if a2 = 0 then (-1) else 1)
set_option maxHeartbeats 4000000 in
set_option maxRecDepth 100000 in
theorem c_X0_changeOf (l : Launch) (a1 : Int64) (a2 : Int32) : Met l yX0_changeOf wsX0_changeOf ({ frames := 0, cells := 0, slots := 0, locals := 0 }) (va_Pc [.long a1, .int a2] (fun _ => True)) (k2_QcV (.int (f_X0_changeOf a1 a2))) 0 0 (fun _ => False) := by
  refine Met.ofW (cc := cX0_changeOf) (maxL := 3) (ret := (some .int)) (by decide) rfl ?_
  intro p e s m args below meth c s₁ B hml hv
  obtain ⟨rfl, -⟩ := hv
  have hx := B.exec
  have hb := B.bytes
  have hr := B.returns
  have hts := atoms_spec (ws := wsX0_changeOf) B.pre
  have hown : s.vm.findClass RX0 = some m.cls := findClass_of_methodNamed B.named
  have hlocks := B.notSynchronized
  have hl := lv_entry ([.long a1, .int a2]) (n := 3) (Nat.le_of_ble_eq_true rfl)
  rw [lg_entry_eq]
  generalize (lg_sl ([.long a1, .int a2]) ++ List.replicate (3 - (lg_sl ([.long a1, .int a2])).length) Slot.unset).toArray = ls at hl ⊢
  have hl : lv_has ls 3 [(0, .long a1), (2, .int a2)] := hl
  refine lv_lload_n hx hb dX0_changeOf_0 rfl (lv_at hl 0 rfl) ?_
  refine lv_lconst (v := 0) hx hb dX0_changeOf_1 (by decide) ?_
  refine W.lcmp hx hb dX0_changeOf_2 ?_
  refine lv_if_ne (tgt := 8) hx hb dX0_changeOf_3 (by decide) (fun c_1 => ?_) (fun c_1 => ?_)
  · refine lv_iload_n hx hb dX0_changeOf_8 rfl (lv_at hl 1 rfl) ?_
    refine w_join (F0 m 17 ls (.int (if a2 = 0 then (-1) else 1) :: [])) ?_ (fun hJ_2 => ?_)
    · refine w_asi (y := (f_X0_changeOf a1 a2)) (by unfold f_X0_changeOf; rw [if_neg c_1]) ?_
      exact W.iret (v := (f_X0_changeOf a1 a2)) hx hb hr (fun t ht _ => ⟨rfl, ht⟩) (fun _ h => nomatch h) dX0_changeOf_17
    · refine lv_if_eq (tgt := 16) hx hb dX0_changeOf_9 (by decide) (fun c_3 => ?_) (fun c_3 => ?_)
      · refine lv_iconst (v := (-1)) hx hb dX0_changeOf_16 (by decide) ?_
        exact W.eq (by rw [if_pos c_3]) hJ_2
      · refine lv_iconst (v := 1) hx hb dX0_changeOf_12 (by decide) ?_
        refine lv_goto (tgt := 17) hx hb dX0_changeOf_13 (by decide) ?_
        exact W.eq (by rw [if_neg c_3]) hJ_2
  · refine lv_iconst (v := 0) hx hb dX0_changeOf_6 (by decide) ?_
    refine w_asi (y := (f_X0_changeOf a1 a2)) (by unfold f_X0_changeOf; rw [if_pos c_1]) ?_
    exact W.iret (v := (f_X0_changeOf a1 a2)) hx hb hr (fun t ht _ => ⟨rfl, ht⟩) (fun _ h => nomatch h) dX0_changeOf_7
end
section
def f_X0_isNegative (ft : Nat → Int32) (a1 : Int32) : Int32 :=
  (if ((ft a1.toNatClampNeg) &&& 32768) = 0 then 0 else 1)
theorem nb_X0_isNegative (ft : Nat → Int32) (a1 : Int32) : narrow .boolean (.int (f_X0_isNegative ft a1)) = .int (f_X0_isNegative ft a1) := by
  unfold f_X0_isNegative
  (repeat' split) <;> first | rfl
set_option maxHeartbeats 4000000 in
set_option maxRecDepth 100000 in
theorem c_X0_isNegative (l : Launch) (dC : Nat → ClassId) (dI : Nat → Nat → Nat) (cI cL : ClassId) (h0 qt qf : Nat) (ft : Nat → Int32) (ff : Nat → Int64) (w : Int32) (lt : Int32) (lk : Int32) (lc : Int32) (a1 : Int32) (hr1 : vp_in a1 8) : Met l yX0_isNegative wsX0_isNegative ({ frames := 0, cells := 0, slots := 0, locals := 0 }) (rd_Pc (dC, dI) (x_W cI cL h0 qt qf ft ff w lt lk lc) (x_T cI cL) [.ref h0, .int a1]) (k2_QcV (.int (f_X0_isNegative ft a1))) 0 0 (fun _ => False) := by
  refine Met.ofW (cc := cX0_isNegative) (maxL := 2) (ret := (some .boolean)) (by decide) rfl ?_
  intro p e s m args below meth c s₁ B hml hv
  obtain ⟨rfl, hP, hK⟩ := hv
  have hx := B.exec
  have hb := B.bytes
  have hr := B.returns
  have hts := atoms_spec (ws := wsX0_isNegative) B.pre
  have hown : s.vm.findClass RX0 = some m.cls := findClass_of_methodNamed B.named
  have hlocks := B.notSynchronized
  have hin_X0 : ∀ w ∈ u_ws RX0 TX0 6, w ∈ wsX0_isNegative := by decide +kernel
  have hP : va_P (dC, dI) vwCl [(h0, .inr (0, [.ref qt, .ref qf, .int w, .int lt, .int lk, .int lc])), (qt, .inl (cI, 8, .inl ft)), (qf, .inl (cL, 8, .inr (.inl ff)))] s.heap := hP
  have hl := lv_entry ([.ref h0, .int a1]) (n := 2) (Nat.le_of_ble_eq_true rfl)
  rw [lg_entry_eq]
  generalize (lg_sl ([.ref h0, .int a1]) ++ List.replicate (2 - (lg_sl ([.ref h0, .int a1])).length) Slot.unset).toArray = ls at hl ⊢
  have hl : lv_has ls 2 [(0, .ref h0), (1, .int a1)] := hl
  refine lv_aload_n hx hb dX0_isNegative_0 rfl (lv_at hl 0 rfl) ?_
  refine va_get (D := (dC, dI)) (ci := 0) (v := .ref qt) (C := RX0) (T := TX0) (N := 6) hx hb hts hin_X0 hown hK hP 0 rfl rfl 0 (by decide) (hts (.fieldLink RX0 11 "TemporaryReals" "tops" "[I") (by decide +kernel)) (fun _ h9 => h9) rfl dX0_isNegative_1 ?_
  refine lv_iload_n hx hb dX0_isNegative_4 rfl (lv_at hl 1 rfl) ?_
  refine va_iald hx hb hK hP 1 0 rfl rfl (by first | assumption | exact x_reg (by assumption) | exact x_regA (by assumption) | exact x_regB (by assumption)) dX0_isNegative_5 ?_
  refine lv_ldc (v := 32768) hx hb hown (hts (.constant RX0 129 32768) (by decide +kernel)) dX0_isNegative_6 ?_
  refine lv_iand hx hb dX0_isNegative_8 ?_
  refine w_join (F0 m 17 ls (.int (if ((ft a1.toNatClampNeg) &&& 32768) = 0 then 0 else 1) :: [])) ?_ (fun hJ_1 => ?_)
  · refine w_asi (y := (f_X0_isNegative ft a1)) (by unfold f_X0_isNegative; rfl) ?_
    exact W.zret (v := (f_X0_isNegative ft a1)) (ty := .boolean) hx hb hr (nb_X0_isNegative ..) (fun t ht _ => ⟨rfl, ht⟩) (fun _ h => nomatch h) dX0_isNegative_17
  · refine lv_if_eq (tgt := 16) hx hb dX0_isNegative_9 (by decide) (fun c_2 => ?_) (fun c_2 => ?_)
    · refine lv_iconst (v := 0) hx hb dX0_isNegative_16 (by decide) ?_
      exact W.eq (by rw [if_pos c_2]) hJ_1
    · refine lv_iconst (v := 1) hx hb dX0_isNegative_12 (by decide) ?_
      refine lv_goto (tgt := 17) hx hb dX0_isNegative_13 (by decide) ?_
      exact W.eq (by rw [if_neg c_2]) hJ_1
def f_X0_powerOf (ft : Nat → Int32) (a1 : Int32) : Int32 :=
  ((ft a1.toNatClampNeg) &&& 32767)
set_option maxHeartbeats 4000000 in
set_option maxRecDepth 100000 in
theorem c_X0_powerOf (l : Launch) (dC : Nat → ClassId) (dI : Nat → Nat → Nat) (cI cL : ClassId) (h0 qt qf : Nat) (ft : Nat → Int32) (ff : Nat → Int64) (w : Int32) (lt : Int32) (lk : Int32) (lc : Int32) (a1 : Int32) (hr1 : vp_in a1 8) : Met l yX0_powerOf wsX0_powerOf ({ frames := 0, cells := 0, slots := 0, locals := 0 }) (rd_Pc (dC, dI) (x_W cI cL h0 qt qf ft ff w lt lk lc) (x_T cI cL) [.ref h0, .int a1]) (k2_QcV (.int (f_X0_powerOf ft a1))) 0 0 (fun _ => False) := by
  refine Met.ofW (cc := cX0_powerOf) (maxL := 2) (ret := (some .int)) (by decide) rfl ?_
  intro p e s m args below meth c s₁ B hml hv
  obtain ⟨rfl, hP, hK⟩ := hv
  have hx := B.exec
  have hb := B.bytes
  have hr := B.returns
  have hts := atoms_spec (ws := wsX0_powerOf) B.pre
  have hown : s.vm.findClass RX0 = some m.cls := findClass_of_methodNamed B.named
  have hlocks := B.notSynchronized
  have hin_X0 : ∀ w ∈ u_ws RX0 TX0 6, w ∈ wsX0_powerOf := by decide +kernel
  have hP : va_P (dC, dI) vwCl [(h0, .inr (0, [.ref qt, .ref qf, .int w, .int lt, .int lk, .int lc])), (qt, .inl (cI, 8, .inl ft)), (qf, .inl (cL, 8, .inr (.inl ff)))] s.heap := hP
  have hl := lv_entry ([.ref h0, .int a1]) (n := 2) (Nat.le_of_ble_eq_true rfl)
  rw [lg_entry_eq]
  generalize (lg_sl ([.ref h0, .int a1]) ++ List.replicate (2 - (lg_sl ([.ref h0, .int a1])).length) Slot.unset).toArray = ls at hl ⊢
  have hl : lv_has ls 2 [(0, .ref h0), (1, .int a1)] := hl
  refine lv_aload_n hx hb dX0_powerOf_0 rfl (lv_at hl 0 rfl) ?_
  refine va_get (D := (dC, dI)) (ci := 0) (v := .ref qt) (C := RX0) (T := TX0) (N := 6) hx hb hts hin_X0 hown hK hP 0 rfl rfl 0 (by decide) (hts (.fieldLink RX0 11 "TemporaryReals" "tops" "[I") (by decide +kernel)) (fun _ h9 => h9) rfl dX0_powerOf_1 ?_
  refine lv_iload_n hx hb dX0_powerOf_4 rfl (lv_at hl 1 rfl) ?_
  refine va_iald hx hb hK hP 1 0 rfl rfl (by first | assumption | exact x_reg (by assumption) | exact x_regA (by assumption) | exact x_regB (by assumption)) dX0_powerOf_5 ?_
  refine lv_sipush (v := 32767) hx hb dX0_powerOf_6 (by decide) ?_
  refine lv_iand hx hb dX0_powerOf_9 ?_
  refine w_asi (y := (f_X0_powerOf ft a1)) (by unfold f_X0_powerOf; rfl) ?_
  exact W.iret (v := (f_X0_powerOf ft a1)) hx hb hr (fun t ht _ => ⟨rfl, ht⟩) (fun _ h => nomatch h) dX0_powerOf_10
def f_X0_kindOf (ft : Nat → Int32) (ff : Nat → Int64) (a1 : Int32) : Int32 :=
  if (f_X0_powerOf ft a1) = 32767 then
    (if (lg_cmp ((ff a1.toNatClampNeg) &&& 9223372036854775807) 0) = 0 then 4 else 5)
  else
    if (f_X0_powerOf ft a1) = 0 then
      (if (lg_cmp (ff a1.toNatClampNeg) 0) = 0 then 0 else 1)
    else
      (if 0 ≤ (lg_cmp (ff a1.toNatClampNeg) 0) then 2 else 3)
set_option maxHeartbeats 4000000 in
set_option maxRecDepth 100000 in
theorem c_X0_kindOf (l : Launch) (dC : Nat → ClassId) (dI : Nat → Nat → Nat) (cI cL : ClassId) (h0 qt qf : Nat) (ft : Nat → Int32) (ff : Nat → Int64) (w : Int32) (lt : Int32) (lk : Int32) (lc : Int32) (a1 : Int32) (hr1 : vp_in a1 8) : Met l yX0_kindOf wsX0_kindOf ({ frames := 1, cells := 0, slots := 0, locals := 21 }) (rd_Pc (dC, dI) (x_W cI cL h0 qt qf ft ff w lt lk lc) (x_T cI cL) [.ref h0, .int a1]) (k2_QcV (.int (f_X0_kindOf ft ff a1))) 0 0 (fun _ => False) := by
  refine Met.ofW (cc := cX0_kindOf) (maxL := 5) (ret := (some .int)) (by decide) rfl ?_
  intro p e s m args below meth c s₁ B hml hv
  obtain ⟨rfl, hP, hK⟩ := hv
  have hx := B.exec
  have hb := B.bytes
  have hr := B.returns
  have hts := atoms_spec (ws := wsX0_kindOf) B.pre
  have hown : s.vm.findClass RX0 = some m.cls := findClass_of_methodNamed B.named
  have hlocks := B.notSynchronized
  have hin_X0 : ∀ w ∈ u_ws RX0 TX0 6, w ∈ wsX0_kindOf := by decide +kernel
  have hP : va_P (dC, dI) vwCl [(h0, .inr (0, [.ref qt, .ref qf, .int w, .int lt, .int lk, .int lc])), (qt, .inl (cI, 8, .inl ft)), (qf, .inl (cL, 8, .inr (.inl ff)))] s.heap := hP
  have hl := lv_entry ([.ref h0, .int a1]) (n := 5) (Nat.le_of_ble_eq_true rfl)
  rw [lg_entry_eq]
  generalize (lg_sl ([.ref h0, .int a1]) ++ List.replicate (5 - (lg_sl ([.ref h0, .int a1])).length) Slot.unset).toArray = ls at hl ⊢
  have hl : lv_has ls 5 [(0, .ref h0), (1, .int a1)] := hl
  refine lv_aload_n hx hb dX0_kindOf_0 rfl (lv_at hl 0 rfl) ?_
  refine lv_iload_n hx hb dX0_kindOf_1 rfl (lv_at hl 1 rfl) ?_
  refine W.callV (r := .int (f_X0_powerOf ft a1)) (W.runV (As := [.int a1]) (rest := []) ⟨hx, hb, hml, hown, hts⟩ (c_X0_powerOf l dC dI cI cL h0 qt qf ft ff w lt lk lc a1 (by first | assumption | exact x_reg (by assumption) | exact x_regA (by assumption) | exact x_regB (by assumption))) (cwV 1 hts gX0_kindOf_X0_powerOf rfl rfl rfl (by decide +kernel) ⟨Nat.le_of_ble_eq_true rfl, Nat.le_of_ble_eq_true rfl⟩) (rd_preV hK hP rfl rfl) rfl rfl hl.1 rfl (lv_room (Nat.le_of_ble_eq_true rfl)) dX0_kindOf_2 ⟨Nat.zero_le _, Nat.zero_le _⟩) ?_
  refine W.eq (g2 := F0 m 5 ls ([.int (f_X0_powerOf ft a1)])) rfl ?_
  refine lv_istore_n (lv' := [(2, .int (f_X0_powerOf ft a1)), (0, .ref h0), (1, .int a1)]) hx hb dX0_kindOf_5 rfl hl (by decide) rfl (fun ls hl => ?_)
  refine lv_aload_n hx hb dX0_kindOf_6 rfl (lv_at hl 1 rfl) ?_
  refine va_get (D := (dC, dI)) (ci := 0) (v := .ref qf) (C := RX0) (T := TX0) (N := 6) hx hb hts hin_X0 hown hK hP 0 rfl rfl 1 (by decide) (hts (.fieldLink RX0 15 "TemporaryReals" "fractions" "[J") (by decide +kernel)) (fun _ h9 => h9) rfl dX0_kindOf_7 ?_
  refine lv_iload_n hx hb dX0_kindOf_10 rfl (lv_at hl 2 rfl) ?_
  refine va_lald hx hb hK hP 2 1 rfl rfl (by first | assumption | exact x_reg (by assumption) | exact x_regA (by assumption) | exact x_regB (by assumption)) dX0_kindOf_11 ?_
  refine lv_lstore_n (lv' := [(3, .long (ff a1.toNatClampNeg)), (2, .int (f_X0_powerOf ft a1)), (0, .ref h0), (1, .int a1)]) hx hb dX0_kindOf_12 rfl hl (by decide) rfl (fun ls hl => ?_)
  refine lv_iload_n hx hb dX0_kindOf_13 rfl (lv_at hl 1 rfl) ?_
  refine lv_sipush (v := 32767) hx hb dX0_kindOf_14 (by decide) ?_
  refine lv_icmp_ne (tgt := 36) hx hb dX0_kindOf_17 (by decide) (fun c_1 => ?_) (fun c_1 => ?_)
  · refine lv_iload_n hx hb dX0_kindOf_36 rfl (lv_at hl 1 rfl) ?_
    refine lv_if_ne (tgt := 52) hx hb dX0_kindOf_37 (by decide) (fun c_2 => ?_) (fun c_2 => ?_)
    · refine lv_lload_n hx hb dX0_kindOf_52 rfl (lv_at hl 0 rfl) ?_
      refine lv_lconst (v := 0) hx hb dX0_kindOf_53 (by decide) ?_
      refine W.lcmp hx hb dX0_kindOf_54 ?_
      refine w_join (F0 m 63 ls (.int (if 0 ≤ (lg_cmp (ff a1.toNatClampNeg) 0) then 2 else 3) :: [])) ?_ (fun hJ_3 => ?_)
      · refine w_asi (y := (f_X0_kindOf ft ff a1)) (by unfold f_X0_kindOf; rw [if_neg c_1, if_neg c_2]) ?_
        exact W.iret (v := (f_X0_kindOf ft ff a1)) hx hb hr (fun t ht _ => ⟨rfl, ht⟩) (fun _ h => nomatch h) dX0_kindOf_63
      · refine lv_if_ge (tgt := 62) hx hb dX0_kindOf_55 (by decide) (fun c_4 => ?_) (fun c_4 => ?_)
        · refine lv_iconst (v := 2) hx hb dX0_kindOf_62 (by decide) ?_
          exact W.eq (by rw [if_pos c_4]) hJ_3
        · refine lv_iconst (v := 3) hx hb dX0_kindOf_58 (by decide) ?_
          refine lv_goto (tgt := 63) hx hb dX0_kindOf_59 (by decide) ?_
          exact W.eq (by rw [if_neg c_4]) hJ_3
    · refine lv_lload_n hx hb dX0_kindOf_40 rfl (lv_at hl 0 rfl) ?_
      refine lv_lconst (v := 0) hx hb dX0_kindOf_41 (by decide) ?_
      refine W.lcmp hx hb dX0_kindOf_42 ?_
      refine w_join (F0 m 51 ls (.int (if (lg_cmp (ff a1.toNatClampNeg) 0) = 0 then 0 else 1) :: [])) ?_ (fun hJ_5 => ?_)
      · refine w_asi (y := (f_X0_kindOf ft ff a1)) (by unfold f_X0_kindOf; rw [if_neg c_1, if_pos c_2]) ?_
        exact W.iret (v := (f_X0_kindOf ft ff a1)) hx hb hr (fun t ht _ => ⟨rfl, ht⟩) (fun _ h => nomatch h) dX0_kindOf_51
      · refine lv_if_ne (tgt := 50) hx hb dX0_kindOf_43 (by decide) (fun c_6 => ?_) (fun c_6 => ?_)
        · refine lv_iconst (v := 1) hx hb dX0_kindOf_50 (by decide) ?_
          exact W.eq (by rw [if_neg c_6]) hJ_5
        · refine lv_iconst (v := 0) hx hb dX0_kindOf_46 (by decide) ?_
          refine lv_goto (tgt := 51) hx hb dX0_kindOf_47 (by decide) ?_
          exact W.eq (by rw [if_pos c_6]) hJ_5
  · refine lv_lload_n hx hb dX0_kindOf_20 rfl (lv_at hl 0 rfl) ?_
    refine lv_ldc2 (v := 9223372036854775807) hx hb hown (hts (.constantLong RX0 130 9223372036854775807) (by decide +kernel)) dX0_kindOf_21 ?_
    refine lv_land hx hb dX0_kindOf_24 ?_
    refine lv_lconst (v := 0) hx hb dX0_kindOf_25 (by decide) ?_
    refine W.lcmp hx hb dX0_kindOf_26 ?_
    refine w_join (F0 m 35 ls (.int (if (lg_cmp ((ff a1.toNatClampNeg) &&& 9223372036854775807) 0) = 0 then 4 else 5) :: [])) ?_ (fun hJ_7 => ?_)
    · refine w_asi (y := (f_X0_kindOf ft ff a1)) (by unfold f_X0_kindOf; rw [if_pos c_1]) ?_
      exact W.iret (v := (f_X0_kindOf ft ff a1)) hx hb hr (fun t ht _ => ⟨rfl, ht⟩) (fun _ h => nomatch h) dX0_kindOf_35
    · refine lv_if_ne (tgt := 34) hx hb dX0_kindOf_27 (by decide) (fun c_8 => ?_) (fun c_8 => ?_)
      · refine lv_iconst (v := 5) hx hb dX0_kindOf_34 (by decide) ?_
        exact W.eq (by rw [if_neg c_8]) hJ_7
      · refine lv_iconst (v := 4) hx hb dX0_kindOf_30 (by decide) ?_
        refine lv_goto (tgt := 35) hx hb dX0_kindOf_31 (by decide) ?_
        exact W.eq (by rw [if_pos c_8]) hJ_7
def f_X0_isMasked (w : Int32) (a1 : Int32) : Int32 :=
  (if (w &&& a1) = 0 then 0 else 1)
theorem nb_X0_isMasked (w : Int32) (a1 : Int32) : narrow .boolean (.int (f_X0_isMasked w a1)) = .int (f_X0_isMasked w a1) := by
  unfold f_X0_isMasked
  (repeat' split) <;> first | rfl
set_option maxHeartbeats 4000000 in
set_option maxRecDepth 100000 in
theorem c_X0_isMasked (l : Launch) (dC : Nat → ClassId) (dI : Nat → Nat → Nat) (cI cL : ClassId) (h0 qt qf : Nat) (ft : Nat → Int32) (ff : Nat → Int64) (w : Int32) (lt : Int32) (lk : Int32) (lc : Int32) (a1 : Int32) : Met l yX0_isMasked wsX0_isMasked ({ frames := 0, cells := 0, slots := 0, locals := 0 }) (rd_Pc (dC, dI) (x_W cI cL h0 qt qf ft ff w lt lk lc) (x_T cI cL) [.ref h0, .int a1]) (k2_QcV (.int (f_X0_isMasked w a1))) 0 0 (fun _ => False) := by
  refine Met.ofW (cc := cX0_isMasked) (maxL := 2) (ret := (some .boolean)) (by decide) rfl ?_
  intro p e s m args below meth c s₁ B hml hv
  obtain ⟨rfl, hP, hK⟩ := hv
  have hx := B.exec
  have hb := B.bytes
  have hr := B.returns
  have hts := atoms_spec (ws := wsX0_isMasked) B.pre
  have hown : s.vm.findClass RX0 = some m.cls := findClass_of_methodNamed B.named
  have hlocks := B.notSynchronized
  have hin_X0 : ∀ w ∈ u_ws RX0 TX0 6, w ∈ wsX0_isMasked := by decide +kernel
  have hP : va_P (dC, dI) vwCl [(h0, .inr (0, [.ref qt, .ref qf, .int w, .int lt, .int lk, .int lc])), (qt, .inl (cI, 8, .inl ft)), (qf, .inl (cL, 8, .inr (.inl ff)))] s.heap := hP
  have hl := lv_entry ([.ref h0, .int a1]) (n := 2) (Nat.le_of_ble_eq_true rfl)
  rw [lg_entry_eq]
  generalize (lg_sl ([.ref h0, .int a1]) ++ List.replicate (2 - (lg_sl ([.ref h0, .int a1])).length) Slot.unset).toArray = ls at hl ⊢
  have hl : lv_has ls 2 [(0, .ref h0), (1, .int a1)] := hl
  refine lv_aload_n hx hb dX0_isMasked_0 rfl (lv_at hl 0 rfl) ?_
  refine va_get (D := (dC, dI)) (ci := 0) (v := .int w) (C := RX0) (T := TX0) (N := 6) hx hb hts hin_X0 hown hK hP 0 rfl rfl 2 (by decide) (hts (.fieldLink RX0 19 "TemporaryReals" "word" "I") (by decide +kernel)) (fun _ h9 => h9) rfl dX0_isMasked_1 ?_
  refine lv_iload_n hx hb dX0_isMasked_4 rfl (lv_at hl 1 rfl) ?_
  refine lv_iand hx hb dX0_isMasked_5 ?_
  refine w_join (F0 m 14 ls (.int (if (w &&& a1) = 0 then 0 else 1) :: [])) ?_ (fun hJ_1 => ?_)
  · refine w_asi (y := (f_X0_isMasked w a1)) (by unfold f_X0_isMasked; rfl) ?_
    exact W.zret (v := (f_X0_isMasked w a1)) (ty := .boolean) hx hb hr (nb_X0_isMasked ..) (fun t ht _ => ⟨rfl, ht⟩) (fun _ h => nomatch h) dX0_isMasked_14
  · refine lv_if_eq (tgt := 13) hx hb dX0_isMasked_6 (by decide) (fun c_2 => ?_) (fun c_2 => ?_)
    · refine lv_iconst (v := 0) hx hb dX0_isMasked_13 (by decide) ?_
      exact W.eq (by rw [if_pos c_2]) hJ_1
    · refine lv_iconst (v := 1) hx hb dX0_isMasked_9 (by decide) ?_
      refine lv_goto (tgt := 14) hx hb dX0_isMasked_10 (by decide) ?_
      exact W.eq (by rw [if_neg c_2]) hJ_1
def f_X0_digits (w : Int32) : Int32 :=
  if ((w >>> (8 &&& 31)) &&& 3) = 0 then
    24
  else
    if ((w >>> (8 &&& 31)) &&& 3) = 2 then
      53
    else
      64
set_option maxHeartbeats 4000000 in
set_option maxRecDepth 100000 in
theorem c_X0_digits (l : Launch) (dC : Nat → ClassId) (dI : Nat → Nat → Nat) (cI cL : ClassId) (h0 qt qf : Nat) (ft : Nat → Int32) (ff : Nat → Int64) (w : Int32) (lt : Int32) (lk : Int32) (lc : Int32) : Met l yX0_digits wsX0_digits ({ frames := 0, cells := 0, slots := 0, locals := 0 }) (rd_Pc (dC, dI) (x_W cI cL h0 qt qf ft ff w lt lk lc) (x_T cI cL) [.ref h0]) (k2_QcV (.int (f_X0_digits w))) 0 0 (fun _ => False) := by
  refine Met.ofW (cc := cX0_digits) (maxL := 1) (ret := (some .int)) (by decide) rfl ?_
  intro p e s m args below meth c s₁ B hml hv
  obtain ⟨rfl, hP, hK⟩ := hv
  have hx := B.exec
  have hb := B.bytes
  have hr := B.returns
  have hts := atoms_spec (ws := wsX0_digits) B.pre
  have hown : s.vm.findClass RX0 = some m.cls := findClass_of_methodNamed B.named
  have hlocks := B.notSynchronized
  have hin_X0 : ∀ w ∈ u_ws RX0 TX0 6, w ∈ wsX0_digits := by decide +kernel
  have hP : va_P (dC, dI) vwCl [(h0, .inr (0, [.ref qt, .ref qf, .int w, .int lt, .int lk, .int lc])), (qt, .inl (cI, 8, .inl ft)), (qf, .inl (cL, 8, .inr (.inl ff)))] s.heap := hP
  have hl := lv_entry ([.ref h0]) (n := 1) (Nat.le_of_ble_eq_true rfl)
  rw [lg_entry_eq]
  generalize (lg_sl ([.ref h0]) ++ List.replicate (1 - (lg_sl ([.ref h0])).length) Slot.unset).toArray = ls at hl ⊢
  have hl : lv_has ls 1 [(0, .ref h0)] := hl
  refine lv_aload_n hx hb dX0_digits_0 rfl (lv_at hl 0 rfl) ?_
  refine va_get (D := (dC, dI)) (ci := 0) (v := .int w) (C := RX0) (T := TX0) (N := 6) hx hb hts hin_X0 hown hK hP 0 rfl rfl 2 (by decide) (hts (.fieldLink RX0 19 "TemporaryReals" "word" "I") (by decide +kernel)) (fun _ h9 => h9) rfl dX0_digits_1 ?_
  refine lv_bipush (v := 8) hx hb dX0_digits_4 (by decide) ?_
  refine lv_ishr hx hb dX0_digits_6 ?_
  refine lv_iconst (v := 3) hx hb dX0_digits_7 (by decide) ?_
  refine lv_iand hx hb dX0_digits_8 ?_
  by_cases c_1 : ((w >>> (8 &&& 31)) &&& 3) = 0
  · refine lv_lookup (off := 27) (tgt := 36) hx hb dX0_digits_9 (by decide) (by rw [c_1]; rfl) (by decide) ?_
    refine lv_bipush (v := 24) hx hb dX0_digits_36 (by decide) ?_
    refine w_asi (y := (f_X0_digits w)) (by unfold f_X0_digits; rw [if_pos c_1]) ?_
    exact W.iret (v := (f_X0_digits w)) hx hb hr (fun t ht _ => ⟨rfl, ht⟩) (fun _ h => nomatch h) dX0_digits_38
  by_cases c_2 : ((w >>> (8 &&& 31)) &&& 3) = 2
  · refine lv_lookup (off := 30) (tgt := 39) hx hb dX0_digits_9 (by decide) (by rw [c_2]; rfl) (by decide) ?_
    refine lv_bipush (v := 53) hx hb dX0_digits_39 (by decide) ?_
    refine w_asi (y := (f_X0_digits w)) (by unfold f_X0_digits; rw [if_neg c_1, if_pos c_2]) ?_
    exact W.iret (v := (f_X0_digits w)) hx hb hr (fun t ht _ => ⟨rfl, ht⟩) (fun _ h => nomatch h) dX0_digits_41
  refine lv_lookup (off := 33) (tgt := 42) hx hb dX0_digits_9 (by decide) ((lv_osw c_1 (by decide)).trans ((lv_osw c_2 (by decide)).trans rfl)) (by decide) ?_
  refine lv_bipush (v := 64) hx hb dX0_digits_42 (by decide) ?_
  refine w_asi (y := (f_X0_digits w)) (by unfold f_X0_digits; rw [if_neg c_1, if_neg c_2]) ?_
  exact W.iret (v := (f_X0_digits w)) hx hb hr (fun t ht _ => ⟨rfl, ht⟩) (fun _ h => nomatch h) dX0_digits_44
def f_X0_rounding (w : Int32) : Int32 :=
  ((w >>> (10 &&& 31)) &&& 3)
set_option maxHeartbeats 4000000 in
set_option maxRecDepth 100000 in
theorem c_X0_rounding (l : Launch) (dC : Nat → ClassId) (dI : Nat → Nat → Nat) (cI cL : ClassId) (h0 qt qf : Nat) (ft : Nat → Int32) (ff : Nat → Int64) (w : Int32) (lt : Int32) (lk : Int32) (lc : Int32) : Met l yX0_rounding wsX0_rounding ({ frames := 0, cells := 0, slots := 0, locals := 0 }) (rd_Pc (dC, dI) (x_W cI cL h0 qt qf ft ff w lt lk lc) (x_T cI cL) [.ref h0]) (k2_QcV (.int (f_X0_rounding w))) 0 0 (fun _ => False) := by
  refine Met.ofW (cc := cX0_rounding) (maxL := 1) (ret := (some .int)) (by decide) rfl ?_
  intro p e s m args below meth c s₁ B hml hv
  obtain ⟨rfl, hP, hK⟩ := hv
  have hx := B.exec
  have hb := B.bytes
  have hr := B.returns
  have hts := atoms_spec (ws := wsX0_rounding) B.pre
  have hown : s.vm.findClass RX0 = some m.cls := findClass_of_methodNamed B.named
  have hlocks := B.notSynchronized
  have hin_X0 : ∀ w ∈ u_ws RX0 TX0 6, w ∈ wsX0_rounding := by decide +kernel
  have hP : va_P (dC, dI) vwCl [(h0, .inr (0, [.ref qt, .ref qf, .int w, .int lt, .int lk, .int lc])), (qt, .inl (cI, 8, .inl ft)), (qf, .inl (cL, 8, .inr (.inl ff)))] s.heap := hP
  have hl := lv_entry ([.ref h0]) (n := 1) (Nat.le_of_ble_eq_true rfl)
  rw [lg_entry_eq]
  generalize (lg_sl ([.ref h0]) ++ List.replicate (1 - (lg_sl ([.ref h0])).length) Slot.unset).toArray = ls at hl ⊢
  have hl : lv_has ls 1 [(0, .ref h0)] := hl
  refine lv_aload_n hx hb dX0_rounding_0 rfl (lv_at hl 0 rfl) ?_
  refine va_get (D := (dC, dI)) (ci := 0) (v := .int w) (C := RX0) (T := TX0) (N := 6) hx hb hts hin_X0 hown hK hP 0 rfl rfl 2 (by decide) (hts (.fieldLink RX0 19 "TemporaryReals" "word" "I") (by decide +kernel)) (fun _ h9 => h9) rfl dX0_rounding_1 ?_
  refine lv_bipush (v := 10) hx hb dX0_rounding_4 (by decide) ?_
  refine lv_ishr hx hb dX0_rounding_6 ?_
  refine lv_iconst (v := 3) hx hb dX0_rounding_7 (by decide) ?_
  refine lv_iand hx hb dX0_rounding_8 ?_
  refine w_asi (y := (f_X0_rounding w)) (by unfold f_X0_rounding; rfl) ?_
  exact W.iret (v := (f_X0_rounding w)) hx hb hr (fun t ht _ => ⟨rfl, ht⟩) (fun _ h => nomatch h) dX0_rounding_9
def f_X0_goesAway (w : Int32) (a1 : Int32) : Int32 :=
  (if (f_X0_rounding w) = 1 then (if a1 = 0 then (if (f_X0_rounding w) = 2 then (if a1 = 0 then 1 else 0) else 0) else 1) else (if (f_X0_rounding w) = 2 then (if a1 = 0 then 1 else 0) else 0))
theorem nb_X0_goesAway (w : Int32) (a1 : Int32) : narrow .boolean (.int (f_X0_goesAway w a1)) = .int (f_X0_goesAway w a1) := by
  unfold f_X0_goesAway
  (repeat' split) <;> first | rfl
set_option maxHeartbeats 4000000 in
set_option maxRecDepth 100000 in
theorem c_X0_goesAway (l : Launch) (dC : Nat → ClassId) (dI : Nat → Nat → Nat) (cI cL : ClassId) (h0 qt qf : Nat) (ft : Nat → Int32) (ff : Nat → Int64) (w : Int32) (lt : Int32) (lk : Int32) (lc : Int32) (a1 : Int32) : Met l yX0_goesAway wsX0_goesAway ({ frames := 1, cells := 0, slots := 0, locals := 20 }) (rd_Pc (dC, dI) (x_W cI cL h0 qt qf ft ff w lt lk lc) (x_T cI cL) [.ref h0, .int a1]) (k2_QcV (.int (f_X0_goesAway w a1))) 0 0 (fun _ => False) := by
  refine Met.ofW (cc := cX0_goesAway) (maxL := 3) (ret := (some .boolean)) (by decide) rfl ?_
  intro p e s m args below meth c s₁ B hml hv
  obtain ⟨rfl, hP, hK⟩ := hv
  have hx := B.exec
  have hb := B.bytes
  have hr := B.returns
  have hts := atoms_spec (ws := wsX0_goesAway) B.pre
  have hown : s.vm.findClass RX0 = some m.cls := findClass_of_methodNamed B.named
  have hlocks := B.notSynchronized
  have hP : va_P (dC, dI) vwCl [(h0, .inr (0, [.ref qt, .ref qf, .int w, .int lt, .int lk, .int lc])), (qt, .inl (cI, 8, .inl ft)), (qf, .inl (cL, 8, .inr (.inl ff)))] s.heap := hP
  have hl := lv_entry ([.ref h0, .int a1]) (n := 3) (Nat.le_of_ble_eq_true rfl)
  rw [lg_entry_eq]
  generalize (lg_sl ([.ref h0, .int a1]) ++ List.replicate (3 - (lg_sl ([.ref h0, .int a1])).length) Slot.unset).toArray = ls at hl ⊢
  have hl : lv_has ls 3 [(0, .ref h0), (1, .int a1)] := hl
  refine lv_aload_n hx hb dX0_goesAway_0 rfl (lv_at hl 0 rfl) ?_
  refine W.callV (r := .int (f_X0_rounding w)) (W.runV (As := []) (rest := []) ⟨hx, hb, hml, hown, hts⟩ (c_X0_rounding l dC dI cI cL h0 qt qf ft ff w lt lk lc  ) (cwV 0 hts gX0_goesAway_X0_rounding rfl rfl rfl (by decide +kernel) ⟨Nat.le_of_ble_eq_true rfl, Nat.le_of_ble_eq_true rfl⟩) (rd_preV hK hP rfl rfl) rfl rfl hl.1 rfl (lv_room (Nat.le_of_ble_eq_true rfl)) dX0_goesAway_1 ⟨Nat.zero_le _, Nat.zero_le _⟩) ?_
  refine W.eq (g2 := F0 m 4 ls ([.int (f_X0_rounding w)])) rfl ?_
  refine lv_istore_n (lv' := [(2, .int (f_X0_rounding w)), (0, .ref h0), (1, .int a1)]) hx hb dX0_goesAway_4 rfl hl (by decide) rfl (fun ls hl => ?_)
  refine lv_iload_n hx hb dX0_goesAway_5 rfl (lv_at hl 0 rfl) ?_
  refine lv_iconst (v := 1) hx hb dX0_goesAway_6 (by decide) ?_
  refine w_join (F0 m 28 ls (.int (if (f_X0_rounding w) = 1 then (if a1 = 0 then (if (f_X0_rounding w) = 2 then (if a1 = 0 then 1 else 0) else 0) else 1) else (if (f_X0_rounding w) = 2 then (if a1 = 0 then 1 else 0) else 0)) :: [])) ?_ (fun hJ_1 => ?_)
  · refine w_asi (y := (f_X0_goesAway w a1)) (by unfold f_X0_goesAway; rfl) ?_
    exact W.zret (v := (f_X0_goesAway w a1)) (ty := .boolean) hx hb hr (nb_X0_goesAway ..) (fun t ht _ => ⟨rfl, ht⟩) (fun _ h => nomatch h) dX0_goesAway_28
  · refine lv_icmp_ne (tgt := 14) hx hb dX0_goesAway_7 (by decide) (fun c_2 => ?_) (fun c_2 => ?_)
    · refine lv_iload_n hx hb dX0_goesAway_14 rfl (lv_at hl 0 rfl) ?_
      refine lv_iconst (v := 2) hx hb dX0_goesAway_15 (by decide) ?_
      refine lv_icmp_ne (tgt := 27) hx hb dX0_goesAway_16 (by decide) (fun c_3 => ?_) (fun c_3 => ?_)
      · refine lv_iconst (v := 0) hx hb dX0_goesAway_27 (by decide) ?_
        exact W.eq (by rw [if_neg c_2, if_neg c_3]) hJ_1
      · refine lv_iload_n hx hb dX0_goesAway_19 rfl (lv_at hl 2 rfl) ?_
        refine lv_if_ne (tgt := 27) hx hb dX0_goesAway_20 (by decide) (fun c_4 => ?_) (fun c_4 => ?_)
        · refine lv_iconst (v := 0) hx hb dX0_goesAway_27 (by decide) ?_
          exact W.eq (by rw [if_neg c_2, if_pos c_3, if_neg c_4]) hJ_1
        · refine lv_iconst (v := 1) hx hb dX0_goesAway_23 (by decide) ?_
          refine lv_goto (tgt := 28) hx hb dX0_goesAway_24 (by decide) ?_
          exact W.eq (by rw [if_neg c_2, if_pos c_3, if_pos c_4]) hJ_1
    · refine lv_iload_n hx hb dX0_goesAway_10 rfl (lv_at hl 2 rfl) ?_
      refine lv_if_ne (tgt := 23) hx hb dX0_goesAway_11 (by decide) (fun c_5 => ?_) (fun c_5 => ?_)
      · refine lv_iconst (v := 1) hx hb dX0_goesAway_23 (by decide) ?_
        refine lv_goto (tgt := 28) hx hb dX0_goesAway_24 (by decide) ?_
        exact W.eq (by rw [if_pos c_2, if_neg c_5]) hJ_1
      · refine lv_iload_n hx hb dX0_goesAway_14 rfl (lv_at hl 0 rfl) ?_
        refine lv_iconst (v := 2) hx hb dX0_goesAway_15 (by decide) ?_
        refine lv_icmp_ne (tgt := 27) hx hb dX0_goesAway_16 (by decide) (fun c_6 => ?_) (fun c_6 => ?_)
        · refine lv_iconst (v := 0) hx hb dX0_goesAway_27 (by decide) ?_
          exact W.eq (by rw [if_pos c_2, if_pos c_5, if_neg c_6]) hJ_1
        · refine lv_iload_n hx hb dX0_goesAway_19 rfl (lv_at hl 2 rfl) ?_
          refine lv_if_ne (tgt := 27) hx hb dX0_goesAway_20 (by decide) (fun c_7 => ?_) (fun c_7 => ?_)
          · refine lv_iconst (v := 0) hx hb dX0_goesAway_27 (by decide) ?_
            exact W.eq (by rw [if_pos c_2, if_pos c_5, if_pos c_6, if_neg c_7]) hJ_1
          · refine lv_iconst (v := 1) hx hb dX0_goesAway_23 (by decide) ?_
            refine lv_goto (tgt := 28) hx hb dX0_goesAway_24 (by decide) ?_
            exact W.eq (by rw [if_pos c_2, if_pos c_5, if_pos c_6, if_pos c_7]) hJ_1
def f_X0_takesAbove (w : Int32) (a1 : Int64) (a2 : Int64) (a3 : Int32) : Int32 :=
  if (lg_cmp a2 0) = 0 then
    0
  else
    if (f_X0_rounding w) = 0 then
      if (lg_cmp a2 (-9223372036854775808)) = 0 then
        (if (lg_cmp (a1 &&& 1) 0) = 0 then 0 else 1)
      else
        (if 0 ≤ (lg_cmp a2 0) then 0 else 1)
    else
      (f_X0_goesAway w a3)
theorem nb_X0_takesAbove (w : Int32) (a1 : Int64) (a2 : Int64) (a3 : Int32) : narrow .boolean (.int (f_X0_takesAbove w a1 a2 a3)) = .int (f_X0_takesAbove w a1 a2 a3) := by
  unfold f_X0_takesAbove
  (repeat' split) <;> first | exact nb_X0_goesAway .. | rfl
set_option maxHeartbeats 4000000 in
set_option maxRecDepth 100000 in
theorem c_X0_takesAbove (l : Launch) (dC : Nat → ClassId) (dI : Nat → Nat → Nat) (cI cL : ClassId) (h0 qt qf : Nat) (ft : Nat → Int32) (ff : Nat → Int64) (w : Int32) (lt : Int32) (lk : Int32) (lc : Int32) (a1 : Int64) (a2 : Int64) (a3 : Int32) : Met l yX0_takesAbove wsX0_takesAbove ({ frames := 2, cells := 0, slots := 0, locals := 42 }) (rd_Pc (dC, dI) (x_W cI cL h0 qt qf ft ff w lt lk lc) (x_T cI cL) [.ref h0, .long a1, .long a2, .int a3]) (k2_QcV (.int (f_X0_takesAbove w a1 a2 a3))) 0 0 (fun _ => False) := by
  refine Met.ofW (cc := cX0_takesAbove) (maxL := 6) (ret := (some .boolean)) (by decide) rfl ?_
  intro p e s m args below meth c s₁ B hml hv
  obtain ⟨rfl, hP, hK⟩ := hv
  have hx := B.exec
  have hb := B.bytes
  have hr := B.returns
  have hts := atoms_spec (ws := wsX0_takesAbove) B.pre
  have hown : s.vm.findClass RX0 = some m.cls := findClass_of_methodNamed B.named
  have hlocks := B.notSynchronized
  have hP : va_P (dC, dI) vwCl [(h0, .inr (0, [.ref qt, .ref qf, .int w, .int lt, .int lk, .int lc])), (qt, .inl (cI, 8, .inl ft)), (qf, .inl (cL, 8, .inr (.inl ff)))] s.heap := hP
  have hl := lv_entry ([.ref h0, .long a1, .long a2, .int a3]) (n := 6) (Nat.le_of_ble_eq_true rfl)
  rw [lg_entry_eq]
  generalize (lg_sl ([.ref h0, .long a1, .long a2, .int a3]) ++ List.replicate (6 - (lg_sl ([.ref h0, .long a1, .long a2, .int a3])).length) Slot.unset).toArray = ls at hl ⊢
  have hl : lv_has ls 6 [(0, .ref h0), (1, .long a1), (3, .long a2), (5, .int a3)] := hl
  refine lv_lload_n hx hb dX0_takesAbove_0 rfl (lv_at hl 2 rfl) ?_
  refine lv_lconst (v := 0) hx hb dX0_takesAbove_1 (by decide) ?_
  refine W.lcmp hx hb dX0_takesAbove_2 ?_
  refine lv_if_ne (tgt := 8) hx hb dX0_takesAbove_3 (by decide) (fun c_1 => ?_) (fun c_1 => ?_)
  · refine lv_aload_n hx hb dX0_takesAbove_8 rfl (lv_at hl 0 rfl) ?_
    refine W.callV (r := .int (f_X0_rounding w)) (W.runV (As := []) (rest := []) ⟨hx, hb, hml, hown, hts⟩ (c_X0_rounding l dC dI cI cL h0 qt qf ft ff w lt lk lc  ) (cwV 0 hts gX0_takesAbove_X0_rounding rfl rfl rfl (by decide +kernel) ⟨Nat.le_of_ble_eq_true rfl, Nat.le_of_ble_eq_true rfl⟩) (rd_preV hK hP rfl rfl) rfl rfl hl.1 rfl (lv_room (Nat.le_of_ble_eq_true rfl)) dX0_takesAbove_9 ⟨Nat.zero_le _, Nat.zero_le _⟩) ?_
    refine W.eq (g2 := F0 m 12 ls ([.int (f_X0_rounding w)])) rfl ?_
    refine lv_if_eq (tgt := 22) hx hb dX0_takesAbove_12 (by decide) (fun c_2 => ?_) (fun c_2 => ?_)
    · refine lv_lload_n hx hb dX0_takesAbove_22 rfl (lv_at hl 2 rfl) ?_
      refine lv_ldc2 (v := (-9223372036854775808)) hx hb hown (hts (.constantLong RX0 62 (-9223372036854775808)) (by decide +kernel)) dX0_takesAbove_23 ?_
      refine W.lcmp hx hb dX0_takesAbove_26 ?_
      refine lv_if_ne (tgt := 44) hx hb dX0_takesAbove_27 (by decide) (fun c_3 => ?_) (fun c_3 => ?_)
      · refine lv_lload_n hx hb dX0_takesAbove_44 rfl (lv_at hl 2 rfl) ?_
        refine lv_lconst (v := 0) hx hb dX0_takesAbove_45 (by decide) ?_
        refine W.lcmp hx hb dX0_takesAbove_46 ?_
        refine w_join (F0 m 55 ls (.int (if 0 ≤ (lg_cmp a2 0) then 0 else 1) :: [])) ?_ (fun hJ_4 => ?_)
        · refine w_asi (y := (f_X0_takesAbove w a1 a2 a3)) (by unfold f_X0_takesAbove; rw [if_neg c_1, if_pos c_2, if_neg c_3]) ?_
          exact W.zret (v := (f_X0_takesAbove w a1 a2 a3)) (ty := .boolean) hx hb hr (nb_X0_takesAbove ..) (fun t ht _ => ⟨rfl, ht⟩) (fun _ h => nomatch h) dX0_takesAbove_55
        · refine lv_if_ge (tgt := 54) hx hb dX0_takesAbove_47 (by decide) (fun c_5 => ?_) (fun c_5 => ?_)
          · refine lv_iconst (v := 0) hx hb dX0_takesAbove_54 (by decide) ?_
            exact W.eq (by rw [if_pos c_5]) hJ_4
          · refine lv_iconst (v := 1) hx hb dX0_takesAbove_50 (by decide) ?_
            refine lv_goto (tgt := 55) hx hb dX0_takesAbove_51 (by decide) ?_
            exact W.eq (by rw [if_neg c_5]) hJ_4
      · refine lv_lload_n hx hb dX0_takesAbove_30 rfl (lv_at hl 1 rfl) ?_
        refine lv_lconst (v := 1) hx hb dX0_takesAbove_31 (by decide) ?_
        refine lv_land hx hb dX0_takesAbove_32 ?_
        refine lv_lconst (v := 0) hx hb dX0_takesAbove_33 (by decide) ?_
        refine W.lcmp hx hb dX0_takesAbove_34 ?_
        refine w_join (F0 m 43 ls (.int (if (lg_cmp (a1 &&& 1) 0) = 0 then 0 else 1) :: [])) ?_ (fun hJ_6 => ?_)
        · refine w_asi (y := (f_X0_takesAbove w a1 a2 a3)) (by unfold f_X0_takesAbove; rw [if_neg c_1, if_pos c_2, if_pos c_3]) ?_
          exact W.zret (v := (f_X0_takesAbove w a1 a2 a3)) (ty := .boolean) hx hb hr (nb_X0_takesAbove ..) (fun t ht _ => ⟨rfl, ht⟩) (fun _ h => nomatch h) dX0_takesAbove_43
        · refine lv_if_eq (tgt := 42) hx hb dX0_takesAbove_35 (by decide) (fun c_7 => ?_) (fun c_7 => ?_)
          · refine lv_iconst (v := 0) hx hb dX0_takesAbove_42 (by decide) ?_
            exact W.eq (by rw [if_pos c_7]) hJ_6
          · refine lv_iconst (v := 1) hx hb dX0_takesAbove_38 (by decide) ?_
            refine lv_goto (tgt := 43) hx hb dX0_takesAbove_39 (by decide) ?_
            exact W.eq (by rw [if_neg c_7]) hJ_6
    · refine lv_aload_n hx hb dX0_takesAbove_15 rfl (lv_at hl 0 rfl) ?_
      refine lv_iload hx hb dX0_takesAbove_16 (lv_at hl 3 rfl) ?_
      refine W.callV (r := .int (f_X0_goesAway w a3)) (W.runV (As := [.int a3]) (rest := []) ⟨hx, hb, hml, hown, hts⟩ (c_X0_goesAway l dC dI cI cL h0 qt qf ft ff w lt lk lc a3 ) (cwV 1 hts gX0_takesAbove_X0_goesAway rfl rfl rfl (by decide +kernel) ⟨Nat.le_of_ble_eq_true rfl, Nat.le_of_ble_eq_true rfl⟩) (rd_preV hK hP rfl rfl) rfl rfl hl.1 rfl (lv_room (Nat.le_of_ble_eq_true rfl)) dX0_takesAbove_18 ⟨Nat.zero_le _, Nat.zero_le _⟩) ?_
      refine W.eq (g2 := F0 m 21 ls ([.int (f_X0_goesAway w a3)])) rfl ?_
      refine w_asi (y := (f_X0_takesAbove w a1 a2 a3)) (by unfold f_X0_takesAbove; rw [if_neg c_1, if_neg c_2]) ?_
      exact W.zret (v := (f_X0_takesAbove w a1 a2 a3)) (ty := .boolean) hx hb hr (nb_X0_takesAbove ..) (fun t ht _ => ⟨rfl, ht⟩) (fun _ h => nomatch h) dX0_takesAbove_21
  · refine lv_iconst (v := 0) hx hb dX0_takesAbove_6 (by decide) ?_
    refine w_asi (y := (f_X0_takesAbove w a1 a2 a3)) (by unfold f_X0_takesAbove; rw [if_pos c_1]) ?_
    exact W.zret (v := (f_X0_takesAbove w a1 a2 a3)) (ty := .boolean) hx hb hr (nb_X0_takesAbove ..) (fun t ht _ => ⟨rfl, ht⟩) (fun _ h => nomatch h) dX0_takesAbove_7
def f_X0_signum (ft : Nat → Int32) (ff : Nat → Int64) (a1 : Int32) : Int32 :=
  if (if (f_X0_kindOf ft ff a1) = 4 then false else (if (lg_cmp (ff a1.toNatClampNeg) 0) = 0 then true else false)) = true then
    0
  else
    (if (f_X0_isNegative ft a1) = 0 then 1 else (-1))
set_option maxHeartbeats 4000000 in
set_option maxRecDepth 100000 in
theorem c_X0_signum (l : Launch) (dC : Nat → ClassId) (dI : Nat → Nat → Nat) (cI cL : ClassId) (h0 qt qf : Nat) (ft : Nat → Int32) (ff : Nat → Int64) (w : Int32) (lt : Int32) (lk : Int32) (lc : Int32) (a1 : Int32) (hr1 : vp_in a1 8) : Met l yX0_signum wsX0_signum ({ frames := 2, cells := 0, slots := 0, locals := 45 }) (rd_Pc (dC, dI) (x_W cI cL h0 qt qf ft ff w lt lk lc) (x_T cI cL) [.ref h0, .int a1]) (k2_QcV (.int (f_X0_signum ft ff a1))) 0 0 (fun _ => False) := by
  refine Met.ofW (cc := cX0_signum) (maxL := 2) (ret := (some .int)) (by decide) rfl ?_
  intro p e s m args below meth c s₁ B hml hv
  obtain ⟨rfl, hP, hK⟩ := hv
  have hx := B.exec
  have hb := B.bytes
  have hr := B.returns
  have hts := atoms_spec (ws := wsX0_signum) B.pre
  have hown : s.vm.findClass RX0 = some m.cls := findClass_of_methodNamed B.named
  have hlocks := B.notSynchronized
  have hin_X0 : ∀ w ∈ u_ws RX0 TX0 6, w ∈ wsX0_signum := by decide +kernel
  have hP : va_P (dC, dI) vwCl [(h0, .inr (0, [.ref qt, .ref qf, .int w, .int lt, .int lk, .int lc])), (qt, .inl (cI, 8, .inl ft)), (qf, .inl (cL, 8, .inr (.inl ff)))] s.heap := hP
  have hl := lv_entry ([.ref h0, .int a1]) (n := 2) (Nat.le_of_ble_eq_true rfl)
  rw [lg_entry_eq]
  generalize (lg_sl ([.ref h0, .int a1]) ++ List.replicate (2 - (lg_sl ([.ref h0, .int a1])).length) Slot.unset).toArray = ls at hl ⊢
  have hl : lv_has ls 2 [(0, .ref h0), (1, .int a1)] := hl
  refine lv_aload_n hx hb dX0_signum_0 rfl (lv_at hl 0 rfl) ?_
  refine lv_iload_n hx hb dX0_signum_1 rfl (lv_at hl 1 rfl) ?_
  refine W.callV (r := .int (f_X0_kindOf ft ff a1)) (W.runV (As := [.int a1]) (rest := []) ⟨hx, hb, hml, hown, hts⟩ (c_X0_kindOf l dC dI cI cL h0 qt qf ft ff w lt lk lc a1 (by first | assumption | exact x_reg (by assumption) | exact x_regA (by assumption) | exact x_regB (by assumption))) (cwV 1 hts gX0_signum_X0_kindOf rfl rfl rfl (by decide +kernel) ⟨Nat.le_of_ble_eq_true rfl, Nat.le_of_ble_eq_true rfl⟩) (rd_preV hK hP rfl rfl) rfl rfl hl.1 rfl (lv_room (Nat.le_of_ble_eq_true rfl)) dX0_signum_2 ⟨Nat.zero_le _, Nat.zero_le _⟩) ?_
  refine W.eq (g2 := F0 m 5 ls ([.int (f_X0_kindOf ft ff a1)])) rfl ?_
  refine lv_iconst (v := 4) hx hb dX0_signum_5 (by decide) ?_
  by_cases cV_1 : (if (f_X0_kindOf ft ff a1) = 4 then false else (if (lg_cmp (ff a1.toNatClampNeg) 0) = 0 then true else false)) = true
  · refine w_join (F0 m 20 ls ([])) ?_ (fun hJ_2 => ?_)
    · refine lv_iconst (v := 0) hx hb dX0_signum_20 (by decide) ?_
      refine w_asi (y := (f_X0_signum ft ff a1)) (by unfold f_X0_signum; rw [if_pos cV_1]) ?_
      exact W.iret (v := (f_X0_signum ft ff a1)) hx hb hr (fun t ht _ => ⟨rfl, ht⟩) (fun _ h => nomatch h) dX0_signum_21
    · refine lv_icmp_eq (tgt := 22) hx hb dX0_signum_6 (by decide) (fun c_3 => ?_) (fun c_3 => ?_)
      · exact absurd cV_1 (by rw [if_pos c_3]; exact Bool.false_ne_true)
      · refine lv_aload_n hx hb dX0_signum_9 rfl (lv_at hl 0 rfl) ?_
        refine va_get (D := (dC, dI)) (ci := 0) (v := .ref qf) (C := RX0) (T := TX0) (N := 6) hx hb hts hin_X0 hown hK hP 0 rfl rfl 1 (by decide) (hts (.fieldLink RX0 15 "TemporaryReals" "fractions" "[J") (by decide +kernel)) (fun _ h9 => h9) rfl dX0_signum_10 ?_
        refine lv_iload_n hx hb dX0_signum_13 rfl (lv_at hl 1 rfl) ?_
        refine va_lald hx hb hK hP 2 1 rfl rfl (by first | assumption | exact x_reg (by assumption) | exact x_regA (by assumption) | exact x_regB (by assumption)) dX0_signum_14 ?_
        refine lv_lconst (v := 0) hx hb dX0_signum_15 (by decide) ?_
        refine W.lcmp hx hb dX0_signum_16 ?_
        refine lv_if_ne (tgt := 22) hx hb dX0_signum_17 (by decide) (fun c_4 => ?_) (fun c_4 => ?_)
        · exact absurd cV_1 (by rw [if_neg c_3, if_neg c_4]; exact Bool.false_ne_true)
        · exact hJ_2
  · refine w_join (F0 m 22 ls ([])) ?_ (fun hJ_2 => ?_)
    · refine lv_aload_n hx hb dX0_signum_22 rfl (lv_at hl 0 rfl) ?_
      refine lv_iload_n hx hb dX0_signum_23 rfl (lv_at hl 1 rfl) ?_
      refine W.callV (r := .int (f_X0_isNegative ft a1)) (W.runV (As := [.int a1]) (rest := []) ⟨hx, hb, hml, hown, hts⟩ (c_X0_isNegative l dC dI cI cL h0 qt qf ft ff w lt lk lc a1 (by first | assumption | exact x_reg (by assumption) | exact x_regA (by assumption) | exact x_regB (by assumption))) (cwV 1 hts gX0_signum_X0_isNegative rfl rfl rfl (by decide +kernel) ⟨Nat.le_of_ble_eq_true rfl, Nat.le_of_ble_eq_true rfl⟩) (rd_preV hK hP rfl rfl) rfl rfl hl.1 rfl (lv_room (Nat.le_of_ble_eq_true rfl)) dX0_signum_24 ⟨Nat.zero_le _, Nat.zero_le _⟩) ?_
      refine W.eq (g2 := F0 m 27 ls ([.int (f_X0_isNegative ft a1)])) rfl ?_
      refine w_join (F0 m 35 ls (.int (if (f_X0_isNegative ft a1) = 0 then 1 else (-1)) :: [])) ?_ (fun hJ_7 => ?_)
      · refine w_asi (y := (f_X0_signum ft ff a1)) (by unfold f_X0_signum; rw [if_neg cV_1]) ?_
        exact W.iret (v := (f_X0_signum ft ff a1)) hx hb hr (fun t ht _ => ⟨rfl, ht⟩) (fun _ h => nomatch h) dX0_signum_35
      · refine lv_if_eq (tgt := 34) hx hb dX0_signum_27 (by decide) (fun c_8 => ?_) (fun c_8 => ?_)
        · refine lv_iconst (v := 1) hx hb dX0_signum_34 (by decide) ?_
          exact W.eq (by rw [if_pos c_8]) hJ_7
        · refine lv_iconst (v := (-1)) hx hb dX0_signum_30 (by decide) ?_
          refine lv_goto (tgt := 35) hx hb dX0_signum_31 (by decide) ?_
          exact W.eq (by rw [if_neg c_8]) hJ_7
    · refine lv_icmp_eq (tgt := 22) hx hb dX0_signum_6 (by decide) (fun c_5 => ?_) (fun c_5 => ?_)
      · exact hJ_2
      · refine lv_aload_n hx hb dX0_signum_9 rfl (lv_at hl 0 rfl) ?_
        refine va_get (D := (dC, dI)) (ci := 0) (v := .ref qf) (C := RX0) (T := TX0) (N := 6) hx hb hts hin_X0 hown hK hP 0 rfl rfl 1 (by decide) (hts (.fieldLink RX0 15 "TemporaryReals" "fractions" "[J") (by decide +kernel)) (fun _ h9 => h9) rfl dX0_signum_10 ?_
        refine lv_iload_n hx hb dX0_signum_13 rfl (lv_at hl 1 rfl) ?_
        refine va_lald hx hb hK hP 2 1 rfl rfl (by first | assumption | exact x_reg (by assumption) | exact x_regA (by assumption) | exact x_regB (by assumption)) dX0_signum_14 ?_
        refine lv_lconst (v := 0) hx hb dX0_signum_15 (by decide) ?_
        refine W.lcmp hx hb dX0_signum_16 ?_
        refine lv_if_ne (tgt := 22) hx hb dX0_signum_17 (by decide) (fun c_6 => ?_) (fun c_6 => ?_)
        · exact hJ_2
        · exact absurd (by rw [if_neg c_5, if_pos c_6]) cV_1
def f_X0_plainShift (ft : Nat → Int32) (ff : Nat → Int64) (a1 : Int32) : Int32 :=
  (if ((if (f_X0_powerOf ft a1) < 1 then 1 else (f_X0_powerOf ft a1)) - 1) < (f_JL_numberOfLeadingZeros (ff a1.toNatClampNeg)) then ((if (f_X0_powerOf ft a1) < 1 then 1 else (f_X0_powerOf ft a1)) - 1) else (f_JL_numberOfLeadingZeros (ff a1.toNatClampNeg)))
set_option maxHeartbeats 4000000 in
set_option maxRecDepth 100000 in
theorem c_X0_plainShift (l : Launch) (dC : Nat → ClassId) (dI : Nat → Nat → Nat) (cI cL : ClassId) (h0 qt qf : Nat) (ft : Nat → Int32) (ff : Nat → Int64) (w : Int32) (lt : Int32) (lk : Int32) (lc : Int32) (a1 : Int32) (hr1 : vp_in a1 8) : Met l yX0_plainShift wsX0_plainShift ({ frames := 2, cells := 0, slots := 0, locals := 43 }) (rd_Pc (dC, dI) (x_W cI cL h0 qt qf ft ff w lt lk lc) (x_T cI cL) [.ref h0, .int a1]) (k2_QcV (.int (f_X0_plainShift ft ff a1))) 0 0 (fun _ => False) := by
  refine Met.ofW (cc := cX0_plainShift) (maxL := 2) (ret := (some .int)) (by decide) rfl ?_
  intro p e s m args below meth c s₁ B hml hv
  obtain ⟨rfl, hP, hK⟩ := hv
  have hx := B.exec
  have hb := B.bytes
  have hr := B.returns
  have hts := atoms_spec (ws := wsX0_plainShift) B.pre
  have hown : s.vm.findClass RX0 = some m.cls := findClass_of_methodNamed B.named
  have hlocks := B.notSynchronized
  have hin_X0 : ∀ w ∈ u_ws RX0 TX0 6, w ∈ wsX0_plainShift := by decide +kernel
  have hP : va_P (dC, dI) vwCl [(h0, .inr (0, [.ref qt, .ref qf, .int w, .int lt, .int lk, .int lc])), (qt, .inl (cI, 8, .inl ft)), (qf, .inl (cL, 8, .inr (.inl ff)))] s.heap := hP
  have hl := lv_entry ([.ref h0, .int a1]) (n := 2) (Nat.le_of_ble_eq_true rfl)
  rw [lg_entry_eq]
  generalize (lg_sl ([.ref h0, .int a1]) ++ List.replicate (2 - (lg_sl ([.ref h0, .int a1])).length) Slot.unset).toArray = ls at hl ⊢
  have hl : lv_has ls 2 [(0, .ref h0), (1, .int a1)] := hl
  refine lv_aload_n hx hb dX0_plainShift_0 rfl (lv_at hl 0 rfl) ?_
  refine va_get (D := (dC, dI)) (ci := 0) (v := .ref qf) (C := RX0) (T := TX0) (N := 6) hx hb hts hin_X0 hown hK hP 0 rfl rfl 1 (by decide) (hts (.fieldLink RX0 15 "TemporaryReals" "fractions" "[J") (by decide +kernel)) (fun _ h9 => h9) rfl dX0_plainShift_1 ?_
  refine lv_iload_n hx hb dX0_plainShift_4 rfl (lv_at hl 1 rfl) ?_
  refine va_lald hx hb hK hP 2 1 rfl rfl (by first | assumption | exact x_reg (by assumption) | exact x_regA (by assumption) | exact x_regB (by assumption)) dX0_plainShift_5 ?_
  refine W.callV (r := .int (f_JL_numberOfLeadingZeros (ff a1.toNatClampNeg))) (W.runS (As := [.long (ff a1.toNatClampNeg)]) (rest := []) ⟨hx, hb, hml, hown, hts⟩ (c_JL_numberOfLeadingZeros l (ff a1.toNatClampNeg) ) (va_cwS 1 hts gX0_plainShift_JL_numberOfLeadingZeros rfl rfl rfl (by decide +kernel) ⟨Nat.le_of_ble_eq_true rfl, Nat.le_of_ble_eq_true rfl⟩) pu_pre rfl rfl hl.1 rfl (lv_room (Nat.le_of_ble_eq_true rfl)) dX0_plainShift_6 ⟨Nat.zero_le _, Nat.zero_le _⟩) ?_
  refine W.eq (g2 := F0 m 9 ls ([.int (f_JL_numberOfLeadingZeros (ff a1.toNatClampNeg))])) rfl ?_
  refine lv_aload_n hx hb dX0_plainShift_9 rfl (lv_at hl 0 rfl) ?_
  refine lv_iload_n hx hb dX0_plainShift_10 rfl (lv_at hl 1 rfl) ?_
  refine W.callV (r := .int (f_X0_powerOf ft a1)) (W.runV (As := [.int a1]) (rest := [.int (f_JL_numberOfLeadingZeros (ff a1.toNatClampNeg))]) ⟨hx, hb, hml, hown, hts⟩ (c_X0_powerOf l dC dI cI cL h0 qt qf ft ff w lt lk lc a1 (by first | assumption | exact x_reg (by assumption) | exact x_regA (by assumption) | exact x_regB (by assumption))) (cwV 1 hts gX0_plainShift_X0_powerOf rfl rfl rfl (by decide +kernel) ⟨Nat.le_of_ble_eq_true rfl, Nat.le_of_ble_eq_true rfl⟩) (rd_preV hK hP rfl rfl) rfl rfl hl.1 rfl (lv_room (Nat.le_of_ble_eq_true rfl)) dX0_plainShift_11 ⟨Nat.zero_le _, Nat.zero_le _⟩) ?_
  refine W.eq (g2 := F0 m 14 ls ([.int (f_X0_powerOf ft a1), .int (f_JL_numberOfLeadingZeros (ff a1.toNatClampNeg))])) rfl ?_
  refine lv_iconst (v := 1) hx hb dX0_plainShift_14 (by decide) ?_
  refine va_mmax hx hb (hml.trans hl.1.symm) hown (hts (.methodLink RX0 83 Lib.Math.max.name) (by decide +kernel)) (hts (.static Lib.Math.max.name) (by decide +kernel)) (hts (.initialized "java/lang/Math") (by decide +kernel)) (hts (.code Lib.Math.max.name Lib.Math.max.code 2 (some .int)) (by decide +kernel)) (Nat.le_of_ble_eq_true rfl) (Nat.le_of_ble_eq_true rfl) (Nat.zero_le _) (Nat.zero_le _) dX0_plainShift_15 ?_
  refine lv_iconst (v := 1) hx hb dX0_plainShift_18 (by decide) ?_
  refine lv_isub hx hb dX0_plainShift_19 ?_
  refine va_mmin hx hb (hml.trans hl.1.symm) hown (hts (.methodLink RX0 180 Lib.Math.min.name) (by decide +kernel)) (hts (.static Lib.Math.min.name) (by decide +kernel)) (hts (.initialized "java/lang/Math") (by decide +kernel)) (hts (.code Lib.Math.min.name Lib.Math.min.code 2 (some .int)) (by decide +kernel)) (Nat.le_of_ble_eq_true rfl) (Nat.le_of_ble_eq_true rfl) (Nat.zero_le _) (Nat.zero_le _) dX0_plainShift_20 ?_
  refine w_asi (y := (f_X0_plainShift ft ff a1)) (by unfold f_X0_plainShift; rfl) ?_
  exact W.iret (v := (f_X0_plainShift ft ff a1)) hx hb hr (fun t ht _ => ⟨rfl, ht⟩) (fun _ h => nomatch h) dX0_plainShift_23
def f_X0_plainFraction (ft : Nat → Int32) (ff : Nat → Int64) (a1 : Int32) : Int64 :=
  if (f_X0_powerOf ft a1) = 32767 then
    (-9223372036854775808)
  else
    (f_X0_shiftIn (ff a1.toNatClampNeg) 0 (f_X0_plainShift ft ff a1))
set_option maxHeartbeats 4000000 in
set_option maxRecDepth 100000 in
theorem c_X0_plainFraction (l : Launch) (dC : Nat → ClassId) (dI : Nat → Nat → Nat) (cI cL : ClassId) (h0 qt qf : Nat) (ft : Nat → Int32) (ff : Nat → Int64) (w : Int32) (lt : Int32) (lk : Int32) (lc : Int32) (a1 : Int32) (hr1 : vp_in a1 8) : Met l yX0_plainFraction wsX0_plainFraction ({ frames := 3, cells := 0, slots := 0, locals := 64 }) (rd_Pc (dC, dI) (x_W cI cL h0 qt qf ft ff w lt lk lc) (x_T cI cL) [.ref h0, .int a1]) (k2_QcV (.long (f_X0_plainFraction ft ff a1))) 0 0 (fun _ => False) := by
  refine Met.ofW (cc := cX0_plainFraction) (maxL := 2) (ret := (some .long)) (by decide) rfl ?_
  intro p e s m args below meth c s₁ B hml hv
  obtain ⟨rfl, hP, hK⟩ := hv
  have hx := B.exec
  have hb := B.bytes
  have hr := B.returns
  have hts := atoms_spec (ws := wsX0_plainFraction) B.pre
  have hown : s.vm.findClass RX0 = some m.cls := findClass_of_methodNamed B.named
  have hlocks := B.notSynchronized
  have hin_X0 : ∀ w ∈ u_ws RX0 TX0 6, w ∈ wsX0_plainFraction := by decide +kernel
  have hP : va_P (dC, dI) vwCl [(h0, .inr (0, [.ref qt, .ref qf, .int w, .int lt, .int lk, .int lc])), (qt, .inl (cI, 8, .inl ft)), (qf, .inl (cL, 8, .inr (.inl ff)))] s.heap := hP
  have hl := lv_entry ([.ref h0, .int a1]) (n := 2) (Nat.le_of_ble_eq_true rfl)
  rw [lg_entry_eq]
  generalize (lg_sl ([.ref h0, .int a1]) ++ List.replicate (2 - (lg_sl ([.ref h0, .int a1])).length) Slot.unset).toArray = ls at hl ⊢
  have hl : lv_has ls 2 [(0, .ref h0), (1, .int a1)] := hl
  refine lv_aload_n hx hb dX0_plainFraction_0 rfl (lv_at hl 0 rfl) ?_
  refine lv_iload_n hx hb dX0_plainFraction_1 rfl (lv_at hl 1 rfl) ?_
  refine W.callV (r := .int (f_X0_powerOf ft a1)) (W.runV (As := [.int a1]) (rest := []) ⟨hx, hb, hml, hown, hts⟩ (c_X0_powerOf l dC dI cI cL h0 qt qf ft ff w lt lk lc a1 (by first | assumption | exact x_reg (by assumption) | exact x_regA (by assumption) | exact x_regB (by assumption))) (cwV 1 hts gX0_plainFraction_X0_powerOf rfl rfl rfl (by decide +kernel) ⟨Nat.le_of_ble_eq_true rfl, Nat.le_of_ble_eq_true rfl⟩) (rd_preV hK hP rfl rfl) rfl rfl hl.1 rfl (lv_room (Nat.le_of_ble_eq_true rfl)) dX0_plainFraction_2 ⟨Nat.zero_le _, Nat.zero_le _⟩) ?_
  refine W.eq (g2 := F0 m 5 ls ([.int (f_X0_powerOf ft a1)])) rfl ?_
  refine lv_sipush (v := 32767) hx hb dX0_plainFraction_5 (by decide) ?_
  refine lv_icmp_ne (tgt := 15) hx hb dX0_plainFraction_8 (by decide) (fun c_1 => ?_) (fun c_1 => ?_)
  · refine lv_aload_n hx hb dX0_plainFraction_15 rfl (lv_at hl 0 rfl) ?_
    refine va_get (D := (dC, dI)) (ci := 0) (v := .ref qf) (C := RX0) (T := TX0) (N := 6) hx hb hts hin_X0 hown hK hP 0 rfl rfl 1 (by decide) (hts (.fieldLink RX0 15 "TemporaryReals" "fractions" "[J") (by decide +kernel)) (fun _ h9 => h9) rfl dX0_plainFraction_16 ?_
    refine lv_iload_n hx hb dX0_plainFraction_19 rfl (lv_at hl 1 rfl) ?_
    refine va_lald hx hb hK hP 2 1 rfl rfl (by first | assumption | exact x_reg (by assumption) | exact x_regA (by assumption) | exact x_regB (by assumption)) dX0_plainFraction_20 ?_
    refine lv_lconst (v := 0) hx hb dX0_plainFraction_21 (by decide) ?_
    refine lv_aload_n hx hb dX0_plainFraction_22 rfl (lv_at hl 0 rfl) ?_
    refine lv_iload_n hx hb dX0_plainFraction_23 rfl (lv_at hl 1 rfl) ?_
    refine W.callV (r := .int (f_X0_plainShift ft ff a1)) (W.runV (As := [.int a1]) (rest := [.long 0, .long (ff a1.toNatClampNeg)]) ⟨hx, hb, hml, hown, hts⟩ (c_X0_plainShift l dC dI cI cL h0 qt qf ft ff w lt lk lc a1 (by first | assumption | exact x_reg (by assumption) | exact x_regA (by assumption) | exact x_regB (by assumption))) (cwV 1 hts gX0_plainFraction_X0_plainShift rfl rfl rfl (by decide +kernel) ⟨Nat.le_of_ble_eq_true rfl, Nat.le_of_ble_eq_true rfl⟩) (rd_preV hK hP rfl rfl) rfl rfl hl.1 rfl (lv_room (Nat.le_of_ble_eq_true rfl)) dX0_plainFraction_24 ⟨Nat.zero_le _, Nat.zero_le _⟩) ?_
    refine W.eq (g2 := F0 m 27 ls ([.int (f_X0_plainShift ft ff a1), .long 0, .long (ff a1.toNatClampNeg)])) rfl ?_
    refine W.callV (r := .long (f_X0_shiftIn (ff a1.toNatClampNeg) 0 (f_X0_plainShift ft ff a1))) (W.runS (As := [.long (ff a1.toNatClampNeg), .long 0, .int (f_X0_plainShift ft ff a1)]) (rest := []) ⟨hx, hb, hml, hown, hts⟩ (c_X0_shiftIn l (ff a1.toNatClampNeg) 0 (f_X0_plainShift ft ff a1) ) (va_cwS 3 hts gX0_plainFraction_X0_shiftIn rfl rfl rfl (by decide +kernel) ⟨Nat.le_of_ble_eq_true rfl, Nat.le_of_ble_eq_true rfl⟩) pu_pre rfl rfl hl.1 rfl (lv_room (Nat.le_of_ble_eq_true rfl)) dX0_plainFraction_27 ⟨Nat.zero_le _, Nat.zero_le _⟩) ?_
    refine W.eq (g2 := F0 m 30 ls ([.long (f_X0_shiftIn (ff a1.toNatClampNeg) 0 (f_X0_plainShift ft ff a1))])) rfl ?_
    refine w_asl (y := (f_X0_plainFraction ft ff a1)) (by unfold f_X0_plainFraction; rw [if_neg c_1]) ?_
    exact W.lret (v := (f_X0_plainFraction ft ff a1)) hx hb hr (fun t ht _ => ⟨rfl, ht⟩) (fun _ h => nomatch h) dX0_plainFraction_30
  · refine lv_ldc2 (v := (-9223372036854775808)) hx hb hown (hts (.constantLong RX0 62 (-9223372036854775808)) (by decide +kernel)) dX0_plainFraction_11 ?_
    refine w_asl (y := (f_X0_plainFraction ft ff a1)) (by unfold f_X0_plainFraction; rw [if_pos c_1]) ?_
    exact W.lret (v := (f_X0_plainFraction ft ff a1)) hx hb hr (fun t ht _ => ⟨rfl, ht⟩) (fun _ h => nomatch h) dX0_plainFraction_14
def f_X0_plainPower (ft : Nat → Int32) (ff : Nat → Int64) (a1 : Int32) : Int32 :=
  if (f_X0_powerOf ft a1) = 32767 then
    32767
  else
    (if 0 ≤ (lg_cmp (f_X0_plainFraction ft ff a1) 0) then 0 else ((if (f_X0_powerOf ft a1) < 1 then 1 else (f_X0_powerOf ft a1)) - (f_X0_plainShift ft ff a1)))
set_option maxHeartbeats 4000000 in
set_option maxRecDepth 100000 in
theorem c_X0_plainPower (l : Launch) (dC : Nat → ClassId) (dI : Nat → Nat → Nat) (cI cL : ClassId) (h0 qt qf : Nat) (ft : Nat → Int32) (ff : Nat → Int64) (w : Int32) (lt : Int32) (lk : Int32) (lc : Int32) (a1 : Int32) (hr1 : vp_in a1 8) : Met l yX0_plainPower wsX0_plainPower ({ frames := 4, cells := 0, slots := 0, locals := 85 }) (rd_Pc (dC, dI) (x_W cI cL h0 qt qf ft ff w lt lk lc) (x_T cI cL) [.ref h0, .int a1]) (k2_QcV (.int (f_X0_plainPower ft ff a1))) 0 0 (fun _ => False) := by
  refine Met.ofW (cc := cX0_plainPower) (maxL := 2) (ret := (some .int)) (by decide) rfl ?_
  intro p e s m args below meth c s₁ B hml hv
  obtain ⟨rfl, hP, hK⟩ := hv
  have hx := B.exec
  have hb := B.bytes
  have hr := B.returns
  have hts := atoms_spec (ws := wsX0_plainPower) B.pre
  have hown : s.vm.findClass RX0 = some m.cls := findClass_of_methodNamed B.named
  have hlocks := B.notSynchronized
  have hP : va_P (dC, dI) vwCl [(h0, .inr (0, [.ref qt, .ref qf, .int w, .int lt, .int lk, .int lc])), (qt, .inl (cI, 8, .inl ft)), (qf, .inl (cL, 8, .inr (.inl ff)))] s.heap := hP
  have hl := lv_entry ([.ref h0, .int a1]) (n := 2) (Nat.le_of_ble_eq_true rfl)
  rw [lg_entry_eq]
  generalize (lg_sl ([.ref h0, .int a1]) ++ List.replicate (2 - (lg_sl ([.ref h0, .int a1])).length) Slot.unset).toArray = ls at hl ⊢
  have hl : lv_has ls 2 [(0, .ref h0), (1, .int a1)] := hl
  refine lv_aload_n hx hb dX0_plainPower_0 rfl (lv_at hl 0 rfl) ?_
  refine lv_iload_n hx hb dX0_plainPower_1 rfl (lv_at hl 1 rfl) ?_
  refine W.callV (r := .int (f_X0_powerOf ft a1)) (W.runV (As := [.int a1]) (rest := []) ⟨hx, hb, hml, hown, hts⟩ (c_X0_powerOf l dC dI cI cL h0 qt qf ft ff w lt lk lc a1 (by first | assumption | exact x_reg (by assumption) | exact x_regA (by assumption) | exact x_regB (by assumption))) (cwV 1 hts gX0_plainPower_X0_powerOf rfl rfl rfl (by decide +kernel) ⟨Nat.le_of_ble_eq_true rfl, Nat.le_of_ble_eq_true rfl⟩) (rd_preV hK hP rfl rfl) rfl rfl hl.1 rfl (lv_room (Nat.le_of_ble_eq_true rfl)) dX0_plainPower_2 ⟨Nat.zero_le _, Nat.zero_le _⟩) ?_
  refine W.eq (g2 := F0 m 5 ls ([.int (f_X0_powerOf ft a1)])) rfl ?_
  refine lv_sipush (v := 32767) hx hb dX0_plainPower_5 (by decide) ?_
  refine lv_icmp_ne (tgt := 15) hx hb dX0_plainPower_8 (by decide) (fun c_1 => ?_) (fun c_1 => ?_)
  · refine lv_aload_n hx hb dX0_plainPower_15 rfl (lv_at hl 0 rfl) ?_
    refine lv_iload_n hx hb dX0_plainPower_16 rfl (lv_at hl 1 rfl) ?_
    refine W.callV (r := .long (f_X0_plainFraction ft ff a1)) (W.runV (As := [.int a1]) (rest := []) ⟨hx, hb, hml, hown, hts⟩ (c_X0_plainFraction l dC dI cI cL h0 qt qf ft ff w lt lk lc a1 (by first | assumption | exact x_reg (by assumption) | exact x_regA (by assumption) | exact x_regB (by assumption))) (cwV 1 hts gX0_plainPower_X0_plainFraction rfl rfl rfl (by decide +kernel) ⟨Nat.le_of_ble_eq_true rfl, Nat.le_of_ble_eq_true rfl⟩) (rd_preV hK hP rfl rfl) rfl rfl hl.1 rfl (lv_room (Nat.le_of_ble_eq_true rfl)) dX0_plainPower_17 ⟨Nat.zero_le _, Nat.zero_le _⟩) ?_
    refine W.eq (g2 := F0 m 20 ls ([.long (f_X0_plainFraction ft ff a1)])) rfl ?_
    refine lv_lconst (v := 0) hx hb dX0_plainPower_20 (by decide) ?_
    refine W.lcmp hx hb dX0_plainPower_21 ?_
    refine w_join (F0 m 44 ls (.int (if 0 ≤ (lg_cmp (f_X0_plainFraction ft ff a1) 0) then 0 else ((if (f_X0_powerOf ft a1) < 1 then 1 else (f_X0_powerOf ft a1)) - (f_X0_plainShift ft ff a1))) :: [])) ?_ (fun hJ_2 => ?_)
    · refine w_asi (y := (f_X0_plainPower ft ff a1)) (by unfold f_X0_plainPower; rw [if_neg c_1]) ?_
      exact W.iret (v := (f_X0_plainPower ft ff a1)) hx hb hr (fun t ht _ => ⟨rfl, ht⟩) (fun _ h => nomatch h) dX0_plainPower_44
    · refine lv_if_ge (tgt := 43) hx hb dX0_plainPower_22 (by decide) (fun c_3 => ?_) (fun c_3 => ?_)
      · refine lv_iconst (v := 0) hx hb dX0_plainPower_43 (by decide) ?_
        exact W.eq (by rw [if_pos c_3]) hJ_2
      · refine lv_aload_n hx hb dX0_plainPower_25 rfl (lv_at hl 0 rfl) ?_
        refine lv_iload_n hx hb dX0_plainPower_26 rfl (lv_at hl 1 rfl) ?_
        refine W.callV (r := .int (f_X0_powerOf ft a1)) (W.runV (As := [.int a1]) (rest := []) ⟨hx, hb, hml, hown, hts⟩ (c_X0_powerOf l dC dI cI cL h0 qt qf ft ff w lt lk lc a1 (by first | assumption | exact x_reg (by assumption) | exact x_regA (by assumption) | exact x_regB (by assumption))) (cwV 1 hts gX0_plainPower_X0_powerOf rfl rfl rfl (by decide +kernel) ⟨Nat.le_of_ble_eq_true rfl, Nat.le_of_ble_eq_true rfl⟩) (rd_preV hK hP rfl rfl) rfl rfl hl.1 rfl (lv_room (Nat.le_of_ble_eq_true rfl)) dX0_plainPower_27 ⟨Nat.zero_le _, Nat.zero_le _⟩) ?_
        refine W.eq (g2 := F0 m 30 ls ([.int (f_X0_powerOf ft a1)])) rfl ?_
        refine lv_iconst (v := 1) hx hb dX0_plainPower_30 (by decide) ?_
        refine va_mmax hx hb (hml.trans hl.1.symm) hown (hts (.methodLink RX0 83 Lib.Math.max.name) (by decide +kernel)) (hts (.static Lib.Math.max.name) (by decide +kernel)) (hts (.initialized "java/lang/Math") (by decide +kernel)) (hts (.code Lib.Math.max.name Lib.Math.max.code 2 (some .int)) (by decide +kernel)) (Nat.le_of_ble_eq_true rfl) (Nat.le_of_ble_eq_true rfl) (Nat.zero_le _) (Nat.zero_le _) dX0_plainPower_31 ?_
        refine lv_aload_n hx hb dX0_plainPower_34 rfl (lv_at hl 0 rfl) ?_
        refine lv_iload_n hx hb dX0_plainPower_35 rfl (lv_at hl 1 rfl) ?_
        refine W.callV (r := .int (f_X0_plainShift ft ff a1)) (W.runV (As := [.int a1]) (rest := [.int (if (f_X0_powerOf ft a1) < 1 then 1 else (f_X0_powerOf ft a1))]) ⟨hx, hb, hml, hown, hts⟩ (c_X0_plainShift l dC dI cI cL h0 qt qf ft ff w lt lk lc a1 (by first | assumption | exact x_reg (by assumption) | exact x_regA (by assumption) | exact x_regB (by assumption))) (cwV 1 hts gX0_plainPower_X0_plainShift rfl rfl rfl (by decide +kernel) ⟨Nat.le_of_ble_eq_true rfl, Nat.le_of_ble_eq_true rfl⟩) (rd_preV hK hP rfl rfl) rfl rfl hl.1 rfl (lv_room (Nat.le_of_ble_eq_true rfl)) dX0_plainPower_36 ⟨Nat.zero_le _, Nat.zero_le _⟩) ?_
        refine W.eq (g2 := F0 m 39 ls ([.int (f_X0_plainShift ft ff a1), .int (if (f_X0_powerOf ft a1) < 1 then 1 else (f_X0_powerOf ft a1))])) rfl ?_
        refine lv_isub hx hb dX0_plainPower_39 ?_
        refine lv_goto (tgt := 44) hx hb dX0_plainPower_40 (by decide) ?_
        exact W.eq (by rw [if_neg c_3]) hJ_2
  · refine lv_sipush (v := 32767) hx hb dX0_plainPower_11 (by decide) ?_
    refine w_asi (y := (f_X0_plainPower ft ff a1)) (by unfold f_X0_plainPower; rw [if_pos c_1]) ?_
    exact W.iret (v := (f_X0_plainPower ft ff a1)) hx hb hr (fun t ht _ => ⟨rfl, ht⟩) (fun _ h => nomatch h) dX0_plainPower_14
def f_X0_compareSizes (ft : Nat → Int32) (ff : Nat → Int64) (a1 : Int32) (a2 : Int32) : Int32 :=
  if (f_X0_plainPower ft ff a1) = (f_X0_plainPower ft ff a2) then
    (f_JI_signum (f_JL_compareUnsigned (f_X0_plainFraction ft ff a1) (f_X0_plainFraction ft ff a2)))
  else
    (if (f_X0_plainPower ft ff a2) ≤ (f_X0_plainPower ft ff a1) then 1 else (-1))
set_option maxHeartbeats 4000000 in
set_option maxRecDepth 100000 in
theorem c_X0_compareSizes (l : Launch) (dC : Nat → ClassId) (dI : Nat → Nat → Nat) (cI cL : ClassId) (h0 qt qf : Nat) (ft : Nat → Int32) (ff : Nat → Int64) (w : Int32) (lt : Int32) (lk : Int32) (lc : Int32) (a1 : Int32) (a2 : Int32) (hr1 : vp_in a1 8) (hr2 : vp_in a2 8) : Met l yX0_compareSizes wsX0_compareSizes ({ frames := 5, cells := 0, slots := 0, locals := 106 }) (rd_Pc (dC, dI) (x_W cI cL h0 qt qf ft ff w lt lk lc) (x_T cI cL) [.ref h0, .int a1, .int a2]) (k2_QcV (.int (f_X0_compareSizes ft ff a1 a2))) 0 0 (fun _ => False) := by
  refine Met.ofW (cc := cX0_compareSizes) (maxL := 5) (ret := (some .int)) (by decide) rfl ?_
  intro p e s m args below meth c s₁ B hml hv
  obtain ⟨rfl, hP, hK⟩ := hv
  have hx := B.exec
  have hb := B.bytes
  have hr := B.returns
  have hts := atoms_spec (ws := wsX0_compareSizes) B.pre
  have hown : s.vm.findClass RX0 = some m.cls := findClass_of_methodNamed B.named
  have hlocks := B.notSynchronized
  have hP : va_P (dC, dI) vwCl [(h0, .inr (0, [.ref qt, .ref qf, .int w, .int lt, .int lk, .int lc])), (qt, .inl (cI, 8, .inl ft)), (qf, .inl (cL, 8, .inr (.inl ff)))] s.heap := hP
  have hl := lv_entry ([.ref h0, .int a1, .int a2]) (n := 5) (Nat.le_of_ble_eq_true rfl)
  rw [lg_entry_eq]
  generalize (lg_sl ([.ref h0, .int a1, .int a2]) ++ List.replicate (5 - (lg_sl ([.ref h0, .int a1, .int a2])).length) Slot.unset).toArray = ls at hl ⊢
  have hl : lv_has ls 5 [(0, .ref h0), (1, .int a1), (2, .int a2)] := hl
  refine lv_aload_n hx hb dX0_compareSizes_0 rfl (lv_at hl 0 rfl) ?_
  refine lv_iload_n hx hb dX0_compareSizes_1 rfl (lv_at hl 1 rfl) ?_
  refine W.callV (r := .int (f_X0_plainPower ft ff a1)) (W.runV (As := [.int a1]) (rest := []) ⟨hx, hb, hml, hown, hts⟩ (c_X0_plainPower l dC dI cI cL h0 qt qf ft ff w lt lk lc a1 (by first | assumption | exact x_reg (by assumption) | exact x_regA (by assumption) | exact x_regB (by assumption))) (cwV 1 hts gX0_compareSizes_X0_plainPower rfl rfl rfl (by decide +kernel) ⟨Nat.le_of_ble_eq_true rfl, Nat.le_of_ble_eq_true rfl⟩) (rd_preV hK hP rfl rfl) rfl rfl hl.1 rfl (lv_room (Nat.le_of_ble_eq_true rfl)) dX0_compareSizes_2 ⟨Nat.zero_le _, Nat.zero_le _⟩) ?_
  refine W.eq (g2 := F0 m 5 ls ([.int (f_X0_plainPower ft ff a1)])) rfl ?_
  refine lv_istore_n (lv' := [(3, .int (f_X0_plainPower ft ff a1)), (0, .ref h0), (1, .int a1), (2, .int a2)]) hx hb dX0_compareSizes_5 rfl hl (by decide) rfl (fun ls hl => ?_)
  refine lv_aload_n hx hb dX0_compareSizes_6 rfl (lv_at hl 1 rfl) ?_
  refine lv_iload_n hx hb dX0_compareSizes_7 rfl (lv_at hl 3 rfl) ?_
  refine W.callV (r := .int (f_X0_plainPower ft ff a2)) (W.runV (As := [.int a2]) (rest := []) ⟨hx, hb, hml, hown, hts⟩ (c_X0_plainPower l dC dI cI cL h0 qt qf ft ff w lt lk lc a2 (by first | assumption | exact x_reg (by assumption) | exact x_regA (by assumption) | exact x_regB (by assumption))) (cwV 1 hts gX0_compareSizes_X0_plainPower rfl rfl rfl (by decide +kernel) ⟨Nat.le_of_ble_eq_true rfl, Nat.le_of_ble_eq_true rfl⟩) (rd_preV hK hP rfl rfl) rfl rfl hl.1 rfl (lv_room (Nat.le_of_ble_eq_true rfl)) dX0_compareSizes_8 ⟨Nat.zero_le _, Nat.zero_le _⟩) ?_
  refine W.eq (g2 := F0 m 11 ls ([.int (f_X0_plainPower ft ff a2)])) rfl ?_
  refine lv_istore (lv' := [(4, .int (f_X0_plainPower ft ff a2)), (3, .int (f_X0_plainPower ft ff a1)), (0, .ref h0), (1, .int a1), (2, .int a2)]) hx hb dX0_compareSizes_11 hl (by decide) rfl (fun ls hl => ?_)
  refine lv_iload_n hx hb dX0_compareSizes_13 rfl (lv_at hl 1 rfl) ?_
  refine lv_iload hx hb dX0_compareSizes_14 (lv_at hl 0 rfl) ?_
  refine lv_icmp_eq (tgt := 31) hx hb dX0_compareSizes_16 (by decide) (fun c_1 => ?_) (fun c_1 => ?_)
  · refine lv_aload_n hx hb dX0_compareSizes_31 rfl (lv_at hl 2 rfl) ?_
    refine lv_iload_n hx hb dX0_compareSizes_32 rfl (lv_at hl 3 rfl) ?_
    refine W.callV (r := .long (f_X0_plainFraction ft ff a1)) (W.runV (As := [.int a1]) (rest := []) ⟨hx, hb, hml, hown, hts⟩ (c_X0_plainFraction l dC dI cI cL h0 qt qf ft ff w lt lk lc a1 (by first | assumption | exact x_reg (by assumption) | exact x_regA (by assumption) | exact x_regB (by assumption))) (cwV 1 hts gX0_compareSizes_X0_plainFraction rfl rfl rfl (by decide +kernel) ⟨Nat.le_of_ble_eq_true rfl, Nat.le_of_ble_eq_true rfl⟩) (rd_preV hK hP rfl rfl) rfl rfl hl.1 rfl (lv_room (Nat.le_of_ble_eq_true rfl)) dX0_compareSizes_33 ⟨Nat.zero_le _, Nat.zero_le _⟩) ?_
    refine W.eq (g2 := F0 m 36 ls ([.long (f_X0_plainFraction ft ff a1)])) rfl ?_
    refine lv_aload_n hx hb dX0_compareSizes_36 rfl (lv_at hl 2 rfl) ?_
    refine lv_iload_n hx hb dX0_compareSizes_37 rfl (lv_at hl 4 rfl) ?_
    refine W.callV (r := .long (f_X0_plainFraction ft ff a2)) (W.runV (As := [.int a2]) (rest := [.long (f_X0_plainFraction ft ff a1)]) ⟨hx, hb, hml, hown, hts⟩ (c_X0_plainFraction l dC dI cI cL h0 qt qf ft ff w lt lk lc a2 (by first | assumption | exact x_reg (by assumption) | exact x_regA (by assumption) | exact x_regB (by assumption))) (cwV 1 hts gX0_compareSizes_X0_plainFraction rfl rfl rfl (by decide +kernel) ⟨Nat.le_of_ble_eq_true rfl, Nat.le_of_ble_eq_true rfl⟩) (rd_preV hK hP rfl rfl) rfl rfl hl.1 rfl (lv_room (Nat.le_of_ble_eq_true rfl)) dX0_compareSizes_38 ⟨Nat.zero_le _, Nat.zero_le _⟩) ?_
    refine W.eq (g2 := F0 m 41 ls ([.long (f_X0_plainFraction ft ff a2), .long (f_X0_plainFraction ft ff a1)])) rfl ?_
    refine W.callV (r := .int (f_JL_compareUnsigned (f_X0_plainFraction ft ff a1) (f_X0_plainFraction ft ff a2))) (W.runS (As := [.long (f_X0_plainFraction ft ff a1), .long (f_X0_plainFraction ft ff a2)]) (rest := []) ⟨hx, hb, hml, hown, hts⟩ (c_JL_compareUnsigned l (f_X0_plainFraction ft ff a1) (f_X0_plainFraction ft ff a2) ) (va_cwS 2 hts gX0_compareSizes_JL_compareUnsigned rfl rfl rfl (by decide +kernel) ⟨Nat.le_of_ble_eq_true rfl, Nat.le_of_ble_eq_true rfl⟩) pu_pre rfl rfl hl.1 rfl (lv_room (Nat.le_of_ble_eq_true rfl)) dX0_compareSizes_41 ⟨Nat.zero_le _, Nat.zero_le _⟩) ?_
    refine W.eq (g2 := F0 m 44 ls ([.int (f_JL_compareUnsigned (f_X0_plainFraction ft ff a1) (f_X0_plainFraction ft ff a2))])) rfl ?_
    refine W.callV (r := .int (f_JI_signum (f_JL_compareUnsigned (f_X0_plainFraction ft ff a1) (f_X0_plainFraction ft ff a2)))) (W.runS (As := [.int (f_JL_compareUnsigned (f_X0_plainFraction ft ff a1) (f_X0_plainFraction ft ff a2))]) (rest := []) ⟨hx, hb, hml, hown, hts⟩ (c_JI_signum l (f_JL_compareUnsigned (f_X0_plainFraction ft ff a1) (f_X0_plainFraction ft ff a2)) ) (va_cwS 1 hts gX0_compareSizes_JI_signum rfl rfl rfl (by decide +kernel) ⟨Nat.le_of_ble_eq_true rfl, Nat.le_of_ble_eq_true rfl⟩) pu_pre rfl rfl hl.1 rfl (lv_room (Nat.le_of_ble_eq_true rfl)) dX0_compareSizes_44 ⟨Nat.zero_le _, Nat.zero_le _⟩) ?_
    refine W.eq (g2 := F0 m 47 ls ([.int (f_JI_signum (f_JL_compareUnsigned (f_X0_plainFraction ft ff a1) (f_X0_plainFraction ft ff a2)))])) rfl ?_
    refine w_asi (y := (f_X0_compareSizes ft ff a1 a2)) (by unfold f_X0_compareSizes; rw [if_pos c_1]) ?_
    exact W.iret (v := (f_X0_compareSizes ft ff a1 a2)) hx hb hr (fun t ht _ => ⟨rfl, ht⟩) (fun _ h => nomatch h) dX0_compareSizes_47
  · refine lv_iload_n hx hb dX0_compareSizes_19 rfl (lv_at hl 1 rfl) ?_
    refine lv_iload hx hb dX0_compareSizes_20 (lv_at hl 0 rfl) ?_
    refine w_join (F0 m 30 ls (.int (if (f_X0_plainPower ft ff a2) ≤ (f_X0_plainPower ft ff a1) then 1 else (-1)) :: [])) ?_ (fun hJ_2 => ?_)
    · refine w_asi (y := (f_X0_compareSizes ft ff a1 a2)) (by unfold f_X0_compareSizes; rw [if_neg c_1]) ?_
      exact W.iret (v := (f_X0_compareSizes ft ff a1 a2)) hx hb hr (fun t ht _ => ⟨rfl, ht⟩) (fun _ h => nomatch h) dX0_compareSizes_30
    · refine lv_icmp_ge (tgt := 29) hx hb dX0_compareSizes_22 (by decide) (fun c_3 => ?_) (fun c_3 => ?_)
      · refine lv_iconst (v := 1) hx hb dX0_compareSizes_29 (by decide) ?_
        exact W.eq (by rw [if_pos c_3]) hJ_2
      · refine lv_iconst (v := (-1)) hx hb dX0_compareSizes_25 (by decide) ?_
        refine lv_goto (tgt := 30) hx hb dX0_compareSizes_26 (by decide) ?_
        exact W.eq (by rw [if_neg c_3]) hJ_2
end
section
def f_X0_store (ft : Nat → Int32) (ff : Nat → Int64) (w : Int32) (lt : Int32) (lk : Int32) (lc : Int32) (a1 : Int32) (a2 : Int32) (a3 : Int32) (a4 : Int64) : XS :=
  ((upd ft a1.toNatClampNeg ((if a2 = 0 then 0 else 32768) ||| a3)), (vp_updL ff a1.toNatClampNeg a4), w, lt, lk, lc)
set_option maxHeartbeats 1000000 in
set_option maxRecDepth 100000 in
theorem c_X0_store (l : Launch) (dC : Nat → ClassId) (dI : Nat → Nat → Nat) (cI cL : ClassId) (h0 qt qf : Nat) (sz : Nat) (ft : Nat → Int32) (ff : Nat → Int64) (w : Int32) (lt : Int32) (lk : Int32) (lc : Int32) (a1 : Int32) (a2 : Int32) (a3 : Int32) (a4 : Int64) (hr1 : vp_in a1 8) : Met l yX0_store wsX0_store ({ frames := 0, cells := 0, slots := 0, locals := 0 }) (wr_Pc (dC, dI) (x_W cI cL h0 qt qf ft ff w lt lk lc) (x_T cI cL) sz [.ref h0, .int a1, .int a2, .int a3, .long a4]) (wr_Qv (dC, dI) (x_WU cI cL h0 qt qf) (f_X0_store ft ff w lt lk lc a1 a2 a3 a4) (va_A (x_W cI cL h0 qt qf ft ff w lt lk lc) sz)) 0 0 (va_A (x_W cI cL h0 qt qf ft ff w lt lk lc) sz) := by
  refine Met.ofW (cc := cX0_store) (maxL := 6) (ret := none) (by decide) rfl ?_
  intro p e s m args below meth c s₁ B hml hv
  obtain ⟨rfl, hsz, hP, hK, hD0⟩ := hv
  have hx := B.exec
  have hb := B.bytes
  have hr := B.returns
  have hts := atoms_spec (ws := wsX0_store) B.pre
  have hown : s.vm.findClass RX0 = some m.cls := findClass_of_methodNamed B.named
  have hlocks := B.notSynchronized
  have hin_X0 : ∀ w ∈ u_ws RX0 TX0 6, w ∈ wsX0_store := by decide +kernel
  subst hsz
  have hD := hD0.self (sz := s.heap.size)
  generalize hAe : va_A (x_W cI cL h0 qt qf ft ff w lt lk lc) s.heap.size = A at hD ⊢
  have hA : ∀ q : Nat, s.heap.size ≤ q → A q := fun q h => by rw [← hAe]; exact Or.inr h
  have hS : va_S A s.heap s.heap [] := va_S.rf
  have hD : va_D A [(h0, .inr (0, [.ref qt, .ref qf, .int w, .int lt, .int lk, .int lc])), (qt, .inl (cI, 8, .inl ft)), (qf, .inl (cL, 8, .inr (.inl ff)))] := hD
  have hP : va_P (dC, dI) vwCl [(h0, .inr (0, [.ref qt, .ref qf, .int w, .int lt, .int lk, .int lc])), (qt, .inl (cI, 8, .inl ft)), (qf, .inl (cL, 8, .inr (.inl ff)))] s.heap := hP
  have hl := lv_entry ([.ref h0, .int a1, .int a2, .int a3, .long a4]) (n := 6) (Nat.le_of_ble_eq_true rfl)
  rw [lg_entry_eq]
  generalize (lg_sl ([.ref h0, .int a1, .int a2, .int a3, .long a4]) ++ List.replicate (6 - (lg_sl ([.ref h0, .int a1, .int a2, .int a3, .long a4])).length) Slot.unset).toArray = ls at hl ⊢
  have hl : lv_has ls 6 [(0, .ref h0), (1, .int a1), (2, .int a2), (3, .int a3), (4, .long a4)] := hl
  refine lv_aload_n hx hb dX0_store_0 rfl (lv_at hl 0 rfl) ?_
  refine va_get (D := (dC, dI)) (ci := 0) (v := .ref qt) (C := RX0) (T := TX0) (N := 6) hx hb hts hin_X0 hown hK hP 0 rfl rfl 0 (by decide) (hts (.fieldLink RX0 11 "TemporaryReals" "tops" "[I") (by decide +kernel)) (fun _ h9 => h9) rfl dX0_store_1 ?_
  refine lv_iload_n hx hb dX0_store_4 rfl (lv_at hl 1 rfl) ?_
  refine lv_iload_n hx hb dX0_store_5 rfl (lv_at hl 2 rfl) ?_
  refine w_join (F0 m 15 ls (.int (if a2 = 0 then 0 else 32768) :: [.int a1, .ref qt])) ?_ (fun hJ_1 => ?_)
  · refine lv_iload_n hx hb dX0_store_15 rfl (lv_at hl 3 rfl) ?_
    refine lv_ior hx hb dX0_store_16 ?_
    refine va_iast hx hb hK hP hD hS 1 0 rfl rfl (by first | assumption | exact x_reg (by assumption) | exact x_regA (by assumption) | exact x_regB (by assumption)) dX0_store_17 (fun H locs hP hD hS => ?_)
    have hP : va_P (dC, dI) vwCl [(h0, .inr (0, [.ref qt, .ref qf, .int w, .int lt, .int lk, .int lc])), (qt, .inl (cI, 8, .inl (upd ft a1.toNatClampNeg ((if a2 = 0 then 0 else 32768) ||| a3)))), (qf, .inl (cL, 8, .inr (.inl ff)))] H := hP
    have hD : va_D A [(h0, .inr (0, [.ref qt, .ref qf, .int w, .int lt, .int lk, .int lc])), (qt, .inl (cI, 8, .inl (upd ft a1.toNatClampNeg ((if a2 = 0 then 0 else 32768) ||| a3)))), (qf, .inl (cL, 8, .inr (.inl ff)))] := hD
    refine lv_aload_n hx hb dX0_store_18 rfl (lv_at hl 0 rfl) ?_
    refine va_get (D := (dC, dI)) (ci := 0) (v := .ref qf) (C := RX0) (T := TX0) (N := 6) hx hb hts hin_X0 hown hK hP 0 rfl rfl 1 (by decide) (hts (.fieldLink RX0 15 "TemporaryReals" "fractions" "[J") (by decide +kernel)) (fun _ h9 => h9) rfl dX0_store_19 ?_
    refine lv_iload_n hx hb dX0_store_22 rfl (lv_at hl 1 rfl) ?_
    refine lv_lload hx hb dX0_store_23 (lv_at hl 4 rfl) ?_
    refine va_last hx hb hK hP hD hS 2 1 rfl rfl (by first | assumption | exact x_reg (by assumption) | exact x_regA (by assumption) | exact x_regB (by assumption)) dX0_store_25 (fun H locs hP hD hS => ?_)
    have hP : va_P (dC, dI) vwCl [(h0, .inr (0, [.ref qt, .ref qf, .int w, .int lt, .int lk, .int lc])), (qt, .inl (cI, 8, .inl (upd ft a1.toNatClampNeg ((if a2 = 0 then 0 else 32768) ||| a3)))), (qf, .inl (cL, 8, .inr (.inl (vp_updL ff a1.toNatClampNeg a4))))] H := hP
    have hD : va_D A [(h0, .inr (0, [.ref qt, .ref qf, .int w, .int lt, .int lk, .int lc])), (qt, .inl (cI, 8, .inl (upd ft a1.toNatClampNeg ((if a2 = 0 then 0 else 32768) ||| a3)))), (qf, .inl (cL, 8, .inr (.inl (vp_updL ff a1.toNatClampNeg a4))))] := hD
    exact W.vret hx hb hr (fun t ht hW => ⟨⟨((upd ft a1.toNatClampNeg ((if a2 = 0 then 0 else 32768) ||| a3)), (vp_updL ff a1.toNatClampNeg a4), w, lt, lk, lc), rfl, (show (f_X0_store ft ff w lt lk lc a1 a2 a3 a4) = (((upd ft a1.toNatClampNeg ((if a2 = 0 then 0 else 32768) ||| a3)), (vp_updL ff a1.toNatClampNeg a4), w, lt, lk, lc) : XS) from by unfold f_X0_store; rfl).symm, by rw [ht]; exact hP, hD⟩, hS.F ht⟩) hS.2.2 dX0_store_26
  · refine lv_if_eq (tgt := 14) hx hb dX0_store_6 (by decide) (fun c_2 => ?_) (fun c_2 => ?_)
    · refine lv_iconst (v := 0) hx hb dX0_store_14 (by decide) ?_
      exact W.eq (by rw [if_pos c_2]) hJ_1
    · refine lv_ldc (v := 32768) hx hb hown (hts (.constant RX0 129 32768) (by decide +kernel)) dX0_store_9 ?_
      refine lv_goto (tgt := 15) hx hb dX0_store_11 (by decide) ?_
      exact W.eq (by rw [if_neg c_2]) hJ_1
def f_X0_copy (ft : Nat → Int32) (ff : Nat → Int64) (w : Int32) (lt : Int32) (lk : Int32) (lc : Int32) (a1 : Int32) (a2 : Int32) : XS :=
  ((upd ft a2.toNatClampNeg (ft a1.toNatClampNeg)), (vp_updL ff a2.toNatClampNeg (ff a1.toNatClampNeg)), w, lt, lk, lc)
set_option maxHeartbeats 1000000 in
set_option maxRecDepth 100000 in
theorem c_X0_copy (l : Launch) (dC : Nat → ClassId) (dI : Nat → Nat → Nat) (cI cL : ClassId) (h0 qt qf : Nat) (sz : Nat) (ft : Nat → Int32) (ff : Nat → Int64) (w : Int32) (lt : Int32) (lk : Int32) (lc : Int32) (a1 : Int32) (a2 : Int32) (hr1 : vp_in a1 8) (hr2 : vp_in a2 8) : Met l yX0_copy wsX0_copy ({ frames := 0, cells := 0, slots := 0, locals := 0 }) (wr_Pc (dC, dI) (x_W cI cL h0 qt qf ft ff w lt lk lc) (x_T cI cL) sz [.ref h0, .int a1, .int a2]) (wr_Qv (dC, dI) (x_WU cI cL h0 qt qf) (f_X0_copy ft ff w lt lk lc a1 a2) (va_A (x_W cI cL h0 qt qf ft ff w lt lk lc) sz)) 0 0 (va_A (x_W cI cL h0 qt qf ft ff w lt lk lc) sz) := by
  refine Met.ofW (cc := cX0_copy) (maxL := 3) (ret := none) (by decide) rfl ?_
  intro p e s m args below meth c s₁ B hml hv
  obtain ⟨rfl, hsz, hP, hK, hD0⟩ := hv
  have hx := B.exec
  have hb := B.bytes
  have hr := B.returns
  have hts := atoms_spec (ws := wsX0_copy) B.pre
  have hown : s.vm.findClass RX0 = some m.cls := findClass_of_methodNamed B.named
  have hlocks := B.notSynchronized
  have hin_X0 : ∀ w ∈ u_ws RX0 TX0 6, w ∈ wsX0_copy := by decide +kernel
  subst hsz
  have hD := hD0.self (sz := s.heap.size)
  generalize hAe : va_A (x_W cI cL h0 qt qf ft ff w lt lk lc) s.heap.size = A at hD ⊢
  have hA : ∀ q : Nat, s.heap.size ≤ q → A q := fun q h => by rw [← hAe]; exact Or.inr h
  have hS : va_S A s.heap s.heap [] := va_S.rf
  have hD : va_D A [(h0, .inr (0, [.ref qt, .ref qf, .int w, .int lt, .int lk, .int lc])), (qt, .inl (cI, 8, .inl ft)), (qf, .inl (cL, 8, .inr (.inl ff)))] := hD
  have hP : va_P (dC, dI) vwCl [(h0, .inr (0, [.ref qt, .ref qf, .int w, .int lt, .int lk, .int lc])), (qt, .inl (cI, 8, .inl ft)), (qf, .inl (cL, 8, .inr (.inl ff)))] s.heap := hP
  have hl := lv_entry ([.ref h0, .int a1, .int a2]) (n := 3) (Nat.le_of_ble_eq_true rfl)
  rw [lg_entry_eq]
  generalize (lg_sl ([.ref h0, .int a1, .int a2]) ++ List.replicate (3 - (lg_sl ([.ref h0, .int a1, .int a2])).length) Slot.unset).toArray = ls at hl ⊢
  have hl : lv_has ls 3 [(0, .ref h0), (1, .int a1), (2, .int a2)] := hl
  refine lv_aload_n hx hb dX0_copy_0 rfl (lv_at hl 0 rfl) ?_
  refine va_get (D := (dC, dI)) (ci := 0) (v := .ref qt) (C := RX0) (T := TX0) (N := 6) hx hb hts hin_X0 hown hK hP 0 rfl rfl 0 (by decide) (hts (.fieldLink RX0 11 "TemporaryReals" "tops" "[I") (by decide +kernel)) (fun _ h9 => h9) rfl dX0_copy_1 ?_
  refine lv_iload_n hx hb dX0_copy_4 rfl (lv_at hl 2 rfl) ?_
  refine lv_aload_n hx hb dX0_copy_5 rfl (lv_at hl 0 rfl) ?_
  refine va_get (D := (dC, dI)) (ci := 0) (v := .ref qt) (C := RX0) (T := TX0) (N := 6) hx hb hts hin_X0 hown hK hP 0 rfl rfl 0 (by decide) (hts (.fieldLink RX0 11 "TemporaryReals" "tops" "[I") (by decide +kernel)) (fun _ h9 => h9) rfl dX0_copy_6 ?_
  refine lv_iload_n hx hb dX0_copy_9 rfl (lv_at hl 1 rfl) ?_
  refine va_iald hx hb hK hP 1 0 rfl rfl (by first | assumption | exact x_reg (by assumption) | exact x_regA (by assumption) | exact x_regB (by assumption)) dX0_copy_10 ?_
  refine va_iast hx hb hK hP hD hS 1 0 rfl rfl (by first | assumption | exact x_reg (by assumption) | exact x_regA (by assumption) | exact x_regB (by assumption)) dX0_copy_11 (fun H locs hP hD hS => ?_)
  have hP : va_P (dC, dI) vwCl [(h0, .inr (0, [.ref qt, .ref qf, .int w, .int lt, .int lk, .int lc])), (qt, .inl (cI, 8, .inl (upd ft a2.toNatClampNeg (ft a1.toNatClampNeg)))), (qf, .inl (cL, 8, .inr (.inl ff)))] H := hP
  have hD : va_D A [(h0, .inr (0, [.ref qt, .ref qf, .int w, .int lt, .int lk, .int lc])), (qt, .inl (cI, 8, .inl (upd ft a2.toNatClampNeg (ft a1.toNatClampNeg)))), (qf, .inl (cL, 8, .inr (.inl ff)))] := hD
  refine lv_aload_n hx hb dX0_copy_12 rfl (lv_at hl 0 rfl) ?_
  refine va_get (D := (dC, dI)) (ci := 0) (v := .ref qf) (C := RX0) (T := TX0) (N := 6) hx hb hts hin_X0 hown hK hP 0 rfl rfl 1 (by decide) (hts (.fieldLink RX0 15 "TemporaryReals" "fractions" "[J") (by decide +kernel)) (fun _ h9 => h9) rfl dX0_copy_13 ?_
  refine lv_iload_n hx hb dX0_copy_16 rfl (lv_at hl 2 rfl) ?_
  refine lv_aload_n hx hb dX0_copy_17 rfl (lv_at hl 0 rfl) ?_
  refine va_get (D := (dC, dI)) (ci := 0) (v := .ref qf) (C := RX0) (T := TX0) (N := 6) hx hb hts hin_X0 hown hK hP 0 rfl rfl 1 (by decide) (hts (.fieldLink RX0 15 "TemporaryReals" "fractions" "[J") (by decide +kernel)) (fun _ h9 => h9) rfl dX0_copy_18 ?_
  refine lv_iload_n hx hb dX0_copy_21 rfl (lv_at hl 1 rfl) ?_
  refine va_lald hx hb hK hP 2 1 rfl rfl (by first | assumption | exact x_reg (by assumption) | exact x_regA (by assumption) | exact x_regB (by assumption)) dX0_copy_22 ?_
  refine va_last hx hb hK hP hD hS 2 1 rfl rfl (by first | assumption | exact x_reg (by assumption) | exact x_regA (by assumption) | exact x_regB (by assumption)) dX0_copy_23 (fun H locs hP hD hS => ?_)
  have hP : va_P (dC, dI) vwCl [(h0, .inr (0, [.ref qt, .ref qf, .int w, .int lt, .int lk, .int lc])), (qt, .inl (cI, 8, .inl (upd ft a2.toNatClampNeg (ft a1.toNatClampNeg)))), (qf, .inl (cL, 8, .inr (.inl (vp_updL ff a2.toNatClampNeg (ff a1.toNatClampNeg)))))] H := hP
  have hD : va_D A [(h0, .inr (0, [.ref qt, .ref qf, .int w, .int lt, .int lk, .int lc])), (qt, .inl (cI, 8, .inl (upd ft a2.toNatClampNeg (ft a1.toNatClampNeg)))), (qf, .inl (cL, 8, .inr (.inl (vp_updL ff a2.toNatClampNeg (ff a1.toNatClampNeg)))))] := hD
  exact W.vret hx hb hr (fun t ht hW => ⟨⟨((upd ft a2.toNatClampNeg (ft a1.toNatClampNeg)), (vp_updL ff a2.toNatClampNeg (ff a1.toNatClampNeg)), w, lt, lk, lc), rfl, (show (f_X0_copy ft ff w lt lk lc a1 a2) = (((upd ft a2.toNatClampNeg (ft a1.toNatClampNeg)), (vp_updL ff a2.toNatClampNeg (ff a1.toNatClampNeg)), w, lt, lk, lc) : XS) from by unfold f_X0_copy; rfl).symm, by rw [ht]; exact hP, hD⟩, hS.F ht⟩) hS.2.2 dX0_copy_24
def f_X0_tell (ft : Nat → Int32) (ff : Nat → Int64) (w : Int32) (lt : Int32) (lk : Int32) (lc : Int32) (a1 : Int32) (a2 : Int32) (a3 : Int32) : Int32 × XS :=
  (a1, (ft, ff, w, a1, a2, a3))
set_option maxHeartbeats 1000000 in
set_option maxRecDepth 100000 in
theorem c_X0_tell (l : Launch) (dC : Nat → ClassId) (dI : Nat → Nat → Nat) (cI cL : ClassId) (h0 qt qf : Nat) (sz : Nat) (ft : Nat → Int32) (ff : Nat → Int64) (w : Int32) (lt : Int32) (lk : Int32) (lc : Int32) (a1 : Int32) (a2 : Int32) (a3 : Int32) : Met l yX0_tell wsX0_tell ({ frames := 0, cells := 0, slots := 0, locals := 0 }) (wr_Pc (dC, dI) (x_W cI cL h0 qt qf ft ff w lt lk lc) (x_T cI cL) sz [.ref h0, .int a1, .int a2, .int a3]) (wr_Qi (dC, dI) (x_WU cI cL h0 qt qf) (f_X0_tell ft ff w lt lk lc a1 a2 a3) (va_A (x_W cI cL h0 qt qf ft ff w lt lk lc) sz)) 0 0 (va_A (x_W cI cL h0 qt qf ft ff w lt lk lc) sz) := by
  refine Met.ofW (cc := cX0_tell) (maxL := 4) (ret := (some .int)) (by decide) rfl ?_
  intro p e s m args below meth c s₁ B hml hv
  obtain ⟨rfl, hsz, hP, hK, hD0⟩ := hv
  have hx := B.exec
  have hb := B.bytes
  have hr := B.returns
  have hts := atoms_spec (ws := wsX0_tell) B.pre
  have hown : s.vm.findClass RX0 = some m.cls := findClass_of_methodNamed B.named
  have hlocks := B.notSynchronized
  have hin_X0 : ∀ w ∈ u_ws RX0 TX0 6, w ∈ wsX0_tell := by decide +kernel
  subst hsz
  have hD := hD0.self (sz := s.heap.size)
  generalize hAe : va_A (x_W cI cL h0 qt qf ft ff w lt lk lc) s.heap.size = A at hD ⊢
  have hA : ∀ q : Nat, s.heap.size ≤ q → A q := fun q h => by rw [← hAe]; exact Or.inr h
  have hS : va_S A s.heap s.heap [] := va_S.rf
  have hD : va_D A [(h0, .inr (0, [.ref qt, .ref qf, .int w, .int lt, .int lk, .int lc])), (qt, .inl (cI, 8, .inl ft)), (qf, .inl (cL, 8, .inr (.inl ff)))] := hD
  have hP : va_P (dC, dI) vwCl [(h0, .inr (0, [.ref qt, .ref qf, .int w, .int lt, .int lk, .int lc])), (qt, .inl (cI, 8, .inl ft)), (qf, .inl (cL, 8, .inr (.inl ff)))] s.heap := hP
  have hl := lv_entry ([.ref h0, .int a1, .int a2, .int a3]) (n := 4) (Nat.le_of_ble_eq_true rfl)
  rw [lg_entry_eq]
  generalize (lg_sl ([.ref h0, .int a1, .int a2, .int a3]) ++ List.replicate (4 - (lg_sl ([.ref h0, .int a1, .int a2, .int a3])).length) Slot.unset).toArray = ls at hl ⊢
  have hl : lv_has ls 4 [(0, .ref h0), (1, .int a1), (2, .int a2), (3, .int a3)] := hl
  refine lv_aload_n hx hb dX0_tell_0 rfl (lv_at hl 0 rfl) ?_
  refine lv_iload_n hx hb dX0_tell_1 rfl (lv_at hl 1 rfl) ?_
  refine va_put (D := (dC, dI)) (ci := 0) (v := .int a1) (ty := .int) (C := RX0) (T := TX0) (N := 6) hx hb hts hin_X0 tyX0 tyX0_ok nmX0 hown hK hP hD hS 0 rfl rfl 3 (by decide) (hts (.fieldLink RX0 92 "TemporaryReals" "lastTold" "I") (by decide +kernel)) (fun _ h9 => h9) rfl (by decide +kernel) rfl rfl (Nat.le_of_ble_eq_true rfl) dX0_tell_2 (fun H locs hP hD hS => ?_)
  have hP : va_P (dC, dI) vwCl [(h0, .inr (0, [.ref qt, .ref qf, .int w, .int a1, .int lk, .int lc])), (qt, .inl (cI, 8, .inl ft)), (qf, .inl (cL, 8, .inr (.inl ff)))] H := hP
  have hD : va_D A [(h0, .inr (0, [.ref qt, .ref qf, .int w, .int a1, .int lk, .int lc])), (qt, .inl (cI, 8, .inl ft)), (qf, .inl (cL, 8, .inr (.inl ff)))] := hD
  refine lv_aload_n hx hb dX0_tell_5 rfl (lv_at hl 0 rfl) ?_
  refine lv_iload_n hx hb dX0_tell_6 rfl (lv_at hl 2 rfl) ?_
  refine va_put (D := (dC, dI)) (ci := 0) (v := .int a2) (ty := .int) (C := RX0) (T := TX0) (N := 6) hx hb hts hin_X0 tyX0 tyX0_ok nmX0 hown hK hP hD hS 0 rfl rfl 4 (by decide) (hts (.fieldLink RX0 95 "TemporaryReals" "lastK" "I") (by decide +kernel)) (fun _ h9 => h9) rfl (by decide +kernel) rfl rfl (Nat.le_of_ble_eq_true rfl) dX0_tell_7 (fun H locs hP hD hS => ?_)
  have hP : va_P (dC, dI) vwCl [(h0, .inr (0, [.ref qt, .ref qf, .int w, .int a1, .int a2, .int lc])), (qt, .inl (cI, 8, .inl ft)), (qf, .inl (cL, 8, .inr (.inl ff)))] H := hP
  have hD : va_D A [(h0, .inr (0, [.ref qt, .ref qf, .int w, .int a1, .int a2, .int lc])), (qt, .inl (cI, 8, .inl ft)), (qf, .inl (cL, 8, .inr (.inl ff)))] := hD
  refine lv_aload_n hx hb dX0_tell_10 rfl (lv_at hl 0 rfl) ?_
  refine lv_iload_n hx hb dX0_tell_11 rfl (lv_at hl 3 rfl) ?_
  refine va_put (D := (dC, dI)) (ci := 0) (v := .int a3) (ty := .int) (C := RX0) (T := TX0) (N := 6) hx hb hts hin_X0 tyX0 tyX0_ok nmX0 hown hK hP hD hS 0 rfl rfl 5 (by decide) (hts (.fieldLink RX0 98 "TemporaryReals" "lastChange" "I") (by decide +kernel)) (fun _ h9 => h9) rfl (by decide +kernel) rfl rfl (Nat.le_of_ble_eq_true rfl) dX0_tell_12 (fun H locs hP hD hS => ?_)
  have hP : va_P (dC, dI) vwCl [(h0, .inr (0, [.ref qt, .ref qf, .int w, .int a1, .int a2, .int a3])), (qt, .inl (cI, 8, .inl ft)), (qf, .inl (cL, 8, .inr (.inl ff)))] H := hP
  have hD : va_D A [(h0, .inr (0, [.ref qt, .ref qf, .int w, .int a1, .int a2, .int a3])), (qt, .inl (cI, 8, .inl ft)), (qf, .inl (cL, 8, .inr (.inl ff)))] := hD
  refine lv_iload_n hx hb dX0_tell_15 rfl (lv_at hl 1 rfl) ?_
  exact W.iret (v := a1) hx hb hr (fun t ht hW => ⟨⟨a1, (ft, ff, w, a1, a2, a3), rfl, (show (f_X0_tell ft ff w lt lk lc a1 a2 a3) = ((a1, (ft, ff, w, a1, a2, a3)) : Int32 × XS) from by unfold f_X0_tell; rfl).symm, by rw [ht]; exact hP, hD⟩, hS.F ht⟩) hS.2.2 dX0_tell_16
def f_X0_makeSmall (ft : Nat → Int32) (ff : Nat → Int64) (w : Int32) (lt : Int32) (lk : Int32) (lc : Int32) (a1 : Int32) (a2 : Int32) (a3 : Int32) (a4 : Int64) (a5 : Int64) : Int32 × XS :=
  ((if (lg_cmp (f_X0_lostPart a4 a5 (((-16382) - a3) + (64 - (f_X0_digits w)))) 0) = 0 then 0 else 48), ((upd ft a1.toNatClampNeg ((if a2 = 0 then 0 else 32768) ||| (if 0 ≤ (lg_cmp ((if (f_X0_takesAbove w (f_X0_wholePart a4 (((-16382) - a3) + (64 - (f_X0_digits w)))) (f_X0_lostPart a4 a5 (((-16382) - a3) + (64 - (f_X0_digits w)))) a2) = 0 then (f_X0_wholePart a4 (((-16382) - a3) + (64 - (f_X0_digits w)))) else ((f_X0_wholePart a4 (((-16382) - a3) + (64 - (f_X0_digits w)))) + 1)) <<< (Int32.toInt64 (64 - (f_X0_digits w)) &&& 63)) 0) then 0 else 1))), (vp_updL ff a1.toNatClampNeg ((if (f_X0_takesAbove w (f_X0_wholePart a4 (((-16382) - a3) + (64 - (f_X0_digits w)))) (f_X0_lostPart a4 a5 (((-16382) - a3) + (64 - (f_X0_digits w)))) a2) = 0 then (f_X0_wholePart a4 (((-16382) - a3) + (64 - (f_X0_digits w)))) else ((f_X0_wholePart a4 (((-16382) - a3) + (64 - (f_X0_digits w)))) + 1)) <<< (Int32.toInt64 (64 - (f_X0_digits w)) &&& 63))), w, (if (lg_cmp (f_X0_lostPart a4 a5 (((-16382) - a3) + (64 - (f_X0_digits w)))) 0) = 0 then 0 else 48), a3, (f_X0_changeOf (f_X0_lostPart a4 a5 (((-16382) - a3) + (64 - (f_X0_digits w)))) (f_X0_takesAbove w (f_X0_wholePart a4 (((-16382) - a3) + (64 - (f_X0_digits w)))) (f_X0_lostPart a4 a5 (((-16382) - a3) + (64 - (f_X0_digits w)))) a2))))
set_option maxHeartbeats 1000000 in
set_option maxRecDepth 100000 in
theorem c_X0_makeSmall (l : Launch) (dC : Nat → ClassId) (dI : Nat → Nat → Nat) (cI cL : ClassId) (h0 qt qf : Nat) (sz : Nat) (ft : Nat → Int32) (ff : Nat → Int64) (w : Int32) (lt : Int32) (lk : Int32) (lc : Int32) (a1 : Int32) (a2 : Int32) (a3 : Int32) (a4 : Int64) (a5 : Int64) (hr1 : vp_in a1 8) : Met l yX0_makeSmall wsX0_makeSmall ({ frames := 3, cells := 0, slots := 0, locals := 67 }) (wr_Pc (dC, dI) (x_W cI cL h0 qt qf ft ff w lt lk lc) (x_T cI cL) sz [.ref h0, .int a1, .int a2, .int a3, .long a4, .long a5]) (wr_Qi (dC, dI) (x_WU cI cL h0 qt qf) (f_X0_makeSmall ft ff w lt lk lc a1 a2 a3 a4 a5) (va_A (x_W cI cL h0 qt qf ft ff w lt lk lc) sz)) 0 0 (va_A (x_W cI cL h0 qt qf ft ff w lt lk lc) sz) := by
  refine Met.ofW (cc := cX0_makeSmall) (maxL := 17) (ret := (some .int)) (by decide) rfl ?_
  intro p e s m args below meth c s₁ B hml hv
  obtain ⟨rfl, hsz, hP, hK, hD0⟩ := hv
  have hx := B.exec
  have hb := B.bytes
  have hr := B.returns
  have hts := atoms_spec (ws := wsX0_makeSmall) B.pre
  have hown : s.vm.findClass RX0 = some m.cls := findClass_of_methodNamed B.named
  have hlocks := B.notSynchronized
  subst hsz
  have hD := hD0.self (sz := s.heap.size)
  generalize hAe : va_A (x_W cI cL h0 qt qf ft ff w lt lk lc) s.heap.size = A at hD ⊢
  have hA : ∀ q : Nat, s.heap.size ≤ q → A q := fun q h => by rw [← hAe]; exact Or.inr h
  have hS : va_S A s.heap s.heap [] := va_S.rf
  have hD : va_D A [(h0, .inr (0, [.ref qt, .ref qf, .int w, .int lt, .int lk, .int lc])), (qt, .inl (cI, 8, .inl ft)), (qf, .inl (cL, 8, .inr (.inl ff)))] := hD
  have hP : va_P (dC, dI) vwCl [(h0, .inr (0, [.ref qt, .ref qf, .int w, .int lt, .int lk, .int lc])), (qt, .inl (cI, 8, .inl ft)), (qf, .inl (cL, 8, .inr (.inl ff)))] s.heap := hP
  have hl := lv_entry ([.ref h0, .int a1, .int a2, .int a3, .long a4, .long a5]) (n := 17) (Nat.le_of_ble_eq_true rfl)
  rw [lg_entry_eq]
  generalize (lg_sl ([.ref h0, .int a1, .int a2, .int a3, .long a4, .long a5]) ++ List.replicate (17 - (lg_sl ([.ref h0, .int a1, .int a2, .int a3, .long a4, .long a5])).length) Slot.unset).toArray = ls at hl ⊢
  have hl : lv_has ls 17 [(0, .ref h0), (1, .int a1), (2, .int a2), (3, .int a3), (4, .long a4), (6, .long a5)] := hl
  refine lv_bipush (v := 64) hx hb dX0_makeSmall_0 (by decide) ?_
  refine lv_aload_n hx hb dX0_makeSmall_2 rfl (lv_at hl 0 rfl) ?_
  refine W.callV (r := .int (f_X0_digits w)) (W.runV (As := []) (rest := [.int 64]) ⟨hx, hb, hml, hown, hts⟩ (c_X0_digits l dC dI cI cL h0 qt qf ft ff w lt lk lc  ) (cwV 0 hts gX0_makeSmall_X0_digits rfl rfl rfl (by decide +kernel) ⟨Nat.le_of_ble_eq_true rfl, Nat.le_of_ble_eq_true rfl⟩) (rd_preV hK hP rfl rfl) rfl rfl hl.1 rfl (lv_room (Nat.le_of_ble_eq_true rfl)) dX0_makeSmall_3 ⟨Nat.zero_le _, Nat.zero_le _⟩) ?_
  refine W.eq (g2 := F0 m 6 ls ([.int (f_X0_digits w), .int 64])) rfl ?_
  refine lv_isub hx hb dX0_makeSmall_6 ?_
  refine lv_istore (lv' := [(8, .int (64 - (f_X0_digits w))), (0, .ref h0), (1, .int a1), (2, .int a2), (3, .int a3), (4, .long a4), (6, .long a5)]) hx hb dX0_makeSmall_7 hl (by decide) rfl (fun ls hl => ?_)
  refine lv_sipush (v := (-16382)) hx hb dX0_makeSmall_9 (by decide) ?_
  refine lv_iload_n hx hb dX0_makeSmall_12 rfl (lv_at hl 4 rfl) ?_
  refine lv_isub hx hb dX0_makeSmall_13 ?_
  refine lv_iload hx hb dX0_makeSmall_14 (lv_at hl 0 rfl) ?_
  refine lv_iadd hx hb dX0_makeSmall_16 ?_
  refine lv_istore (lv' := [(9, .int (((-16382) - a3) + (64 - (f_X0_digits w)))), (8, .int (64 - (f_X0_digits w))), (0, .ref h0), (1, .int a1), (2, .int a2), (3, .int a3), (4, .long a4), (6, .long a5)]) hx hb dX0_makeSmall_17 hl (by decide) rfl (fun ls hl => ?_)
  refine lv_lload hx hb dX0_makeSmall_19 (lv_at hl 6 rfl) ?_
  refine lv_iload hx hb dX0_makeSmall_21 (lv_at hl 0 rfl) ?_
  refine W.callV (r := .long (f_X0_wholePart a4 (((-16382) - a3) + (64 - (f_X0_digits w))))) (W.runS (As := [.long a4, .int (((-16382) - a3) + (64 - (f_X0_digits w)))]) (rest := []) ⟨hx, hb, hml, hown, hts⟩ (c_X0_wholePart l a4 (((-16382) - a3) + (64 - (f_X0_digits w))) ) (va_cwS 2 hts gX0_makeSmall_X0_wholePart rfl rfl rfl (by decide +kernel) ⟨Nat.le_of_ble_eq_true rfl, Nat.le_of_ble_eq_true rfl⟩) pu_pre rfl rfl hl.1 rfl (lv_room (Nat.le_of_ble_eq_true rfl)) dX0_makeSmall_23 ⟨Nat.zero_le _, Nat.zero_le _⟩) ?_
  refine W.eq (g2 := F0 m 26 ls ([.long (f_X0_wholePart a4 (((-16382) - a3) + (64 - (f_X0_digits w))))])) rfl ?_
  refine lv_lstore (lv' := [(10, .long (f_X0_wholePart a4 (((-16382) - a3) + (64 - (f_X0_digits w))))), (9, .int (((-16382) - a3) + (64 - (f_X0_digits w)))), (8, .int (64 - (f_X0_digits w))), (0, .ref h0), (1, .int a1), (2, .int a2), (3, .int a3), (4, .long a4), (6, .long a5)]) hx hb dX0_makeSmall_26 hl (by decide) rfl (fun ls hl => ?_)
  refine lv_lload hx hb dX0_makeSmall_28 (lv_at hl 7 rfl) ?_
  refine lv_lload hx hb dX0_makeSmall_30 (lv_at hl 8 rfl) ?_
  refine lv_iload hx hb dX0_makeSmall_32 (lv_at hl 1 rfl) ?_
  refine W.callV (r := .long (f_X0_lostPart a4 a5 (((-16382) - a3) + (64 - (f_X0_digits w))))) (W.runS (As := [.long a4, .long a5, .int (((-16382) - a3) + (64 - (f_X0_digits w)))]) (rest := []) ⟨hx, hb, hml, hown, hts⟩ (c_X0_lostPart l a4 a5 (((-16382) - a3) + (64 - (f_X0_digits w))) ) (va_cwS 3 hts gX0_makeSmall_X0_lostPart rfl rfl rfl (by decide +kernel) ⟨Nat.le_of_ble_eq_true rfl, Nat.le_of_ble_eq_true rfl⟩) pu_pre rfl rfl hl.1 rfl (lv_room (Nat.le_of_ble_eq_true rfl)) dX0_makeSmall_34 ⟨Nat.zero_le _, Nat.zero_le _⟩) ?_
  refine W.eq (g2 := F0 m 37 ls ([.long (f_X0_lostPart a4 a5 (((-16382) - a3) + (64 - (f_X0_digits w))))])) rfl ?_
  refine lv_lstore (lv' := [(12, .long (f_X0_lostPart a4 a5 (((-16382) - a3) + (64 - (f_X0_digits w))))), (10, .long (f_X0_wholePart a4 (((-16382) - a3) + (64 - (f_X0_digits w))))), (9, .int (((-16382) - a3) + (64 - (f_X0_digits w)))), (8, .int (64 - (f_X0_digits w))), (0, .ref h0), (1, .int a1), (2, .int a2), (3, .int a3), (4, .long a4), (6, .long a5)]) hx hb dX0_makeSmall_37 hl (by decide) rfl (fun ls hl => ?_)
  refine lv_aload_n hx hb dX0_makeSmall_39 rfl (lv_at hl 4 rfl) ?_
  refine lv_lload hx hb dX0_makeSmall_40 (lv_at hl 1 rfl) ?_
  refine lv_lload hx hb dX0_makeSmall_42 (lv_at hl 0 rfl) ?_
  refine lv_iload_n hx hb dX0_makeSmall_44 rfl (lv_at hl 6 rfl) ?_
  refine W.callV (r := .int (f_X0_takesAbove w (f_X0_wholePart a4 (((-16382) - a3) + (64 - (f_X0_digits w)))) (f_X0_lostPart a4 a5 (((-16382) - a3) + (64 - (f_X0_digits w)))) a2)) (W.runV (As := [.long (f_X0_wholePart a4 (((-16382) - a3) + (64 - (f_X0_digits w)))), .long (f_X0_lostPart a4 a5 (((-16382) - a3) + (64 - (f_X0_digits w)))), .int a2]) (rest := []) ⟨hx, hb, hml, hown, hts⟩ (c_X0_takesAbove l dC dI cI cL h0 qt qf ft ff w lt lk lc (f_X0_wholePart a4 (((-16382) - a3) + (64 - (f_X0_digits w)))) (f_X0_lostPart a4 a5 (((-16382) - a3) + (64 - (f_X0_digits w)))) a2 ) (cwV 3 hts gX0_makeSmall_X0_takesAbove rfl rfl rfl (by decide +kernel) ⟨Nat.le_of_ble_eq_true rfl, Nat.le_of_ble_eq_true rfl⟩) (rd_preV hK hP rfl rfl) rfl rfl hl.1 rfl (lv_room (Nat.le_of_ble_eq_true rfl)) dX0_makeSmall_45 ⟨Nat.zero_le _, Nat.zero_le _⟩) ?_
  refine W.eq (g2 := F0 m 48 ls ([.int (f_X0_takesAbove w (f_X0_wholePart a4 (((-16382) - a3) + (64 - (f_X0_digits w)))) (f_X0_lostPart a4 a5 (((-16382) - a3) + (64 - (f_X0_digits w)))) a2)])) rfl ?_
  refine lv_istore (lv' := [(14, .int (f_X0_takesAbove w (f_X0_wholePart a4 (((-16382) - a3) + (64 - (f_X0_digits w)))) (f_X0_lostPart a4 a5 (((-16382) - a3) + (64 - (f_X0_digits w)))) a2)), (12, .long (f_X0_lostPart a4 a5 (((-16382) - a3) + (64 - (f_X0_digits w))))), (10, .long (f_X0_wholePart a4 (((-16382) - a3) + (64 - (f_X0_digits w))))), (9, .int (((-16382) - a3) + (64 - (f_X0_digits w)))), (8, .int (64 - (f_X0_digits w))), (0, .ref h0), (1, .int a1), (2, .int a2), (3, .int a3), (4, .long a4), (6, .long a5)]) hx hb dX0_makeSmall_48 hl (by decide) rfl (fun ls hl => ?_)
  refine lv_iload hx hb dX0_makeSmall_50 (lv_at hl 0 rfl) ?_
  refine w_join (F0 m 64 ls (.long (if (f_X0_takesAbove w (f_X0_wholePart a4 (((-16382) - a3) + (64 - (f_X0_digits w)))) (f_X0_lostPart a4 a5 (((-16382) - a3) + (64 - (f_X0_digits w)))) a2) = 0 then (f_X0_wholePart a4 (((-16382) - a3) + (64 - (f_X0_digits w)))) else ((f_X0_wholePart a4 (((-16382) - a3) + (64 - (f_X0_digits w)))) + 1)) :: [])) ?_ (fun hJ_1 => ?_)
  · refine lv_iload hx hb dX0_makeSmall_64 (lv_at hl 4 rfl) ?_
    refine lv_lshl hx hb dX0_makeSmall_66 rfl ?_
    refine lv_lstore (lv' := [(15, .long ((if (f_X0_takesAbove w (f_X0_wholePart a4 (((-16382) - a3) + (64 - (f_X0_digits w)))) (f_X0_lostPart a4 a5 (((-16382) - a3) + (64 - (f_X0_digits w)))) a2) = 0 then (f_X0_wholePart a4 (((-16382) - a3) + (64 - (f_X0_digits w)))) else ((f_X0_wholePart a4 (((-16382) - a3) + (64 - (f_X0_digits w)))) + 1)) <<< (Int32.toInt64 (64 - (f_X0_digits w)) &&& 63))), (14, .int (f_X0_takesAbove w (f_X0_wholePart a4 (((-16382) - a3) + (64 - (f_X0_digits w)))) (f_X0_lostPart a4 a5 (((-16382) - a3) + (64 - (f_X0_digits w)))) a2)), (12, .long (f_X0_lostPart a4 a5 (((-16382) - a3) + (64 - (f_X0_digits w))))), (10, .long (f_X0_wholePart a4 (((-16382) - a3) + (64 - (f_X0_digits w))))), (9, .int (((-16382) - a3) + (64 - (f_X0_digits w)))), (8, .int (64 - (f_X0_digits w))), (0, .ref h0), (1, .int a1), (2, .int a2), (3, .int a3), (4, .long a4), (6, .long a5)]) hx hb dX0_makeSmall_67 hl (by decide) rfl (fun ls hl => ?_)
    refine lv_aload_n hx hb dX0_makeSmall_69 rfl (lv_at hl 6 rfl) ?_
    refine lv_iload_n hx hb dX0_makeSmall_70 rfl (lv_at hl 7 rfl) ?_
    refine lv_iload_n hx hb dX0_makeSmall_71 rfl (lv_at hl 8 rfl) ?_
    refine lv_lload hx hb dX0_makeSmall_72 (lv_at hl 0 rfl) ?_
    refine lv_lconst (v := 0) hx hb dX0_makeSmall_74 (by decide) ?_
    refine W.lcmp hx hb dX0_makeSmall_75 ?_
    refine w_join (F0 m 84 ls (.int (if 0 ≤ (lg_cmp ((if (f_X0_takesAbove w (f_X0_wholePart a4 (((-16382) - a3) + (64 - (f_X0_digits w)))) (f_X0_lostPart a4 a5 (((-16382) - a3) + (64 - (f_X0_digits w)))) a2) = 0 then (f_X0_wholePart a4 (((-16382) - a3) + (64 - (f_X0_digits w)))) else ((f_X0_wholePart a4 (((-16382) - a3) + (64 - (f_X0_digits w)))) + 1)) <<< (Int32.toInt64 (64 - (f_X0_digits w)) &&& 63)) 0) then 0 else 1) :: [.int a2, .int a1, .ref h0])) ?_ (fun hJ_3 => ?_)
    · refine lv_lload hx hb dX0_makeSmall_84 (lv_at hl 0 rfl) ?_
      refine wr_callv (D := (dC, dI)) (v9 := ((upd ft a1.toNatClampNeg ((if a2 = 0 then 0 else 32768) ||| (if 0 ≤ (lg_cmp ((if (f_X0_takesAbove w (f_X0_wholePart a4 (((-16382) - a3) + (64 - (f_X0_digits w)))) (f_X0_lostPart a4 a5 (((-16382) - a3) + (64 - (f_X0_digits w)))) a2) = 0 then (f_X0_wholePart a4 (((-16382) - a3) + (64 - (f_X0_digits w)))) else ((f_X0_wholePart a4 (((-16382) - a3) + (64 - (f_X0_digits w)))) + 1)) <<< (Int32.toInt64 (64 - (f_X0_digits w)) &&& 63)) 0) then 0 else 1))), (vp_updL ff a1.toNatClampNeg ((if (f_X0_takesAbove w (f_X0_wholePart a4 (((-16382) - a3) + (64 - (f_X0_digits w)))) (f_X0_lostPart a4 a5 (((-16382) - a3) + (64 - (f_X0_digits w)))) a2) = 0 then (f_X0_wholePart a4 (((-16382) - a3) + (64 - (f_X0_digits w)))) else ((f_X0_wholePart a4 (((-16382) - a3) + (64 - (f_X0_digits w)))) + 1)) <<< (Int32.toInt64 (64 - (f_X0_digits w)) &&& 63))), w, lt, lk, lc)) (va_runV (As := [.int a1, .int a2, .int (if 0 ≤ (lg_cmp ((if (f_X0_takesAbove w (f_X0_wholePart a4 (((-16382) - a3) + (64 - (f_X0_digits w)))) (f_X0_lostPart a4 a5 (((-16382) - a3) + (64 - (f_X0_digits w)))) a2) = 0 then (f_X0_wholePart a4 (((-16382) - a3) + (64 - (f_X0_digits w)))) else ((f_X0_wholePart a4 (((-16382) - a3) + (64 - (f_X0_digits w)))) + 1)) <<< (Int32.toInt64 (64 - (f_X0_digits w)) &&& 63)) 0) then 0 else 1), .long ((if (f_X0_takesAbove w (f_X0_wholePart a4 (((-16382) - a3) + (64 - (f_X0_digits w)))) (f_X0_lostPart a4 a5 (((-16382) - a3) + (64 - (f_X0_digits w)))) a2) = 0 then (f_X0_wholePart a4 (((-16382) - a3) + (64 - (f_X0_digits w)))) else ((f_X0_wholePart a4 (((-16382) - a3) + (64 - (f_X0_digits w)))) + 1)) <<< (Int32.toInt64 (64 - (f_X0_digits w)) &&& 63))]) (rest := []) ⟨hx, hb, hml, hown, hts⟩ (c_X0_store l dC dI cI cL h0 qt qf s.heap.size ft ff w lt lk lc a1 a2 (if 0 ≤ (lg_cmp ((if (f_X0_takesAbove w (f_X0_wholePart a4 (((-16382) - a3) + (64 - (f_X0_digits w)))) (f_X0_lostPart a4 a5 (((-16382) - a3) + (64 - (f_X0_digits w)))) a2) = 0 then (f_X0_wholePart a4 (((-16382) - a3) + (64 - (f_X0_digits w)))) else ((f_X0_wholePart a4 (((-16382) - a3) + (64 - (f_X0_digits w)))) + 1)) <<< (Int32.toInt64 (64 - (f_X0_digits w)) &&& 63)) 0) then 0 else 1) ((if (f_X0_takesAbove w (f_X0_wholePart a4 (((-16382) - a3) + (64 - (f_X0_digits w)))) (f_X0_lostPart a4 a5 (((-16382) - a3) + (64 - (f_X0_digits w)))) a2) = 0 then (f_X0_wholePart a4 (((-16382) - a3) + (64 - (f_X0_digits w)))) else ((f_X0_wholePart a4 (((-16382) - a3) + (64 - (f_X0_digits w)))) + 1)) <<< (Int32.toInt64 (64 - (f_X0_digits w)) &&& 63)) (by first | assumption | exact x_reg (by assumption) | exact x_regA (by assumption) | exact x_regB (by assumption))) (cwV 4 hts gX0_makeSmall_X0_store rfl rfl rfl (by decide +kernel) ⟨Nat.le_of_ble_eq_true rfl, Nat.le_of_ble_eq_true rfl⟩) (wr_preV hK hP hD rfl rfl) rfl rfl hl.1 rfl (lv_room (Nat.le_of_ble_eq_true rfl)) dX0_makeSmall_86 ⟨Nat.zero_le _, Nat.zero_le _⟩) rfl hD hS hA (fun H locs hP hD hS => ?_)
      have hP : va_P (dC, dI) vwCl [(h0, .inr (0, [.ref qt, .ref qf, .int w, .int lt, .int lk, .int lc])), (qt, .inl (cI, 8, .inl (upd ft a1.toNatClampNeg ((if a2 = 0 then 0 else 32768) ||| (if 0 ≤ (lg_cmp ((if (f_X0_takesAbove w (f_X0_wholePart a4 (((-16382) - a3) + (64 - (f_X0_digits w)))) (f_X0_lostPart a4 a5 (((-16382) - a3) + (64 - (f_X0_digits w)))) a2) = 0 then (f_X0_wholePart a4 (((-16382) - a3) + (64 - (f_X0_digits w)))) else ((f_X0_wholePart a4 (((-16382) - a3) + (64 - (f_X0_digits w)))) + 1)) <<< (Int32.toInt64 (64 - (f_X0_digits w)) &&& 63)) 0) then 0 else 1))))), (qf, .inl (cL, 8, .inr (.inl (vp_updL ff a1.toNatClampNeg ((if (f_X0_takesAbove w (f_X0_wholePart a4 (((-16382) - a3) + (64 - (f_X0_digits w)))) (f_X0_lostPart a4 a5 (((-16382) - a3) + (64 - (f_X0_digits w)))) a2) = 0 then (f_X0_wholePart a4 (((-16382) - a3) + (64 - (f_X0_digits w)))) else ((f_X0_wholePart a4 (((-16382) - a3) + (64 - (f_X0_digits w)))) + 1)) <<< (Int32.toInt64 (64 - (f_X0_digits w)) &&& 63))))))] H := hP
      have hD : va_D A [(h0, .inr (0, [.ref qt, .ref qf, .int w, .int lt, .int lk, .int lc])), (qt, .inl (cI, 8, .inl (upd ft a1.toNatClampNeg ((if a2 = 0 then 0 else 32768) ||| (if 0 ≤ (lg_cmp ((if (f_X0_takesAbove w (f_X0_wholePart a4 (((-16382) - a3) + (64 - (f_X0_digits w)))) (f_X0_lostPart a4 a5 (((-16382) - a3) + (64 - (f_X0_digits w)))) a2) = 0 then (f_X0_wholePart a4 (((-16382) - a3) + (64 - (f_X0_digits w)))) else ((f_X0_wholePart a4 (((-16382) - a3) + (64 - (f_X0_digits w)))) + 1)) <<< (Int32.toInt64 (64 - (f_X0_digits w)) &&& 63)) 0) then 0 else 1))))), (qf, .inl (cL, 8, .inr (.inl (vp_updL ff a1.toNatClampNeg ((if (f_X0_takesAbove w (f_X0_wholePart a4 (((-16382) - a3) + (64 - (f_X0_digits w)))) (f_X0_lostPart a4 a5 (((-16382) - a3) + (64 - (f_X0_digits w)))) a2) = 0 then (f_X0_wholePart a4 (((-16382) - a3) + (64 - (f_X0_digits w)))) else ((f_X0_wholePart a4 (((-16382) - a3) + (64 - (f_X0_digits w)))) + 1)) <<< (Int32.toInt64 (64 - (f_X0_digits w)) &&& 63))))))] := hD
      refine W.eq (g2 := F0 m 89 ls ([])) rfl ?_
      refine lv_aload_n hx hb dX0_makeSmall_89 rfl (lv_at hl 6 rfl) ?_
      refine lv_lload hx hb dX0_makeSmall_90 (lv_at hl 2 rfl) ?_
      refine lv_lconst (v := 0) hx hb dX0_makeSmall_92 (by decide) ?_
      refine W.lcmp hx hb dX0_makeSmall_93 ?_
      refine w_join (F0 m 103 ls (.int (if (lg_cmp (f_X0_lostPart a4 a5 (((-16382) - a3) + (64 - (f_X0_digits w)))) 0) = 0 then 0 else 48) :: [.ref h0])) ?_ (fun hJ_5 => ?_)
      · refine lv_iload_n hx hb dX0_makeSmall_103 rfl (lv_at hl 9 rfl) ?_
        refine lv_lload hx hb dX0_makeSmall_104 (lv_at hl 2 rfl) ?_
        refine lv_iload hx hb dX0_makeSmall_106 (lv_at hl 1 rfl) ?_
        refine W.callV (r := .int (f_X0_changeOf (f_X0_lostPart a4 a5 (((-16382) - a3) + (64 - (f_X0_digits w)))) (f_X0_takesAbove w (f_X0_wholePart a4 (((-16382) - a3) + (64 - (f_X0_digits w)))) (f_X0_lostPart a4 a5 (((-16382) - a3) + (64 - (f_X0_digits w)))) a2))) (W.runS (As := [.long (f_X0_lostPart a4 a5 (((-16382) - a3) + (64 - (f_X0_digits w)))), .int (f_X0_takesAbove w (f_X0_wholePart a4 (((-16382) - a3) + (64 - (f_X0_digits w)))) (f_X0_lostPart a4 a5 (((-16382) - a3) + (64 - (f_X0_digits w)))) a2)]) (rest := [.int a3, .int (if (lg_cmp (f_X0_lostPart a4 a5 (((-16382) - a3) + (64 - (f_X0_digits w)))) 0) = 0 then 0 else 48), .ref h0]) ⟨hx, hb, hml, hown, hts⟩ (c_X0_changeOf l (f_X0_lostPart a4 a5 (((-16382) - a3) + (64 - (f_X0_digits w)))) (f_X0_takesAbove w (f_X0_wholePart a4 (((-16382) - a3) + (64 - (f_X0_digits w)))) (f_X0_lostPart a4 a5 (((-16382) - a3) + (64 - (f_X0_digits w)))) a2) ) (va_cwS 2 hts gX0_makeSmall_X0_changeOf rfl rfl rfl (by decide +kernel) ⟨Nat.le_of_ble_eq_true rfl, Nat.le_of_ble_eq_true rfl⟩) pu_pre rfl rfl hl.1 rfl (lv_room (Nat.le_of_ble_eq_true rfl)) dX0_makeSmall_108 ⟨Nat.zero_le _, Nat.zero_le _⟩) ?_
        refine W.eq (g2 := F0 m 111 ls ([.int (f_X0_changeOf (f_X0_lostPart a4 a5 (((-16382) - a3) + (64 - (f_X0_digits w)))) (f_X0_takesAbove w (f_X0_wholePart a4 (((-16382) - a3) + (64 - (f_X0_digits w)))) (f_X0_lostPart a4 a5 (((-16382) - a3) + (64 - (f_X0_digits w)))) a2)), .int a3, .int (if (lg_cmp (f_X0_lostPart a4 a5 (((-16382) - a3) + (64 - (f_X0_digits w)))) 0) = 0 then 0 else 48), .ref h0])) rfl ?_
        refine wr_calli (D := (dC, dI)) (v9 := ((if (lg_cmp (f_X0_lostPart a4 a5 (((-16382) - a3) + (64 - (f_X0_digits w)))) 0) = 0 then 0 else 48), ((upd ft a1.toNatClampNeg ((if a2 = 0 then 0 else 32768) ||| (if 0 ≤ (lg_cmp ((if (f_X0_takesAbove w (f_X0_wholePart a4 (((-16382) - a3) + (64 - (f_X0_digits w)))) (f_X0_lostPart a4 a5 (((-16382) - a3) + (64 - (f_X0_digits w)))) a2) = 0 then (f_X0_wholePart a4 (((-16382) - a3) + (64 - (f_X0_digits w)))) else ((f_X0_wholePart a4 (((-16382) - a3) + (64 - (f_X0_digits w)))) + 1)) <<< (Int32.toInt64 (64 - (f_X0_digits w)) &&& 63)) 0) then 0 else 1))), (vp_updL ff a1.toNatClampNeg ((if (f_X0_takesAbove w (f_X0_wholePart a4 (((-16382) - a3) + (64 - (f_X0_digits w)))) (f_X0_lostPart a4 a5 (((-16382) - a3) + (64 - (f_X0_digits w)))) a2) = 0 then (f_X0_wholePart a4 (((-16382) - a3) + (64 - (f_X0_digits w)))) else ((f_X0_wholePart a4 (((-16382) - a3) + (64 - (f_X0_digits w)))) + 1)) <<< (Int32.toInt64 (64 - (f_X0_digits w)) &&& 63))), w, (if (lg_cmp (f_X0_lostPart a4 a5 (((-16382) - a3) + (64 - (f_X0_digits w)))) 0) = 0 then 0 else 48), a3, (f_X0_changeOf (f_X0_lostPart a4 a5 (((-16382) - a3) + (64 - (f_X0_digits w)))) (f_X0_takesAbove w (f_X0_wholePart a4 (((-16382) - a3) + (64 - (f_X0_digits w)))) (f_X0_lostPart a4 a5 (((-16382) - a3) + (64 - (f_X0_digits w)))) a2))))) (va_runV (As := [.int (if (lg_cmp (f_X0_lostPart a4 a5 (((-16382) - a3) + (64 - (f_X0_digits w)))) 0) = 0 then 0 else 48), .int a3, .int (f_X0_changeOf (f_X0_lostPart a4 a5 (((-16382) - a3) + (64 - (f_X0_digits w)))) (f_X0_takesAbove w (f_X0_wholePart a4 (((-16382) - a3) + (64 - (f_X0_digits w)))) (f_X0_lostPart a4 a5 (((-16382) - a3) + (64 - (f_X0_digits w)))) a2))]) (rest := []) ⟨hx, hb, hml, hown, hts⟩ (c_X0_tell l dC dI cI cL h0 qt qf H.size (upd ft a1.toNatClampNeg ((if a2 = 0 then 0 else 32768) ||| (if 0 ≤ (lg_cmp ((if (f_X0_takesAbove w (f_X0_wholePart a4 (((-16382) - a3) + (64 - (f_X0_digits w)))) (f_X0_lostPart a4 a5 (((-16382) - a3) + (64 - (f_X0_digits w)))) a2) = 0 then (f_X0_wholePart a4 (((-16382) - a3) + (64 - (f_X0_digits w)))) else ((f_X0_wholePart a4 (((-16382) - a3) + (64 - (f_X0_digits w)))) + 1)) <<< (Int32.toInt64 (64 - (f_X0_digits w)) &&& 63)) 0) then 0 else 1))) (vp_updL ff a1.toNatClampNeg ((if (f_X0_takesAbove w (f_X0_wholePart a4 (((-16382) - a3) + (64 - (f_X0_digits w)))) (f_X0_lostPart a4 a5 (((-16382) - a3) + (64 - (f_X0_digits w)))) a2) = 0 then (f_X0_wholePart a4 (((-16382) - a3) + (64 - (f_X0_digits w)))) else ((f_X0_wholePart a4 (((-16382) - a3) + (64 - (f_X0_digits w)))) + 1)) <<< (Int32.toInt64 (64 - (f_X0_digits w)) &&& 63))) w lt lk lc (if (lg_cmp (f_X0_lostPart a4 a5 (((-16382) - a3) + (64 - (f_X0_digits w)))) 0) = 0 then 0 else 48) a3 (f_X0_changeOf (f_X0_lostPart a4 a5 (((-16382) - a3) + (64 - (f_X0_digits w)))) (f_X0_takesAbove w (f_X0_wholePart a4 (((-16382) - a3) + (64 - (f_X0_digits w)))) (f_X0_lostPart a4 a5 (((-16382) - a3) + (64 - (f_X0_digits w)))) a2)) ) (cwV 3 hts gX0_makeSmall_X0_tell rfl rfl rfl (by decide +kernel) ⟨Nat.le_of_ble_eq_true rfl, Nat.le_of_ble_eq_true rfl⟩) (wr_preV hK hP hD rfl rfl) rfl rfl hl.1 rfl (lv_room (Nat.le_of_ble_eq_true rfl)) dX0_makeSmall_111 ⟨Nat.zero_le _, Nat.zero_le _⟩) rfl hD hS hA (fun H locs hP hD hS => ?_)
        have hP : va_P (dC, dI) vwCl [(h0, .inr (0, [.ref qt, .ref qf, .int w, .int (if (lg_cmp (f_X0_lostPart a4 a5 (((-16382) - a3) + (64 - (f_X0_digits w)))) 0) = 0 then 0 else 48), .int a3, .int (f_X0_changeOf (f_X0_lostPart a4 a5 (((-16382) - a3) + (64 - (f_X0_digits w)))) (f_X0_takesAbove w (f_X0_wholePart a4 (((-16382) - a3) + (64 - (f_X0_digits w)))) (f_X0_lostPart a4 a5 (((-16382) - a3) + (64 - (f_X0_digits w)))) a2))])), (qt, .inl (cI, 8, .inl (upd ft a1.toNatClampNeg ((if a2 = 0 then 0 else 32768) ||| (if 0 ≤ (lg_cmp ((if (f_X0_takesAbove w (f_X0_wholePart a4 (((-16382) - a3) + (64 - (f_X0_digits w)))) (f_X0_lostPart a4 a5 (((-16382) - a3) + (64 - (f_X0_digits w)))) a2) = 0 then (f_X0_wholePart a4 (((-16382) - a3) + (64 - (f_X0_digits w)))) else ((f_X0_wholePart a4 (((-16382) - a3) + (64 - (f_X0_digits w)))) + 1)) <<< (Int32.toInt64 (64 - (f_X0_digits w)) &&& 63)) 0) then 0 else 1))))), (qf, .inl (cL, 8, .inr (.inl (vp_updL ff a1.toNatClampNeg ((if (f_X0_takesAbove w (f_X0_wholePart a4 (((-16382) - a3) + (64 - (f_X0_digits w)))) (f_X0_lostPart a4 a5 (((-16382) - a3) + (64 - (f_X0_digits w)))) a2) = 0 then (f_X0_wholePart a4 (((-16382) - a3) + (64 - (f_X0_digits w)))) else ((f_X0_wholePart a4 (((-16382) - a3) + (64 - (f_X0_digits w)))) + 1)) <<< (Int32.toInt64 (64 - (f_X0_digits w)) &&& 63))))))] H := hP
        have hD : va_D A [(h0, .inr (0, [.ref qt, .ref qf, .int w, .int (if (lg_cmp (f_X0_lostPart a4 a5 (((-16382) - a3) + (64 - (f_X0_digits w)))) 0) = 0 then 0 else 48), .int a3, .int (f_X0_changeOf (f_X0_lostPart a4 a5 (((-16382) - a3) + (64 - (f_X0_digits w)))) (f_X0_takesAbove w (f_X0_wholePart a4 (((-16382) - a3) + (64 - (f_X0_digits w)))) (f_X0_lostPart a4 a5 (((-16382) - a3) + (64 - (f_X0_digits w)))) a2))])), (qt, .inl (cI, 8, .inl (upd ft a1.toNatClampNeg ((if a2 = 0 then 0 else 32768) ||| (if 0 ≤ (lg_cmp ((if (f_X0_takesAbove w (f_X0_wholePart a4 (((-16382) - a3) + (64 - (f_X0_digits w)))) (f_X0_lostPart a4 a5 (((-16382) - a3) + (64 - (f_X0_digits w)))) a2) = 0 then (f_X0_wholePart a4 (((-16382) - a3) + (64 - (f_X0_digits w)))) else ((f_X0_wholePart a4 (((-16382) - a3) + (64 - (f_X0_digits w)))) + 1)) <<< (Int32.toInt64 (64 - (f_X0_digits w)) &&& 63)) 0) then 0 else 1))))), (qf, .inl (cL, 8, .inr (.inl (vp_updL ff a1.toNatClampNeg ((if (f_X0_takesAbove w (f_X0_wholePart a4 (((-16382) - a3) + (64 - (f_X0_digits w)))) (f_X0_lostPart a4 a5 (((-16382) - a3) + (64 - (f_X0_digits w)))) a2) = 0 then (f_X0_wholePart a4 (((-16382) - a3) + (64 - (f_X0_digits w)))) else ((f_X0_wholePart a4 (((-16382) - a3) + (64 - (f_X0_digits w)))) + 1)) <<< (Int32.toInt64 (64 - (f_X0_digits w)) &&& 63))))))] := hD
        refine W.eq (g2 := F0 m 114 ls ([.int (if (lg_cmp (f_X0_lostPart a4 a5 (((-16382) - a3) + (64 - (f_X0_digits w)))) 0) = 0 then 0 else 48)])) rfl ?_
        exact W.iret (v := (if (lg_cmp (f_X0_lostPart a4 a5 (((-16382) - a3) + (64 - (f_X0_digits w)))) 0) = 0 then 0 else 48)) hx hb hr (fun t ht hW => ⟨⟨(if (lg_cmp (f_X0_lostPart a4 a5 (((-16382) - a3) + (64 - (f_X0_digits w)))) 0) = 0 then 0 else 48), ((upd ft a1.toNatClampNeg ((if a2 = 0 then 0 else 32768) ||| (if 0 ≤ (lg_cmp ((if (f_X0_takesAbove w (f_X0_wholePart a4 (((-16382) - a3) + (64 - (f_X0_digits w)))) (f_X0_lostPart a4 a5 (((-16382) - a3) + (64 - (f_X0_digits w)))) a2) = 0 then (f_X0_wholePart a4 (((-16382) - a3) + (64 - (f_X0_digits w)))) else ((f_X0_wholePart a4 (((-16382) - a3) + (64 - (f_X0_digits w)))) + 1)) <<< (Int32.toInt64 (64 - (f_X0_digits w)) &&& 63)) 0) then 0 else 1))), (vp_updL ff a1.toNatClampNeg ((if (f_X0_takesAbove w (f_X0_wholePart a4 (((-16382) - a3) + (64 - (f_X0_digits w)))) (f_X0_lostPart a4 a5 (((-16382) - a3) + (64 - (f_X0_digits w)))) a2) = 0 then (f_X0_wholePart a4 (((-16382) - a3) + (64 - (f_X0_digits w)))) else ((f_X0_wholePart a4 (((-16382) - a3) + (64 - (f_X0_digits w)))) + 1)) <<< (Int32.toInt64 (64 - (f_X0_digits w)) &&& 63))), w, (if (lg_cmp (f_X0_lostPart a4 a5 (((-16382) - a3) + (64 - (f_X0_digits w)))) 0) = 0 then 0 else 48), a3, (f_X0_changeOf (f_X0_lostPart a4 a5 (((-16382) - a3) + (64 - (f_X0_digits w)))) (f_X0_takesAbove w (f_X0_wholePart a4 (((-16382) - a3) + (64 - (f_X0_digits w)))) (f_X0_lostPart a4 a5 (((-16382) - a3) + (64 - (f_X0_digits w)))) a2))), rfl, (show (f_X0_makeSmall ft ff w lt lk lc a1 a2 a3 a4 a5) = (((if (lg_cmp (f_X0_lostPart a4 a5 (((-16382) - a3) + (64 - (f_X0_digits w)))) 0) = 0 then 0 else 48), ((upd ft a1.toNatClampNeg ((if a2 = 0 then 0 else 32768) ||| (if 0 ≤ (lg_cmp ((if (f_X0_takesAbove w (f_X0_wholePart a4 (((-16382) - a3) + (64 - (f_X0_digits w)))) (f_X0_lostPart a4 a5 (((-16382) - a3) + (64 - (f_X0_digits w)))) a2) = 0 then (f_X0_wholePart a4 (((-16382) - a3) + (64 - (f_X0_digits w)))) else ((f_X0_wholePart a4 (((-16382) - a3) + (64 - (f_X0_digits w)))) + 1)) <<< (Int32.toInt64 (64 - (f_X0_digits w)) &&& 63)) 0) then 0 else 1))), (vp_updL ff a1.toNatClampNeg ((if (f_X0_takesAbove w (f_X0_wholePart a4 (((-16382) - a3) + (64 - (f_X0_digits w)))) (f_X0_lostPart a4 a5 (((-16382) - a3) + (64 - (f_X0_digits w)))) a2) = 0 then (f_X0_wholePart a4 (((-16382) - a3) + (64 - (f_X0_digits w)))) else ((f_X0_wholePart a4 (((-16382) - a3) + (64 - (f_X0_digits w)))) + 1)) <<< (Int32.toInt64 (64 - (f_X0_digits w)) &&& 63))), w, (if (lg_cmp (f_X0_lostPart a4 a5 (((-16382) - a3) + (64 - (f_X0_digits w)))) 0) = 0 then 0 else 48), a3, (f_X0_changeOf (f_X0_lostPart a4 a5 (((-16382) - a3) + (64 - (f_X0_digits w)))) (f_X0_takesAbove w (f_X0_wholePart a4 (((-16382) - a3) + (64 - (f_X0_digits w)))) (f_X0_lostPart a4 a5 (((-16382) - a3) + (64 - (f_X0_digits w)))) a2)))) : Int32 × XS) from by unfold f_X0_makeSmall; rfl).symm, by rw [ht]; exact hP, hD⟩, hS.F ht⟩) hS.2.2 dX0_makeSmall_114
      · refine lv_if_ne (tgt := 101) hx hb dX0_makeSmall_94 (by decide) (fun c_6 => ?_) (fun c_6 => ?_)
        · refine lv_bipush (v := 48) hx hb dX0_makeSmall_101 (by decide) ?_
          exact W.eq (by rw [if_neg c_6]) hJ_5
        · refine lv_iconst (v := 0) hx hb dX0_makeSmall_97 (by decide) ?_
          refine lv_goto (tgt := 103) hx hb dX0_makeSmall_98 (by decide) ?_
          exact W.eq (by rw [if_pos c_6]) hJ_5
    · refine lv_if_ge (tgt := 83) hx hb dX0_makeSmall_76 (by decide) (fun c_4 => ?_) (fun c_4 => ?_)
      · refine lv_iconst (v := 0) hx hb dX0_makeSmall_83 (by decide) ?_
        exact W.eq (by rw [if_pos c_4]) hJ_3
      · refine lv_iconst (v := 1) hx hb dX0_makeSmall_79 (by decide) ?_
        refine lv_goto (tgt := 84) hx hb dX0_makeSmall_80 (by decide) ?_
        exact W.eq (by rw [if_neg c_4]) hJ_3
  · refine lv_if_eq (tgt := 62) hx hb dX0_makeSmall_52 (by decide) (fun c_2 => ?_) (fun c_2 => ?_)
    · refine lv_lload hx hb dX0_makeSmall_62 (lv_at hl 2 rfl) ?_
      exact W.eq (by rw [if_pos c_2]) hJ_1
    · refine lv_lload hx hb dX0_makeSmall_55 (lv_at hl 2 rfl) ?_
      refine lv_lconst (v := 1) hx hb dX0_makeSmall_57 (by decide) ?_
      refine lv_ladd hx hb dX0_makeSmall_58 ?_
      refine lv_goto (tgt := 64) hx hb dX0_makeSmall_59 (by decide) ?_
      exact W.eq (by rw [if_neg c_2]) hJ_1
def f_X0_makeTooGreat (ft : Nat → Int32) (ff : Nat → Int64) (w : Int32) (lt : Int32) (lk : Int32) (lc : Int32) (a1 : Int32) (a2 : Int32) (a3 : Int32) : Int32 × XS :=
  if (if (f_X0_rounding w) = 0 then true else (if (f_X0_goesAway w a2) = 0 then false else true)) = true then
    (40, ((upd ft a1.toNatClampNeg ((if a2 = 0 then 0 else 32768) ||| 32767)), (vp_updL ff a1.toNatClampNeg (-9223372036854775808)), w, 40, a3, 1))
  else
    (40, ((upd ft a1.toNatClampNeg ((if a2 = 0 then 0 else 32768) ||| 32766)), (vp_updL ff a1.toNatClampNeg ((-1) <<< (Int32.toInt64 (64 - (f_X0_digits w)) &&& 63))), w, 40, a3, (-1)))
set_option maxHeartbeats 1000000 in
set_option maxRecDepth 100000 in
theorem c_X0_makeTooGreat (l : Launch) (dC : Nat → ClassId) (dI : Nat → Nat → Nat) (cI cL : ClassId) (h0 qt qf : Nat) (sz : Nat) (ft : Nat → Int32) (ff : Nat → Int64) (w : Int32) (lt : Int32) (lk : Int32) (lc : Int32) (a1 : Int32) (a2 : Int32) (a3 : Int32) (hr1 : vp_in a1 8) : Met l yX0_makeTooGreat wsX0_makeTooGreat ({ frames := 2, cells := 0, slots := 0, locals := 42 }) (wr_Pc (dC, dI) (x_W cI cL h0 qt qf ft ff w lt lk lc) (x_T cI cL) sz [.ref h0, .int a1, .int a2, .int a3]) (wr_Qi (dC, dI) (x_WU cI cL h0 qt qf) (f_X0_makeTooGreat ft ff w lt lk lc a1 a2 a3) (va_A (x_W cI cL h0 qt qf ft ff w lt lk lc) sz)) 0 0 (va_A (x_W cI cL h0 qt qf ft ff w lt lk lc) sz) := by
  refine Met.ofW (cc := cX0_makeTooGreat) (maxL := 4) (ret := (some .int)) (by decide) rfl ?_
  intro p e s m args below meth c s₁ B hml hv
  obtain ⟨rfl, hsz, hP, hK, hD0⟩ := hv
  have hx := B.exec
  have hb := B.bytes
  have hr := B.returns
  have hts := atoms_spec (ws := wsX0_makeTooGreat) B.pre
  have hown : s.vm.findClass RX0 = some m.cls := findClass_of_methodNamed B.named
  have hlocks := B.notSynchronized
  subst hsz
  have hD := hD0.self (sz := s.heap.size)
  generalize hAe : va_A (x_W cI cL h0 qt qf ft ff w lt lk lc) s.heap.size = A at hD ⊢
  have hA : ∀ q : Nat, s.heap.size ≤ q → A q := fun q h => by rw [← hAe]; exact Or.inr h
  have hS : va_S A s.heap s.heap [] := va_S.rf
  have hD : va_D A [(h0, .inr (0, [.ref qt, .ref qf, .int w, .int lt, .int lk, .int lc])), (qt, .inl (cI, 8, .inl ft)), (qf, .inl (cL, 8, .inr (.inl ff)))] := hD
  have hP : va_P (dC, dI) vwCl [(h0, .inr (0, [.ref qt, .ref qf, .int w, .int lt, .int lk, .int lc])), (qt, .inl (cI, 8, .inl ft)), (qf, .inl (cL, 8, .inr (.inl ff)))] s.heap := hP
  have hl := lv_entry ([.ref h0, .int a1, .int a2, .int a3]) (n := 4) (Nat.le_of_ble_eq_true rfl)
  rw [lg_entry_eq]
  generalize (lg_sl ([.ref h0, .int a1, .int a2, .int a3]) ++ List.replicate (4 - (lg_sl ([.ref h0, .int a1, .int a2, .int a3])).length) Slot.unset).toArray = ls at hl ⊢
  have hl : lv_has ls 4 [(0, .ref h0), (1, .int a1), (2, .int a2), (3, .int a3)] := hl
  refine lv_aload_n hx hb dX0_makeTooGreat_0 rfl (lv_at hl 0 rfl) ?_
  refine W.callV (r := .int (f_X0_rounding w)) (W.runV (As := []) (rest := []) ⟨hx, hb, hml, hown, hts⟩ (c_X0_rounding l dC dI cI cL h0 qt qf ft ff w lt lk lc  ) (cwV 0 hts gX0_makeTooGreat_X0_rounding rfl rfl rfl (by decide +kernel) ⟨Nat.le_of_ble_eq_true rfl, Nat.le_of_ble_eq_true rfl⟩) (rd_preV hK hP rfl rfl) rfl rfl hl.1 rfl (lv_room (Nat.le_of_ble_eq_true rfl)) dX0_makeTooGreat_1 ⟨Nat.zero_le _, Nat.zero_le _⟩) ?_
  refine W.eq (g2 := F0 m 4 ls ([.int (f_X0_rounding w)])) rfl ?_
  by_cases cV_1 : (if (f_X0_rounding w) = 0 then true else (if (f_X0_goesAway w a2) = 0 then false else true)) = true
  · refine w_join (F0 m 15 ls ([])) ?_ (fun hJ_2 => ?_)
    · refine lv_aload_n hx hb dX0_makeTooGreat_15 rfl (lv_at hl 0 rfl) ?_
      refine lv_iload_n hx hb dX0_makeTooGreat_16 rfl (lv_at hl 1 rfl) ?_
      refine lv_iload_n hx hb dX0_makeTooGreat_17 rfl (lv_at hl 2 rfl) ?_
      refine lv_sipush (v := 32767) hx hb dX0_makeTooGreat_18 (by decide) ?_
      refine lv_ldc2 (v := (-9223372036854775808)) hx hb hown (hts (.constantLong RX0 62 (-9223372036854775808)) (by decide +kernel)) dX0_makeTooGreat_21 ?_
      refine wr_callv (D := (dC, dI)) (v9 := ((upd ft a1.toNatClampNeg ((if a2 = 0 then 0 else 32768) ||| 32767)), (vp_updL ff a1.toNatClampNeg (-9223372036854775808)), w, lt, lk, lc)) (va_runV (As := [.int a1, .int a2, .int 32767, .long (-9223372036854775808)]) (rest := []) ⟨hx, hb, hml, hown, hts⟩ (c_X0_store l dC dI cI cL h0 qt qf s.heap.size ft ff w lt lk lc a1 a2 32767 (-9223372036854775808) (by first | assumption | exact x_reg (by assumption) | exact x_regA (by assumption) | exact x_regB (by assumption))) (cwV 4 hts gX0_makeTooGreat_X0_store rfl rfl rfl (by decide +kernel) ⟨Nat.le_of_ble_eq_true rfl, Nat.le_of_ble_eq_true rfl⟩) (wr_preV hK hP hD rfl rfl) rfl rfl hl.1 rfl (lv_room (Nat.le_of_ble_eq_true rfl)) dX0_makeTooGreat_24 ⟨Nat.zero_le _, Nat.zero_le _⟩) rfl hD hS hA (fun H locs hP hD hS => ?_)
      have hP : va_P (dC, dI) vwCl [(h0, .inr (0, [.ref qt, .ref qf, .int w, .int lt, .int lk, .int lc])), (qt, .inl (cI, 8, .inl (upd ft a1.toNatClampNeg ((if a2 = 0 then 0 else 32768) ||| 32767)))), (qf, .inl (cL, 8, .inr (.inl (vp_updL ff a1.toNatClampNeg (-9223372036854775808)))))] H := hP
      have hD : va_D A [(h0, .inr (0, [.ref qt, .ref qf, .int w, .int lt, .int lk, .int lc])), (qt, .inl (cI, 8, .inl (upd ft a1.toNatClampNeg ((if a2 = 0 then 0 else 32768) ||| 32767)))), (qf, .inl (cL, 8, .inr (.inl (vp_updL ff a1.toNatClampNeg (-9223372036854775808)))))] := hD
      refine W.eq (g2 := F0 m 27 ls ([])) rfl ?_
      refine lv_aload_n hx hb dX0_makeTooGreat_27 rfl (lv_at hl 0 rfl) ?_
      refine lv_bipush (v := 40) hx hb dX0_makeTooGreat_28 (by decide) ?_
      refine lv_iload_n hx hb dX0_makeTooGreat_30 rfl (lv_at hl 3 rfl) ?_
      refine lv_iconst (v := 1) hx hb dX0_makeTooGreat_31 (by decide) ?_
      refine wr_calli (D := (dC, dI)) (v9 := (40, ((upd ft a1.toNatClampNeg ((if a2 = 0 then 0 else 32768) ||| 32767)), (vp_updL ff a1.toNatClampNeg (-9223372036854775808)), w, 40, a3, 1))) (va_runV (As := [.int 40, .int a3, .int 1]) (rest := []) ⟨hx, hb, hml, hown, hts⟩ (c_X0_tell l dC dI cI cL h0 qt qf H.size (upd ft a1.toNatClampNeg ((if a2 = 0 then 0 else 32768) ||| 32767)) (vp_updL ff a1.toNatClampNeg (-9223372036854775808)) w lt lk lc 40 a3 1 ) (cwV 3 hts gX0_makeTooGreat_X0_tell rfl rfl rfl (by decide +kernel) ⟨Nat.le_of_ble_eq_true rfl, Nat.le_of_ble_eq_true rfl⟩) (wr_preV hK hP hD rfl rfl) rfl rfl hl.1 rfl (lv_room (Nat.le_of_ble_eq_true rfl)) dX0_makeTooGreat_32 ⟨Nat.zero_le _, Nat.zero_le _⟩) rfl hD hS hA (fun H locs hP hD hS => ?_)
      have hP : va_P (dC, dI) vwCl [(h0, .inr (0, [.ref qt, .ref qf, .int w, .int 40, .int a3, .int 1])), (qt, .inl (cI, 8, .inl (upd ft a1.toNatClampNeg ((if a2 = 0 then 0 else 32768) ||| 32767)))), (qf, .inl (cL, 8, .inr (.inl (vp_updL ff a1.toNatClampNeg (-9223372036854775808)))))] H := hP
      have hD : va_D A [(h0, .inr (0, [.ref qt, .ref qf, .int w, .int 40, .int a3, .int 1])), (qt, .inl (cI, 8, .inl (upd ft a1.toNatClampNeg ((if a2 = 0 then 0 else 32768) ||| 32767)))), (qf, .inl (cL, 8, .inr (.inl (vp_updL ff a1.toNatClampNeg (-9223372036854775808)))))] := hD
      refine W.eq (g2 := F0 m 35 ls ([.int 40])) rfl ?_
      exact W.iret (v := 40) hx hb hr (fun t ht hW => ⟨⟨40, ((upd ft a1.toNatClampNeg ((if a2 = 0 then 0 else 32768) ||| 32767)), (vp_updL ff a1.toNatClampNeg (-9223372036854775808)), w, 40, a3, 1), rfl, (show (f_X0_makeTooGreat ft ff w lt lk lc a1 a2 a3) = ((40, ((upd ft a1.toNatClampNeg ((if a2 = 0 then 0 else 32768) ||| 32767)), (vp_updL ff a1.toNatClampNeg (-9223372036854775808)), w, 40, a3, 1)) : Int32 × XS) from by unfold f_X0_makeTooGreat; rw [if_pos cV_1]).symm, by rw [ht]; exact hP, hD⟩, hS.F ht⟩) hS.2.2 dX0_makeTooGreat_35
    · refine lv_if_eq (tgt := 15) hx hb dX0_makeTooGreat_4 (by decide) (fun c_3 => ?_) (fun c_3 => ?_)
      · exact hJ_2
      · refine lv_aload_n hx hb dX0_makeTooGreat_7 rfl (lv_at hl 0 rfl) ?_
        refine lv_iload_n hx hb dX0_makeTooGreat_8 rfl (lv_at hl 2 rfl) ?_
        refine W.callV (r := .int (f_X0_goesAway w a2)) (W.runV (As := [.int a2]) (rest := []) ⟨hx, hb, hml, hown, hts⟩ (c_X0_goesAway l dC dI cI cL h0 qt qf ft ff w lt lk lc a2 ) (cwV 1 hts gX0_makeTooGreat_X0_goesAway rfl rfl rfl (by decide +kernel) ⟨Nat.le_of_ble_eq_true rfl, Nat.le_of_ble_eq_true rfl⟩) (rd_preV hK hP rfl rfl) rfl rfl hl.1 rfl (lv_room (Nat.le_of_ble_eq_true rfl)) dX0_makeTooGreat_9 ⟨Nat.zero_le _, Nat.zero_le _⟩) ?_
        refine W.eq (g2 := F0 m 12 ls ([.int (f_X0_goesAway w a2)])) rfl ?_
        refine lv_if_eq (tgt := 36) hx hb dX0_makeTooGreat_12 (by decide) (fun c_4 => ?_) (fun c_4 => ?_)
        · exact absurd cV_1 (by rw [if_neg c_3, if_pos c_4]; exact Bool.false_ne_true)
        · exact hJ_2
  · refine w_join (F0 m 36 ls ([])) ?_ (fun hJ_2 => ?_)
    · refine lv_aload_n hx hb dX0_makeTooGreat_36 rfl (lv_at hl 0 rfl) ?_
      refine lv_iload_n hx hb dX0_makeTooGreat_37 rfl (lv_at hl 1 rfl) ?_
      refine lv_iload_n hx hb dX0_makeTooGreat_38 rfl (lv_at hl 2 rfl) ?_
      refine lv_sipush (v := 32766) hx hb dX0_makeTooGreat_39 (by decide) ?_
      refine lv_ldc2 (v := (-1)) hx hb hown (hts (.constantLong RX0 171 (-1)) (by decide +kernel)) dX0_makeTooGreat_42 ?_
      refine lv_bipush (v := 64) hx hb dX0_makeTooGreat_45 (by decide) ?_
      refine lv_aload_n hx hb dX0_makeTooGreat_47 rfl (lv_at hl 0 rfl) ?_
      refine W.callV (r := .int (f_X0_digits w)) (W.runV (As := []) (rest := [.int 64, .long (-1), .int 32766, .int a2, .int a1, .ref h0]) ⟨hx, hb, hml, hown, hts⟩ (c_X0_digits l dC dI cI cL h0 qt qf ft ff w lt lk lc  ) (cwV 0 hts gX0_makeTooGreat_X0_digits rfl rfl rfl (by decide +kernel) ⟨Nat.le_of_ble_eq_true rfl, Nat.le_of_ble_eq_true rfl⟩) (rd_preV hK hP rfl rfl) rfl rfl hl.1 rfl (lv_room (Nat.le_of_ble_eq_true rfl)) dX0_makeTooGreat_48 ⟨Nat.zero_le _, Nat.zero_le _⟩) ?_
      refine W.eq (g2 := F0 m 51 ls ([.int (f_X0_digits w), .int 64, .long (-1), .int 32766, .int a2, .int a1, .ref h0])) rfl ?_
      refine lv_isub hx hb dX0_makeTooGreat_51 ?_
      refine lv_lshl hx hb dX0_makeTooGreat_52 rfl ?_
      refine wr_callv (D := (dC, dI)) (v9 := ((upd ft a1.toNatClampNeg ((if a2 = 0 then 0 else 32768) ||| 32766)), (vp_updL ff a1.toNatClampNeg ((-1) <<< (Int32.toInt64 (64 - (f_X0_digits w)) &&& 63))), w, lt, lk, lc)) (va_runV (As := [.int a1, .int a2, .int 32766, .long ((-1) <<< (Int32.toInt64 (64 - (f_X0_digits w)) &&& 63))]) (rest := []) ⟨hx, hb, hml, hown, hts⟩ (c_X0_store l dC dI cI cL h0 qt qf s.heap.size ft ff w lt lk lc a1 a2 32766 ((-1) <<< (Int32.toInt64 (64 - (f_X0_digits w)) &&& 63)) (by first | assumption | exact x_reg (by assumption) | exact x_regA (by assumption) | exact x_regB (by assumption))) (cwV 4 hts gX0_makeTooGreat_X0_store rfl rfl rfl (by decide +kernel) ⟨Nat.le_of_ble_eq_true rfl, Nat.le_of_ble_eq_true rfl⟩) (wr_preV hK hP hD rfl rfl) rfl rfl hl.1 rfl (lv_room (Nat.le_of_ble_eq_true rfl)) dX0_makeTooGreat_53 ⟨Nat.zero_le _, Nat.zero_le _⟩) rfl hD hS hA (fun H locs hP hD hS => ?_)
      have hP : va_P (dC, dI) vwCl [(h0, .inr (0, [.ref qt, .ref qf, .int w, .int lt, .int lk, .int lc])), (qt, .inl (cI, 8, .inl (upd ft a1.toNatClampNeg ((if a2 = 0 then 0 else 32768) ||| 32766)))), (qf, .inl (cL, 8, .inr (.inl (vp_updL ff a1.toNatClampNeg ((-1) <<< (Int32.toInt64 (64 - (f_X0_digits w)) &&& 63))))))] H := hP
      have hD : va_D A [(h0, .inr (0, [.ref qt, .ref qf, .int w, .int lt, .int lk, .int lc])), (qt, .inl (cI, 8, .inl (upd ft a1.toNatClampNeg ((if a2 = 0 then 0 else 32768) ||| 32766)))), (qf, .inl (cL, 8, .inr (.inl (vp_updL ff a1.toNatClampNeg ((-1) <<< (Int32.toInt64 (64 - (f_X0_digits w)) &&& 63))))))] := hD
      refine W.eq (g2 := F0 m 56 ls ([])) rfl ?_
      refine lv_aload_n hx hb dX0_makeTooGreat_56 rfl (lv_at hl 0 rfl) ?_
      refine lv_bipush (v := 40) hx hb dX0_makeTooGreat_57 (by decide) ?_
      refine lv_iload_n hx hb dX0_makeTooGreat_59 rfl (lv_at hl 3 rfl) ?_
      refine lv_iconst (v := (-1)) hx hb dX0_makeTooGreat_60 (by decide) ?_
      refine wr_calli (D := (dC, dI)) (v9 := (40, ((upd ft a1.toNatClampNeg ((if a2 = 0 then 0 else 32768) ||| 32766)), (vp_updL ff a1.toNatClampNeg ((-1) <<< (Int32.toInt64 (64 - (f_X0_digits w)) &&& 63))), w, 40, a3, (-1)))) (va_runV (As := [.int 40, .int a3, .int (-1)]) (rest := []) ⟨hx, hb, hml, hown, hts⟩ (c_X0_tell l dC dI cI cL h0 qt qf H.size (upd ft a1.toNatClampNeg ((if a2 = 0 then 0 else 32768) ||| 32766)) (vp_updL ff a1.toNatClampNeg ((-1) <<< (Int32.toInt64 (64 - (f_X0_digits w)) &&& 63))) w lt lk lc 40 a3 (-1) ) (cwV 3 hts gX0_makeTooGreat_X0_tell rfl rfl rfl (by decide +kernel) ⟨Nat.le_of_ble_eq_true rfl, Nat.le_of_ble_eq_true rfl⟩) (wr_preV hK hP hD rfl rfl) rfl rfl hl.1 rfl (lv_room (Nat.le_of_ble_eq_true rfl)) dX0_makeTooGreat_61 ⟨Nat.zero_le _, Nat.zero_le _⟩) rfl hD hS hA (fun H locs hP hD hS => ?_)
      have hP : va_P (dC, dI) vwCl [(h0, .inr (0, [.ref qt, .ref qf, .int w, .int 40, .int a3, .int (-1)])), (qt, .inl (cI, 8, .inl (upd ft a1.toNatClampNeg ((if a2 = 0 then 0 else 32768) ||| 32766)))), (qf, .inl (cL, 8, .inr (.inl (vp_updL ff a1.toNatClampNeg ((-1) <<< (Int32.toInt64 (64 - (f_X0_digits w)) &&& 63))))))] H := hP
      have hD : va_D A [(h0, .inr (0, [.ref qt, .ref qf, .int w, .int 40, .int a3, .int (-1)])), (qt, .inl (cI, 8, .inl (upd ft a1.toNatClampNeg ((if a2 = 0 then 0 else 32768) ||| 32766)))), (qf, .inl (cL, 8, .inr (.inl (vp_updL ff a1.toNatClampNeg ((-1) <<< (Int32.toInt64 (64 - (f_X0_digits w)) &&& 63))))))] := hD
      refine W.eq (g2 := F0 m 64 ls ([.int 40])) rfl ?_
      exact W.iret (v := 40) hx hb hr (fun t ht hW => ⟨⟨40, ((upd ft a1.toNatClampNeg ((if a2 = 0 then 0 else 32768) ||| 32766)), (vp_updL ff a1.toNatClampNeg ((-1) <<< (Int32.toInt64 (64 - (f_X0_digits w)) &&& 63))), w, 40, a3, (-1)), rfl, (show (f_X0_makeTooGreat ft ff w lt lk lc a1 a2 a3) = ((40, ((upd ft a1.toNatClampNeg ((if a2 = 0 then 0 else 32768) ||| 32766)), (vp_updL ff a1.toNatClampNeg ((-1) <<< (Int32.toInt64 (64 - (f_X0_digits w)) &&& 63))), w, 40, a3, (-1))) : Int32 × XS) from by unfold f_X0_makeTooGreat; rw [if_neg cV_1]).symm, by rw [ht]; exact hP, hD⟩, hS.F ht⟩) hS.2.2 dX0_makeTooGreat_64
    · refine lv_if_eq (tgt := 15) hx hb dX0_makeTooGreat_4 (by decide) (fun c_5 => ?_) (fun c_5 => ?_)
      · exact absurd (by rw [if_pos c_5]) cV_1
      · refine lv_aload_n hx hb dX0_makeTooGreat_7 rfl (lv_at hl 0 rfl) ?_
        refine lv_iload_n hx hb dX0_makeTooGreat_8 rfl (lv_at hl 2 rfl) ?_
        refine W.callV (r := .int (f_X0_goesAway w a2)) (W.runV (As := [.int a2]) (rest := []) ⟨hx, hb, hml, hown, hts⟩ (c_X0_goesAway l dC dI cI cL h0 qt qf ft ff w lt lk lc a2 ) (cwV 1 hts gX0_makeTooGreat_X0_goesAway rfl rfl rfl (by decide +kernel) ⟨Nat.le_of_ble_eq_true rfl, Nat.le_of_ble_eq_true rfl⟩) (rd_preV hK hP rfl rfl) rfl rfl hl.1 rfl (lv_room (Nat.le_of_ble_eq_true rfl)) dX0_makeTooGreat_9 ⟨Nat.zero_le _, Nat.zero_le _⟩) ?_
        refine W.eq (g2 := F0 m 12 ls ([.int (f_X0_goesAway w a2)])) rfl ?_
        refine lv_if_eq (tgt := 36) hx hb dX0_makeTooGreat_12 (by decide) (fun c_6 => ?_) (fun c_6 => ?_)
        · exact hJ_2
        · exact absurd (by rw [if_neg c_5, if_neg c_6]) cV_1
def f_X0_storeNextGreater (ft : Nat → Int32) (ff : Nat → Int64) (w : Int32) (lt : Int32) (lk : Int32) (lc : Int32) (a1 : Int32) (a2 : Int32) (a3 : Int32) (a4 : Int64) : XS :=
  if (lg_cmp a4 (-1)) = 0 then
    ((upd ft a1.toNatClampNeg ((if a2 = 0 then 0 else 32768) ||| (a3 + 1))), (vp_updL ff a1.toNatClampNeg (-9223372036854775808)), w, lt, lk, lc)
  else
    ((upd ft a1.toNatClampNeg ((if a2 = 0 then 0 else 32768) ||| (if 0 ≤ (lg_cmp (a4 + 1) 0) then 0 else (if a3 < 1 then 1 else a3)))), (vp_updL ff a1.toNatClampNeg (a4 + 1)), w, lt, lk, lc)
set_option maxHeartbeats 1000000 in
set_option maxRecDepth 100000 in
theorem c_X0_storeNextGreater (l : Launch) (dC : Nat → ClassId) (dI : Nat → Nat → Nat) (cI cL : ClassId) (h0 qt qf : Nat) (sz : Nat) (ft : Nat → Int32) (ff : Nat → Int64) (w : Int32) (lt : Int32) (lk : Int32) (lc : Int32) (a1 : Int32) (a2 : Int32) (a3 : Int32) (a4 : Int64) (hr1 : vp_in a1 8) : Met l yX0_storeNextGreater wsX0_storeNextGreater ({ frames := 1, cells := 0, slots := 0, locals := 25 }) (wr_Pc (dC, dI) (x_W cI cL h0 qt qf ft ff w lt lk lc) (x_T cI cL) sz [.ref h0, .int a1, .int a2, .int a3, .long a4]) (wr_Qv (dC, dI) (x_WU cI cL h0 qt qf) (f_X0_storeNextGreater ft ff w lt lk lc a1 a2 a3 a4) (va_A (x_W cI cL h0 qt qf ft ff w lt lk lc) sz)) 0 0 (va_A (x_W cI cL h0 qt qf ft ff w lt lk lc) sz) := by
  refine Met.ofW (cc := cX0_storeNextGreater) (maxL := 8) (ret := none) (by decide) rfl ?_
  intro p e s m args below meth c s₁ B hml hv
  obtain ⟨rfl, hsz, hP, hK, hD0⟩ := hv
  have hx := B.exec
  have hb := B.bytes
  have hr := B.returns
  have hts := atoms_spec (ws := wsX0_storeNextGreater) B.pre
  have hown : s.vm.findClass RX0 = some m.cls := findClass_of_methodNamed B.named
  have hlocks := B.notSynchronized
  subst hsz
  have hD := hD0.self (sz := s.heap.size)
  generalize hAe : va_A (x_W cI cL h0 qt qf ft ff w lt lk lc) s.heap.size = A at hD ⊢
  have hA : ∀ q : Nat, s.heap.size ≤ q → A q := fun q h => by rw [← hAe]; exact Or.inr h
  have hS : va_S A s.heap s.heap [] := va_S.rf
  have hD : va_D A [(h0, .inr (0, [.ref qt, .ref qf, .int w, .int lt, .int lk, .int lc])), (qt, .inl (cI, 8, .inl ft)), (qf, .inl (cL, 8, .inr (.inl ff)))] := hD
  have hP : va_P (dC, dI) vwCl [(h0, .inr (0, [.ref qt, .ref qf, .int w, .int lt, .int lk, .int lc])), (qt, .inl (cI, 8, .inl ft)), (qf, .inl (cL, 8, .inr (.inl ff)))] s.heap := hP
  have hl := lv_entry ([.ref h0, .int a1, .int a2, .int a3, .long a4]) (n := 8) (Nat.le_of_ble_eq_true rfl)
  rw [lg_entry_eq]
  generalize (lg_sl ([.ref h0, .int a1, .int a2, .int a3, .long a4]) ++ List.replicate (8 - (lg_sl ([.ref h0, .int a1, .int a2, .int a3, .long a4])).length) Slot.unset).toArray = ls at hl ⊢
  have hl : lv_has ls 8 [(0, .ref h0), (1, .int a1), (2, .int a2), (3, .int a3), (4, .long a4)] := hl
  refine lv_lload hx hb dX0_storeNextGreater_0 (lv_at hl 4 rfl) ?_
  refine lv_ldc2 (v := (-1)) hx hb hown (hts (.constantLong RX0 171 (-1)) (by decide +kernel)) dX0_storeNextGreater_2 ?_
  refine W.lcmp hx hb dX0_storeNextGreater_5 ?_
  refine lv_if_ne (tgt := 24) hx hb dX0_storeNextGreater_6 (by decide) (fun c_1 => ?_) (fun c_1 => ?_)
  · refine lv_lload hx hb dX0_storeNextGreater_24 (lv_at hl 4 rfl) ?_
    refine lv_lconst (v := 1) hx hb dX0_storeNextGreater_26 (by decide) ?_
    refine lv_ladd hx hb dX0_storeNextGreater_27 ?_
    refine lv_lstore (lv' := [(6, .long (a4 + 1)), (0, .ref h0), (1, .int a1), (2, .int a2), (3, .int a3), (4, .long a4)]) hx hb dX0_storeNextGreater_28 hl (by decide) rfl (fun ls hl => ?_)
    refine lv_aload_n hx hb dX0_storeNextGreater_30 rfl (lv_at hl 1 rfl) ?_
    refine lv_iload_n hx hb dX0_storeNextGreater_31 rfl (lv_at hl 2 rfl) ?_
    refine lv_iload_n hx hb dX0_storeNextGreater_32 rfl (lv_at hl 3 rfl) ?_
    refine lv_lload hx hb dX0_storeNextGreater_33 (lv_at hl 0 rfl) ?_
    refine lv_lconst (v := 0) hx hb dX0_storeNextGreater_35 (by decide) ?_
    refine W.lcmp hx hb dX0_storeNextGreater_36 ?_
    refine w_join (F0 m 49 ls (.int (if 0 ≤ (lg_cmp (a4 + 1) 0) then 0 else (if a3 < 1 then 1 else a3)) :: [.int a2, .int a1, .ref h0])) ?_ (fun hJ_2 => ?_)
    · refine lv_lload hx hb dX0_storeNextGreater_49 (lv_at hl 0 rfl) ?_
      refine wr_callv (D := (dC, dI)) (v9 := ((upd ft a1.toNatClampNeg ((if a2 = 0 then 0 else 32768) ||| (if 0 ≤ (lg_cmp (a4 + 1) 0) then 0 else (if a3 < 1 then 1 else a3)))), (vp_updL ff a1.toNatClampNeg (a4 + 1)), w, lt, lk, lc)) (va_runV (As := [.int a1, .int a2, .int (if 0 ≤ (lg_cmp (a4 + 1) 0) then 0 else (if a3 < 1 then 1 else a3)), .long (a4 + 1)]) (rest := []) ⟨hx, hb, hml, hown, hts⟩ (c_X0_store l dC dI cI cL h0 qt qf s.heap.size ft ff w lt lk lc a1 a2 (if 0 ≤ (lg_cmp (a4 + 1) 0) then 0 else (if a3 < 1 then 1 else a3)) (a4 + 1) (by first | assumption | exact x_reg (by assumption) | exact x_regA (by assumption) | exact x_regB (by assumption))) (cwV 4 hts gX0_storeNextGreater_X0_store rfl rfl rfl (by decide +kernel) ⟨Nat.le_of_ble_eq_true rfl, Nat.le_of_ble_eq_true rfl⟩) (wr_preV hK hP hD rfl rfl) rfl rfl hl.1 rfl (lv_room (Nat.le_of_ble_eq_true rfl)) dX0_storeNextGreater_51 ⟨Nat.zero_le _, Nat.zero_le _⟩) rfl hD hS hA (fun H locs hP hD hS => ?_)
      have hP : va_P (dC, dI) vwCl [(h0, .inr (0, [.ref qt, .ref qf, .int w, .int lt, .int lk, .int lc])), (qt, .inl (cI, 8, .inl (upd ft a1.toNatClampNeg ((if a2 = 0 then 0 else 32768) ||| (if 0 ≤ (lg_cmp (a4 + 1) 0) then 0 else (if a3 < 1 then 1 else a3)))))), (qf, .inl (cL, 8, .inr (.inl (vp_updL ff a1.toNatClampNeg (a4 + 1)))))] H := hP
      have hD : va_D A [(h0, .inr (0, [.ref qt, .ref qf, .int w, .int lt, .int lk, .int lc])), (qt, .inl (cI, 8, .inl (upd ft a1.toNatClampNeg ((if a2 = 0 then 0 else 32768) ||| (if 0 ≤ (lg_cmp (a4 + 1) 0) then 0 else (if a3 < 1 then 1 else a3)))))), (qf, .inl (cL, 8, .inr (.inl (vp_updL ff a1.toNatClampNeg (a4 + 1)))))] := hD
      refine W.eq (g2 := F0 m 54 ls ([])) rfl ?_
      exact W.vret hx hb hr (fun t ht hW => ⟨⟨((upd ft a1.toNatClampNeg ((if a2 = 0 then 0 else 32768) ||| (if 0 ≤ (lg_cmp (a4 + 1) 0) then 0 else (if a3 < 1 then 1 else a3)))), (vp_updL ff a1.toNatClampNeg (a4 + 1)), w, lt, lk, lc), rfl, (show (f_X0_storeNextGreater ft ff w lt lk lc a1 a2 a3 a4) = (((upd ft a1.toNatClampNeg ((if a2 = 0 then 0 else 32768) ||| (if 0 ≤ (lg_cmp (a4 + 1) 0) then 0 else (if a3 < 1 then 1 else a3)))), (vp_updL ff a1.toNatClampNeg (a4 + 1)), w, lt, lk, lc) : XS) from by unfold f_X0_storeNextGreater; rw [if_neg c_1]).symm, by rw [ht]; exact hP, hD⟩, hS.F ht⟩) hS.2.2 dX0_storeNextGreater_54
    · refine lv_if_ge (tgt := 48) hx hb dX0_storeNextGreater_37 (by decide) (fun c_3 => ?_) (fun c_3 => ?_)
      · refine lv_iconst (v := 0) hx hb dX0_storeNextGreater_48 (by decide) ?_
        exact W.eq (by rw [if_pos c_3]) hJ_2
      · refine lv_iload_n hx hb dX0_storeNextGreater_40 rfl (lv_at hl 4 rfl) ?_
        refine lv_iconst (v := 1) hx hb dX0_storeNextGreater_41 (by decide) ?_
        refine va_mmax hx hb (hml.trans hl.1.symm) hown (hts (.methodLink RX0 83 Lib.Math.max.name) (by decide +kernel)) (hts (.static Lib.Math.max.name) (by decide +kernel)) (hts (.initialized "java/lang/Math") (by decide +kernel)) (hts (.code Lib.Math.max.name Lib.Math.max.code 2 (some .int)) (by decide +kernel)) (Nat.le_of_ble_eq_true rfl) (Nat.le_of_ble_eq_true rfl) (Nat.zero_le _) (Nat.zero_le _) dX0_storeNextGreater_42 ?_
        refine lv_goto (tgt := 49) hx hb dX0_storeNextGreater_45 (by decide) ?_
        exact W.eq (by rw [if_neg c_3]) hJ_2
  · refine lv_aload_n hx hb dX0_storeNextGreater_9 rfl (lv_at hl 0 rfl) ?_
    refine lv_iload_n hx hb dX0_storeNextGreater_10 rfl (lv_at hl 1 rfl) ?_
    refine lv_iload_n hx hb dX0_storeNextGreater_11 rfl (lv_at hl 2 rfl) ?_
    refine lv_iload_n hx hb dX0_storeNextGreater_12 rfl (lv_at hl 3 rfl) ?_
    refine lv_iconst (v := 1) hx hb dX0_storeNextGreater_13 (by decide) ?_
    refine lv_iadd hx hb dX0_storeNextGreater_14 ?_
    refine lv_ldc2 (v := (-9223372036854775808)) hx hb hown (hts (.constantLong RX0 62 (-9223372036854775808)) (by decide +kernel)) dX0_storeNextGreater_15 ?_
    refine wr_callv (D := (dC, dI)) (v9 := ((upd ft a1.toNatClampNeg ((if a2 = 0 then 0 else 32768) ||| (a3 + 1))), (vp_updL ff a1.toNatClampNeg (-9223372036854775808)), w, lt, lk, lc)) (va_runV (As := [.int a1, .int a2, .int (a3 + 1), .long (-9223372036854775808)]) (rest := []) ⟨hx, hb, hml, hown, hts⟩ (c_X0_store l dC dI cI cL h0 qt qf s.heap.size ft ff w lt lk lc a1 a2 (a3 + 1) (-9223372036854775808) (by first | assumption | exact x_reg (by assumption) | exact x_regA (by assumption) | exact x_regB (by assumption))) (cwV 4 hts gX0_storeNextGreater_X0_store rfl rfl rfl (by decide +kernel) ⟨Nat.le_of_ble_eq_true rfl, Nat.le_of_ble_eq_true rfl⟩) (wr_preV hK hP hD rfl rfl) rfl rfl hl.1 rfl (lv_room (Nat.le_of_ble_eq_true rfl)) dX0_storeNextGreater_18 ⟨Nat.zero_le _, Nat.zero_le _⟩) rfl hD hS hA (fun H locs hP hD hS => ?_)
    have hP : va_P (dC, dI) vwCl [(h0, .inr (0, [.ref qt, .ref qf, .int w, .int lt, .int lk, .int lc])), (qt, .inl (cI, 8, .inl (upd ft a1.toNatClampNeg ((if a2 = 0 then 0 else 32768) ||| (a3 + 1))))), (qf, .inl (cL, 8, .inr (.inl (vp_updL ff a1.toNatClampNeg (-9223372036854775808)))))] H := hP
    have hD : va_D A [(h0, .inr (0, [.ref qt, .ref qf, .int w, .int lt, .int lk, .int lc])), (qt, .inl (cI, 8, .inl (upd ft a1.toNatClampNeg ((if a2 = 0 then 0 else 32768) ||| (a3 + 1))))), (qf, .inl (cL, 8, .inr (.inl (vp_updL ff a1.toNatClampNeg (-9223372036854775808)))))] := hD
    refine W.eq (g2 := F0 m 21 ls ([])) rfl ?_
    refine lv_goto (tgt := 54) hx hb dX0_storeNextGreater_21 (by decide) ?_
    exact W.vret hx hb hr (fun t ht hW => ⟨⟨((upd ft a1.toNatClampNeg ((if a2 = 0 then 0 else 32768) ||| (a3 + 1))), (vp_updL ff a1.toNatClampNeg (-9223372036854775808)), w, lt, lk, lc), rfl, (show (f_X0_storeNextGreater ft ff w lt lk lc a1 a2 a3 a4) = (((upd ft a1.toNatClampNeg ((if a2 = 0 then 0 else 32768) ||| (a3 + 1))), (vp_updL ff a1.toNatClampNeg (-9223372036854775808)), w, lt, lk, lc) : XS) from by unfold f_X0_storeNextGreater; rw [if_pos c_1]).symm, by rw [ht]; exact hP, hD⟩, hS.F ht⟩) hS.2.2 dX0_storeNextGreater_54
def f_X0_storeNextLesser (ft : Nat → Int32) (ff : Nat → Int64) (w : Int32) (lt : Int32) (lk : Int32) (lc : Int32) (a1 : Int32) (a2 : Int32) (a3 : Int32) (a4 : Int64) : XS :=
  if (if (lg_cmp a4 (-9223372036854775808)) = 0 then (if a3 ≤ 1 then false else true) else false) = true then
    ((upd ft a1.toNatClampNeg ((if a2 = 0 then 0 else 32768) ||| (a3 - 1))), (vp_updL ff a1.toNatClampNeg (-1)), w, lt, lk, lc)
  else
    ((upd ft a1.toNatClampNeg ((if a2 = 0 then 0 else 32768) ||| (if 0 ≤ (lg_cmp (a4 - 1) 0) then 0 else a3))), (vp_updL ff a1.toNatClampNeg (a4 - 1)), w, lt, lk, lc)
set_option maxHeartbeats 1000000 in
set_option maxRecDepth 100000 in
theorem c_X0_storeNextLesser (l : Launch) (dC : Nat → ClassId) (dI : Nat → Nat → Nat) (cI cL : ClassId) (h0 qt qf : Nat) (sz : Nat) (ft : Nat → Int32) (ff : Nat → Int64) (w : Int32) (lt : Int32) (lk : Int32) (lc : Int32) (a1 : Int32) (a2 : Int32) (a3 : Int32) (a4 : Int64) (hr1 : vp_in a1 8) : Met l yX0_storeNextLesser wsX0_storeNextLesser ({ frames := 1, cells := 0, slots := 0, locals := 25 }) (wr_Pc (dC, dI) (x_W cI cL h0 qt qf ft ff w lt lk lc) (x_T cI cL) sz [.ref h0, .int a1, .int a2, .int a3, .long a4]) (wr_Qv (dC, dI) (x_WU cI cL h0 qt qf) (f_X0_storeNextLesser ft ff w lt lk lc a1 a2 a3 a4) (va_A (x_W cI cL h0 qt qf ft ff w lt lk lc) sz)) 0 0 (va_A (x_W cI cL h0 qt qf ft ff w lt lk lc) sz) := by
  refine Met.ofW (cc := cX0_storeNextLesser) (maxL := 8) (ret := none) (by decide) rfl ?_
  intro p e s m args below meth c s₁ B hml hv
  obtain ⟨rfl, hsz, hP, hK, hD0⟩ := hv
  have hx := B.exec
  have hb := B.bytes
  have hr := B.returns
  have hts := atoms_spec (ws := wsX0_storeNextLesser) B.pre
  have hown : s.vm.findClass RX0 = some m.cls := findClass_of_methodNamed B.named
  have hlocks := B.notSynchronized
  subst hsz
  have hD := hD0.self (sz := s.heap.size)
  generalize hAe : va_A (x_W cI cL h0 qt qf ft ff w lt lk lc) s.heap.size = A at hD ⊢
  have hA : ∀ q : Nat, s.heap.size ≤ q → A q := fun q h => by rw [← hAe]; exact Or.inr h
  have hS : va_S A s.heap s.heap [] := va_S.rf
  have hD : va_D A [(h0, .inr (0, [.ref qt, .ref qf, .int w, .int lt, .int lk, .int lc])), (qt, .inl (cI, 8, .inl ft)), (qf, .inl (cL, 8, .inr (.inl ff)))] := hD
  have hP : va_P (dC, dI) vwCl [(h0, .inr (0, [.ref qt, .ref qf, .int w, .int lt, .int lk, .int lc])), (qt, .inl (cI, 8, .inl ft)), (qf, .inl (cL, 8, .inr (.inl ff)))] s.heap := hP
  have hl := lv_entry ([.ref h0, .int a1, .int a2, .int a3, .long a4]) (n := 8) (Nat.le_of_ble_eq_true rfl)
  rw [lg_entry_eq]
  generalize (lg_sl ([.ref h0, .int a1, .int a2, .int a3, .long a4]) ++ List.replicate (8 - (lg_sl ([.ref h0, .int a1, .int a2, .int a3, .long a4])).length) Slot.unset).toArray = ls at hl ⊢
  have hl : lv_has ls 8 [(0, .ref h0), (1, .int a1), (2, .int a2), (3, .int a3), (4, .long a4)] := hl
  refine lv_lload hx hb dX0_storeNextLesser_0 (lv_at hl 4 rfl) ?_
  refine lv_ldc2 (v := (-9223372036854775808)) hx hb hown (hts (.constantLong RX0 62 (-9223372036854775808)) (by decide +kernel)) dX0_storeNextLesser_2 ?_
  refine W.lcmp hx hb dX0_storeNextLesser_5 ?_
  by_cases cV_1 : (if (lg_cmp a4 (-9223372036854775808)) = 0 then (if a3 ≤ 1 then false else true) else false) = true
  · refine w_join (F0 m 14 ls ([])) ?_ (fun hJ_2 => ?_)
    · refine lv_aload_n hx hb dX0_storeNextLesser_14 rfl (lv_at hl 0 rfl) ?_
      refine lv_iload_n hx hb dX0_storeNextLesser_15 rfl (lv_at hl 1 rfl) ?_
      refine lv_iload_n hx hb dX0_storeNextLesser_16 rfl (lv_at hl 2 rfl) ?_
      refine lv_iload_n hx hb dX0_storeNextLesser_17 rfl (lv_at hl 3 rfl) ?_
      refine lv_iconst (v := 1) hx hb dX0_storeNextLesser_18 (by decide) ?_
      refine lv_isub hx hb dX0_storeNextLesser_19 ?_
      refine lv_ldc2 (v := (-1)) hx hb hown (hts (.constantLong RX0 171 (-1)) (by decide +kernel)) dX0_storeNextLesser_20 ?_
      refine wr_callv (D := (dC, dI)) (v9 := ((upd ft a1.toNatClampNeg ((if a2 = 0 then 0 else 32768) ||| (a3 - 1))), (vp_updL ff a1.toNatClampNeg (-1)), w, lt, lk, lc)) (va_runV (As := [.int a1, .int a2, .int (a3 - 1), .long (-1)]) (rest := []) ⟨hx, hb, hml, hown, hts⟩ (c_X0_store l dC dI cI cL h0 qt qf s.heap.size ft ff w lt lk lc a1 a2 (a3 - 1) (-1) (by first | assumption | exact x_reg (by assumption) | exact x_regA (by assumption) | exact x_regB (by assumption))) (cwV 4 hts gX0_storeNextLesser_X0_store rfl rfl rfl (by decide +kernel) ⟨Nat.le_of_ble_eq_true rfl, Nat.le_of_ble_eq_true rfl⟩) (wr_preV hK hP hD rfl rfl) rfl rfl hl.1 rfl (lv_room (Nat.le_of_ble_eq_true rfl)) dX0_storeNextLesser_23 ⟨Nat.zero_le _, Nat.zero_le _⟩) rfl hD hS hA (fun H locs hP hD hS => ?_)
      have hP : va_P (dC, dI) vwCl [(h0, .inr (0, [.ref qt, .ref qf, .int w, .int lt, .int lk, .int lc])), (qt, .inl (cI, 8, .inl (upd ft a1.toNatClampNeg ((if a2 = 0 then 0 else 32768) ||| (a3 - 1))))), (qf, .inl (cL, 8, .inr (.inl (vp_updL ff a1.toNatClampNeg (-1)))))] H := hP
      have hD : va_D A [(h0, .inr (0, [.ref qt, .ref qf, .int w, .int lt, .int lk, .int lc])), (qt, .inl (cI, 8, .inl (upd ft a1.toNatClampNeg ((if a2 = 0 then 0 else 32768) ||| (a3 - 1))))), (qf, .inl (cL, 8, .inr (.inl (vp_updL ff a1.toNatClampNeg (-1)))))] := hD
      refine W.eq (g2 := F0 m 26 ls ([])) rfl ?_
      refine lv_goto (tgt := 55) hx hb dX0_storeNextLesser_26 (by decide) ?_
      exact W.vret hx hb hr (fun t ht hW => ⟨⟨((upd ft a1.toNatClampNeg ((if a2 = 0 then 0 else 32768) ||| (a3 - 1))), (vp_updL ff a1.toNatClampNeg (-1)), w, lt, lk, lc), rfl, (show (f_X0_storeNextLesser ft ff w lt lk lc a1 a2 a3 a4) = (((upd ft a1.toNatClampNeg ((if a2 = 0 then 0 else 32768) ||| (a3 - 1))), (vp_updL ff a1.toNatClampNeg (-1)), w, lt, lk, lc) : XS) from by unfold f_X0_storeNextLesser; rw [if_pos cV_1]).symm, by rw [ht]; exact hP, hD⟩, hS.F ht⟩) hS.2.2 dX0_storeNextLesser_55
    · refine lv_if_ne (tgt := 29) hx hb dX0_storeNextLesser_6 (by decide) (fun c_3 => ?_) (fun c_3 => ?_)
      · exact absurd cV_1 (by rw [if_neg c_3]; exact Bool.false_ne_true)
      · refine lv_iload_n hx hb dX0_storeNextLesser_9 rfl (lv_at hl 3 rfl) ?_
        refine lv_iconst (v := 1) hx hb dX0_storeNextLesser_10 (by decide) ?_
        refine lv_icmp_le (tgt := 29) hx hb dX0_storeNextLesser_11 (by decide) (fun c_4 => ?_) (fun c_4 => ?_)
        · exact absurd cV_1 (by rw [if_pos c_3, if_pos c_4]; exact Bool.false_ne_true)
        · exact hJ_2
  · refine w_join (F0 m 29 ls ([])) ?_ (fun hJ_2 => ?_)
    · refine lv_lload hx hb dX0_storeNextLesser_29 (lv_at hl 4 rfl) ?_
      refine lv_lconst (v := 1) hx hb dX0_storeNextLesser_31 (by decide) ?_
      refine lv_lsub hx hb dX0_storeNextLesser_32 ?_
      refine lv_lstore (lv' := [(6, .long (a4 - 1)), (0, .ref h0), (1, .int a1), (2, .int a2), (3, .int a3), (4, .long a4)]) hx hb dX0_storeNextLesser_33 hl (by decide) rfl (fun ls hl => ?_)
      refine lv_aload_n hx hb dX0_storeNextLesser_35 rfl (lv_at hl 1 rfl) ?_
      refine lv_iload_n hx hb dX0_storeNextLesser_36 rfl (lv_at hl 2 rfl) ?_
      refine lv_iload_n hx hb dX0_storeNextLesser_37 rfl (lv_at hl 3 rfl) ?_
      refine lv_lload hx hb dX0_storeNextLesser_38 (lv_at hl 0 rfl) ?_
      refine lv_lconst (v := 0) hx hb dX0_storeNextLesser_40 (by decide) ?_
      refine W.lcmp hx hb dX0_storeNextLesser_41 ?_
      refine w_join (F0 m 50 ls (.int (if 0 ≤ (lg_cmp (a4 - 1) 0) then 0 else a3) :: [.int a2, .int a1, .ref h0])) ?_ (fun hJ_7 => ?_)
      · refine lv_lload hx hb dX0_storeNextLesser_50 (lv_at hl 0 rfl) ?_
        refine wr_callv (D := (dC, dI)) (v9 := ((upd ft a1.toNatClampNeg ((if a2 = 0 then 0 else 32768) ||| (if 0 ≤ (lg_cmp (a4 - 1) 0) then 0 else a3))), (vp_updL ff a1.toNatClampNeg (a4 - 1)), w, lt, lk, lc)) (va_runV (As := [.int a1, .int a2, .int (if 0 ≤ (lg_cmp (a4 - 1) 0) then 0 else a3), .long (a4 - 1)]) (rest := []) ⟨hx, hb, hml, hown, hts⟩ (c_X0_store l dC dI cI cL h0 qt qf s.heap.size ft ff w lt lk lc a1 a2 (if 0 ≤ (lg_cmp (a4 - 1) 0) then 0 else a3) (a4 - 1) (by first | assumption | exact x_reg (by assumption) | exact x_regA (by assumption) | exact x_regB (by assumption))) (cwV 4 hts gX0_storeNextLesser_X0_store rfl rfl rfl (by decide +kernel) ⟨Nat.le_of_ble_eq_true rfl, Nat.le_of_ble_eq_true rfl⟩) (wr_preV hK hP hD rfl rfl) rfl rfl hl.1 rfl (lv_room (Nat.le_of_ble_eq_true rfl)) dX0_storeNextLesser_52 ⟨Nat.zero_le _, Nat.zero_le _⟩) rfl hD hS hA (fun H locs hP hD hS => ?_)
        have hP : va_P (dC, dI) vwCl [(h0, .inr (0, [.ref qt, .ref qf, .int w, .int lt, .int lk, .int lc])), (qt, .inl (cI, 8, .inl (upd ft a1.toNatClampNeg ((if a2 = 0 then 0 else 32768) ||| (if 0 ≤ (lg_cmp (a4 - 1) 0) then 0 else a3))))), (qf, .inl (cL, 8, .inr (.inl (vp_updL ff a1.toNatClampNeg (a4 - 1)))))] H := hP
        have hD : va_D A [(h0, .inr (0, [.ref qt, .ref qf, .int w, .int lt, .int lk, .int lc])), (qt, .inl (cI, 8, .inl (upd ft a1.toNatClampNeg ((if a2 = 0 then 0 else 32768) ||| (if 0 ≤ (lg_cmp (a4 - 1) 0) then 0 else a3))))), (qf, .inl (cL, 8, .inr (.inl (vp_updL ff a1.toNatClampNeg (a4 - 1)))))] := hD
        refine W.eq (g2 := F0 m 55 ls ([])) rfl ?_
        exact W.vret hx hb hr (fun t ht hW => ⟨⟨((upd ft a1.toNatClampNeg ((if a2 = 0 then 0 else 32768) ||| (if 0 ≤ (lg_cmp (a4 - 1) 0) then 0 else a3))), (vp_updL ff a1.toNatClampNeg (a4 - 1)), w, lt, lk, lc), rfl, (show (f_X0_storeNextLesser ft ff w lt lk lc a1 a2 a3 a4) = (((upd ft a1.toNatClampNeg ((if a2 = 0 then 0 else 32768) ||| (if 0 ≤ (lg_cmp (a4 - 1) 0) then 0 else a3))), (vp_updL ff a1.toNatClampNeg (a4 - 1)), w, lt, lk, lc) : XS) from by unfold f_X0_storeNextLesser; rw [if_neg cV_1]).symm, by rw [ht]; exact hP, hD⟩, hS.F ht⟩) hS.2.2 dX0_storeNextLesser_55
      · refine lv_if_ge (tgt := 49) hx hb dX0_storeNextLesser_42 (by decide) (fun c_8 => ?_) (fun c_8 => ?_)
        · refine lv_iconst (v := 0) hx hb dX0_storeNextLesser_49 (by decide) ?_
          exact W.eq (by rw [if_pos c_8]) hJ_7
        · refine lv_iload_n hx hb dX0_storeNextLesser_45 rfl (lv_at hl 4 rfl) ?_
          refine lv_goto (tgt := 50) hx hb dX0_storeNextLesser_46 (by decide) ?_
          exact W.eq (by rw [if_neg c_8]) hJ_7
    · refine lv_if_ne (tgt := 29) hx hb dX0_storeNextLesser_6 (by decide) (fun c_5 => ?_) (fun c_5 => ?_)
      · exact hJ_2
      · refine lv_iload_n hx hb dX0_storeNextLesser_9 rfl (lv_at hl 3 rfl) ?_
        refine lv_iconst (v := 1) hx hb dX0_storeNextLesser_10 (by decide) ?_
        refine lv_icmp_le (tgt := 29) hx hb dX0_storeNextLesser_11 (by decide) (fun c_6 => ?_) (fun c_6 => ?_)
        · exact hJ_2
        · exact absurd (by rw [if_pos c_5, if_neg c_6]) cV_1
end
