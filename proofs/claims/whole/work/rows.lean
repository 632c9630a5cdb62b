section
/-! ===== BEGIN words of one list among another's, by their places ===== -/
theorem goodIn_r {big : List Cond} (ws : List Cond) (ps : List Nat) (hp : ws = ps.filterMap (fun i => big[i]?)) (h : ws.all goodWord = true) : GoodIn big ws := by
  intro w hw
  have h1 := List.all_eq_true.mp h w hw
  rw [hp] at hw
  obtain ⟨i, -, hi⟩ := List.mem_filterMap.mp hw
  have hm : w ∈ big := by first | exact List.mem_of_getElem? hi | exact List.getElem?_mem hi
  exact ⟨hm, good_of_word h1⟩
theorem goodIn_app {big a b : List Cond} (ha : GoodIn big a) (hb : GoodIn big b) : GoodIn big (a ++ b) := fun w h => (List.mem_append.mp h).elim (ha w) (hb w)
theorem goodIn_ca {big a b : List Cond} {c : Cond} (ha : GoodIn big (c :: a)) (hb : GoodIn big b) : GoodIn big (c :: (a ++ b)) := fun w h => (List.mem_cons.mp h).elim (fun e => ha w (List.mem_cons.mpr (Or.inl e))) (fun h => (List.mem_append.mp h).elim (fun h => ha w (List.mem_cons.mpr (Or.inr h))) (hb w))
theorem goodIn_sub {big ws : List Cond} (hm : ∀ w ∈ ws, w ∈ big) (h : ws.all goodWord = true) : GoodIn big ws := fun w hw => ⟨hm w hw, good_of_word (List.all_eq_true.mp h w hw)⟩
/-! ===== END ===== -/
/-! ===== BEGIN exceptions that leave a method, and their catching by the caller (launches without stack traces) ===== -/
section VXA
/-! The laws vx_back, vx_callV, vx_callS, vx_callSW, vx_throw0, vx_throwS follow proofs of the library, with one case more: JvmDerived/Free/Laws.lean (Back.of_free), Shelf42/LK1.lean (callV, callS), Shelf/KitTraced.lean (throwNew0V, throwNewS). -/
/-- where a method has thrown q: the class by its name, the cell, what was written, the world -/
def vx_T (XC : String → State → State → Prop) (st : State) (q : Addr) (t : State) (mc ms : Nat) (free : Addr → Prop) : Prop :=
  ∃ (E : String) (ce : Cell) (L : List Loc), XC E st t ∧ t.heap[q]? = some ce ∧ ce.vm = .none ∧ st.vm.findClass E = some ce.cls ∧ st.WarmedH t.vm ∧ st.sameButNew ({ t with vm := st.vm } : State) L mc ms ∧ ∀ z ∈ L, free z.base
def vx_Q (Qc : Array Value → State → Outcome → State → Prop) (XC : String → State → State → Prop) (mc ms : Nat) (free : Addr → Prop) : Array Value → State → Outcome → State → Prop := fun a st o t =>
  (Qc a st o t ∧ ∃ L, FrameEnd st o t L mc ms ∧ ∀ q ∈ L, free q.base) ∨ ∃ q, o = .threw q ∧ vx_T XC st q t mc ms free
/-- a callee that returns or throws -/
def vx_Met (l : Launch) (y : MethodName) (ws : List Cond) (rm : Room) (Pc : Array Value → State → Prop) (Qc : Array Value → State → Outcome → State → Prop) (XC : String → State → State → Prop) (mc ms : Nat) (free : Addr → Prop) : Prop :=
  MetFree l y (headSpec ws rm) Pc (fun _ _ _ _ _ => True) (vx_Q Qc XC mc ms free)
def vx_Post (XC : String → State → State → Prop) (mc ms : Nat) (free : Addr → Prop) : Pt → Array Value → Addr → Pt → Prop := fun A a q B =>
  ∃ (g : JFrame) (mk : MethodId) (t : State) (L : List Loc) (E : String) (ce : Cell), B.U.heap = t.heap ∧ B.U.vm = t.vm ∧ XC E (A.U.calling g mk a) t ∧ t.heap[q]? = some ce ∧ ce.vm = .none ∧ A.U.vm.findClass E = some ce.cls ∧ B.locs = A.locs ++ L ∧ (∀ z ∈ L, free z.base) ∧ B.cells = A.cells + mc ∧ B.slots = A.slots + ms
def vx_Back (l : Launch) (R : Room) (p : Program) (e : Env) (below : List Frame) (s : State) (sargs : Array Value) (y : MethodName) (len W9 : Nat)
    (Pre : Pt → Array Value → Prop) (Post : Pt → Array Value → Option Value → Pt → Prop) (PostX : Pt → Array Value → Addr → Pt → Prop) : Prop :=
  ∀ (m : MethodId) (meth : Method) (c : Code) (A : Pt) (g : JFrame) (ig : Instr) (mk : MethodId) (a : Array Value),
    Stand p l e R s m sargs below meth c A.U A.locs A.cells A.slots → g.method = m → g.locals.size = c.maxLocals → decode c.code g.pc = .ok (ig, len) →
    2 * g.monitorRoom + (g.stack.map fun v => v.category).sum ≤ W9 → A.U.methodNamed? y = some mk → Pre A a →
    (∃ (v : Option Value) (B : Pt), Stand p l e R s m sargs below meth c B.U B.locs B.cells B.slots ∧ Post A a v B ∧
      Steps p.tables e below (doInvoke e (A.U.setTop g) [] mk a).1 (B.U.setTop { g with pc := g.pc + len, stack := v.toList ++ g.stack })) ∨
    (∃ (q : Addr) (B : Pt), Stand p l e R s m sargs below meth c B.U B.locs B.cells B.slots ∧ PostX A a q B ∧
      Steps p.tables e below (doInvoke e (A.U.setTop g) [] mk a).1 ((B.U.setTop g).pushFrame (.throwing q)))
section Payer
variable {l : Launch} {R : Room} {p : Program} {e : Env} {below : List Frame} {s : State} {sargs : Array Value} {y : MethodName} {len W9 : Nat}
theorem vx_back {ws : List Cond} {rm : Room} {Pc : Array Value → State → Prop} {Qc : Array Value → State → Outcome → State → Prop} {XC : String → State → State → Prop} {mc ms : Nat} {free : Addr → Prop} {bytes : ByteArray} {maxL : Nat} {ret : Option FieldType}
    (hM : vx_Met l y ws rm Pc Qc XC mc ms free) (hblind : FrameBlind Pc) (hrc : rm.cells = mc) (hrs : rm.slots = ms)
    (hframes : rm.frames + 1 ≤ R.frames) (hlocals : W9 + (maxL + 11) + rm.locals ≤ R.locals)
    (hws : ∀ w ∈ ws, ∀ a' U, s.WarmedH U.vm → w.before a' U = true) (hcode : Cond.code y bytes maxL ret ∈ ws) (hinit : ∀ a' U, s.WarmedH U.vm → (Cond.initialized y.cls).before a' U = true) :
    vx_Back l R p e below s sargs y len W9 (PreOf R mc ms Pc) (PostOf Qc mc ms free) (vx_Post XC mc ms free) := by
  intro m meth c A g ig mk a X hg hsize hdg hW hn hp
  have h1 : (headSpec ws rm).pre.before a A.U = true := atoms_intro fun w hw => hws w hw _ _ X.warmed
  have h2 : (Cond.code y bytes maxL ret).before a A.U = true := hws _ hcode _ _ X.warmed
  have h3 : (Cond.initialized y.cls).before a A.U = true := hinit _ _ X.warmed
  have h4 : A.cells + (headSpec ws rm).room.cells ≤ R.cells := by rw [show (headSpec ws rm).room.cells = mc from hrc]; exact hp.1
  have h5 : A.slots + (headSpec ws rm).room.slots ≤ R.slots := by rw [show (headSpec ws rm).room.slots = ms from hrs]; exact hp.2.1
  have hPc : Pc a (A.U.calling g mk a) := hblind _ _ _ _ hp.2.2
  obtain ⟨U, Ls, c0, s0⟩ := A
  dsimp only [Pt.U, Pt.locs, Pt.cells, Pt.slots] at h1 h2 h3 h4 h5 X hn hPc ⊢
  obtain ⟨methY, cY, hmY, hcY, -, hlY, -, -, -, -⟩ := Cond.code_spec hn h2
  obtain ⟨kY, hkY, -⟩ := className_of_methodNamed hn
  have hinitY : kY.init = .initialized := Cond.initialized_spec (findClass_of_methodNamed hn) hkY h3
  have h : At U g.method c below := by rw [hg]; exact X.here
  have hlocals9 : W9 + (maxL + 11) + (headSpec ws rm).room.locals ≤ R.locals := hlocals
  have happ : (headSpec ws rm).appliesLoose y e.platform (U.calling g mk a) = true :=
    Spec.appliesLoose_calling (g := g) h hdg hn hkY hinitY
      (X.room_calling (g := g) (R' := (headSpec ws rm).room) hsize hmY hcY hframes (by rw [hlY]; omega) h4 h5) h1
  obtain ⟨mid, hmid⟩ := h.above
  have hfr : (U.setTop g).frames = (.java g :: mid) ++ below := by rw [State.frames_setTop' g h.top, hmid]; rfl
  obtain ⟨o, s₂, hsteps, -, hend, hq⟩ := Steps.callFree hM p X.admits X.cas X.clock (acts := []) hfr happ hPc trivial
  have hq' : vx_Q Qc XC mc ms free a (U.calling g mk a) o s₂ := hq
  rw [State.frames_setTop' g h.top] at hend
  obtain ⟨g₀, hg0⟩ := Option.isSome_iff_exists.mp h.top
  obtain ⟨r, hr⟩ := State.topJava?_eq_some.mp hg0
  have hr' : (({ U with heap := s₂.heap, slotsUsed := s₂.slotsUsed } : State).setVm s₂.vm).frames = .java g₀ :: r := hr
  rcases hq' with ⟨hqc, L, hfe, hL⟩ | ⟨q, rfl, E, ce, L, hx, hce, hcv, hcl, hW₂, hsm, hL⟩
  · obtain ⟨⟨v, rfl⟩, hW₂, e2, q2, q3, q4, q5, q6⟩ := id hfe
    have e3 : s₂ = ({ (U.calling g mk a).setFrames s₂.frames with heap := s₂.heap, slotsUsed := s₂.slotsUsed } : State).setVm s₂.vm := by
      have : s₂ = ({ s₂ with vm := (U.calling g mk a).vm } : State).setVm s₂.vm := rfl
      rw [e2] at this
      exact this
    obtain ⟨c₂, i₂, len₂, hc₂, hd₂, hf₂⟩ := hend
    have hW' : U.WarmedH s₂.vm := hW₂
    have hcc : c₂ = c := by
      have h1 : s₂.code? g.method = U.code? g.method := by
        rw [State.code?_eq, State.code?_eq, hW'.alike.method?]
      exact Option.some.inj (hc₂.symm.trans (h1.trans h.code))
    subst hcc
    have hlen : len₂ = len := by rw [hdg] at hd₂; cases hd₂; rfl
    subst hlen
    have hs₂ : s₂ = (({ U with heap := s₂.heap, slotsUsed := s₂.slotsUsed } : State).setVm s₂.vm).setTop { g with pc := g.pc + len₂, stack := v.toList ++ g.stack } := by
      refine e3.trans ?_
      rw [hf₂, State.calling_eq h.top, State.setFrames_setFrames, State.setTop_of_frames _ hr', hr]
      rfl
    have hsame : U.sameButNew ({ U with heap := s₂.heap, slotsUsed := s₂.slotsUsed } : State) L mc ms := by
      refine ⟨?_, q2, q3, q4, q5, q6⟩
      obtain ⟨t, ht, -⟩ := State.frames_cons hr
      show ({ U with heap := s₂.heap, slotsUsed := s₂.slotsUsed } : State) = { U.setFrames U.frames with heap := s₂.heap, slotsUsed := s₂.slotsUsed }
      rw [State.setFrames_self ht]
    subst hg
    refine Or.inl ⟨v, ⟨(({ U with heap := s₂.heap, slotsUsed := s₂.slotsUsed } : State).setVm s₂.vm), Ls ++ L, c0 + mc, s0 + ms⟩,
      ⟨X.admits, X.cas, X.clock, X.frames, X.room, X.hears, X.method, X.code, (X.here.setHeapUsed s₂.heap s₂.slotsUsed).setVm hW'.alike, X.tail, State.WarmedH.trans X.warmed hW', X.limits, X.bytes, X.same.trans (hsame.setVm s.vm)⟩,
      ⟨g, mk, s₂, L, rfl, rfl, hqc, rfl, hL, rfl, rfl⟩, ?_⟩
    show Steps p.tables e below _ ((({ U with heap := s₂.heap, slotsUsed := s₂.slotsUsed } : State).setVm s₂.vm).setTop { g with pc := g.pc + len₂, stack := v.toList ++ g.stack })
    rw [← hs₂]
    exact hsteps
  · obtain ⟨e2, q2, q3, q4, q5, q6⟩ := id hsm
    have e3 : s₂ = ({ (U.calling g mk a).setFrames s₂.frames with heap := s₂.heap, slotsUsed := s₂.slotsUsed } : State).setVm s₂.vm := by
      have : s₂ = ({ s₂ with vm := (U.calling g mk a).vm } : State).setVm s₂.vm := rfl
      rw [e2] at this
      exact this
    have hf₂ : s₂.frames = .throwing q :: .java g :: U.frames.tail := hend
    have hW' : U.WarmedH s₂.vm := hW₂
    have hs₂ : s₂ = ((({ U with heap := s₂.heap, slotsUsed := s₂.slotsUsed } : State).setVm s₂.vm).setTop g).pushFrame (.throwing q) := by
      refine e3.trans ?_
      rw [hf₂, State.calling_eq h.top, State.setFrames_setFrames, State.pushFrame, State.frames_setTop _ hr', State.setTop_of_frames _ hr', State.setFrames_setFrames, hr]
      rfl
    have hsame : U.sameButNew ({ U with heap := s₂.heap, slotsUsed := s₂.slotsUsed } : State) L mc ms := by
      refine ⟨?_, q2, q3, q4, q5, q6⟩
      obtain ⟨t, ht, -⟩ := State.frames_cons hr
      show ({ U with heap := s₂.heap, slotsUsed := s₂.slotsUsed } : State) = { U.setFrames U.frames with heap := s₂.heap, slotsUsed := s₂.slotsUsed }
      rw [State.setFrames_self ht]
    subst hg
    refine Or.inr ⟨q, ⟨(({ U with heap := s₂.heap, slotsUsed := s₂.slotsUsed } : State).setVm s₂.vm), Ls ++ L, c0 + mc, s0 + ms⟩,
      ⟨X.admits, X.cas, X.clock, X.frames, X.room, X.hears, X.method, X.code, (X.here.setHeapUsed s₂.heap s₂.slotsUsed).setVm hW'.alike, X.tail, State.WarmedH.trans X.warmed hW', X.limits, X.bytes, X.same.trans (hsame.setVm s.vm)⟩,
      ⟨g, mk, s₂, L, E, ce, rfl, rfl, hx, hce, hcv, hcl, rfl, hL, rfl, rfl⟩, ?_⟩
    show Steps p.tables e below _ (((({ U with heap := s₂.heap, slotsUsed := s₂.slotsUsed } : State).setVm s₂.vm).setTop g).pushFrame (.throwing q))
    rw [← hs₂]
    exact hsteps
end Payer
section Calls
variable {p : Program} {l : Launch} {e : Env} {R : Room} {s : State} {m : MethodId} {args : Array Value} {below : List Frame} {meth : Method} {c : Code} {T : State} {locs : List Loc} {cells slots : Nat}
theorem vx_callV (X : Stand p l e R s m args below meth c T locs cells slots) (hexec : p.tables.exec = Jvm.exec) {own C : String} {index : Nat} {y : MethodName} {bytes : ByteArray} {maxL : Nat} {ret : Option FieldType}
    (hown : s.vm.findClass own = some m.cls) (hlink : (Cond.methodLink own index y).before args s = true) (hinst : (Cond.instanceMethod y).before args s = true) (hsel : (Cond.selects C y y).before args s = true)
    (hcode : (Cond.code y bytes maxL ret).before args s = true) (hy : y.cls ≠ "java/lang/invoke/MethodHandle" ∧ y.cls ≠ "java/lang/invoke/VarHandle")
    {W9 : Nat} {Pre : Pt → Array Value → Prop} {Post : Pt → Array Value → Option Value → Pt → Prop} {PostX : Pt → Array Value → Addr → Pt → Prop} (hK : vx_Back l R p e below s args y 3 W9 Pre Post PostX)
    {b : Addr} {cellB : Cell} (hcell : T.heap[b]? = some cellB) (hobj : cellB.vm.isStatics = false) (hcls : s.vm.findClass C = some cellB.cls)
    {g : JFrame} (hg : g.method = m) (hsize : g.locals.size = c.maxLocals) {argsL rest : List Value} (hlen : ∀ sig, parseMethodDescriptor y.desc = some sig → argsL.length = sig.parameters.length)
    (hstack : g.stack = argsL.reverse ++ .ref b :: rest) (hW : 2 * g.monitorRoom + (rest.map fun v => v.category).sum ≤ W9) (hdg : decode c.code g.pc = .ok (.invokevirtual index, 3))
    (hpre : ∀ vm₁, s.WarmedH vm₁ → Pre ⟨T.setVm vm₁, locs, cells, slots⟩ (Value.ref b :: argsL).toArray) :
    (∃ (v : Option Value) (vm₁ : Vm) (B : Pt), s.WarmedH vm₁ ∧ Stand p l e R s m args below meth c B.U B.locs B.cells B.slots ∧ Post ⟨T.setVm vm₁, locs, cells, slots⟩ (Value.ref b :: argsL).toArray v B ∧
      ∀ target, Steps p.tables e below (B.U.setTop { g with pc := g.pc + 3, stack := v.toList ++ rest }) target → Steps p.tables e below (T.setTop g) target) ∨
    (∃ (q : Addr) (vm₁ : Vm) (B : Pt), s.WarmedH vm₁ ∧ Stand p l e R s m args below meth c B.U B.locs B.cells B.slots ∧ PostX ⟨T.setVm vm₁, locs, cells, slots⟩ (Value.ref b :: argsL).toArray q B ∧
      Steps p.tables e below (T.setTop g) ((B.U.setTop { g with stack := rest }).pushFrame (.throwing q))) := by
  obtain ⟨mk, methM, hnamed, hmethM, hstM, habM⟩ := Cond.instanceMethod_spec hinst
  obtain ⟨methM', cM, hmethM', -, -, -, -, -, -, hsigM⟩ := Cond.code_spec hnamed hcode
  cases hmethM.symm.trans hmethM'
  obtain ⟨c2, r2, m2, q1, q2, q3, q4, kP, hkP, hkPi⟩ := Cond.selects_spec hsel
  cases hcls.symm.trans q1
  cases (State.methodFound?_of_named hnamed hy).symm.trans q2
  cases hnamed.symm.trans q3
  have hselP : selectMethod e.platform s.vm cellB.cls mk = .method mk := by rw [Launch.admits_selectMethod X.admits]; exact q4
  obtain ⟨vm₁, X₁, hstep₁⟩ := X.invokevirtual hexec hown hlink hnamed hmethM hstM hkP hkPi hy (a := b) (cell := cellB) hcell
    (fun z h => by rw [h] at hobj; cases hobj) hselP hmethM habM hkP hkPi (g := g) hg (argsL := argsL) (rest := rest) (hlen _ hsigM) hstack hdg
  rcases hK m meth c ⟨T.setVm vm₁, locs, cells, slots⟩ { g with stack := rest } (.invokevirtual index) mk (Value.ref b :: argsL).toArray X₁ hg hsize hdg hW (X₁.named hnamed) (hpre vm₁ X₁.warmed) with ⟨v, B, X', hpost, hsteps⟩ | ⟨q, B, X', hpost, hsteps⟩
  · exact Or.inl ⟨v, vm₁, B, X₁.warmed, X', hpost, fun target h => hstep₁ _ fun acts => by rw [doInvoke_state]; exact hsteps.trans h⟩
  · exact Or.inr ⟨q, vm₁, B, X₁.warmed, X', hpost, hstep₁ _ fun acts => by rw [doInvoke_state]; exact hsteps⟩
theorem vx_callS (X : Stand p l e R s m args below meth c T locs cells slots) (hexec : p.tables.exec = Jvm.exec) {own : String} {index : Nat} {y : MethodName} {bytes : ByteArray} {maxL : Nat} {ret : Option FieldType}
    (hown : s.vm.findClass own = some m.cls) (hlink : (Cond.methodLink own index y).before args s = true) (hstat : (Cond.static y).before args s = true) (hinit : (Cond.initialized y.cls).before args s = true)
    (hcode : (Cond.code y bytes maxL ret).before args s = true) (hy : y.cls ≠ "java/lang/invoke/MethodHandle" ∧ y.cls ≠ "java/lang/invoke/VarHandle")
    {W9 : Nat} {Pre : Pt → Array Value → Prop} {Post : Pt → Array Value → Option Value → Pt → Prop} {PostX : Pt → Array Value → Addr → Pt → Prop} (hK : vx_Back l R p e below s args y 3 W9 Pre Post PostX)
    {g : JFrame} (hg : g.method = m) (hsize : g.locals.size = c.maxLocals) {argsL rest : List Value} (hlen : ∀ sig, parseMethodDescriptor y.desc = some sig → argsL.length = sig.parameters.length)
    (hstack : g.stack = argsL.reverse ++ rest) (hW : 2 * g.monitorRoom + (rest.map fun v => v.category).sum ≤ W9) (hdg : decode c.code g.pc = .ok (.invokestatic index, 3))
    (hpre : ∀ vm₁, s.WarmedH vm₁ → Pre ⟨T.setVm vm₁, locs, cells, slots⟩ argsL.toArray) :
    (∃ (v : Option Value) (vm₁ : Vm) (B : Pt), s.WarmedH vm₁ ∧ Stand p l e R s m args below meth c B.U B.locs B.cells B.slots ∧ Post ⟨T.setVm vm₁, locs, cells, slots⟩ argsL.toArray v B ∧
      ∀ target, Steps p.tables e below (B.U.setTop { g with pc := g.pc + 3, stack := v.toList ++ rest }) target → Steps p.tables e below (T.setTop g) target) ∨
    (∃ (q : Addr) (vm₁ : Vm) (B : Pt), s.WarmedH vm₁ ∧ Stand p l e R s m args below meth c B.U B.locs B.cells B.slots ∧ PostX ⟨T.setVm vm₁, locs, cells, slots⟩ argsL.toArray q B ∧
      Steps p.tables e below (T.setTop g) ((B.U.setTop { g with stack := rest }).pushFrame (.throwing q))) := by
  obtain ⟨mk, hnamed⟩ := Cond.code_named hcode
  obtain ⟨methM, cM, hmethM, -, -, -, -, -, -, hsigM⟩ := Cond.code_spec hnamed hcode
  have hstatic : methM.isStatic = true := Cond.static_spec hnamed hmethM hstat
  obtain ⟨kP, hkP, -⟩ := className_of_methodNamed hnamed
  have hinitP : kP.init = .initialized := Cond.initialized_spec (findClass_of_methodNamed hnamed) hkP hinit
  obtain ⟨vm₁, X₁, hstep₁⟩ := X.invokestatic hexec hown hlink hnamed hmethM hstatic hkP hinitP hy (g := g) hg (argsL := argsL) (rest := rest) (hlen _ hsigM) hstack hdg
  rcases hK m meth c ⟨T.setVm vm₁, locs, cells, slots⟩ { g with stack := rest } (.invokestatic index) mk argsL.toArray X₁ hg hsize hdg hW (X₁.named hnamed) (hpre vm₁ X₁.warmed) with ⟨v, B, X', hpost, hsteps⟩ | ⟨q, B, X', hpost, hsteps⟩
  · exact Or.inl ⟨v, vm₁, B, X₁.warmed, X', hpost, fun target h => hstep₁ _ fun acts => by rw [doInvoke_state]; exact hsteps.trans h⟩
  · exact Or.inr ⟨q, vm₁, B, X₁.warmed, X', hpost, hstep₁ _ fun acts => by rw [doInvoke_state]; exact hsteps⟩
end Calls
theorem vx_cls {s : State} {T : State} {vm₁ : Vm} {E : String} {k : ClassId} (hW : s.WarmedH vm₁) (h : (T.setVm vm₁).vm.findClass E = some k) : s.vm.findClass E = some k := by
  have h1 : vm₁.findClass E = some k := h
  rw [hW.alike.findClass] at h1
  exact h1
/-- the method's frame g, with q thrown over it -/
def vx_W (p : Program) (l : Launch) (e : Env) (R : Room) (s : State) (m : MethodId) (args : Array Value) (below : List Frame) (meth : Method) (c : Code) (H : Heap) (locs : List Loc) (cells slots : Nat) (Q : State → Prop) (g : JFrame) (q : Addr) : Prop :=
  ∀ T : State, T.heap = H → Stand p l e R s m args below meth c T locs cells slots → ∃ t, Steps p.tables e below ((T.setTop g).pushFrame (.throwing q)) t ∧ Q t
def vx_Run (p : Program) (l : Launch) (e : Env) (R : Room) (s : State) (m : MethodId) (args : Array Value) (below : List Frame) (meth : Method) (c : Code) (H : Heap) (locs : List Loc) (cells slots mc ms : Nat) (g : JFrame) (rest : List Value) (Qa : State → Outcome → State → Prop) (XC : String → State → State → Prop) (free : Addr → Prop) : Prop :=
  ∀ T : State, T.heap = H → Stand p l e R s m args below meth c T locs cells slots →
    (∃ (v : Option Value) (st₀ t T' : State) (L : List Loc), st₀.heap = H ∧ Stand p l e R s m args below meth c T' (locs ++ L) (cells + mc) (slots + ms) ∧ (∀ q ∈ L, free q.base) ∧ T'.heap = t.heap ∧ T'.vm = t.vm ∧ Qa st₀ (.returned v) t ∧
      Goes p e below T g T' { g with pc := g.pc + 3, stack := v.toList ++ rest }) ∨
    (∃ (q : Addr) (st₀ t T' : State) (L : List Loc) (E : String) (ce : Cell), st₀.heap = H ∧ Stand p l e R s m args below meth c T' (locs ++ L) (cells + mc) (slots + ms) ∧ (∀ z ∈ L, free z.base) ∧ T'.heap = t.heap ∧ T'.vm = t.vm ∧ XC E st₀ t ∧ t.heap[q]? = some ce ∧ ce.vm = .none ∧ s.vm.findClass E = some ce.cls ∧
      Steps p.tables e below (T.setTop g) ((T'.setTop { g with stack := rest }).pushFrame (.throwing q)))
def vx_X {S : Type} (px : S → Prop) (B : String → S → State → Prop) (A : Nat → Prop) : String → State → State → Prop := fun E st t => ∃ u : S, px u ∧ B E u t ∧ va_F A st t
section Runs
variable {p : Program} {l : Launch} {e : Env} {R : Room} {s : State} {m : MethodId} {args : Array Value} {below : List Frame} {meth : Method} {c : Code} {H : Heap} {locs : List Loc} {cells slots : Nat}
variable {y : MethodName} {bytes cc : ByteArray} {maxL nL mc ms n index : Nat} {ret : Option FieldType} {ws : List Cond} {rm : Room} {Pc : Array Value → State → Prop} {Qc : Array Value → State → Outcome → State → Prop} {XC : String → State → State → Prop} {free : Addr → Prop} {Ts : List Cond} {own C : String} {b : Addr} {As rest : List Value} {g : JFrame}
theorem vx_callBack (cb : CallB R s args own index y bytes maxL ret ws rm mc ms n) (hM : vx_Met l y ws rm Pc Qc XC mc ms free) (hbl : FrameBlind Pc) : vx_Back l R p e below s args y 3 8 (PreOf R mc ms Pc) (PostOf Qc mc ms free) (vx_Post XC mc ms free) := by
  obtain ⟨hrc, hrs, hfr, hlo, hws, hcw, -, hini, -⟩ := cb
  exact vx_back (bytes := bytes) (maxL := maxL) (ret := ret) hM hbl hrc hrs hfr hlo hws hcw (fun a' U hW => word_at hW (Or.inl (by first | rfl | simp [Cond.onTables, Cond.keeps, Cond.steady])) hini)
theorem vx_runV (S : CallFix p m c cc nL s args Ts own) (hM : vx_Met l y ws rm Pc Qc XC mc ms free) (cw : CallW R s args own C index y bytes maxL ret ws rm mc ms n) (hp : PreV s H C b Pc As)
    (hg : g.method = m) (hn : As.length = n) (hsize : g.locals.size = nL) (hstack : g.stack = As.reverse ++ .ref b :: rest) (hW : 2 * g.monitorRoom + (rest.map fun v => v.category).sum ≤ 8) (hdg : decode cc g.pc = .ok (.invokevirtual index, 3)) (hf : cells + mc ≤ R.cells ∧ slots + ms ≤ R.slots) :
    vx_Run p l e R s m args below meth c H locs cells slots mc ms g rest (Qc (Value.ref b :: As).toArray) XC free := by
  have hK : vx_Back l R p e below s args y 3 8 (PreOf R mc ms Pc) (PostOf Qc mc ms free) (vx_Post XC mc ms free) := vx_callBack cw.1 hM hp.1
  obtain ⟨⟨-, -, -, -, -, -, hcode, -, hy, hlen, hl⟩, hin, hse⟩ := cw
  obtain ⟨hx, hb, hml, ho, -⟩ := S
  obtain ⟨-, ⟨cellB, hcB, hoB, hclB⟩, hPc⟩ := hp
  intro T hT X
  rcases vx_callV X hx (C := C) (bytes := bytes) (maxL := maxL) (ret := ret) ho hl hin hse hcode hy hK (by rw [hT]; exact hcB) hoB hclB hg (hsize.trans hml.symm) (argsL := As) (rest := rest) (fun sig h => hn.trans (hlen sig h)) hstack hW (by rw [hb]; exact hdg)
    (fun vm₁ hW₁ => ⟨hf.1, hf.2, hPc (T.setVm vm₁) hT hW₁⟩) with ⟨v, vm₁, ⟨U', l2, c2, s2⟩, hW₁, X', ⟨g', mk, t, L, e1, e2, hq, h1, hL, h2, h3⟩, st⟩ | ⟨q, vm₁, ⟨U', l2, c2, s2⟩, hW₁, X', ⟨g', mk, t, L, E, ce, e1, e2, hq, hce, hcv, hcl, h1, hL, h2, h3⟩, st⟩
  · dsimp only [Pt.U, Pt.locs, Pt.cells, Pt.slots] at X' e1 e2 h1 h2 h3 st
    subst h1; subst h2; subst h3
    exact Or.inl ⟨v, (T.setVm vm₁).calling g' mk (Value.ref b :: As).toArray, t, U', L, hT, X', hL, e1, e2, hq, st⟩
  · dsimp only [Pt.U, Pt.locs, Pt.cells, Pt.slots] at X' e1 e2 h1 h2 h3 st hcl
    subst h1; subst h2; subst h3
    exact Or.inr ⟨q, (T.setVm vm₁).calling g' mk (Value.ref b :: As).toArray, t, U', L, E, ce, hT, X', hL, e1, e2, hq, hce, hcv, vx_cls hW₁ hcl, st⟩
theorem vx_runS (S : CallFix p m c cc nL s args Ts own) (hM : vx_Met l y ws rm Pc Qc XC mc ms free) (cw : CallB R s args own index y bytes maxL ret ws rm mc ms n ∧ (Cond.static y).before args s = true) (hp : PreS s H Pc As)
    (hg : g.method = m) (hn : As.length = n) (hsize : g.locals.size = nL) (hstack : g.stack = As.reverse ++ rest) (hW : 2 * g.monitorRoom + (rest.map fun v => v.category).sum ≤ 8) (hdg : decode cc g.pc = .ok (.invokestatic index, 3)) (hf : cells + mc ≤ R.cells ∧ slots + ms ≤ R.slots) :
    vx_Run p l e R s m args below meth c H locs cells slots mc ms g rest (Qc As.toArray) XC free := by
  have hK : vx_Back l R p e below s args y 3 8 (PreOf R mc ms Pc) (PostOf Qc mc ms free) (vx_Post XC mc ms free) := vx_callBack cw.1 hM hp.1
  obtain ⟨⟨-, -, -, -, -, -, hcode, hini, hy, hlen, hl⟩, hstt⟩ := cw
  obtain ⟨hx, hb, hml, ho, -⟩ := S
  intro T hT X
  rcases vx_callS X hx (bytes := bytes) (maxL := maxL) (ret := ret) ho hl hstt hini hcode hy hK hg (hsize.trans hml.symm) (argsL := As) (rest := rest) (fun sig h => hn.trans (hlen sig h)) hstack hW (by rw [hb]; exact hdg)
    (fun vm₁ hW₁ => ⟨hf.1, hf.2, hp.2 (T.setVm vm₁) hT hW₁⟩) with ⟨v, vm₁, ⟨U', l2, c2, s2⟩, hW₁, X', ⟨g', mk, t, L, e1, e2, hq, h1, hL, h2, h3⟩, st⟩ | ⟨q, vm₁, ⟨U', l2, c2, s2⟩, hW₁, X', ⟨g', mk, t, L, E, ce, e1, e2, hq, hce, hcv, hcl, h1, hL, h2, h3⟩, st⟩
  · dsimp only [Pt.U, Pt.locs, Pt.cells, Pt.slots] at X' e1 e2 h1 h2 h3 st
    subst h1; subst h2; subst h3
    exact Or.inl ⟨v, (T.setVm vm₁).calling g' mk As.toArray, t, U', L, hT, X', hL, e1, e2, hq, st⟩
  · dsimp only [Pt.U, Pt.locs, Pt.cells, Pt.slots] at X' e1 e2 h1 h2 h3 st hcl
    subst h1; subst h2; subst h3
    exact Or.inr ⟨q, (T.setVm vm₁).calling g' mk As.toArray, t, U', L, E, ce, hT, X', hL, e1, e2, hq, hce, hcv, vx_cls hW₁ hcl, st⟩
end Runs
section Rows
variable {p : Program} {l : Launch} {e : Env} {R : Room} {s : State} {m : MethodId} {args : Array Value} {below : List Frame} {meth : Method} {c : Code} {H : Heap} {locs : List Loc} {cells slots : Nat} {Q : State → Prop}
variable {mc ms : Nat} {free : Addr → Prop} {A0 A1 : Nat → Prop} {H0 : Heap} {a : Array Value} {pc : Nat} {ls : Array Slot} {st0 rest : List Value}
theorem vx_keep {st₀ t T' : State} {L : List Loc} (h0 : st₀.heap = H) (e1 : T'.heap = t.heap) (hS : va_S A0 H0 H locs) (hA : ∀ q, q < H.size → A1 q → A0 q) (hf : ∀ q, free q → A0 q) (hL : ∀ q ∈ L, free q.base) (hF : va_F A1 st₀ t) :
    H.size ≤ T'.heap.size ∧ (∀ q : Nat, q < H.size → ¬ A1 q → T'.heap[q]? = H[q]?) ∧ va_S A0 H0 T'.heap (locs ++ L) := by
  obtain ⟨hz, hk⟩ := hF
  rw [h0] at hz hk
  exact ⟨by rw [e1]; exact hz, fun q h1 h2 => by rw [e1]; exact hk q h1 h2,
    ⟨Nat.le_trans hS.1 (by rw [e1]; exact hz), fun q h1 h2 => by rw [e1, hk q (Nat.lt_of_lt_of_le h1 hS.1) (fun z => h2 (hA q (Nat.lt_of_lt_of_le h1 hS.1) z))]; exact hS.2.1 q h1 h2, fun q hq => by
      rcases List.mem_append.mp hq with h | h
      · exact hS.2.2 q h
      · exact hf _ (hL q h)⟩⟩
theorem vx_calli {S SX : Type} {post : Int32 → S → Prop} {px : SX → Prop} {B : S → State → Prop} {BX : String → SX → State → Prop} {AX : Nat → Prop} (hr : vx_Run p l e R s m args below meth c H locs cells slots mc ms (F0 m pc ls st0) rest (va_Qi post B A1 a) (vx_X px BX AX) free) (hS : va_S A0 H0 H locs) (hA : ∀ q, q < H.size → A1 q → A0 q) (hf : ∀ q, free q → A0 q) (hAX : ∀ q, q < H.size → AX q → A0 q)
    (kx : ∀ (E : String) (ce : Cell) (q9 : Addr) (u : SX) (t : State) (H1 : Heap) (locs1 : List Loc), t.heap = H1 → s.vm.Alike t.vm → px u → BX E u t → H.size ≤ H1.size → (∀ q : Nat, q < H.size → ¬ AX q → H1[q]? = H[q]?) → va_S A0 H0 H1 locs1 → H1[q9]? = some ce → ce.vm = .none → s.vm.findClass E = some ce.cls → vx_W p l e R s m args below meth c H1 locs1 (cells + mc) (slots + ms) Q (F0 m pc ls rest) q9)
    (kk : ∀ (r : Int32) (u : S) (t : State) (H1 : Heap) (locs1 : List Loc), t.heap = H1 → s.vm.Alike t.vm → post r u → B u t → H.size ≤ H1.size → (∀ q : Nat, q < H.size → ¬ A1 q → H1[q]? = H[q]?) → va_S A0 H0 H1 locs1 → W p l e R s m args below meth c H1 locs1 (cells + mc) (slots + ms) Q (F0 m (pc + 3) ls (.int r :: rest))) : W p l e R s m args below meth c H locs cells slots Q (F0 m pc ls st0) := by
  intro T hT X
  rcases hr T hT X with ⟨v, st₀, t, T', L, h0, X', hL, e1, e2, ⟨⟨r, u, hv, hp, hb⟩, hF⟩, st⟩ | ⟨q, st₀, t, T', L, E, ce, h0, X', hL, e1, e2, ⟨u, hp, hb, hF⟩, hce, hcv, hcl, st⟩
  · cases hv
    obtain ⟨k1, k2, k3⟩ := vx_keep h0 e1 hS hA hf hL hF
    obtain ⟨t2, a1, b1⟩ := kk r u t T'.heap (locs ++ L) e1.symm (by rw [← e2]; exact X'.warmed.alike) hp hb k1 k2 k3 T' rfl X'
    exact ⟨t2, st t2 a1, b1⟩
  · obtain ⟨k1, k2, k3⟩ := vx_keep h0 e1 hS hAX hf hL hF
    obtain ⟨t2, a1, b1⟩ := kx E ce q u t T'.heap (locs ++ L) e1.symm (by rw [← e2]; exact X'.warmed.alike) hp hb k1 k2 k3 (by rw [e1]; exact hce) hcv hcl T' rfl X'
    exact ⟨t2, st.trans a1, b1⟩
theorem vx_calll {S SX : Type} {post : Int64 → S → Prop} {px : SX → Prop} {B : S → State → Prop} {BX : String → SX → State → Prop} {AX : Nat → Prop} (hr : vx_Run p l e R s m args below meth c H locs cells slots mc ms (F0 m pc ls st0) rest (va_Ql post B A1 a) (vx_X px BX AX) free) (hS : va_S A0 H0 H locs) (hA : ∀ q, q < H.size → A1 q → A0 q) (hf : ∀ q, free q → A0 q) (hAX : ∀ q, q < H.size → AX q → A0 q)
    (kx : ∀ (E : String) (ce : Cell) (q9 : Addr) (u : SX) (t : State) (H1 : Heap) (locs1 : List Loc), t.heap = H1 → s.vm.Alike t.vm → px u → BX E u t → H.size ≤ H1.size → (∀ q : Nat, q < H.size → ¬ AX q → H1[q]? = H[q]?) → va_S A0 H0 H1 locs1 → H1[q9]? = some ce → ce.vm = .none → s.vm.findClass E = some ce.cls → vx_W p l e R s m args below meth c H1 locs1 (cells + mc) (slots + ms) Q (F0 m pc ls rest) q9)
    (kk : ∀ (r : Int64) (u : S) (t : State) (H1 : Heap) (locs1 : List Loc), t.heap = H1 → s.vm.Alike t.vm → post r u → B u t → H.size ≤ H1.size → (∀ q : Nat, q < H.size → ¬ A1 q → H1[q]? = H[q]?) → va_S A0 H0 H1 locs1 → W p l e R s m args below meth c H1 locs1 (cells + mc) (slots + ms) Q (F0 m (pc + 3) ls (.long r :: rest))) : W p l e R s m args below meth c H locs cells slots Q (F0 m pc ls st0) := by
  intro T hT X
  rcases hr T hT X with ⟨v, st₀, t, T', L, h0, X', hL, e1, e2, ⟨⟨r, u, hv, hp, hb⟩, hF⟩, st⟩ | ⟨q, st₀, t, T', L, E, ce, h0, X', hL, e1, e2, ⟨u, hp, hb, hF⟩, hce, hcv, hcl, st⟩
  · cases hv
    obtain ⟨k1, k2, k3⟩ := vx_keep h0 e1 hS hA hf hL hF
    obtain ⟨t2, a1, b1⟩ := kk r u t T'.heap (locs ++ L) e1.symm (by rw [← e2]; exact X'.warmed.alike) hp hb k1 k2 k3 T' rfl X'
    exact ⟨t2, st t2 a1, b1⟩
  · obtain ⟨k1, k2, k3⟩ := vx_keep h0 e1 hS hAX hf hL hF
    obtain ⟨t2, a1, b1⟩ := kx E ce q u t T'.heap (locs ++ L) e1.symm (by rw [← e2]; exact X'.warmed.alike) hp hb k1 k2 k3 (by rw [e1]; exact hce) hcv hcl T' rfl X'
    exact ⟨t2, st.trans a1, b1⟩
theorem vx_callf {S SX : Type} {post : UInt32 → S → Prop} {px : SX → Prop} {B : S → State → Prop} {BX : String → SX → State → Prop} {AX : Nat → Prop} (hr : vx_Run p l e R s m args below meth c H locs cells slots mc ms (F0 m pc ls st0) rest (va_Qf post B A1 a) (vx_X px BX AX) free) (hS : va_S A0 H0 H locs) (hA : ∀ q, q < H.size → A1 q → A0 q) (hf : ∀ q, free q → A0 q) (hAX : ∀ q, q < H.size → AX q → A0 q)
    (kx : ∀ (E : String) (ce : Cell) (q9 : Addr) (u : SX) (t : State) (H1 : Heap) (locs1 : List Loc), t.heap = H1 → s.vm.Alike t.vm → px u → BX E u t → H.size ≤ H1.size → (∀ q : Nat, q < H.size → ¬ AX q → H1[q]? = H[q]?) → va_S A0 H0 H1 locs1 → H1[q9]? = some ce → ce.vm = .none → s.vm.findClass E = some ce.cls → vx_W p l e R s m args below meth c H1 locs1 (cells + mc) (slots + ms) Q (F0 m pc ls rest) q9)
    (kk : ∀ (r : UInt32) (u : S) (t : State) (H1 : Heap) (locs1 : List Loc), t.heap = H1 → s.vm.Alike t.vm → post r u → B u t → H.size ≤ H1.size → (∀ q : Nat, q < H.size → ¬ A1 q → H1[q]? = H[q]?) → va_S A0 H0 H1 locs1 → W p l e R s m args below meth c H1 locs1 (cells + mc) (slots + ms) Q (F0 m (pc + 3) ls (.float r :: rest))) : W p l e R s m args below meth c H locs cells slots Q (F0 m pc ls st0) := by
  intro T hT X
  rcases hr T hT X with ⟨v, st₀, t, T', L, h0, X', hL, e1, e2, ⟨⟨r, u, hv, hp, hb⟩, hF⟩, st⟩ | ⟨q, st₀, t, T', L, E, ce, h0, X', hL, e1, e2, ⟨u, hp, hb, hF⟩, hce, hcv, hcl, st⟩
  · cases hv
    obtain ⟨k1, k2, k3⟩ := vx_keep h0 e1 hS hA hf hL hF
    obtain ⟨t2, a1, b1⟩ := kk r u t T'.heap (locs ++ L) e1.symm (by rw [← e2]; exact X'.warmed.alike) hp hb k1 k2 k3 T' rfl X'
    exact ⟨t2, st t2 a1, b1⟩
  · obtain ⟨k1, k2, k3⟩ := vx_keep h0 e1 hS hAX hf hL hF
    obtain ⟨t2, a1, b1⟩ := kx E ce q u t T'.heap (locs ++ L) e1.symm (by rw [← e2]; exact X'.warmed.alike) hp hb k1 k2 k3 (by rw [e1]; exact hce) hcv hcl T' rfl X'
    exact ⟨t2, st.trans a1, b1⟩
theorem vx_calld {S SX : Type} {post : UInt64 → S → Prop} {px : SX → Prop} {B : S → State → Prop} {BX : String → SX → State → Prop} {AX : Nat → Prop} (hr : vx_Run p l e R s m args below meth c H locs cells slots mc ms (F0 m pc ls st0) rest (va_Qd post B A1 a) (vx_X px BX AX) free) (hS : va_S A0 H0 H locs) (hA : ∀ q, q < H.size → A1 q → A0 q) (hf : ∀ q, free q → A0 q) (hAX : ∀ q, q < H.size → AX q → A0 q)
    (kx : ∀ (E : String) (ce : Cell) (q9 : Addr) (u : SX) (t : State) (H1 : Heap) (locs1 : List Loc), t.heap = H1 → s.vm.Alike t.vm → px u → BX E u t → H.size ≤ H1.size → (∀ q : Nat, q < H.size → ¬ AX q → H1[q]? = H[q]?) → va_S A0 H0 H1 locs1 → H1[q9]? = some ce → ce.vm = .none → s.vm.findClass E = some ce.cls → vx_W p l e R s m args below meth c H1 locs1 (cells + mc) (slots + ms) Q (F0 m pc ls rest) q9)
    (kk : ∀ (r : UInt64) (u : S) (t : State) (H1 : Heap) (locs1 : List Loc), t.heap = H1 → s.vm.Alike t.vm → post r u → B u t → H.size ≤ H1.size → (∀ q : Nat, q < H.size → ¬ A1 q → H1[q]? = H[q]?) → va_S A0 H0 H1 locs1 → W p l e R s m args below meth c H1 locs1 (cells + mc) (slots + ms) Q (F0 m (pc + 3) ls (.double r :: rest))) : W p l e R s m args below meth c H locs cells slots Q (F0 m pc ls st0) := by
  intro T hT X
  rcases hr T hT X with ⟨v, st₀, t, T', L, h0, X', hL, e1, e2, ⟨⟨r, u, hv, hp, hb⟩, hF⟩, st⟩ | ⟨q, st₀, t, T', L, E, ce, h0, X', hL, e1, e2, ⟨u, hp, hb, hF⟩, hce, hcv, hcl, st⟩
  · cases hv
    obtain ⟨k1, k2, k3⟩ := vx_keep h0 e1 hS hA hf hL hF
    obtain ⟨t2, a1, b1⟩ := kk r u t T'.heap (locs ++ L) e1.symm (by rw [← e2]; exact X'.warmed.alike) hp hb k1 k2 k3 T' rfl X'
    exact ⟨t2, st t2 a1, b1⟩
  · obtain ⟨k1, k2, k3⟩ := vx_keep h0 e1 hS hAX hf hL hF
    obtain ⟨t2, a1, b1⟩ := kx E ce q u t T'.heap (locs ++ L) e1.symm (by rw [← e2]; exact X'.warmed.alike) hp hb k1 k2 k3 (by rw [e1]; exact hce) hcv hcl T' rfl X'
    exact ⟨t2, st.trans a1, b1⟩
theorem vx_callv {S SX : Type} {post : S → Prop} {px : SX → Prop} {B : S → State → Prop} {BX : String → SX → State → Prop} {AX : Nat → Prop} (hr : vx_Run p l e R s m args below meth c H locs cells slots mc ms (F0 m pc ls st0) rest (va_Qv post B A1 a) (vx_X px BX AX) free) (hS : va_S A0 H0 H locs) (hA : ∀ q, q < H.size → A1 q → A0 q) (hf : ∀ q, free q → A0 q) (hAX : ∀ q, q < H.size → AX q → A0 q)
    (kx : ∀ (E : String) (ce : Cell) (q9 : Addr) (u : SX) (t : State) (H1 : Heap) (locs1 : List Loc), t.heap = H1 → s.vm.Alike t.vm → px u → BX E u t → H.size ≤ H1.size → (∀ q : Nat, q < H.size → ¬ AX q → H1[q]? = H[q]?) → va_S A0 H0 H1 locs1 → H1[q9]? = some ce → ce.vm = .none → s.vm.findClass E = some ce.cls → vx_W p l e R s m args below meth c H1 locs1 (cells + mc) (slots + ms) Q (F0 m pc ls rest) q9)
    (kk : ∀ (u : S) (t : State) (H1 : Heap) (locs1 : List Loc), t.heap = H1 → s.vm.Alike t.vm → post u → B u t → H.size ≤ H1.size → (∀ q : Nat, q < H.size → ¬ A1 q → H1[q]? = H[q]?) → va_S A0 H0 H1 locs1 → W p l e R s m args below meth c H1 locs1 (cells + mc) (slots + ms) Q (F0 m (pc + 3) ls (rest))) : W p l e R s m args below meth c H locs cells slots Q (F0 m pc ls st0) := by
  intro T hT X
  rcases hr T hT X with ⟨v, st₀, t, T', L, h0, X', hL, e1, e2, ⟨⟨u, hv, hp, hb⟩, hF⟩, st⟩ | ⟨q, st₀, t, T', L, E, ce, h0, X', hL, e1, e2, ⟨u, hp, hb, hF⟩, hce, hcv, hcl, st⟩
  · cases hv
    obtain ⟨k1, k2, k3⟩ := vx_keep h0 e1 hS hA hf hL hF
    obtain ⟨t2, a1, b1⟩ := kk u t T'.heap (locs ++ L) e1.symm (by rw [← e2]; exact X'.warmed.alike) hp hb k1 k2 k3 T' rfl X'
    exact ⟨t2, st t2 a1, b1⟩
  · obtain ⟨k1, k2, k3⟩ := vx_keep h0 e1 hS hAX hf hL hF
    obtain ⟨t2, a1, b1⟩ := kx E ce q u t T'.heap (locs ++ L) e1.symm (by rw [← e2]; exact X'.warmed.alike) hp hb k1 k2 k3 (by rw [e1]; exact hce) hcv hcl T' rfl X'
    exact ⟨t2, st.trans a1, b1⟩
/-- caught by the row x of this method's table; the rows ahead don't take it -/
theorem vx_catch {own name : String} {E : String} {ce : Cell} {q : Addr} (hown : s.vm.findClass own = some m.cls) (pre : List ExceptionTableEntry) (x : ExceptionTableEntry) (suf : List ExceptionTableEntry) (hsplit : c.exceptionTable.toList = pre ++ x :: suf)
    (hpass : ∀ z ∈ pre, covers z pc = false ∨ (z.catchType ≠ 0 ∧ ∃ nm : String, (Cond.classLink own z.catchType nm).before args s = true ∧ va_Nc E nm s)) (hx : covers x pc = true) (h0 : x.catchType ≠ 0)
    (hlink : (Cond.classLink own x.catchType name).before args s = true) (hcast : (Cond.castable E name).before args s = true) (hcell : H[q]? = some ce) (hv : ce.vm = .none) (hcl : s.vm.findClass E = some ce.cls)
    (kk : W p l e R s m args below meth c H locs cells slots Q (F0 m x.handlerPc ls [.ref q])) : vx_W p l e R s m args below meth c H locs cells slots Q (F0 m pc ls rest) q := by
  intro T hT X
  have hpl : e.platform.magicAccessors = ({} : Platform).magicAccessors := by rw [X.admits.platform]
  obtain ⟨c3, c4, hc3, hc4, hasg⟩ := Cond.castable_spec hcast
  cases Option.some.inj (hc3.symm.trans hcl)
  obtain ⟨c5, hc5, hcl5⟩ := Cond.classLink_spec hown hlink e.platform hpl
  cases Option.some.inj (hc4.symm.trans hc5)
  obtain ⟨vm', X', st⟩ := X.thenCaughtThrough q (g := F0 m pc ls rest) rfl (Steps.refl _) (by rw [hT]; exact hcell) (by rw [hv]; rfl) (by obtain ⟨k9, h9, -⟩ := Vm.findClass_spec hcl; exact ⟨k9, h9⟩) pre x suf hsplit
    (fun z hz => by
      rcases hpass z hz with h | ⟨hz0, nm, hl1, hn1⟩
      · exact Or.inl h
      · obtain ⟨c6, hc6, hcl6⟩ := Cond.classLink_spec hown hl1 e.platform hpl
        obtain ⟨a8, b8, h1, h2, h3⟩ := hn1
        cases Option.some.inj (h1.symm.trans hcl)
        cases Option.some.inj (h2.symm.trans hc6)
        exact Or.inr ⟨hz0, _, hcl6, h3⟩) hx (Or.inr ⟨h0, c4, hcl5, hasg⟩)
  obtain ⟨t, a1, b1⟩ := kk (T.setVm vm') hT X'
  exact ⟨t, st.trans a1, b1⟩
end Rows
section Ends
variable {p : Program} {l : Launch} {e : Env} {R : Room} {s : State} {m : MethodId} {args : Array Value} {below : List Frame} {meth : Method} {c : Code} {H : Heap} {locs : List Loc} {cells slots : Nat} {Q : State → Prop}
variable {mc ms : Nat} {free : Addr → Prop} {A0 A1 : Nat → Prop} {H0 : Heap} {a : Array Value} {ls : Array Slot} {st0 rest : List Value}
variable {Qc : Array Value → State → Outcome → State → Prop} {XC : String → State → State → Prop}
/-- what a body that may throw owes at its end -/
def vx_MQ (below : List Frame) (Qc : Array Value → State → Outcome → State → Prop) (XC : String → State → State → Prop) (a : Array Value) (s : State) (mc ms : Nat) (free : Addr → Prop) : State → Prop := fun t =>
  ∃ o, t.status = .running ∧ Ended t below o ∧ vx_Q Qc XC mc ms free a s o t
theorem vx_ret {g : JFrame} {mc ms : Nat} (k : W p l e R s m args below meth c H locs cells slots (MQ below Qc args s mc ms free) g) : W p l e R s m args below meth c H locs cells slots (vx_MQ below Qc XC args s mc ms free) g := by
  intro T hT X
  obtain ⟨t, a1, o, b1, b2, b3, b4⟩ := k T hT X
  exact ⟨t, a1, o, b1, b2, Or.inl ⟨b3, b4⟩⟩
/-- not caught here: it goes on to the caller -/
theorem vx_widen {g : JFrame} {q : Addr} {k n : Nat} (h1 : cells ≤ k) (h2 : slots ≤ n) (kk : vx_W p l e R s m args below meth c H locs k n Q g q) : vx_W p l e R s m args below meth c H locs cells slots Q g q := fun T hT X => kk T hT (stand_widen X h1 h2)
theorem vx_out {pc : Nat} {E : String} {ce : Cell} {q : Addr} {mc ms : Nat} (hout : ∀ x ∈ c.exceptionTable.toList, covers x pc = false) (hlocks : meth.locks = false) (hcell : H[q]? = some ce) (hv : ce.vm = .none) (hcl : s.vm.findClass E = some ce.cls)
    (hx : ∀ t : State, t.heap = H → s.vm.Alike t.vm → XC E s t) (hf : ∀ z ∈ locs, free z.base) (hc : cells ≤ mc) (hs : slots ≤ ms) :
    vx_W p l e R s m args below meth c H locs cells slots (vx_MQ below Qc XC args s mc ms free) (F0 m pc ls rest) q := by
  intro T hT X
  obtain ⟨st1, hrun, hend, hW, hsm⟩ := X.leaveThrown q (g := F0 m pc ls rest) rfl rfl rfl hout hlocks
  have hcell9 : (T.setFrames (.throwing q :: below)).heap[q]? = some ce := by
    show T.heap[q]? = some ce
    rw [hT]; exact hcell
  exact ⟨_, st1, .threw q, hrun, hend, Or.inr ⟨q, rfl, E, ce, locs, hx _ hT hW.alike, hcell9, hv, hcl, hW, hsm.mono hc hs, hf⟩⟩
theorem vx_frame {U : State} {k n : Nat} (h : s.sameButNew ({ U with vm := s.vm } : State) locs k n) : s.heap.size ≤ U.heap.size ∧ ∀ q : Nat, q < s.heap.size → (∀ z ∈ locs, z.base ≠ q) → U.heap[q]? = s.heap[q]? := by
  obtain ⟨-, h2, -, -, -, h6⟩ := h
  refine ⟨h2, fun q hq hz => ?_⟩
  obtain ⟨c9, e1, e2, e3, e4⟩ := h6 q _ (Array.getElem?_eq_getElem hq)
  have hs : c9.slots = (s.heap[q]).slots := Array.ext_getElem? fun i => e4 i fun hm => hz _ hm rfl
  have h9 : c9 = s.heap[q] := by
    rw [hs] at e2
    exact e2
  have e5 : U.heap[q]? = some c9 := e1
  rw [e5, h9, Array.getElem?_eq_getElem hq]
/-- the words of a throw but the four that speak of the heap -/
def vx_no (w : Cond) : Bool := decide (w ≠ .isRef (.static Bundle.tN "UNASSIGNED_STACK" Bundle.steD)) && decide (w ≠ .isRef (.static Bundle.tN "SUPPRESSED_SENTINEL" Bundle.listD)) && decide (w ≠ .laysStatic Bundle.tN "UNASSIGNED_STACK" Bundle.steD) && decide (w ≠ .laysStatic Bundle.tN "SUPPRESSED_SENTINEL" Bundle.listD)
def vx_at0 (own : String) (ic : Nat) (X : String) (names : List String) : List Cond := (Bundle.ownAtoms0 own ic X names).filter vx_no
def vx_atS (own : String) (ic : Nat) (X : String) (names : List String) : List Cond := (Bundle.ownAtoms own ic X names).filter vx_no
/-- a word that the tables alone decide, or a good one -/
def vx_ot (w : Cond) : Bool := w.onTables || goodWord w
theorem vx_ot_at {args a' : Array Value} {s U : State} {w : Cond} (hW : s.WarmedH U.vm) (hvm : s.vm = U.vm) (hg : vx_ot w = true) (h : w.before args s = true) : w.before a' U = true := by
  simp only [vx_ot, Bool.or_eq_true] at hg
  rcases hg with hg | hg
  · exact va_tabs hg hvm h
  · exact word_at hW (good_of_word hg) h
/-- a list's words: the good ones out of the method's own list, the others by premises of their own -/
theorem vx_hat {args : Array Value} {s : State} {L B : List Cond} (h1 : ∀ w ∈ L.filter goodWord, w.before args s = true) (h2 : ∀ w ∈ L.filter (fun w => !goodWord w), w ∈ B) (h3 : ∀ w ∈ B, w.before args s = true) : ∀ w ∈ L, w.before args s = true := by
  intro w hw
  by_cases g : goodWord w = true
  · exact h1 w (List.mem_filter.mpr ⟨hw, g⟩)
  · refine h3 w (h2 w (List.mem_filter.mpr ⟨hw, ?_⟩))
    show (!goodWord w) = true
    cases hgw : goodWord w
    · rfl
    · exact absurd hgw g
theorem vx_c {args : Array Value} {s : State} {w : Cond} {B : List Cond} (h : w.before args s = true) (t : ∀ w ∈ B, w.before args s = true) : ∀ w' ∈ w :: B, w'.before args s = true := fun w' h' => (List.mem_cons.mp h').elim (fun e => by rw [e]; exact h) (t w')
theorem vx_n {args : Array Value} {s : State} : ∀ w ∈ ([] : List Cond), w.before args s = true := fun _ h => nomatch h
theorem vx_own {args : Array Value} {s : State} {L : List Cond} (h1 : ∀ w ∈ L.filter vx_no, w.before args s = true)
    (hU : (Cond.isRef (.static Bundle.tN "UNASSIGNED_STACK" Bundle.steD)).before args s = true) (hN : (Cond.isRef (.static Bundle.tN "SUPPRESSED_SENTINEL" Bundle.listD)).before args s = true)
    (lU : (Cond.laysStatic Bundle.tN "UNASSIGNED_STACK" Bundle.steD).before args s = true) (lN : (Cond.laysStatic Bundle.tN "SUPPRESSED_SENTINEL" Bundle.listD).before args s = true) : ∀ w ∈ L, w.before args s = true := by
  intro w hw
  by_cases e1 : w = .isRef (.static Bundle.tN "UNASSIGNED_STACK" Bundle.steD)
  · rw [e1]; exact hU
  · by_cases e2 : w = .isRef (.static Bundle.tN "SUPPRESSED_SENTINEL" Bundle.listD)
    · rw [e2]; exact hN
    · by_cases e3 : w = .laysStatic Bundle.tN "UNASSIGNED_STACK" Bundle.steD
      · rw [e3]; exact lU
      · by_cases e4 : w = .laysStatic Bundle.tN "SUPPRESSED_SENTINEL" Bundle.listD
        · rw [e4]; exact lN
        · exact h1 w (List.mem_filter.mpr ⟨hw, by unfold vx_no; rw [decide_eq_true e1, decide_eq_true e2, decide_eq_true e3, decide_eq_true e4]; rfl⟩)
/-- where a static field lies, its class's statics cell in H -/
def vx_L (C n d : String) (A : Nat → Prop) (U : State) (H : Heap) : Prop := ∃ (c : ClassId) (k : Class) (i : Nat) (f : Field) (a : Nat) (cell : Cell), U.vm.findClass C = some c ∧ U.fieldFound? C n d = some (c, k, i, f) ∧ f.isStatic = true ∧ k.statics = some a ∧ H[a]? = some cell ∧ cell.vm.isStatics = true ∧ cell.cls = c ∧ f.slot < cell.slots.size ∧ k.staticTypes[f.slot]? = some f.type ∧ ¬ A a
theorem vx_L.moved {C n d : String} {A : Nat → Prop} {u U : State} {H : Heap} (hvm : u.vm.Alike U.vm) (h : vx_L C n d A u H) : vx_L C n d A U H := by
  obtain ⟨c, k, i, f, a, cell, h1, h2, h3, h4, h5, h6, h7, h8, h9, h10⟩ := h
  obtain ⟨k', hi', he⟩ := State.fieldFound?_setVm hvm h2
  exact ⟨c, k', i, f, a, cell, by rw [hvm.findClass]; exact h1, hi', h3, by rw [he]; exact h4, h5, h6, h7, h8, by rw [he]; exact h9, h10⟩
theorem vx_L.kept {C n d : String} {A : Nat → Prop} {U : State} {H H1 : Heap} (h : vx_L C n d A U H) (hq : ∀ a : Nat, a < H.size → ¬ A a → H1[a]? = H[a]?) : vx_L C n d A U H1 := by
  obtain ⟨c, k, i, f, a, cell, h1, h2, h3, h4, h5, h6, h7, h8, h9, h10⟩ := h
  exact ⟨c, k, i, f, a, cell, h1, h2, h3, h4, by rw [hq a (Array.getElem?_eq_some_iff.mp h5).1 h10]; exact h5, h6, h7, h8, h9, h10⟩
theorem vx_L.narrow {C n d : String} {A B : Nat → Prop} {U : State} {H : Heap} (h : vx_L C n d A U H) (hAB : ∀ q, B q → A q) : vx_L C n d B U H := by
  obtain ⟨c, k, i, f, a, cell, h1, h2, h3, h4, h5, h6, h7, h8, h9, h10⟩ := h
  exact ⟨c, k, i, f, a, cell, h1, h2, h3, h4, h5, h6, h7, h8, h9, fun z => h10 (hAB _ z)⟩
theorem vx_L.word {C n d : String} {A : Nat → Prop} {s : State} {args : Array Value} (h : vx_L C n d A s s.heap) : (Cond.laysStatic C n d).before args s = true := by
  obtain ⟨c, k, i, f, a, cell, h1, h2, h3, h4, h5, h6, h7, h8, h9, -⟩ := h
  show (Cond.laysStatic C n d).holds args s none s [] = true
  exact Cond.laysStatic_of h1 h2 h3 h4 h5 h6 h7 h8 h9
/-- .. and what it holds: null or some reference -/
def vx_Zq (C n d : String) (A : Nat → Prop) (U : State) (H : Heap) : Prop := va_Zq C n d A U H ∧ vx_L C n d A U H
theorem vx_Zq.moved {C n d : String} {A : Nat → Prop} {u U : State} {H : Heap} (hvm : u.vm.Alike U.vm) (h : vx_Zq C n d A u H) : vx_Zq C n d A U H := ⟨va_Zq.moved hvm h.1, vx_L.moved hvm h.2⟩
theorem vx_Zq.kept {C n d : String} {A : Nat → Prop} {U : State} {H H1 : Heap} (h : vx_Zq C n d A U H) (hq : ∀ a : Nat, a < H.size → ¬ A a → H1[a]? = H[a]?) : vx_Zq C n d A U H1 := ⟨va_Zq.kept h.1 hq, vx_L.kept h.2 hq⟩
theorem vx_Zq.narrow {C n d : String} {A B : Nat → Prop} {U : State} {H : Heap} (h : vx_Zq C n d A U H) (hAB : ∀ q, B q → A q) : vx_Zq C n d B U H := ⟨va_Zq.narrow h.1 hAB, vx_L.narrow h.2 hAB⟩
theorem vx_Zqof {args : Array Value} {s : State} {C n d : String} {A : Nat → Prop} (hl : (Cond.laysStatic C n d).before args s = true) (hini : (Cond.initialized C).before args s = true) (h : (Cond.isRef (.static C n d)).before args s = true) (hA : ∀ a : Nat, a < s.heap.size → ¬ A a) : vx_Zq C n d A s s.heap := by
  refine ⟨va_Zqof hl hini h hA, ?_⟩
  obtain ⟨c, k, i, f, a, cell, h1, h2, h3, h4, h5, h6, h7, h8, h9⟩ := Cond.laysStatic_spec hl
  exact ⟨c, k, i, f, a, cell, h1, h2, h3, h4, h5, h6, h7, h8, h9, hA a (Array.getElem?_eq_some_iff.mp h5).1⟩
theorem vx_isRef {C n d : String} {v : Value} {A : Nat → Prop} {s : State} {args : Array Value} (h : va_Z C n d v A s s.heap) (hv : v.isRef = true) : (Cond.isRef (.static C n d)).before args s = true := by
  obtain ⟨cf, kf, fi, f, a, cell, h1, h2, h3, h4, h5, h6, h7, -⟩ := h
  have he : (Term.static C n d).eval args s none [] s = some v := by
    simp [Term.eval, State.fieldNamed?, h1, h2, h4, h5, h6, h7]
  simp only [Cond.before, Cond.holds, Cond.value, he]
  cases v <;> simp_all [Value.isRef]
theorem vx_isRefq {C n d : String} {A : Nat → Prop} {s : State} {args : Array Value} (h : va_Zq C n d A s s.heap) : (Cond.isRef (.static C n d)).before args s = true := by
  rcases h with h | ⟨t, h⟩
  · exact vx_isRef h rfl
  · exact vx_isRef h rfl
/-- the same frame, seen from here: as if the method were called anew in this heap -/
theorem vx_rebase {T : State} (X : Stand p l e R s m args below meth c T locs cells slots) {R' : Room} (hf : R'.frames ≤ R.frames) (hl : R'.locals ≤ R.locals) (hc : cells + R'.cells ≤ R.cells) (hs : slots + R'.slots ≤ R.slots) :
    Stand p l e R' ((T.setVm s.vm).setFrames (.invoking m args :: below)) m args below meth c T [] 0 0 := by
  have htop : (T.setVm s.vm).topJava?.isSome := X.here.top
  have hF : ((T.setVm s.vm).setFrames (.invoking m args :: below)).frames = .invoking m args :: below := State.frames_setFrames _ (State.cur_lt_of_top htop)
  obtain ⟨g₀, hg0⟩ := Option.isSome_iff_exists.mp htop
  obtain ⟨r, hr⟩ := State.topJava?_eq_some.mp hg0
  have hl9 : e.platform.stackLimits (T.setVm s.vm).me = e.platform.stackLimits s.me := X.limits
  have hb9 : (T.setVm s.vm).me.stackBytes = s.me.stackBytes := X.bytes
  refine ⟨X.admits, X.cas, X.clock, hF, ?_, X.hears, X.method, X.code, X.here, X.tail, X.warmed, ?_, ?_, ?_⟩
  · have h := X.room
    have hU : ((T.setVm s.vm).setFrames (.invoking m args :: below)).localsInUse = s.localsInUse := by
      rw [State.localsInUse_invoking hF (meth := meth) (c := c) X.method X.code, State.localsInUse_invoking X.frames X.method X.code]
    simp only [State.hasRoom, Bool.and_eq_true, decide_eq_true_eq] at h ⊢
    obtain ⟨⟨⟨⟨h1, h2, h3, h4, h5, h6⟩, h7⟩, h8⟩, h9⟩ := h
    rw [X.frames, List.length_cons] at h2 h3
    have q1 := X.heapSize
    have q2 := X.used
    simp only [hF, hU, List.length_cons, State.stackLimits_setFrames, State.stackBytes_setFrames, hl9, hb9]
    refine ⟨⟨⟨⟨by omega, by omega, by omega, by omega, by omega, h6⟩, ?_⟩, ?_⟩, X.book⟩
    · show T.heap.size + R'.cells ≤ e.platform.maxCells
      omega
    · show T.slotsUsed + R'.slots ≤ e.platform.maxSlots
      omega
  · rw [State.stackLimits_setFrames]; rfl
  · rw [State.stackBytes_setFrames]; rfl
  · refine ⟨?_, Nat.le_refl _, Nat.le_refl _, ?_, ?_, fun a c9 h9 => ⟨c9, h9, rfl, rfl, fun _ _ => rfl⟩⟩
    · obtain ⟨t, ht, -⟩ := State.frames_cons hr
      show T.setVm s.vm = { ((T.setVm s.vm).setFrames (.invoking m args :: below)).setFrames (T.setVm s.vm).frames with heap := T.heap, slotsUsed := T.slotsUsed }
      rw [State.setFrames_setFrames, State.setFrames_self ht]
      rfl
    · show T.slotsUsed = T.slotsUsed + ((T.heap.toList.drop T.heap.size).map (·.slots.size)).sum
      rw [List.drop_eq_nil_of_le (Nat.le_of_eq Array.length_toList)]
      rfl
    · show ((T.heap.toList.drop T.heap.size).map (·.slots.size)).sum ≤ 0
      rw [List.drop_eq_nil_of_le (Nat.le_of_eq Array.length_toList)]
      exact Nat.le_refl _
/-- 'throw new E()': new; dup; invokespecial; athrow -/
theorem vx_throw0 {cc : ByteArray} {pc : Nat} (hexec : p.tables.exec = Jvm.exec) (hb : c.code = cc) (hl : l.stackTraces = false) {own cls : String} {names : List String} {ik ic mc ms : Nat} {A : Nat → Prop}
    (hown : s.vm.findClass own = some m.cls) (hcls : Bundle.fit cls = true) (hnames : ∀ n ∈ names, Bundle.fit n = true)
    (hk : (Cond.classLink own ik cls).before args s = true) (hini : (Cond.initialized cls).before args s = true) (hat : ∀ w ∈ vx_at0 own ic cls names, w.before args s = true)
    (hgood : ∀ w ∈ Cond.classLink own ik cls :: Cond.initialized cls :: vx_at0 own ic cls names, vx_ot w = true)
    (hU : vx_Zq Bundle.tN "UNASSIGNED_STACK" Bundle.steD A s s.heap) (hN : vx_Zq Bundle.tN "SUPPRESSED_SENTINEL" Bundle.listD A s s.heap) (hS : va_S A s.heap H locs) (hsize : ls.size = c.maxLocals)
    (d0 : decode cc pc = .ok (.new ik, 3)) (d3 : decode cc (pc + 3) = .ok (.dup, 1)) (d4 : decode cc (pc + 4) = .ok (.invokespecial ic, 3)) (d7 : decode cc (pc + 7) = .ok (.athrow, 1))
    (hout : ∀ x ∈ c.exceptionTable.toList, covers x (pc + 7) = false)
    (hRframes : names.length + 3 < R.frames) (hRlocals : (rest.map fun v => v.category).sum + (13 * (names.length + 1) + 42) ≤ R.locals) (hRcells : cells + 1 ≤ R.cells) (hRslots : slots + 6 ≤ R.slots) (hlocks : meth.locks = false)
    (hx : ∀ t : State, s.vm.Alike t.vm → H.size ≤ t.heap.size → (∀ q : Nat, q < H.size → t.heap[q]? = H[q]?) → XC cls s t)
    (hf : ∀ z ∈ locs, free z.base) (hc : cells + 1 ≤ mc) (hs : slots + 6 ≤ ms) :
    W p l e R s m args below meth c H locs cells slots (vx_MQ below Qc XC args s mc ms free) (F0 m pc ls rest) := by
  intro T hT X
  have htr : e.platform.stackTraces = false := (show e.platform.stackTraces = l.stackTraces by rw [X.admits.platform]).trans hl
  have Y := vx_rebase X (R' := { frames := R.frames, locals := R.locals, cells := 1, slots := 6 }) (Nat.le_refl _) (Nat.le_refl _) hRcells hRslots
  obtain ⟨s', hA⟩ : ∃ z, z = (T.setVm s.vm).setFrames (.invoking m args :: below) := ⟨_, rfl⟩
  rw [← hA] at Y
  have hvm : s'.vm = s.vm := by rw [hA]; rfl
  have hhp : s'.heap = H := by rw [hA]; exact hT
  have hW0 : s.WarmedH s'.vm := by rw [hvm]; exact State.WarmedH.refl s
  have hat' : ∀ w ∈ vx_at0 own ic cls names, w.before args s' = true := fun w hw => vx_ot_at hW0 hvm.symm (hgood w (List.mem_cons_of_mem _ (List.mem_cons_of_mem _ hw))) (hat w hw)
  have hk' : (Cond.classLink own ik cls).before args s' = true := vx_ot_at hW0 hvm.symm (hgood _ List.mem_cons_self) hk
  have hini' : (Cond.initialized cls).before args s' = true := vx_ot_at hW0 hvm.symm (hgood _ (List.mem_cons_of_mem _ List.mem_cons_self)) hini
  have hU' : vx_Zq Bundle.tN "UNASSIGNED_STACK" Bundle.steD A s' s'.heap := by rw [hhp]; exact vx_Zq.moved hW0.alike (hU.kept hS.2.1)
  have hN' : vx_Zq Bundle.tN "SUPPRESSED_SENTINEL" Bundle.listD A s' s'.heap := by rw [hhp]; exact vx_Zq.moved hW0.alike (hN.kept hS.2.1)
  have h : ∀ w ∈ Bundle.ownAtoms0 own ic cls names, w.before args s' = true := vx_own hat' (vx_isRefq hU'.1) (vx_isRefq hN'.1) hU'.2.word hN'.2.word
  have hown' : s'.vm.findClass own = some m.cls := by rw [hvm]; exact hown
  have hins : (Cond.instantiable cls 6).before args s' = true := h _ (by simp [Bundle.ownAtoms0])
  obtain ⟨vm₁, cX, kX, hfX, hkX, -, -, X₁, st1⟩ := Y.newCold hexec (own := own) (C := cls) (index := ik) (n := 6) hown' hk' hins hini'
    (g := F0 m pc ls rest) rfl (by rw [hb]; exact d0) (Nat.le_refl _) (Nat.le_refl _)
  generalize hT1 : (T.setVm vm₁).pushCell { cls := cX, slots := kX.instanceTypes.map defaultValue, vm := .none } = T1 at X₁ st1
  have hcat : (Value.ref T.heap.size).category = 1 := rfl
  have hcellA : T1.heap[T.heap.size]? = some (freshCell cX kX) := by rw [← hT1]; exact State.heap_pushCell_size _ _
  have d3' : decode c.code (pc + 3) = .ok (.dup, 1) := by rw [hb]; exact d3
  obtain ⟨U, hsteps, hrun, hend, hW, hsame, ce, hce, hO⟩ := X₁.ctorThrow0 hexec htr (own := own) (cls := cls) (names := names) (ic := ic) hown' hcls hnames h (fun x hx => nomatch hx) hfX hkX hcellA (by rw [hhp, hT]; exact Nat.le_refl _)
    (g := { method := m, pc := pc + 4, locals := ls, stack := .ref T.heap.size :: .ref T.heap.size :: rest, locked := none }) rfl hsize rfl rfl (rest := rest) rfl
    (by rw [hb]; exact d4) (by rw [hb]; exact d7) hout hRframes (by simp only [List.map_cons, List.sum_cons, hcat]; omega) hlocks
  obtain ⟨f1, f2⟩ := vx_frame hsame
  rw [hhp] at f1 f2
  have hWs : s.WarmedH U.vm := State.WarmedH.trans hW0 hW
  have hcl : s.vm.findClass cls = some ce.cls := by
    have h9 := hO.cls
    rw [hvm] at h9
    exact h9
  have hall : s.sameButNew ({ U with vm := s.vm } : State) locs mc ms := by
    subst hA
    obtain ⟨e1, e2⟩ := hsame
    rw [State.setFrames_setFrames] at e1
    have h2 : (T.setVm s.vm).sameButNew ({ U with vm := s.vm } : State) [] (0 + 1) (0 + 6) := ⟨e1, e2⟩
    have h3 := X.same.trans h2
    rw [List.append_nil] at h3
    exact h3.mono hc hs
  refine ⟨U, ?_, .threw T.heap.size, hrun, hend, Or.inr ⟨T.heap.size, rfl, cls, ce, locs, hx U hWs.alike f1 (fun q hq => f2 q hq (fun z hz => nomatch hz)), hce, hO.vm, hcl, hWs, hall, hf⟩⟩
  refine st1 _ ?_
  show Steps p.tables e below (T1.setTop { method := m, pc := pc + 3, locals := ls, stack := .ref T.heap.size :: rest, locked := none }) _
  jvm_step X₁.here [X₁.here.top, hexec, d3', Value.category]
  exact hsteps
/-- 'throw new E("text")': new; dup; ldc; invokespecial; athrow -/
theorem vx_throwS {cc : ByteArray} {pc : Nat} (hexec : p.tables.exec = Jvm.exec) (hb : c.code = cc) (hl : l.stackTraces = false) {own cls text : String} {names : List String} {ik is ic mc ms sa : Nat} {A : Nat → Prop}
    (hown : s.vm.findClass own = some m.cls) (hcls : Bundle.fit cls = true) (hnames : ∀ n ∈ names, Bundle.fit n = true)
    (hk : (Cond.classLink own ik cls).before args s = true) (hini : (Cond.initialized cls).before args s = true) (hstr : vk_R own is text sa s) (hat : ∀ w ∈ vx_atS own ic cls names, w.before args s = true)
    (hgood : ∀ w ∈ Cond.classLink own ik cls :: Cond.initialized cls :: vx_atS own ic cls names, vx_ot w = true)
    (hU : vx_Zq Bundle.tN "UNASSIGNED_STACK" Bundle.steD A s s.heap) (hN : vx_Zq Bundle.tN "SUPPRESSED_SENTINEL" Bundle.listD A s s.heap) (hS : va_S A s.heap H locs) (hsize : ls.size = c.maxLocals)
    (d0 : decode cc pc = .ok (.new ik, 3)) (d3 : decode cc (pc + 3) = .ok (.dup, 1)) (d4 : decode cc (pc + 4) = .ok (.ldc is, 2)) (d6 : decode cc (pc + 6) = .ok (.invokespecial ic, 3)) (d9 : decode cc (pc + 9) = .ok (.athrow, 1))
    (hout : ∀ x ∈ c.exceptionTable.toList, covers x (pc + 9) = false)
    (hRframes : names.length + 3 < R.frames) (hRlocals : (rest.map fun v => v.category).sum + (13 * (names.length + 1) + 43) ≤ R.locals) (hRcells : cells + 1 ≤ R.cells) (hRslots : slots + 6 ≤ R.slots) (hlocks : meth.locks = false)
    (hx : ∀ t : State, s.vm.Alike t.vm → H.size ≤ t.heap.size → (∀ q : Nat, q < H.size → t.heap[q]? = H[q]?) → XC cls s t)
    (hf : ∀ z ∈ locs, free z.base) (hc : cells + 1 ≤ mc) (hs : slots + 6 ≤ ms) :
    W p l e R s m args below meth c H locs cells slots (vx_MQ below Qc XC args s mc ms free) (F0 m pc ls rest) := by
  intro T hT X
  have htr : e.platform.stackTraces = false := (show e.platform.stackTraces = l.stackTraces by rw [X.admits.platform]).trans hl
  have Y := vx_rebase X (R' := { frames := R.frames, locals := R.locals, cells := 1, slots := 6 }) (Nat.le_refl _) (Nat.le_refl _) hRcells hRslots
  obtain ⟨s', hA⟩ : ∃ z, z = (T.setVm s.vm).setFrames (.invoking m args :: below) := ⟨_, rfl⟩
  rw [← hA] at Y
  have hvm : s'.vm = s.vm := by rw [hA]; rfl
  have hhp : s'.heap = H := by rw [hA]; exact hT
  have hW0 : s.WarmedH s'.vm := by rw [hvm]; exact State.WarmedH.refl s
  have hat' : ∀ w ∈ vx_atS own ic cls names, w.before args s' = true := fun w hw => vx_ot_at hW0 hvm.symm (hgood w (List.mem_cons_of_mem _ (List.mem_cons_of_mem _ hw))) (hat w hw)
  have hk' : (Cond.classLink own ik cls).before args s' = true := vx_ot_at hW0 hvm.symm (hgood _ List.mem_cons_self) hk
  have hini' : (Cond.initialized cls).before args s' = true := vx_ot_at hW0 hvm.symm (hgood _ (List.mem_cons_of_mem _ List.mem_cons_self)) hini
  have hU' : vx_Zq Bundle.tN "UNASSIGNED_STACK" Bundle.steD A s' s'.heap := by rw [hhp]; exact vx_Zq.moved hW0.alike (hU.kept hS.2.1)
  have hN' : vx_Zq Bundle.tN "SUPPRESSED_SENTINEL" Bundle.listD A s' s'.heap := by rw [hhp]; exact vx_Zq.moved hW0.alike (hN.kept hS.2.1)
  have h : ∀ w ∈ Bundle.ownAtoms own ic cls names, w.before args s' = true := vx_own hat' (vx_isRefq hU'.1) (vx_isRefq hN'.1) hU'.2.word hN'.2.word
  have hown' : s'.vm.findClass own = some m.cls := by rw [hvm]; exact hown
  have hins : (Cond.instantiable cls 6).before args s' = true := h _ (by simp [Bundle.ownAtoms])
  obtain ⟨vm₁, cX, kX, hfX, hkX, -, -, X₁, st1⟩ := Y.newCold hexec (own := own) (C := cls) (index := ik) (n := 6) hown' hk' hins hini'
    (g := F0 m pc ls rest) rfl (by rw [hb]; exact d0) (Nat.le_refl _) (Nat.le_refl _)
  generalize hT1 : (T.setVm vm₁).pushCell { cls := cX, slots := kX.instanceTypes.map defaultValue, vm := .none } = T1 at X₁ st1
  have hcat : (Value.ref T.heap.size).category = 1 := rfl
  have hcellA : T1.heap[T.heap.size]? = some (freshCell cX kX) := by rw [← hT1]; exact State.heap_pushCell_size _ _
  have d3' : decode c.code (pc + 3) = .ok (.dup, 1) := by rw [hb]; exact d3
  have d4' : decode c.code (pc + 4) = .ok (.ldc is, 2) := by rw [hb]; exact d4
  have hstr' : vk_R own is text sa s' := vk_R.warm hW0 hstr
  obtain ⟨U, hsteps, hrun, hend, hW, hsame, ce, hce, hO⟩ := X₁.ctorThrowS hexec htr (own := own) (cls := cls) (names := names) (ic := ic) hown' hcls hnames h (fun x hx => nomatch hx) hfX hkX hcellA (by rw [hhp, hT]; exact Nat.le_refl _) (msg := .ref sa) rfl
    (g := { method := m, pc := pc + 6, locals := ls, stack := .ref sa :: .ref T.heap.size :: .ref T.heap.size :: rest, locked := none }) rfl hsize rfl rfl (rest := rest) rfl
    (by rw [hb]; exact d6) (by rw [hb]; exact d9) hout hRframes (by simp only [List.map_cons, List.sum_cons, hcat]; omega) hlocks
  obtain ⟨f1, f2⟩ := vx_frame hsame
  rw [hhp] at f1 f2
  have hWs : s.WarmedH U.vm := State.WarmedH.trans hW0 hW
  have hcl : s.vm.findClass cls = some ce.cls := by
    have h9 := hO.cls
    rw [hvm] at h9
    exact h9
  have hall : s.sameButNew ({ U with vm := s.vm } : State) locs mc ms := by
    subst hA
    obtain ⟨e1, e2⟩ := hsame
    rw [State.setFrames_setFrames] at e1
    have h2 : (T.setVm s.vm).sameButNew ({ U with vm := s.vm } : State) [] (0 + 1) (0 + 6) := ⟨e1, e2⟩
    have h3 := X.same.trans h2
    rw [List.append_nil] at h3
    exact h3.mono hc hs
  refine ⟨U, ?_, .threw T.heap.size, hrun, hend, Or.inr ⟨T.heap.size, rfl, cls, ce, locs, hx U hWs.alike f1 (fun q hq => f2 q hq (fun z hz => nomatch hz)), hce, hO.vm, hcl, hWs, hall, hf⟩⟩
  refine st1 _ ?_
  show Steps p.tables e below (T1.setTop { method := m, pc := pc + 3, locals := ls, stack := .ref T.heap.size :: rest, locked := none }) _
  jvm_step X₁.here [X₁.here.top, hexec, d3', Value.category]
  exact X₁.ldcString hexec (own := own) (text := text) (index := is) (a := sa) hown' hstr'.1 hstr'.2
    (g := { method := m, pc := pc + 4, locals := ls, stack := .ref T.heap.size :: .ref T.heap.size :: rest, locked := none }) rfl d4' _ hsteps
/-- 'throw new E("text")', the text by a wide index -/
theorem vx_throwSW {cc : ByteArray} {pc : Nat} (hexec : p.tables.exec = Jvm.exec) (hb : c.code = cc) (hl : l.stackTraces = false) {own cls text : String} {names : List String} {ik is ic mc ms sa : Nat} {A : Nat → Prop}
    (hown : s.vm.findClass own = some m.cls) (hcls : Bundle.fit cls = true) (hnames : ∀ n ∈ names, Bundle.fit n = true)
    (hk : (Cond.classLink own ik cls).before args s = true) (hini : (Cond.initialized cls).before args s = true) (hstr : vk_R own is text sa s) (hat : ∀ w ∈ vx_atS own ic cls names, w.before args s = true)
    (hgood : ∀ w ∈ Cond.classLink own ik cls :: Cond.initialized cls :: vx_atS own ic cls names, vx_ot w = true)
    (hU : vx_Zq Bundle.tN "UNASSIGNED_STACK" Bundle.steD A s s.heap) (hN : vx_Zq Bundle.tN "SUPPRESSED_SENTINEL" Bundle.listD A s s.heap) (hS : va_S A s.heap H locs) (hsize : ls.size = c.maxLocals)
    (d0 : decode cc pc = .ok (.new ik, 3)) (d3 : decode cc (pc + 3) = .ok (.dup, 1)) (d4 : decode cc (pc + 4) = .ok (.ldc_w is, 3)) (d7 : decode cc (pc + 7) = .ok (.invokespecial ic, 3)) (d10 : decode cc (pc + 10) = .ok (.athrow, 1))
    (hout : ∀ x ∈ c.exceptionTable.toList, covers x (pc + 10) = false)
    (hRframes : names.length + 3 < R.frames) (hRlocals : (rest.map fun v => v.category).sum + (13 * (names.length + 1) + 43) ≤ R.locals) (hRcells : cells + 1 ≤ R.cells) (hRslots : slots + 6 ≤ R.slots) (hlocks : meth.locks = false)
    (hx : ∀ t : State, s.vm.Alike t.vm → H.size ≤ t.heap.size → (∀ q : Nat, q < H.size → t.heap[q]? = H[q]?) → XC cls s t)
    (hf : ∀ z ∈ locs, free z.base) (hc : cells + 1 ≤ mc) (hs : slots + 6 ≤ ms) :
    W p l e R s m args below meth c H locs cells slots (vx_MQ below Qc XC args s mc ms free) (F0 m pc ls rest) := by
  intro T hT X
  have htr : e.platform.stackTraces = false := (show e.platform.stackTraces = l.stackTraces by rw [X.admits.platform]).trans hl
  have Y := vx_rebase X (R' := { frames := R.frames, locals := R.locals, cells := 1, slots := 6 }) (Nat.le_refl _) (Nat.le_refl _) hRcells hRslots
  obtain ⟨s', hA⟩ : ∃ z, z = (T.setVm s.vm).setFrames (.invoking m args :: below) := ⟨_, rfl⟩
  rw [← hA] at Y
  have hvm : s'.vm = s.vm := by rw [hA]; rfl
  have hhp : s'.heap = H := by rw [hA]; exact hT
  have hW0 : s.WarmedH s'.vm := by rw [hvm]; exact State.WarmedH.refl s
  have hat' : ∀ w ∈ vx_atS own ic cls names, w.before args s' = true := fun w hw => vx_ot_at hW0 hvm.symm (hgood w (List.mem_cons_of_mem _ (List.mem_cons_of_mem _ hw))) (hat w hw)
  have hk' : (Cond.classLink own ik cls).before args s' = true := vx_ot_at hW0 hvm.symm (hgood _ List.mem_cons_self) hk
  have hini' : (Cond.initialized cls).before args s' = true := vx_ot_at hW0 hvm.symm (hgood _ (List.mem_cons_of_mem _ List.mem_cons_self)) hini
  have hU' : vx_Zq Bundle.tN "UNASSIGNED_STACK" Bundle.steD A s' s'.heap := by rw [hhp]; exact vx_Zq.moved hW0.alike (hU.kept hS.2.1)
  have hN' : vx_Zq Bundle.tN "SUPPRESSED_SENTINEL" Bundle.listD A s' s'.heap := by rw [hhp]; exact vx_Zq.moved hW0.alike (hN.kept hS.2.1)
  have h : ∀ w ∈ Bundle.ownAtoms own ic cls names, w.before args s' = true := vx_own hat' (vx_isRefq hU'.1) (vx_isRefq hN'.1) hU'.2.word hN'.2.word
  have hown' : s'.vm.findClass own = some m.cls := by rw [hvm]; exact hown
  have hins : (Cond.instantiable cls 6).before args s' = true := h _ (by simp [Bundle.ownAtoms])
  obtain ⟨vm₁, cX, kX, hfX, hkX, -, -, X₁, st1⟩ := Y.newCold hexec (own := own) (C := cls) (index := ik) (n := 6) hown' hk' hins hini'
    (g := F0 m pc ls rest) rfl (by rw [hb]; exact d0) (Nat.le_refl _) (Nat.le_refl _)
  generalize hT1 : (T.setVm vm₁).pushCell { cls := cX, slots := kX.instanceTypes.map defaultValue, vm := .none } = T1 at X₁ st1
  have hcat : (Value.ref T.heap.size).category = 1 := rfl
  have hcellA : T1.heap[T.heap.size]? = some (freshCell cX kX) := by rw [← hT1]; exact State.heap_pushCell_size _ _
  have d3' : decode c.code (pc + 3) = .ok (.dup, 1) := by rw [hb]; exact d3
  have d4' : decode c.code (pc + 4) = .ok (.ldc_w is, 3) := by rw [hb]; exact d4
  have hstr' : vk_R own is text sa s' := vk_R.warm hW0 hstr
  obtain ⟨U, hsteps, hrun, hend, hW, hsame, ce, hce, hO⟩ := X₁.ctorThrowS hexec htr (own := own) (cls := cls) (names := names) (ic := ic) hown' hcls hnames h (fun x hx => nomatch hx) hfX hkX hcellA (by rw [hhp, hT]; exact Nat.le_refl _) (msg := .ref sa) rfl
    (g := { method := m, pc := pc + 7, locals := ls, stack := .ref sa :: .ref T.heap.size :: .ref T.heap.size :: rest, locked := none }) rfl hsize rfl rfl (rest := rest) rfl
    (by rw [hb]; exact d7) (by rw [hb]; exact d10) hout hRframes (by simp only [List.map_cons, List.sum_cons, hcat]; omega) hlocks
  obtain ⟨f1, f2⟩ := vx_frame hsame
  rw [hhp] at f1 f2
  have hWs : s.WarmedH U.vm := State.WarmedH.trans hW0 hW
  have hcl : s.vm.findClass cls = some ce.cls := by
    have h9 := hO.cls
    rw [hvm] at h9
    exact h9
  have hall : s.sameButNew ({ U with vm := s.vm } : State) locs mc ms := by
    subst hA
    obtain ⟨e1, e2⟩ := hsame
    rw [State.setFrames_setFrames] at e1
    have h2 : (T.setVm s.vm).sameButNew ({ U with vm := s.vm } : State) [] (0 + 1) (0 + 6) := ⟨e1, e2⟩
    have h3 := X.same.trans h2
    rw [List.append_nil] at h3
    exact h3.mono hc hs
  refine ⟨U, ?_, .threw T.heap.size, hrun, hend, Or.inr ⟨T.heap.size, rfl, cls, ce, locs, hx U hWs.alike f1 (fun q hq => f2 q hq (fun z hz => nomatch hz)), hce, hO.vm, hcl, hWs, hall, hf⟩⟩
  refine st1 _ ?_
  show Steps p.tables e below (T1.setTop { method := m, pc := pc + 3, locals := ls, stack := .ref T.heap.size :: rest, locked := none }) _
  jvm_step X₁.here [X₁.here.top, hexec, d3', Value.category]
  exact X₁.ldcStringW hexec (own := own) (text := text) (index := is) (a := sa) hown' hstr'.1 hstr'.2
    (g := { method := m, pc := pc + 4, locals := ls, stack := .ref T.heap.size :: .ref T.heap.size :: rest, locked := none }) rfl d4' _ hsteps
end Ends
section Bodies
variable {l : Launch}
theorem vx_ofW {y : MethodName} {ws ws' : List Cond} {rm : Room} {Pc : Array Value → State → Prop} {Qc : Array Value → State → Outcome → State → Prop} {XC : String → State → State → Prop} {mc ms : Nat} {free : Addr → Prop} {cc : ByteArray} {maxL : Nat} {ret : Option FieldType}
    (hy : plainName y.cls = true) (hw : ws = Cond.code y cc maxL ret :: ws')
    (body : ∀ p e s m args below meth c s₁, BodyLoose p l y (headSpec ws rm) cc maxL ret e s m args below meth c s₁ → c.maxLocals = maxL → (∀ x ∈ c.exceptionTable.toList, False) → Pc args s →
      W p l e (headSpec ws rm).room s m args below meth c s.heap [] 0 0 (vx_MQ below Qc XC args s mc ms free) (entryFrame m args maxL)) : vx_Met l y ws rm Pc Qc XC mc ms free := by
  refine MetFree.of_bodyS (code := cc) (maxLocals := maxL) (ret := ret) hy ?_ ?_
  · intro args s m h hn
    obtain ⟨meth, c, h1, h2, h3, h4, h5, h6, -, -⟩ := Cond.code_spec hn (atoms_spec (ws := ws) h _ (by rw [hw]; exact List.mem_cons_self))
    exact ⟨meth, c, h1, h2, h3, h4, h5, h6⟩
  · intro p e s m args below meth c s₁ B hml hP _
    have hh0 : s₁.heap = s.heap := by rw [B.state]; rfl
    have ht : ∀ x ∈ c.exceptionTable.toList, False := by
      obtain ⟨meth9, c9, h1, h2, -, -, -, -, h7, -⟩ := Cond.code_spec B.named (atoms_spec (ws := ws) B.pre _ (by rw [hw]; exact List.mem_cons_self))
      cases Option.some.inj (h1.symm.trans B.method)
      cases Option.some.inj (h2.symm.trans (Stand.of_body B).code)
      intro x hx
      rw [Array.isEmpty_iff.mp h7] at hx
      cases hx
    obtain ⟨t, a1, o, b1, b2, b3⟩ := body p e s m args below meth c s₁ B hml ht hP s₁ hh0 (Stand.of_body B)
    exact ⟨t, o, a1, b1, b2, b3⟩
/-- the table of a body with handlers -/
theorem vx_table {p : Program} {x y : MethodName} {S : Spec} {cc bytes : ByteArray} {maxL maxL' : Nat} {ret ret' : Option FieldType} {e : Env} {s s₁ : State} {m : MethodId} {args : Array Value} {below : List Frame} {meth : Method} {c : Code} {hh : List (Nat × Nat × Nat × Nat)}
    (B : BodyLoose p l y S cc maxL ret e s m args below meth c s₁) (h : (Cond.codeWith y bytes maxL' ret' hh).before args s = true) : c.exceptionTable.toList = tableOf hh := by
  obtain ⟨m9, meth9, c9, hn9, h1, h2, -, -, h6, -⟩ := Cond.codeWith_spec h
  cases Option.some.inj (hn9.symm.trans B.named)
  cases Option.some.inj (h1.symm.trans B.method)
  cases Option.some.inj (h2.symm.trans (Stand.of_body B).code)
  rw [← h6, table_eq]
end Bodies
end VXA
/-! ===== END ===== -/
/-! ===== BEGIN a static call of a method with an exception table ===== -/
section VXS
variable {p : Program} {l : Launch} {e : Env} {R : Room} {s : State} {m : MethodId} {args : Array Value} {below : List Frame} {meth : Method} {c : Code} {T : State} {H : Heap} {locs : List Loc} {cells slots : Nat}
abbrev vx_CSW (R : Room) (s : State) (args : Array Value) (own : String) (index : Nat) (y : MethodName) (bytes : ByteArray) (maxL : Nat) (ret : Option FieldType) (hh : List (Nat × Nat × Nat × Nat)) (ws : List Cond) (rm : Room) (mc ms n : Nat) : Prop :=
  (rm.cells = mc ∧ rm.slots = ms ∧ rm.frames + 1 ≤ R.frames ∧ 8 + (maxL + 11) + rm.locals ≤ R.locals ∧ (∀ w ∈ ws, ∀ (a' : Array Value) (U : State), s.WarmedH U.vm → w.before a' U = true) ∧ Cond.codeWith y bytes maxL ret hh ∈ ws) ∧
  (Cond.codeWith y bytes maxL ret hh).before args s = true ∧ (Cond.initialized y.cls).before args s = true ∧ (y.cls ≠ "java/lang/invoke/MethodHandle" ∧ y.cls ≠ "java/lang/invoke/VarHandle") ∧
  (∀ sig, parseMethodDescriptor y.desc = some sig → n = sig.parameters.length) ∧ (Cond.methodLink own index y).before args s = true ∧ (Cond.static y).before args s = true
theorem vx_cwSW {own : String} {index maxL mc ms : Nat} {y : MethodName} {bytes : ByteArray} {ret : Option FieldType} {hh : List (Nat × Nat × Nat × Nat)} {Ts ws ws' : List Cond} {rm : Room} (n : Nat) (ht : ∀ w ∈ Ts, w.before args s = true) (hT : GoodIn Ts (va_wsS own index y ws)) (hw : ws = Cond.codeWith y bytes maxL ret hh :: ws') (hrc : rm.cells = mc) (hrs : rm.slots = ms)
    (hd : y.cls ≠ "java/lang/invoke/MethodHandle" ∧ y.cls ≠ "java/lang/invoke/VarHandle" ∧ (parseMethodDescriptor y.desc).map (fun d => d.parameters.length) = some n) (hR : rm.frames + 1 ≤ R.frames ∧ 8 + (maxL + 11) + rm.locals ≤ R.locals) :
    vx_CSW R s args own index y bytes maxL ret hh ws rm mc ms n := by
  have ok : ∀ w ∈ va_wsS own index y ws, w.before args s = true := fun w h => ht w (hT w h).1
  have hG : GoodIn Ts ws := fun w h => hT w (by unfold va_wsS; exact List.mem_append_right _ h)
  have hc : Cond.codeWith y bytes maxL ret hh ∈ ws := by rw [hw]; exact List.mem_cons_self
  refine ⟨⟨hrc, hrs, hR.1, hR.2, pay_in ht hG, hc⟩, ht _ (hG _ hc).1, ok _ (by simp [va_wsS]), ⟨hd.1, hd.2.1⟩, fun sig h => ?_, ok _ (by simp [va_wsS]), ok _ (by simp [va_wsS])⟩
  have h2 := hd.2.2
  rw [h] at h2
  exact (Option.some.inj h2).symm
theorem vx_callSW (X : Stand p l e R s m args below meth c T locs cells slots) (hexec : p.tables.exec = Jvm.exec) {own : String} {index : Nat} {y : MethodName} {bytes : ByteArray} {maxL : Nat} {ret : Option FieldType} {hh : List (Nat × Nat × Nat × Nat)}
    (hown : s.vm.findClass own = some m.cls) (hlink : (Cond.methodLink own index y).before args s = true) (hstat : (Cond.static y).before args s = true) (hinit : (Cond.initialized y.cls).before args s = true)
    (hcode : (Cond.codeWith y bytes maxL ret hh).before args s = true) (hy : y.cls ≠ "java/lang/invoke/MethodHandle" ∧ y.cls ≠ "java/lang/invoke/VarHandle")
    {W9 : Nat} {Pre : Pt → Array Value → Prop} {Post : Pt → Array Value → Option Value → Pt → Prop} (hK : Back l R p e below s args y 3 W9 Pre Post)
    {g : JFrame} (hg : g.method = m) (hsize : g.locals.size = c.maxLocals) {argsL rest : List Value} (hlen : ∀ sig, parseMethodDescriptor y.desc = some sig → argsL.length = sig.parameters.length)
    (hstack : g.stack = argsL.reverse ++ rest) (hW : 2 * g.monitorRoom + (rest.map fun v => v.category).sum ≤ W9) (hdg : decode c.code g.pc = .ok (.invokestatic index, 3))
    (hpre : ∀ vm₁, s.WarmedH vm₁ → Pre ⟨T.setVm vm₁, locs, cells, slots⟩ argsL.toArray) :
    ∃ (v : Option Value) (vm₁ : Vm) (B : Pt), s.WarmedH vm₁ ∧ Stand p l e R s m args below meth c B.U B.locs B.cells B.slots ∧ Post ⟨T.setVm vm₁, locs, cells, slots⟩ argsL.toArray v B ∧
      ∀ target, Steps p.tables e below (B.U.setTop { g with pc := g.pc + 3, stack := v.toList ++ rest }) target → Steps p.tables e below (T.setTop g) target := by
  obtain ⟨mk, methM, cM, hnamed, hmethM, -, -, -, -, -, -, hsigM⟩ := Cond.codeWith_spec hcode
  have hstatic : methM.isStatic = true := Cond.static_spec hnamed hmethM hstat
  obtain ⟨kP, hkP, -⟩ := className_of_methodNamed hnamed
  have hinitP : kP.init = .initialized := Cond.initialized_spec (findClass_of_methodNamed hnamed) hkP hinit
  obtain ⟨vm₁, X₁, hstep₁⟩ := X.invokestatic hexec hown hlink hnamed hmethM hstatic hkP hinitP hy (g := g) hg (argsL := argsL) (rest := rest) (hlen _ hsigM) hstack hdg
  obtain ⟨v, B, X', hpost, hsteps⟩ := hK m meth c ⟨T.setVm vm₁, locs, cells, slots⟩ { g with stack := rest } (.invokestatic index) mk argsL.toArray X₁ hg hsize hdg hW (X₁.named hnamed) (hpre vm₁ X₁.warmed)
  exact ⟨v, vm₁, B, X₁.warmed, X', hpost, fun target h => hstep₁ _ fun acts => by rw [doInvoke_state]; exact hsteps.trans h⟩
theorem vx_runSW {y : MethodName} {bytes cc : ByteArray} {maxL nL mc ms n index : Nat} {ret : Option FieldType} {hh : List (Nat × Nat × Nat × Nat)} {ws : List Cond} {rm : Room} {Pc : Array Value → State → Prop} {Qc : Array Value → State → Outcome → State → Prop} {free : Addr → Prop} {Ts : List Cond} {own : String} {As rest : List Value} {g : JFrame}
    (S : CallFix p m c cc nL s args Ts own) (hM : Met l y ws rm Pc Qc mc ms free) (cw : vx_CSW R s args own index y bytes maxL ret hh ws rm mc ms n) (hp : PreS s H Pc As)
    (hg : g.method = m) (hn : As.length = n) (hsize : g.locals.size = nL) (hstack : g.stack = As.reverse ++ rest) (hW : 2 * g.monitorRoom + (rest.map fun v => v.category).sum ≤ 8) (hdg : decode cc g.pc = .ok (.invokestatic index, 3)) (hf : cells + mc ≤ R.cells ∧ slots + ms ≤ R.slots) :
    va_Run p l e R s m args below meth c H locs cells slots mc ms g rest (Qc As.toArray) (free) := by
  obtain ⟨⟨hrc, hrs, hfr, hlo, hws, hcw⟩, hcode, hini, hy, hlen, hl, hstt⟩ := cw
  have hK : Back l R p e below s args y 3 8 (PreOf R mc ms Pc) (PostOf Qc mc ms free) := va_backW (hh := hh) (bytes := bytes) (maxL := maxL) (ret := ret) hM hp.1 hrc hrs hfr hlo hws hcw (fun a' U hW => word_at hW (Or.inl (by first | rfl | simp [Cond.onTables, Cond.keeps, Cond.steady])) hini)
  obtain ⟨hx, hb, hml, ho, -⟩ := S
  intro T hT X
  obtain ⟨v, vm₁, ⟨U', l2, c2, s2⟩, hW₁, X', ⟨g', mk, t, L, e1, e2, hq, h1, hL, h2, h3⟩, st⟩ := vx_callSW X hx (hh := hh) (bytes := bytes) (maxL := maxL) (ret := ret) ho hl hstt hini hcode hy hK hg (hsize.trans hml.symm) (argsL := As) (rest := rest) (fun sig h => hn.trans (hlen sig h)) hstack hW (by rw [hb]; exact hdg)
    (fun vm₁ hW₁ => ⟨hf.1, hf.2, hp.2 (T.setVm vm₁) hT hW₁⟩)
  dsimp only [Pt.U, Pt.locs, Pt.cells, Pt.slots] at X' e1 e2 h1 h2 h3 st
  subst h1; subst h2; subst h3
  exact ⟨v, (T.setVm vm₁).calling g' mk As.toArray, t, U', L, hT, X', hL, e1, e2, hq, st⟩
/-- not caught here, past rows that name other classes: it goes on to the caller -/
theorem vx_outP {p : Program} {l : Launch} {e : Env} {R : Room} {s : State} {m : MethodId} {args : Array Value} {below : List Frame} {meth : Method} {c : Code} {H : Heap} {locs : List Loc} {cells slots : Nat} {free : Addr → Prop} {ls : Array Slot} {rest : List Value} {Qc : Array Value → State → Outcome → State → Prop} {XC : String → State → State → Prop}
    {pc : Nat} {own E : String} {ce : Cell} {q : Addr} {mc ms : Nat} (hown : s.vm.findClass own = some m.cls) (hlocks : meth.locks = false)
    (hpass : ∀ z ∈ c.exceptionTable.toList, covers z pc = false ∨ (z.catchType ≠ 0 ∧ ∃ nm : String, (Cond.classLink own z.catchType nm).before args s = true ∧ va_Nc E nm s)) (hcell : H[q]? = some ce) (hv : ce.vm = .none) (hcl : s.vm.findClass E = some ce.cls)
    (hx : ∀ t : State, t.heap = H → s.vm.Alike t.vm → XC E s t) (hf : ∀ z ∈ locs, free z.base) (hc : cells ≤ mc) (hs : slots ≤ ms) :
    vx_W p l e R s m args below meth c H locs cells slots (vx_MQ below Qc XC args s mc ms free) (F0 m pc ls rest) q := by
  intro T hT X
  have hpl : e.platform.magicAccessors = ({} : Platform).magicAccessors := by rw [X.admits.platform]
  obtain ⟨vm', hW', X', st⟩ := X.outThrough hlocks q (g := F0 m pc ls rest) rfl rfl rfl (cell := ce) (by rw [hT]; exact hcell) (by rw [hv]; rfl)
    (by obtain ⟨k9, h9, -⟩ := Vm.findClass_spec hcl; exact ⟨k9, h9⟩) (fun z hz => by
      rcases hpass z hz with h | ⟨hz0, nm, hl1, hn1⟩
      · exact Or.inl h
      · obtain ⟨c6, hc6, hcl6⟩ := Cond.classLink_spec hown hl1 e.platform hpl
        obtain ⟨a8, b8, h1, h2, h3⟩ := hn1
        cases Option.some.inj (h1.symm.trans hcl)
        cases Option.some.inj (h2.symm.trans hc6)
        exact Or.inr ⟨hz0, _, hcl6, h3⟩)
  obtain ⟨g₀, hfr⟩ := X'.frames_eq
  have hcell9 : ((T.setVm vm').setFrames (.throwing q :: below)).heap[q]? = some ce := by
    show T.heap[q]? = some ce
    rw [hT]; exact hcell
  have hend : Ended ((T.setVm vm').setFrames (.throwing q :: below)) below (.threw q) := State.frames_setFrames _ (State.cur_lt_of_frames hfr)
  refine ⟨(T.setVm vm').setFrames (.throwing q :: below), ?_, .threw q, X'.here.running, hend, Or.inr ⟨q, rfl, E, ce, locs, hx _ hT (X'.ends _).1.alike, hcell9, hv, hcl, (X'.ends _).1, (X'.ends _).2.mono hc hs, hf⟩⟩
  rw [X.pushThrowing_eq]
  exact st
/-- a thing of a world lies in the heap -/
theorem vx_lt {D : va_G} {cl : List vw_C} {ws : va_W} {H1 : Heap} (h : va_P D cl ws H1) {k : Nat} {q : Nat × va_E} (hk : ws[k]? = some q) : q.1 < H1.size := (h k q hk).lt
end VXS
/-! ===== END ===== -/
/-! ===== BEGIN methods with a table of their own: called by a name, returning or throwing ===== -/
section VXH
/-! vx_backW, vx_callVX, vx_callSX, vx_callVW, vx_runVW, vx_runVX, vx_runSX, vx_ofWH follow the same proofs as their sisters above (Free/Laws.lean, Shelf42/LK1.lean); vx_outP calls Shelf42/NT130.lean (outThrough). -/
section
variable {l : Launch} {R : Room} {p : Program} {e : Env} {below : List Frame} {s : State} {sargs : Array Value} {y : MethodName} {len W9 : Nat}
theorem vx_backW {ws : List Cond} {rm : Room} {Pc : Array Value → State → Prop} {Qc : Array Value → State → Outcome → State → Prop} {XC : String → State → State → Prop} {mc ms : Nat} {free : Addr → Prop} {bytes : ByteArray} {maxL : Nat} {ret : Option FieldType} {hh : List (Nat × Nat × Nat × Nat)}
    (hM : vx_Met l y ws rm Pc Qc XC mc ms free) (hblind : FrameBlind Pc) (hrc : rm.cells = mc) (hrs : rm.slots = ms)
    (hframes : rm.frames + 1 ≤ R.frames) (hlocals : W9 + (maxL + 11) + rm.locals ≤ R.locals)
    (hws : ∀ w ∈ ws, ∀ a' U, s.WarmedH U.vm → w.before a' U = true) (hcode : Cond.codeWith y bytes maxL ret hh ∈ ws) (hinit : ∀ a' U, s.WarmedH U.vm → (Cond.initialized y.cls).before a' U = true) :
    vx_Back l R p e below s sargs y len W9 (PreOf R mc ms Pc) (PostOf Qc mc ms free) (vx_Post XC mc ms free) := by
  intro m meth c A g ig mk a X hg hsize hdg hW hn hp
  have h1 : (headSpec ws rm).pre.before a A.U = true := atoms_intro fun w hw => hws w hw _ _ X.warmed
  have h2 : (Cond.codeWith y bytes maxL ret hh).before a A.U = true := hws _ hcode _ _ X.warmed
  have h3 : (Cond.initialized y.cls).before a A.U = true := hinit _ _ X.warmed
  have h4 : A.cells + (headSpec ws rm).room.cells ≤ R.cells := by rw [show (headSpec ws rm).room.cells = mc from hrc]; exact hp.1
  have h5 : A.slots + (headSpec ws rm).room.slots ≤ R.slots := by rw [show (headSpec ws rm).room.slots = ms from hrs]; exact hp.2.1
  have hPc : Pc a (A.U.calling g mk a) := hblind _ _ _ _ hp.2.2
  obtain ⟨U, Ls, c0, s0⟩ := A
  dsimp only [Pt.U, Pt.locs, Pt.cells, Pt.slots] at h1 h2 h3 h4 h5 X hn hPc ⊢
  obtain ⟨m9, methY, cY, hn9, hmY, hcY, -, hlY, -⟩ := Cond.codeWith_spec h2
  cases Option.some.inj (hn9.symm.trans hn)
  obtain ⟨kY, hkY, -⟩ := className_of_methodNamed hn
  have hinitY : kY.init = .initialized := Cond.initialized_spec (findClass_of_methodNamed hn) hkY h3
  have h : At U g.method c below := by rw [hg]; exact X.here
  have hlocals9 : W9 + (maxL + 11) + (headSpec ws rm).room.locals ≤ R.locals := hlocals
  have happ : (headSpec ws rm).appliesLoose y e.platform (U.calling g mk a) = true :=
    Spec.appliesLoose_calling (g := g) h hdg hn hkY hinitY
      (X.room_calling (g := g) (R' := (headSpec ws rm).room) hsize hmY hcY hframes (by rw [hlY]; omega) h4 h5) h1
  obtain ⟨mid, hmid⟩ := h.above
  have hfr : (U.setTop g).frames = (.java g :: mid) ++ below := by rw [State.frames_setTop' g h.top, hmid]; rfl
  obtain ⟨o, s₂, hsteps, -, hend, hq⟩ := Steps.callFree hM p X.admits X.cas X.clock (acts := []) hfr happ hPc trivial
  have hq' : vx_Q Qc XC mc ms free a (U.calling g mk a) o s₂ := hq
  rw [State.frames_setTop' g h.top] at hend
  obtain ⟨g₀, hg0⟩ := Option.isSome_iff_exists.mp h.top
  obtain ⟨r, hr⟩ := State.topJava?_eq_some.mp hg0
  have hr' : (({ U with heap := s₂.heap, slotsUsed := s₂.slotsUsed } : State).setVm s₂.vm).frames = .java g₀ :: r := hr
  rcases hq' with ⟨hqc, L, hfe, hL⟩ | ⟨q, rfl, E, ce, L, hx, hce, hcv, hcl, hW₂, hsm, hL⟩
  · obtain ⟨⟨v, rfl⟩, hW₂, e2, q2, q3, q4, q5, q6⟩ := id hfe
    have e3 : s₂ = ({ (U.calling g mk a).setFrames s₂.frames with heap := s₂.heap, slotsUsed := s₂.slotsUsed } : State).setVm s₂.vm := by
      have : s₂ = ({ s₂ with vm := (U.calling g mk a).vm } : State).setVm s₂.vm := rfl
      rw [e2] at this
      exact this
    obtain ⟨c₂, i₂, len₂, hc₂, hd₂, hf₂⟩ := hend
    have hW' : U.WarmedH s₂.vm := hW₂
    have hcc : c₂ = c := by
      have h1 : s₂.code? g.method = U.code? g.method := by
        rw [State.code?_eq, State.code?_eq, hW'.alike.method?]
      exact Option.some.inj (hc₂.symm.trans (h1.trans h.code))
    subst hcc
    have hlen : len₂ = len := by rw [hdg] at hd₂; cases hd₂; rfl
    subst hlen
    have hs₂ : s₂ = (({ U with heap := s₂.heap, slotsUsed := s₂.slotsUsed } : State).setVm s₂.vm).setTop { g with pc := g.pc + len₂, stack := v.toList ++ g.stack } := by
      refine e3.trans ?_
      rw [hf₂, State.calling_eq h.top, State.setFrames_setFrames, State.setTop_of_frames _ hr', hr]
      rfl
    have hsame : U.sameButNew ({ U with heap := s₂.heap, slotsUsed := s₂.slotsUsed } : State) L mc ms := by
      refine ⟨?_, q2, q3, q4, q5, q6⟩
      obtain ⟨t, ht, -⟩ := State.frames_cons hr
      show ({ U with heap := s₂.heap, slotsUsed := s₂.slotsUsed } : State) = { U.setFrames U.frames with heap := s₂.heap, slotsUsed := s₂.slotsUsed }
      rw [State.setFrames_self ht]
    subst hg
    refine Or.inl ⟨v, ⟨(({ U with heap := s₂.heap, slotsUsed := s₂.slotsUsed } : State).setVm s₂.vm), Ls ++ L, c0 + mc, s0 + ms⟩,
      ⟨X.admits, X.cas, X.clock, X.frames, X.room, X.hears, X.method, X.code, (X.here.setHeapUsed s₂.heap s₂.slotsUsed).setVm hW'.alike, X.tail, State.WarmedH.trans X.warmed hW', X.limits, X.bytes, X.same.trans (hsame.setVm s.vm)⟩,
      ⟨g, mk, s₂, L, rfl, rfl, hqc, rfl, hL, rfl, rfl⟩, ?_⟩
    show Steps p.tables e below _ ((({ U with heap := s₂.heap, slotsUsed := s₂.slotsUsed } : State).setVm s₂.vm).setTop { g with pc := g.pc + len₂, stack := v.toList ++ g.stack })
    rw [← hs₂]
    exact hsteps
  · obtain ⟨e2, q2, q3, q4, q5, q6⟩ := id hsm
    have e3 : s₂ = ({ (U.calling g mk a).setFrames s₂.frames with heap := s₂.heap, slotsUsed := s₂.slotsUsed } : State).setVm s₂.vm := by
      have : s₂ = ({ s₂ with vm := (U.calling g mk a).vm } : State).setVm s₂.vm := rfl
      rw [e2] at this
      exact this
    have hf₂ : s₂.frames = .throwing q :: .java g :: U.frames.tail := hend
    have hW' : U.WarmedH s₂.vm := hW₂
    have hs₂ : s₂ = ((({ U with heap := s₂.heap, slotsUsed := s₂.slotsUsed } : State).setVm s₂.vm).setTop g).pushFrame (.throwing q) := by
      refine e3.trans ?_
      rw [hf₂, State.calling_eq h.top, State.setFrames_setFrames, State.pushFrame, State.frames_setTop _ hr', State.setTop_of_frames _ hr', State.setFrames_setFrames, hr]
      rfl
    have hsame : U.sameButNew ({ U with heap := s₂.heap, slotsUsed := s₂.slotsUsed } : State) L mc ms := by
      refine ⟨?_, q2, q3, q4, q5, q6⟩
      obtain ⟨t, ht, -⟩ := State.frames_cons hr
      show ({ U with heap := s₂.heap, slotsUsed := s₂.slotsUsed } : State) = { U.setFrames U.frames with heap := s₂.heap, slotsUsed := s₂.slotsUsed }
      rw [State.setFrames_self ht]
    subst hg
    refine Or.inr ⟨q, ⟨(({ U with heap := s₂.heap, slotsUsed := s₂.slotsUsed } : State).setVm s₂.vm), Ls ++ L, c0 + mc, s0 + ms⟩,
      ⟨X.admits, X.cas, X.clock, X.frames, X.room, X.hears, X.method, X.code, (X.here.setHeapUsed s₂.heap s₂.slotsUsed).setVm hW'.alike, X.tail, State.WarmedH.trans X.warmed hW', X.limits, X.bytes, X.same.trans (hsame.setVm s.vm)⟩,
      ⟨g, mk, s₂, L, E, ce, rfl, rfl, hx, hce, hcv, hcl, rfl, hL, rfl, rfl⟩, ?_⟩
    show Steps p.tables e below _ (((({ U with heap := s₂.heap, slotsUsed := s₂.slotsUsed } : State).setVm s₂.vm).setTop g).pushFrame (.throwing q))
    rw [← hs₂]
    exact hsteps
end
variable {p : Program} {l : Launch} {e : Env} {R : Room} {s : State} {m : MethodId} {args : Array Value} {below : List Frame} {meth : Method} {c : Code} {T : State} {H : Heap} {locs : List Loc} {cells slots : Nat}
theorem vx_callVX (X : Stand p l e R s m args below meth c T locs cells slots) (hexec : p.tables.exec = Jvm.exec) {own C : String} {index : Nat} {y : MethodName} {bytes : ByteArray} {maxL : Nat} {ret : Option FieldType} {hh : List (Nat × Nat × Nat × Nat)}
    (hown : s.vm.findClass own = some m.cls) (hlink : (Cond.methodLink own index y).before args s = true) (hinst : (Cond.instanceMethod y).before args s = true) (hsel : (Cond.selects C y y).before args s = true)
    (hcode : (Cond.codeWith y bytes maxL ret hh).before args s = true) (hy : y.cls ≠ "java/lang/invoke/MethodHandle" ∧ y.cls ≠ "java/lang/invoke/VarHandle")
    {W9 : Nat} {Pre : Pt → Array Value → Prop} {Post : Pt → Array Value → Option Value → Pt → Prop} {PostX : Pt → Array Value → Addr → Pt → Prop} (hK : vx_Back l R p e below s args y 3 W9 Pre Post PostX)
    {b : Addr} {cellB : Cell} (hcell : T.heap[b]? = some cellB) (hobj : cellB.vm.isStatics = false) (hcls : s.vm.findClass C = some cellB.cls)
    {g : JFrame} (hg : g.method = m) (hsize : g.locals.size = c.maxLocals) {argsL rest : List Value} (hlen : ∀ sig, parseMethodDescriptor y.desc = some sig → argsL.length = sig.parameters.length)
    (hstack : g.stack = argsL.reverse ++ .ref b :: rest) (hW : 2 * g.monitorRoom + (rest.map fun v => v.category).sum ≤ W9) (hdg : decode c.code g.pc = .ok (.invokevirtual index, 3))
    (hpre : ∀ vm₁, s.WarmedH vm₁ → Pre ⟨T.setVm vm₁, locs, cells, slots⟩ (Value.ref b :: argsL).toArray) :
    (∃ (v : Option Value) (vm₁ : Vm) (B : Pt), s.WarmedH vm₁ ∧ Stand p l e R s m args below meth c B.U B.locs B.cells B.slots ∧ Post ⟨T.setVm vm₁, locs, cells, slots⟩ (Value.ref b :: argsL).toArray v B ∧
      ∀ target, Steps p.tables e below (B.U.setTop { g with pc := g.pc + 3, stack := v.toList ++ rest }) target → Steps p.tables e below (T.setTop g) target) ∨
    (∃ (q : Addr) (vm₁ : Vm) (B : Pt), s.WarmedH vm₁ ∧ Stand p l e R s m args below meth c B.U B.locs B.cells B.slots ∧ PostX ⟨T.setVm vm₁, locs, cells, slots⟩ (Value.ref b :: argsL).toArray q B ∧
      Steps p.tables e below (T.setTop g) ((B.U.setTop { g with stack := rest }).pushFrame (.throwing q))) := by
  obtain ⟨mk, methM, hnamed, hmethM, hstM, habM⟩ := Cond.instanceMethod_spec hinst
  obtain ⟨m8, methM', cM, hn8, hmethM', -, -, -, -, -, -, hsigM⟩ := Cond.codeWith_spec hcode
  cases Option.some.inj (hn8.symm.trans hnamed)
  cases hmethM.symm.trans hmethM'
  obtain ⟨c2, r2, m2, q1, q2, q3, q4, kP, hkP, hkPi⟩ := Cond.selects_spec hsel
  cases hcls.symm.trans q1
  cases (State.methodFound?_of_named hnamed hy).symm.trans q2
  cases hnamed.symm.trans q3
  have hselP : selectMethod e.platform s.vm cellB.cls mk = .method mk := by rw [Launch.admits_selectMethod X.admits]; exact q4
  obtain ⟨vm₁, X₁, hstep₁⟩ := X.invokevirtual hexec hown hlink hnamed hmethM hstM hkP hkPi hy (a := b) (cell := cellB) hcell
    (fun z h => by rw [h] at hobj; cases hobj) hselP hmethM habM hkP hkPi (g := g) hg (argsL := argsL) (rest := rest) (hlen _ hsigM) hstack hdg
  rcases hK m meth c ⟨T.setVm vm₁, locs, cells, slots⟩ { g with stack := rest } (.invokevirtual index) mk (Value.ref b :: argsL).toArray X₁ hg hsize hdg hW (X₁.named hnamed) (hpre vm₁ X₁.warmed) with ⟨v, B, X', hpost, hsteps⟩ | ⟨q, B, X', hpost, hsteps⟩
  · exact Or.inl ⟨v, vm₁, B, X₁.warmed, X', hpost, fun target h => hstep₁ _ fun acts => by rw [doInvoke_state]; exact hsteps.trans h⟩
  · exact Or.inr ⟨q, vm₁, B, X₁.warmed, X', hpost, hstep₁ _ fun acts => by rw [doInvoke_state]; exact hsteps⟩
theorem vx_callSX (X : Stand p l e R s m args below meth c T locs cells slots) (hexec : p.tables.exec = Jvm.exec) {own : String} {index : Nat} {y : MethodName} {bytes : ByteArray} {maxL : Nat} {ret : Option FieldType} {hh : List (Nat × Nat × Nat × Nat)}
    (hown : s.vm.findClass own = some m.cls) (hlink : (Cond.methodLink own index y).before args s = true) (hstat : (Cond.static y).before args s = true) (hinit : (Cond.initialized y.cls).before args s = true)
    (hcode : (Cond.codeWith y bytes maxL ret hh).before args s = true) (hy : y.cls ≠ "java/lang/invoke/MethodHandle" ∧ y.cls ≠ "java/lang/invoke/VarHandle")
    {W9 : Nat} {Pre : Pt → Array Value → Prop} {Post : Pt → Array Value → Option Value → Pt → Prop} {PostX : Pt → Array Value → Addr → Pt → Prop} (hK : vx_Back l R p e below s args y 3 W9 Pre Post PostX)
    {g : JFrame} (hg : g.method = m) (hsize : g.locals.size = c.maxLocals) {argsL rest : List Value} (hlen : ∀ sig, parseMethodDescriptor y.desc = some sig → argsL.length = sig.parameters.length)
    (hstack : g.stack = argsL.reverse ++ rest) (hW : 2 * g.monitorRoom + (rest.map fun v => v.category).sum ≤ W9) (hdg : decode c.code g.pc = .ok (.invokestatic index, 3))
    (hpre : ∀ vm₁, s.WarmedH vm₁ → Pre ⟨T.setVm vm₁, locs, cells, slots⟩ argsL.toArray) :
    (∃ (v : Option Value) (vm₁ : Vm) (B : Pt), s.WarmedH vm₁ ∧ Stand p l e R s m args below meth c B.U B.locs B.cells B.slots ∧ Post ⟨T.setVm vm₁, locs, cells, slots⟩ argsL.toArray v B ∧
      ∀ target, Steps p.tables e below (B.U.setTop { g with pc := g.pc + 3, stack := v.toList ++ rest }) target → Steps p.tables e below (T.setTop g) target) ∨
    (∃ (q : Addr) (vm₁ : Vm) (B : Pt), s.WarmedH vm₁ ∧ Stand p l e R s m args below meth c B.U B.locs B.cells B.slots ∧ PostX ⟨T.setVm vm₁, locs, cells, slots⟩ argsL.toArray q B ∧
      Steps p.tables e below (T.setTop g) ((B.U.setTop { g with stack := rest }).pushFrame (.throwing q))) := by
  obtain ⟨mk, methM, cM, hnamed, hmethM, -, -, -, -, -, -, hsigM⟩ := Cond.codeWith_spec hcode
  have hstatic : methM.isStatic = true := Cond.static_spec hnamed hmethM hstat
  obtain ⟨kP, hkP, -⟩ := className_of_methodNamed hnamed
  have hinitP : kP.init = .initialized := Cond.initialized_spec (findClass_of_methodNamed hnamed) hkP hinit
  obtain ⟨vm₁, X₁, hstep₁⟩ := X.invokestatic hexec hown hlink hnamed hmethM hstatic hkP hinitP hy (g := g) hg (argsL := argsL) (rest := rest) (hlen _ hsigM) hstack hdg
  rcases hK m meth c ⟨T.setVm vm₁, locs, cells, slots⟩ { g with stack := rest } (.invokestatic index) mk argsL.toArray X₁ hg hsize hdg hW (X₁.named hnamed) (hpre vm₁ X₁.warmed) with ⟨v, B, X', hpost, hsteps⟩ | ⟨q, B, X', hpost, hsteps⟩
  · exact Or.inl ⟨v, vm₁, B, X₁.warmed, X', hpost, fun target h => hstep₁ _ fun acts => by rw [doInvoke_state]; exact hsteps.trans h⟩
  · exact Or.inr ⟨q, vm₁, B, X₁.warmed, X', hpost, hstep₁ _ fun acts => by rw [doInvoke_state]; exact hsteps⟩
theorem vx_callVW (X : Stand p l e R s m args below meth c T locs cells slots) (hexec : p.tables.exec = Jvm.exec) {own C : String} {index : Nat} {y : MethodName} {bytes : ByteArray} {maxL : Nat} {ret : Option FieldType} {hh : List (Nat × Nat × Nat × Nat)}
    (hown : s.vm.findClass own = some m.cls) (hlink : (Cond.methodLink own index y).before args s = true) (hinst : (Cond.instanceMethod y).before args s = true) (hsel : (Cond.selects C y y).before args s = true)
    (hcode : (Cond.codeWith y bytes maxL ret hh).before args s = true) (hy : y.cls ≠ "java/lang/invoke/MethodHandle" ∧ y.cls ≠ "java/lang/invoke/VarHandle")
    {W9 : Nat} {Pre : Pt → Array Value → Prop} {Post : Pt → Array Value → Option Value → Pt → Prop} (hK : Back l R p e below s args y 3 W9 Pre Post)
    {b : Addr} {cellB : Cell} (hcell : T.heap[b]? = some cellB) (hobj : cellB.vm.isStatics = false) (hcls : s.vm.findClass C = some cellB.cls)
    {g : JFrame} (hg : g.method = m) (hsize : g.locals.size = c.maxLocals) {argsL rest : List Value} (hlen : ∀ sig, parseMethodDescriptor y.desc = some sig → argsL.length = sig.parameters.length)
    (hstack : g.stack = argsL.reverse ++ .ref b :: rest) (hW : 2 * g.monitorRoom + (rest.map fun v => v.category).sum ≤ W9) (hdg : decode c.code g.pc = .ok (.invokevirtual index, 3))
    (hpre : ∀ vm₁, s.WarmedH vm₁ → Pre ⟨T.setVm vm₁, locs, cells, slots⟩ (Value.ref b :: argsL).toArray) :
    ∃ (v : Option Value) (vm₁ : Vm) (B : Pt), s.WarmedH vm₁ ∧ Stand p l e R s m args below meth c B.U B.locs B.cells B.slots ∧ Post ⟨T.setVm vm₁, locs, cells, slots⟩ (Value.ref b :: argsL).toArray v B ∧
      ∀ target, Steps p.tables e below (B.U.setTop { g with pc := g.pc + 3, stack := v.toList ++ rest }) target → Steps p.tables e below (T.setTop g) target := by
  obtain ⟨mk, methM, hnamed, hmethM, hstM, habM⟩ := Cond.instanceMethod_spec hinst
  obtain ⟨m8, methM', cM, hn8, hmethM', -, -, -, -, -, -, hsigM⟩ := Cond.codeWith_spec hcode
  cases Option.some.inj (hn8.symm.trans hnamed)
  cases hmethM.symm.trans hmethM'
  obtain ⟨c2, r2, m2, q1, q2, q3, q4, kP, hkP, hkPi⟩ := Cond.selects_spec hsel
  cases hcls.symm.trans q1
  cases (State.methodFound?_of_named hnamed hy).symm.trans q2
  cases hnamed.symm.trans q3
  have hselP : selectMethod e.platform s.vm cellB.cls mk = .method mk := by rw [Launch.admits_selectMethod X.admits]; exact q4
  obtain ⟨vm₁, X₁, hstep₁⟩ := X.invokevirtual hexec hown hlink hnamed hmethM hstM hkP hkPi hy (a := b) (cell := cellB) hcell
    (fun z h => by rw [h] at hobj; cases hobj) hselP hmethM habM hkP hkPi (g := g) hg (argsL := argsL) (rest := rest) (hlen _ hsigM) hstack hdg
  obtain ⟨v, B, X', hpost, hsteps⟩ := hK m meth c ⟨T.setVm vm₁, locs, cells, slots⟩ { g with stack := rest } (.invokevirtual index) mk (Value.ref b :: argsL).toArray X₁ hg hsize hdg hW (X₁.named hnamed) (hpre vm₁ X₁.warmed)
  exact ⟨v, vm₁, B, X₁.warmed, X', hpost, fun target h => hstep₁ _ fun acts => by rw [doInvoke_state]; exact hsteps.trans h⟩
abbrev vx_CVW (R : Room) (s : State) (args : Array Value) (own C : String) (index : Nat) (y : MethodName) (bytes : ByteArray) (maxL : Nat) (ret : Option FieldType) (hh : List (Nat × Nat × Nat × Nat)) (ws : List Cond) (rm : Room) (mc ms n : Nat) : Prop :=
  (rm.cells = mc ∧ rm.slots = ms ∧ rm.frames + 1 ≤ R.frames ∧ 8 + (maxL + 11) + rm.locals ≤ R.locals ∧ (∀ w ∈ ws, ∀ (a' : Array Value) (U : State), s.WarmedH U.vm → w.before a' U = true) ∧ Cond.codeWith y bytes maxL ret hh ∈ ws) ∧
  (Cond.codeWith y bytes maxL ret hh).before args s = true ∧ (Cond.initialized y.cls).before args s = true ∧ (y.cls ≠ "java/lang/invoke/MethodHandle" ∧ y.cls ≠ "java/lang/invoke/VarHandle") ∧
  (∀ sig, parseMethodDescriptor y.desc = some sig → n = sig.parameters.length) ∧ (Cond.methodLink own index y).before args s = true ∧ (Cond.instanceMethod y).before args s = true ∧ (Cond.selects C y y).before args s = true
theorem vx_cwVW {own C : String} {index maxL mc ms : Nat} {y : MethodName} {bytes : ByteArray} {ret : Option FieldType} {hh : List (Nat × Nat × Nat × Nat)} {Ts ws ws' : List Cond} {rm : Room} (n : Nat) (ht : ∀ w ∈ Ts, w.before args s = true) (hT : GoodIn Ts (wsV own index C y ws)) (hw : ws = Cond.codeWith y bytes maxL ret hh :: ws') (hrc : rm.cells = mc) (hrs : rm.slots = ms)
    (hd : y.cls = C ∧ y.cls ≠ "java/lang/invoke/MethodHandle" ∧ y.cls ≠ "java/lang/invoke/VarHandle" ∧ (parseMethodDescriptor y.desc).map (fun d => d.parameters.length) = some n) (hR : rm.frames + 1 ≤ R.frames ∧ 8 + (maxL + 11) + rm.locals ≤ R.locals) :
    vx_CVW R s args own C index y bytes maxL ret hh ws rm mc ms n := by
  obtain ⟨hC, hd⟩ := hd
  subst hC
  have ok : ∀ w ∈ wsV own index y.cls y ws, w.before args s = true := fun w h => ht w (hT w h).1
  have hG : GoodIn Ts ws := fun w h => hT w (by unfold wsV; exact List.mem_append_right _ h)
  have hc : Cond.codeWith y bytes maxL ret hh ∈ ws := by rw [hw]; exact List.mem_cons_self
  refine ⟨⟨hrc, hrs, hR.1, hR.2, pay_in ht hG, hc⟩, ht _ (hG _ hc).1, ok _ (by simp [wsV]), ⟨hd.1, hd.2.1⟩, fun sig h => ?_, ok _ (by simp [wsV]), ok _ (by simp [wsV]), ok _ (by simp [wsV])⟩
  have h2 := hd.2.2
  rw [h] at h2
  exact (Option.some.inj h2).symm
theorem vx_runVW {y : MethodName} {bytes cc : ByteArray} {maxL nL mc ms n index : Nat} {ret : Option FieldType} {hh : List (Nat × Nat × Nat × Nat)} {ws : List Cond} {rm : Room} {Pc : Array Value → State → Prop} {Qc : Array Value → State → Outcome → State → Prop} {free : Addr → Prop} {Ts : List Cond} {own C : String} {b : Addr} {As rest : List Value} {g : JFrame}
    (S : CallFix p m c cc nL s args Ts own) (hM : Met l y ws rm Pc Qc mc ms free) (cw : vx_CVW R s args own C index y bytes maxL ret hh ws rm mc ms n) (hp : PreV s H C b Pc As)
    (hg : g.method = m) (hn : As.length = n) (hsize : g.locals.size = nL) (hstack : g.stack = As.reverse ++ .ref b :: rest) (hW : 2 * g.monitorRoom + (rest.map fun v => v.category).sum ≤ 8) (hdg : decode cc g.pc = .ok (.invokevirtual index, 3)) (hf : cells + mc ≤ R.cells ∧ slots + ms ≤ R.slots) :
    va_Run p l e R s m args below meth c H locs cells slots mc ms g rest (Qc (Value.ref b :: As).toArray) free := by
  obtain ⟨⟨hrc, hrs, hfr, hlo, hws, hcw⟩, hcode, hini, hy, hlen, hl, hin, hse⟩ := cw
  have hK : Back l R p e below s args y 3 8 (PreOf R mc ms Pc) (PostOf Qc mc ms free) := va_backW (hh := hh) (bytes := bytes) (maxL := maxL) (ret := ret) hM hp.1 hrc hrs hfr hlo hws hcw (fun a' U hW => word_at hW (Or.inl (by first | rfl | simp [Cond.onTables, Cond.keeps, Cond.steady])) hini)
  obtain ⟨hx, hb, hml, ho, -⟩ := S
  obtain ⟨-, ⟨cellB, hcB, hoB, hclB⟩, hPc⟩ := hp
  intro T hT X
  obtain ⟨v, vm₁, ⟨U', l2, c2, s2⟩, hW₁, X', ⟨g', mk, t, L, e1, e2, hq, h1, hL, h2, h3⟩, st⟩ := vx_callVW X hx (C := C) (hh := hh) (bytes := bytes) (maxL := maxL) (ret := ret) ho hl hin hse hcode hy hK (by rw [hT]; exact hcB) hoB hclB hg (hsize.trans hml.symm) (argsL := As) (rest := rest) (fun sig h => hn.trans (hlen sig h)) hstack hW (by rw [hb]; exact hdg)
    (fun vm₁ hW₁ => ⟨hf.1, hf.2, hPc (T.setVm vm₁) hT hW₁⟩)
  dsimp only [Pt.U, Pt.locs, Pt.cells, Pt.slots] at X' e1 e2 h1 h2 h3 st
  subst h1; subst h2; subst h3
  exact ⟨v, (T.setVm vm₁).calling g' mk (Value.ref b :: As).toArray, t, U', L, hT, X', hL, e1, e2, hq, st⟩
section
variable {y : MethodName} {bytes cc : ByteArray} {maxL nL mc ms n index : Nat} {ret : Option FieldType} {ws : List Cond} {rm : Room} {Pc : Array Value → State → Prop} {Qc : Array Value → State → Outcome → State → Prop} {XC : String → State → State → Prop} {free : Addr → Prop} {Ts : List Cond} {own C : String} {b : Addr} {As rest : List Value} {g : JFrame}
theorem vx_runVX {hh : List (Nat × Nat × Nat × Nat)} (S : CallFix p m c cc nL s args Ts own) (hM : vx_Met l y ws rm Pc Qc XC mc ms free) (cw : vx_CVW R s args own C index y bytes maxL ret hh ws rm mc ms n) (hp : PreV s H C b Pc As)
    (hg : g.method = m) (hn : As.length = n) (hsize : g.locals.size = nL) (hstack : g.stack = As.reverse ++ .ref b :: rest) (hW : 2 * g.monitorRoom + (rest.map fun v => v.category).sum ≤ 8) (hdg : decode cc g.pc = .ok (.invokevirtual index, 3)) (hf : cells + mc ≤ R.cells ∧ slots + ms ≤ R.slots) :
    vx_Run p l e R s m args below meth c H locs cells slots mc ms g rest (Qc (Value.ref b :: As).toArray) XC free := by
  obtain ⟨⟨hrc, hrs, hfr, hlo, hws, hcw⟩, hcode, hini, hy, hlen, hl, hin, hse⟩ := cw
  have hK : vx_Back l R p e below s args y 3 8 (PreOf R mc ms Pc) (PostOf Qc mc ms free) (vx_Post XC mc ms free) := vx_backW (hh := hh) (bytes := bytes) (maxL := maxL) (ret := ret) hM hp.1 hrc hrs hfr hlo hws hcw (fun a' U hW => word_at hW (Or.inl (by first | rfl | simp [Cond.onTables, Cond.keeps, Cond.steady])) hini)
  obtain ⟨hx, hb, hml, ho, -⟩ := S
  obtain ⟨-, ⟨cellB, hcB, hoB, hclB⟩, hPc⟩ := hp
  intro T hT X
  rcases vx_callVX X hx (C := C) (hh := hh) (bytes := bytes) (maxL := maxL) (ret := ret) ho hl hin hse hcode hy hK (by rw [hT]; exact hcB) hoB hclB hg (hsize.trans hml.symm) (argsL := As) (rest := rest) (fun sig h => hn.trans (hlen sig h)) hstack hW (by rw [hb]; exact hdg)
    (fun vm₁ hW₁ => ⟨hf.1, hf.2, hPc (T.setVm vm₁) hT hW₁⟩) with ⟨v, vm₁, ⟨U', l2, c2, s2⟩, hW₁, X', ⟨g', mk, t, L, e1, e2, hq, h1, hL, h2, h3⟩, st⟩ | ⟨q, vm₁, ⟨U', l2, c2, s2⟩, hW₁, X', ⟨g', mk, t, L, E, ce, e1, e2, hq, hce, hcv, hcl, h1, hL, h2, h3⟩, st⟩
  · dsimp only [Pt.U, Pt.locs, Pt.cells, Pt.slots] at X' e1 e2 h1 h2 h3 st
    subst h1; subst h2; subst h3
    exact Or.inl ⟨v, (T.setVm vm₁).calling g' mk (Value.ref b :: As).toArray, t, U', L, hT, X', hL, e1, e2, hq, st⟩
  · dsimp only [Pt.U, Pt.locs, Pt.cells, Pt.slots] at X' e1 e2 h1 h2 h3 st hcl
    subst h1; subst h2; subst h3
    exact Or.inr ⟨q, (T.setVm vm₁).calling g' mk (Value.ref b :: As).toArray, t, U', L, E, ce, hT, X', hL, e1, e2, hq, hce, hcv, vx_cls hW₁ hcl, st⟩
theorem vx_runSX {hh : List (Nat × Nat × Nat × Nat)} (S : CallFix p m c cc nL s args Ts own) (hM : vx_Met l y ws rm Pc Qc XC mc ms free) (cw : vx_CSW R s args own index y bytes maxL ret hh ws rm mc ms n) (hp : PreS s H Pc As)
    (hg : g.method = m) (hn : As.length = n) (hsize : g.locals.size = nL) (hstack : g.stack = As.reverse ++ rest) (hW : 2 * g.monitorRoom + (rest.map fun v => v.category).sum ≤ 8) (hdg : decode cc g.pc = .ok (.invokestatic index, 3)) (hf : cells + mc ≤ R.cells ∧ slots + ms ≤ R.slots) :
    vx_Run p l e R s m args below meth c H locs cells slots mc ms g rest (Qc As.toArray) XC free := by
  obtain ⟨⟨hrc, hrs, hfr, hlo, hws, hcw⟩, hcode, hini, hy, hlen, hl, hstt⟩ := cw
  have hK : vx_Back l R p e below s args y 3 8 (PreOf R mc ms Pc) (PostOf Qc mc ms free) (vx_Post XC mc ms free) := vx_backW (hh := hh) (bytes := bytes) (maxL := maxL) (ret := ret) hM hp.1 hrc hrs hfr hlo hws hcw (fun a' U hW => word_at hW (Or.inl (by first | rfl | simp [Cond.onTables, Cond.keeps, Cond.steady])) hini)
  obtain ⟨hx, hb, hml, ho, -⟩ := S
  intro T hT X
  rcases vx_callSX X hx (hh := hh) (bytes := bytes) (maxL := maxL) (ret := ret) ho hl hstt hini hcode hy hK hg (hsize.trans hml.symm) (argsL := As) (rest := rest) (fun sig h => hn.trans (hlen sig h)) hstack hW (by rw [hb]; exact hdg)
    (fun vm₁ hW₁ => ⟨hf.1, hf.2, hp.2 (T.setVm vm₁) hT hW₁⟩) with ⟨v, vm₁, ⟨U', l2, c2, s2⟩, hW₁, X', ⟨g', mk, t, L, e1, e2, hq, h1, hL, h2, h3⟩, st⟩ | ⟨q, vm₁, ⟨U', l2, c2, s2⟩, hW₁, X', ⟨g', mk, t, L, E, ce, e1, e2, hq, hce, hcv, hcl, h1, hL, h2, h3⟩, st⟩
  · dsimp only [Pt.U, Pt.locs, Pt.cells, Pt.slots] at X' e1 e2 h1 h2 h3 st
    subst h1; subst h2; subst h3
    exact Or.inl ⟨v, (T.setVm vm₁).calling g' mk As.toArray, t, U', L, hT, X', hL, e1, e2, hq, st⟩
  · dsimp only [Pt.U, Pt.locs, Pt.cells, Pt.slots] at X' e1 e2 h1 h2 h3 st hcl
    subst h1; subst h2; subst h3
    exact Or.inr ⟨q, (T.setVm vm₁).calling g' mk As.toArray, t, U', L, E, ce, hT, X', hL, e1, e2, hq, hce, hcv, vx_cls hW₁ hcl, st⟩
end
end VXH
theorem vx_ofWH {l : Launch} {y : MethodName} {ws ws' : List Cond} {rm : Room} {Pc : Array Value → State → Prop} {Qc : Array Value → State → Outcome → State → Prop} {XC : String → State → State → Prop} {mc ms : Nat} {free : Addr → Prop} {cc : ByteArray} {maxL : Nat} {ret : Option FieldType} {hh : List (Nat × Nat × Nat × Nat)}
    (hy : plainName y.cls = true) (hw : ws = Cond.codeWith y cc maxL ret hh :: ws')
    (body : ∀ p e s m args below meth c s₁, BodyLoose p l y (headSpec ws rm) cc maxL ret e s m args below meth c s₁ → c.maxLocals = maxL → Pc args s →
      W p l e (headSpec ws rm).room s m args below meth c s.heap [] 0 0 (vx_MQ below Qc XC args s mc ms free) (entryFrame m args maxL)) : vx_Met l y ws rm Pc Qc XC mc ms free := by
  refine MetFree.of_bodyS (code := cc) (maxLocals := maxL) (ret := ret) hy ?_ ?_
  · intro args s m h hn
    obtain ⟨m9, meth, c, hn9, h1, h2, h3, h4, -, h5, h6, -⟩ := Cond.codeWith_spec (atoms_spec (ws := ws) h _ (by rw [hw]; exact List.mem_cons_self))
    cases hn.symm.trans hn9
    exact ⟨meth, c, h1, h2, h3, h4, h5, h6⟩
  · intro p e s m args below meth c s₁ B hml hP _
    have hh0 : s₁.heap = s.heap := by rw [B.state]; rfl
    obtain ⟨t, a1, o, b1, b2, b3⟩ := body p e s m args below meth c s₁ B hml hP s₁ hh0 (Stand.of_body B)
    exact ⟨t, o, a1, b1, b2, b3⟩
/-! ===== END ===== -/
/-! ===== BEGIN what the machine throws by itself, no traces kept ===== -/
section VXM
set_option maxHeartbeats 1000000 in
/-- the machine throws cls with the message text, no traces kept: from its note over the frame g to 'throwing' over the same frame (follows the proofs of Stand.vmThrowsMessage, Shelf/KitTracedVmS.lean, and Stand.throwsMessageColdBareV, StandMessageColdV.lean, without the step out of the frame) -/
theorem vx_vmAt {p : Program} {l : Launch} {e : Env} {R : Room} {s : State} {m₀ : MethodId} {args : Array Value} {below : List Frame} {meth : Method} {c : Code} {W : State} {locs : List Loc} {cells slots : Nat}
    (X : Stand p l e R s m₀ args below meth c W locs cells slots) (hexec : p.tables.exec = Jvm.exec) (htr : e.platform.stackTraces = false) {cls : String} {names : List String} {text : String}
    (hcls : Bundle.fit cls = true) (hnames : ∀ n ∈ names, Bundle.fit n = true) (hsoe : (cls == "java/lang/StackOverflowError") = false) (hoom : (cls == "java/lang/OutOfMemoryError") = false)
    (h : ∀ a ∈ Bundle.messageArmAtoms cls names, a.before args s = true)
    (hlocs : ∀ x ∈ locs, ∀ cell, s.heap[x.base]? = some cell → cell.vm.isStatics = false)
    (htext : (text == notModelled) = false) (hlimit : ¬ (stringBytes (stringToUtf16 text)).size > e.platform.arrayLengthLimit) (hheap : ¬ (stringBytes (stringToUtf16 text)).size * componentBytes .byte > e.platform.maxHeapBytes)
    {g : JFrame} (hg : g.method = m₀) (hsize : g.locals.size = c.maxLocals)
    (hRframes : names.length + 4 < R.frames) (hRlocals : 2 * g.monitorRoom + (g.stack.map fun v => v.category).sum + 10240 ≤ R.locals) (hshort : 13 * names.length + 55 ≤ 10240)
    (hRcells : cells + 3 ≤ R.cells) (hRslots : slots + ((stringBytes (stringToUtf16 text)).size + 4 + 6) ≤ R.slots) (hlocks : meth.locks = false) :
    ∃ (S : State) (q : Addr) (ce : Cell), (∀ target, Steps p.tables e below ((S.setTop g).pushFrame (.throwing q)) target → Steps p.tables e below ((W.setTop g).pushFrame (.throwNew cls (some text) none)) target) ∧
      Stand p l e R s m₀ args below meth c S locs (cells + 3) (slots + ((stringBytes (stringToUtf16 text)).size + 4 + 6)) ∧ S.heap[q]? = some ce ∧ s.vm.findClass cls = some ce.cls ∧ ce.vm = .none := by
  have howns : e.platform.frameOwnsMonitors = true := by rw [X.admits.platform]
  have hfin : e.platform.finalization = false := by rw [X.admits.platform]
  have hpl : e.platform.magicAccessors = ({} : Platform).magicAccessors := by rw [X.admits.platform]
  have a : ∀ x, x ∈ Bundle.messageArmAtoms cls names → x.holds args s none s [] = true := fun x hx => h x hx
  obtain ⟨T, Z0, L, -, Y⟩ := ThrowableC.of_atoms (args := args) howns hfin hpl (fun x hx => h x (by simp [Bundle.messageArmAtoms, hx]))
  obtain ⟨Z, M, LZ, LM, hnZ⟩ := Init0T.ofS_atoms (args := args) hpl L Y (fun x hx => h x (by simp [Bundle.messageArmAtoms, hx]))
  obtain ⟨P1, Ps, hlen, L1, hL, hP1m, hlink1, hlink⟩ := Bundle.chainS (args := args) hpl hnZ names cls hcls hnames (fun x hx => h x (by simp [Bundle.messageArmAtoms, hx]))
  obtain ⟨Zs, LZs, hn4, hfitv, hfitc⟩ := StringT.of_atoms (args := args) (fun x hx => h x (by simp [Bundle.messageArmAtoms, hx]))
  have hfound : s.vm.findClass cls = some P1.m.cls := findClass_of_methodNamed hP1m
  obtain ⟨c1, kX, hc1, hk, hord, -, -, hn6⟩ := Cond.instantiable_spec (a (.instantiable cls 6) (by simp [Bundle.messageArmAtoms]))
  cases Option.some.inj (hc1.symm.trans hfound)
  have hinit := Cond.initialized_spec hfound hk (a (.initialized cls) (by simp [Bundle.messageArmAtoms]))
  have hctor : kX.findMethod "<init>" "(Ljava/lang/String;)V" = some P1.m.idx := findMethod_of_methodNamed hP1m hk
  have hsel0 : selectMethod e.platform s.vm P1.m.cls T.fill0 = .method T.fill0 := by
    obtain ⟨c2, r2, m2, q1, q2, q3, q4, -⟩ := Cond.selects_spec (a (.selects cls Bundle.tFill0 Bundle.tFill0) (by simp [Bundle.messageArmAtoms]))
    cases Option.some.inj (q1.symm.trans hfound)
    cases Option.some.inj (q2.symm.trans (State.methodFound?_of_named Y.fill0 (by decide)))
    cases Option.some.inj (q3.symm.trans Y.fill0)
    rw [Launch.admits_selectMethod X.admits]; exact q4
  have hselF : selectMethod e.platform s.vm P1.m.cls T.fill = .method T.fill := by
    obtain ⟨c2, r2, m2, q1, q2, q3, q4, -⟩ := Cond.selects_spec (a (.selects cls Bundle.tFill Bundle.tFill) (by simp [Bundle.messageArmAtoms]))
    cases Option.some.inj (q1.symm.trans hfound)
    cases Option.some.inj (q2.symm.trans (State.methodFound?_of_named Y.fill (by decide)))
    cases Option.some.inj (q3.symm.trans Y.fill)
    rw [Launch.admits_selectMethod X.admits]; exact q4
  obtain ⟨cellS0, hcS0, hiss⟩ := Y.statics
  obtain ⟨u0, hu0⟩ := Cond.staticRefV Y.unassigned L.unassignedStatic L.statics hcS0 hiss (a (.isRef (.static Bundle.tN "UNASSIGNED_STACK" Bundle.steD)) (by simp [Bundle.messageArmAtoms]))
  obtain ⟨sen, hsen⟩ := Cond.staticRefV Y.sentinel L.sentinelStatic L.statics hcS0 hiss (a (.isRef (.static Bundle.tN "SUPPRESSED_SENTINEL" Bundle.listD)) (by simp [Bundle.messageArmAtoms]))
  obtain ⟨ci198, i198, fB, hk198, hg198, ha198, hsB, -, hnB, htB, hffB⟩ := Cond.ownField (t := .object "java/lang/Object") Y.found L.cls (by decide +kernel) (a (.fieldLink Bundle.tN 198 Bundle.tN "backtrace" "Ljava/lang/Object;") (by simp [Bundle.messageArmAtoms])) (a (.lays Bundle.tN Bundle.tN "backtrace" "Ljava/lang/Object;") (by simp [Bundle.messageArmAtoms])) e.platform hpl
  obtain ⟨cellS, hcS', heS, -, hkeep⟩ := X.same.2.2.2.2.2 T.aS cellS0 hcS0
  have hcellS : W.heap[T.aS]? = some cellS := hcS'
  have hout' : ∀ i, (⟨T.aS, i⟩ : Loc) ∉ locs := fun i hmem => by
    have := hlocs _ hmem cellS0 hcS0
    rw [hiss] at this; cases this
  have hknownS : cellS.vm ≠ .unknown := by
    rw [heS]; intro hu
    rw [show cellS0.vm = .unknown from hu] at hiss
    cases hiss
  have hvU : cellS.slots[T.fUnassigned.slot]? = some u0.v := by rw [hkeep _ (hout' _)]; exact hu0
  have hvSen : cellS.slots[T.fSentinel.slot]? = some sen.v := by rw [hkeep _ (hout' _)]; exact hsen
  obtain ⟨iM, hffM⟩ := Y.msg
  obtain ⟨tyC, dC, hdC, hdnC⟩ := Cond.laysAt hfound hk Y.cause (a (.lays cls Bundle.tN "cause" "Ljava/lang/Throwable;") (by simp [Bundle.messageArmAtoms]))
  obtain ⟨tyS, dS, hdS, hdnS⟩ := Cond.laysAt hfound hk Y.stack (a (.lays cls Bundle.tN "stackTrace" Bundle.steD) (by simp [Bundle.messageArmAtoms]))
  obtain ⟨tyP, dP, hdP, hdnP⟩ := Cond.laysAt hfound hk Y.supp (a (.lays cls Bundle.tN "suppressedExceptions" Bundle.listD) (by simp [Bundle.messageArmAtoms]))
  obtain ⟨tyM, dM, hdM, hdnM⟩ := Cond.laysAt hfound hk hffM (a (.lays cls Bundle.tN "detailMessage" "Ljava/lang/String;") (by simp [Bundle.messageArmAtoms]))
  obtain ⟨tyB, dB, hdB, hdnB⟩ := Cond.laysAt hfound hk hffB (a (.lays cls Bundle.tN "backtrace" "Ljava/lang/Object;") (by simp [Bundle.messageArmAtoms]))
  have bC := Cond.laysApart hdB hdC hdnB hdnC (by rw [hnB, Y.causeName]; decide)
  have bS := Cond.laysApart hdB hdS hdnB hdnS (by rw [hnB, Y.stackName]; decide)
  have bP := Cond.laysApart hdB hdP hdnB hdnP (by rw [hnB, Y.suppName]; decide)
  have hbk : ((preparedCellV T.toThrowableT (freshCell P1.m.cls kX) (W.heap.size + 2) u0 sen).withEntry W.cur).slots[fB.slot]? = some .null := by
    have := fresh_default (c := P1.m.cls) tyB
    rw [htB] at this
    simpa [preparedCellV, Cell.setSlot, Cell.withEntry, Array.getElem?_setIfInBounds, bC, bS, bP, bC.symm, bS.symm, bP.symm, defaultValue] using this
  have tkC := Takes.of_laid (v := .ref (W.heap.size + 2)) hk hord tyC (by rw [Y.causeType]; rfl)
  have tkS := Takes.of_laid (v := u0.v) hk hord tyS (by rw [Y.stackType]; exact fits_refV_array _ u0)
  have tkP := Takes.of_laid (v := sen.v) hk hord tyP (by rw [Y.suppType]; exact fits_refV_object _ sen)
  have tkM := Takes.of_laid (v := .ref (W.heap.size + 1)) hk hord tyM (by rw [Y.msgType]; rfl)
  have hskip : SkipFacts T e.platform s (fun u => u) u0 ((preparedCellV T.toThrowableT (freshCell P1.m.cls kX) (W.heap.size + 2) u0 sen).withEntry W.cur) := ⟨{ ci198 := ci198, i198 := i198, fBack := fB }, ⟨hk198, hg198, ha198, hsB⟩, hbk, fun _ _ => rfl⟩
  have h0 : At W g.method c below := by rw [hg]; exact X.here
  obtain ⟨hbeyond, hfreeW⟩ := X.vmMayThrow hsize (.throwNew cls (some text) none) (fun f hf => by cases hf) rfl hRlocals
  have hfr' : W.frames.length + Ps.length + 4 < (e.platform.stackLimits W.me).1 := by have := X.framesAbove hRframes; omega
  have hwd' : (stackUse (.java g :: W.frames.tail)).2 + 13 * Ps.length + 55 ≤ (e.platform.stackLimits W.me).2 := by have := X.stackAbove hsize (K := 13 * Ps.length + 55) (by omega); omega
  have hslots : W.slotsUsed + (stringBytes (stringToUtf16 text)).size + Zs.kS.instanceTypes.size + kX.instanceTypes.size ≤ e.platform.maxSlots := by
    have := X.slotsAbove hRslots
    rw [hn4, hn6]
    omega
  obtain ⟨vm', hW', st⟩ := Steps.vmThrowsMessageColdByV p (s₀ := s) (S := W) (g := g) h0 hexec T L Z LZ M LM X.warmed (t := W.cur) rfl Zs LZs P1 L1 Ps hL hlink1 hlink hsoe hoom hfound hk hinit hord hctor
    (Launch.admits_hotImplicitExceptions X.admits) hbeyond hfreeW htext hlimit hheap (X.cellsAbove hRcells) hslots (hfitv _) (hfitc _)
    (Nn := fun u => u) heapOnly_id (fun _ _ => rfl) (fun _ => rfl) (fun u x y => setCell_twice _ _ _ _) (fun _ => Nat.le_refl _) (cN := ((preparedCellV T.toThrowableT (freshCell P1.m.cls kX) (W.heap.size + 2) u0 sen).withEntry W.cur))
    hsel0 hcellS hknownS hvU tkS (fun _ hu => hu) (fun _ hu => hu) rfl rfl rfl (by simp [preparedCellV, Cell.setSlot, Cell.withEntry]) hskip (fun _ _ hA hW _ hroom _ hrest => L.nativeOff p htr hA hW hroom hrest) hselF hvSen tkC tkP tkM Y.objLocals rfl hfr' hwd'
  rw [plainBareV_eq T.toThrowableT (W.heap.size + 2) u0 sen (.ref (W.heap.size + 1)) W.cur rfl rfl] at st
  obtain ⟨-, -, w3, w4, -, -, -⟩ := withThrown_facts e.platform W Zs text P1.m.cls kX
  have X3 := ((X.pushed (bytesOf Zs.cB (stringToUtf16 text))).pushed (stringAt Zs.cS Zs.kS Zs.fv Zs.fc (stringToUtf16 text) W.heap.size)).pushed (freshCell P1.m.cls kX)
  rw [← withString_eq] at X3
  have X4 := X3.noted hW'
  have ha : (W.heap.size + 2) < ((withThrown W Zs text P1.m.cls kX).setVm vm').heap.size := by show _ < (withThrown W Zs text P1.m.cls kX).heap.size; rw [w3]; omega
  have hcell : ((withThrown W Zs text P1.m.cls kX).setVm vm').heap[(W.heap.size + 2)]? = some (freshCell P1.m.cls kX) := w4
  have X5 := ((((X4.stored hcell T.fCause.slot (.ref (W.heap.size + 2))).storedAgain ha T.fStack.slot u0.v).storedAgain ha T.fSupp.slot sen.v).storedAgain ha T.fStack.slot u0.v).storedAgain ha T.fMsg.slot (.ref (W.heap.size + 1))
  obtain ⟨g₁, hfrM⟩ := X5.frames_eq
  have hU : ((((withThrown W Zs text P1.m.cls kX).setVm vm').setCell (W.heap.size + 2) (plainBareV T.toThrowableT (freshCell P1.m.cls kX) (W.heap.size + 2) u0 sen (.ref (W.heap.size + 1)))).setTop g).pushFrame (.throwing (W.heap.size + 2)) = (((withThrown W Zs text P1.m.cls kX).setVm vm').setCell (W.heap.size + 2) (plainBareV T.toThrowableT (freshCell P1.m.cls kX) (W.heap.size + 2) u0 sen (.ref (W.heap.size + 1)))).setFrames (.throwing (W.heap.size + 2) :: .java g :: below) := by
    rw [State.pushFrame, State.frames_setTop _ hfrM, State.setTop_of_frames _ hfrM, State.setFrames_setFrames]
  have b1 : (bytesOf Zs.cB (stringToUtf16 text)).slots.size = (stringBytes (stringToUtf16 text)).size := by
    rw [(Cell.writeAll_facts _ _).2.2]; simp [bytes0]
  have b2 : (stringAt Zs.cS Zs.kS Zs.fv Zs.fc (stringToUtf16 text) W.heap.size).slots.size = 4 := by simp [string0, Cell.setSlot, hn4]
  have b3 : (freshCell P1.m.cls kX).slots.size = 6 := by simp [hn6]
  rw [b1, b2, b3] at X5
  have e9 : slots + (stringBytes (stringToUtf16 text)).size + 4 + 6 = slots + ((stringBytes (stringToUtf16 text)).size + 4 + 6) := by omega
  rw [e9] at X5
  simp only [List.append_assoc, List.cons_append, List.nil_append] at X5
  refine ⟨((withThrown W Zs text P1.m.cls kX).setVm vm').setCell (W.heap.size + 2) (plainBareV T.toThrowableT (freshCell P1.m.cls kX) (W.heap.size + 2) u0 sen (.ref (W.heap.size + 1))), W.heap.size + 2, _, fun target ht => st _ (by rw [X.tail, ← hU]; exact ht),
    X5.forget (fun y hy => ?_), heapAt_setCell_self _ ha, hfound, rfl⟩
  simp only [List.mem_cons, List.not_mem_nil, or_false] at hy
  have hge : s.heap.size ≤ W.heap.size := X.same.2.1
  rcases hy with rfl | rfl | rfl | rfl | rfl <;> exact Nat.le_trans hge (Nat.le_add_right _ 2)
set_option maxHeartbeats 1000000 in
/-- the machine throws NullPointerException, no traces kept: from its note over the frame g to 'throwing' over the same frame (follows the proof of Stand.vmThrowsNpe, Shelf42/KT2.lean; throwsNpeColdBareVAt, Shelf42/NT91.lean, called) -/
theorem vx_npeAt {p : Program} {l : Launch} {e : Env} {R : Room} {s : State} {m₀ : MethodId} {args : Array Value} {below : List Frame} {meth : Method} {c : Code} {W : State} {locs : List Loc} {cells slots : Nat}
    (X : Stand p l e R s m₀ args below meth c W locs cells slots) (hexec : p.tables.exec = Jvm.exec) (htr : e.platform.stackTraces = false) {n : Nat}
    (h : ∀ a ∈ Bundle.npeArmAtoms n, a.before args s = true)
    (hlocs : ∀ x ∈ locs, ∀ cell, s.heap[x.base]? = some cell → cell.vm.isStatics = false)
    {g : JFrame} (hg : g.method = m₀) (hsize : g.locals.size = c.maxLocals)
    (hRframes : 7 < R.frames) (hRlocals : 2 * g.monitorRoom + (g.stack.map fun v => v.category).sum + 10240 ≤ R.locals)
    (hRcells : cells + 1 ≤ R.cells) (hRslots : slots + n ≤ R.slots) (hlocks : meth.locks = false) :
    ∃ (S : State) (q : Addr) (ce : Cell), (∀ target, Steps p.tables e below ((S.setTop g).pushFrame (.throwing q)) target → Steps p.tables e below ((W.setTop g).pushFrame (.throwNew "java/lang/NullPointerException" none none)) target) ∧
      Stand p l e R s m₀ args below meth c S locs (cells + 1) (slots + n) ∧ S.heap[q]? = some ce ∧ s.vm.findClass "java/lang/NullPointerException" = some ce.cls ∧ ce.vm = .none := by
  have howns : e.platform.frameOwnsMonitors = true := by rw [X.admits.platform]
  have hfin : e.platform.finalization = false := by rw [X.admits.platform]
  have hpl : e.platform.magicAccessors = ({} : Platform).magicAccessors := by rw [X.admits.platform]
  have hpl2 : e.platform.arrayCloneIsPublic = true := by rw [X.admits.platform]
  have a' : ∀ x, x ∈ Bundle.npeArmAtoms n → x.holds args s none s [] = true := fun x hx => h x hx
  obtain ⟨T, Z, L, LZ, Y⟩ := ThrowableC.of_atoms (args := args) howns hfin hpl (fun x hx => h x (by simp [Bundle.npeArmAtoms, hx]))
  obtain ⟨N, LN, hcN, hnNF, hordN, hffS⟩ := NpeC.of_atoms (args := args) hpl hpl2 L Y (fun x hx => h x (by simp [Bundle.npeArmAtoms, hx]))
  obtain ⟨P1, L1, hP1m, hP1s⟩ := PassC.of_atoms (args := args) (s := s) hpl (X := Bundle.nN) (Y := Bundle.rN) (by decide) (by decide) LibCode.NullPointerException.Init0.at_0 LibCode.NullPointerException.Init0.at_1 LibCode.NullPointerException.Init0.at_4 (fun x hx => h x (by simp [Bundle.npeArmAtoms, hx]))
  obtain ⟨PR, LR, hPRm, hPRs⟩ := PassC.of_atoms (args := args) (s := s) hpl (X := Bundle.rN) (Y := Bundle.eN) (by decide) (by decide) LibCode.RuntimeException.Init0.at_0 LibCode.RuntimeException.Init0.at_1 LibCode.RuntimeException.Init0.at_4 (fun x hx => h x (by simp [Bundle.npeArmAtoms, hx]))
  obtain ⟨PE, LEx, hPEm, hPEs⟩ := PassC.of_atoms (args := args) (s := s) hpl (X := Bundle.eN) (Y := Bundle.tN) (by decide) (by decide) LibCode.Exception.Init0.at_0 LibCode.Exception.Init0.at_1 LibCode.Exception.Init0.at_4 (fun x hx => h x (by simp [Bundle.npeArmAtoms, hx]))
  have hfound : s.vm.findClass Bundle.nN = some P1.m.cls := findClass_of_methodNamed hP1m
  have ecls : N.cN = P1.m.cls := Option.some.inj (hcN.symm.trans hfound)
  have hk : s.vm.classes[P1.m.cls]? = some N.kN := by rw [← ecls]; exact LN.cls
  have hinit := Cond.initialized_spec hfound hk (a' (.initialized Bundle.nN) (by simp [Bundle.npeArmAtoms]))
  have hctor : N.kN.findMethod "<init>" "()V" = some P1.m.idx := findMethod_of_methodNamed hP1m hk
  obtain ⟨c1, k1, hc1, hk1, -, -, -, hn⟩ := Cond.instantiable_spec (a' (.instantiable Bundle.nN n) (by simp [Bundle.npeArmAtoms]))
  cases Option.some.inj (hc1.symm.trans hfound)
  cases Option.some.inj (hk1.symm.trans hk)
  have hfsz : (freshCell P1.m.cls N.kN).slots.size = n := by simp [hn]
  have hlink1 : P1.sup = PR.m := Option.some.inj (hP1s.symm.trans hPRm)
  have hlinkR : PR.sup = PE.m := Option.some.inj (hPRs.symm.trans hPEm)
  have hlinkE : PE.sup = Z.m T.toThrowableT := Option.some.inj (hPEs.symm.trans Y.init0)
  have hLs : ∀ P, P ∈ [PR, PE] → P.Links0 e.platform s := fun P hP => by
    simp only [List.mem_cons, List.not_mem_nil, or_false] at hP
    rcases hP with rfl | rfl
    · exact LR
    · exact LEx
  have hsel0 : selectMethod e.platform s.vm P1.m.cls T.fill0 = .method T.fill0 := by
    obtain ⟨c2, r2, m2, q1, q2, q3, q4, -⟩ := Cond.selects_spec (a' (.selects Bundle.nN Bundle.tFill0 Bundle.tFill0) (by simp [Bundle.npeArmAtoms]))
    cases Option.some.inj (q1.symm.trans hfound)
    cases Option.some.inj (q2.symm.trans (State.methodFound?_of_named Y.fill0 (by decide)))
    cases Option.some.inj (q3.symm.trans Y.fill0)
    rw [Launch.admits_selectMethod X.admits]; exact q4
  have hselF : selectMethod e.platform s.vm P1.m.cls T.fill = .method N.fill := by
    obtain ⟨c2, r2, m2, q1, q2, q3, q4, -⟩ := Cond.selects_spec (a' (.selects Bundle.nN Bundle.tFill Bundle.nFill) (by simp [Bundle.npeArmAtoms]))
    cases Option.some.inj (q1.symm.trans hfound)
    cases Option.some.inj (q2.symm.trans (State.methodFound?_of_named Y.fill (by decide)))
    cases Option.some.inj (q3.symm.trans hnNF)
    rw [Launch.admits_selectMethod X.admits]; exact q4
  obtain ⟨cellS0, hcS0, hiss⟩ := Y.statics
  obtain ⟨u0, hu0⟩ := Cond.staticRefV Y.unassigned L.unassignedStatic L.statics hcS0 hiss (a' (.isRef (.static Bundle.tN "UNASSIGNED_STACK" Bundle.steD)) (by simp [Bundle.npeArmAtoms]))
  obtain ⟨sen, hsen⟩ := Cond.staticRefV Y.sentinel L.sentinelStatic L.statics hcS0 hiss (a' (.isRef (.static Bundle.tN "SUPPRESSED_SENTINEL" Bundle.listD)) (by simp [Bundle.npeArmAtoms]))
  obtain ⟨ci198, i198, fB, hk198, hg198, ha198, hsB, -, hnB, htB, hffB⟩ := Cond.ownField (t := .object "java/lang/Object") Y.found L.cls (by decide +kernel) (a' (.fieldLink Bundle.tN 198 Bundle.tN "backtrace" Bundle.objD) (by simp [Bundle.npeArmAtoms])) (a' (.lays Bundle.tN Bundle.tN "backtrace" Bundle.objD) (by simp [Bundle.npeArmAtoms])) e.platform hpl
  obtain ⟨cellS, hcS', heS, -, hkeep⟩ := X.same.2.2.2.2.2 T.aS cellS0 hcS0
  have hcellS : W.heap[T.aS]? = some cellS := hcS'
  have hout' : ∀ i, (⟨T.aS, i⟩ : Loc) ∉ locs := fun i hmem => by
    have := hlocs _ hmem cellS0 hcS0
    rw [hiss] at this; cases this
  have hknownS : cellS.vm ≠ .unknown := by
    rw [heS]; intro hu
    rw [show cellS0.vm = .unknown from hu] at hiss
    cases hiss
  have hvU : cellS.slots[T.fUnassigned.slot]? = some u0.v := by rw [hkeep _ (hout' _)]; exact hu0
  have hvSen : cellS.slots[T.fSentinel.slot]? = some sen.v := by rw [hkeep _ (hout' _)]; exact hsen
  obtain ⟨tyC, dC, hdC, hdnC⟩ := Cond.laysAt hfound hk Y.cause (a' (.lays Bundle.nN Bundle.tN "cause" "Ljava/lang/Throwable;") (by simp [Bundle.npeArmAtoms]))
  obtain ⟨tyS, dS, hdS, hdnS⟩ := Cond.laysAt hfound hk Y.stack (a' (.lays Bundle.nN Bundle.tN "stackTrace" Bundle.steD) (by simp [Bundle.npeArmAtoms]))
  obtain ⟨tyP, dP, hdP, hdnP⟩ := Cond.laysAt hfound hk Y.supp (a' (.lays Bundle.nN Bundle.tN "suppressedExceptions" Bundle.listD) (by simp [Bundle.npeArmAtoms]))
  obtain ⟨tyX, dX, hdX, hdnX⟩ := Cond.laysAt hfound hk hffS (a' (.lays Bundle.nN Bundle.nN "extendedMessageState" "I") (by simp [Bundle.npeArmAtoms, Bundle.npeAtoms]))
  obtain ⟨hnX, htX⟩ := State.fieldFound?_type hffS (t := .int) (by decide +kernel)
  have xC := Cond.laysApart hdC hdX hdnC hdnX (by rw [hnX, Y.causeName]; decide)
  have xS := Cond.laysApart hdS hdX hdnS hdnX (by rw [hnX, Y.stackName]; decide)
  have xP := Cond.laysApart hdP hdX hdnP hdnX (by rw [hnX, Y.suppName]; decide)
  have hv0 : (freshCell P1.m.cls N.kN).slots[N.fState.slot]? = some (.int 0) := by
    have := fresh_default (c := P1.m.cls) tyX
    rw [htX] at this; exact this
  obtain ⟨tyB, dB, hdB, hdnB⟩ := Cond.laysAt hfound hk hffB (a' (.lays Bundle.nN Bundle.tN "backtrace" Bundle.objD) (by simp [Bundle.npeArmAtoms]))
  have bC := Cond.laysApart hdB hdC hdnB hdnC (by rw [hnB, Y.causeName]; decide)
  have bS := Cond.laysApart hdB hdS hdnB hdnS (by rw [hnB, Y.stackName]; decide)
  have bP := Cond.laysApart hdB hdP hdnB hdnP (by rw [hnB, Y.suppName]; decide)
  have bX := Cond.laysApart hdB hdX hdnB hdnX (by rw [hnB, hnX]; decide)
  have hbk : ((npeCell N.toNpeT (preparedCellV T.toThrowableT (freshCell P1.m.cls N.kN) W.heap.size u0 sen) W.cur).withEntry W.cur).slots[fB.slot]? = some .null := by
    have := fresh_default (c := P1.m.cls) tyB
    rw [htB] at this
    simpa [npeCell, preparedCellV, Cell.setSlot, Cell.withEntry, Array.getElem?_setIfInBounds, bC, bS, bP, bX, bC.symm, bS.symm, bP.symm, bX.symm, defaultValue] using this
  have tkC := Takes.of_laid (v := .ref W.heap.size) hk hordN tyC (by rw [Y.causeType]; rfl)
  have tkS := Takes.of_laid (v := u0.v) hk hordN tyS (by rw [Y.stackType]; exact fits_refV_array _ u0)
  have tkP := Takes.of_laid (v := sen.v) hk hordN tyP (by rw [Y.suppType]; exact fits_refV_object _ sen)
  have tkX := Takes.of_laid (v := .int 1) hk hordN tyX (by rw [htX]; rfl)
  have hskip : SkipFacts T e.platform s (fun u => u) u0 ((npeCell N.toNpeT (preparedCellV T.toThrowableT (freshCell P1.m.cls N.kN) W.heap.size u0 sen) W.cur).withEntry W.cur) := ⟨{ ci198 := ci198, i198 := i198, fBack := fB }, ⟨hk198, hg198, ha198, hsB⟩, hbk, fun _ _ => rfl⟩
  obtain ⟨vm', X3, st, -⟩ := X.throwsNpeColdBareVAt hexec hg hsize T L Z LZ N LN P1 L1 [PR, PE] hLs hlink1 ⟨hlinkR, hlinkE, trivial⟩ hfound hk hinit hordN hctor hsel0 hselF hcellS hknownS hvU hvSen
    hv0 xC xS xP tkC tkS tkP tkX Y.objLocals hskip (fun _ _ hA hW _ hroom _ hrest => L.nativeOff p htr hA hW hroom hrest) (by simpa using hRframes) hRlocals (by simp) hRcells (by rw [hn]; exact hRslots)
  have hlt : W.heap.size < ((W.pushCell (freshCell P1.m.cls N.kN)).setVm vm').heap.size := by
    show W.heap.size < (W.pushCell (freshCell P1.m.cls N.kN)).heap.size
    rw [State.heap_size_pushCell]; omega
  rw [hfsz] at X3
  obtain ⟨g₁, hfrM⟩ := X3.frames_eq
  have hU : ((((W.pushCell (freshCell P1.m.cls N.kN)).setVm vm').setCell W.heap.size (npeBareV T.toThrowableT N.toNpeT (freshCell P1.m.cls N.kN) W.heap.size u0 sen)).setTop g).pushFrame (.throwing W.heap.size) = (((W.pushCell (freshCell P1.m.cls N.kN)).setVm vm').setCell W.heap.size (npeBareV T.toThrowableT N.toNpeT (freshCell P1.m.cls N.kN) W.heap.size u0 sen)).setFrames (.throwing W.heap.size :: .java g :: below) := by
    rw [State.pushFrame, State.frames_setTop _ hfrM, State.setTop_of_frames _ hfrM, State.setFrames_setFrames]
  refine ⟨_, W.heap.size, _, fun target ht => st.trans (by rw [← hU]; exact ht), X3.forget (fun y hy => ?_), heapAt_setCell_self _ hlt, hfound, rfl⟩
  simp only [List.mem_cons, List.not_mem_nil, or_false] at hy
  have hge : s.heap.size ≤ W.heap.size := X.same.2.1
  rcases hy with rfl | rfl | rfl | rfl | rfl <;> exact hge
/-- the words of a machine's NullPointerException, but the four that speak of the heap -/
def vx_atN (n : Nat) : List Cond := (Bundle.npeArmAtoms n).filter vx_no
/-- the words of a machine's throw with a message, but the four that speak of the heap -/
def vx_atM (X : String) (names : List String) : List Cond := (Bundle.messageArmAtoms X names).filter vx_no
section
variable {p : Program} {l : Launch} {e : Env} {R : Room} {s : State} {m : MethodId} {args : Array Value} {below : List Frame} {meth : Method} {c : Code} {H : Heap} {locs : List Loc} {cells slots : Nat}
/-- a frame seen from a rebased start, seen from the first start again -/
theorem vx_back9 {T S : State} {R' : Room} {k n : Nat} (X : Stand p l e R s m args below meth c T locs cells slots) (Y : Stand p l e R' ((T.setVm s.vm).setFrames (.invoking m args :: below)) m args below meth c T [] 0 0) (Z : Stand p l e R' ((T.setVm s.vm).setFrames (.invoking m args :: below)) m args below meth c S [] k n) :
    Stand p l e R s m args below meth c S locs (cells + k) (slots + n) := by
  have hW0 : s.WarmedH ((T.setVm s.vm).setFrames (.invoking m args :: below)).vm := State.WarmedH.refl s
  refine { admits := X.admits, cas := X.cas, clock := X.clock, frames := X.frames, room := X.room, hears := X.hears, method := X.method, code := X.code, here := Z.here, tail := Z.tail, warmed := State.WarmedH.trans hW0 Z.warmed, limits := Z.limits.trans (Y.limits.symm.trans X.limits), bytes := Z.bytes.trans (Y.bytes.symm.trans X.bytes), same := ?_ }
  obtain ⟨e1, e2⟩ := Z.same
  rw [State.setFrames_setFrames] at e1
  have h2 : (T.setVm s.vm).sameButNew (S.setVm s.vm) [] k n := ⟨e1, e2⟩
  have h3 := X.same.trans h2
  rw [List.append_nil] at h3
  exact h3
/-- from the machine's note that E is thrown here with this text -/
def vx_Note (p : Program) (l : Launch) (e : Env) (R : Room) (s : State) (m : MethodId) (args : Array Value) (below : List Frame) (meth : Method) (c : Code) (H : Heap) (locs : List Loc) (cells slots : Nat) (Q : State → Prop) (g : JFrame) (E text : String) : Prop :=
  ∀ T : State, T.heap = H → Stand p l e R s m args below meth c T locs cells slots → ∃ t, Steps p.tables e below ((T.setTop g).pushFrame (.throwNew E (some text) none)) t ∧ Q t
theorem vx_vm {pc : Nat} {ls : Array Slot} {rest : List Value} {Q : State → Prop} (hexec : p.tables.exec = Jvm.exec) (hl : l.stackTraces = false) {cls text : String} {names : List String} {nb : Nat} {A : Nat → Prop}
    (hcls : Bundle.fit cls = true) (hnames : ∀ n ∈ names, Bundle.fit n = true) (hsoe : (cls == "java/lang/StackOverflowError") = false) (hoom : (cls == "java/lang/OutOfMemoryError") = false)
    (hat : ∀ w ∈ vx_atM cls names, w.before args s = true) (hgood : ∀ w ∈ vx_atM cls names, vx_ot w = true)
    (hU : vx_Zq Bundle.tN "UNASSIGNED_STACK" Bundle.steD A s s.heap) (hN : vx_Zq Bundle.tN "SUPPRESSED_SENTINEL" Bundle.listD A s s.heap) (hS : va_S A s.heap H locs) (hsize : ls.size = c.maxLocals)
    (htext : (text == notModelled) = false) (hnb : (stringBytes (stringToUtf16 text)).size ≤ nb) (hnb1 : nb ≤ 1000)
    (hRframes : names.length + 4 < R.frames) (hRlocals : (rest.map fun v => v.category).sum + 10240 ≤ R.locals) (hshort : 13 * names.length + 55 ≤ 10240) (hRcells : cells + 3 ≤ R.cells) (hRslots : slots + (nb + 10) ≤ R.slots) (hlocks : meth.locks = false)
    (k : ∀ (H1 : Heap) (q9 : Addr) (ce : Cell), H.size ≤ H1.size → (∀ q : Nat, q < H.size → H1[q]? = H[q]?) → va_S A s.heap H1 locs → H1[q9]? = some ce → ce.vm = .none → s.vm.findClass cls = some ce.cls → vx_W p l e R s m args below meth c H1 locs (cells + 3) (slots + (nb + 10)) Q (F0 m pc ls rest) q9) :
    vx_Note p l e R s m args below meth c H locs cells slots Q (F0 m pc ls rest) cls text := by
  intro T hT X
  have htr : e.platform.stackTraces = false := (show e.platform.stackTraces = l.stackTraces by rw [X.admits.platform]).trans hl
  have Y := vx_rebase X (R' := { frames := R.frames, locals := R.locals, cells := 3, slots := nb + 10 }) (Nat.le_refl _) (Nat.le_refl _) hRcells hRslots
  have hhp : ((T.setVm s.vm).setFrames (.invoking m args :: below)).heap = H := hT
  have hW0 : s.WarmedH ((T.setVm s.vm).setFrames (.invoking m args :: below)).vm := State.WarmedH.refl s
  have hat' : ∀ w ∈ vx_atM cls names, w.before args ((T.setVm s.vm).setFrames (.invoking m args :: below)) = true := fun w hw => vx_ot_at hW0 rfl (hgood w hw) (hat w hw)
  have hU' : vx_Zq Bundle.tN "UNASSIGNED_STACK" Bundle.steD A ((T.setVm s.vm).setFrames (.invoking m args :: below)) ((T.setVm s.vm).setFrames (.invoking m args :: below)).heap := by rw [hhp]; exact vx_Zq.moved hW0.alike (hU.kept hS.2.1)
  have hN' : vx_Zq Bundle.tN "SUPPRESSED_SENTINEL" Bundle.listD A ((T.setVm s.vm).setFrames (.invoking m args :: below)) ((T.setVm s.vm).setFrames (.invoking m args :: below)).heap := by rw [hhp]; exact vx_Zq.moved hW0.alike (hN.kept hS.2.1)
  obtain ⟨S, q, ce, st, Z, hce, hcl', hv⟩ := vx_vmAt Y hexec htr (cls := cls) (names := names) (text := text) hcls hnames hsoe hoom (vx_own hat' (vx_isRefq hU'.1) (vx_isRefq hN'.1) hU'.2.word hN'.2.word) (fun x hx => nomatch hx) htext
    (by rw [Launch.admits_arrayLengthLimit X.admits]; omega) (by rw [Launch.admits_maxHeapBytes X.admits]; simp only [componentBytes]; omega)
    (g := F0 m pc ls rest) rfl hsize hRframes (by show 2 * 0 + (rest.map fun v => v.category).sum + 10240 ≤ R.locals; omega) hshort (by show 0 + 3 ≤ 3; omega) (by show 0 + (_ + 4 + 6) ≤ nb + 10; omega) hlocks
  obtain ⟨f1, f2⟩ := vx_frame Z.same
  have f1' : H.size ≤ S.heap.size := by rw [← hT]; exact f1
  have f2' : ∀ q : Nat, q < H.size → S.heap[q]? = H[q]? := fun q hq => by
    rw [← hT]
    exact f2 q (by rw [← hT] at hq; exact hq) (fun z hz => nomatch hz)
  have X5 := vx_back9 X Y Z
  have X6 : Stand p l e R s m args below meth c S locs (cells + 3) (slots + (nb + 10)) := { X5 with same := X5.same.mono (by omega) (by omega) }
  obtain ⟨t, a1, b1⟩ := k S.heap q ce f1' f2' ⟨Nat.le_trans hS.1 f1', fun q h1 h2 => (f2' q (Nat.lt_of_lt_of_le h1 hS.1)).trans (hS.2.1 q h1 h2), hS.2.2⟩ hce hv hcl' S rfl X6
  exact ⟨t, st t a1, b1⟩
/-- from the machine's note that NullPointerException is thrown here -/
def vx_NoteN (p : Program) (l : Launch) (e : Env) (R : Room) (s : State) (m : MethodId) (args : Array Value) (below : List Frame) (meth : Method) (c : Code) (H : Heap) (locs : List Loc) (cells slots : Nat) (Q : State → Prop) (g : JFrame) : Prop :=
  ∀ T : State, T.heap = H → Stand p l e R s m args below meth c T locs cells slots → ∃ t, Steps p.tables e below ((T.setTop g).pushFrame (.throwNew "java/lang/NullPointerException" none none)) t ∧ Q t
theorem vx_npe {pc : Nat} {ls : Array Slot} {rest : List Value} {Q : State → Prop} (hexec : p.tables.exec = Jvm.exec) (hl : l.stackTraces = false) {nb : Nat} {A : Nat → Prop}
    (hat : ∀ w ∈ vx_atN nb, w.before args s = true) (hgood : ∀ w ∈ vx_atN nb, vx_ot w = true)
    (hU : vx_Zq Bundle.tN "UNASSIGNED_STACK" Bundle.steD A s s.heap) (hN : vx_Zq Bundle.tN "SUPPRESSED_SENTINEL" Bundle.listD A s s.heap) (hS : va_S A s.heap H locs) (hsize : ls.size = c.maxLocals)
    (hRframes : 7 < R.frames) (hRlocals : (rest.map fun v => v.category).sum + 10240 ≤ R.locals) (hRcells : cells + 1 ≤ R.cells) (hRslots : slots + nb ≤ R.slots) (hlocks : meth.locks = false)
    (k : ∀ (H1 : Heap) (q9 : Addr) (ce : Cell), H.size ≤ H1.size → (∀ q : Nat, q < H.size → H1[q]? = H[q]?) → va_S A s.heap H1 locs → H1[q9]? = some ce → ce.vm = .none → s.vm.findClass "java/lang/NullPointerException" = some ce.cls → vx_W p l e R s m args below meth c H1 locs (cells + 1) (slots + nb) Q (F0 m pc ls rest) q9) :
    vx_NoteN p l e R s m args below meth c H locs cells slots Q (F0 m pc ls rest) := by
  intro T hT X
  have htr : e.platform.stackTraces = false := (show e.platform.stackTraces = l.stackTraces by rw [X.admits.platform]).trans hl
  have Y := vx_rebase X (R' := { frames := R.frames, locals := R.locals, cells := 1, slots := nb }) (Nat.le_refl _) (Nat.le_refl _) hRcells hRslots
  have hhp : ((T.setVm s.vm).setFrames (.invoking m args :: below)).heap = H := hT
  have hW0 : s.WarmedH ((T.setVm s.vm).setFrames (.invoking m args :: below)).vm := State.WarmedH.refl s
  have hat' : ∀ w ∈ vx_atN nb, w.before args ((T.setVm s.vm).setFrames (.invoking m args :: below)) = true := fun w hw => vx_ot_at hW0 rfl (hgood w hw) (hat w hw)
  have hU' : vx_Zq Bundle.tN "UNASSIGNED_STACK" Bundle.steD A ((T.setVm s.vm).setFrames (.invoking m args :: below)) ((T.setVm s.vm).setFrames (.invoking m args :: below)).heap := by rw [hhp]; exact vx_Zq.moved hW0.alike (hU.kept hS.2.1)
  have hN' : vx_Zq Bundle.tN "SUPPRESSED_SENTINEL" Bundle.listD A ((T.setVm s.vm).setFrames (.invoking m args :: below)) ((T.setVm s.vm).setFrames (.invoking m args :: below)).heap := by rw [hhp]; exact vx_Zq.moved hW0.alike (hN.kept hS.2.1)
  obtain ⟨S, q, ce, st, Z, hce, hcl', hv⟩ := vx_npeAt Y hexec htr (n := nb) (vx_own hat' (vx_isRefq hU'.1) (vx_isRefq hN'.1) hU'.2.word hN'.2.word) (fun x hx => nomatch hx)
    (g := F0 m pc ls rest) rfl hsize hRframes (by show 2 * 0 + (rest.map fun v => v.category).sum + 10240 ≤ R.locals; omega) (by show 0 + 1 ≤ 1; omega) (by show 0 + nb ≤ nb; omega) hlocks
  obtain ⟨f1, f2⟩ := vx_frame Z.same
  have f1' : H.size ≤ S.heap.size := by rw [← hT]; exact f1
  have f2' : ∀ q : Nat, q < H.size → S.heap[q]? = H[q]? := fun q hq => by
    rw [← hT]
    exact f2 q (by rw [← hT] at hq; exact hq) (fun z hz => nomatch hz)
  have X5 := vx_back9 X Y Z
  have X6 : Stand p l e R s m args below meth c S locs (cells + 1) (slots + nb) := { X5 with same := X5.same.mono (by omega) (by omega) }
  obtain ⟨t, a1, b1⟩ := k S.heap q ce f1' f2' ⟨Nat.le_trans hS.1 f1', fun q h1 h2 => (f2' q (Nat.lt_of_lt_of_le h1 hS.1)).trans (hS.2.1 q h1 h2), hS.2.2⟩ hce hv hcl' S rfl X6
  exact ⟨t, st t a1, b1⟩
variable {Q : State → Prop} {cc : ByteArray} {pc : Nat} {ls : Array Slot} {rest : List Value}
theorem vx_idivZ (hexec : p.tables.exec = Jvm.exec) (hb : c.code = cc) {a b : Int32} (h0 : b = 0) (d : decode cc pc = .ok (.idiv, 1)) (k : vx_Note p l e R s m args below meth c H locs cells slots Q (F0 m pc ls rest) "java/lang/ArithmeticException" "/ by zero") :
    W p l e R s m args below meth c H locs cells slots Q (F0 m pc ls (.int b :: .int a :: rest)) := by
  intro T hT X
  obtain ⟨t, st, q⟩ := k T hT X
  exact ⟨t, X.idivZero hexec (g := F0 m pc ls (.int b :: .int a :: rest)) rfl (a := a) (rest := rest) (by rw [h0]) (by rw [hb]; exact d) t st, q⟩
theorem vx_iremZ (hexec : p.tables.exec = Jvm.exec) (hb : c.code = cc) {a b : Int32} (h0 : b = 0) (d : decode cc pc = .ok (.irem, 1)) (k : vx_Note p l e R s m args below meth c H locs cells slots Q (F0 m pc ls rest) "java/lang/ArithmeticException" "/ by zero") :
    W p l e R s m args below meth c H locs cells slots Q (F0 m pc ls (.int b :: .int a :: rest)) := by
  intro T hT X
  obtain ⟨t, st, q⟩ := k T hT X
  exact ⟨t, X.iremZero hexec (g := F0 m pc ls (.int b :: .int a :: rest)) rfl (a := a) (rest := rest) (by rw [h0]) (by rw [hb]; exact d) t st, q⟩
theorem vx_ldivZ (hexec : p.tables.exec = Jvm.exec) (hb : c.code = cc) {a b : Int64} (h0 : b = 0) (d : decode cc pc = .ok (.ldiv, 1)) (k : vx_Note p l e R s m args below meth c H locs cells slots Q (F0 m pc ls rest) "java/lang/ArithmeticException" "/ by zero") :
    W p l e R s m args below meth c H locs cells slots Q (F0 m pc ls (.long b :: .long a :: rest)) := by
  intro T hT X
  obtain ⟨t, st, q⟩ := k T hT X
  exact ⟨t, X.ldivZero hexec (g := F0 m pc ls (.long b :: .long a :: rest)) rfl (a := a) (rest := rest) (by rw [h0]) (by rw [hb]; exact d) t st, q⟩
theorem vx_lremZ (hexec : p.tables.exec = Jvm.exec) (hb : c.code = cc) {a b : Int64} (h0 : b = 0) (d : decode cc pc = .ok (.lrem, 1)) (k : vx_Note p l e R s m args below meth c H locs cells slots Q (F0 m pc ls rest) "java/lang/ArithmeticException" "/ by zero") :
    W p l e R s m args below meth c H locs cells slots Q (F0 m pc ls (.long b :: .long a :: rest)) := by
  intro T hT X
  obtain ⟨t, st, q⟩ := k T hT X
  exact ⟨t, X.lremZero hexec (g := F0 m pc ls (.long b :: .long a :: rest)) rfl (a := a) (rest := rest) (by rw [h0]) (by rw [hb]; exact d) t st, q⟩
theorem vx_ialdZ {D : va_G} {cl : List vw_C} {ws : va_W} {tys : List (ClassId × FieldType)} {a : Nat} (hexec : p.tables.exec = Jvm.exec) (hb : c.code = cc) (hK : va_K D cl tys s) (hP : va_P D cl ws H) (q0 t0 : Nat) {cA : ClassId} {n : Nat} {f : Nat → Int32} (ha : ws[q0]? = some (a, .inl (cA, n, .inl f))) (ht : tys[t0]? = some (cA, .int)) {i : Int32} (hout : ¬ vp_in i n) (hdg : decode cc pc = .ok (.iaload, 1))
    (k : ∀ tx : String, tx = (toString "Index " ++ toString i ++ toString " out of bounds for length " ++ toString n : String) → vx_Note p l e R s m args below meth c H locs cells slots Q (F0 m pc ls rest) "java/lang/ArrayIndexOutOfBoundsException" tx) : W p l e R s m args below meth c H locs cells slots Q (F0 m pc ls (.int i :: .ref a :: rest)) := by
  intro T hT X
  obtain ⟨t, st, q⟩ := k _ rfl T hT X
  refine ⟨t, ?_, q⟩
  have h1 := X.ialoadOut hexec (by rw [hT]; exact hP q0 _ ha) ((hK.2 t0 _ ht).1 n (fun j => .int (f j))) (j := i) (by show (i < 0 ∨ (arrV _ _ _).slots.size ≤ _); rw [arrV_size]; exact Classical.byContradiction hout) (g := F0 m pc ls (.int i :: .ref a :: rest)) rfl (rest := rest) rfl (by rw [hb]; exact hdg) t
  simp only [arrV_size] at h1
  exact h1 st
theorem vx_iastZ {D : va_G} {cl : List vw_C} {ws : va_W} {tys : List (ClassId × FieldType)} {a : Nat} (hexec : p.tables.exec = Jvm.exec) (hb : c.code = cc) (hK : va_K D cl tys s) (hP : va_P D cl ws H) (q0 t0 : Nat) {cA : ClassId} {n : Nat} {f : Nat → Int32} (ha : ws[q0]? = some (a, .inl (cA, n, .inl f))) (ht : tys[t0]? = some (cA, .int)) {i : Int32} {x : Int32} (hout : ¬ vp_in i n) (hdg : decode cc pc = .ok (.iastore, 1))
    (k : ∀ tx : String, tx = (toString "Index " ++ toString i ++ toString " out of bounds for length " ++ toString n : String) → vx_Note p l e R s m args below meth c H locs cells slots Q (F0 m pc ls rest) "java/lang/ArrayIndexOutOfBoundsException" tx) : W p l e R s m args below meth c H locs cells slots Q (F0 m pc ls (.int x :: .int i :: .ref a :: rest)) := by
  intro T hT X
  obtain ⟨t, st, q⟩ := k _ rfl T hT X
  refine ⟨t, ?_, q⟩
  have h1 := X.iastoreOut hexec (by rw [hT]; exact hP q0 _ ha) ((hK.2 t0 _ ht).1 n (fun j => .int (f j))) (j := i) (by show (i < 0 ∨ (arrV _ _ _).slots.size ≤ _); rw [arrV_size]; exact Classical.byContradiction hout) (g := F0 m pc ls (.int x :: .int i :: .ref a :: rest)) rfl (rest := rest) rfl (by rw [hb]; exact hdg) t
  simp only [arrV_size] at h1
  exact h1 st
theorem vx_baldZ {D : va_G} {cl : List vw_C} {ws : va_W} {tys : List (ClassId × FieldType)} {a : Nat} (hexec : p.tables.exec = Jvm.exec) (hb : c.code = cc) (hK : va_K D cl tys s) (hP : va_P D cl ws H) (q0 t0 : Nat) {cA : ClassId} {n : Nat} {f : Nat → Int32} (ha : ws[q0]? = some (a, .inl (cA, n, .inl f))) (ht : tys[t0]? = some (cA, .byte)) {i : Int32} (hout : ¬ vp_in i n) (hdg : decode cc pc = .ok (.baload, 1))
    (k : ∀ tx : String, tx = (toString "Index " ++ toString i ++ toString " out of bounds for length " ++ toString n : String) → vx_Note p l e R s m args below meth c H locs cells slots Q (F0 m pc ls rest) "java/lang/ArrayIndexOutOfBoundsException" tx) : W p l e R s m args below meth c H locs cells slots Q (F0 m pc ls (.int i :: .ref a :: rest)) := by
  intro T hT X
  obtain ⟨t, st, q⟩ := k _ rfl T hT X
  refine ⟨t, ?_, q⟩
  have h1 := X.baloadOut hexec (by rw [hT]; exact hP q0 _ ha) ((hK.2 t0 _ ht).1 n (fun j => .int (f j))) (j := i) (by show (i < 0 ∨ (arrV _ _ _).slots.size ≤ _); rw [arrV_size]; exact Classical.byContradiction hout) (g := F0 m pc ls (.int i :: .ref a :: rest)) rfl (rest := rest) rfl (by rw [hb]; exact hdg) t
  simp only [arrV_size] at h1
  exact h1 st
theorem vx_bastZ {D : va_G} {cl : List vw_C} {ws : va_W} {tys : List (ClassId × FieldType)} {a : Nat} (hexec : p.tables.exec = Jvm.exec) (hb : c.code = cc) (hK : va_K D cl tys s) (hP : va_P D cl ws H) (q0 t0 : Nat) {cA : ClassId} {n : Nat} {f : Nat → Int32} (ha : ws[q0]? = some (a, .inl (cA, n, .inl f))) (ht : tys[t0]? = some (cA, .byte)) {i : Int32} {x : Int32} (hout : ¬ vp_in i n) (hdg : decode cc pc = .ok (.bastore, 1))
    (k : ∀ tx : String, tx = (toString "Index " ++ toString i ++ toString " out of bounds for length " ++ toString n : String) → vx_Note p l e R s m args below meth c H locs cells slots Q (F0 m pc ls rest) "java/lang/ArrayIndexOutOfBoundsException" tx) : W p l e R s m args below meth c H locs cells slots Q (F0 m pc ls (.int x :: .int i :: .ref a :: rest)) := by
  intro T hT X
  obtain ⟨t, st, q⟩ := k _ rfl T hT X
  refine ⟨t, ?_, q⟩
  have h1 := X.bastoreOut hexec (by rw [hT]; exact hP q0 _ ha) ((hK.2 t0 _ ht).1 n (fun j => .int (f j))) (j := i) (by show (i < 0 ∨ (arrV _ _ _).slots.size ≤ _); rw [arrV_size]; exact Classical.byContradiction hout) (g := F0 m pc ls (.int x :: .int i :: .ref a :: rest)) rfl (rest := rest) rfl (by rw [hb]; exact hdg) t
  simp only [arrV_size] at h1
  exact h1 st
theorem vx_zaldZ {D : va_G} {cl : List vw_C} {ws : va_W} {tys : List (ClassId × FieldType)} {a : Nat} (hexec : p.tables.exec = Jvm.exec) (hb : c.code = cc) (hK : va_K D cl tys s) (hP : va_P D cl ws H) (q0 t0 : Nat) {cA : ClassId} {n : Nat} {f : Nat → Int32} (ha : ws[q0]? = some (a, .inl (cA, n, .inl f))) (ht : tys[t0]? = some (cA, .boolean)) {i : Int32} (hout : ¬ vp_in i n) (hdg : decode cc pc = .ok (.baload, 1))
    (k : ∀ tx : String, tx = (toString "Index " ++ toString i ++ toString " out of bounds for length " ++ toString n : String) → vx_Note p l e R s m args below meth c H locs cells slots Q (F0 m pc ls rest) "java/lang/ArrayIndexOutOfBoundsException" tx) : W p l e R s m args below meth c H locs cells slots Q (F0 m pc ls (.int i :: .ref a :: rest)) := by
  intro T hT X
  obtain ⟨t, st, q⟩ := k _ rfl T hT X
  refine ⟨t, ?_, q⟩
  have h1 := X.baloadOut hexec (by rw [hT]; exact hP q0 _ ha) ((hK.2 t0 _ ht).1 n (fun j => .int (f j))) (j := i) (by show (i < 0 ∨ (arrV _ _ _).slots.size ≤ _); rw [arrV_size]; exact Classical.byContradiction hout) (g := F0 m pc ls (.int i :: .ref a :: rest)) rfl (rest := rest) rfl (by rw [hb]; exact hdg) t
  simp only [arrV_size] at h1
  exact h1 st
theorem vx_zastZ {D : va_G} {cl : List vw_C} {ws : va_W} {tys : List (ClassId × FieldType)} {a : Nat} (hexec : p.tables.exec = Jvm.exec) (hb : c.code = cc) (hK : va_K D cl tys s) (hP : va_P D cl ws H) (q0 t0 : Nat) {cA : ClassId} {n : Nat} {f : Nat → Int32} (ha : ws[q0]? = some (a, .inl (cA, n, .inl f))) (ht : tys[t0]? = some (cA, .boolean)) {i : Int32} {x : Int32} (hout : ¬ vp_in i n) (hdg : decode cc pc = .ok (.bastore, 1))
    (k : ∀ tx : String, tx = (toString "Index " ++ toString i ++ toString " out of bounds for length " ++ toString n : String) → vx_Note p l e R s m args below meth c H locs cells slots Q (F0 m pc ls rest) "java/lang/ArrayIndexOutOfBoundsException" tx) : W p l e R s m args below meth c H locs cells slots Q (F0 m pc ls (.int x :: .int i :: .ref a :: rest)) := by
  intro T hT X
  obtain ⟨t, st, q⟩ := k _ rfl T hT X
  refine ⟨t, ?_, q⟩
  have h1 := X.bastoreOut hexec (by rw [hT]; exact hP q0 _ ha) ((hK.2 t0 _ ht).1 n (fun j => .int (f j))) (j := i) (by show (i < 0 ∨ (arrV _ _ _).slots.size ≤ _); rw [arrV_size]; exact Classical.byContradiction hout) (g := F0 m pc ls (.int x :: .int i :: .ref a :: rest)) rfl (rest := rest) rfl (by rw [hb]; exact hdg) t
  simp only [arrV_size] at h1
  exact h1 st
theorem vx_caldZ {D : va_G} {cl : List vw_C} {ws : va_W} {tys : List (ClassId × FieldType)} {a : Nat} (hexec : p.tables.exec = Jvm.exec) (hb : c.code = cc) (hK : va_K D cl tys s) (hP : va_P D cl ws H) (q0 t0 : Nat) {cA : ClassId} {n : Nat} {f : Nat → Int32} (ha : ws[q0]? = some (a, .inl (cA, n, .inl f))) (ht : tys[t0]? = some (cA, .char)) {i : Int32} (hout : ¬ vp_in i n) (hdg : decode cc pc = .ok (.caload, 1))
    (k : ∀ tx : String, tx = (toString "Index " ++ toString i ++ toString " out of bounds for length " ++ toString n : String) → vx_Note p l e R s m args below meth c H locs cells slots Q (F0 m pc ls rest) "java/lang/ArrayIndexOutOfBoundsException" tx) : W p l e R s m args below meth c H locs cells slots Q (F0 m pc ls (.int i :: .ref a :: rest)) := by
  intro T hT X
  obtain ⟨t, st, q⟩ := k _ rfl T hT X
  refine ⟨t, ?_, q⟩
  have h1 := X.caloadOut hexec (by rw [hT]; exact hP q0 _ ha) ((hK.2 t0 _ ht).1 n (fun j => .int (f j))) (j := i) (by show (i < 0 ∨ (arrV _ _ _).slots.size ≤ _); rw [arrV_size]; exact Classical.byContradiction hout) (g := F0 m pc ls (.int i :: .ref a :: rest)) rfl (rest := rest) rfl (by rw [hb]; exact hdg) t
  simp only [arrV_size] at h1
  exact h1 st
theorem vx_castZ {D : va_G} {cl : List vw_C} {ws : va_W} {tys : List (ClassId × FieldType)} {a : Nat} (hexec : p.tables.exec = Jvm.exec) (hb : c.code = cc) (hK : va_K D cl tys s) (hP : va_P D cl ws H) (q0 t0 : Nat) {cA : ClassId} {n : Nat} {f : Nat → Int32} (ha : ws[q0]? = some (a, .inl (cA, n, .inl f))) (ht : tys[t0]? = some (cA, .char)) {i : Int32} {x : Int32} (hout : ¬ vp_in i n) (hdg : decode cc pc = .ok (.castore, 1))
    (k : ∀ tx : String, tx = (toString "Index " ++ toString i ++ toString " out of bounds for length " ++ toString n : String) → vx_Note p l e R s m args below meth c H locs cells slots Q (F0 m pc ls rest) "java/lang/ArrayIndexOutOfBoundsException" tx) : W p l e R s m args below meth c H locs cells slots Q (F0 m pc ls (.int x :: .int i :: .ref a :: rest)) := by
  intro T hT X
  obtain ⟨t, st, q⟩ := k _ rfl T hT X
  refine ⟨t, ?_, q⟩
  have h1 := X.castoreOut hexec (by rw [hT]; exact hP q0 _ ha) ((hK.2 t0 _ ht).1 n (fun j => .int (f j))) (j := i) (by show (i < 0 ∨ (arrV _ _ _).slots.size ≤ _); rw [arrV_size]; exact Classical.byContradiction hout) (g := F0 m pc ls (.int x :: .int i :: .ref a :: rest)) rfl (rest := rest) rfl (by rw [hb]; exact hdg) t
  simp only [arrV_size] at h1
  exact h1 st
theorem vx_saldZ {D : va_G} {cl : List vw_C} {ws : va_W} {tys : List (ClassId × FieldType)} {a : Nat} (hexec : p.tables.exec = Jvm.exec) (hb : c.code = cc) (hK : va_K D cl tys s) (hP : va_P D cl ws H) (q0 t0 : Nat) {cA : ClassId} {n : Nat} {f : Nat → Int32} (ha : ws[q0]? = some (a, .inl (cA, n, .inl f))) (ht : tys[t0]? = some (cA, .short)) {i : Int32} (hout : ¬ vp_in i n) (hdg : decode cc pc = .ok (.saload, 1))
    (k : ∀ tx : String, tx = (toString "Index " ++ toString i ++ toString " out of bounds for length " ++ toString n : String) → vx_Note p l e R s m args below meth c H locs cells slots Q (F0 m pc ls rest) "java/lang/ArrayIndexOutOfBoundsException" tx) : W p l e R s m args below meth c H locs cells slots Q (F0 m pc ls (.int i :: .ref a :: rest)) := by
  intro T hT X
  obtain ⟨t, st, q⟩ := k _ rfl T hT X
  refine ⟨t, ?_, q⟩
  have h1 := X.saloadOut hexec (by rw [hT]; exact hP q0 _ ha) ((hK.2 t0 _ ht).1 n (fun j => .int (f j))) (j := i) (by show (i < 0 ∨ (arrV _ _ _).slots.size ≤ _); rw [arrV_size]; exact Classical.byContradiction hout) (g := F0 m pc ls (.int i :: .ref a :: rest)) rfl (rest := rest) rfl (by rw [hb]; exact hdg) t
  simp only [arrV_size] at h1
  exact h1 st
theorem vx_sastZ {D : va_G} {cl : List vw_C} {ws : va_W} {tys : List (ClassId × FieldType)} {a : Nat} (hexec : p.tables.exec = Jvm.exec) (hb : c.code = cc) (hK : va_K D cl tys s) (hP : va_P D cl ws H) (q0 t0 : Nat) {cA : ClassId} {n : Nat} {f : Nat → Int32} (ha : ws[q0]? = some (a, .inl (cA, n, .inl f))) (ht : tys[t0]? = some (cA, .short)) {i : Int32} {x : Int32} (hout : ¬ vp_in i n) (hdg : decode cc pc = .ok (.sastore, 1))
    (k : ∀ tx : String, tx = (toString "Index " ++ toString i ++ toString " out of bounds for length " ++ toString n : String) → vx_Note p l e R s m args below meth c H locs cells slots Q (F0 m pc ls rest) "java/lang/ArrayIndexOutOfBoundsException" tx) : W p l e R s m args below meth c H locs cells slots Q (F0 m pc ls (.int x :: .int i :: .ref a :: rest)) := by
  intro T hT X
  obtain ⟨t, st, q⟩ := k _ rfl T hT X
  refine ⟨t, ?_, q⟩
  have h1 := X.sastoreOut hexec (by rw [hT]; exact hP q0 _ ha) ((hK.2 t0 _ ht).1 n (fun j => .int (f j))) (j := i) (by show (i < 0 ∨ (arrV _ _ _).slots.size ≤ _); rw [arrV_size]; exact Classical.byContradiction hout) (g := F0 m pc ls (.int x :: .int i :: .ref a :: rest)) rfl (rest := rest) rfl (by rw [hb]; exact hdg) t
  simp only [arrV_size] at h1
  exact h1 st
theorem vx_laldZ {D : va_G} {cl : List vw_C} {ws : va_W} {tys : List (ClassId × FieldType)} {a : Nat} (hexec : p.tables.exec = Jvm.exec) (hb : c.code = cc) (hK : va_K D cl tys s) (hP : va_P D cl ws H) (q0 t0 : Nat) {cA : ClassId} {n : Nat} {f : Nat → Int64} (ha : ws[q0]? = some (a, .inl (cA, n, .inr (.inl f)))) (ht : tys[t0]? = some (cA, .long)) {i : Int32} (hout : ¬ vp_in i n) (hdg : decode cc pc = .ok (.laload, 1))
    (k : ∀ tx : String, tx = (toString "Index " ++ toString i ++ toString " out of bounds for length " ++ toString n : String) → vx_Note p l e R s m args below meth c H locs cells slots Q (F0 m pc ls rest) "java/lang/ArrayIndexOutOfBoundsException" tx) : W p l e R s m args below meth c H locs cells slots Q (F0 m pc ls (.int i :: .ref a :: rest)) := by
  intro T hT X
  obtain ⟨t, st, q⟩ := k _ rfl T hT X
  refine ⟨t, ?_, q⟩
  have h1 := X.laloadOut hexec (by rw [hT]; exact hP q0 _ ha) ((hK.2 t0 _ ht).1 n (fun j => .long (f j))) (j := i) (by show (i < 0 ∨ (arrV _ _ _).slots.size ≤ _); rw [arrV_size]; exact Classical.byContradiction hout) (g := F0 m pc ls (.int i :: .ref a :: rest)) rfl (rest := rest) rfl (by rw [hb]; exact hdg) t
  simp only [arrV_size] at h1
  exact h1 st
theorem vx_lastZ {D : va_G} {cl : List vw_C} {ws : va_W} {tys : List (ClassId × FieldType)} {a : Nat} (hexec : p.tables.exec = Jvm.exec) (hb : c.code = cc) (hK : va_K D cl tys s) (hP : va_P D cl ws H) (q0 t0 : Nat) {cA : ClassId} {n : Nat} {f : Nat → Int64} (ha : ws[q0]? = some (a, .inl (cA, n, .inr (.inl f)))) (ht : tys[t0]? = some (cA, .long)) {i : Int32} {x : Int64} (hout : ¬ vp_in i n) (hdg : decode cc pc = .ok (.lastore, 1))
    (k : ∀ tx : String, tx = (toString "Index " ++ toString i ++ toString " out of bounds for length " ++ toString n : String) → vx_Note p l e R s m args below meth c H locs cells slots Q (F0 m pc ls rest) "java/lang/ArrayIndexOutOfBoundsException" tx) : W p l e R s m args below meth c H locs cells slots Q (F0 m pc ls (.long x :: .int i :: .ref a :: rest)) := by
  intro T hT X
  obtain ⟨t, st, q⟩ := k _ rfl T hT X
  refine ⟨t, ?_, q⟩
  have h1 := X.lastoreOut hexec (by rw [hT]; exact hP q0 _ ha) ((hK.2 t0 _ ht).1 n (fun j => .long (f j))) (j := i) (by show (i < 0 ∨ (arrV _ _ _).slots.size ≤ _); rw [arrV_size]; exact Classical.byContradiction hout) (g := F0 m pc ls (.long x :: .int i :: .ref a :: rest)) rfl (rest := rest) rfl (by rw [hb]; exact hdg) t
  simp only [arrV_size] at h1
  exact h1 st
theorem vx_faldZ {D : va_G} {cl : List vw_C} {ws : va_W} {tys : List (ClassId × FieldType)} {a : Nat} (hexec : p.tables.exec = Jvm.exec) (hb : c.code = cc) (hK : va_K D cl tys s) (hP : va_P D cl ws H) (q0 t0 : Nat) {cA : ClassId} {n : Nat} {f : Nat → UInt32} (ha : ws[q0]? = some (a, .inl (cA, n, .inr (.inr (.inl f))))) (ht : tys[t0]? = some (cA, .float)) {i : Int32} (hout : ¬ vp_in i n) (hdg : decode cc pc = .ok (.faload, 1))
    (k : ∀ tx : String, tx = (toString "Index " ++ toString i ++ toString " out of bounds for length " ++ toString n : String) → vx_Note p l e R s m args below meth c H locs cells slots Q (F0 m pc ls rest) "java/lang/ArrayIndexOutOfBoundsException" tx) : W p l e R s m args below meth c H locs cells slots Q (F0 m pc ls (.int i :: .ref a :: rest)) := by
  intro T hT X
  obtain ⟨t, st, q⟩ := k _ rfl T hT X
  refine ⟨t, ?_, q⟩
  have h1 := X.faloadOut hexec (by rw [hT]; exact hP q0 _ ha) ((hK.2 t0 _ ht).1 n (fun j => .float (f j))) (j := i) (by show (i < 0 ∨ (arrV _ _ _).slots.size ≤ _); rw [arrV_size]; exact Classical.byContradiction hout) (g := F0 m pc ls (.int i :: .ref a :: rest)) rfl (rest := rest) rfl (by rw [hb]; exact hdg) t
  simp only [arrV_size] at h1
  exact h1 st
theorem vx_fastZ {D : va_G} {cl : List vw_C} {ws : va_W} {tys : List (ClassId × FieldType)} {a : Nat} (hexec : p.tables.exec = Jvm.exec) (hb : c.code = cc) (hK : va_K D cl tys s) (hP : va_P D cl ws H) (q0 t0 : Nat) {cA : ClassId} {n : Nat} {f : Nat → UInt32} (ha : ws[q0]? = some (a, .inl (cA, n, .inr (.inr (.inl f))))) (ht : tys[t0]? = some (cA, .float)) {i : Int32} {x : UInt32} (hout : ¬ vp_in i n) (hdg : decode cc pc = .ok (.fastore, 1))
    (k : ∀ tx : String, tx = (toString "Index " ++ toString i ++ toString " out of bounds for length " ++ toString n : String) → vx_Note p l e R s m args below meth c H locs cells slots Q (F0 m pc ls rest) "java/lang/ArrayIndexOutOfBoundsException" tx) : W p l e R s m args below meth c H locs cells slots Q (F0 m pc ls (.float x :: .int i :: .ref a :: rest)) := by
  intro T hT X
  obtain ⟨t, st, q⟩ := k _ rfl T hT X
  refine ⟨t, ?_, q⟩
  have h1 := X.fastoreOut hexec (by rw [hT]; exact hP q0 _ ha) ((hK.2 t0 _ ht).1 n (fun j => .float (f j))) (j := i) (by show (i < 0 ∨ (arrV _ _ _).slots.size ≤ _); rw [arrV_size]; exact Classical.byContradiction hout) (g := F0 m pc ls (.float x :: .int i :: .ref a :: rest)) rfl (rest := rest) rfl (by rw [hb]; exact hdg) t
  simp only [arrV_size] at h1
  exact h1 st
theorem vx_daldZ {D : va_G} {cl : List vw_C} {ws : va_W} {tys : List (ClassId × FieldType)} {a : Nat} (hexec : p.tables.exec = Jvm.exec) (hb : c.code = cc) (hK : va_K D cl tys s) (hP : va_P D cl ws H) (q0 t0 : Nat) {cA : ClassId} {n : Nat} {f : Nat → UInt64} (ha : ws[q0]? = some (a, .inl (cA, n, .inr (.inr (.inr (.inl f)))))) (ht : tys[t0]? = some (cA, .double)) {i : Int32} (hout : ¬ vp_in i n) (hdg : decode cc pc = .ok (.daload, 1))
    (k : ∀ tx : String, tx = (toString "Index " ++ toString i ++ toString " out of bounds for length " ++ toString n : String) → vx_Note p l e R s m args below meth c H locs cells slots Q (F0 m pc ls rest) "java/lang/ArrayIndexOutOfBoundsException" tx) : W p l e R s m args below meth c H locs cells slots Q (F0 m pc ls (.int i :: .ref a :: rest)) := by
  intro T hT X
  obtain ⟨t, st, q⟩ := k _ rfl T hT X
  refine ⟨t, ?_, q⟩
  have h1 := X.daloadOut hexec (by rw [hT]; exact hP q0 _ ha) ((hK.2 t0 _ ht).1 n (fun j => .double (f j))) (j := i) (by show (i < 0 ∨ (arrV _ _ _).slots.size ≤ _); rw [arrV_size]; exact Classical.byContradiction hout) (g := F0 m pc ls (.int i :: .ref a :: rest)) rfl (rest := rest) rfl (by rw [hb]; exact hdg) t
  simp only [arrV_size] at h1
  exact h1 st
theorem vx_dastZ {D : va_G} {cl : List vw_C} {ws : va_W} {tys : List (ClassId × FieldType)} {a : Nat} (hexec : p.tables.exec = Jvm.exec) (hb : c.code = cc) (hK : va_K D cl tys s) (hP : va_P D cl ws H) (q0 t0 : Nat) {cA : ClassId} {n : Nat} {f : Nat → UInt64} (ha : ws[q0]? = some (a, .inl (cA, n, .inr (.inr (.inr (.inl f)))))) (ht : tys[t0]? = some (cA, .double)) {i : Int32} {x : UInt64} (hout : ¬ vp_in i n) (hdg : decode cc pc = .ok (.dastore, 1))
    (k : ∀ tx : String, tx = (toString "Index " ++ toString i ++ toString " out of bounds for length " ++ toString n : String) → vx_Note p l e R s m args below meth c H locs cells slots Q (F0 m pc ls rest) "java/lang/ArrayIndexOutOfBoundsException" tx) : W p l e R s m args below meth c H locs cells slots Q (F0 m pc ls (.double x :: .int i :: .ref a :: rest)) := by
  intro T hT X
  obtain ⟨t, st, q⟩ := k _ rfl T hT X
  refine ⟨t, ?_, q⟩
  have h1 := X.dastoreOut hexec (by rw [hT]; exact hP q0 _ ha) ((hK.2 t0 _ ht).1 n (fun j => .double (f j))) (j := i) (by show (i < 0 ∨ (arrV _ _ _).slots.size ≤ _); rw [arrV_size]; exact Classical.byContradiction hout) (g := F0 m pc ls (.double x :: .int i :: .ref a :: rest)) rfl (rest := rest) rfl (by rw [hb]; exact hdg) t
  simp only [arrV_size] at h1
  exact h1 st
theorem vx_arraylengthN (hexec : p.tables.exec = Jvm.exec) (hb : c.code = cc) (hdg : decode cc pc = .ok (.arraylength, 1)) (k : vx_NoteN p l e R s m args below meth c H locs cells slots Q (F0 m pc ls rest)) : W p l e R s m args below meth c H locs cells slots Q (F0 m pc ls (.null :: rest)) := by
  intro T hT X
  obtain ⟨t, st, q⟩ := k T hT X
  exact ⟨t, X.arraylengthNull hexec (g := F0 m pc ls (.null :: rest)) rfl (rest := rest) rfl (by rw [hb]; exact hdg) t st, q⟩
theorem vx_ialoadN (hexec : p.tables.exec = Jvm.exec) (hb : c.code = cc) {i : Int32} (hdg : decode cc pc = .ok (.iaload, 1)) (k : vx_NoteN p l e R s m args below meth c H locs cells slots Q (F0 m pc ls rest)) : W p l e R s m args below meth c H locs cells slots Q (F0 m pc ls (.int i :: .null :: rest)) := by
  intro T hT X
  obtain ⟨t, st, q⟩ := k T hT X
  exact ⟨t, X.ialoadNull hexec (g := F0 m pc ls (.int i :: .null :: rest)) rfl (rest := rest) rfl (by rw [hb]; exact hdg) t st, q⟩
theorem vx_laloadN (hexec : p.tables.exec = Jvm.exec) (hb : c.code = cc) {i : Int32} (hdg : decode cc pc = .ok (.laload, 1)) (k : vx_NoteN p l e R s m args below meth c H locs cells slots Q (F0 m pc ls rest)) : W p l e R s m args below meth c H locs cells slots Q (F0 m pc ls (.int i :: .null :: rest)) := by
  intro T hT X
  obtain ⟨t, st, q⟩ := k T hT X
  exact ⟨t, X.laloadNull hexec (g := F0 m pc ls (.int i :: .null :: rest)) rfl (rest := rest) rfl (by rw [hb]; exact hdg) t st, q⟩
theorem vx_faloadN (hexec : p.tables.exec = Jvm.exec) (hb : c.code = cc) {i : Int32} (hdg : decode cc pc = .ok (.faload, 1)) (k : vx_NoteN p l e R s m args below meth c H locs cells slots Q (F0 m pc ls rest)) : W p l e R s m args below meth c H locs cells slots Q (F0 m pc ls (.int i :: .null :: rest)) := by
  intro T hT X
  obtain ⟨t, st, q⟩ := k T hT X
  exact ⟨t, X.faloadNull hexec (g := F0 m pc ls (.int i :: .null :: rest)) rfl (rest := rest) rfl (by rw [hb]; exact hdg) t st, q⟩
theorem vx_daloadN (hexec : p.tables.exec = Jvm.exec) (hb : c.code = cc) {i : Int32} (hdg : decode cc pc = .ok (.daload, 1)) (k : vx_NoteN p l e R s m args below meth c H locs cells slots Q (F0 m pc ls rest)) : W p l e R s m args below meth c H locs cells slots Q (F0 m pc ls (.int i :: .null :: rest)) := by
  intro T hT X
  obtain ⟨t, st, q⟩ := k T hT X
  exact ⟨t, X.daloadNull hexec (g := F0 m pc ls (.int i :: .null :: rest)) rfl (rest := rest) rfl (by rw [hb]; exact hdg) t st, q⟩
theorem vx_aaloadN (hexec : p.tables.exec = Jvm.exec) (hb : c.code = cc) {i : Int32} (hdg : decode cc pc = .ok (.aaload, 1)) (k : vx_NoteN p l e R s m args below meth c H locs cells slots Q (F0 m pc ls rest)) : W p l e R s m args below meth c H locs cells slots Q (F0 m pc ls (.int i :: .null :: rest)) := by
  intro T hT X
  obtain ⟨t, st, q⟩ := k T hT X
  exact ⟨t, X.aaloadNull hexec (g := F0 m pc ls (.int i :: .null :: rest)) rfl (rest := rest) rfl (by rw [hb]; exact hdg) t st, q⟩
theorem vx_baloadN (hexec : p.tables.exec = Jvm.exec) (hb : c.code = cc) {i : Int32} (hdg : decode cc pc = .ok (.baload, 1)) (k : vx_NoteN p l e R s m args below meth c H locs cells slots Q (F0 m pc ls rest)) : W p l e R s m args below meth c H locs cells slots Q (F0 m pc ls (.int i :: .null :: rest)) := by
  intro T hT X
  obtain ⟨t, st, q⟩ := k T hT X
  exact ⟨t, X.baloadNull hexec (g := F0 m pc ls (.int i :: .null :: rest)) rfl (rest := rest) rfl (by rw [hb]; exact hdg) t st, q⟩
theorem vx_caloadN (hexec : p.tables.exec = Jvm.exec) (hb : c.code = cc) {i : Int32} (hdg : decode cc pc = .ok (.caload, 1)) (k : vx_NoteN p l e R s m args below meth c H locs cells slots Q (F0 m pc ls rest)) : W p l e R s m args below meth c H locs cells slots Q (F0 m pc ls (.int i :: .null :: rest)) := by
  intro T hT X
  obtain ⟨t, st, q⟩ := k T hT X
  exact ⟨t, X.caloadNull hexec (g := F0 m pc ls (.int i :: .null :: rest)) rfl (rest := rest) rfl (by rw [hb]; exact hdg) t st, q⟩
theorem vx_saloadN (hexec : p.tables.exec = Jvm.exec) (hb : c.code = cc) {i : Int32} (hdg : decode cc pc = .ok (.saload, 1)) (k : vx_NoteN p l e R s m args below meth c H locs cells slots Q (F0 m pc ls rest)) : W p l e R s m args below meth c H locs cells slots Q (F0 m pc ls (.int i :: .null :: rest)) := by
  intro T hT X
  obtain ⟨t, st, q⟩ := k T hT X
  exact ⟨t, X.saloadNull hexec (g := F0 m pc ls (.int i :: .null :: rest)) rfl (rest := rest) rfl (by rw [hb]; exact hdg) t st, q⟩
theorem vx_iastoreN (hexec : p.tables.exec = Jvm.exec) (hb : c.code = cc) {x : Int32} {i : Int32} (hdg : decode cc pc = .ok (.iastore, 1)) (k : vx_NoteN p l e R s m args below meth c H locs cells slots Q (F0 m pc ls rest)) : W p l e R s m args below meth c H locs cells slots Q (F0 m pc ls (.int x :: .int i :: .null :: rest)) := by
  intro T hT X
  obtain ⟨t, st, q⟩ := k T hT X
  exact ⟨t, X.iastoreNull hexec (g := F0 m pc ls (.int x :: .int i :: .null :: rest)) rfl (rest := rest) rfl (by rw [hb]; exact hdg) t st, q⟩
theorem vx_lastoreN (hexec : p.tables.exec = Jvm.exec) (hb : c.code = cc) {x : Int64} {i : Int32} (hdg : decode cc pc = .ok (.lastore, 1)) (k : vx_NoteN p l e R s m args below meth c H locs cells slots Q (F0 m pc ls rest)) : W p l e R s m args below meth c H locs cells slots Q (F0 m pc ls (.long x :: .int i :: .null :: rest)) := by
  intro T hT X
  obtain ⟨t, st, q⟩ := k T hT X
  exact ⟨t, X.lastoreNull hexec (g := F0 m pc ls (.long x :: .int i :: .null :: rest)) rfl (rest := rest) rfl (by rw [hb]; exact hdg) t st, q⟩
theorem vx_fastoreN (hexec : p.tables.exec = Jvm.exec) (hb : c.code = cc) {x : UInt32} {i : Int32} (hdg : decode cc pc = .ok (.fastore, 1)) (k : vx_NoteN p l e R s m args below meth c H locs cells slots Q (F0 m pc ls rest)) : W p l e R s m args below meth c H locs cells slots Q (F0 m pc ls (.float x :: .int i :: .null :: rest)) := by
  intro T hT X
  obtain ⟨t, st, q⟩ := k T hT X
  exact ⟨t, X.fastoreNull hexec (g := F0 m pc ls (.float x :: .int i :: .null :: rest)) rfl (rest := rest) rfl (by rw [hb]; exact hdg) t st, q⟩
theorem vx_dastoreN (hexec : p.tables.exec = Jvm.exec) (hb : c.code = cc) {x : UInt64} {i : Int32} (hdg : decode cc pc = .ok (.dastore, 1)) (k : vx_NoteN p l e R s m args below meth c H locs cells slots Q (F0 m pc ls rest)) : W p l e R s m args below meth c H locs cells slots Q (F0 m pc ls (.double x :: .int i :: .null :: rest)) := by
  intro T hT X
  obtain ⟨t, st, q⟩ := k T hT X
  exact ⟨t, X.dastoreNull hexec (g := F0 m pc ls (.double x :: .int i :: .null :: rest)) rfl (rest := rest) rfl (by rw [hb]; exact hdg) t st, q⟩
theorem vx_bastoreN (hexec : p.tables.exec = Jvm.exec) (hb : c.code = cc) {x : Int32} {i : Int32} (hdg : decode cc pc = .ok (.bastore, 1)) (k : vx_NoteN p l e R s m args below meth c H locs cells slots Q (F0 m pc ls rest)) : W p l e R s m args below meth c H locs cells slots Q (F0 m pc ls (.int x :: .int i :: .null :: rest)) := by
  intro T hT X
  obtain ⟨t, st, q⟩ := k T hT X
  exact ⟨t, X.bastoreNull hexec (g := F0 m pc ls (.int x :: .int i :: .null :: rest)) rfl (rest := rest) rfl (by rw [hb]; exact hdg) t st, q⟩
theorem vx_castoreN (hexec : p.tables.exec = Jvm.exec) (hb : c.code = cc) {x : Int32} {i : Int32} (hdg : decode cc pc = .ok (.castore, 1)) (k : vx_NoteN p l e R s m args below meth c H locs cells slots Q (F0 m pc ls rest)) : W p l e R s m args below meth c H locs cells slots Q (F0 m pc ls (.int x :: .int i :: .null :: rest)) := by
  intro T hT X
  obtain ⟨t, st, q⟩ := k T hT X
  exact ⟨t, X.castoreNull hexec (g := F0 m pc ls (.int x :: .int i :: .null :: rest)) rfl (rest := rest) rfl (by rw [hb]; exact hdg) t st, q⟩
theorem vx_sastoreN (hexec : p.tables.exec = Jvm.exec) (hb : c.code = cc) {x : Int32} {i : Int32} (hdg : decode cc pc = .ok (.sastore, 1)) (k : vx_NoteN p l e R s m args below meth c H locs cells slots Q (F0 m pc ls rest)) : W p l e R s m args below meth c H locs cells slots Q (F0 m pc ls (.int x :: .int i :: .null :: rest)) := by
  intro T hT X
  obtain ⟨t, st, q⟩ := k T hT X
  exact ⟨t, X.sastoreNull hexec (g := F0 m pc ls (.int x :: .int i :: .null :: rest)) rfl (rest := rest) rfl (by rw [hb]; exact hdg) t st, q⟩
theorem vx_invokeN {own C : String} {index maxL : Nat} {y : MethodName} {bytes : ByteArray} {ret : Option FieldType} (hexec : p.tables.exec = Jvm.exec) (hb : c.code = cc) (hown : s.vm.findClass own = some m.cls) (hlink : (Cond.methodLink own index y).before args s = true) (hinst : (Cond.instanceMethod y).before args s = true) (hcode : (Cond.code y bytes maxL ret).before args s = true) (hsel : (Cond.selects C y y).before args s = true)
    (hx : y.cls ≠ "java/lang/invoke/MethodHandle" ∧ y.cls ≠ "java/lang/invoke/VarHandle") {As : List Value} (hlen : (parseMethodDescriptor y.desc).map (fun d => d.parameters.length) = some As.length) (hdg : decode cc pc = .ok (.invokevirtual index, 3))
    (k : vx_NoteN p l e R s m args below meth c H locs cells slots Q (F0 m pc ls rest)) {st0 : List Value} (hst : st0 = As.reverse ++ .null :: rest) : W p l e R s m args below meth c H locs cells slots Q (F0 m pc ls st0) := by
  intro T hT X
  obtain ⟨r0, r, hn, hrm, hstR, hsigR⟩ := va_Decl.of hinst hcode
  obtain ⟨c2, r2, m2, q1, q2, q3, q4, kP, hkP, hkPi⟩ := Cond.selects_spec hsel
  cases hn.symm.trans q3
  have hl9 : As.length = r.sig.parameters.length := by
    rw [hsigR] at hlen
    exact (Option.some.inj hlen).symm
  obtain ⟨vm', X1, st1⟩ := X.invokevirtualNull hexec hown hlink hn hrm hstR hkP hkPi hx (g := F0 m pc ls st0) rfl (argsL := As) (rest := rest) hl9 hst (by rw [hb]; exact hdg)
  obtain ⟨t, st, q⟩ := k (T.setVm vm') hT X1
  exact ⟨t, st1 t st, q⟩
theorem vx_newarrayZ {atype : ArrayType} (hexec : p.tables.exec = Jvm.exec) (hb : c.code = cc) {n : Int32} (h0 : n < 0) (hdg : decode cc pc = .ok (.newarray atype, 2)) (k : ∀ tx : String, tx = toString n → vx_Note p l e R s m args below meth c H locs cells slots Q (F0 m pc ls rest) "java/lang/NegativeArraySizeException" tx) : W p l e R s m args below meth c H locs cells slots Q (F0 m pc ls (.int n :: rest)) := by
  intro T hT X
  obtain ⟨t, st, q⟩ := k _ rfl T hT X
  exact ⟨t, X.newarrayNegative hexec (g := F0 m pc ls (.int n :: rest)) rfl h0 (rest := rest) rfl (by rw [hb]; exact hdg) t st, q⟩
end
end VXM
/-! ===== END ===== -/
/-! ===== BEGIN an exception as an object: made, kept, thrown later (no traces kept) ===== -/
section VXK
variable {p : Program} {l : Launch} {e : Env} {R : Room} {s : State} {m₀ : MethodId} {args : Array Value} {below : List Frame} {meth : Method} {c : Code} {W : State} {locs : List Loc} {cells slots : Nat}
set_option maxHeartbeats 1000000 in
theorem vx_ctorMadeS (X : Stand p l e R s m₀ args below meth c W locs cells slots) (hexec : p.tables.exec = Jvm.exec) (htr : e.platform.stackTraces = false) {own cls : String} {names : List String} {ic : Nat}
    (hown : s.vm.findClass own = some m₀.cls) (hcls : Bundle.fit cls = true) (hnames : ∀ n ∈ names, Bundle.fit n = true)
    (h : ∀ a ∈ Bundle.ownAtoms own ic cls names, a.before args s = true)
    (hlocs : ∀ x ∈ locs, ∀ cell, s.heap[x.base]? = some cell → cell.vm.isStatics = false)
    {a : Addr} {cX : ClassId} {kX : Class} (hfoundX : s.vm.findClass cls = some cX) (hkX : s.vm.classes[cX]? = some kX) (hcell : W.heap[a]? = some (freshCell cX kX)) (hnew : s.heap.size ≤ a)
    {msg : Value} (hmsg : msg.isRef = true)
    {g : JFrame} (hg : g.method = m₀) (hsize : g.locals.size = c.maxLocals) {rest : List Value} (hstack : g.stack = msg :: .ref a :: .ref a :: rest)
    (hd6 : decode c.code g.pc = .ok (.invokespecial ic, 3))
    (hRframes : names.length + 3 < R.frames) (hRlocals : 2 * g.monitorRoom + ((Value.ref a :: rest).map fun v => v.category).sum + (13 * (names.length + 1) + 42) ≤ R.locals) :
    ∃ (V : State) (ce : Cell) (L : List Loc), Stand p l e R s m₀ args below meth c (V.setCell a ce) (locs ++ L) cells slots ∧ (∀ y ∈ L, y.base = a) ∧ a < V.heap.size ∧ ce.cls = cX ∧ ce.vm = .none ∧
      ∀ target, Steps p.tables e below ((V.setCell a ce).setTop { g with stack := .ref a :: rest, pc := g.pc + 3 }) target → Steps p.tables e below (W.setTop g) target := by
  have howns : e.platform.frameOwnsMonitors = true := by rw [X.admits.platform]
  have hfin : e.platform.finalization = false := by rw [X.admits.platform]
  have hpl : e.platform.magicAccessors = ({} : Platform).magicAccessors := by rw [X.admits.platform]
  have a' : ∀ x, x ∈ Bundle.ownAtoms own ic cls names → x.holds args s none s [] = true := fun x hx => h x hx
  obtain ⟨T, Z0, L, -, Y⟩ := ThrowableC.of_atoms (args := args) howns hfin hpl (fun x hx => h x (by simp [Bundle.ownAtoms, hx]))
  obtain ⟨Z, M, LZ, LM, hnZ⟩ := Init0T.ofS_atoms (args := args) hpl L Y (fun x hx => h x (by simp [Bundle.ownAtoms, hx]))
  obtain ⟨P1, Ps, hlen, L1, hL, hP1m, hlink1, hlink⟩ := Bundle.chainS (args := args) hpl hnZ names cls hcls hnames (fun x hx => h x (by simp [Bundle.ownAtoms, hx]))
  have hfound : s.vm.findClass cls = some P1.m.cls := findClass_of_methodNamed hP1m
  cases Option.some.inj (hfoundX.symm.trans hfound)
  obtain ⟨c1, kX', hc1, hk, hord, -, -, hn6⟩ := Cond.instantiable_spec (a' (.instantiable cls 6) (by simp [Bundle.ownAtoms]))
  cases Option.some.inj (hc1.symm.trans hfound)
  cases Option.some.inj (hkX.symm.trans hk)
  have hsel0 : selectMethod e.platform s.vm P1.m.cls T.fill0 = .method T.fill0 := by
    obtain ⟨c2, r2, m2, q1, q2, q3, q4, -⟩ := Cond.selects_spec (a' (.selects cls Bundle.tFill0 Bundle.tFill0) (by simp [Bundle.ownAtoms]))
    cases Option.some.inj (q1.symm.trans hfound)
    cases Option.some.inj (q2.symm.trans (State.methodFound?_of_named Y.fill0 (by decide)))
    cases Option.some.inj (q3.symm.trans Y.fill0)
    rw [Launch.admits_selectMethod X.admits]; exact q4
  have hselF : selectMethod e.platform s.vm P1.m.cls T.fill = .method T.fill := by
    obtain ⟨c2, r2, m2, q1, q2, q3, q4, -⟩ := Cond.selects_spec (a' (.selects cls Bundle.tFill Bundle.tFill) (by simp [Bundle.ownAtoms]))
    cases Option.some.inj (q1.symm.trans hfound)
    cases Option.some.inj (q2.symm.trans (State.methodFound?_of_named Y.fill (by decide)))
    cases Option.some.inj (q3.symm.trans Y.fill)
    rw [Launch.admits_selectMethod X.admits]; exact q4
  obtain ⟨cellS0, hcS0, hiss⟩ := Y.statics
  obtain ⟨u0, hu0⟩ := Cond.staticRefV Y.unassigned L.unassignedStatic L.statics hcS0 hiss (a' (.isRef (.static Bundle.tN "UNASSIGNED_STACK" Bundle.steD)) (by simp [Bundle.ownAtoms]))
  obtain ⟨sen, hsen⟩ := Cond.staticRefV Y.sentinel L.sentinelStatic L.statics hcS0 hiss (a' (.isRef (.static Bundle.tN "SUPPRESSED_SENTINEL" Bundle.listD)) (by simp [Bundle.ownAtoms]))
  obtain ⟨ci198, i198, fB, hk198, hg198, ha198, hsB, -, hnB, htB, hffB⟩ := Cond.ownField (t := .object "java/lang/Object") Y.found L.cls (by decide +kernel) (a' (.fieldLink Bundle.tN 198 Bundle.tN "backtrace" "Ljava/lang/Object;") (by simp [Bundle.ownAtoms])) (a' (.lays Bundle.tN Bundle.tN "backtrace" "Ljava/lang/Object;") (by simp [Bundle.ownAtoms])) e.platform hpl
  obtain ⟨cellS, hcS', heS, -, hkeep⟩ := X.same.2.2.2.2.2 T.aS cellS0 hcS0
  have hcellS : W.heap[T.aS]? = some cellS := hcS'
  have hout' : ∀ i, (⟨T.aS, i⟩ : Loc) ∉ locs := fun i hmem => by
    have := hlocs _ hmem cellS0 hcS0
    rw [hiss] at this; cases this
  have hknownS : cellS.vm ≠ .unknown := by
    rw [heS]; intro hu
    rw [show cellS0.vm = .unknown from hu] at hiss
    cases hiss
  have hneS : T.aS ≠ a := Nat.ne_of_lt (Nat.lt_of_lt_of_le (Array.getElem?_eq_some_iff.mp hcS0).1 hnew)
  obtain ⟨iM, hffM⟩ := Y.msg
  obtain ⟨tyC, dC, hdC, hdnC⟩ := Cond.laysAt hfound hk Y.cause (a' (.lays cls Bundle.tN "cause" "Ljava/lang/Throwable;") (by simp [Bundle.ownAtoms]))
  obtain ⟨tyS, dS, hdS, hdnS⟩ := Cond.laysAt hfound hk Y.stack (a' (.lays cls Bundle.tN "stackTrace" Bundle.steD) (by simp [Bundle.ownAtoms]))
  obtain ⟨tyP, dP, hdP, hdnP⟩ := Cond.laysAt hfound hk Y.supp (a' (.lays cls Bundle.tN "suppressedExceptions" Bundle.listD) (by simp [Bundle.ownAtoms]))
  obtain ⟨tyM, dM, hdM, hdnM⟩ := Cond.laysAt hfound hk hffM (a' (.lays cls Bundle.tN "detailMessage" "Ljava/lang/String;") (by simp [Bundle.ownAtoms]))
  obtain ⟨tyB, dB, hdB, hdnB⟩ := Cond.laysAt hfound hk hffB (a' (.lays cls Bundle.tN "backtrace" "Ljava/lang/Object;") (by simp [Bundle.ownAtoms]))
  have bC := Cond.laysApart hdB hdC hdnB hdnC (by rw [hnB, Y.causeName]; decide)
  have bS := Cond.laysApart hdB hdS hdnB hdnS (by rw [hnB, Y.stackName]; decide)
  have bP := Cond.laysApart hdB hdP hdnB hdnP (by rw [hnB, Y.suppName]; decide)
  have hskip : SkipFacts T e.platform s (fun u => u) u0 ((preparedCellV T.toThrowableT (freshCell P1.m.cls kX) a u0 sen).withEntry W.cur) :=
    ⟨{ ci198 := ci198, i198 := i198, fBack := fB }, ⟨hk198, hg198, ha198, hsB⟩, by
      have := fresh_default (c := P1.m.cls) tyB
      rw [htB] at this
      simpa [preparedCellV, Cell.setSlot, Cell.withEntry, Array.getElem?_setIfInBounds, bC, bS, bP, bC.symm, bS.symm, bP.symm, defaultValue] using this, fun _ _ => rfl⟩
  obtain ⟨tm, methC, cdC, kC, vm₁, hnC, -, -, -, -, -, -, -, hW₁, st1⟩ := Steps.initColdS (tb := p.tables) (e := e) (below := below) (s := s) (U := W) X.here hexec X.warmed hpl hown (t := Bundle.initS cls) rfl rfl (Bundle.fit_spec hcls).2
    (a' (.methodLink own ic (Bundle.initS cls)) (by simp [Bundle.ownAtoms])) (h (.instanceMethod (Bundle.initS cls)) (by cases names <;> simp [Bundle.ownAtoms, Bundle.chainSAtoms, Bundle.passSAtoms])) (bytes := Bundle.six) (maxL := 2) (h (.code (Bundle.initS cls) Bundle.six 2 none) (by cases names <;> simp [Bundle.ownAtoms, Bundle.chainSAtoms, Bundle.passSAtoms]))
    (f := g) hg (a := a) (msg := msg) (rest := .ref a :: rest) hstack hd6
  cases Option.some.inj (hnC.symm.trans hP1m)
  have X₁ := X.noted hW₁
  obtain ⟨vm₂, X₂, st2⟩ := X₁.ctorMessageOffV hexec (g := { g with stack := .ref a :: rest }) hg hsize T L Z LZ M LM (P1 :: Ps)
    (fun P hP => by rcases List.mem_cons.mp hP with rfl | hP; exact L1; exact hL P hP) ⟨hlink1, hlink⟩ (u0 := u0) (sen := sen) (self := a) hmsg (cell := freshCell P1.m.cls kX) (cellS := cellS)
    hcell (fun _ => by simp) (by simp) rfl rfl hsel0 hselF hcellS hneS hknownS (by rw [hkeep _ (hout' _)]; exact hu0) (by rw [hkeep _ (hout' _)]; exact hsen)
    (Takes.of_laid hk hord tyC (by rw [Y.causeType]; rfl)) (Takes.of_laid hk hord tyS (by rw [Y.stackType]; exact fits_refV_array _ u0)) (Takes.of_laid hk hord tyP (by rw [Y.suppType]; exact fits_refV_object _ sen))
    (Takes.of_laid hk hord tyM (by rw [Y.msgType]; exact fits_refV_object _ ⟨msg, hmsg⟩)) Y.objLocals hskip htr [] hd6
    (by simp only [List.length_cons, hlen]; omega) (by simp only [List.length_cons, hlen]; exact hRlocals)
  have hlt : a < ((W.setVm vm₁).setVm vm₂).heap.size := (Array.getElem?_eq_some_iff.mp hcell).1
  refine ⟨(W.setVm vm₁).setVm vm₂, _, _, X₂, fun y hy => ?_, hlt, rfl, rfl, fun target hwalk => st1 _ (fun acts => ?_)⟩
  · simp only [List.mem_cons, List.not_mem_nil, or_false] at hy
    rcases hy with rfl | rfl | rfl | rfl | rfl <;> rfl
  · rw [doInvoke_state]
    exact st2 _ hwalk
set_option maxHeartbeats 1000000 in
theorem vx_ctorMade0 (X : Stand p l e R s m₀ args below meth c W locs cells slots) (hexec : p.tables.exec = Jvm.exec) (htr : e.platform.stackTraces = false) {own cls : String} {names : List String} {ic : Nat}
    (hown : s.vm.findClass own = some m₀.cls) (hcls : Bundle.fit cls = true) (hnames : ∀ n ∈ names, Bundle.fit n = true)
    (h : ∀ a ∈ Bundle.ownAtoms0 own ic cls names, a.before args s = true)
    (hlocs : ∀ x ∈ locs, ∀ cell, s.heap[x.base]? = some cell → cell.vm.isStatics = false)
    {a : Addr} {cX : ClassId} {kX : Class} (hfoundX : s.vm.findClass cls = some cX) (hkX : s.vm.classes[cX]? = some kX) (hcell : W.heap[a]? = some (freshCell cX kX)) (hnew : s.heap.size ≤ a)
    {g : JFrame} (hg : g.method = m₀) (hsize : g.locals.size = c.maxLocals) {rest : List Value} (hstack : g.stack = .ref a :: .ref a :: rest)
    (hd6 : decode c.code g.pc = .ok (.invokespecial ic, 3))
    (hRframes : names.length + 3 < R.frames) (hRlocals : 2 * g.monitorRoom + ((Value.ref a :: rest).map fun v => v.category).sum + (13 * (names.length + 1) + 41) ≤ R.locals) :
    ∃ (V : State) (ce : Cell) (L : List Loc), Stand p l e R s m₀ args below meth c (V.setCell a ce) (locs ++ L) cells slots ∧ (∀ y ∈ L, y.base = a) ∧ a < V.heap.size ∧ ce.cls = cX ∧ ce.vm = .none ∧
      ∀ target, Steps p.tables e below ((V.setCell a ce).setTop { g with stack := .ref a :: rest, pc := g.pc + 3 }) target → Steps p.tables e below (W.setTop g) target := by
  have howns : e.platform.frameOwnsMonitors = true := by rw [X.admits.platform]
  have hfin : e.platform.finalization = false := by rw [X.admits.platform]
  have hpl : e.platform.magicAccessors = ({} : Platform).magicAccessors := by rw [X.admits.platform]
  have a' : ∀ x, x ∈ Bundle.ownAtoms0 own ic cls names → x.holds args s none s [] = true := fun x hx => h x hx
  obtain ⟨T, Z, L, LZ, Y⟩ := ThrowableC.of_atoms (args := args) howns hfin hpl (fun x hx => h x (by simp [Bundle.ownAtoms0, hx]))
  obtain ⟨P1, Ps, hlen, L1, hL, hP1m, hlink1, hlink⟩ := Bundle.chain0 (args := args) hpl Y.init0 names cls hcls hnames (fun x hx => h x (by simp [Bundle.ownAtoms0, hx]))
  have hfound : s.vm.findClass cls = some P1.m.cls := findClass_of_methodNamed hP1m
  cases Option.some.inj (hfoundX.symm.trans hfound)
  obtain ⟨c1, kX', hc1, hk, hord, -, -, hn6⟩ := Cond.instantiable_spec (a' (.instantiable cls 6) (by simp [Bundle.ownAtoms0]))
  cases Option.some.inj (hc1.symm.trans hfound)
  cases Option.some.inj (hkX.symm.trans hk)
  have hsel0 : selectMethod e.platform s.vm P1.m.cls T.fill0 = .method T.fill0 := by
    obtain ⟨c2, r2, m2, q1, q2, q3, q4, -⟩ := Cond.selects_spec (a' (.selects cls Bundle.tFill0 Bundle.tFill0) (by simp [Bundle.ownAtoms0]))
    cases Option.some.inj (q1.symm.trans hfound)
    cases Option.some.inj (q2.symm.trans (State.methodFound?_of_named Y.fill0 (by decide)))
    cases Option.some.inj (q3.symm.trans Y.fill0)
    rw [Launch.admits_selectMethod X.admits]; exact q4
  have hselF : selectMethod e.platform s.vm P1.m.cls T.fill = .method T.fill := by
    obtain ⟨c2, r2, m2, q1, q2, q3, q4, -⟩ := Cond.selects_spec (a' (.selects cls Bundle.tFill Bundle.tFill) (by simp [Bundle.ownAtoms0]))
    cases Option.some.inj (q1.symm.trans hfound)
    cases Option.some.inj (q2.symm.trans (State.methodFound?_of_named Y.fill (by decide)))
    cases Option.some.inj (q3.symm.trans Y.fill)
    rw [Launch.admits_selectMethod X.admits]; exact q4
  obtain ⟨cellS0, hcS0, hiss⟩ := Y.statics
  obtain ⟨u0, hu0⟩ := Cond.staticRefV Y.unassigned L.unassignedStatic L.statics hcS0 hiss (a' (.isRef (.static Bundle.tN "UNASSIGNED_STACK" Bundle.steD)) (by simp [Bundle.ownAtoms0]))
  obtain ⟨sen, hsen⟩ := Cond.staticRefV Y.sentinel L.sentinelStatic L.statics hcS0 hiss (a' (.isRef (.static Bundle.tN "SUPPRESSED_SENTINEL" Bundle.listD)) (by simp [Bundle.ownAtoms0]))
  obtain ⟨ci198, i198, fB, hk198, hg198, ha198, hsB, -, hnB, htB, hffB⟩ := Cond.ownField (t := .object "java/lang/Object") Y.found L.cls (by decide +kernel) (a' (.fieldLink Bundle.tN 198 Bundle.tN "backtrace" "Ljava/lang/Object;") (by simp [Bundle.ownAtoms0])) (a' (.lays Bundle.tN Bundle.tN "backtrace" "Ljava/lang/Object;") (by simp [Bundle.ownAtoms0])) e.platform hpl
  obtain ⟨cellS, hcS', heS, -, hkeep⟩ := X.same.2.2.2.2.2 T.aS cellS0 hcS0
  have hcellS : W.heap[T.aS]? = some cellS := hcS'
  have hout' : ∀ i, (⟨T.aS, i⟩ : Loc) ∉ locs := fun i hmem => by
    have := hlocs _ hmem cellS0 hcS0
    rw [hiss] at this; cases this
  have hknownS : cellS.vm ≠ .unknown := by
    rw [heS]; intro hu
    rw [show cellS0.vm = .unknown from hu] at hiss
    cases hiss
  have hneS : T.aS ≠ a := Nat.ne_of_lt (Nat.lt_of_lt_of_le (Array.getElem?_eq_some_iff.mp hcS0).1 hnew)
  obtain ⟨iM, hffM⟩ := Y.msg
  obtain ⟨tyC, dC, hdC, hdnC⟩ := Cond.laysAt hfound hk Y.cause (a' (.lays cls Bundle.tN "cause" "Ljava/lang/Throwable;") (by simp [Bundle.ownAtoms0]))
  obtain ⟨tyS, dS, hdS, hdnS⟩ := Cond.laysAt hfound hk Y.stack (a' (.lays cls Bundle.tN "stackTrace" Bundle.steD) (by simp [Bundle.ownAtoms0]))
  obtain ⟨tyP, dP, hdP, hdnP⟩ := Cond.laysAt hfound hk Y.supp (a' (.lays cls Bundle.tN "suppressedExceptions" Bundle.listD) (by simp [Bundle.ownAtoms0]))
  obtain ⟨tyM, dM, hdM, hdnM⟩ := Cond.laysAt hfound hk hffM (a' (.lays cls Bundle.tN "detailMessage" "Ljava/lang/String;") (by simp [Bundle.ownAtoms0]))
  obtain ⟨tyB, dB, hdB, hdnB⟩ := Cond.laysAt hfound hk hffB (a' (.lays cls Bundle.tN "backtrace" "Ljava/lang/Object;") (by simp [Bundle.ownAtoms0]))
  have bC := Cond.laysApart hdB hdC hdnB hdnC (by rw [hnB, Y.causeName]; decide)
  have bS := Cond.laysApart hdB hdS hdnB hdnS (by rw [hnB, Y.stackName]; decide)
  have bP := Cond.laysApart hdB hdP hdnB hdnP (by rw [hnB, Y.suppName]; decide)
  have hskip : SkipFacts T e.platform s (fun u => u) u0 ((preparedCellV T.toThrowableT (freshCell P1.m.cls kX) a u0 sen).withEntry W.cur) :=
    ⟨{ ci198 := ci198, i198 := i198, fBack := fB }, ⟨hk198, hg198, ha198, hsB⟩, by
      have := fresh_default (c := P1.m.cls) tyB
      rw [htB] at this
      simpa [preparedCellV, Cell.setSlot, Cell.withEntry, Array.getElem?_setIfInBounds, bC, bS, bP, bC.symm, bS.symm, bP.symm, defaultValue] using this, fun _ _ => rfl⟩
  obtain ⟨tm, methC, cdC, kC, vm₁, hnC, -, -, -, -, -, -, -, hW₁, st1⟩ := Steps.initCold (tb := p.tables) (e := e) (below := below) (s := s) (U := W) X.here hexec X.warmed hpl hown (t := Bundle.init0 cls) rfl rfl (Bundle.fit_spec hcls).2
    (a' (.methodLink own ic (Bundle.init0 cls)) (by simp [Bundle.ownAtoms0])) (h (.instanceMethod (Bundle.init0 cls)) (by cases names <;> simp [Bundle.ownAtoms0, Bundle.chain0Atoms, Bundle.passAtoms])) (bytes := Bundle.five) (maxL := 1) (h (.code (Bundle.init0 cls) Bundle.five 1 none) (by cases names <;> simp [Bundle.ownAtoms0, Bundle.chain0Atoms, Bundle.passAtoms]))
    (f := g) hg (a := a) (rest := .ref a :: rest) hstack hd6
  cases Option.some.inj (hnC.symm.trans hP1m)
  have X₁ := X.noted hW₁
  obtain ⟨vm₂, X₂, st2⟩ := X₁.ctorPlainOffV hexec (g := { g with stack := .ref a :: rest }) hg hsize T L Z LZ (P1 :: Ps)
    (fun P hP => by rcases List.mem_cons.mp hP with rfl | hP; exact L1; exact hL P hP) ⟨hlink1, hlink⟩ (u0 := u0) (sen := sen) (self := a) (cell := freshCell P1.m.cls kX) (cellS := cellS)
    hcell (fun _ => by simp) (by simp) rfl rfl hsel0 hselF hcellS hneS hknownS (by rw [hkeep _ (hout' _)]; exact hu0) (by rw [hkeep _ (hout' _)]; exact hsen)
    (Takes.of_laid hk hord tyC (by rw [Y.causeType]; rfl)) (Takes.of_laid hk hord tyS (by rw [Y.stackType]; exact fits_refV_array _ u0)) (Takes.of_laid hk hord tyP (by rw [Y.suppType]; exact fits_refV_object _ sen)) Y.objLocals hskip htr [] hd6
    (by simp only [List.length_cons, hlen]; omega) (by simp only [List.length_cons, hlen]; exact hRlocals)
  have hlt : a < ((W.setVm vm₁).setVm vm₂).heap.size := (Array.getElem?_eq_some_iff.mp hcell).1
  refine ⟨(W.setVm vm₁).setVm vm₂, _, _, X₂, fun y hy => ?_, hlt, rfl, rfl, fun target hwalk => st1 _ (fun acts => ?_)⟩
  · simp only [List.mem_cons, List.not_mem_nil, or_false] at hy
    rcases hy with rfl | rfl | rfl | rfl <;> rfl
  · rw [doInvoke_state]
    exact st2 _ hwalk
end VXK
section VXK2
variable {p : Program} {l : Launch} {e : Env} {R : Room} {s : State} {m : MethodId} {args : Array Value} {below : List Frame} {meth : Method} {c : Code} {H : Heap} {locs : List Loc} {cells slots : Nat} {Q : State → Prop}
variable {ls : Array Slot} {rest : List Value} {D : va_G} {cl : List vw_C} {tys : List (ClassId × FieldType)} {ws : va_W}
/-- 'new E("text")' that isn't thrown at once: the object goes on the stack -/
theorem vx_makeS {cc : ByteArray} {pc : Nat} (hexec : p.tables.exec = Jvm.exec) (hb : c.code = cc) (hl : l.stackTraces = false) {own cls text : String} {names : List String} {ik is ic sa ci : Nat} {A : Nat → Prop} {T0 : u_T}
    (hown : s.vm.findClass own = some m.cls) (hcls : Bundle.fit cls = true) (hnames : ∀ n ∈ names, Bundle.fit n = true)
    (hk : (Cond.classLink own ik cls).before args s = true) (hini : (Cond.initialized cls).before args s = true) (hstr : vk_R own is text sa s) (hat : ∀ w ∈ vx_atS own ic cls names, w.before args s = true)
    (hgood : ∀ w ∈ Cond.classLink own ik cls :: Cond.initialized cls :: vx_atS own ic cls names, vx_ot w = true)
    (hU : vx_Zq Bundle.tN "UNASSIGNED_STACK" Bundle.steD A s s.heap) (hN : vx_Zq Bundle.tN "SUPPRESSED_SENTINEL" Bundle.listD A s s.heap) (hS : va_S A s.heap H locs) (hsize : ls.size = c.maxLocals)
    (d0 : decode cc pc = .ok (.new ik, 3)) (d3 : decode cc (pc + 3) = .ok (.dup, 1)) (d4 : decode cc (pc + 4) = .ok (.ldc is, 2)) (d6 : decode cc (pc + 6) = .ok (.invokespecial ic, 3))
    (hK : va_K D cl tys s) (hP : va_P D cl ws H) (hD : va_D A ws) (hA : ∀ q, s.heap.size ≤ q → A q) (hc : cl[ci]? = some (cls, T0, 0))
    (hRframes : names.length + 3 < R.frames) (hRlocals : (rest.map fun v => v.category).sum + (13 * (names.length + 1) + 43) ≤ R.locals) (hRcells : cells + 1 ≤ R.cells) (hRslots : slots + 6 ≤ R.slots)
    (kk : ∀ (q : Nat) (H1 : Heap), va_P D cl (ws ++ [(q, .inr (ci, []))]) H1 → va_D A (ws ++ [(q, .inr (ci, []))]) → va_S A s.heap H1 locs → W p l e R s m args below meth c H1 locs (cells + 1) (slots + 6) Q (F0 m (pc + 9) ls (.ref q :: rest))) :
    W p l e R s m args below meth c H locs cells slots Q (F0 m pc ls rest) := by
  intro T hT X
  subst hT
  have htr : e.platform.stackTraces = false := (show e.platform.stackTraces = l.stackTraces by rw [X.admits.platform]).trans hl
  have Y := vx_rebase X (R' := { frames := R.frames, locals := R.locals, cells := 1, slots := 6 }) (Nat.le_refl _) (Nat.le_refl _) hRcells hRslots
  obtain ⟨s', hA'⟩ : ∃ z, z = (T.setVm s.vm).setFrames (.invoking m args :: below) := ⟨_, rfl⟩
  rw [← hA'] at Y
  have hvm : s'.vm = s.vm := by rw [hA']; rfl
  have hhp : s'.heap = T.heap := by rw [hA']; rfl
  have hW0 : s.WarmedH s'.vm := by rw [hvm]; exact State.WarmedH.refl s
  have hat' : ∀ w ∈ vx_atS own ic cls names, w.before args s' = true := fun w hw => vx_ot_at hW0 hvm.symm (hgood w (List.mem_cons_of_mem _ (List.mem_cons_of_mem _ hw))) (hat w hw)
  have hk' : (Cond.classLink own ik cls).before args s' = true := vx_ot_at hW0 hvm.symm (hgood _ List.mem_cons_self) hk
  have hini' : (Cond.initialized cls).before args s' = true := vx_ot_at hW0 hvm.symm (hgood _ (List.mem_cons_of_mem _ List.mem_cons_self)) hini
  have hU' : vx_Zq Bundle.tN "UNASSIGNED_STACK" Bundle.steD A s' s'.heap := by rw [hhp]; exact vx_Zq.moved hW0.alike (hU.kept hS.2.1)
  have hN' : vx_Zq Bundle.tN "SUPPRESSED_SENTINEL" Bundle.listD A s' s'.heap := by rw [hhp]; exact vx_Zq.moved hW0.alike (hN.kept hS.2.1)
  have h : ∀ w ∈ Bundle.ownAtoms own ic cls names, w.before args s' = true := vx_own hat' (vx_isRefq hU'.1) (vx_isRefq hN'.1) hU'.2.word hN'.2.word
  have hown' : s'.vm.findClass own = some m.cls := by rw [hvm]; exact hown
  have hins : (Cond.instantiable cls 6).before args s' = true := h _ (by simp [Bundle.ownAtoms])
  obtain ⟨vm₁, cX, kX, hfX, hkX, -, -, X₁, st1⟩ := Y.newCold hexec (own := own) (C := cls) (index := ik) (n := 6) hown' hk' hins hini'
    (g := F0 m pc ls rest) rfl (by rw [hb]; exact d0) (Nat.le_refl _) (Nat.le_refl _)
  generalize hT1 : (T.setVm vm₁).pushCell { cls := cX, slots := kX.instanceTypes.map defaultValue, vm := .none } = T1 at X₁ st1
  have hcat : (Value.ref T.heap.size).category = 1 := rfl
  have hcellA : T1.heap[T.heap.size]? = some (freshCell cX kX) := by rw [← hT1]; exact State.heap_pushCell_size _ _
  have d3' : decode c.code (pc + 3) = .ok (.dup, 1) := by rw [hb]; exact d3
  have d4' : decode c.code (pc + 4) = .ok (.ldc is, 2) := by rw [hb]; exact d4
  have hstr' : vk_R own is text sa s' := vk_R.warm hW0 hstr
  obtain ⟨V, ce, L, Z, hL, hlt, hcl9, hvm9, st⟩ := vx_ctorMadeS X₁ hexec htr (own := own) (cls := cls) (names := names) (ic := ic) hown' hcls hnames h (fun x hx => nomatch hx) hfX hkX hcellA (by rw [hhp]; exact Nat.le_refl _) (msg := .ref sa) rfl
    (g := { method := m, pc := pc + 6, locals := ls, stack := .ref sa :: .ref T.heap.size :: .ref T.heap.size :: rest, locked := none }) rfl hsize (rest := rest) rfl
    (by rw [hb]; exact d6) hRframes (by simp only [List.map_cons, List.sum_cons, hcat]; omega)
  have Z0 := Stand.forget (locs := []) Z (fun y hy => by rw [hL y hy, hhp]; exact Nat.le_refl _)
  obtain ⟨f1, f2⟩ := vx_frame Z0.same
  rw [hhp] at f1 f2
  have hcid : ce.cls = D.1 ci := by
    rw [hcl9]
    have h1 := (hK.1 ci _ hc).2.1
    rw [hvm] at hfX
    exact Option.some.inj (hfX.symm.trans h1)
  have hh : (V.setCell T.heap.size ce).heap[T.heap.size]? = some ce := heapAt_setCell_self (s := V) ce hlt
  subst hA'
  have X5 := vx_back9 X Y Z0
  have X6 : Stand p l e R s m args below meth c (V.setCell T.heap.size ce) locs (cells + 1) (slots + 6) := { X5 with same := X5.same.mono (by omega) (by omega) }
  have hk9 : ∀ (k : Nat) (x : Nat × va_E), ws[k]? = some x → (V.setCell T.heap.size ce).heap[x.1]? = T.heap[x.1]? := fun k x hx => f2 x.1 ((hP k x hx).lt) (fun z hz => nomatch hz)
  obtain ⟨t, a1, b1⟩ := kk T.heap.size (V.setCell T.heap.size ce).heap ((hP.kept hk9).app (fun k x hx => by
      have hz : k < 1 := (List.getElem?_eq_some_iff.mp hx).1
      rw [show k = 0 by omega] at hx
      cases hx
      exact ⟨_, hc, ce, hh, hcid, hvm9, fun k hk => absurd hk (Nat.not_lt_zero k)⟩)) (hD.push hP rfl (hA _ hS.1)) ⟨Nat.le_trans hS.1 f1, fun q h1 h2 => (f2 q (Nat.lt_of_lt_of_le h1 hS.1) (fun z hz => nomatch hz)).trans (hS.2.1 q h1 h2), hS.2.2⟩ _ rfl X6
  refine ⟨t, st1 _ ?_, b1⟩
  show Steps p.tables e below (T1.setTop { method := m, pc := pc + 3, locals := ls, stack := .ref T.heap.size :: rest, locked := none }) _
  jvm_step X₁.here [X₁.here.top, hexec, d3', Value.category]
  exact X₁.ldcString hexec (own := own) (text := text) (index := is) (a := sa) hown' hstr'.1 hstr'.2
    (g := { method := m, pc := pc + 4, locals := ls, stack := .ref T.heap.size :: .ref T.heap.size :: rest, locked := none }) rfl d4' _ (st _ a1)
/-- 'new E()' that isn't thrown at once: the object goes on the stack -/
theorem vx_make0 {cc : ByteArray} {pc : Nat} (hexec : p.tables.exec = Jvm.exec) (hb : c.code = cc) (hl : l.stackTraces = false) {own cls : String} {names : List String} {ik ic ci : Nat} {A : Nat → Prop} {T0 : u_T}
    (hown : s.vm.findClass own = some m.cls) (hcls : Bundle.fit cls = true) (hnames : ∀ n ∈ names, Bundle.fit n = true)
    (hk : (Cond.classLink own ik cls).before args s = true) (hini : (Cond.initialized cls).before args s = true) (hat : ∀ w ∈ vx_at0 own ic cls names, w.before args s = true)
    (hgood : ∀ w ∈ Cond.classLink own ik cls :: Cond.initialized cls :: vx_at0 own ic cls names, vx_ot w = true)
    (hU : vx_Zq Bundle.tN "UNASSIGNED_STACK" Bundle.steD A s s.heap) (hN : vx_Zq Bundle.tN "SUPPRESSED_SENTINEL" Bundle.listD A s s.heap) (hS : va_S A s.heap H locs) (hsize : ls.size = c.maxLocals)
    (d0 : decode cc pc = .ok (.new ik, 3)) (d3 : decode cc (pc + 3) = .ok (.dup, 1)) (d4 : decode cc (pc + 4) = .ok (.invokespecial ic, 3))
    (hK : va_K D cl tys s) (hP : va_P D cl ws H) (hD : va_D A ws) (hA : ∀ q, s.heap.size ≤ q → A q) (hc : cl[ci]? = some (cls, T0, 0))
    (hRframes : names.length + 3 < R.frames) (hRlocals : (rest.map fun v => v.category).sum + (13 * (names.length + 1) + 42) ≤ R.locals) (hRcells : cells + 1 ≤ R.cells) (hRslots : slots + 6 ≤ R.slots)
    (kk : ∀ (q : Nat) (H1 : Heap), va_P D cl (ws ++ [(q, .inr (ci, []))]) H1 → va_D A (ws ++ [(q, .inr (ci, []))]) → va_S A s.heap H1 locs → W p l e R s m args below meth c H1 locs (cells + 1) (slots + 6) Q (F0 m (pc + 7) ls (.ref q :: rest))) :
    W p l e R s m args below meth c H locs cells slots Q (F0 m pc ls rest) := by
  intro T hT X
  subst hT
  have htr : e.platform.stackTraces = false := (show e.platform.stackTraces = l.stackTraces by rw [X.admits.platform]).trans hl
  have Y := vx_rebase X (R' := { frames := R.frames, locals := R.locals, cells := 1, slots := 6 }) (Nat.le_refl _) (Nat.le_refl _) hRcells hRslots
  obtain ⟨s', hA'⟩ : ∃ z, z = (T.setVm s.vm).setFrames (.invoking m args :: below) := ⟨_, rfl⟩
  rw [← hA'] at Y
  have hvm : s'.vm = s.vm := by rw [hA']; rfl
  have hhp : s'.heap = T.heap := by rw [hA']; rfl
  have hW0 : s.WarmedH s'.vm := by rw [hvm]; exact State.WarmedH.refl s
  have hat' : ∀ w ∈ vx_at0 own ic cls names, w.before args s' = true := fun w hw => vx_ot_at hW0 hvm.symm (hgood w (List.mem_cons_of_mem _ (List.mem_cons_of_mem _ hw))) (hat w hw)
  have hk' : (Cond.classLink own ik cls).before args s' = true := vx_ot_at hW0 hvm.symm (hgood _ List.mem_cons_self) hk
  have hini' : (Cond.initialized cls).before args s' = true := vx_ot_at hW0 hvm.symm (hgood _ (List.mem_cons_of_mem _ List.mem_cons_self)) hini
  have hU' : vx_Zq Bundle.tN "UNASSIGNED_STACK" Bundle.steD A s' s'.heap := by rw [hhp]; exact vx_Zq.moved hW0.alike (hU.kept hS.2.1)
  have hN' : vx_Zq Bundle.tN "SUPPRESSED_SENTINEL" Bundle.listD A s' s'.heap := by rw [hhp]; exact vx_Zq.moved hW0.alike (hN.kept hS.2.1)
  have h : ∀ w ∈ Bundle.ownAtoms0 own ic cls names, w.before args s' = true := vx_own hat' (vx_isRefq hU'.1) (vx_isRefq hN'.1) hU'.2.word hN'.2.word
  have hown' : s'.vm.findClass own = some m.cls := by rw [hvm]; exact hown
  have hins : (Cond.instantiable cls 6).before args s' = true := h _ (by simp [Bundle.ownAtoms0])
  obtain ⟨vm₁, cX, kX, hfX, hkX, -, -, X₁, st1⟩ := Y.newCold hexec (own := own) (C := cls) (index := ik) (n := 6) hown' hk' hins hini'
    (g := F0 m pc ls rest) rfl (by rw [hb]; exact d0) (Nat.le_refl _) (Nat.le_refl _)
  generalize hT1 : (T.setVm vm₁).pushCell { cls := cX, slots := kX.instanceTypes.map defaultValue, vm := .none } = T1 at X₁ st1
  have hcat : (Value.ref T.heap.size).category = 1 := rfl
  have hcellA : T1.heap[T.heap.size]? = some (freshCell cX kX) := by rw [← hT1]; exact State.heap_pushCell_size _ _
  have d3' : decode c.code (pc + 3) = .ok (.dup, 1) := by rw [hb]; exact d3
  obtain ⟨V, ce, L, Z, hL, hlt, hcl9, hvm9, st⟩ := vx_ctorMade0 X₁ hexec htr (own := own) (cls := cls) (names := names) (ic := ic) hown' hcls hnames h (fun x hx => nomatch hx) hfX hkX hcellA (by rw [hhp]; exact Nat.le_refl _)
    (g := { method := m, pc := pc + 4, locals := ls, stack := .ref T.heap.size :: .ref T.heap.size :: rest, locked := none }) rfl hsize (rest := rest) rfl
    (by rw [hb]; exact d4) hRframes (by simp only [List.map_cons, List.sum_cons, hcat]; omega)
  have Z0 := Stand.forget (locs := []) Z (fun y hy => by rw [hL y hy, hhp]; exact Nat.le_refl _)
  obtain ⟨f1, f2⟩ := vx_frame Z0.same
  rw [hhp] at f1 f2
  have hcid : ce.cls = D.1 ci := by
    rw [hcl9]
    have h1 := (hK.1 ci _ hc).2.1
    rw [hvm] at hfX
    exact Option.some.inj (hfX.symm.trans h1)
  have hh : (V.setCell T.heap.size ce).heap[T.heap.size]? = some ce := heapAt_setCell_self (s := V) ce hlt
  subst hA'
  have X5 := vx_back9 X Y Z0
  have X6 : Stand p l e R s m args below meth c (V.setCell T.heap.size ce) locs (cells + 1) (slots + 6) := { X5 with same := X5.same.mono (by omega) (by omega) }
  have hk9 : ∀ (k : Nat) (x : Nat × va_E), ws[k]? = some x → (V.setCell T.heap.size ce).heap[x.1]? = T.heap[x.1]? := fun k x hx => f2 x.1 ((hP k x hx).lt) (fun z hz => nomatch hz)
  obtain ⟨t, a1, b1⟩ := kk T.heap.size (V.setCell T.heap.size ce).heap ((hP.kept hk9).app (fun k x hx => by
      have hz : k < 1 := (List.getElem?_eq_some_iff.mp hx).1
      rw [show k = 0 by omega] at hx
      cases hx
      exact ⟨_, hc, ce, hh, hcid, hvm9, fun k hk => absurd hk (Nat.not_lt_zero k)⟩)) (hD.push hP rfl (hA _ hS.1)) ⟨Nat.le_trans hS.1 f1, fun q h1 h2 => (f2 q (Nat.lt_of_lt_of_le h1 hS.1) (fun z hz => nomatch hz)).trans (hS.2.1 q h1 h2), hS.2.2⟩ _ rfl X6
  refine ⟨t, st1 _ ?_, b1⟩
  show Steps p.tables e below (T1.setTop { method := m, pc := pc + 3, locals := ls, stack := .ref T.heap.size :: rest, locked := none }) _
  jvm_step X₁.here [X₁.here.top, hexec, d3', Value.category]
  exact st _ a1
/-- 'throw x' of an object that was made before -/
theorem vx_athrow {cc : ByteArray} {pc : Nat} (hexec : p.tables.exec = Jvm.exec) (hb : c.code = cc) {q : Addr} (hdg : decode cc pc = .ok (.athrow, 1)) (k : vx_W p l e R s m args below meth c H locs cells slots Q (F0 m pc ls rest) q) : W p l e R s m args below meth c H locs cells slots Q (F0 m pc ls (.ref q :: rest)) := by
  intro T hT X
  obtain ⟨t, st, hq⟩ := k T hT X
  refine ⟨t, ?_, hq⟩
  have hdg' : decode c.code pc = .ok (.athrow, 1) := by rw [hb]; exact hdg
  jvm_step X.here [X.here.top, hexec, hdg', athrow.wp_sem]
  exact st
end VXK2
/-! ===== END ===== -/
/-! ===== BEGIN a constructor that throws (launches without stack traces) ===== -/
section VXIA
variable {p : Program} {l : Launch} {e : Env} {R : Room} {s : State} {m : MethodId} {args : Array Value} {below : List Frame} {meth : Method} {c : Code} {T : State} {locs : List Loc} {cells slots : Nat}
theorem vx_callI (X : Stand p l e R s m args below meth c T locs cells slots) (hexec : p.tables.exec = Jvm.exec) {own : String} {index : Nat} {y : MethodName} {bytes : ByteArray} {maxL : Nat}
    (hown : s.vm.findClass own = some m.cls) (hy1 : y.name = "<init>") (hlink : (Cond.methodLink own index y).before args s = true) (hinst : (Cond.instanceMethod y).before args s = true)
    (hcode : (Cond.code y bytes maxL none).before args s = true) (hy : y.cls ≠ "java/lang/invoke/MethodHandle" ∧ y.cls ≠ "java/lang/invoke/VarHandle")
    {W9 : Nat} {Pre : Pt → Array Value → Prop} {Post : Pt → Array Value → Option Value → Pt → Prop} {PostX : Pt → Array Value → Addr → Pt → Prop} (hK : vx_Back l R p e below s args y 3 W9 Pre Post PostX)
    {g : JFrame} (hg : g.method = m) (hsize : g.locals.size = c.maxLocals) {a : Addr} {argsL rest : List Value} (hlen : ∀ sig, parseMethodDescriptor y.desc = some sig → argsL.length = sig.parameters.length)
    (hstack : g.stack = argsL.reverse ++ .ref a :: rest) (hW : 2 * g.monitorRoom + (rest.map fun v => v.category).sum ≤ W9) (hdg : decode c.code g.pc = .ok (.invokespecial index, 3))
    (hpre : ∀ vm₁, s.WarmedH vm₁ → Pre ⟨T.setVm vm₁, locs, cells, slots⟩ (Value.ref a :: argsL).toArray) :
    (∃ (v : Option Value) (vm₁ : Vm) (B : Pt), s.WarmedH vm₁ ∧ Stand p l e R s m args below meth c B.U B.locs B.cells B.slots ∧ Post ⟨T.setVm vm₁, locs, cells, slots⟩ (Value.ref a :: argsL).toArray v B ∧
      ∀ target, Steps p.tables e below (B.U.setTop { g with pc := g.pc + 3, stack := v.toList ++ rest }) target → Steps p.tables e below (T.setTop g) target) ∨
    (∃ (q : Addr) (vm₁ : Vm) (B : Pt), s.WarmedH vm₁ ∧ Stand p l e R s m args below meth c B.U B.locs B.cells B.slots ∧ PostX ⟨T.setVm vm₁, locs, cells, slots⟩ (Value.ref a :: argsL).toArray q B ∧
      Steps p.tables e below (T.setTop g) ((B.U.setTop { g with stack := rest }).pushFrame (.throwing q))) := by
  subst hg
  have hpl : e.platform.magicAccessors = ({} : Platform).magicAccessors := by rw [X.admits.platform]
  obtain ⟨mk, methM, cM, kP, vm₁, hnamed, hmethM, hcodeM, -, hlocalsM, -, hkP, -, hW₁, hstep₁⟩ := Steps.initColdArgs (e := e) X.here hexec X.warmed hpl hown hy1 hy hlink hinst hcode (f := g) rfl hlen hstack hdg
  have X₁ := X.noted hW₁
  rcases hK g.method meth c ⟨T.setVm vm₁, locs, cells, slots⟩ { g with stack := rest } (.invokespecial index) mk (Value.ref a :: argsL).toArray X₁ rfl hsize hdg hW (X₁.named hnamed) (hpre vm₁ X₁.warmed) with ⟨v, B, X', hpost, hsteps⟩ | ⟨q, B, X', hpost, hsteps⟩
  · exact Or.inl ⟨v, vm₁, B, X₁.warmed, X', hpost, fun target h => hstep₁ _ fun acts => by rw [doInvoke_state]; exact hsteps.trans h⟩
  · exact Or.inr ⟨q, vm₁, B, X₁.warmed, X', hpost, hstep₁ _ fun acts => by rw [doInvoke_state]; exact hsteps⟩
end VXIA
section VXIB
variable {p : Program} {l : Launch} {e : Env} {R : Room} {s : State} {m : MethodId} {args : Array Value} {below : List Frame} {meth : Method} {c : Code} {H : Heap} {locs : List Loc} {cells slots : Nat}
variable {y : MethodName} {bytes cc : ByteArray} {maxL nL mc ms n index : Nat} {ret : Option FieldType} {ws : List Cond} {rm : Room} {Pc : Array Value → State → Prop} {Qc : Array Value → State → Outcome → State → Prop} {XC : String → State → State → Prop} {free : Addr → Prop} {Ts : List Cond} {own C : String} {b : Addr} {As rest : List Value} {g : JFrame}
theorem vx_runI (S : CallFix p m c cc nL s args Ts own) (hM : vx_Met l y ws rm Pc Qc XC mc ms free) (cw : CallB R s args own index y bytes maxL none ws rm mc ms n ∧ y.name = "<init>" ∧ (Cond.instanceMethod y).before args s = true) (hp : PreS s H Pc (.ref b :: As))
    (hg : g.method = m) (hn : As.length = n) (hsize : g.locals.size = nL) (hstack : g.stack = As.reverse ++ .ref b :: rest) (hW : 2 * g.monitorRoom + (rest.map fun v => v.category).sum ≤ 8) (hdg : decode cc g.pc = .ok (.invokespecial index, 3)) (hf : cells + mc ≤ R.cells ∧ slots + ms ≤ R.slots) :
    vx_Run p l e R s m args below meth c H locs cells slots mc ms g rest (Qc (Value.ref b :: As).toArray) XC free := by
  have hK : vx_Back l R p e below s args y 3 8 (PreOf R mc ms Pc) (PostOf Qc mc ms free) (vx_Post XC mc ms free) := vx_callBack cw.1 hM hp.1
  obtain ⟨⟨-, -, -, -, -, -, hcode, -, hy, hlen, hl⟩, hy1, hin⟩ := cw
  obtain ⟨hx, hb, hml, ho, -⟩ := S
  have hPc := hp.2
  intro T hT X
  rcases vx_callI X hx (bytes := bytes) (maxL := maxL) ho hy1 hl hin hcode hy hK hg (hsize.trans hml.symm) (a := b) (argsL := As) (rest := rest) (fun sig h => hn.trans (hlen sig h)) hstack hW (by rw [hb]; exact hdg)
    (fun vm₁ hW₁ => ⟨hf.1, hf.2, hPc (T.setVm vm₁) hT hW₁⟩) with ⟨v, vm₁, ⟨U', l2, c2, s2⟩, hW₁, X', ⟨g', mk, t, L, e1, e2, hq, h1, hL, h2, h3⟩, st⟩ | ⟨q, vm₁, ⟨U', l2, c2, s2⟩, hW₁, X', ⟨g', mk, t, L, E, ce, e1, e2, hq, hce, hcv, hcl, h1, hL, h2, h3⟩, st⟩
  · dsimp only [Pt.U, Pt.locs, Pt.cells, Pt.slots] at X' e1 e2 h1 h2 h3 st
    subst h1; subst h2; subst h3
    exact Or.inl ⟨v, (T.setVm vm₁).calling g' mk (Value.ref b :: As).toArray, t, U', L, hT, X', hL, e1, e2, hq, st⟩
  · dsimp only [Pt.U, Pt.locs, Pt.cells, Pt.slots] at X' e1 e2 h1 h2 h3 st hcl
    subst h1; subst h2; subst h3
    exact Or.inr ⟨q, (T.setVm vm₁).calling g' mk (Value.ref b :: As).toArray, t, U', L, E, ce, hT, X', hL, e1, e2, hq, hce, hcv, vx_cls hW₁ hcl, st⟩
end VXIB
/-! ===== END ===== -/
/-! ===== BEGIN a private constructor of a nest mate that throws ===== -/
section VXIC
variable {p : Program} {l : Launch} {e : Env} {R : Room} {s : State} {m : MethodId} {args : Array Value} {below : List Frame} {meth : Method} {c : Code} {T : State} {locs : List Loc} {cells slots : Nat}
theorem vx_callIN (X : Stand p l e R s m args below meth c T locs cells slots) (hexec : p.tables.exec = Jvm.exec) {own : String} {index : Nat} {host : String} {y : MethodName} {bytes : ByteArray} {maxL : Nat}
    (hown : s.vm.findClass own = some m.cls) (hy1 : y.name = "<init>") (hlink : (Cond.methodLinkNest own index y host).before args s = true) (hinst : (Cond.instanceMethod y).before args s = true)
    (hcode : (Cond.code y bytes maxL none).before args s = true) (hy : y.cls ≠ "java/lang/invoke/MethodHandle" ∧ y.cls ≠ "java/lang/invoke/VarHandle")
    {W9 : Nat} {Pre : Pt → Array Value → Prop} {Post : Pt → Array Value → Option Value → Pt → Prop} {PostX : Pt → Array Value → Addr → Pt → Prop} (hK : vx_Back l R p e below s args y 3 W9 Pre Post PostX)
    {g : JFrame} (hg : g.method = m) (hsize : g.locals.size = c.maxLocals) {a : Addr} {argsL rest : List Value} (hlen : ∀ sig, parseMethodDescriptor y.desc = some sig → argsL.length = sig.parameters.length)
    (hstack : g.stack = argsL.reverse ++ .ref a :: rest) (hW : 2 * g.monitorRoom + (rest.map fun v => v.category).sum ≤ W9) (hdg : decode c.code g.pc = .ok (.invokespecial index, 3))
    (hpre : ∀ vm₁, s.WarmedH vm₁ → Pre ⟨T.setVm vm₁, locs, cells, slots⟩ (Value.ref a :: argsL).toArray) :
    (∃ (v : Option Value) (vm₁ : Vm) (B : Pt), s.WarmedH vm₁ ∧ Stand p l e R s m args below meth c B.U B.locs B.cells B.slots ∧ Post ⟨T.setVm vm₁, locs, cells, slots⟩ (Value.ref a :: argsL).toArray v B ∧
      ∀ target, Steps p.tables e below (B.U.setTop { g with pc := g.pc + 3, stack := v.toList ++ rest }) target → Steps p.tables e below (T.setTop g) target) ∨
    (∃ (q : Addr) (vm₁ : Vm) (B : Pt), s.WarmedH vm₁ ∧ Stand p l e R s m args below meth c B.U B.locs B.cells B.slots ∧ PostX ⟨T.setVm vm₁, locs, cells, slots⟩ (Value.ref a :: argsL).toArray q B ∧
      Steps p.tables e below (T.setTop g) ((B.U.setTop { g with stack := rest }).pushFrame (.throwing q))) := by
  subst hg
  have hpl : e.platform.magicAccessors = ({} : Platform).magicAccessors := by rw [X.admits.platform]
  obtain ⟨mk, methM, cM, kP, vm₁, hnamed, hmethM, hcodeM, -, hlocalsM, -, hkP, -, hW₁, hstep₁⟩ := Steps.initColdArgsNest (e := e) X.here hexec X.warmed hpl hown hy1 hy hlink hinst hcode (f := g) rfl hlen hstack hdg
  have X₁ := X.noted hW₁
  rcases hK g.method meth c ⟨T.setVm vm₁, locs, cells, slots⟩ { g with stack := rest } (.invokespecial index) mk (Value.ref a :: argsL).toArray X₁ rfl hsize hdg hW (X₁.named hnamed) (hpre vm₁ X₁.warmed) with ⟨v, B, X', hpost, hsteps⟩ | ⟨q, B, X', hpost, hsteps⟩
  · exact Or.inl ⟨v, vm₁, B, X₁.warmed, X', hpost, fun target h => hstep₁ _ fun acts => by rw [doInvoke_state]; exact hsteps.trans h⟩
  · exact Or.inr ⟨q, vm₁, B, X₁.warmed, X', hpost, hstep₁ _ fun acts => by rw [doInvoke_state]; exact hsteps⟩
end VXIC
section VXID
variable {p : Program} {l : Launch} {e : Env} {R : Room} {s : State} {m : MethodId} {args : Array Value} {below : List Frame} {meth : Method} {c : Code} {H : Heap} {locs : List Loc} {cells slots : Nat}
theorem vx_runIN {y : MethodName} {bytes cc : ByteArray} {maxL nL mc ms n index : Nat} {ws : List Cond} {rm : Room} {Pc : Array Value → State → Prop} {Qc : Array Value → State → Outcome → State → Prop} {XC : String → State → State → Prop} {free : Addr → Prop} {Ts : List Cond} {own host : String} {b : Addr} {As rest : List Value} {g : JFrame}
    (S : CallFix p m c cc nL s args Ts own) (hM : vx_Met l y ws rm Pc Qc XC mc ms free) (cw : va_CN R s args own index y host bytes maxL none ws rm mc ms n ∧ y.name = "<init>" ∧ (Cond.instanceMethod y).before args s = true) (hp : PreS s H Pc (.ref b :: As))
    (hg : g.method = m) (hn : As.length = n) (hsize : g.locals.size = nL) (hstack : g.stack = As.reverse ++ .ref b :: rest) (hW : 2 * g.monitorRoom + (rest.map fun v => v.category).sum ≤ 8) (hdg : decode cc g.pc = .ok (.invokespecial index, 3)) (hf : cells + mc ≤ R.cells ∧ slots + ms ≤ R.slots) :
    vx_Run p l e R s m args below meth c H locs cells slots mc ms g rest (Qc (Value.ref b :: As).toArray) XC free := by
  obtain ⟨⟨⟨hrc, hrs, hfr, hlo, hws, hcw⟩, hcode, hini, hy, hlen, hl⟩, hx1, hx2⟩ := cw
  have hK : vx_Back l R p e below s args y 3 8 (PreOf R mc ms Pc) (PostOf Qc mc ms free) (vx_Post XC mc ms free) := vx_back (bytes := bytes) (maxL := maxL) (ret := none) hM hp.1 hrc hrs hfr hlo hws hcw (fun a' U hW => word_at hW (Or.inl (by first | rfl | simp [Cond.onTables, Cond.keeps, Cond.steady])) hini)
  obtain ⟨hx, hb, hml, ho, -⟩ := S
  have hPc := hp.2
  intro T hT X
  rcases vx_callIN X hx (bytes := bytes) (maxL := maxL) ho hx1 hl hx2 hcode hy hK hg (hsize.trans hml.symm) (a := b) (argsL := As) (rest := rest) (fun sig h => hn.trans (hlen sig h)) hstack hW (by rw [hb]; exact hdg)
    (fun vm₁ hW₁ => ⟨hf.1, hf.2, hPc (T.setVm vm₁) hT hW₁⟩) with ⟨v, vm₁, ⟨U', l2, c2, s2⟩, hW₁, X', ⟨g', mk, t, L, e1, e2, hq, h1, hL, h2, h3⟩, st⟩ | ⟨q, vm₁, ⟨U', l2, c2, s2⟩, hW₁, X', ⟨g', mk, t, L, E, ce, e1, e2, hq, hce, hcv, hcl, h1, hL, h2, h3⟩, st⟩
  · dsimp only [Pt.U, Pt.locs, Pt.cells, Pt.slots] at X' e1 e2 h1 h2 h3 st
    subst h1; subst h2; subst h3
    exact Or.inl ⟨v, (T.setVm vm₁).calling g' mk (Value.ref b :: As).toArray, t, U', L, hT, X', hL, e1, e2, hq, st⟩
  · dsimp only [Pt.U, Pt.locs, Pt.cells, Pt.slots] at X' e1 e2 h1 h2 h3 st hcl
    subst h1; subst h2; subst h3
    exact Or.inr ⟨q, (T.setVm vm₁).calling g' mk (Value.ref b :: As).toArray, t, U', L, E, ce, hT, X', hL, e1, e2, hq, hce, hcv, vx_cls hW₁ hcl, st⟩
end VXID
/-! ===== END ===== -/
/-! ===== BEGIN a method of a class above, found by the receiver, that may throw (follows va_callVU, va_runU of this kit) ===== -/
section
variable {p : Program} {l : Launch} {e : Env} {R : Room} {s : State} {m : MethodId} {args : Array Value} {below : List Frame} {meth : Method} {c : Code} {H : Heap} {locs : List Loc} {cells slots : Nat}
theorem vx_callVU {T : State} {locs : List Loc} {cells slots : Nat} (X : Stand p l e R s m args below meth c T locs cells slots) (hexec : p.tables.exec = Jvm.exec) {own C owner : String} {index : Nat} {x y : MethodName} {bytes : ByteArray} {maxL : Nat} {ret : Option FieldType}
    (hown : s.vm.findClass own = some m.cls) (hlink : (Cond.methodLink own index x).before args s = true) (hsame : (Cond.sameMethod x.cls owner x.name x.desc).before args s = true)
    (hd0 : va_Decl s ⟨owner, x.name, x.desc⟩) (howner : owner ≠ "java/lang/invoke/MethodHandle" ∧ owner ≠ "java/lang/invoke/VarHandle")
    (hsel : (Cond.selects C x y).before args s = true) (hinst : (Cond.instanceMethod y).before args s = true) (hcode : (Cond.code y bytes maxL ret).before args s = true)
    {W : Nat} {Pre : Pt → Array Value → Prop} {Post : Pt → Array Value → Option Value → Pt → Prop} {PostX : Pt → Array Value → Addr → Pt → Prop} (hK : vx_Back l R p e below s args y 3 W Pre Post PostX)
    {b : Addr} {cellB : Cell} (hcell : T.heap[b]? = some cellB) (hobj : cellB.vm.isStatics = false) (hcls : s.vm.findClass C = some cellB.cls)
    {g : JFrame} (hg : g.method = m) (hsize : g.locals.size = c.maxLocals) {argsL rest : List Value} (hlen : ∀ sig, parseMethodDescriptor x.desc = some sig → argsL.length = sig.parameters.length)
    (hstack : g.stack = argsL.reverse ++ .ref b :: rest) (hW : 2 * g.monitorRoom + (rest.map fun v => v.category).sum ≤ W) (hdg : decode c.code g.pc = .ok (.invokevirtual index, 3))
    (hpre : ∀ vm₁, s.WarmedH vm₁ → Pre ⟨T.setVm vm₁, locs, cells, slots⟩ (Value.ref b :: argsL).toArray) :
    (∃ (v : Option Value) (vm₁ : Vm) (B : Pt), s.WarmedH vm₁ ∧ Stand p l e R s m args below meth c B.U B.locs B.cells B.slots ∧ Post ⟨T.setVm vm₁, locs, cells, slots⟩ (Value.ref b :: argsL).toArray v B ∧
      ∀ target, Steps p.tables e below (B.U.setTop { g with pc := g.pc + 3, stack := v.toList ++ rest }) target → Steps p.tables e below (T.setTop g) target) ∨
    (∃ (q : Addr) (vm₁ : Vm) (B : Pt), s.WarmedH vm₁ ∧ Stand p l e R s m args below meth c B.U B.locs B.cells B.slots ∧ PostX ⟨T.setVm vm₁, locs, cells, slots⟩ (Value.ref b :: argsL).toArray q B ∧
      Steps p.tables e below (T.setTop g) ((B.U.setTop { g with stack := rest }).pushFrame (.throwing q))) := by
  obtain ⟨r0, r, hn, hrm, hstR, hsigR⟩ := hd0
  obtain ⟨cn, ck, r1, hcn, hck, hni, hf, hn1⟩ := Cond.sameMethod_found hsame
  cases hn.symm.trans hn1
  obtain ⟨mk, methM, hnamed, hmethM, -, habM⟩ := Cond.instanceMethod_spec hinst
  obtain ⟨c2, r2, m2, q1, q2, q3, q4, kP, hkP, hkPi⟩ := Cond.selects_spec hsel
  cases hcls.symm.trans q1
  cases hf.symm.trans q2
  cases hnamed.symm.trans q3
  have hselP : selectMethod e.platform s.vm cellB.cls r0 = .method mk := by rw [Launch.admits_selectMethod X.admits]; exact q4
  obtain ⟨vm₁, X₁, hstep₁⟩ := X.invokevirtualUp hexec hown hlink hsame howner hn hrm hstR (a := b) (cell := cellB) hcell
    (fun z h => by rw [h] at hobj; cases hobj) hselP hmethM habM hkP hkPi (g := g) hg (argsL := argsL) (rest := rest) (hlen _ hsigR) hstack hdg
  rcases hK m meth c ⟨T.setVm vm₁, locs, cells, slots⟩ { g with stack := rest } (.invokevirtual index) mk (Value.ref b :: argsL).toArray X₁ hg hsize hdg hW (X₁.named hnamed) (hpre vm₁ X₁.warmed) with ⟨v, B, X', hpost, hsteps⟩ | ⟨q, B, X', hpost, hsteps⟩
  · exact Or.inl ⟨v, vm₁, B, X₁.warmed, X', hpost, fun target h => hstep₁ _ fun acts => by rw [doInvoke_state]; exact hsteps.trans h⟩
  · exact Or.inr ⟨q, vm₁, B, X₁.warmed, X', hpost, hstep₁ _ fun acts => by rw [doInvoke_state]; exact hsteps⟩
theorem vx_runU {x y : MethodName} {bytes cc : ByteArray} {maxL nL mc ms n index : Nat} {ret : Option FieldType} {ws : List Cond} {rm : Room} {Pc : Array Value → State → Prop} {Qc : Array Value → State → Outcome → State → Prop} {XC : String → State → State → Prop} {free : Addr → Prop} {Ts : List Cond} {own C owner : String} {b : Addr} {As rest : List Value} {g : JFrame}
    (S : CallFix p m c cc nL s args Ts own) (hM : vx_Met l y ws rm Pc Qc XC mc ms free) (cw : va_CU R s args own C owner index x y bytes maxL ret ws rm mc ms n) (hp : PreV s H C b Pc As)
    (hg : g.method = m) (hn : As.length = n) (hsize : g.locals.size = nL) (hstack : g.stack = As.reverse ++ .ref b :: rest) (hW : 2 * g.monitorRoom + (rest.map fun v => v.category).sum ≤ 8) (hdg : decode cc g.pc = .ok (.invokevirtual index, 3)) (hf : cells + mc ≤ R.cells ∧ slots + ms ≤ R.slots) :
    vx_Run p l e R s m args below meth c H locs cells slots mc ms g rest (Qc (Value.ref b :: As).toArray) XC free := by
  obtain ⟨hrc, hrs, hfr, hlo, hws, hcw⟩ := cw.back
  have hini := cw.init
  have hK : vx_Back l R p e below s args y 3 8 (PreOf R mc ms Pc) (PostOf Qc mc ms free) (vx_Post XC mc ms free) := vx_back (bytes := bytes) (maxL := maxL) (ret := ret) hM hp.1 hrc hrs hfr hlo hws hcw (fun a' U hW => word_at hW (Or.inl (by first | rfl | simp [Cond.onTables, Cond.keeps, Cond.steady])) hini)
  obtain ⟨hx, hb, hml, ho, -⟩ := S
  obtain ⟨-, ⟨cellB, hcB, hoB, hclB⟩, hPc⟩ := hp
  intro T hT X
  rcases vx_callVU X hx (C := C) (owner := owner) (bytes := bytes) (maxL := maxL) (ret := ret) ho cw.link cw.same cw.decl cw.notMH cw.sel cw.inst cw.code hK (by rw [hT]; exact hcB) hoB hclB hg (hsize.trans hml.symm) (argsL := As) (rest := rest) (fun sig h => hn.trans (cw.len sig h)) hstack hW (by rw [hb]; exact hdg)
    (fun vm₁ hW₁ => ⟨hf.1, hf.2, hPc (T.setVm vm₁) hT hW₁⟩) with ⟨v, vm₁, ⟨U', l2, c2, s2⟩, hW₁, X', ⟨g', mk, t, L, e1, e2, hq, h1, hL, h2, h3⟩, st⟩ | ⟨q, vm₁, ⟨U', l2, c2, s2⟩, hW₁, X', ⟨g', mk, t, L, E, ce, e1, e2, hq, hce, hcv, hcl, h1, hL, h2, h3⟩, st⟩
  · dsimp only [Pt.U, Pt.locs, Pt.cells, Pt.slots] at X' e1 e2 h1 h2 h3 st
    subst h1; subst h2; subst h3
    exact Or.inl ⟨v, (T.setVm vm₁).calling g' mk (Value.ref b :: As).toArray, t, U', L, hT, X', hL, e1, e2, hq, st⟩
  · dsimp only [Pt.U, Pt.locs, Pt.cells, Pt.slots] at X' e1 e2 h1 h2 h3 st hcl
    subst h1; subst h2; subst h3
    exact Or.inr ⟨q, (T.setVm vm₁).calling g' mk (Value.ref b :: As).toArray, t, U', L, E, ce, hT, X', hL, e1, e2, hq, hce, hcv, vx_cls hW₁ hcl, st⟩
end
/-! ===== END ===== -/
/-! ===== BEGIN super.m(..) that may throw (follows va_callSU, va_runSU) ===== -/
section
variable {p : Program} {l : Launch} {e : Env} {R : Room} {s : State} {m : MethodId} {args : Array Value} {below : List Frame} {meth : Method} {c : Code} {H : Heap} {locs : List Loc} {cells slots : Nat}
theorem vx_callSU {T : State} {locs : List Loc} {cells slots : Nat} (X : Stand p l e R s m args below meth c T locs cells slots) (hexec : p.tables.exec = Jvm.exec) {own : String} {index : Nat} {y : MethodName} {bytes : ByteArray} {maxL : Nat} {ret : Option FieldType}
    (hown : s.vm.findClass own = some m.cls) (hlink : (Cond.methodLink own index y).before args s = true) (hsame : (Cond.sameMethod y.cls y.cls y.name y.desc).before args s = true) (hsup : (Cond.superclass own y.cls).before args s = true)
    (hinst : (Cond.instanceMethod y).before args s = true) (hcode : (Cond.code y bytes maxL ret).before args s = true) (hno : y.name ≠ "<init>")
    {W : Nat} {Pre : Pt → Array Value → Prop} {Post : Pt → Array Value → Option Value → Pt → Prop} {PostX : Pt → Array Value → Addr → Pt → Prop} (hK : vx_Back l R p e below s args y 3 W Pre Post PostX)
    {b : Addr} {cellB : Cell} {kB : Class} (hcell : T.heap[b]? = some cellB) (hobj : cellB.vm.isStatics = false) (hkB : s.vm.classes[cellB.cls]? = some kB)
    {g : JFrame} (hg : g.method = m) (hsize : g.locals.size = c.maxLocals) {argsL rest : List Value} (hlen : ∀ sig, parseMethodDescriptor y.desc = some sig → argsL.length = sig.parameters.length)
    (hstack : g.stack = argsL.reverse ++ .ref b :: rest) (hW : 2 * g.monitorRoom + (rest.map fun v => v.category).sum ≤ W) (hdg : decode c.code g.pc = .ok (.invokespecial index, 3))
    (hpre : ∀ vm₁, s.WarmedH vm₁ → Pre ⟨T.setVm vm₁, locs, cells, slots⟩ (Value.ref b :: argsL).toArray) :
    (∃ (v : Option Value) (vm₁ : Vm) (B : Pt), s.WarmedH vm₁ ∧ Stand p l e R s m args below meth c B.U B.locs B.cells B.slots ∧ Post ⟨T.setVm vm₁, locs, cells, slots⟩ (Value.ref b :: argsL).toArray v B ∧
      ∀ target, Steps p.tables e below (B.U.setTop { g with pc := g.pc + 3, stack := v.toList ++ rest }) target → Steps p.tables e below (T.setTop g) target) ∨
    (∃ (q : Addr) (vm₁ : Vm) (B : Pt), s.WarmedH vm₁ ∧ Stand p l e R s m args below meth c B.U B.locs B.cells B.slots ∧ PostX ⟨T.setVm vm₁, locs, cells, slots⟩ (Value.ref b :: argsL).toArray q B ∧
      Steps p.tables e below (T.setTop g) ((B.U.setTop { g with stack := rest }).pushFrame (.throwing q))) := by
  obtain ⟨mk, methM, hnamed, hmethM, hstM, habM⟩ := Cond.instanceMethod_spec hinst
  obtain ⟨methM', cM, hmethM', -, -, -, -, -, -, hsigM⟩ := Cond.code_spec hnamed hcode
  cases hmethM.symm.trans hmethM'
  obtain ⟨ps, dk, kp, hps, hdk, hkp, hsuper, -, -, hnid⟩ := Cond.superclass_spec hown hsup
  have hn : s.methodNamed? ⟨y.cls, y.name, y.desc⟩ = some mk := hnamed
  have hpm : ps = mk.cls := Option.some.inj (hps.symm.trans (findClass_of_methodNamed hnamed))
  have hsub : s.vm.isSubclass ps mk.cls = true := by rw [hpm]; simp [Vm.isSubclass, Vm.isSubclassAux]
  obtain ⟨vm₁, X₁, hstep₁⟩ := X.invokespecialUp hexec hown hlink hsame hn hmethM hstM habM hno hdk hnid hps hsuper hsub (a := b) (cell := cellB) hcell
    (fun z h => by rw [h] at hobj; cases hobj) hkB (g := g) hg (argsL := argsL) (rest := rest) (hlen _ hsigM) hstack hdg
  rcases hK m meth c ⟨T.setVm vm₁, locs, cells, slots⟩ { g with stack := rest } (.invokespecial index) mk (Value.ref b :: argsL).toArray X₁ hg hsize hdg hW (X₁.named hnamed) (hpre vm₁ X₁.warmed) with ⟨v, B, X', hpost, hsteps⟩ | ⟨q, B, X', hpost, hsteps⟩
  · exact Or.inl ⟨v, vm₁, B, X₁.warmed, X', hpost, fun target h => hstep₁ _ (by rw [doInvoke_state]; exact hsteps.trans h)⟩
  · exact Or.inr ⟨q, vm₁, B, X₁.warmed, X', hpost, hstep₁ _ (by rw [doInvoke_state]; exact hsteps)⟩
theorem vx_runSU {y : MethodName} {bytes cc : ByteArray} {maxL nL mc ms n index : Nat} {ret : Option FieldType} {ws : List Cond} {rm : Room} {Pc : Array Value → State → Prop} {Qc : Array Value → State → Outcome → State → Prop} {XC : String → State → State → Prop} {free : Addr → Prop} {Ts : List Cond} {own C : String} {cC : ClassId} {b : Addr} {As rest : List Value} {g : JFrame}
    (hat : ClassAt s C cC) (S : CallFix p m c cc nL s args Ts own) (hM : vx_Met l y ws rm Pc Qc XC mc ms free) (cw : va_CS R s args own index y bytes maxL ret ws rm mc ms n) (hp : PreV s H C b Pc As)
    (hg : g.method = m) (hn : As.length = n) (hsize : g.locals.size = nL) (hstack : g.stack = As.reverse ++ .ref b :: rest) (hW : 2 * g.monitorRoom + (rest.map fun v => v.category).sum ≤ 8) (hdg : decode cc g.pc = .ok (.invokespecial index, 3)) (hf : cells + mc ≤ R.cells ∧ slots + ms ≤ R.slots) :
    vx_Run p l e R s m args below meth c H locs cells slots mc ms g rest (Qc (Value.ref b :: As).toArray) XC free := by
  obtain ⟨⟨hrc, hrs, hfr, hlo, hws, hcw⟩, hl1, hl2, hl3, hl4, hini, hcode, hno, hlen⟩ := cw
  have hK : vx_Back l R p e below s args y 3 8 (PreOf R mc ms Pc) (PostOf Qc mc ms free) (vx_Post XC mc ms free) := vx_back (bytes := bytes) (maxL := maxL) (ret := ret) hM hp.1 hrc hrs hfr hlo hws hcw (fun a' U hW => word_at hW (Or.inl (by first | rfl | simp [Cond.onTables, Cond.keeps, Cond.steady])) hini)
  obtain ⟨hx, hb, hml, ho, -⟩ := S
  obtain ⟨-, ⟨cellB, hcB, hoB, hclB⟩, hPc⟩ := hp
  obtain ⟨hfc, kB, hkB, -⟩ := hat
  cases hfc.symm.trans hclB
  intro T hT X
  rcases vx_callSU X hx (bytes := bytes) (maxL := maxL) (ret := ret) ho hl1 hl2 hl3 hl4 hcode hno hK (by rw [hT]; exact hcB) hoB hkB hg (hsize.trans hml.symm) (argsL := As) (rest := rest) (fun sig h => hn.trans (hlen sig h)) hstack hW (by rw [hb]; exact hdg)
    (fun vm₁ hW₁ => ⟨hf.1, hf.2, hPc (T.setVm vm₁) hT hW₁⟩) with ⟨v, vm₁, ⟨U', l2, c2, s2⟩, hW₁, X', ⟨g', mk, t, L, e1, e2, hq, h1, hL, h2, h3⟩, st⟩ | ⟨q, vm₁, ⟨U', l2, c2, s2⟩, hW₁, X', ⟨g', mk, t, L, E, ce, e1, e2, hq, hce, hcv, hcl, h1, hL, h2, h3⟩, st⟩
  · dsimp only [Pt.U, Pt.locs, Pt.cells, Pt.slots] at X' e1 e2 h1 h2 h3 st
    subst h1; subst h2; subst h3
    exact Or.inl ⟨v, (T.setVm vm₁).calling g' mk (Value.ref b :: As).toArray, t, U', L, hT, X', hL, e1, e2, hq, st⟩
  · dsimp only [Pt.U, Pt.locs, Pt.cells, Pt.slots] at X' e1 e2 h1 h2 h3 st hcl
    subst h1; subst h2; subst h3
    exact Or.inr ⟨q, (T.setVm vm₁).calling g' mk (Value.ref b :: As).toArray, t, U', L, E, ce, hT, X', hL, e1, e2, hq, hce, hcv, vx_cls hW₁ hcl, st⟩
end
/-! ===== END ===== -/
/-! ===== BEGIN a private method of a nest mate that may throw (follows va_callVN, va_callSN, va_runVN, va_runSN) ===== -/
section
variable {p : Program} {l : Launch} {e : Env} {R : Room} {s : State} {m : MethodId} {args : Array Value} {below : List Frame} {meth : Method} {c : Code} {H : Heap} {locs : List Loc} {cells slots : Nat}
variable {T : State}
theorem vx_callVN (X : Stand p l e R s m args below meth c T locs cells slots) (hexec : p.tables.exec = Jvm.exec) {own C : String} {index : Nat} {host : String} {y : MethodName} {bytes : ByteArray} {maxL : Nat} {ret : Option FieldType}
    (hown : s.vm.findClass own = some m.cls) (hlink : (Cond.methodLinkNest own index y host).before args s = true) (hinst : (Cond.instanceMethod y).before args s = true) (hsel : (Cond.selects C y y).before args s = true)
    (hcode : (Cond.code y bytes maxL ret).before args s = true) (hy : y.cls ≠ "java/lang/invoke/MethodHandle" ∧ y.cls ≠ "java/lang/invoke/VarHandle")
    {W : Nat} {Pre : Pt → Array Value → Prop} {Post : Pt → Array Value → Option Value → Pt → Prop} {PostX : Pt → Array Value → Addr → Pt → Prop} (hK : vx_Back l R p e below s args y 3 W Pre Post PostX)
    {b : Addr} {cellB : Cell} (hcell : T.heap[b]? = some cellB) (hobj : cellB.vm.isStatics = false) (hcls : s.vm.findClass C = some cellB.cls)
    {g : JFrame} (hg : g.method = m) (hsize : g.locals.size = c.maxLocals) {argsL rest : List Value} (hlen : ∀ sig, parseMethodDescriptor y.desc = some sig → argsL.length = sig.parameters.length)
    (hstack : g.stack = argsL.reverse ++ .ref b :: rest) (hW : 2 * g.monitorRoom + (rest.map fun v => v.category).sum ≤ W) (hdg : decode c.code g.pc = .ok (.invokevirtual index, 3))
    (hpre : ∀ vm₁, s.WarmedH vm₁ → Pre ⟨T.setVm vm₁, locs, cells, slots⟩ (Value.ref b :: argsL).toArray) :
    (∃ (v : Option Value) (vm₁ : Vm) (B : Pt), s.WarmedH vm₁ ∧ Stand p l e R s m args below meth c B.U B.locs B.cells B.slots ∧ Post ⟨T.setVm vm₁, locs, cells, slots⟩ (Value.ref b :: argsL).toArray v B ∧
      ∀ target, Steps p.tables e below (B.U.setTop { g with pc := g.pc + 3, stack := v.toList ++ rest }) target → Steps p.tables e below (T.setTop g) target) ∨
    (∃ (q : Addr) (vm₁ : Vm) (B : Pt), s.WarmedH vm₁ ∧ Stand p l e R s m args below meth c B.U B.locs B.cells B.slots ∧ PostX ⟨T.setVm vm₁, locs, cells, slots⟩ (Value.ref b :: argsL).toArray q B ∧
      Steps p.tables e below (T.setTop g) ((B.U.setTop { g with stack := rest }).pushFrame (.throwing q))) := by
  obtain ⟨mk, methM, hnamed, hmethM, hstM, habM⟩ := Cond.instanceMethod_spec hinst
  obtain ⟨methM', cM, hmethM', -, -, -, -, -, -, hsigM⟩ := Cond.code_spec hnamed hcode
  cases hmethM.symm.trans hmethM'
  obtain ⟨c2, r2, m2, q1, q2, q3, q4, kP, hkP, hkPi⟩ := Cond.selects_spec hsel
  cases hcls.symm.trans q1
  cases (State.methodFound?_of_named hnamed hy).symm.trans q2
  cases hnamed.symm.trans q3
  have hselP : selectMethod e.platform s.vm cellB.cls mk = .method mk := by rw [Launch.admits_selectMethod X.admits]; exact q4
  obtain ⟨vm₁, X₁, hstep₁⟩ := X.invokevirtualNest hexec hown hlink hnamed hmethM hstM hkP hkPi hy (a := b) (cell := cellB) hcell
    (fun z h => by rw [h] at hobj; cases hobj) hselP hmethM habM hkP hkPi (g := g) hg (argsL := argsL) (rest := rest) (hlen _ hsigM) hstack hdg
  rcases hK m meth c ⟨T.setVm vm₁, locs, cells, slots⟩ { g with stack := rest } (.invokevirtual index) mk (Value.ref b :: argsL).toArray X₁ hg hsize hdg hW (X₁.named hnamed) (hpre vm₁ X₁.warmed) with ⟨v, B, X', hpost, hsteps⟩ | ⟨q, B, X', hpost, hsteps⟩
  · exact Or.inl ⟨v, vm₁, B, X₁.warmed, X', hpost, fun target h => hstep₁ _ fun acts => by rw [doInvoke_state]; exact hsteps.trans h⟩
  · exact Or.inr ⟨q, vm₁, B, X₁.warmed, X', hpost, hstep₁ _ fun acts => by rw [doInvoke_state]; exact hsteps⟩
theorem vx_callSN (X : Stand p l e R s m args below meth c T locs cells slots) (hexec : p.tables.exec = Jvm.exec) {own : String} {index : Nat} {host : String} {y : MethodName} {bytes : ByteArray} {maxL : Nat} {ret : Option FieldType}
    (hown : s.vm.findClass own = some m.cls) (hlink : (Cond.methodLinkNest own index y host).before args s = true) (hstat : (Cond.static y).before args s = true) (hinit : (Cond.initialized y.cls).before args s = true)
    (hcode : (Cond.code y bytes maxL ret).before args s = true) (hy : y.cls ≠ "java/lang/invoke/MethodHandle" ∧ y.cls ≠ "java/lang/invoke/VarHandle")
    {W : Nat} {Pre : Pt → Array Value → Prop} {Post : Pt → Array Value → Option Value → Pt → Prop} {PostX : Pt → Array Value → Addr → Pt → Prop} (hK : vx_Back l R p e below s args y 3 W Pre Post PostX)
    {g : JFrame} (hg : g.method = m) (hsize : g.locals.size = c.maxLocals) {argsL rest : List Value} (hlen : ∀ sig, parseMethodDescriptor y.desc = some sig → argsL.length = sig.parameters.length)
    (hstack : g.stack = argsL.reverse ++ rest) (hW : 2 * g.monitorRoom + (rest.map fun v => v.category).sum ≤ W) (hdg : decode c.code g.pc = .ok (.invokestatic index, 3))
    (hpre : ∀ vm₁, s.WarmedH vm₁ → Pre ⟨T.setVm vm₁, locs, cells, slots⟩ argsL.toArray) :
    (∃ (v : Option Value) (vm₁ : Vm) (B : Pt), s.WarmedH vm₁ ∧ Stand p l e R s m args below meth c B.U B.locs B.cells B.slots ∧ Post ⟨T.setVm vm₁, locs, cells, slots⟩ argsL.toArray v B ∧
      ∀ target, Steps p.tables e below (B.U.setTop { g with pc := g.pc + 3, stack := v.toList ++ rest }) target → Steps p.tables e below (T.setTop g) target) ∨
    (∃ (q : Addr) (vm₁ : Vm) (B : Pt), s.WarmedH vm₁ ∧ Stand p l e R s m args below meth c B.U B.locs B.cells B.slots ∧ PostX ⟨T.setVm vm₁, locs, cells, slots⟩ argsL.toArray q B ∧
      Steps p.tables e below (T.setTop g) ((B.U.setTop { g with stack := rest }).pushFrame (.throwing q))) := by
  obtain ⟨mk, hnamed⟩ := Cond.code_named hcode
  obtain ⟨methM, cM, hmethM, -, -, -, -, -, -, hsigM⟩ := Cond.code_spec hnamed hcode
  have hstatic : methM.isStatic = true := Cond.static_spec hnamed hmethM hstat
  obtain ⟨kP, hkP, -⟩ := className_of_methodNamed hnamed
  have hinitP : kP.init = .initialized := Cond.initialized_spec (findClass_of_methodNamed hnamed) hkP hinit
  obtain ⟨vm₁, X₁, hstep₁⟩ := X.invokestaticNest hexec hown hlink hnamed hmethM hstatic hkP hinitP hy (g := g) hg (argsL := argsL) (rest := rest) (hlen _ hsigM) hstack hdg
  rcases hK m meth c ⟨T.setVm vm₁, locs, cells, slots⟩ { g with stack := rest } (.invokestatic index) mk argsL.toArray X₁ hg hsize hdg hW (X₁.named hnamed) (hpre vm₁ X₁.warmed) with ⟨v, B, X', hpost, hsteps⟩ | ⟨q, B, X', hpost, hsteps⟩
  · exact Or.inl ⟨v, vm₁, B, X₁.warmed, X', hpost, fun target h => hstep₁ _ fun acts => by rw [doInvoke_state]; exact hsteps.trans h⟩
  · exact Or.inr ⟨q, vm₁, B, X₁.warmed, X', hpost, hstep₁ _ fun acts => by rw [doInvoke_state]; exact hsteps⟩
theorem vx_runVN {y : MethodName} {bytes cc : ByteArray} {maxL nL mc ms n index : Nat} {ret : Option FieldType} {ws : List Cond} {rm : Room} {Pc : Array Value → State → Prop} {Qc : Array Value → State → Outcome → State → Prop} {XC : String → State → State → Prop} {free : Addr → Prop} {Ts : List Cond} {own C host : String} {b : Addr} {As rest : List Value} {g : JFrame}
    (S : CallFix p m c cc nL s args Ts own) (hM : vx_Met l y ws rm Pc Qc XC mc ms free) (cw : va_CN R s args own index y host bytes maxL ret ws rm mc ms n ∧ (Cond.instanceMethod y).before args s = true ∧ (Cond.selects C y y).before args s = true) (hp : PreV s H C b Pc As)
    (hg : g.method = m) (hn : As.length = n) (hsize : g.locals.size = nL) (hstack : g.stack = As.reverse ++ .ref b :: rest) (hW : 2 * g.monitorRoom + (rest.map fun v => v.category).sum ≤ 8) (hdg : decode cc g.pc = .ok (.invokevirtual index, 3)) (hf : cells + mc ≤ R.cells ∧ slots + ms ≤ R.slots) :
    vx_Run p l e R s m args below meth c H locs cells slots mc ms g rest (Qc (Value.ref b :: As).toArray) XC free := by
  obtain ⟨⟨⟨hrc, hrs, hfr, hlo, hws, hcw⟩, hcode, hini, hy, hlen, hl⟩, hx1, hx2⟩ := cw
  have hK : vx_Back l R p e below s args y 3 8 (PreOf R mc ms Pc) (PostOf Qc mc ms free) (vx_Post XC mc ms free) := vx_back (bytes := bytes) (maxL := maxL) (ret := ret) hM hp.1 hrc hrs hfr hlo hws hcw (fun a' U hW => word_at hW (Or.inl (by first | rfl | simp [Cond.onTables, Cond.keeps, Cond.steady])) hini)
  obtain ⟨hx, hb, hml, ho, -⟩ := S
  obtain ⟨-, ⟨cellB, hcB, hoB, hclB⟩, hPc⟩ := hp
  intro T hT X
  rcases vx_callVN X hx (C := C) (bytes := bytes) (maxL := maxL) (ret := ret) ho hl hx1 hx2 hcode hy hK (by rw [hT]; exact hcB) hoB hclB hg (hsize.trans hml.symm) (argsL := As) (rest := rest) (fun sig h => hn.trans (hlen sig h)) hstack hW (by rw [hb]; exact hdg)
    (fun vm₁ hW₁ => ⟨hf.1, hf.2, hPc (T.setVm vm₁) hT hW₁⟩) with ⟨v, vm₁, ⟨U', l2, c2, s2⟩, hW₁, X', ⟨g', mk, t, L, e1, e2, hq, h1, hL, h2, h3⟩, st⟩ | ⟨q, vm₁, ⟨U', l2, c2, s2⟩, hW₁, X', ⟨g', mk, t, L, E, ce, e1, e2, hq, hce, hcv, hcl, h1, hL, h2, h3⟩, st⟩
  · dsimp only [Pt.U, Pt.locs, Pt.cells, Pt.slots] at X' e1 e2 h1 h2 h3 st
    subst h1; subst h2; subst h3
    exact Or.inl ⟨v, (T.setVm vm₁).calling g' mk (Value.ref b :: As).toArray, t, U', L, hT, X', hL, e1, e2, hq, st⟩
  · dsimp only [Pt.U, Pt.locs, Pt.cells, Pt.slots] at X' e1 e2 h1 h2 h3 st hcl
    subst h1; subst h2; subst h3
    exact Or.inr ⟨q, (T.setVm vm₁).calling g' mk (Value.ref b :: As).toArray, t, U', L, E, ce, hT, X', hL, e1, e2, hq, hce, hcv, vx_cls hW₁ hcl, st⟩
theorem vx_runSN {y : MethodName} {bytes cc : ByteArray} {maxL nL mc ms n index : Nat} {ret : Option FieldType} {ws : List Cond} {rm : Room} {Pc : Array Value → State → Prop} {Qc : Array Value → State → Outcome → State → Prop} {XC : String → State → State → Prop} {free : Addr → Prop} {Ts : List Cond} {own host : String} {As rest : List Value} {g : JFrame}
    (S : CallFix p m c cc nL s args Ts own) (hM : vx_Met l y ws rm Pc Qc XC mc ms free) (cw : va_CN R s args own index y host bytes maxL ret ws rm mc ms n ∧ (Cond.static y).before args s = true ∧ True) (hp : PreS s H Pc As)
    (hg : g.method = m) (hn : As.length = n) (hsize : g.locals.size = nL) (hstack : g.stack = As.reverse ++ rest) (hW : 2 * g.monitorRoom + (rest.map fun v => v.category).sum ≤ 8) (hdg : decode cc g.pc = .ok (.invokestatic index, 3)) (hf : cells + mc ≤ R.cells ∧ slots + ms ≤ R.slots) :
    vx_Run p l e R s m args below meth c H locs cells slots mc ms g rest (Qc As.toArray) XC free := by
  obtain ⟨⟨⟨hrc, hrs, hfr, hlo, hws, hcw⟩, hcode, hini, hy, hlen, hl⟩, hx1, hx2⟩ := cw
  have hK : vx_Back l R p e below s args y 3 8 (PreOf R mc ms Pc) (PostOf Qc mc ms free) (vx_Post XC mc ms free) := vx_back (bytes := bytes) (maxL := maxL) (ret := ret) hM hp.1 hrc hrs hfr hlo hws hcw (fun a' U hW => word_at hW (Or.inl (by first | rfl | simp [Cond.onTables, Cond.keeps, Cond.steady])) hini)
  obtain ⟨hx, hb, hml, ho, -⟩ := S
  have hPc := hp.2
  intro T hT X
  rcases vx_callSN X hx (bytes := bytes) (maxL := maxL) (ret := ret) ho hl hx1 hini hcode hy hK hg (hsize.trans hml.symm) (argsL := As) (rest := rest) (fun sig h => hn.trans (hlen sig h)) hstack hW (by rw [hb]; exact hdg)
    (fun vm₁ hW₁ => ⟨hf.1, hf.2, hPc (T.setVm vm₁) hT hW₁⟩) with ⟨v, vm₁, ⟨U', l2, c2, s2⟩, hW₁, X', ⟨g', mk, t, L, e1, e2, hq, h1, hL, h2, h3⟩, st⟩ | ⟨q, vm₁, ⟨U', l2, c2, s2⟩, hW₁, X', ⟨g', mk, t, L, E, ce, e1, e2, hq, hce, hcv, hcl, h1, hL, h2, h3⟩, st⟩
  · dsimp only [Pt.U, Pt.locs, Pt.cells, Pt.slots] at X' e1 e2 h1 h2 h3 st
    subst h1; subst h2; subst h3
    exact Or.inl ⟨v, (T.setVm vm₁).calling g' mk As.toArray, t, U', L, hT, X', hL, e1, e2, hq, st⟩
  · dsimp only [Pt.U, Pt.locs, Pt.cells, Pt.slots] at X' e1 e2 h1 h2 h3 st hcl
    subst h1; subst h2; subst h3
    exact Or.inr ⟨q, (T.setVm vm₁).calling g' mk As.toArray, t, U', L, E, ce, hT, X', hL, e1, e2, hq, hce, hcv, vx_cls hW₁ hcl, st⟩
end
/-! ===== END ===== -/
/-! ===== BEGIN calls by an interface of methods that may throw (vx_callIF, vx_runF follow va_callIF, va_runF of this kit) ===== -/
section
variable {p : Program} {l : Launch} {e : Env} {R : Room} {s : State} {m : MethodId} {args : Array Value} {below : List Frame} {meth : Method} {c : Code} {H : Heap} {locs : List Loc} {cells slots : Nat} {Q : State → Prop}
variable {mc ms : Nat} {free : Addr → Prop} {A0 A1 : Nat → Prop} {H0 : Heap} {a : Array Value} {pc : Nat} {ls : Array Slot} {st0 rest : List Value}
def vx_Run5 (p : Program) (l : Launch) (e : Env) (R : Room) (s : State) (m : MethodId) (args : Array Value) (below : List Frame) (meth : Method) (c : Code) (H : Heap) (locs : List Loc) (cells slots mc ms : Nat) (g : JFrame) (rest : List Value) (Qa : State → Outcome → State → Prop) (XC : String → State → State → Prop) (free : Addr → Prop) : Prop :=
  ∀ T : State, T.heap = H → Stand p l e R s m args below meth c T locs cells slots →
    (∃ (v : Option Value) (st₀ t T' : State) (L : List Loc), st₀.heap = H ∧ Stand p l e R s m args below meth c T' (locs ++ L) (cells + mc) (slots + ms) ∧ (∀ q ∈ L, free q.base) ∧ T'.heap = t.heap ∧ T'.vm = t.vm ∧ Qa st₀ (.returned v) t ∧
      Goes p e below T g T' { g with pc := g.pc + 5, stack := v.toList ++ rest }) ∨
    (∃ (q : Addr) (st₀ t T' : State) (L : List Loc) (E : String) (ce : Cell), st₀.heap = H ∧ Stand p l e R s m args below meth c T' (locs ++ L) (cells + mc) (slots + ms) ∧ (∀ z ∈ L, free z.base) ∧ T'.heap = t.heap ∧ T'.vm = t.vm ∧ XC E st₀ t ∧ t.heap[q]? = some ce ∧ ce.vm = .none ∧ s.vm.findClass E = some ce.cls ∧
      Steps p.tables e below (T.setTop g) ((T'.setTop { g with stack := rest }).pushFrame (.throwing q)))
theorem vx_callIF {T : State} (X : Stand p l e R s m args below meth c T locs cells slots) (hexec : p.tables.exec = Jvm.exec) {own C : String} {index count : Nat} {x y : MethodName} {bytes : ByteArray} {maxL : Nat} {ret : Option FieldType}
    (hown : s.vm.findClass own = some m.cls) (hlink : (Cond.methodLink own index x).before args s = true) (hdecl : (Cond.declares x).before args s = true) (hface : (Cond.interfaceMethod x.cls x.cls x.name x.desc).before args s = true)
    (hsel : (Cond.selects C x y).before args s = true) (hinst : (Cond.instanceMethod y).before args s = true) (hpub : (Cond.publicMethod y).before args s = true) (hunh : (Cond.unhidden C x.name x.desc).before args s = true)
    (hcast : (Cond.castable C x.cls).before args s = true) (hcode : (Cond.code y bytes maxL ret).before args s = true) (hx : x.cls ≠ "java/lang/invoke/MethodHandle" ∧ x.cls ≠ "java/lang/invoke/VarHandle")
    {W9 : Nat} {Pre : Pt → Array Value → Prop} {Post : Pt → Array Value → Option Value → Pt → Prop} {PostX : Pt → Array Value → Addr → Pt → Prop} (hK : vx_Back l R p e below s args y 5 W9 Pre Post PostX)
    {b : Addr} {cellB : Cell} {kB : Class} (hcell : T.heap[b]? = some cellB) (hobj : cellB.vm.isStatics = false) (hcls : s.vm.findClass C = some cellB.cls) (hkB : s.vm.classes[cellB.cls]? = some kB)
    {g : JFrame} (hg : g.method = m) (hsize : g.locals.size = c.maxLocals) {argsL rest : List Value} (hlen : ∀ sig, parseMethodDescriptor x.desc = some sig → argsL.length = sig.parameters.length)
    (hstack : g.stack = argsL.reverse ++ .ref b :: rest) (hW : 2 * g.monitorRoom + (rest.map fun v => v.category).sum ≤ W9) (hdg : decode c.code g.pc = .ok (.invokeinterface index count, 5))
    (hpre : ∀ vm₁, s.WarmedH vm₁ → Pre ⟨T.setVm vm₁, locs, cells, slots⟩ (Value.ref b :: argsL).toArray) :
    (∃ (v : Option Value) (vm₁ : Vm) (B : Pt), s.WarmedH vm₁ ∧ Stand p l e R s m args below meth c B.U B.locs B.cells B.slots ∧ Post ⟨T.setVm vm₁, locs, cells, slots⟩ (Value.ref b :: argsL).toArray v B ∧
      ∀ target, Steps p.tables e below (B.U.setTop { g with pc := g.pc + 5, stack := v.toList ++ rest }) target → Steps p.tables e below (T.setTop g) target) ∨
    (∃ (q : Addr) (vm₁ : Vm) (B : Pt), s.WarmedH vm₁ ∧ Stand p l e R s m args below meth c B.U B.locs B.cells B.slots ∧ PostX ⟨T.setVm vm₁, locs, cells, slots⟩ (Value.ref b :: argsL).toArray q B ∧
      Steps p.tables e below (T.setTop g) ((B.U.setTop { g with stack := rest }).pushFrame (.throwing q))) := by
  obtain ⟨r0, r, hn, hrm, hstR, hsigR⟩ := Cond.declares_spec hdecl
  obtain ⟨cL, kL, r1, hcL, hkL, hiL, hfoundL, hn1⟩ := Cond.interfaceMethod_spec hface
  cases hn.symm.trans hn1
  have hr0cls : r0.cls = cL := Option.some.inj ((findClass_of_methodNamed hn).symm.trans hcL)
  obtain ⟨hnameR, hdescR⟩ := name_of_methodNamed hn hrm
  obtain ⟨mk, methM, hnamed, hmethM, -, habM⟩ := Cond.instanceMethod_spec hinst
  obtain ⟨c2, r2, m2, q1, q2, q3, q4, -⟩ := Cond.selects_spec hsel
  cases hcls.symm.trans q1
  cases hfoundL.symm.trans q2
  cases hnamed.symm.trans q3
  have hselP : selectMethod e.platform s.vm cellB.cls r0 = .method mk := by rw [Launch.admits_selectMethod X.admits]; exact q4
  have hpubM : hasFlag methM.accessFlags Acc.public_ = true := Cond.publicMethod_spec hnamed hmethM hpub
  have hway : ((cellB.cls :: s.vm.superclasses cellB.cls).any fun k => (declaredIn s.vm r.name r.desc k).any fun (_, z) => z.isPrivate || z.isStatic) = false := by
    rw [hnameR, hdescR]; exact Cond.unhidden_spec hcls hunh
  obtain ⟨c3, t3, w1, w2, w3⟩ := Cond.castable_spec hcast
  cases hcls.symm.trans w1
  cases hcL.symm.trans w2
  obtain ⟨vm₁, X₁, hstep₁⟩ := X.invokeinterface hexec hown hlink hn hrm hstR (by rw [hr0cls]; exact hkL) hiL hx (a := b) (cell := cellB) (kcell := kB) hcell
    (fun z h => by rw [h] at hobj; cases hobj) hkB (by rw [hr0cls]; exact w3) hselP hmethM hway hpubM habM (g := g) hg (argsL := argsL) (rest := rest) (hlen _ hsigR) hstack hdg
  rcases hK m meth c ⟨T.setVm vm₁, locs, cells, slots⟩ { g with stack := rest } (.invokeinterface index count) mk (Value.ref b :: argsL).toArray X₁ hg hsize hdg hW (X₁.named hnamed) (hpre vm₁ X₁.warmed) with ⟨v, B, X', hpost, hsteps⟩ | ⟨q, B, X', hpost, hsteps⟩
  · exact Or.inl ⟨v, vm₁, B, X₁.warmed, X', hpost, fun target h => hstep₁ _ fun acts => by rw [doInvoke_state]; exact hsteps.trans h⟩
  · exact Or.inr ⟨q, vm₁, B, X₁.warmed, X', hpost, hstep₁ _ fun acts => by rw [doInvoke_state]; exact hsteps⟩
theorem vx_runF {x y : MethodName} {bytes cc : ByteArray} {maxL nL mc ms n index count : Nat} {ret : Option FieldType} {ws : List Cond} {rm : Room} {Pc : Array Value → State → Prop} {Qc : Array Value → State → Outcome → State → Prop} {XC : String → State → State → Prop} {free : Addr → Prop} {Ts : List Cond} {own C : String} {cC : ClassId} {b : Addr} {As rest : List Value} {g : JFrame}
    (hat : ClassAt s C cC) (S : CallFix p m c cc nL s args Ts own) (hM : vx_Met l y ws rm Pc Qc XC mc ms free) (cw : va_CI R s args own C index x y bytes maxL ret ws rm mc ms n) (hp : PreV s H C b Pc As)
    (hg : g.method = m) (hn : As.length = n) (hsize : g.locals.size = nL) (hstack : g.stack = As.reverse ++ .ref b :: rest) (hW : 2 * g.monitorRoom + (rest.map fun v => v.category).sum ≤ 8) (hdg : decode cc g.pc = .ok (.invokeinterface index count, 5)) (hf : cells + mc ≤ R.cells ∧ slots + ms ≤ R.slots) :
    vx_Run5 p l e R s m args below meth c H locs cells slots mc ms g rest (Qc (Value.ref b :: As).toArray) XC free := by
  obtain ⟨hrc, hrs, hfr, hlo, hws, hcw⟩ := cw.back
  have hini := cw.init
  have hK : vx_Back l R p e below s args y 5 8 (PreOf R mc ms Pc) (PostOf Qc mc ms free) (vx_Post XC mc ms free) := vx_back (bytes := bytes) (maxL := maxL) (ret := ret) hM hp.1 hrc hrs hfr hlo hws hcw (fun a' U hW => word_at hW (Or.inl (by first | rfl | simp [Cond.onTables, Cond.keeps, Cond.steady])) hini)
  obtain ⟨hx, hb, hml, ho, -⟩ := S
  obtain ⟨-, ⟨cellB, hcB, hoB, hclB⟩, hPc⟩ := hp
  obtain ⟨hfc, kB, hkB, -⟩ := hat
  cases hfc.symm.trans hclB
  intro T hT X
  rcases vx_callIF X hx (C := C) (bytes := bytes) (maxL := maxL) (ret := ret) ho cw.link cw.decl cw.face cw.sel cw.inst cw.pub cw.unh cw.cast cw.code cw.notMH hK (by rw [hT]; exact hcB) hoB hclB hkB hg (hsize.trans hml.symm) (argsL := As) (rest := rest) (fun sig h => hn.trans (cw.len sig h)) hstack hW (by rw [hb]; exact hdg)
    (fun vm₁ hW₁ => ⟨hf.1, hf.2, hPc (T.setVm vm₁) hT hW₁⟩) with ⟨v, vm₁, ⟨U', l2, c2, s2⟩, hW₁, X', ⟨g', mk, t, L, e1, e2, hq, h1, hL, h2, h3⟩, st⟩ | ⟨q, vm₁, ⟨U', l2, c2, s2⟩, hW₁, X', ⟨g', mk, t, L, E, ce, e1, e2, hq, hce, hcv, hcl, h1, hL, h2, h3⟩, st⟩
  · dsimp only [Pt.U, Pt.locs, Pt.cells, Pt.slots] at X' e1 e2 h1 h2 h3 st
    subst h1; subst h2; subst h3
    exact Or.inl ⟨v, (T.setVm vm₁).calling g' mk (Value.ref b :: As).toArray, t, U', L, hT, X', hL, e1, e2, hq, st⟩
  · dsimp only [Pt.U, Pt.locs, Pt.cells, Pt.slots] at X' e1 e2 h1 h2 h3 st hcl
    subst h1; subst h2; subst h3
    exact Or.inr ⟨q, (T.setVm vm₁).calling g' mk (Value.ref b :: As).toArray, t, U', L, E, ce, hT, X', hL, e1, e2, hq, hce, hcv, vx_cls hW₁ hcl, st⟩
theorem vx_callFv {S SX : Type} {post : S → Prop} {px : SX → Prop} {B : S → State → Prop} {BX : String → SX → State → Prop} {AX : Nat → Prop} (hr : vx_Run5 p l e R s m args below meth c H locs cells slots mc ms (F0 m pc ls st0) rest (va_Qv post B A1 a) (vx_X px BX AX) free) (hS : va_S A0 H0 H locs) (hA : ∀ q, q < H.size → A1 q → A0 q) (hf : ∀ q, free q → A0 q) (hAX : ∀ q, q < H.size → AX q → A0 q)
    (kx : ∀ (E : String) (ce : Cell) (q9 : Addr) (u : SX) (t : State) (H1 : Heap) (locs1 : List Loc), t.heap = H1 → s.vm.Alike t.vm → px u → BX E u t → H.size ≤ H1.size → (∀ q : Nat, q < H.size → ¬ AX q → H1[q]? = H[q]?) → va_S A0 H0 H1 locs1 → H1[q9]? = some ce → ce.vm = .none → s.vm.findClass E = some ce.cls → vx_W p l e R s m args below meth c H1 locs1 (cells + mc) (slots + ms) Q (F0 m pc ls rest) q9)
    (kk : ∀ (u : S) (t : State) (H1 : Heap) (locs1 : List Loc), t.heap = H1 → s.vm.Alike t.vm → post u → B u t → H.size ≤ H1.size → (∀ q : Nat, q < H.size → ¬ A1 q → H1[q]? = H[q]?) → va_S A0 H0 H1 locs1 → W p l e R s m args below meth c H1 locs1 (cells + mc) (slots + ms) Q (F0 m (pc + 5) ls (rest))) : W p l e R s m args below meth c H locs cells slots Q (F0 m pc ls st0) := by
  intro T hT X
  rcases hr T hT X with ⟨v, st₀, t, T', L, h0, X', hL, e1, e2, ⟨⟨u, hv, hp, hb⟩, hF⟩, st⟩ | ⟨q, st₀, t, T', L, E, ce, h0, X', hL, e1, e2, ⟨u, hp, hb, hF⟩, hce, hcv, hcl, st⟩
  · cases hv
    obtain ⟨k1, k2, k3⟩ := vx_keep h0 e1 hS hA hf hL hF
    obtain ⟨t2, a1, b1⟩ := kk u t T'.heap (locs ++ L) e1.symm (by rw [← e2]; exact X'.warmed.alike) hp hb k1 k2 k3 T' rfl X'
    exact ⟨t2, st t2 a1, b1⟩
  · obtain ⟨k1, k2, k3⟩ := vx_keep h0 e1 hS hAX hf hL hF
    obtain ⟨t2, a1, b1⟩ := kx E ce q u t T'.heap (locs ++ L) e1.symm (by rw [← e2]; exact X'.warmed.alike) hp hb k1 k2 k3 (by rw [e1]; exact hce) hcv hcl T' rfl X'
    exact ⟨t2, st.trans a1, b1⟩
theorem vx_callFi {S SX : Type} {post : Int32 → S → Prop} {px : SX → Prop} {B : S → State → Prop} {BX : String → SX → State → Prop} {AX : Nat → Prop} (hr : vx_Run5 p l e R s m args below meth c H locs cells slots mc ms (F0 m pc ls st0) rest (va_Qi post B A1 a) (vx_X px BX AX) free) (hS : va_S A0 H0 H locs) (hA : ∀ q, q < H.size → A1 q → A0 q) (hf : ∀ q, free q → A0 q) (hAX : ∀ q, q < H.size → AX q → A0 q)
    (kx : ∀ (E : String) (ce : Cell) (q9 : Addr) (u : SX) (t : State) (H1 : Heap) (locs1 : List Loc), t.heap = H1 → s.vm.Alike t.vm → px u → BX E u t → H.size ≤ H1.size → (∀ q : Nat, q < H.size → ¬ AX q → H1[q]? = H[q]?) → va_S A0 H0 H1 locs1 → H1[q9]? = some ce → ce.vm = .none → s.vm.findClass E = some ce.cls → vx_W p l e R s m args below meth c H1 locs1 (cells + mc) (slots + ms) Q (F0 m pc ls rest) q9)
    (kk : ∀ (r : Int32) (u : S) (t : State) (H1 : Heap) (locs1 : List Loc), t.heap = H1 → s.vm.Alike t.vm → post r u → B u t → H.size ≤ H1.size → (∀ q : Nat, q < H.size → ¬ A1 q → H1[q]? = H[q]?) → va_S A0 H0 H1 locs1 → W p l e R s m args below meth c H1 locs1 (cells + mc) (slots + ms) Q (F0 m (pc + 5) ls (.int r :: rest))) : W p l e R s m args below meth c H locs cells slots Q (F0 m pc ls st0) := by
  intro T hT X
  rcases hr T hT X with ⟨v, st₀, t, T', L, h0, X', hL, e1, e2, ⟨⟨r, u, hv, hp, hb⟩, hF⟩, st⟩ | ⟨q, st₀, t, T', L, E, ce, h0, X', hL, e1, e2, ⟨u, hp, hb, hF⟩, hce, hcv, hcl, st⟩
  · cases hv
    obtain ⟨k1, k2, k3⟩ := vx_keep h0 e1 hS hA hf hL hF
    obtain ⟨t2, a1, b1⟩ := kk r u t T'.heap (locs ++ L) e1.symm (by rw [← e2]; exact X'.warmed.alike) hp hb k1 k2 k3 T' rfl X'
    exact ⟨t2, st t2 a1, b1⟩
  · obtain ⟨k1, k2, k3⟩ := vx_keep h0 e1 hS hAX hf hL hF
    obtain ⟨t2, a1, b1⟩ := kx E ce q u t T'.heap (locs ++ L) e1.symm (by rw [← e2]; exact X'.warmed.alike) hp hb k1 k2 k3 (by rw [e1]; exact hce) hcv hcl T' rfl X'
    exact ⟨t2, st.trans a1, b1⟩
theorem vx_callFl {S SX : Type} {post : Int64 → S → Prop} {px : SX → Prop} {B : S → State → Prop} {BX : String → SX → State → Prop} {AX : Nat → Prop} (hr : vx_Run5 p l e R s m args below meth c H locs cells slots mc ms (F0 m pc ls st0) rest (va_Ql post B A1 a) (vx_X px BX AX) free) (hS : va_S A0 H0 H locs) (hA : ∀ q, q < H.size → A1 q → A0 q) (hf : ∀ q, free q → A0 q) (hAX : ∀ q, q < H.size → AX q → A0 q)
    (kx : ∀ (E : String) (ce : Cell) (q9 : Addr) (u : SX) (t : State) (H1 : Heap) (locs1 : List Loc), t.heap = H1 → s.vm.Alike t.vm → px u → BX E u t → H.size ≤ H1.size → (∀ q : Nat, q < H.size → ¬ AX q → H1[q]? = H[q]?) → va_S A0 H0 H1 locs1 → H1[q9]? = some ce → ce.vm = .none → s.vm.findClass E = some ce.cls → vx_W p l e R s m args below meth c H1 locs1 (cells + mc) (slots + ms) Q (F0 m pc ls rest) q9)
    (kk : ∀ (r : Int64) (u : S) (t : State) (H1 : Heap) (locs1 : List Loc), t.heap = H1 → s.vm.Alike t.vm → post r u → B u t → H.size ≤ H1.size → (∀ q : Nat, q < H.size → ¬ A1 q → H1[q]? = H[q]?) → va_S A0 H0 H1 locs1 → W p l e R s m args below meth c H1 locs1 (cells + mc) (slots + ms) Q (F0 m (pc + 5) ls (.long r :: rest))) : W p l e R s m args below meth c H locs cells slots Q (F0 m pc ls st0) := by
  intro T hT X
  rcases hr T hT X with ⟨v, st₀, t, T', L, h0, X', hL, e1, e2, ⟨⟨r, u, hv, hp, hb⟩, hF⟩, st⟩ | ⟨q, st₀, t, T', L, E, ce, h0, X', hL, e1, e2, ⟨u, hp, hb, hF⟩, hce, hcv, hcl, st⟩
  · cases hv
    obtain ⟨k1, k2, k3⟩ := vx_keep h0 e1 hS hA hf hL hF
    obtain ⟨t2, a1, b1⟩ := kk r u t T'.heap (locs ++ L) e1.symm (by rw [← e2]; exact X'.warmed.alike) hp hb k1 k2 k3 T' rfl X'
    exact ⟨t2, st t2 a1, b1⟩
  · obtain ⟨k1, k2, k3⟩ := vx_keep h0 e1 hS hAX hf hL hF
    obtain ⟨t2, a1, b1⟩ := kx E ce q u t T'.heap (locs ++ L) e1.symm (by rw [← e2]; exact X'.warmed.alike) hp hb k1 k2 k3 (by rw [e1]; exact hce) hcv hcl T' rfl X'
    exact ⟨t2, st.trans a1, b1⟩
theorem vx_callFf {S SX : Type} {post : UInt32 → S → Prop} {px : SX → Prop} {B : S → State → Prop} {BX : String → SX → State → Prop} {AX : Nat → Prop} (hr : vx_Run5 p l e R s m args below meth c H locs cells slots mc ms (F0 m pc ls st0) rest (va_Qf post B A1 a) (vx_X px BX AX) free) (hS : va_S A0 H0 H locs) (hA : ∀ q, q < H.size → A1 q → A0 q) (hf : ∀ q, free q → A0 q) (hAX : ∀ q, q < H.size → AX q → A0 q)
    (kx : ∀ (E : String) (ce : Cell) (q9 : Addr) (u : SX) (t : State) (H1 : Heap) (locs1 : List Loc), t.heap = H1 → s.vm.Alike t.vm → px u → BX E u t → H.size ≤ H1.size → (∀ q : Nat, q < H.size → ¬ AX q → H1[q]? = H[q]?) → va_S A0 H0 H1 locs1 → H1[q9]? = some ce → ce.vm = .none → s.vm.findClass E = some ce.cls → vx_W p l e R s m args below meth c H1 locs1 (cells + mc) (slots + ms) Q (F0 m pc ls rest) q9)
    (kk : ∀ (r : UInt32) (u : S) (t : State) (H1 : Heap) (locs1 : List Loc), t.heap = H1 → s.vm.Alike t.vm → post r u → B u t → H.size ≤ H1.size → (∀ q : Nat, q < H.size → ¬ A1 q → H1[q]? = H[q]?) → va_S A0 H0 H1 locs1 → W p l e R s m args below meth c H1 locs1 (cells + mc) (slots + ms) Q (F0 m (pc + 5) ls (.float r :: rest))) : W p l e R s m args below meth c H locs cells slots Q (F0 m pc ls st0) := by
  intro T hT X
  rcases hr T hT X with ⟨v, st₀, t, T', L, h0, X', hL, e1, e2, ⟨⟨r, u, hv, hp, hb⟩, hF⟩, st⟩ | ⟨q, st₀, t, T', L, E, ce, h0, X', hL, e1, e2, ⟨u, hp, hb, hF⟩, hce, hcv, hcl, st⟩
  · cases hv
    obtain ⟨k1, k2, k3⟩ := vx_keep h0 e1 hS hA hf hL hF
    obtain ⟨t2, a1, b1⟩ := kk r u t T'.heap (locs ++ L) e1.symm (by rw [← e2]; exact X'.warmed.alike) hp hb k1 k2 k3 T' rfl X'
    exact ⟨t2, st t2 a1, b1⟩
  · obtain ⟨k1, k2, k3⟩ := vx_keep h0 e1 hS hAX hf hL hF
    obtain ⟨t2, a1, b1⟩ := kx E ce q u t T'.heap (locs ++ L) e1.symm (by rw [← e2]; exact X'.warmed.alike) hp hb k1 k2 k3 (by rw [e1]; exact hce) hcv hcl T' rfl X'
    exact ⟨t2, st.trans a1, b1⟩
theorem vx_callFd {S SX : Type} {post : UInt64 → S → Prop} {px : SX → Prop} {B : S → State → Prop} {BX : String → SX → State → Prop} {AX : Nat → Prop} (hr : vx_Run5 p l e R s m args below meth c H locs cells slots mc ms (F0 m pc ls st0) rest (va_Qd post B A1 a) (vx_X px BX AX) free) (hS : va_S A0 H0 H locs) (hA : ∀ q, q < H.size → A1 q → A0 q) (hf : ∀ q, free q → A0 q) (hAX : ∀ q, q < H.size → AX q → A0 q)
    (kx : ∀ (E : String) (ce : Cell) (q9 : Addr) (u : SX) (t : State) (H1 : Heap) (locs1 : List Loc), t.heap = H1 → s.vm.Alike t.vm → px u → BX E u t → H.size ≤ H1.size → (∀ q : Nat, q < H.size → ¬ AX q → H1[q]? = H[q]?) → va_S A0 H0 H1 locs1 → H1[q9]? = some ce → ce.vm = .none → s.vm.findClass E = some ce.cls → vx_W p l e R s m args below meth c H1 locs1 (cells + mc) (slots + ms) Q (F0 m pc ls rest) q9)
    (kk : ∀ (r : UInt64) (u : S) (t : State) (H1 : Heap) (locs1 : List Loc), t.heap = H1 → s.vm.Alike t.vm → post r u → B u t → H.size ≤ H1.size → (∀ q : Nat, q < H.size → ¬ A1 q → H1[q]? = H[q]?) → va_S A0 H0 H1 locs1 → W p l e R s m args below meth c H1 locs1 (cells + mc) (slots + ms) Q (F0 m (pc + 5) ls (.double r :: rest))) : W p l e R s m args below meth c H locs cells slots Q (F0 m pc ls st0) := by
  intro T hT X
  rcases hr T hT X with ⟨v, st₀, t, T', L, h0, X', hL, e1, e2, ⟨⟨r, u, hv, hp, hb⟩, hF⟩, st⟩ | ⟨q, st₀, t, T', L, E, ce, h0, X', hL, e1, e2, ⟨u, hp, hb, hF⟩, hce, hcv, hcl, st⟩
  · cases hv
    obtain ⟨k1, k2, k3⟩ := vx_keep h0 e1 hS hA hf hL hF
    obtain ⟨t2, a1, b1⟩ := kk r u t T'.heap (locs ++ L) e1.symm (by rw [← e2]; exact X'.warmed.alike) hp hb k1 k2 k3 T' rfl X'
    exact ⟨t2, st t2 a1, b1⟩
  · obtain ⟨k1, k2, k3⟩ := vx_keep h0 e1 hS hAX hf hL hF
    obtain ⟨t2, a1, b1⟩ := kx E ce q u t T'.heap (locs ++ L) e1.symm (by rw [← e2]; exact X'.warmed.alike) hp hb k1 k2 k3 (by rw [e1]; exact hce) hcv hcl T' rfl X'
    exact ⟨t2, st.trans a1, b1⟩
end
/-! ===== END ===== -/
/-! ===== BEGIN by an interface, a method with a table of its own that may throw (follows va_callIFW, va_runFW) ===== -/
section
variable {p : Program} {l : Launch} {e : Env} {R : Room} {s : State} {m : MethodId} {args : Array Value} {below : List Frame} {meth : Method} {c : Code} {H : Heap} {locs : List Loc} {cells slots : Nat}
theorem vx_callIFW {T : State} (X : Stand p l e R s m args below meth c T locs cells slots) (hexec : p.tables.exec = Jvm.exec) {own C : String} {index count : Nat} {x y : MethodName} {bytes : ByteArray} {maxL : Nat} {ret : Option FieldType} {hh : List (Nat × Nat × Nat × Nat)}
    (hown : s.vm.findClass own = some m.cls) (hlink : (Cond.methodLink own index x).before args s = true) (hdecl : (Cond.declares x).before args s = true) (hface : (Cond.interfaceMethod x.cls x.cls x.name x.desc).before args s = true)
    (hsel : (Cond.selects C x y).before args s = true) (hinst : (Cond.instanceMethod y).before args s = true) (hpub : (Cond.publicMethod y).before args s = true) (hunh : (Cond.unhidden C x.name x.desc).before args s = true)
    (hcast : (Cond.castable C x.cls).before args s = true) (hcode : (Cond.codeWith y bytes maxL ret hh).before args s = true) (hx : x.cls ≠ "java/lang/invoke/MethodHandle" ∧ x.cls ≠ "java/lang/invoke/VarHandle")
    {W : Nat} {Pre : Pt → Array Value → Prop} {Post : Pt → Array Value → Option Value → Pt → Prop} {PostX : Pt → Array Value → Addr → Pt → Prop} (hK : vx_Back l R p e below s args y 5 W Pre Post PostX)
    {b : Addr} {cellB : Cell} {kB : Class} (hcell : T.heap[b]? = some cellB) (hobj : cellB.vm.isStatics = false) (hcls : s.vm.findClass C = some cellB.cls) (hkB : s.vm.classes[cellB.cls]? = some kB)
    {g : JFrame} (hg : g.method = m) (hsize : g.locals.size = c.maxLocals) {argsL rest : List Value} (hlen : ∀ sig, parseMethodDescriptor x.desc = some sig → argsL.length = sig.parameters.length)
    (hstack : g.stack = argsL.reverse ++ .ref b :: rest) (hW : 2 * g.monitorRoom + (rest.map fun v => v.category).sum ≤ W) (hdg : decode c.code g.pc = .ok (.invokeinterface index count, 5))
    (hpre : ∀ vm₁, s.WarmedH vm₁ → Pre ⟨T.setVm vm₁, locs, cells, slots⟩ (Value.ref b :: argsL).toArray) :
    (∃ (v : Option Value) (vm₁ : Vm) (B : Pt), s.WarmedH vm₁ ∧ Stand p l e R s m args below meth c B.U B.locs B.cells B.slots ∧ Post ⟨T.setVm vm₁, locs, cells, slots⟩ (Value.ref b :: argsL).toArray v B ∧
      ∀ target, Steps p.tables e below (B.U.setTop { g with pc := g.pc + 5, stack := v.toList ++ rest }) target → Steps p.tables e below (T.setTop g) target) ∨
    (∃ (q : Addr) (vm₁ : Vm) (B : Pt), s.WarmedH vm₁ ∧ Stand p l e R s m args below meth c B.U B.locs B.cells B.slots ∧ PostX ⟨T.setVm vm₁, locs, cells, slots⟩ (Value.ref b :: argsL).toArray q B ∧
      Steps p.tables e below (T.setTop g) ((B.U.setTop { g with stack := rest }).pushFrame (.throwing q))) := by
  obtain ⟨r0, r, hn, hrm, hstR, hsigR⟩ := Cond.declares_spec hdecl
  obtain ⟨cL, kL, r1, hcL, hkL, hiL, hfoundL, hn1⟩ := Cond.interfaceMethod_spec hface
  cases hn.symm.trans hn1
  have hr0cls : r0.cls = cL := Option.some.inj ((findClass_of_methodNamed hn).symm.trans hcL)
  obtain ⟨hnameR, hdescR⟩ := name_of_methodNamed hn hrm
  obtain ⟨mk, methM, hnamed, hmethM, -, habM⟩ := Cond.instanceMethod_spec hinst
  obtain ⟨c2, r2, m2, q1, q2, q3, q4, -⟩ := Cond.selects_spec hsel
  cases hcls.symm.trans q1
  cases hfoundL.symm.trans q2
  cases hnamed.symm.trans q3
  have hselP : selectMethod e.platform s.vm cellB.cls r0 = .method mk := by rw [Launch.admits_selectMethod X.admits]; exact q4
  have hpubM : hasFlag methM.accessFlags Acc.public_ = true := Cond.publicMethod_spec hnamed hmethM hpub
  have hway : ((cellB.cls :: s.vm.superclasses cellB.cls).any fun k => (declaredIn s.vm r.name r.desc k).any fun (_, z) => z.isPrivate || z.isStatic) = false := by
    rw [hnameR, hdescR]; exact Cond.unhidden_spec hcls hunh
  obtain ⟨c3, t3, w1, w2, w3⟩ := Cond.castable_spec hcast
  cases hcls.symm.trans w1
  cases hcL.symm.trans w2
  obtain ⟨vm₁, X₁, hstep₁⟩ := X.invokeinterface hexec hown hlink hn hrm hstR (by rw [hr0cls]; exact hkL) hiL hx (a := b) (cell := cellB) (kcell := kB) hcell
    (fun z h => by rw [h] at hobj; cases hobj) hkB (by rw [hr0cls]; exact w3) hselP hmethM hway hpubM habM (g := g) hg (argsL := argsL) (rest := rest) (hlen _ hsigR) hstack hdg
  rcases hK m meth c ⟨T.setVm vm₁, locs, cells, slots⟩ { g with stack := rest } (.invokeinterface index count) mk (Value.ref b :: argsL).toArray X₁ hg hsize hdg hW (X₁.named hnamed) (hpre vm₁ X₁.warmed) with ⟨v, B, X', hpost, hsteps⟩ | ⟨q, B, X', hpost, hsteps⟩
  · exact Or.inl ⟨v, vm₁, B, X₁.warmed, X', hpost, fun target h => hstep₁ _ fun acts => by rw [doInvoke_state]; exact hsteps.trans h⟩
  · exact Or.inr ⟨q, vm₁, B, X₁.warmed, X', hpost, hstep₁ _ fun acts => by rw [doInvoke_state]; exact hsteps⟩
theorem vx_runFW {x y : MethodName} {bytes cc : ByteArray} {maxL nL mc ms n index count : Nat} {ret : Option FieldType} {hh : List (Nat × Nat × Nat × Nat)} {ws : List Cond} {rm : Room} {Pc : Array Value → State → Prop} {Qc : Array Value → State → Outcome → State → Prop} {XC : String → State → State → Prop} {free : Addr → Prop} {Ts : List Cond} {own C : String} {cC : ClassId} {b : Addr} {As rest : List Value} {g : JFrame}
    (hat : ClassAt s C cC) (S : CallFix p m c cc nL s args Ts own) (hM : vx_Met l y ws rm Pc Qc XC mc ms free) (cw : va_CIW R s args own C index x y bytes maxL ret hh ws rm mc ms n) (hp : PreV s H C b Pc As)
    (hg : g.method = m) (hn : As.length = n) (hsize : g.locals.size = nL) (hstack : g.stack = As.reverse ++ .ref b :: rest) (hW : 2 * g.monitorRoom + (rest.map fun v => v.category).sum ≤ 8) (hdg : decode cc g.pc = .ok (.invokeinterface index count, 5)) (hf : cells + mc ≤ R.cells ∧ slots + ms ≤ R.slots) :
    vx_Run5 p l e R s m args below meth c H locs cells slots mc ms g rest (Qc (Value.ref b :: As).toArray) XC free := by
  obtain ⟨hrc, hrs, hfr, hlo, hws, hcw⟩ := cw.back
  have hini := cw.init
  have hK : vx_Back l R p e below s args y 5 8 (PreOf R mc ms Pc) (PostOf Qc mc ms free) (vx_Post XC mc ms free) := vx_backW (hh := hh) (bytes := bytes) (maxL := maxL) (ret := ret) hM hp.1 hrc hrs hfr hlo hws hcw (fun a' U hW => word_at hW (Or.inl (by first | rfl | simp [Cond.onTables, Cond.keeps, Cond.steady])) hini)
  obtain ⟨hx, hb, hml, ho, -⟩ := S
  obtain ⟨-, ⟨cellB, hcB, hoB, hclB⟩, hPc⟩ := hp
  obtain ⟨hfc, kB, hkB, -⟩ := hat
  cases hfc.symm.trans hclB
  intro T hT X
  rcases vx_callIFW X hx (C := C) (hh := hh) (bytes := bytes) (maxL := maxL) (ret := ret) ho cw.link cw.decl cw.face cw.sel cw.inst cw.pub cw.unh cw.cast cw.code cw.notMH hK (by rw [hT]; exact hcB) hoB hclB hkB hg (hsize.trans hml.symm) (argsL := As) (rest := rest) (fun sig h => hn.trans (cw.len sig h)) hstack hW (by rw [hb]; exact hdg)
    (fun vm₁ hW₁ => ⟨hf.1, hf.2, hPc (T.setVm vm₁) hT hW₁⟩) with ⟨v, vm₁, ⟨U', l2, c2, s2⟩, hW₁, X', ⟨g', mk, t, L, e1, e2, hq, h1, hL, h2, h3⟩, st⟩ | ⟨q, vm₁, ⟨U', l2, c2, s2⟩, hW₁, X', ⟨g', mk, t, L, E, ce, e1, e2, hq, hce, hcv, hcl, h1, hL, h2, h3⟩, st⟩
  · dsimp only [Pt.U, Pt.locs, Pt.cells, Pt.slots] at X' e1 e2 h1 h2 h3 st
    subst h1; subst h2; subst h3
    exact Or.inl ⟨v, (T.setVm vm₁).calling g' mk (Value.ref b :: As).toArray, t, U', L, hT, X', hL, e1, e2, hq, st⟩
  · dsimp only [Pt.U, Pt.locs, Pt.cells, Pt.slots] at X' e1 e2 h1 h2 h3 st hcl
    subst h1; subst h2; subst h3
    exact Or.inr ⟨q, (T.setVm vm₁).calling g' mk (Value.ref b :: As).toArray, t, U', L, E, ce, hT, X', hL, e1, e2, hq, hce, hcv, vx_cls hW₁ hcl, st⟩
end
/-! ===== END ===== -/
/-! ===== BEGIN .. of methods that hand back an object of the pool ===== -/
section
variable {p : Program} {l : Launch} {e : Env} {R : Room} {s : State} {m : MethodId} {args : Array Value} {below : List Frame} {meth : Method} {c : Code} {H : Heap} {locs : List Loc} {cells slots : Nat} {Q : State → Prop}
variable {mc ms : Nat} {free : Addr → Prop} {A0 A1 : Nat → Prop} {H0 : Heap} {a : Array Value} {pc : Nat} {ls : Array Slot} {st0 rest : List Value}
theorem vx_callq {S SX : Type} {post : Option Nat → S → Prop} {px : SX → Prop} {B : S → State → Prop} {BX : String → SX → State → Prop} {AX : Nat → Prop} (hr : vx_Run p l e R s m args below meth c H locs cells slots mc ms (F0 m pc ls st0) rest (va_Qq post B A1 a) (vx_X px BX AX) free) (hS : va_S A0 H0 H locs) (hA : ∀ q, q < H.size → A1 q → A0 q) (hf : ∀ q, free q → A0 q) (hAX : ∀ q, q < H.size → AX q → A0 q)
    (kx : ∀ (E : String) (ce : Cell) (q9 : Addr) (u : SX) (t : State) (H1 : Heap) (locs1 : List Loc), t.heap = H1 → s.vm.Alike t.vm → px u → BX E u t → H.size ≤ H1.size → (∀ q : Nat, q < H.size → ¬ AX q → H1[q]? = H[q]?) → va_S A0 H0 H1 locs1 → H1[q9]? = some ce → ce.vm = .none → s.vm.findClass E = some ce.cls → vx_W p l e R s m args below meth c H1 locs1 (cells + mc) (slots + ms) Q (F0 m pc ls rest) q9)
    (kk : ∀ (r : Option Nat) (u : S) (t : State) (H1 : Heap) (locs1 : List Loc), t.heap = H1 → s.vm.Alike t.vm → post r u → B u t → H.size ≤ H1.size → (∀ q : Nat, q < H.size → ¬ A1 q → H1[q]? = H[q]?) → va_S A0 H0 H1 locs1 → W p l e R s m args below meth c H1 locs1 (cells + mc) (slots + ms) Q (F0 m (pc + 3) ls (va_rf r :: rest))) : W p l e R s m args below meth c H locs cells slots Q (F0 m pc ls st0) := by
  intro T hT X
  rcases hr T hT X with ⟨v, st₀, t, T', L, h0, X', hL, e1, e2, ⟨⟨r, u, hv, hp, hb⟩, hF⟩, st⟩ | ⟨q, st₀, t, T', L, E, ce, h0, X', hL, e1, e2, ⟨u, hp, hb, hF⟩, hce, hcv, hcl, st⟩
  · cases hv
    obtain ⟨k1, k2, k3⟩ := vx_keep h0 e1 hS hA hf hL hF
    obtain ⟨t2, a1, b1⟩ := kk r u t T'.heap (locs ++ L) e1.symm (by rw [← e2]; exact X'.warmed.alike) hp hb k1 k2 k3 T' rfl X'
    exact ⟨t2, st t2 a1, b1⟩
  · obtain ⟨k1, k2, k3⟩ := vx_keep h0 e1 hS hAX hf hL hF
    obtain ⟨t2, a1, b1⟩ := kx E ce q u t T'.heap (locs ++ L) e1.symm (by rw [← e2]; exact X'.warmed.alike) hp hb k1 k2 k3 (by rw [e1]; exact hce) hcv hcl T' rfl X'
    exact ⟨t2, st.trans a1, b1⟩
end
/-! ===== END ===== -/
/-! ===== BEGIN .. a constant ===== -/
section
variable {p : Program} {l : Launch} {e : Env} {R : Room} {s : State} {m : MethodId} {args : Array Value} {below : List Frame} {meth : Method} {c : Code} {H : Heap} {locs : List Loc} {cells slots : Nat} {Q : State → Prop}
variable {mc ms : Nat} {free : Addr → Prop} {A0 A1 : Nat → Prop} {H0 : Heap} {a : Array Value} {pc : Nat} {ls : Array Slot} {st0 rest : List Value}
theorem vx_calle {ad : Nat → Nat} {S SX : Type} {post : Option Nat → S → Prop} {px : SX → Prop} {B : S → State → Prop} {BX : String → SX → State → Prop} {AX : Nat → Prop} (hr : vx_Run p l e R s m args below meth c H locs cells slots mc ms (F0 m pc ls st0) rest (va_Qe ad post B A1 a) (vx_X px BX AX) free) (hS : va_S A0 H0 H locs) (hA : ∀ q, q < H.size → A1 q → A0 q) (hf : ∀ q, free q → A0 q) (hAX : ∀ q, q < H.size → AX q → A0 q)
    (kx : ∀ (E : String) (ce : Cell) (q9 : Addr) (u : SX) (t : State) (H1 : Heap) (locs1 : List Loc), t.heap = H1 → s.vm.Alike t.vm → px u → BX E u t → H.size ≤ H1.size → (∀ q : Nat, q < H.size → ¬ AX q → H1[q]? = H[q]?) → va_S A0 H0 H1 locs1 → H1[q9]? = some ce → ce.vm = .none → s.vm.findClass E = some ce.cls → vx_W p l e R s m args below meth c H1 locs1 (cells + mc) (slots + ms) Q (F0 m pc ls rest) q9)
    (kk : ∀ (r : Option Nat) (u : S) (t : State) (H1 : Heap) (locs1 : List Loc), t.heap = H1 → s.vm.Alike t.vm → post r u → B u t → H.size ≤ H1.size → (∀ q : Nat, q < H.size → ¬ A1 q → H1[q]? = H[q]?) → va_S A0 H0 H1 locs1 → W p l e R s m args below meth c H1 locs1 (cells + mc) (slots + ms) Q (F0 m (pc + 3) ls (va_re ad r :: rest))) : W p l e R s m args below meth c H locs cells slots Q (F0 m pc ls st0) := by
  intro T hT X
  rcases hr T hT X with ⟨v, st₀, t, T', L, h0, X', hL, e1, e2, ⟨⟨r, u, hv, hp, hb⟩, hF⟩, st⟩ | ⟨q, st₀, t, T', L, E, ce, h0, X', hL, e1, e2, ⟨u, hp, hb, hF⟩, hce, hcv, hcl, st⟩
  · cases hv
    obtain ⟨k1, k2, k3⟩ := vx_keep h0 e1 hS hA hf hL hF
    obtain ⟨t2, a1, b1⟩ := kk r u t T'.heap (locs ++ L) e1.symm (by rw [← e2]; exact X'.warmed.alike) hp hb k1 k2 k3 T' rfl X'
    exact ⟨t2, st t2 a1, b1⟩
  · obtain ⟨k1, k2, k3⟩ := vx_keep h0 e1 hS hAX hf hL hF
    obtain ⟨t2, a1, b1⟩ := kx E ce q u t T'.heap (locs ++ L) e1.symm (by rw [← e2]; exact X'.warmed.alike) hp hb k1 k2 k3 (by rw [e1]; exact hce) hcv hcl T' rfl X'
    exact ⟨t2, st.trans a1, b1⟩
end
/-! ===== END ===== -/
/-! ===== BEGIN .. by an interface, an object ===== -/
section
variable {p : Program} {l : Launch} {e : Env} {R : Room} {s : State} {m : MethodId} {args : Array Value} {below : List Frame} {meth : Method} {c : Code} {H : Heap} {locs : List Loc} {cells slots : Nat} {Q : State → Prop}
variable {mc ms : Nat} {free : Addr → Prop} {A0 A1 : Nat → Prop} {H0 : Heap} {a : Array Value} {pc : Nat} {ls : Array Slot} {st0 rest : List Value}
theorem vx_callFq {S SX : Type} {post : Option Nat → S → Prop} {px : SX → Prop} {B : S → State → Prop} {BX : String → SX → State → Prop} {AX : Nat → Prop} (hr : vx_Run5 p l e R s m args below meth c H locs cells slots mc ms (F0 m pc ls st0) rest (va_Qq post B A1 a) (vx_X px BX AX) free) (hS : va_S A0 H0 H locs) (hA : ∀ q, q < H.size → A1 q → A0 q) (hf : ∀ q, free q → A0 q) (hAX : ∀ q, q < H.size → AX q → A0 q)
    (kx : ∀ (E : String) (ce : Cell) (q9 : Addr) (u : SX) (t : State) (H1 : Heap) (locs1 : List Loc), t.heap = H1 → s.vm.Alike t.vm → px u → BX E u t → H.size ≤ H1.size → (∀ q : Nat, q < H.size → ¬ AX q → H1[q]? = H[q]?) → va_S A0 H0 H1 locs1 → H1[q9]? = some ce → ce.vm = .none → s.vm.findClass E = some ce.cls → vx_W p l e R s m args below meth c H1 locs1 (cells + mc) (slots + ms) Q (F0 m pc ls rest) q9)
    (kk : ∀ (r : Option Nat) (u : S) (t : State) (H1 : Heap) (locs1 : List Loc), t.heap = H1 → s.vm.Alike t.vm → post r u → B u t → H.size ≤ H1.size → (∀ q : Nat, q < H.size → ¬ A1 q → H1[q]? = H[q]?) → va_S A0 H0 H1 locs1 → W p l e R s m args below meth c H1 locs1 (cells + mc) (slots + ms) Q (F0 m (pc + 5) ls (va_rf r :: rest))) : W p l e R s m args below meth c H locs cells slots Q (F0 m pc ls st0) := by
  intro T hT X
  rcases hr T hT X with ⟨v, st₀, t, T', L, h0, X', hL, e1, e2, ⟨⟨r, u, hv, hp, hb⟩, hF⟩, st⟩ | ⟨q, st₀, t, T', L, E, ce, h0, X', hL, e1, e2, ⟨u, hp, hb, hF⟩, hce, hcv, hcl, st⟩
  · cases hv
    obtain ⟨k1, k2, k3⟩ := vx_keep h0 e1 hS hA hf hL hF
    obtain ⟨t2, a1, b1⟩ := kk r u t T'.heap (locs ++ L) e1.symm (by rw [← e2]; exact X'.warmed.alike) hp hb k1 k2 k3 T' rfl X'
    exact ⟨t2, st t2 a1, b1⟩
  · obtain ⟨k1, k2, k3⟩ := vx_keep h0 e1 hS hAX hf hL hF
    obtain ⟨t2, a1, b1⟩ := kx E ce q u t T'.heap (locs ++ L) e1.symm (by rw [← e2]; exact X'.warmed.alike) hp hb k1 k2 k3 (by rw [e1]; exact hce) hcv hcl T' rfl X'
    exact ⟨t2, st.trans a1, b1⟩
end
/-! ===== END ===== -/
/-! ===== BEGIN .. by an interface, a constant ===== -/
section
variable {p : Program} {l : Launch} {e : Env} {R : Room} {s : State} {m : MethodId} {args : Array Value} {below : List Frame} {meth : Method} {c : Code} {H : Heap} {locs : List Loc} {cells slots : Nat} {Q : State → Prop}
variable {mc ms : Nat} {free : Addr → Prop} {A0 A1 : Nat → Prop} {H0 : Heap} {a : Array Value} {pc : Nat} {ls : Array Slot} {st0 rest : List Value}
theorem vx_callFe {ad : Nat → Nat} {S SX : Type} {post : Option Nat → S → Prop} {px : SX → Prop} {B : S → State → Prop} {BX : String → SX → State → Prop} {AX : Nat → Prop} (hr : vx_Run5 p l e R s m args below meth c H locs cells slots mc ms (F0 m pc ls st0) rest (va_Qe ad post B A1 a) (vx_X px BX AX) free) (hS : va_S A0 H0 H locs) (hA : ∀ q, q < H.size → A1 q → A0 q) (hf : ∀ q, free q → A0 q) (hAX : ∀ q, q < H.size → AX q → A0 q)
    (kx : ∀ (E : String) (ce : Cell) (q9 : Addr) (u : SX) (t : State) (H1 : Heap) (locs1 : List Loc), t.heap = H1 → s.vm.Alike t.vm → px u → BX E u t → H.size ≤ H1.size → (∀ q : Nat, q < H.size → ¬ AX q → H1[q]? = H[q]?) → va_S A0 H0 H1 locs1 → H1[q9]? = some ce → ce.vm = .none → s.vm.findClass E = some ce.cls → vx_W p l e R s m args below meth c H1 locs1 (cells + mc) (slots + ms) Q (F0 m pc ls rest) q9)
    (kk : ∀ (r : Option Nat) (u : S) (t : State) (H1 : Heap) (locs1 : List Loc), t.heap = H1 → s.vm.Alike t.vm → post r u → B u t → H.size ≤ H1.size → (∀ q : Nat, q < H.size → ¬ A1 q → H1[q]? = H[q]?) → va_S A0 H0 H1 locs1 → W p l e R s m args below meth c H1 locs1 (cells + mc) (slots + ms) Q (F0 m (pc + 5) ls (va_re ad r :: rest))) : W p l e R s m args below meth c H locs cells slots Q (F0 m pc ls st0) := by
  intro T hT X
  rcases hr T hT X with ⟨v, st₀, t, T', L, h0, X', hL, e1, e2, ⟨⟨r, u, hv, hp, hb⟩, hF⟩, st⟩ | ⟨q, st₀, t, T', L, E, ce, h0, X', hL, e1, e2, ⟨u, hp, hb, hF⟩, hce, hcv, hcl, st⟩
  · cases hv
    obtain ⟨k1, k2, k3⟩ := vx_keep h0 e1 hS hA hf hL hF
    obtain ⟨t2, a1, b1⟩ := kk r u t T'.heap (locs ++ L) e1.symm (by rw [← e2]; exact X'.warmed.alike) hp hb k1 k2 k3 T' rfl X'
    exact ⟨t2, st t2 a1, b1⟩
  · obtain ⟨k1, k2, k3⟩ := vx_keep h0 e1 hS hAX hf hL hF
    obtain ⟨t2, a1, b1⟩ := kx E ce q u t T'.heap (locs ++ L) e1.symm (by rw [← e2]; exact X'.warmed.alike) hp hb k1 k2 k3 (by rw [e1]; exact hce) hcv hcl T' rfl X'
    exact ⟨t2, st.trans a1, b1⟩
end
/-! ===== END ===== -/
/-! ===== BEGIN what the machine throws by itself: null at a field, at athrow ===== -/
section VXM2
variable {p : Program} {l : Launch} {e : Env} {R : Room} {s : State} {m : MethodId} {args : Array Value} {below : List Frame} {meth : Method} {c : Code} {H : Heap} {locs : List Loc} {cells slots : Nat}
variable {Q : State → Prop} {cc : ByteArray} {pc : Nat} {ls : Array Slot} {rest : List Value}
theorem vx_getfN {D cl tys} {own ref C : String} {T : u_T} {N ci index : Nat} {Ts : List Cond} (hexec : p.tables.exec = Jvm.exec) (hb : c.code = cc) (hts : ∀ w ∈ Ts, w.before args s = true) (hin : ∀ w ∈ u_ws C T N, w ∈ Ts) (hown : s.vm.findClass own = some m.cls) (hK : va_K D cl tys s) (hc : cl[ci]? = some (C, T, N)) (k : Nat) (hk : k < N) (hlink : (Cond.fieldLink own index ref (T k).2.1 (T k).2.2.1).before args s = true) (hsame : ∀ x, s.fieldFound? (T k).1 (T k).2.1 (T k).2.2.1 = some x → s.fieldFound? ref (T k).2.1 (T k).2.2.1 = some x) (hdg : decode cc pc = .ok (.getfield index, 3)) (kk : vx_NoteN p l e R s m args below meth c H locs cells slots Q (F0 m pc ls rest)) : W p l e R s m args below meth c H locs cells slots Q (F0 m pc ls (.null :: rest)) := by
  obtain ⟨hS, hfc, kC, hkC, -⟩ := hK.1 ci _ hc
  obtain ⟨cf, kf, fi, f, hi, -⟩ := hS k hk
  intro U hU X
  obtain ⟨vm', X1, st1⟩ := X.getfieldNull hexec hown hlink (hsame _ hi) (u_facts hfc hkC (u_lays hts hin hk) hi).1 (g := F0 m pc ls (.null :: rest)) rfl (rest := rest) rfl (by rw [hb]; exact hdg)
  obtain ⟨t, st, q⟩ := kk (U.setVm vm') hU X1
  exact ⟨t, st1 t st, q⟩
theorem vx_getfNN {D cl tys} {own ref C host : String} {T : u_T} {N ci index : Nat} {Ts : List Cond} (hexec : p.tables.exec = Jvm.exec) (hb : c.code = cc) (hts : ∀ w ∈ Ts, w.before args s = true) (hin : ∀ w ∈ u_ws C T N, w ∈ Ts) (hown : s.vm.findClass own = some m.cls) (hK : va_K D cl tys s) (hc : cl[ci]? = some (C, T, N)) (k : Nat) (hk : k < N) (hlink : (Cond.fieldLinkNest own index ref (T k).2.1 (T k).2.2.1 host).before args s = true) (hsame : ∀ x, s.fieldFound? (T k).1 (T k).2.1 (T k).2.2.1 = some x → s.fieldFound? ref (T k).2.1 (T k).2.2.1 = some x) (hdg : decode cc pc = .ok (.getfield index, 3)) (kk : vx_NoteN p l e R s m args below meth c H locs cells slots Q (F0 m pc ls rest)) : W p l e R s m args below meth c H locs cells slots Q (F0 m pc ls (.null :: rest)) := by
  obtain ⟨hS, hfc, kC, hkC, -⟩ := hK.1 ci _ hc
  obtain ⟨cf, kf, fi, f, hi, -⟩ := hS k hk
  intro U hU X
  obtain ⟨vm', X1, st1⟩ := X.getfieldNullNest hexec hown hlink (hsame _ hi) (u_facts hfc hkC (u_lays hts hin hk) hi).1 (g := F0 m pc ls (.null :: rest)) rfl (rest := rest) rfl (by rw [hb]; exact hdg)
  obtain ⟨t, st, q⟩ := kk (U.setVm vm') hU X1
  exact ⟨t, st1 t st, q⟩
theorem vx_putfN {D cl tys} {own ref C : String} {T : u_T} {N ci index : Nat} {Ts : List Cond} (hexec : p.tables.exec = Jvm.exec) (hb : c.code = cc) (hts : ∀ w ∈ Ts, w.before args s = true) (hin : ∀ w ∈ u_ws C T N, w ∈ Ts) (hown : s.vm.findClass own = some m.cls) (hK : va_K D cl tys s) (hc : cl[ci]? = some (C, T, N)) (k : Nat) (hk : k < N) (hlink : (Cond.fieldLink own index ref (T k).2.1 (T k).2.2.1).before args s = true) (hsame : ∀ x, s.fieldFound? (T k).1 (T k).2.1 (T k).2.2.1 = some x → s.fieldFound? ref (T k).2.1 (T k).2.2.1 = some x) (hfin : (T k).2.2.2 = false) {v : Value} (hdg : decode cc pc = .ok (.putfield index, 3)) (kk : vx_NoteN p l e R s m args below meth c H locs cells slots Q (F0 m pc ls rest)) : W p l e R s m args below meth c H locs cells slots Q (F0 m pc ls (v :: .null :: rest)) := by
  obtain ⟨hS, hfc, kC, hkC, -⟩ := hK.1 ci _ hc
  obtain ⟨cf, kf, fi, f, hi, -⟩ := hS k hk
  have hlay := hts _ (hin _ (u_in_lay hk))
  unfold u_lay at hlay
  rw [if_neg (by rw [hfin]; decide)] at hlay
  obtain ⟨c9, k9, cf9, kf9, fi9, f9, -, -, hi9, hst9, hnf9, -⟩ := Cond.lays_spec hlay
  cases hi.symm.trans hi9
  intro U hU X
  obtain ⟨vm', X1, st1⟩ := X.putfieldNull hexec hown hlink (hsame _ hi) hst9 hnf9 (g := F0 m pc ls (v :: .null :: rest)) rfl (v := v) (rest := rest) rfl (by rw [hb]; exact hdg)
  obtain ⟨t, st, q⟩ := kk (U.setVm vm') hU X1
  exact ⟨t, st1 t st, q⟩
theorem vx_putfNN {D cl tys} {own ref C host : String} {T : u_T} {N ci index : Nat} {Ts : List Cond} (hexec : p.tables.exec = Jvm.exec) (hb : c.code = cc) (hts : ∀ w ∈ Ts, w.before args s = true) (hin : ∀ w ∈ u_ws C T N, w ∈ Ts) (hown : s.vm.findClass own = some m.cls) (hK : va_K D cl tys s) (hc : cl[ci]? = some (C, T, N)) (k : Nat) (hk : k < N) (hlink : (Cond.fieldLinkNest own index ref (T k).2.1 (T k).2.2.1 host).before args s = true) (hsame : ∀ x, s.fieldFound? (T k).1 (T k).2.1 (T k).2.2.1 = some x → s.fieldFound? ref (T k).2.1 (T k).2.2.1 = some x) (hfin : (T k).2.2.2 = false) {v : Value} (hdg : decode cc pc = .ok (.putfield index, 3)) (kk : vx_NoteN p l e R s m args below meth c H locs cells slots Q (F0 m pc ls rest)) : W p l e R s m args below meth c H locs cells slots Q (F0 m pc ls (v :: .null :: rest)) := by
  obtain ⟨hS, hfc, kC, hkC, -⟩ := hK.1 ci _ hc
  obtain ⟨cf, kf, fi, f, hi, -⟩ := hS k hk
  have hlay := hts _ (hin _ (u_in_lay hk))
  unfold u_lay at hlay
  rw [if_neg (by rw [hfin]; decide)] at hlay
  obtain ⟨c9, k9, cf9, kf9, fi9, f9, -, -, hi9, hst9, hnf9, -⟩ := Cond.lays_spec hlay
  cases hi.symm.trans hi9
  intro U hU X
  obtain ⟨vm', X1, st1⟩ := X.putfieldNullNest hexec hown hlink (hsame _ hi) hst9 hnf9 (g := F0 m pc ls (v :: .null :: rest)) rfl (v := v) (rest := rest) rfl (by rw [hb]; exact hdg)
  obtain ⟨t, st, q⟩ := kk (U.setVm vm') hU X1
  exact ⟨t, st1 t st, q⟩
theorem vx_athrowN (hexec : p.tables.exec = Jvm.exec) (hb : c.code = cc) (hdg : decode cc pc = .ok (.athrow, 1)) (k : vx_NoteN p l e R s m args below meth c H locs cells slots Q (F0 m pc ls rest)) : W p l e R s m args below meth c H locs cells slots Q (F0 m pc ls (.null :: rest)) := by
  intro T hT X
  obtain ⟨t, st, q⟩ := k T hT X
  exact ⟨t, X.athrowNull hexec (g := F0 m pc ls (.null :: rest)) rfl (rest := rest) rfl (by rw [hb]; exact hdg) t st, q⟩
end VXM2
/-! ===== END ===== -/
end
section
-- ===== PART A: goes FIRST, ahead of the names: the tables' words, and 'selects' of the private methods out of them =====
/-- a private method of a class that the tables say can be made, by its rows of tables_1 -/
def lw_okq (q : MethodName × Nat) : Prop := (q.1.cls ≠ "java/lang/invoke/MethodHandle" ∧ q.1.cls ≠ "java/lang/invoke/VarHandle") ∧ Cond.instantiable q.1.cls q.2 ∈ tables_1 ∧ Cond.privateMethod q.1 ∈ tables_1 ∧ Cond.instanceMethod q.1 ∈ tables_1
theorem lw_p0 : lw_okq (⟨"Ahoarch$Book", "longestSharedBefore", "(LAhoarch$Pattern;)I"⟩, 3) := ⟨⟨by decide +kernel, by decide +kernel⟩, List.mem_of_getElem? (i := 26) (by decide +kernel), List.mem_of_getElem? (i := 148) (by decide +kernel), List.mem_of_getElem? (i := 149) (by decide +kernel)⟩
theorem lw_p1 : lw_okq (⟨"Ahoarch$Choice", "chooseByEnd", "(LAhoarch$Book;LAhoarch$Stream;)V"⟩, 3) := ⟨⟨by decide +kernel, by decide +kernel⟩, List.mem_of_getElem? (i := 62) (by decide +kernel), List.mem_of_getElem? (i := 240) (by decide +kernel), List.mem_of_getElem? (i := 241) (by decide +kernel)⟩
theorem lw_p2 : lw_okq (⟨"Ahoarch$Choice", "keep", "(LAhoarch$Pattern;I)V"⟩, 3) := ⟨⟨by decide +kernel, by decide +kernel⟩, List.mem_of_getElem? (i := 62) (by decide +kernel), List.mem_of_getElem? (i := 248) (by decide +kernel), List.mem_of_getElem? (i := 249) (by decide +kernel)⟩
theorem lw_p3 : lw_okq (⟨"Ahoarch$Choice", "chooseByPlace", "(ZLAhoarch$Book;LAhoarch$Stream;)V"⟩, 3) := ⟨⟨by decide +kernel, by decide +kernel⟩, List.mem_of_getElem? (i := 62) (by decide +kernel), List.mem_of_getElem? (i := 252) (by decide +kernel), List.mem_of_getElem? (i := 253) (by decide +kernel)⟩
theorem lw_p4 : lw_okq (⟨"Ahoarch", "mayGrowFrom", "(I)Z"⟩, 6) := ⟨⟨by decide +kernel, by decide +kernel⟩, List.mem_of_getElem? (i := 18) (by decide +kernel), List.mem_of_getElem? (i := 265) (by decide +kernel), List.mem_of_getElem? (i := 266) (by decide +kernel)⟩
theorem lw_p5 : lw_okq (⟨"java/lang/Throwable", "fillInStackTrace", "(I)Ljava/lang/Throwable;"⟩, 6) := ⟨⟨by decide +kernel, by decide +kernel⟩, List.mem_of_getElem? (i := 322) (by decide +kernel), List.mem_of_getElem? (i := 320) (by decide +kernel), List.mem_of_getElem? (i := 321) (by decide +kernel)⟩
theorem lw_p6 : lw_okq (⟨"Ahoarch", "need", "(I)LAhoarch$Pattern;"⟩, 6) := ⟨⟨by decide +kernel, by decide +kernel⟩, List.mem_of_getElem? (i := 18) (by decide +kernel), List.mem_of_getElem? (i := 430) (by decide +kernel), List.mem_of_getElem? (i := 431) (by decide +kernel)⟩
theorem lw_p7 : lw_okq (⟨"Ahoarch", "needRoom", "(I)V"⟩, 6) := ⟨⟨by decide +kernel, by decide +kernel⟩, List.mem_of_getElem? (i := 18) (by decide +kernel), List.mem_of_getElem? (i := 495) (by decide +kernel), List.mem_of_getElem? (i := 496) (by decide +kernel)⟩
theorem lw_p8 : lw_okq (⟨"Ahoarch", "take", "(C)I"⟩, 6) := ⟨⟨by decide +kernel, by decide +kernel⟩, List.mem_of_getElem? (i := 18) (by decide +kernel), List.mem_of_getElem? (i := 500) (by decide +kernel), List.mem_of_getElem? (i := 501) (by decide +kernel)⟩
theorem lw_p9 : lw_okq (⟨"Ahoarch$Book", "endingOfSize", "(LAhoarch$Stream;I)LAhoarch$Pattern;"⟩, 3) := ⟨⟨by decide +kernel, by decide +kernel⟩, List.mem_of_getElem? (i := 26) (by decide +kernel), List.mem_of_getElem? (i := 538) (by decide +kernel), List.mem_of_getElem? (i := 539) (by decide +kernel)⟩
theorem lw_p10 : lw_okq (⟨"Ahoarch", "chooseOne", "(II)LAhoarch$Pattern;"⟩, 6) := ⟨⟨by decide +kernel, by decide +kernel⟩, List.mem_of_getElem? (i := 18) (by decide +kernel), List.mem_of_getElem? (i := 599) (by decide +kernel), List.mem_of_getElem? (i := 600) (by decide +kernel)⟩
theorem lw_p11 : lw_okq (⟨"Ahoarch", "rewrite", "(I)V"⟩, 6) := ⟨⟨by decide +kernel, by decide +kernel⟩, List.mem_of_getElem? (i := 18) (by decide +kernel), List.mem_of_getElem? (i := 625) (by decide +kernel), List.mem_of_getElem? (i := 626) (by decide +kernel)⟩
theorem lw_p12 : lw_okq (⟨"AhoarchModel", "holds", "(I)Z"⟩, 14) := ⟨⟨by decide +kernel, by decide +kernel⟩, List.mem_of_getElem? (i := 659) (by decide +kernel), List.mem_of_getElem? (i := 720) (by decide +kernel), List.mem_of_getElem? (i := 721) (by decide +kernel)⟩
theorem lw_p13 : lw_okq (⟨"AhoarchModel", "patternsNow", "()I"⟩, 14) := ⟨⟨by decide +kernel, by decide +kernel⟩, List.mem_of_getElem? (i := 659) (by decide +kernel), List.mem_of_getElem? (i := 728) (by decide +kernel), List.mem_of_getElem? (i := 729) (by decide +kernel)⟩
theorem lw_p14 : lw_okq (⟨"AhoarchModel", "isDraft", "(I)Z"⟩, 14) := ⟨⟨by decide +kernel, by decide +kernel⟩, List.mem_of_getElem? (i := 659) (by decide +kernel), List.mem_of_getElem? (i := 732) (by decide +kernel), List.mem_of_getElem? (i := 733) (by decide +kernel)⟩
theorem lw_p15 : lw_okq (⟨"AhoarchModel", "isAsked", "(I)Z"⟩, 14) := ⟨⟨by decide +kernel, by decide +kernel⟩, List.mem_of_getElem? (i := 659) (by decide +kernel), List.mem_of_getElem? (i := 740) (by decide +kernel), List.mem_of_getElem? (i := 741) (by decide +kernel)⟩
def lw_privs_1 : List (MethodName × Nat) := [(⟨"Ahoarch$Book", "longestSharedBefore", "(LAhoarch$Pattern;)I"⟩, 3), (⟨"Ahoarch$Choice", "chooseByEnd", "(LAhoarch$Book;LAhoarch$Stream;)V"⟩, 3), (⟨"Ahoarch$Choice", "keep", "(LAhoarch$Pattern;I)V"⟩, 3), (⟨"Ahoarch$Choice", "chooseByPlace", "(ZLAhoarch$Book;LAhoarch$Stream;)V"⟩, 3), (⟨"Ahoarch", "mayGrowFrom", "(I)Z"⟩, 6), (⟨"java/lang/Throwable", "fillInStackTrace", "(I)Ljava/lang/Throwable;"⟩, 6), (⟨"Ahoarch", "need", "(I)LAhoarch$Pattern;"⟩, 6), (⟨"Ahoarch", "needRoom", "(I)V"⟩, 6), (⟨"Ahoarch", "take", "(C)I"⟩, 6), (⟨"Ahoarch$Book", "endingOfSize", "(LAhoarch$Stream;I)LAhoarch$Pattern;"⟩, 3), (⟨"Ahoarch", "chooseOne", "(II)LAhoarch$Pattern;"⟩, 6), (⟨"Ahoarch", "rewrite", "(I)V"⟩, 6), (⟨"AhoarchModel", "holds", "(I)Z"⟩, 14), (⟨"AhoarchModel", "patternsNow", "()I"⟩, 14), (⟨"AhoarchModel", "isDraft", "(I)Z"⟩, 14), (⟨"AhoarchModel", "isAsked", "(I)Z"⟩, 14)]
theorem lw_r1 : ∀ q ∈ lw_privs_1, lw_okq q := List.forall_mem_cons.mpr ⟨lw_p0, List.forall_mem_cons.mpr ⟨lw_p1, List.forall_mem_cons.mpr ⟨lw_p2, List.forall_mem_cons.mpr ⟨lw_p3, List.forall_mem_cons.mpr ⟨lw_p4, List.forall_mem_cons.mpr ⟨lw_p5, List.forall_mem_cons.mpr ⟨lw_p6, List.forall_mem_cons.mpr ⟨lw_p7, List.forall_mem_cons.mpr ⟨lw_p8, List.forall_mem_cons.mpr ⟨lw_p9, List.forall_mem_cons.mpr ⟨lw_p10, List.forall_mem_cons.mpr ⟨lw_p11, List.forall_mem_cons.mpr ⟨lw_p12, List.forall_mem_cons.mpr ⟨lw_p13, List.forall_mem_cons.mpr ⟨lw_p14, List.forall_mem_cons.mpr ⟨lw_p15, fun _ h => absurd h List.not_mem_nil⟩⟩⟩⟩⟩⟩⟩⟩⟩⟩⟩⟩⟩⟩⟩⟩
theorem lw_p16 : lw_okq (⟨"AhoarchModel", "isPattern", "(I)Z"⟩, 14) := ⟨⟨by decide +kernel, by decide +kernel⟩, List.mem_of_getElem? (i := 659) (by decide +kernel), List.mem_of_getElem? (i := 744) (by decide +kernel), List.mem_of_getElem? (i := 745) (by decide +kernel)⟩
theorem lw_p17 : lw_okq (⟨"AhoarchModel", "begins", "(IIII)Z"⟩, 14) := ⟨⟨by decide +kernel, by decide +kernel⟩, List.mem_of_getElem? (i := 659) (by decide +kernel), List.mem_of_getElem? (i := 764) (by decide +kernel), List.mem_of_getElem? (i := 765) (by decide +kernel)⟩
theorem lw_p18 : lw_okq (⟨"AhoarchModel", "feeds", "(I)I"⟩, 14) := ⟨⟨by decide +kernel, by decide +kernel⟩, List.mem_of_getElem? (i := 659) (by decide +kernel), List.mem_of_getElem? (i := 780) (by decide +kernel), List.mem_of_getElem? (i := 781) (by decide +kernel)⟩
theorem lw_p19 : lw_okq (⟨"AhoarchModel", "endingAt", "(I)I"⟩, 14) := ⟨⟨by decide +kernel, by decide +kernel⟩, List.mem_of_getElem? (i := 659) (by decide +kernel), List.mem_of_getElem? (i := 784) (by decide +kernel), List.mem_of_getElem? (i := 785) (by decide +kernel)⟩
theorem lw_p20 : lw_okq (⟨"AhoarchModel", "stands", "(II)Z"⟩, 14) := ⟨⟨by decide +kernel, by decide +kernel⟩, List.mem_of_getElem? (i := 659) (by decide +kernel), List.mem_of_getElem? (i := 788) (by decide +kernel), List.mem_of_getElem? (i := 789) (by decide +kernel)⟩
theorem lw_p21 : lw_okq (⟨"AhoarchModel", "isBeginning", "(II)Z"⟩, 14) := ⟨⟨by decide +kernel, by decide +kernel⟩, List.mem_of_getElem? (i := 659) (by decide +kernel), List.mem_of_getElem? (i := 808) (by decide +kernel), List.mem_of_getElem? (i := 809) (by decide +kernel)⟩
theorem lw_p22 : lw_okq (⟨"AhoarchModel", "countOf", "(I)I"⟩, 14) := ⟨⟨by decide +kernel, by decide +kernel⟩, List.mem_of_getElem? (i := 659) (by decide +kernel), List.mem_of_getElem? (i := 824) (by decide +kernel), List.mem_of_getElem? (i := 825) (by decide +kernel)⟩
theorem lw_p23 : lw_okq (⟨"AhoarchModel", "choices", "(I)I"⟩, 14) := ⟨⟨by decide +kernel, by decide +kernel⟩, List.mem_of_getElem? (i := 659) (by decide +kernel), List.mem_of_getElem? (i := 848) (by decide +kernel), List.mem_of_getElem? (i := 849) (by decide +kernel)⟩
theorem lw_p24 : lw_okq (⟨"AhoarchModel", "finds", "(II)Z"⟩, 14) := ⟨⟨by decide +kernel, by decide +kernel⟩, List.mem_of_getElem? (i := 659) (by decide +kernel), List.mem_of_getElem? (i := 852) (by decide +kernel), List.mem_of_getElem? (i := 853) (by decide +kernel)⟩
theorem lw_p25 : lw_okq (⟨"AhoarchModel", "findsByEnd", "(I)Z"⟩, 14) := ⟨⟨by decide +kernel, by decide +kernel⟩, List.mem_of_getElem? (i := 659) (by decide +kernel), List.mem_of_getElem? (i := 856) (by decide +kernel), List.mem_of_getElem? (i := 857) (by decide +kernel)⟩
theorem lw_p26 : lw_okq (⟨"AhoarchModel", "itsEnd", "()I"⟩, 14) := ⟨⟨by decide +kernel, by decide +kernel⟩, List.mem_of_getElem? (i := 659) (by decide +kernel), List.mem_of_getElem? (i := 860) (by decide +kernel), List.mem_of_getElem? (i := 861) (by decide +kernel)⟩
theorem lw_p27 : lw_okq (⟨"AhoarchModel", "isRule", "(I)Z"⟩, 14) := ⟨⟨by decide +kernel, by decide +kernel⟩, List.mem_of_getElem? (i := 659) (by decide +kernel), List.mem_of_getElem? (i := 868) (by decide +kernel), List.mem_of_getElem? (i := 869) (by decide +kernel)⟩
theorem lw_p28 : lw_okq (⟨"AhoarchModel", "isChosen", "(II)Z"⟩, 14) := ⟨⟨by decide +kernel, by decide +kernel⟩, List.mem_of_getElem? (i := 659) (by decide +kernel), List.mem_of_getElem? (i := 876) (by decide +kernel), List.mem_of_getElem? (i := 877) (by decide +kernel)⟩
theorem lw_p29 : lw_okq (⟨"AhoarchModel", "newLength", "(I)I"⟩, 14) := ⟨⟨by decide +kernel, by decide +kernel⟩, List.mem_of_getElem? (i := 659) (by decide +kernel), List.mem_of_getElem? (i := 888) (by decide +kernel), List.mem_of_getElem? (i := 889) (by decide +kernel)⟩
theorem lw_p30 : lw_okq (⟨"AhoarchModel", "newLetter", "(II)I"⟩, 14) := ⟨⟨by decide +kernel, by decide +kernel⟩, List.mem_of_getElem? (i := 659) (by decide +kernel), List.mem_of_getElem? (i := 896) (by decide +kernel), List.mem_of_getElem? (i := 897) (by decide +kernel)⟩
theorem lw_p31 : lw_okq (⟨"AhoarchModel", "isOpen", "(I)Z"⟩, 14) := ⟨⟨by decide +kernel, by decide +kernel⟩, List.mem_of_getElem? (i := 659) (by decide +kernel), List.mem_of_getElem? (i := 904) (by decide +kernel), List.mem_of_getElem? (i := 905) (by decide +kernel)⟩
def lw_privs_2 : List (MethodName × Nat) := [(⟨"AhoarchModel", "isPattern", "(I)Z"⟩, 14), (⟨"AhoarchModel", "begins", "(IIII)Z"⟩, 14), (⟨"AhoarchModel", "feeds", "(I)I"⟩, 14), (⟨"AhoarchModel", "endingAt", "(I)I"⟩, 14), (⟨"AhoarchModel", "stands", "(II)Z"⟩, 14), (⟨"AhoarchModel", "isBeginning", "(II)Z"⟩, 14), (⟨"AhoarchModel", "countOf", "(I)I"⟩, 14), (⟨"AhoarchModel", "choices", "(I)I"⟩, 14), (⟨"AhoarchModel", "finds", "(II)Z"⟩, 14), (⟨"AhoarchModel", "findsByEnd", "(I)Z"⟩, 14), (⟨"AhoarchModel", "itsEnd", "()I"⟩, 14), (⟨"AhoarchModel", "isRule", "(I)Z"⟩, 14), (⟨"AhoarchModel", "isChosen", "(II)Z"⟩, 14), (⟨"AhoarchModel", "newLength", "(I)I"⟩, 14), (⟨"AhoarchModel", "newLetter", "(II)I"⟩, 14), (⟨"AhoarchModel", "isOpen", "(I)Z"⟩, 14)]
theorem lw_r2 : ∀ q ∈ lw_privs_2, lw_okq q := List.forall_mem_cons.mpr ⟨lw_p16, List.forall_mem_cons.mpr ⟨lw_p17, List.forall_mem_cons.mpr ⟨lw_p18, List.forall_mem_cons.mpr ⟨lw_p19, List.forall_mem_cons.mpr ⟨lw_p20, List.forall_mem_cons.mpr ⟨lw_p21, List.forall_mem_cons.mpr ⟨lw_p22, List.forall_mem_cons.mpr ⟨lw_p23, List.forall_mem_cons.mpr ⟨lw_p24, List.forall_mem_cons.mpr ⟨lw_p25, List.forall_mem_cons.mpr ⟨lw_p26, List.forall_mem_cons.mpr ⟨lw_p27, List.forall_mem_cons.mpr ⟨lw_p28, List.forall_mem_cons.mpr ⟨lw_p29, List.forall_mem_cons.mpr ⟨lw_p30, List.forall_mem_cons.mpr ⟨lw_p31, fun _ h => absurd h List.not_mem_nil⟩⟩⟩⟩⟩⟩⟩⟩⟩⟩⟩⟩⟩⟩⟩⟩
def lw_privs : List (MethodName × Nat) := lw_privs_1 ++ (lw_privs_2)
def lw_tbl : List Cond := k2_sels lw_privs ++ tables_1
theorem lw_privs_ok : ∀ q ∈ lw_privs, lw_okq q := by
  show ∀ q ∈ lw_privs_1 ++ (lw_privs_2), lw_okq q
  exact List.forall_mem_append.mpr ⟨lw_r1, lw_r2⟩
-- ===== end of PART A; then your names; then what follows =====
/-! THE CLAIM OUT OF ONE WALK OF THE LAW'S BODY. Your part is whole_start (and what it stands on); all else here is the same for every law, but numbers. -/
def R_law : String := "AhoarchLaw"
def lw_P (b : Addr) (xs : List Int32) (args : Array Value) (s : State) : Prop := args = #[.ref b] ∧ s.IntsAt b xs ∧ xs.length ≤ 1536 ∧ (Jvm.Cond.and given_1 narrow_1).before args s = true
def lw_Q (_ : Array Value) (s : State) (o : Outcome) (t : State) : Prop := o = .returned (some (.int 1)) ∧ Framed s o t [] 689485 7027648
def lw_Z (below : List Frame) (a : Array Value) (s : State) : State → Prop := fun t => ∃ o, t.status = .running ∧ Ended t below o ∧ lw_Q a s o t
/-- the law's own end, with 1 on the stack, nothing written that was there before, its room as the claim has it -/
theorem lw_ret {p : Program} {l : Launch} {e : Env} {s : State} {m : MethodId} {below : List Frame} {meth : Method} {c : Code} {b : Nat} (hx : p.tables.exec = Jvm.exec) (hb : c.code = code) (hr : meth.sig.returnType = ret) (hlocks : meth.locks = false) {pc : Nat} {H : Heap} {ls : Array Slot} (hdg : decode code pc = .ok (.ireturn, 1)) : W p l e room_1 s m #[Value.ref b] below meth c H [] 689485 7027648 (lw_Z below #[Value.ref b] s) (F0 m pc ls [.int 1]) := by
  intro T hT X
  obtain ⟨fs, hret, hrun, hended, hW, hframe⟩ := X.leave (v := some (.int 1)) (hlocks := hlocks) (fun h => by rw [hr] at h; cases h)
  have hmeth' : T.vm.method? m = some meth := X.method'
  refine ⟨T.setFrames fs, ?_, .returned (some (.int 1)), hrun, hended, rfl, ⟨_, rfl⟩, hW, hframe⟩
  jvm_step X.here [X.here.top, hx, hb, hdg, hmeth', hr, ret, narrow_b1]
  (try refine ⟨rfl, ?_⟩); (try refine ⟨rfl, ?_⟩)
  first | (intro acts; rw [hret _ acts rfl rfl rfl]) | rw [hret _ _ rfl rfl rfl]
  exact Steps.refl _
/-- what holds at the law's entry: the machine, the code, the tables' words (any of lw_tbl by 'hts w (by decide +kernel)'), the script of L ints xs at the cell b, what the Statement gives of the start (any of its parts by flat_of_before) -/
def lw_At (p : Program) (s : State) (m : MethodId) (meth : Method) (c : Code) (b L : Nat) (xs : Nat → Int32) : Prop :=
  p.tables.exec = Jvm.exec ∧ c.code = code ∧ meth.sig.returnType = ret ∧ c.maxLocals = 7 ∧ s.vm.findClass R_law = some m.cls ∧ (∀ w ∈ lw_tbl, w.before #[Value.ref b] s = true) ∧ va_X b L xs s s.heap ∧ b < s.heap.size ∧ meth.locks = false ∧ (Jvm.Cond.and given_1 narrow_1).before #[Value.ref b] s = true
end
section
def RX0 : String := "Ahoarch$Book"
def TX0 : u_T := fun k => match k with
  | 0 => ("Ahoarch$Book", "rows", "[LAhoarch$Pattern;", true)
  | 1 => ("Ahoarch$Book", "entered", "I", false)
  | _ => ("Ahoarch$Book", "present", "I", false)
def tyX0 : Nat → FieldType := fun k => match k with
  | 0 => .array (.object "Ahoarch$Pattern")
  | 1 => .int
  | _ => .int
abbrev wsX00 : List Cond := u_ws RX0 TX0 3
theorem nmX0 : ∀ a, a < 3 → ∀ b, b < 3 → a ≠ b → (TX0 a).2.1 ≠ (TX0 b).2.1 := by decide +kernel
theorem tyX0_ok : ∀ k, k < 3 → parseFieldDescriptor (TX0 k).2.2.1 = some (tyX0 k) := by decide +kernel
abbrev cX0_init : ByteArray := prog_2_method_1_code
def yX0_init : MethodName := ⟨RX0, "<init>", "()V"⟩
abbrev cX0_isFull : ByteArray := prog_2_method_2_code
def yX0_isFull : MethodName := ⟨RX0, "isFull", "()Z"⟩
abbrev cX0_has : ByteArray := prog_2_method_3_code
def yX0_has : MethodName := ⟨RX0, "has", "(LAhoarch$Word;)Z"⟩
abbrev cX0_find : ByteArray := prog_2_method_4_code
def yX0_find : MethodName := ⟨RX0, "find", "(I)LAhoarch$Pattern;"⟩
abbrev cX0_add : ByteArray := prog_2_method_5_code
def yX0_add : MethodName := ⟨RX0, "add", "(LAhoarch$Word;)I"⟩
abbrev cX0_remove : ByteArray := prog_2_method_6_code
def yX0_remove : MethodName := ⟨RX0, "remove", "(LAhoarch$Pattern;)V"⟩
abbrev cX0_hasBeginning : ByteArray := prog_2_method_7_code
def yX0_hasBeginning : MethodName := ⟨RX0, "hasBeginning", "(JII)Z"⟩
abbrev cX0_longestEnd : ByteArray := prog_2_method_8_code
def yX0_longestEnd : MethodName := ⟨RX0, "longestEnd", "(JI)I"⟩
abbrev cX0_countBeginnings : ByteArray := prog_2_method_9_code
def yX0_countBeginnings : MethodName := ⟨RX0, "countBeginnings", "()I"⟩
abbrev cX0_longestSharedBefore : ByteArray := prog_2_method_10_code
def yX0_longestSharedBefore : MethodName := ⟨RX0, "longestSharedBefore", "(LAhoarch$Pattern;)I"⟩
abbrev cX0_shared : ByteArray := prog_2_method_11_code
def yX0_shared : MethodName := ⟨RX0, "shared", "(LAhoarch$Word;LAhoarch$Word;)I"⟩
abbrev cX0_countBefore : ByteArray := prog_2_method_12_code
def yX0_countBefore : MethodName := ⟨RX0, "countBefore", "(LAhoarch$Stream;I)I"⟩
abbrev cX0_endingAt : ByteArray := prog_2_method_13_code
def yX0_endingAt : MethodName := ⟨RX0, "endingAt", "(LAhoarch$Stream;I)LAhoarch$Pattern;"⟩
abbrev cX0_endingOfSize : ByteArray := prog_2_method_14_code
def yX0_endingOfSize : MethodName := ⟨RX0, "endingOfSize", "(LAhoarch$Stream;I)LAhoarch$Pattern;"⟩
abbrev cX0_longestAt : ByteArray := prog_2_method_15_code
def yX0_longestAt : MethodName := ⟨RX0, "longestAt", "(LAhoarch$Stream;I)LAhoarch$Pattern;"⟩
abbrev cX0_firstAt : ByteArray := prog_2_method_16_code
def yX0_firstAt : MethodName := ⟨RX0, "firstAt", "(LAhoarch$Stream;I)LAhoarch$Pattern;"⟩
abbrev cX0_longestWithin : ByteArray := prog_2_method_17_code
def yX0_longestWithin : MethodName := ⟨RX0, "longestWithin", "(LAhoarch$Stream;II)LAhoarch$Pattern;"⟩
def RX1 : String := "Ahoarch$Choice"
def TX1 : u_T := fun k => match k with
  | 0 => ("Ahoarch$Choice", "patternRows", "[LAhoarch$Pattern;", true)
  | 1 => ("Ahoarch$Choice", "placeRows", "[I", true)
  | _ => ("Ahoarch$Choice", "count", "I", false)
def tyX1 : Nat → FieldType := fun k => match k with
  | 0 => .array (.object "Ahoarch$Pattern")
  | 1 => .array .int
  | _ => .int
abbrev wsX10 : List Cond := u_ws RX1 TX1 3
theorem nmX1 : ∀ a, a < 3 → ∀ b, b < 3 → a ≠ b → (TX1 a).2.1 ≠ (TX1 b).2.1 := by decide +kernel
theorem tyX1_ok : ∀ k, k < 3 → parseFieldDescriptor (TX1 k).2.2.1 = some (tyX1 k) := by decide +kernel
abbrev cX1_init : ByteArray := prog_3_method_1_code
def yX1_init : MethodName := ⟨RX1, "<init>", "()V"⟩
abbrev cX1_choose : ByteArray := prog_3_method_2_code
def yX1_choose : MethodName := ⟨RX1, "choose", "(ILAhoarch$Book;LAhoarch$Stream;)V"⟩
abbrev cX1_chooseByPlace : ByteArray := prog_3_method_3_code
def yX1_chooseByPlace : MethodName := ⟨RX1, "chooseByPlace", "(ZLAhoarch$Book;LAhoarch$Stream;)V"⟩
abbrev cX1_chooseByEnd : ByteArray := prog_3_method_4_code
def yX1_chooseByEnd : MethodName := ⟨RX1, "chooseByEnd", "(LAhoarch$Book;LAhoarch$Stream;)V"⟩
abbrev cX1_keep : ByteArray := prog_3_method_5_code
def yX1_keep : MethodName := ⟨RX1, "keep", "(LAhoarch$Pattern;I)V"⟩
abbrev cX1_patternAt : ByteArray := prog_3_method_6_code
def yX1_patternAt : MethodName := ⟨RX1, "patternAt", "(I)LAhoarch$Pattern;"⟩
abbrev cX1_placeAt : ByteArray := prog_3_method_7_code
def yX1_placeAt : MethodName := ⟨RX1, "placeAt", "(I)I"⟩
def RX2 : String := "Ahoarch$Pattern"
def TX2 : u_T := fun k => match k with
  | 0 => ("Ahoarch$Pattern", "number", "I", true)
  | 1 => ("Ahoarch$Pattern", "letters", "LAhoarch$Word;", true)
  | _ => ("Ahoarch$Pattern", "replacement", "LAhoarch$Word;", false)
def tyX2 : Nat → FieldType := fun k => match k with
  | 0 => .int
  | 1 => .object "Ahoarch$Word"
  | _ => .object "Ahoarch$Word"
abbrev wsX20 : List Cond := u_ws RX2 TX2 3
theorem nmX2 : ∀ a, a < 3 → ∀ b, b < 3 → a ≠ b → (TX2 a).2.1 ≠ (TX2 b).2.1 := by decide +kernel
theorem tyX2_ok : ∀ k, k < 3 → parseFieldDescriptor (TX2 k).2.2.1 = some (tyX2 k) := by decide +kernel
abbrev cX2_init : ByteArray := prog_4_method_1_code
def yX2_init : MethodName := ⟨RX2, "<init>", "(ILAhoarch$Word;)V"⟩
def RX3 : String := "Ahoarch$Stream"
def TX3 : u_T := fun k => match k with
  | 0 => ("Ahoarch$Stream", "lasts", "[J", true)
  | _ => ("Ahoarch$Stream", "size", "I", false)
def tyX3 : Nat → FieldType := fun k => match k with
  | 0 => .array .long
  | _ => .int
abbrev wsX30 : List Cond := u_ws RX3 TX3 2
theorem nmX3 : ∀ a, a < 2 → ∀ b, b < 2 → a ≠ b → (TX3 a).2.1 ≠ (TX3 b).2.1 := by decide +kernel
theorem tyX3_ok : ∀ k, k < 2 → parseFieldDescriptor (TX3 k).2.2.1 = some (tyX3 k) := by decide +kernel
abbrev cX3_init : ByteArray := prog_5_method_1_code
def yX3_init : MethodName := ⟨RX3, "<init>", "()V"⟩
abbrev cX3_add : ByteArray := prog_5_method_2_code
def yX3_add : MethodName := ⟨RX3, "add", "(C)V"⟩
abbrev cX3_lastsBefore : ByteArray := prog_5_method_3_code
def yX3_lastsBefore : MethodName := ⟨RX3, "lastsBefore", "(I)J"⟩
abbrev cX3_letterAt : ByteArray := prog_5_method_4_code
def yX3_letterAt : MethodName := ⟨RX3, "letterAt", "(I)C"⟩
abbrev cX3_holdsBefore : ByteArray := prog_5_method_5_code
def yX3_holdsBefore : MethodName := ⟨RX3, "holdsBefore", "(ILAhoarch$Word;)Z"⟩
abbrev cX3_holdsAt : ByteArray := prog_5_method_6_code
def yX3_holdsAt : MethodName := ⟨RX3, "holdsAt", "(ILAhoarch$Word;)Z"⟩
abbrev cX3_count : ByteArray := prog_5_method_7_code
def yX3_count : MethodName := ⟨RX3, "count", "(LAhoarch$Word;)I"⟩
abbrev cX3_placeOf : ByteArray := prog_5_method_8_code
def yX3_placeOf : MethodName := ⟨RX3, "placeOf", "(LAhoarch$Word;I)I"⟩
def RX4 : String := "Ahoarch$Text"
def TX4 : u_T := fun k => match k with
  | 0 => ("Ahoarch$Text", "letters", "[C", true)
  | _ => ("Ahoarch$Text", "size", "I", false)
def tyX4 : Nat → FieldType := fun k => match k with
  | 0 => .array .char
  | _ => .int
abbrev wsX40 : List Cond := u_ws RX4 TX4 2
theorem nmX4 : ∀ a, a < 2 → ∀ b, b < 2 → a ≠ b → (TX4 a).2.1 ≠ (TX4 b).2.1 := by decide +kernel
theorem tyX4_ok : ∀ k, k < 2 → parseFieldDescriptor (TX4 k).2.2.1 = some (tyX4 k) := by decide +kernel
abbrev cX4_init : ByteArray := prog_6_method_1_code
def yX4_init : MethodName := ⟨RX4, "<init>", "()V"⟩
abbrev cX4_add : ByteArray := prog_6_method_2_code
def yX4_add : MethodName := ⟨RX4, "add", "(C)V"⟩
abbrev cX4_addWord : ByteArray := prog_6_method_3_code
def yX4_addWord : MethodName := ⟨RX4, "addWord", "(LAhoarch$Word;)V"⟩
abbrev cX4_addStream : ByteArray := prog_6_method_4_code
def yX4_addStream : MethodName := ⟨RX4, "addStream", "(LAhoarch$Stream;II)V"⟩
abbrev cX4_letterAt : ByteArray := prog_6_method_5_code
def yX4_letterAt : MethodName := ⟨RX4, "letterAt", "(I)C"⟩
def RX5 : String := "Ahoarch$Word"
def TX5 : u_T := fun k => match k with
  | 0 => ("Ahoarch$Word", "code", "J", true)
  | _ => ("Ahoarch$Word", "size", "I", true)
def tyX5 : Nat → FieldType := fun k => match k with
  | 0 => .long
  | _ => .int
abbrev wsX50 : List Cond := u_ws RX5 TX5 2
theorem nmX5 : ∀ a, a < 2 → ∀ b, b < 2 → a ≠ b → (TX5 a).2.1 ≠ (TX5 b).2.1 := by decide +kernel
theorem tyX5_ok : ∀ k, k < 2 → parseFieldDescriptor (TX5 k).2.2.1 = some (tyX5 k) := by decide +kernel
abbrev cX5_init : ByteArray := prog_7_method_1_code
def yX5_init : MethodName := ⟨RX5, "<init>", "(JI)V"⟩
abbrev cX5_with : ByteArray := prog_7_method_2_code
def yX5_with : MethodName := ⟨RX5, "with", "(C)LAhoarch$Word;"⟩
abbrev cX5_beginsWith : ByteArray := prog_7_method_3_code
def yX5_beginsWith : MethodName := ⟨RX5, "beginsWith", "(JI)Z"⟩
abbrev cX5_head : ByteArray := prog_7_method_4_code
def yX5_head : MethodName := ⟨RX5, "head", "(I)J"⟩
abbrev cX5_letterAt : ByteArray := prog_7_method_5_code
def yX5_letterAt : MethodName := ⟨RX5, "letterAt", "(I)C"⟩
def RX6 : String := "Ahoarch"
def TX6 : u_T := fun k => match k with
  | 0 => ("Ahoarch", "book", "LAhoarch$Book;", true)
  | 1 => ("Ahoarch", "stream", "LAhoarch$Stream;", true)
  | 2 => ("Ahoarch", "choice", "LAhoarch$Choice;", true)
  | 3 => ("Ahoarch", "text", "LAhoarch$Text;", true)
  | 4 => ("Ahoarch", "drafted", "LAhoarch$Word;", false)
  | _ => ("Ahoarch", "toldSoFar", "I", false)
def tyX6 : Nat → FieldType := fun k => match k with
  | 0 => .object "Ahoarch$Book"
  | 1 => .object "Ahoarch$Stream"
  | 2 => .object "Ahoarch$Choice"
  | 3 => .object "Ahoarch$Text"
  | 4 => .object "Ahoarch$Word"
  | _ => .int
abbrev wsX60 : List Cond := u_ws RX6 TX6 6
theorem nmX6 : ∀ a, a < 6 → ∀ b, b < 6 → a ≠ b → (TX6 a).2.1 ≠ (TX6 b).2.1 := by decide +kernel
theorem tyX6_ok : ∀ k, k < 6 → parseFieldDescriptor (TX6 k).2.2.1 = some (tyX6 k) := by decide +kernel
abbrev cX6_init : ByteArray := prog_1_method_1_code
def yX6_init : MethodName := ⟨RX6, "<init>", "()V"⟩
abbrev cX6_draft : ByteArray := prog_1_method_2_code
def yX6_draft : MethodName := ⟨RX6, "draft", "(C)I"⟩
abbrev cX6_enter : ByteArray := prog_1_method_3_code
def yX6_enter : MethodName := ⟨RX6, "enter", "()I"⟩
abbrev cX6_setReplacement : ByteArray := prog_1_method_4_code
def yX6_setReplacement : MethodName := ⟨RX6, "setReplacement", "(I)I"⟩
abbrev cX6_takeOut : ByteArray := prog_1_method_5_code
def yX6_takeOut : MethodName := ⟨RX6, "takeOut", "(I)I"⟩
abbrev cX6_patterns : ByteArray := prog_1_method_6_code
def yX6_patterns : MethodName := ⟨RX6, "patterns", "()I"⟩
abbrev cX6_length : ByteArray := prog_1_method_7_code
def yX6_length : MethodName := ⟨RX6, "length", "(I)I"⟩
abbrev cX6_beginnings : ByteArray := prog_1_method_8_code
def yX6_beginnings : MethodName := ⟨RX6, "beginnings", "()I"⟩
abbrev cX6_link : ByteArray := prog_1_method_9_code
def yX6_link : MethodName := ⟨RX6, "link", "(I)I"⟩
abbrev cX6_overlap : ByteArray := prog_1_method_10_code
def yX6_overlap : MethodName := ⟨RX6, "overlap", "(II)I"⟩
abbrev cX6_feed : ByteArray := prog_1_method_11_code
def yX6_feed : MethodName := ⟨RX6, "feed", "(C)I"⟩
abbrev cX6_feedPattern : ByteArray := prog_1_method_12_code
def yX6_feedPattern : MethodName := ⟨RX6, "feedPattern", "(I)I"⟩
abbrev cX6_clear : ByteArray := prog_1_method_13_code
def yX6_clear : MethodName := ⟨RX6, "clear", "()I"⟩
abbrev cX6_streamLength : ByteArray := prog_1_method_14_code
def yX6_streamLength : MethodName := ⟨RX6, "streamLength", "()I"⟩
abbrev cX6_depth : ByteArray := prog_1_method_15_code
def yX6_depth : MethodName := ⟨RX6, "depth", "()I"⟩
abbrev cX6_ending : ByteArray := prog_1_method_16_code
def yX6_ending : MethodName := ⟨RX6, "ending", "()I"⟩
abbrev cX6_endingPattern : ByteArray := prog_1_method_17_code
def yX6_endingPattern : MethodName := ⟨RX6, "endingPattern", "(I)I"⟩
abbrev cX6_occurrences : ByteArray := prog_1_method_18_code
def yX6_occurrences : MethodName := ⟨RX6, "occurrences", "()I"⟩
abbrev cX6_occurrencesOf : ByteArray := prog_1_method_19_code
def yX6_occurrencesOf : MethodName := ⟨RX6, "occurrencesOf", "(I)I"⟩
abbrev cX6_occurrence : ByteArray := prog_1_method_20_code
def yX6_occurrence : MethodName := ⟨RX6, "occurrence", "(II)I"⟩
abbrev cX6_told : ByteArray := prog_1_method_21_code
def yX6_told : MethodName := ⟨RX6, "told", "()I"⟩
abbrev cX6_covered : ByteArray := prog_1_method_22_code
def yX6_covered : MethodName := ⟨RX6, "covered", "()I"⟩
abbrev cX6_mostApart : ByteArray := prog_1_method_23_code
def yX6_mostApart : MethodName := ⟨RX6, "mostApart", "()I"⟩
abbrev cX6_chosen : ByteArray := prog_1_method_24_code
def yX6_chosen : MethodName := ⟨RX6, "chosen", "(I)I"⟩
abbrev cX6_chosenPattern : ByteArray := prog_1_method_25_code
def yX6_chosenPattern : MethodName := ⟨RX6, "chosenPattern", "(II)I"⟩
abbrev cX6_chosenPlace : ByteArray := prog_1_method_26_code
def yX6_chosenPlace : MethodName := ⟨RX6, "chosenPlace", "(II)I"⟩
abbrev cX6_replacedLength : ByteArray := prog_1_method_27_code
def yX6_replacedLength : MethodName := ⟨RX6, "replacedLength", "(I)I"⟩
abbrev cX6_replaced : ByteArray := prog_1_method_28_code
def yX6_replaced : MethodName := ⟨RX6, "replaced", "(II)C"⟩
abbrev cX6_certain : ByteArray := prog_1_method_29_code
def yX6_certain : MethodName := ⟨RX6, "certain", "()I"⟩
abbrev cX6_needLetter : ByteArray := prog_1_method_30_code
def yX6_needLetter : MethodName := ⟨RX6, "needLetter", "(C)V"⟩
abbrev cX6_needRule : ByteArray := prog_1_method_31_code
def yX6_needRule : MethodName := ⟨RX6, "needRule", "(I)V"⟩
abbrev cX6_need : ByteArray := prog_1_method_32_code
def yX6_need : MethodName := ⟨RX6, "need", "(I)LAhoarch$Pattern;"⟩
abbrev cX6_needRoom : ByteArray := prog_1_method_33_code
def yX6_needRoom : MethodName := ⟨RX6, "needRoom", "(I)V"⟩
abbrev cX6_take : ByteArray := prog_1_method_34_code
def yX6_take : MethodName := ⟨RX6, "take", "(C)I"⟩
abbrev cX6_chooseOne : ByteArray := prog_1_method_35_code
def yX6_chooseOne : MethodName := ⟨RX6, "chooseOne", "(II)LAhoarch$Pattern;"⟩
abbrev cX6_rewrite : ByteArray := prog_1_method_36_code
def yX6_rewrite : MethodName := ⟨RX6, "rewrite", "(I)V"⟩
abbrev cX6_mayGrowFrom : ByteArray := prog_1_method_37_code
def yX6_mayGrowFrom : MethodName := ⟨RX6, "mayGrowFrom", "(I)Z"⟩
abbrev cX6_tail : ByteArray := prog_1_method_38_code
def yX6_tail : MethodName := ⟨RX6, "tail", "(JI)J"⟩
abbrev cX6_codeOf : ByteArray := prog_1_method_39_code
def yX6_codeOf : MethodName := ⟨RX6, "codeOf", "(C)J"⟩
abbrev cX6_letterOf : ByteArray := prog_1_method_40_code
def yX6_letterOf : MethodName := ⟨RX6, "letterOf", "(J)C"⟩
def RX7 : String := "AhoarchModel"
def TX7 : u_T := fun k => match k with
  | 0 => ("AhoarchModel", "thrown", "I", false)
  | 1 => ("AhoarchModel", "draft", "[I", true)
  | 2 => ("AhoarchModel", "drafted", "I", false)
  | 3 => ("AhoarchModel", "entered", "I", false)
  | 4 => ("AhoarchModel", "isThere", "[Z", true)
  | 5 => ("AhoarchModel", "lengths", "[I", true)
  | 6 => ("AhoarchModel", "letters", "[I", true)
  | 7 => ("AhoarchModel", "newLengths", "[I", true)
  | 8 => ("AhoarchModel", "newLetters", "[I", true)
  | 9 => ("AhoarchModel", "stream", "[I", true)
  | 10 => ("AhoarchModel", "fed", "I", false)
  | 11 => ("AhoarchModel", "told", "I", false)
  | 12 => ("AhoarchModel", "itsPattern", "I", false)
  | _ => ("AhoarchModel", "itsPlace", "I", false)
def tyX7 : Nat → FieldType := fun k => match k with
  | 0 => .int
  | 1 => .array .int
  | 2 => .int
  | 3 => .int
  | 4 => .array .boolean
  | 5 => .array .int
  | 6 => .array .int
  | 7 => .array .int
  | 8 => .array .int
  | 9 => .array .int
  | 10 => .int
  | 11 => .int
  | 12 => .int
  | _ => .int
abbrev wsX70 : List Cond := u_ws RX7 TX7 14
theorem nmX7 : ∀ a, a < 14 → ∀ b, b < 14 → a ≠ b → (TX7 a).2.1 ≠ (TX7 b).2.1 := by decide +kernel
theorem tyX7_ok : ∀ k, k < 14 → parseFieldDescriptor (TX7 k).2.2.1 = some (tyX7 k) := by decide +kernel
abbrev cX7_init : ByteArray := prog_9_method_1_code
def yX7_init : MethodName := ⟨RX7, "<init>", "()V"⟩
abbrev cX7_thrown : ByteArray := prog_9_method_2_code
def yX7_thrown : MethodName := ⟨RX7, "thrown", "()I"⟩
abbrev cX7_holds : ByteArray := prog_9_method_3_code
def yX7_holds : MethodName := ⟨RX7, "holds", "(I)Z"⟩
abbrev cX7_isLetter : ByteArray := prog_9_method_4_code
def yX7_isLetter : MethodName := ⟨RX7, "isLetter", "(C)Z"⟩
abbrev cX7_isPattern : ByteArray := prog_9_method_5_code
def yX7_isPattern : MethodName := ⟨RX7, "isPattern", "(I)Z"⟩
abbrev cX7_patternsNow : ByteArray := prog_9_method_6_code
def yX7_patternsNow : MethodName := ⟨RX7, "patternsNow", "()I"⟩
abbrev cX7_draft : ByteArray := prog_9_method_7_code
def yX7_draft : MethodName := ⟨RX7, "draft", "(C)I"⟩
abbrev cX7_isDraft : ByteArray := prog_9_method_8_code
def yX7_isDraft : MethodName := ⟨RX7, "isDraft", "(I)Z"⟩
abbrev cX7_enter : ByteArray := prog_9_method_9_code
def yX7_enter : MethodName := ⟨RX7, "enter", "()I"⟩
abbrev cX7_isAsked : ByteArray := prog_9_method_10_code
def yX7_isAsked : MethodName := ⟨RX7, "isAsked", "(I)Z"⟩
abbrev cX7_setReplacement : ByteArray := prog_9_method_11_code
def yX7_setReplacement : MethodName := ⟨RX7, "setReplacement", "(I)I"⟩
abbrev cX7_takeOut : ByteArray := prog_9_method_12_code
def yX7_takeOut : MethodName := ⟨RX7, "takeOut", "(I)I"⟩
abbrev cX7_patterns : ByteArray := prog_9_method_13_code
def yX7_patterns : MethodName := ⟨RX7, "patterns", "()I"⟩
abbrev cX7_length : ByteArray := prog_9_method_14_code
def yX7_length : MethodName := ⟨RX7, "length", "(I)I"⟩
abbrev cX7_begins : ByteArray := prog_9_method_15_code
def yX7_begins : MethodName := ⟨RX7, "begins", "(IIII)Z"⟩
abbrev cX7_beginnings : ByteArray := prog_9_method_16_code
def yX7_beginnings : MethodName := ⟨RX7, "beginnings", "()I"⟩
abbrev cX7_link : ByteArray := prog_9_method_17_code
def yX7_link : MethodName := ⟨RX7, "link", "(I)I"⟩
abbrev cX7_overlap : ByteArray := prog_9_method_18_code
def yX7_overlap : MethodName := ⟨RX7, "overlap", "(II)I"⟩
abbrev cX7_stands : ByteArray := prog_9_method_19_code
def yX7_stands : MethodName := ⟨RX7, "stands", "(II)Z"⟩
abbrev cX7_endingAt : ByteArray := prog_9_method_20_code
def yX7_endingAt : MethodName := ⟨RX7, "endingAt", "(I)I"⟩
abbrev cX7_feeds : ByteArray := prog_9_method_21_code
def yX7_feeds : MethodName := ⟨RX7, "feeds", "(I)I"⟩
abbrev cX7_feed : ByteArray := prog_9_method_22_code
def yX7_feed : MethodName := ⟨RX7, "feed", "(C)I"⟩
abbrev cX7_feedPattern : ByteArray := prog_9_method_23_code
def yX7_feedPattern : MethodName := ⟨RX7, "feedPattern", "(I)I"⟩
abbrev cX7_clear : ByteArray := prog_9_method_24_code
def yX7_clear : MethodName := ⟨RX7, "clear", "()I"⟩
abbrev cX7_streamLength : ByteArray := prog_9_method_25_code
def yX7_streamLength : MethodName := ⟨RX7, "streamLength", "()I"⟩
abbrev cX7_isBeginning : ByteArray := prog_9_method_26_code
def yX7_isBeginning : MethodName := ⟨RX7, "isBeginning", "(II)Z"⟩
abbrev cX7_depth : ByteArray := prog_9_method_27_code
def yX7_depth : MethodName := ⟨RX7, "depth", "()I"⟩
abbrev cX7_ending : ByteArray := prog_9_method_28_code
def yX7_ending : MethodName := ⟨RX7, "ending", "()I"⟩
abbrev cX7_endingPattern : ByteArray := prog_9_method_29_code
def yX7_endingPattern : MethodName := ⟨RX7, "endingPattern", "(I)I"⟩
abbrev cX7_countOf : ByteArray := prog_9_method_30_code
def yX7_countOf : MethodName := ⟨RX7, "countOf", "(I)I"⟩
abbrev cX7_occurrences : ByteArray := prog_9_method_31_code
def yX7_occurrences : MethodName := ⟨RX7, "occurrences", "()I"⟩
abbrev cX7_occurrencesOf : ByteArray := prog_9_method_32_code
def yX7_occurrencesOf : MethodName := ⟨RX7, "occurrencesOf", "(I)I"⟩
abbrev cX7_occurrence : ByteArray := prog_9_method_33_code
def yX7_occurrence : MethodName := ⟨RX7, "occurrence", "(II)I"⟩
abbrev cX7_told : ByteArray := prog_9_method_34_code
def yX7_told : MethodName := ⟨RX7, "told", "()I"⟩
abbrev cX7_covered : ByteArray := prog_9_method_35_code
def yX7_covered : MethodName := ⟨RX7, "covered", "()I"⟩
abbrev cX7_findsByEnd : ByteArray := prog_9_method_36_code
def yX7_findsByEnd : MethodName := ⟨RX7, "findsByEnd", "(I)Z"⟩
abbrev cX7_finds : ByteArray := prog_9_method_37_code
def yX7_finds : MethodName := ⟨RX7, "finds", "(II)Z"⟩
abbrev cX7_itsEnd : ByteArray := prog_9_method_38_code
def yX7_itsEnd : MethodName := ⟨RX7, "itsEnd", "()I"⟩
abbrev cX7_choices : ByteArray := prog_9_method_39_code
def yX7_choices : MethodName := ⟨RX7, "choices", "(I)I"⟩
abbrev cX7_mostApart : ByteArray := prog_9_method_40_code
def yX7_mostApart : MethodName := ⟨RX7, "mostApart", "()I"⟩
abbrev cX7_isRule : ByteArray := prog_9_method_41_code
def yX7_isRule : MethodName := ⟨RX7, "isRule", "(I)Z"⟩
abbrev cX7_chosen : ByteArray := prog_9_method_42_code
def yX7_chosen : MethodName := ⟨RX7, "chosen", "(I)I"⟩
abbrev cX7_isChosen : ByteArray := prog_9_method_43_code
def yX7_isChosen : MethodName := ⟨RX7, "isChosen", "(II)Z"⟩
abbrev cX7_chosenPattern : ByteArray := prog_9_method_44_code
def yX7_chosenPattern : MethodName := ⟨RX7, "chosenPattern", "(II)I"⟩
abbrev cX7_chosenPlace : ByteArray := prog_9_method_45_code
def yX7_chosenPlace : MethodName := ⟨RX7, "chosenPlace", "(II)I"⟩
abbrev cX7_newLetter : ByteArray := prog_9_method_46_code
def yX7_newLetter : MethodName := ⟨RX7, "newLetter", "(II)I"⟩
abbrev cX7_newLength : ByteArray := prog_9_method_47_code
def yX7_newLength : MethodName := ⟨RX7, "newLength", "(I)I"⟩
abbrev cX7_replacedLength : ByteArray := prog_9_method_48_code
def yX7_replacedLength : MethodName := ⟨RX7, "replacedLength", "(I)I"⟩
abbrev cX7_replaced : ByteArray := prog_9_method_49_code
def yX7_replaced : MethodName := ⟨RX7, "replaced", "(II)C"⟩
abbrev cX7_isOpen : ByteArray := prog_9_method_50_code
def yX7_isOpen : MethodName := ⟨RX7, "isOpen", "(I)Z"⟩
abbrev cX7_certain : ByteArray := prog_9_method_51_code
def yX7_certain : MethodName := ⟨RX7, "certain", "()I"⟩
def RJx145de : String := "java/io/Serializable"
def RJ9 : String := "java/lang/Math"
abbrev cJ9_max_7cf53 : ByteArray := prog_15_method_65_code
def yJ9_max_7cf53 : MethodName := ⟨RJ9, "max", "(II)I"⟩
abbrev cJ9_min_7cf53 : ByteArray := prog_15_method_69_code
def yJ9_min_7cf53 : MethodName := ⟨RJ9, "min", "(II)I"⟩
def RJ0 : String := "java/lang/String"
def RL : String := "AhoarchLaw"
abbrev cL_draft : ByteArray := method_3_code
def yL_draft : MethodName := ⟨RL, "draft", "(LAhoarch;C[J)I"⟩
abbrev cL_enter : ByteArray := method_4_code
def yL_enter : MethodName := ⟨RL, "enter", "(LAhoarch;[J)I"⟩
abbrev cL_setReplacement : ByteArray := method_5_code
def yL_setReplacement : MethodName := ⟨RL, "setReplacement", "(LAhoarch;I[J)I"⟩
abbrev cL_takeOut : ByteArray := method_6_code
def yL_takeOut : MethodName := ⟨RL, "takeOut", "(LAhoarch;I[J)I"⟩
abbrev cL_length : ByteArray := method_7_code
def yL_length : MethodName := ⟨RL, "length", "(LAhoarch;I[J)I"⟩
abbrev cL_link : ByteArray := method_8_code
def yL_link : MethodName := ⟨RL, "link", "(LAhoarch;I[J)I"⟩
abbrev cL_overlap : ByteArray := method_9_code
def yL_overlap : MethodName := ⟨RL, "overlap", "(LAhoarch;II[J)I"⟩
abbrev cL_feed : ByteArray := method_10_code
def yL_feed : MethodName := ⟨RL, "feed", "(LAhoarch;C[J)I"⟩
abbrev cL_feedPattern : ByteArray := method_11_code
def yL_feedPattern : MethodName := ⟨RL, "feedPattern", "(LAhoarch;I[J)I"⟩
abbrev cL_endingPattern : ByteArray := method_12_code
def yL_endingPattern : MethodName := ⟨RL, "endingPattern", "(LAhoarch;I[J)I"⟩
abbrev cL_occurrencesOf : ByteArray := method_13_code
def yL_occurrencesOf : MethodName := ⟨RL, "occurrencesOf", "(LAhoarch;I[J)I"⟩
abbrev cL_occurrence : ByteArray := method_14_code
def yL_occurrence : MethodName := ⟨RL, "occurrence", "(LAhoarch;II[J)I"⟩
abbrev cL_chosen : ByteArray := method_15_code
def yL_chosen : MethodName := ⟨RL, "chosen", "(LAhoarch;I[J)I"⟩
abbrev cL_chosenPattern : ByteArray := method_16_code
def yL_chosenPattern : MethodName := ⟨RL, "chosenPattern", "(LAhoarch;II[J)I"⟩
abbrev cL_chosenPlace : ByteArray := method_17_code
def yL_chosenPlace : MethodName := ⟨RL, "chosenPlace", "(LAhoarch;II[J)I"⟩
abbrev cL_replacedLength : ByteArray := method_18_code
def yL_replacedLength : MethodName := ⟨RL, "replacedLength", "(LAhoarch;I[J)I"⟩
abbrev cL_replaced : ByteArray := method_19_code
def yL_replaced : MethodName := ⟨RL, "replaced", "(LAhoarch;II[J)I"⟩
abbrev cL_law : ByteArray := code
def yL_law : MethodName := ⟨RL, "law", "([I)Z"⟩
abbrev vwCl : List vw_C := [(RX0, TX0, 3), (RX1, TX1, 3), (RX2, TX2, 3), (RX3, TX3, 2), (RX4, TX4, 2), (RX5, TX5, 2), (RX6, TX6, 6), (RX7, TX7, 14)]
end
section
theorem dX0_init_0 : decode cX0_init 0 = .ok (.aload_n 0, 1) := by decide +kernel
theorem dX0_init_1 : decode cX0_init 1 = .ok (.invokespecial 3, 3) := by decide +kernel
theorem dX0_init_4 : decode cX0_init 4 = .ok (.aload_n 0, 1) := by decide +kernel
theorem dX0_init_5 : decode cX0_init 5 = .ok (.bipush 40, 2) := by decide +kernel
theorem dX0_init_7 : decode cX0_init 7 = .ok (.anewarray 9, 3) := by decide +kernel
theorem dX0_init_10 : decode cX0_init 10 = .ok (.putfield 11, 3) := by decide +kernel
theorem dX0_init_13 : decode cX0_init 13 = .ok (.aload_n 0, 1) := by decide +kernel
theorem dX0_init_14 : decode cX0_init 14 = .ok (.iconst 0, 1) := by decide +kernel
theorem dX0_init_15 : decode cX0_init 15 = .ok (.putfield 17, 3) := by decide +kernel
theorem dX0_init_18 : decode cX0_init 18 = .ok (.aload_n 0, 1) := by decide +kernel
theorem dX0_init_19 : decode cX0_init 19 = .ok (.iconst 0, 1) := by decide +kernel
theorem dX0_init_20 : decode cX0_init 20 = .ok (.putfield 21, 3) := by decide +kernel
theorem dX0_init_23 : decode cX0_init 23 = .ok (.return_, 1) := by decide +kernel
theorem dX0_isFull_0 : decode cX0_isFull 0 = .ok (.aload_n 0, 1) := by decide +kernel
theorem dX0_isFull_1 : decode cX0_isFull 1 = .ok (.getfield 21, 3) := by decide +kernel
theorem dX0_isFull_4 : decode cX0_isFull 4 = .ok (.bipush 20, 2) := by decide +kernel
theorem dX0_isFull_6 : decode cX0_isFull 6 = .ok (.if_icmp .ge 12, 3) := by decide +kernel
theorem dX0_isFull_9 : decode cX0_isFull 9 = .ok (.aload_n 0, 1) := by decide +kernel
theorem dX0_isFull_10 : decode cX0_isFull 10 = .ok (.getfield 17, 3) := by decide +kernel
theorem dX0_isFull_13 : decode cX0_isFull 13 = .ok (.bipush 40, 2) := by decide +kernel
theorem dX0_isFull_15 : decode cX0_isFull 15 = .ok (.if_icmp .lt 7, 3) := by decide +kernel
theorem dX0_isFull_18 : decode cX0_isFull 18 = .ok (.iconst 1, 1) := by decide +kernel
theorem dX0_isFull_19 : decode cX0_isFull 19 = .ok (.goto 4, 3) := by decide +kernel
theorem dX0_isFull_22 : decode cX0_isFull 22 = .ok (.iconst 0, 1) := by decide +kernel
theorem dX0_isFull_23 : decode cX0_isFull 23 = .ok (.ireturn, 1) := by decide +kernel
theorem dX0_has_0 : decode cX0_has 0 = .ok (.aload_n 0, 1) := by decide +kernel
theorem dX0_has_1 : decode cX0_has 1 = .ok (.getfield 11, 3) := by decide +kernel
theorem dX0_has_4 : decode cX0_has 4 = .ok (.astore_n 2, 1) := by decide +kernel
theorem dX0_has_5 : decode cX0_has 5 = .ok (.aload_n 2, 1) := by decide +kernel
theorem dX0_has_6 : decode cX0_has 6 = .ok (.arraylength, 1) := by decide +kernel
theorem dX0_has_7 : decode cX0_has 7 = .ok (.istore_n 3, 1) := by decide +kernel
theorem dX0_has_8 : decode cX0_has 8 = .ok (.iconst 0, 1) := by decide +kernel
theorem dX0_has_9 : decode cX0_has 9 = .ok (.istore 4, 2) := by decide +kernel
theorem dX0_has_11 : decode cX0_has 11 = .ok (.iload 4, 2) := by decide +kernel
theorem dX0_has_13 : decode cX0_has 13 = .ok (.iload_n 3, 1) := by decide +kernel
theorem dX0_has_14 : decode cX0_has 14 = .ok (.if_icmp .ge 38, 3) := by decide +kernel
theorem dX0_has_17 : decode cX0_has 17 = .ok (.aload_n 2, 1) := by decide +kernel
theorem dX0_has_18 : decode cX0_has 18 = .ok (.iload 4, 2) := by decide +kernel
theorem dX0_has_20 : decode cX0_has 20 = .ok (.aaload, 1) := by decide +kernel
theorem dX0_has_21 : decode cX0_has 21 = .ok (.astore 5, 2) := by decide +kernel
theorem dX0_has_23 : decode cX0_has 23 = .ok (.aload 5, 2) := by decide +kernel
theorem dX0_has_25 : decode cX0_has 25 = .ok (.ifnull 21, 3) := by decide +kernel
theorem dX0_has_28 : decode cX0_has 28 = .ok (.aload 5, 2) := by decide +kernel
theorem dX0_has_30 : decode cX0_has 30 = .ok (.getfield 24, 3) := by decide +kernel
theorem dX0_has_33 : decode cX0_has 33 = .ok (.getfield 28, 3) := by decide +kernel
theorem dX0_has_36 : decode cX0_has 36 = .ok (.aload_n 1, 1) := by decide +kernel
theorem dX0_has_37 : decode cX0_has 37 = .ok (.getfield 28, 3) := by decide +kernel
theorem dX0_has_40 : decode cX0_has 40 = .ok (.lcmp, 1) := by decide +kernel
theorem dX0_has_41 : decode cX0_has 41 = .ok (.ifCond .ne 5, 3) := by decide +kernel
theorem dX0_has_44 : decode cX0_has 44 = .ok (.iconst 1, 1) := by decide +kernel
theorem dX0_has_45 : decode cX0_has 45 = .ok (.ireturn, 1) := by decide +kernel
theorem dX0_has_46 : decode cX0_has 46 = .ok (.iinc 4 1, 3) := by decide +kernel
theorem dX0_has_49 : decode cX0_has 49 = .ok (.goto (-38), 3) := by decide +kernel
theorem dX0_has_52 : decode cX0_has 52 = .ok (.iconst 0, 1) := by decide +kernel
theorem dX0_has_53 : decode cX0_has 53 = .ok (.ireturn, 1) := by decide +kernel
theorem dX0_find_0 : decode cX0_find 0 = .ok (.iload_n 1, 1) := by decide +kernel
theorem dX0_find_1 : decode cX0_find 1 = .ok (.ifCond .lt 21, 3) := by decide +kernel
theorem dX0_find_4 : decode cX0_find 4 = .ok (.iload_n 1, 1) := by decide +kernel
theorem dX0_find_5 : decode cX0_find 5 = .ok (.aload_n 0, 1) := by decide +kernel
theorem dX0_find_6 : decode cX0_find 6 = .ok (.getfield 11, 3) := by decide +kernel
theorem dX0_find_9 : decode cX0_find 9 = .ok (.arraylength, 1) := by decide +kernel
theorem dX0_find_10 : decode cX0_find 10 = .ok (.if_icmp .ge 12, 3) := by decide +kernel
theorem dX0_find_13 : decode cX0_find 13 = .ok (.aload_n 0, 1) := by decide +kernel
theorem dX0_find_14 : decode cX0_find 14 = .ok (.getfield 11, 3) := by decide +kernel
theorem dX0_find_17 : decode cX0_find 17 = .ok (.iload_n 1, 1) := by decide +kernel
theorem dX0_find_18 : decode cX0_find 18 = .ok (.aaload, 1) := by decide +kernel
theorem dX0_find_19 : decode cX0_find 19 = .ok (.goto 4, 3) := by decide +kernel
theorem dX0_find_22 : decode cX0_find 22 = .ok (.aconst_null, 1) := by decide +kernel
theorem dX0_find_23 : decode cX0_find 23 = .ok (.areturn, 1) := by decide +kernel
theorem dX0_add_0 : decode cX0_add 0 = .ok (.aload_n 0, 1) := by decide +kernel
theorem dX0_add_1 : decode cX0_add 1 = .ok (.getfield 17, 3) := by decide +kernel
theorem dX0_add_4 : decode cX0_add 4 = .ok (.istore_n 2, 1) := by decide +kernel
theorem dX0_add_5 : decode cX0_add 5 = .ok (.iload_n 2, 1) := by decide +kernel
theorem dX0_add_6 : decode cX0_add 6 = .ok (.aload_n 0, 1) := by decide +kernel
theorem dX0_add_7 : decode cX0_add 7 = .ok (.getfield 11, 3) := by decide +kernel
theorem dX0_add_10 : decode cX0_add 10 = .ok (.arraylength, 1) := by decide +kernel
theorem dX0_add_11 : decode cX0_add 11 = .ok (.if_icmp .ge 38, 3) := by decide +kernel
theorem dX0_add_14 : decode cX0_add 14 = .ok (.aload_n 0, 1) := by decide +kernel
theorem dX0_add_15 : decode cX0_add 15 = .ok (.getfield 11, 3) := by decide +kernel
theorem dX0_add_18 : decode cX0_add 18 = .ok (.iload_n 2, 1) := by decide +kernel
theorem dX0_add_19 : decode cX0_add 19 = .ok (.new 9, 3) := by decide +kernel
theorem dX0_add_22 : decode cX0_add 22 = .ok (.dup, 1) := by decide +kernel
theorem dX0_add_23 : decode cX0_add 23 = .ok (.iload_n 2, 1) := by decide +kernel
theorem dX0_add_24 : decode cX0_add 24 = .ok (.aload_n 1, 1) := by decide +kernel
theorem dX0_add_25 : decode cX0_add 25 = .ok (.invokespecial 34, 3) := by decide +kernel
theorem dX0_add_28 : decode cX0_add 28 = .ok (.aastore, 1) := by decide +kernel
theorem dX0_add_29 : decode cX0_add 29 = .ok (.aload_n 0, 1) := by decide +kernel
theorem dX0_add_30 : decode cX0_add 30 = .ok (.dup, 1) := by decide +kernel
theorem dX0_add_31 : decode cX0_add 31 = .ok (.getfield 17, 3) := by decide +kernel
theorem dX0_add_34 : decode cX0_add 34 = .ok (.iconst 1, 1) := by decide +kernel
theorem dX0_add_35 : decode cX0_add 35 = .ok (.iadd, 1) := by decide +kernel
theorem dX0_add_36 : decode cX0_add 36 = .ok (.putfield 17, 3) := by decide +kernel
theorem dX0_add_39 : decode cX0_add 39 = .ok (.aload_n 0, 1) := by decide +kernel
theorem dX0_add_40 : decode cX0_add 40 = .ok (.dup, 1) := by decide +kernel
theorem dX0_add_41 : decode cX0_add 41 = .ok (.getfield 21, 3) := by decide +kernel
theorem dX0_add_44 : decode cX0_add 44 = .ok (.iconst 1, 1) := by decide +kernel
theorem dX0_add_45 : decode cX0_add 45 = .ok (.iadd, 1) := by decide +kernel
theorem dX0_add_46 : decode cX0_add 46 = .ok (.putfield 21, 3) := by decide +kernel
theorem dX0_add_49 : decode cX0_add 49 = .ok (.iload_n 2, 1) := by decide +kernel
theorem dX0_add_50 : decode cX0_add 50 = .ok (.ireturn, 1) := by decide +kernel
theorem dX0_remove_0 : decode cX0_remove 0 = .ok (.aload_n 0, 1) := by decide +kernel
theorem dX0_remove_1 : decode cX0_remove 1 = .ok (.aload_n 1, 1) := by decide +kernel
theorem dX0_remove_2 : decode cX0_remove 2 = .ok (.getfield 37, 3) := by decide +kernel
theorem dX0_remove_5 : decode cX0_remove 5 = .ok (.invokevirtual 40, 3) := by decide +kernel
theorem dX0_remove_8 : decode cX0_remove 8 = .ok (.ifnull 23, 3) := by decide +kernel
theorem dX0_remove_11 : decode cX0_remove 11 = .ok (.aload_n 0, 1) := by decide +kernel
theorem dX0_remove_12 : decode cX0_remove 12 = .ok (.getfield 11, 3) := by decide +kernel
theorem dX0_remove_15 : decode cX0_remove 15 = .ok (.aload_n 1, 1) := by decide +kernel
theorem dX0_remove_16 : decode cX0_remove 16 = .ok (.getfield 37, 3) := by decide +kernel
theorem dX0_remove_19 : decode cX0_remove 19 = .ok (.aconst_null, 1) := by decide +kernel
theorem dX0_remove_20 : decode cX0_remove 20 = .ok (.aastore, 1) := by decide +kernel
theorem dX0_remove_21 : decode cX0_remove 21 = .ok (.aload_n 0, 1) := by decide +kernel
theorem dX0_remove_22 : decode cX0_remove 22 = .ok (.dup, 1) := by decide +kernel
theorem dX0_remove_23 : decode cX0_remove 23 = .ok (.getfield 21, 3) := by decide +kernel
theorem dX0_remove_26 : decode cX0_remove 26 = .ok (.iconst 1, 1) := by decide +kernel
theorem dX0_remove_27 : decode cX0_remove 27 = .ok (.isub, 1) := by decide +kernel
theorem dX0_remove_28 : decode cX0_remove 28 = .ok (.putfield 21, 3) := by decide +kernel
theorem dX0_remove_31 : decode cX0_remove 31 = .ok (.return_, 1) := by decide +kernel
theorem dX0_hasBeginning_0 : decode cX0_hasBeginning 0 = .ok (.aload_n 0, 1) := by decide +kernel
theorem dX0_hasBeginning_1 : decode cX0_hasBeginning 1 = .ok (.getfield 11, 3) := by decide +kernel
theorem dX0_hasBeginning_4 : decode cX0_hasBeginning 4 = .ok (.astore 5, 2) := by decide +kernel
theorem dX0_hasBeginning_6 : decode cX0_hasBeginning 6 = .ok (.aload 5, 2) := by decide +kernel
theorem dX0_hasBeginning_8 : decode cX0_hasBeginning 8 = .ok (.arraylength, 1) := by decide +kernel
theorem dX0_hasBeginning_9 : decode cX0_hasBeginning 9 = .ok (.istore 6, 2) := by decide +kernel
theorem dX0_hasBeginning_11 : decode cX0_hasBeginning 11 = .ok (.iconst 0, 1) := by decide +kernel
theorem dX0_hasBeginning_12 : decode cX0_hasBeginning 12 = .ok (.istore 7, 2) := by decide +kernel
theorem dX0_hasBeginning_14 : decode cX0_hasBeginning 14 = .ok (.iload 7, 2) := by decide +kernel
theorem dX0_hasBeginning_16 : decode cX0_hasBeginning 16 = .ok (.iload 6, 2) := by decide +kernel
theorem dX0_hasBeginning_18 : decode cX0_hasBeginning 18 = .ok (.if_icmp .ge 49, 3) := by decide +kernel
theorem dX0_hasBeginning_21 : decode cX0_hasBeginning 21 = .ok (.aload 5, 2) := by decide +kernel
theorem dX0_hasBeginning_23 : decode cX0_hasBeginning 23 = .ok (.iload 7, 2) := by decide +kernel
theorem dX0_hasBeginning_25 : decode cX0_hasBeginning 25 = .ok (.aaload, 1) := by decide +kernel
theorem dX0_hasBeginning_26 : decode cX0_hasBeginning 26 = .ok (.astore 8, 2) := by decide +kernel
theorem dX0_hasBeginning_28 : decode cX0_hasBeginning 28 = .ok (.aload 8, 2) := by decide +kernel
theorem dX0_hasBeginning_30 : decode cX0_hasBeginning 30 = .ok (.ifnull 31, 3) := by decide +kernel
theorem dX0_hasBeginning_33 : decode cX0_hasBeginning 33 = .ok (.aload 8, 2) := by decide +kernel
theorem dX0_hasBeginning_35 : decode cX0_hasBeginning 35 = .ok (.getfield 24, 3) := by decide +kernel
theorem dX0_hasBeginning_38 : decode cX0_hasBeginning 38 = .ok (.getfield 44, 3) := by decide +kernel
theorem dX0_hasBeginning_41 : decode cX0_hasBeginning 41 = .ok (.iload 4, 2) := by decide +kernel
theorem dX0_hasBeginning_43 : decode cX0_hasBeginning 43 = .ok (.if_icmp .lt 18, 3) := by decide +kernel
theorem dX0_hasBeginning_46 : decode cX0_hasBeginning 46 = .ok (.aload 8, 2) := by decide +kernel
theorem dX0_hasBeginning_48 : decode cX0_hasBeginning 48 = .ok (.getfield 24, 3) := by decide +kernel
theorem dX0_hasBeginning_51 : decode cX0_hasBeginning 51 = .ok (.lload_n 1, 1) := by decide +kernel
theorem dX0_hasBeginning_52 : decode cX0_hasBeginning 52 = .ok (.iload_n 3, 1) := by decide +kernel
theorem dX0_hasBeginning_53 : decode cX0_hasBeginning 53 = .ok (.invokevirtual 47, 3) := by decide +kernel
theorem dX0_hasBeginning_56 : decode cX0_hasBeginning 56 = .ok (.ifCond .eq 5, 3) := by decide +kernel
theorem dX0_hasBeginning_59 : decode cX0_hasBeginning 59 = .ok (.iconst 1, 1) := by decide +kernel
theorem dX0_hasBeginning_60 : decode cX0_hasBeginning 60 = .ok (.ireturn, 1) := by decide +kernel
theorem dX0_hasBeginning_61 : decode cX0_hasBeginning 61 = .ok (.iinc 7 1, 3) := by decide +kernel
theorem dX0_hasBeginning_64 : decode cX0_hasBeginning 64 = .ok (.goto (-50), 3) := by decide +kernel
theorem dX0_hasBeginning_67 : decode cX0_hasBeginning 67 = .ok (.iconst 0, 1) := by decide +kernel
theorem dX0_hasBeginning_68 : decode cX0_hasBeginning 68 = .ok (.ireturn, 1) := by decide +kernel
theorem dX0_longestEnd_0 : decode cX0_longestEnd 0 = .ok (.iload_n 3, 1) := by decide +kernel
theorem dX0_longestEnd_1 : decode cX0_longestEnd 1 = .ok (.istore 4, 2) := by decide +kernel
theorem dX0_longestEnd_3 : decode cX0_longestEnd 3 = .ok (.iload 4, 2) := by decide +kernel
theorem dX0_longestEnd_5 : decode cX0_longestEnd 5 = .ok (.ifCond .le 29, 3) := by decide +kernel
theorem dX0_longestEnd_8 : decode cX0_longestEnd 8 = .ok (.aload_n 0, 1) := by decide +kernel
theorem dX0_longestEnd_9 : decode cX0_longestEnd 9 = .ok (.lload_n 1, 1) := by decide +kernel
theorem dX0_longestEnd_10 : decode cX0_longestEnd 10 = .ok (.iload 4, 2) := by decide +kernel
theorem dX0_longestEnd_12 : decode cX0_longestEnd 12 = .ok (.invokestatic 51, 3) := by decide +kernel
theorem dX0_longestEnd_15 : decode cX0_longestEnd 15 = .ok (.iload 4, 2) := by decide +kernel
theorem dX0_longestEnd_17 : decode cX0_longestEnd 17 = .ok (.iload 4, 2) := by decide +kernel
theorem dX0_longestEnd_19 : decode cX0_longestEnd 19 = .ok (.invokevirtual 55, 3) := by decide +kernel
theorem dX0_longestEnd_22 : decode cX0_longestEnd 22 = .ok (.ifCond .eq 6, 3) := by decide +kernel
theorem dX0_longestEnd_25 : decode cX0_longestEnd 25 = .ok (.iload 4, 2) := by decide +kernel
theorem dX0_longestEnd_27 : decode cX0_longestEnd 27 = .ok (.ireturn, 1) := by decide +kernel
theorem dX0_longestEnd_28 : decode cX0_longestEnd 28 = .ok (.iinc 4 (-1), 3) := by decide +kernel
theorem dX0_longestEnd_31 : decode cX0_longestEnd 31 = .ok (.goto (-28), 3) := by decide +kernel
theorem dX0_longestEnd_34 : decode cX0_longestEnd 34 = .ok (.iconst 0, 1) := by decide +kernel
theorem dX0_longestEnd_35 : decode cX0_longestEnd 35 = .ok (.ireturn, 1) := by decide +kernel
theorem dX0_countBeginnings_0 : decode cX0_countBeginnings 0 = .ok (.iconst 0, 1) := by decide +kernel
theorem dX0_countBeginnings_1 : decode cX0_countBeginnings 1 = .ok (.istore_n 1, 1) := by decide +kernel
theorem dX0_countBeginnings_2 : decode cX0_countBeginnings 2 = .ok (.aload_n 0, 1) := by decide +kernel
theorem dX0_countBeginnings_3 : decode cX0_countBeginnings 3 = .ok (.getfield 11, 3) := by decide +kernel
theorem dX0_countBeginnings_6 : decode cX0_countBeginnings 6 = .ok (.astore_n 2, 1) := by decide +kernel
theorem dX0_countBeginnings_7 : decode cX0_countBeginnings 7 = .ok (.aload_n 2, 1) := by decide +kernel
theorem dX0_countBeginnings_8 : decode cX0_countBeginnings 8 = .ok (.arraylength, 1) := by decide +kernel
theorem dX0_countBeginnings_9 : decode cX0_countBeginnings 9 = .ok (.istore_n 3, 1) := by decide +kernel
theorem dX0_countBeginnings_10 : decode cX0_countBeginnings 10 = .ok (.iconst 0, 1) := by decide +kernel
theorem dX0_countBeginnings_11 : decode cX0_countBeginnings 11 = .ok (.istore 4, 2) := by decide +kernel
theorem dX0_countBeginnings_13 : decode cX0_countBeginnings 13 = .ok (.iload 4, 2) := by decide +kernel
theorem dX0_countBeginnings_15 : decode cX0_countBeginnings 15 = .ok (.iload_n 3, 1) := by decide +kernel
theorem dX0_countBeginnings_16 : decode cX0_countBeginnings 16 = .ok (.if_icmp .ge 38, 3) := by decide +kernel
theorem dX0_countBeginnings_19 : decode cX0_countBeginnings 19 = .ok (.aload_n 2, 1) := by decide +kernel
theorem dX0_countBeginnings_20 : decode cX0_countBeginnings 20 = .ok (.iload 4, 2) := by decide +kernel
theorem dX0_countBeginnings_22 : decode cX0_countBeginnings 22 = .ok (.aaload, 1) := by decide +kernel
theorem dX0_countBeginnings_23 : decode cX0_countBeginnings 23 = .ok (.astore 5, 2) := by decide +kernel
theorem dX0_countBeginnings_25 : decode cX0_countBeginnings 25 = .ok (.aload 5, 2) := by decide +kernel
theorem dX0_countBeginnings_27 : decode cX0_countBeginnings 27 = .ok (.ifnull 21, 3) := by decide +kernel
theorem dX0_countBeginnings_30 : decode cX0_countBeginnings 30 = .ok (.iload_n 1, 1) := by decide +kernel
theorem dX0_countBeginnings_31 : decode cX0_countBeginnings 31 = .ok (.aload 5, 2) := by decide +kernel
theorem dX0_countBeginnings_33 : decode cX0_countBeginnings 33 = .ok (.getfield 24, 3) := by decide +kernel
theorem dX0_countBeginnings_36 : decode cX0_countBeginnings 36 = .ok (.getfield 44, 3) := by decide +kernel
theorem dX0_countBeginnings_39 : decode cX0_countBeginnings 39 = .ok (.aload_n 0, 1) := by decide +kernel
theorem dX0_countBeginnings_40 : decode cX0_countBeginnings 40 = .ok (.aload 5, 2) := by decide +kernel
theorem dX0_countBeginnings_42 : decode cX0_countBeginnings 42 = .ok (.invokevirtual 59, 3) := by decide +kernel
theorem dX0_countBeginnings_45 : decode cX0_countBeginnings 45 = .ok (.isub, 1) := by decide +kernel
theorem dX0_countBeginnings_46 : decode cX0_countBeginnings 46 = .ok (.iadd, 1) := by decide +kernel
theorem dX0_countBeginnings_47 : decode cX0_countBeginnings 47 = .ok (.istore_n 1, 1) := by decide +kernel
theorem dX0_countBeginnings_48 : decode cX0_countBeginnings 48 = .ok (.iinc 4 1, 3) := by decide +kernel
theorem dX0_countBeginnings_51 : decode cX0_countBeginnings 51 = .ok (.goto (-38), 3) := by decide +kernel
theorem dX0_countBeginnings_54 : decode cX0_countBeginnings 54 = .ok (.iload_n 1, 1) := by decide +kernel
theorem dX0_countBeginnings_55 : decode cX0_countBeginnings 55 = .ok (.ireturn, 1) := by decide +kernel
theorem dX0_longestSharedBefore_0 : decode cX0_longestSharedBefore 0 = .ok (.iconst 0, 1) := by decide +kernel
theorem dX0_longestSharedBefore_1 : decode cX0_longestSharedBefore 1 = .ok (.istore_n 2, 1) := by decide +kernel
theorem dX0_longestSharedBefore_2 : decode cX0_longestSharedBefore 2 = .ok (.aload_n 0, 1) := by decide +kernel
theorem dX0_longestSharedBefore_3 : decode cX0_longestSharedBefore 3 = .ok (.getfield 11, 3) := by decide +kernel
theorem dX0_longestSharedBefore_6 : decode cX0_longestSharedBefore 6 = .ok (.astore_n 3, 1) := by decide +kernel
theorem dX0_longestSharedBefore_7 : decode cX0_longestSharedBefore 7 = .ok (.aload_n 3, 1) := by decide +kernel
theorem dX0_longestSharedBefore_8 : decode cX0_longestSharedBefore 8 = .ok (.arraylength, 1) := by decide +kernel
theorem dX0_longestSharedBefore_9 : decode cX0_longestSharedBefore 9 = .ok (.istore 4, 2) := by decide +kernel
theorem dX0_longestSharedBefore_11 : decode cX0_longestSharedBefore 11 = .ok (.iconst 0, 1) := by decide +kernel
theorem dX0_longestSharedBefore_12 : decode cX0_longestSharedBefore 12 = .ok (.istore 5, 2) := by decide +kernel
theorem dX0_longestSharedBefore_14 : decode cX0_longestSharedBefore 14 = .ok (.iload 5, 2) := by decide +kernel
theorem dX0_longestSharedBefore_16 : decode cX0_longestSharedBefore 16 = .ok (.iload 4, 2) := by decide +kernel
theorem dX0_longestSharedBefore_18 : decode cX0_longestSharedBefore 18 = .ok (.if_icmp .ge 49, 3) := by decide +kernel
theorem dX0_longestSharedBefore_21 : decode cX0_longestSharedBefore 21 = .ok (.aload_n 3, 1) := by decide +kernel
theorem dX0_longestSharedBefore_22 : decode cX0_longestSharedBefore 22 = .ok (.iload 5, 2) := by decide +kernel
theorem dX0_longestSharedBefore_24 : decode cX0_longestSharedBefore 24 = .ok (.aaload, 1) := by decide +kernel
theorem dX0_longestSharedBefore_25 : decode cX0_longestSharedBefore 25 = .ok (.astore 6, 2) := by decide +kernel
theorem dX0_longestSharedBefore_27 : decode cX0_longestSharedBefore 27 = .ok (.aload 6, 2) := by decide +kernel
theorem dX0_longestSharedBefore_29 : decode cX0_longestSharedBefore 29 = .ok (.ifnull 32, 3) := by decide +kernel
theorem dX0_longestSharedBefore_32 : decode cX0_longestSharedBefore 32 = .ok (.aload 6, 2) := by decide +kernel
theorem dX0_longestSharedBefore_34 : decode cX0_longestSharedBefore 34 = .ok (.getfield 37, 3) := by decide +kernel
theorem dX0_longestSharedBefore_37 : decode cX0_longestSharedBefore 37 = .ok (.aload_n 1, 1) := by decide +kernel
theorem dX0_longestSharedBefore_38 : decode cX0_longestSharedBefore 38 = .ok (.getfield 37, 3) := by decide +kernel
theorem dX0_longestSharedBefore_41 : decode cX0_longestSharedBefore 41 = .ok (.if_icmp .ge 20, 3) := by decide +kernel
theorem dX0_longestSharedBefore_44 : decode cX0_longestSharedBefore 44 = .ok (.iload_n 2, 1) := by decide +kernel
theorem dX0_longestSharedBefore_45 : decode cX0_longestSharedBefore 45 = .ok (.aload 6, 2) := by decide +kernel
theorem dX0_longestSharedBefore_47 : decode cX0_longestSharedBefore 47 = .ok (.getfield 24, 3) := by decide +kernel
theorem dX0_longestSharedBefore_50 : decode cX0_longestSharedBefore 50 = .ok (.aload_n 1, 1) := by decide +kernel
theorem dX0_longestSharedBefore_51 : decode cX0_longestSharedBefore 51 = .ok (.getfield 24, 3) := by decide +kernel
theorem dX0_longestSharedBefore_54 : decode cX0_longestSharedBefore 54 = .ok (.invokestatic 63, 3) := by decide +kernel
theorem dX0_longestSharedBefore_57 : decode cX0_longestSharedBefore 57 = .ok (.invokestatic 67, 3) := by decide +kernel
theorem dX0_longestSharedBefore_60 : decode cX0_longestSharedBefore 60 = .ok (.istore_n 2, 1) := by decide +kernel
theorem dX0_longestSharedBefore_61 : decode cX0_longestSharedBefore 61 = .ok (.iinc 5 1, 3) := by decide +kernel
theorem dX0_longestSharedBefore_64 : decode cX0_longestSharedBefore 64 = .ok (.goto (-50), 3) := by decide +kernel
theorem dX0_longestSharedBefore_67 : decode cX0_longestSharedBefore 67 = .ok (.iload_n 2, 1) := by decide +kernel
theorem dX0_longestSharedBefore_68 : decode cX0_longestSharedBefore 68 = .ok (.ireturn, 1) := by decide +kernel
theorem dX0_shared_0 : decode cX0_shared 0 = .ok (.aload_n 0, 1) := by decide +kernel
theorem dX0_shared_1 : decode cX0_shared 1 = .ok (.getfield 44, 3) := by decide +kernel
theorem dX0_shared_4 : decode cX0_shared 4 = .ok (.aload_n 1, 1) := by decide +kernel
theorem dX0_shared_5 : decode cX0_shared 5 = .ok (.getfield 44, 3) := by decide +kernel
theorem dX0_shared_8 : decode cX0_shared 8 = .ok (.invokestatic 73, 3) := by decide +kernel
theorem dX0_shared_11 : decode cX0_shared 11 = .ok (.istore_n 2, 1) := by decide +kernel
theorem dX0_shared_12 : decode cX0_shared 12 = .ok (.iload_n 2, 1) := by decide +kernel
theorem dX0_shared_13 : decode cX0_shared 13 = .ok (.ifCond .le 24, 3) := by decide +kernel
theorem dX0_shared_16 : decode cX0_shared 16 = .ok (.aload_n 0, 1) := by decide +kernel
theorem dX0_shared_17 : decode cX0_shared 17 = .ok (.aload_n 1, 1) := by decide +kernel
theorem dX0_shared_18 : decode cX0_shared 18 = .ok (.iload_n 2, 1) := by decide +kernel
theorem dX0_shared_19 : decode cX0_shared 19 = .ok (.invokevirtual 76, 3) := by decide +kernel
theorem dX0_shared_22 : decode cX0_shared 22 = .ok (.iload_n 2, 1) := by decide +kernel
theorem dX0_shared_23 : decode cX0_shared 23 = .ok (.invokevirtual 47, 3) := by decide +kernel
theorem dX0_shared_26 : decode cX0_shared 26 = .ok (.ifCond .eq 5, 3) := by decide +kernel
theorem dX0_shared_29 : decode cX0_shared 29 = .ok (.iload_n 2, 1) := by decide +kernel
theorem dX0_shared_30 : decode cX0_shared 30 = .ok (.ireturn, 1) := by decide +kernel
theorem dX0_shared_31 : decode cX0_shared 31 = .ok (.iinc 2 (-1), 3) := by decide +kernel
theorem dX0_shared_34 : decode cX0_shared 34 = .ok (.goto (-22), 3) := by decide +kernel
theorem dX0_shared_37 : decode cX0_shared 37 = .ok (.iconst 0, 1) := by decide +kernel
theorem dX0_shared_38 : decode cX0_shared 38 = .ok (.ireturn, 1) := by decide +kernel
theorem dX0_countBefore_0 : decode cX0_countBefore 0 = .ok (.iconst 0, 1) := by decide +kernel
theorem dX0_countBefore_1 : decode cX0_countBefore 1 = .ok (.istore_n 3, 1) := by decide +kernel
theorem dX0_countBefore_2 : decode cX0_countBefore 2 = .ok (.aload_n 0, 1) := by decide +kernel
theorem dX0_countBefore_3 : decode cX0_countBefore 3 = .ok (.getfield 11, 3) := by decide +kernel
theorem dX0_countBefore_6 : decode cX0_countBefore 6 = .ok (.astore 4, 2) := by decide +kernel
theorem dX0_countBefore_8 : decode cX0_countBefore 8 = .ok (.aload 4, 2) := by decide +kernel
theorem dX0_countBefore_10 : decode cX0_countBefore 10 = .ok (.arraylength, 1) := by decide +kernel
theorem dX0_countBefore_11 : decode cX0_countBefore 11 = .ok (.istore 5, 2) := by decide +kernel
theorem dX0_countBefore_13 : decode cX0_countBefore 13 = .ok (.iconst 0, 1) := by decide +kernel
theorem dX0_countBefore_14 : decode cX0_countBefore 14 = .ok (.istore 6, 2) := by decide +kernel
theorem dX0_countBefore_16 : decode cX0_countBefore 16 = .ok (.iload 6, 2) := by decide +kernel
theorem dX0_countBefore_18 : decode cX0_countBefore 18 = .ok (.iload 5, 2) := by decide +kernel
theorem dX0_countBefore_20 : decode cX0_countBefore 20 = .ok (.if_icmp .ge 37, 3) := by decide +kernel
theorem dX0_countBefore_23 : decode cX0_countBefore 23 = .ok (.aload 4, 2) := by decide +kernel
theorem dX0_countBefore_25 : decode cX0_countBefore 25 = .ok (.iload 6, 2) := by decide +kernel
theorem dX0_countBefore_27 : decode cX0_countBefore 27 = .ok (.aaload, 1) := by decide +kernel
theorem dX0_countBefore_28 : decode cX0_countBefore 28 = .ok (.astore 7, 2) := by decide +kernel
theorem dX0_countBefore_30 : decode cX0_countBefore 30 = .ok (.aload 7, 2) := by decide +kernel
theorem dX0_countBefore_32 : decode cX0_countBefore 32 = .ok (.ifnull 19, 3) := by decide +kernel
theorem dX0_countBefore_35 : decode cX0_countBefore 35 = .ok (.aload_n 1, 1) := by decide +kernel
theorem dX0_countBefore_36 : decode cX0_countBefore 36 = .ok (.iload_n 2, 1) := by decide +kernel
theorem dX0_countBefore_37 : decode cX0_countBefore 37 = .ok (.aload 7, 2) := by decide +kernel
theorem dX0_countBefore_39 : decode cX0_countBefore 39 = .ok (.getfield 24, 3) := by decide +kernel
theorem dX0_countBefore_42 : decode cX0_countBefore 42 = .ok (.invokevirtual 80, 3) := by decide +kernel
theorem dX0_countBefore_45 : decode cX0_countBefore 45 = .ok (.ifCond .eq 6, 3) := by decide +kernel
theorem dX0_countBefore_48 : decode cX0_countBefore 48 = .ok (.iinc 3 1, 3) := by decide +kernel
theorem dX0_countBefore_51 : decode cX0_countBefore 51 = .ok (.iinc 6 1, 3) := by decide +kernel
theorem dX0_countBefore_54 : decode cX0_countBefore 54 = .ok (.goto (-38), 3) := by decide +kernel
theorem dX0_countBefore_57 : decode cX0_countBefore 57 = .ok (.iload_n 3, 1) := by decide +kernel
theorem dX0_countBefore_58 : decode cX0_countBefore 58 = .ok (.ireturn, 1) := by decide +kernel
theorem dX0_endingAt_0 : decode cX0_endingAt 0 = .ok (.iconst 0, 1) := by decide +kernel
theorem dX0_endingAt_1 : decode cX0_endingAt 1 = .ok (.istore_n 3, 1) := by decide +kernel
theorem dX0_endingAt_2 : decode cX0_endingAt 2 = .ok (.bipush 8, 2) := by decide +kernel
theorem dX0_endingAt_4 : decode cX0_endingAt 4 = .ok (.istore 4, 2) := by decide +kernel
theorem dX0_endingAt_6 : decode cX0_endingAt 6 = .ok (.iload 4, 2) := by decide +kernel
theorem dX0_endingAt_8 : decode cX0_endingAt 8 = .ok (.ifCond .le 34, 3) := by decide +kernel
theorem dX0_endingAt_11 : decode cX0_endingAt 11 = .ok (.aload_n 0, 1) := by decide +kernel
theorem dX0_endingAt_12 : decode cX0_endingAt 12 = .ok (.aload_n 1, 1) := by decide +kernel
theorem dX0_endingAt_13 : decode cX0_endingAt 13 = .ok (.iload 4, 2) := by decide +kernel
theorem dX0_endingAt_15 : decode cX0_endingAt 15 = .ok (.invokevirtual 86, 3) := by decide +kernel
theorem dX0_endingAt_18 : decode cX0_endingAt 18 = .ok (.astore 5, 2) := by decide +kernel
theorem dX0_endingAt_20 : decode cX0_endingAt 20 = .ok (.aload 5, 2) := by decide +kernel
theorem dX0_endingAt_22 : decode cX0_endingAt 22 = .ok (.ifnull 14, 3) := by decide +kernel
theorem dX0_endingAt_25 : decode cX0_endingAt 25 = .ok (.iload_n 3, 1) := by decide +kernel
theorem dX0_endingAt_26 : decode cX0_endingAt 26 = .ok (.iload_n 2, 1) := by decide +kernel
theorem dX0_endingAt_27 : decode cX0_endingAt 27 = .ok (.if_icmp .ne 6, 3) := by decide +kernel
theorem dX0_endingAt_30 : decode cX0_endingAt 30 = .ok (.aload 5, 2) := by decide +kernel
theorem dX0_endingAt_32 : decode cX0_endingAt 32 = .ok (.areturn, 1) := by decide +kernel
theorem dX0_endingAt_33 : decode cX0_endingAt 33 = .ok (.iinc 3 1, 3) := by decide +kernel
theorem dX0_endingAt_36 : decode cX0_endingAt 36 = .ok (.iinc 4 (-1), 3) := by decide +kernel
theorem dX0_endingAt_39 : decode cX0_endingAt 39 = .ok (.goto (-33), 3) := by decide +kernel
theorem dX0_endingAt_42 : decode cX0_endingAt 42 = .ok (.aconst_null, 1) := by decide +kernel
theorem dX0_endingAt_43 : decode cX0_endingAt 43 = .ok (.areturn, 1) := by decide +kernel
theorem dX0_endingOfSize_0 : decode cX0_endingOfSize 0 = .ok (.aload_n 0, 1) := by decide +kernel
theorem dX0_endingOfSize_1 : decode cX0_endingOfSize 1 = .ok (.getfield 11, 3) := by decide +kernel
theorem dX0_endingOfSize_4 : decode cX0_endingOfSize 4 = .ok (.astore_n 3, 1) := by decide +kernel
theorem dX0_endingOfSize_5 : decode cX0_endingOfSize 5 = .ok (.aload_n 3, 1) := by decide +kernel
theorem dX0_endingOfSize_6 : decode cX0_endingOfSize 6 = .ok (.arraylength, 1) := by decide +kernel
theorem dX0_endingOfSize_7 : decode cX0_endingOfSize 7 = .ok (.istore 4, 2) := by decide +kernel
theorem dX0_endingOfSize_9 : decode cX0_endingOfSize 9 = .ok (.iconst 0, 1) := by decide +kernel
theorem dX0_endingOfSize_10 : decode cX0_endingOfSize 10 = .ok (.istore 5, 2) := by decide +kernel
theorem dX0_endingOfSize_12 : decode cX0_endingOfSize 12 = .ok (.iload 5, 2) := by decide +kernel
theorem dX0_endingOfSize_14 : decode cX0_endingOfSize 14 = .ok (.iload 4, 2) := by decide +kernel
theorem dX0_endingOfSize_16 : decode cX0_endingOfSize 16 = .ok (.if_icmp .ge 51, 3) := by decide +kernel
theorem dX0_endingOfSize_19 : decode cX0_endingOfSize 19 = .ok (.aload_n 3, 1) := by decide +kernel
theorem dX0_endingOfSize_20 : decode cX0_endingOfSize 20 = .ok (.iload 5, 2) := by decide +kernel
theorem dX0_endingOfSize_22 : decode cX0_endingOfSize 22 = .ok (.aaload, 1) := by decide +kernel
theorem dX0_endingOfSize_23 : decode cX0_endingOfSize 23 = .ok (.astore 6, 2) := by decide +kernel
theorem dX0_endingOfSize_25 : decode cX0_endingOfSize 25 = .ok (.aload 6, 2) := by decide +kernel
theorem dX0_endingOfSize_27 : decode cX0_endingOfSize 27 = .ok (.ifnull 34, 3) := by decide +kernel
theorem dX0_endingOfSize_30 : decode cX0_endingOfSize 30 = .ok (.aload 6, 2) := by decide +kernel
theorem dX0_endingOfSize_32 : decode cX0_endingOfSize 32 = .ok (.getfield 24, 3) := by decide +kernel
theorem dX0_endingOfSize_35 : decode cX0_endingOfSize 35 = .ok (.getfield 44, 3) := by decide +kernel
theorem dX0_endingOfSize_38 : decode cX0_endingOfSize 38 = .ok (.iload_n 2, 1) := by decide +kernel
theorem dX0_endingOfSize_39 : decode cX0_endingOfSize 39 = .ok (.if_icmp .ne 22, 3) := by decide +kernel
theorem dX0_endingOfSize_42 : decode cX0_endingOfSize 42 = .ok (.aload_n 1, 1) := by decide +kernel
theorem dX0_endingOfSize_43 : decode cX0_endingOfSize 43 = .ok (.aload_n 1, 1) := by decide +kernel
theorem dX0_endingOfSize_44 : decode cX0_endingOfSize 44 = .ok (.getfield 90, 3) := by decide +kernel
theorem dX0_endingOfSize_47 : decode cX0_endingOfSize 47 = .ok (.aload 6, 2) := by decide +kernel
theorem dX0_endingOfSize_49 : decode cX0_endingOfSize 49 = .ok (.getfield 24, 3) := by decide +kernel
theorem dX0_endingOfSize_52 : decode cX0_endingOfSize 52 = .ok (.invokevirtual 80, 3) := by decide +kernel
theorem dX0_endingOfSize_55 : decode cX0_endingOfSize 55 = .ok (.ifCond .eq 6, 3) := by decide +kernel
theorem dX0_endingOfSize_58 : decode cX0_endingOfSize 58 = .ok (.aload 6, 2) := by decide +kernel
theorem dX0_endingOfSize_60 : decode cX0_endingOfSize 60 = .ok (.areturn, 1) := by decide +kernel
theorem dX0_endingOfSize_61 : decode cX0_endingOfSize 61 = .ok (.iinc 5 1, 3) := by decide +kernel
theorem dX0_endingOfSize_64 : decode cX0_endingOfSize 64 = .ok (.goto (-52), 3) := by decide +kernel
theorem dX0_endingOfSize_67 : decode cX0_endingOfSize 67 = .ok (.aconst_null, 1) := by decide +kernel
theorem dX0_endingOfSize_68 : decode cX0_endingOfSize 68 = .ok (.areturn, 1) := by decide +kernel
theorem dX0_longestAt_0 : decode cX0_longestAt 0 = .ok (.aconst_null, 1) := by decide +kernel
theorem dX0_longestAt_1 : decode cX0_longestAt 1 = .ok (.astore_n 3, 1) := by decide +kernel
theorem dX0_longestAt_2 : decode cX0_longestAt 2 = .ok (.aload_n 0, 1) := by decide +kernel
theorem dX0_longestAt_3 : decode cX0_longestAt 3 = .ok (.getfield 11, 3) := by decide +kernel
theorem dX0_longestAt_6 : decode cX0_longestAt 6 = .ok (.astore 4, 2) := by decide +kernel
theorem dX0_longestAt_8 : decode cX0_longestAt 8 = .ok (.aload 4, 2) := by decide +kernel
theorem dX0_longestAt_10 : decode cX0_longestAt 10 = .ok (.arraylength, 1) := by decide +kernel
theorem dX0_longestAt_11 : decode cX0_longestAt 11 = .ok (.istore 5, 2) := by decide +kernel
theorem dX0_longestAt_13 : decode cX0_longestAt 13 = .ok (.iconst 0, 1) := by decide +kernel
theorem dX0_longestAt_14 : decode cX0_longestAt 14 = .ok (.istore 6, 2) := by decide +kernel
theorem dX0_longestAt_16 : decode cX0_longestAt 16 = .ok (.iload 6, 2) := by decide +kernel
theorem dX0_longestAt_18 : decode cX0_longestAt 18 = .ok (.iload 5, 2) := by decide +kernel
theorem dX0_longestAt_20 : decode cX0_longestAt 20 = .ok (.if_icmp .ge 59, 3) := by decide +kernel
theorem dX0_longestAt_23 : decode cX0_longestAt 23 = .ok (.aload 4, 2) := by decide +kernel
theorem dX0_longestAt_25 : decode cX0_longestAt 25 = .ok (.iload 6, 2) := by decide +kernel
theorem dX0_longestAt_27 : decode cX0_longestAt 27 = .ok (.aaload, 1) := by decide +kernel
theorem dX0_longestAt_28 : decode cX0_longestAt 28 = .ok (.astore 7, 2) := by decide +kernel
theorem dX0_longestAt_30 : decode cX0_longestAt 30 = .ok (.aload 7, 2) := by decide +kernel
theorem dX0_longestAt_32 : decode cX0_longestAt 32 = .ok (.ifnull 41, 3) := by decide +kernel
theorem dX0_longestAt_35 : decode cX0_longestAt 35 = .ok (.aload_n 1, 1) := by decide +kernel
theorem dX0_longestAt_36 : decode cX0_longestAt 36 = .ok (.iload_n 2, 1) := by decide +kernel
theorem dX0_longestAt_37 : decode cX0_longestAt 37 = .ok (.aload 7, 2) := by decide +kernel
theorem dX0_longestAt_39 : decode cX0_longestAt 39 = .ok (.getfield 24, 3) := by decide +kernel
theorem dX0_longestAt_42 : decode cX0_longestAt 42 = .ok (.invokevirtual 91, 3) := by decide +kernel
theorem dX0_longestAt_45 : decode cX0_longestAt 45 = .ok (.ifCond .eq 28, 3) := by decide +kernel
theorem dX0_longestAt_48 : decode cX0_longestAt 48 = .ok (.aload_n 3, 1) := by decide +kernel
theorem dX0_longestAt_49 : decode cX0_longestAt 49 = .ok (.ifnull 21, 3) := by decide +kernel
theorem dX0_longestAt_52 : decode cX0_longestAt 52 = .ok (.aload 7, 2) := by decide +kernel
theorem dX0_longestAt_54 : decode cX0_longestAt 54 = .ok (.getfield 24, 3) := by decide +kernel
theorem dX0_longestAt_57 : decode cX0_longestAt 57 = .ok (.getfield 44, 3) := by decide +kernel
theorem dX0_longestAt_60 : decode cX0_longestAt 60 = .ok (.aload_n 3, 1) := by decide +kernel
theorem dX0_longestAt_61 : decode cX0_longestAt 61 = .ok (.getfield 24, 3) := by decide +kernel
theorem dX0_longestAt_64 : decode cX0_longestAt 64 = .ok (.getfield 44, 3) := by decide +kernel
theorem dX0_longestAt_67 : decode cX0_longestAt 67 = .ok (.if_icmp .le 6, 3) := by decide +kernel
theorem dX0_longestAt_70 : decode cX0_longestAt 70 = .ok (.aload 7, 2) := by decide +kernel
theorem dX0_longestAt_72 : decode cX0_longestAt 72 = .ok (.astore_n 3, 1) := by decide +kernel
theorem dX0_longestAt_73 : decode cX0_longestAt 73 = .ok (.iinc 6 1, 3) := by decide +kernel
theorem dX0_longestAt_76 : decode cX0_longestAt 76 = .ok (.goto (-60), 3) := by decide +kernel
theorem dX0_longestAt_79 : decode cX0_longestAt 79 = .ok (.aload_n 3, 1) := by decide +kernel
theorem dX0_longestAt_80 : decode cX0_longestAt 80 = .ok (.areturn, 1) := by decide +kernel
theorem dX0_firstAt_0 : decode cX0_firstAt 0 = .ok (.aload_n 0, 1) := by decide +kernel
theorem dX0_firstAt_1 : decode cX0_firstAt 1 = .ok (.getfield 11, 3) := by decide +kernel
theorem dX0_firstAt_4 : decode cX0_firstAt 4 = .ok (.astore_n 3, 1) := by decide +kernel
theorem dX0_firstAt_5 : decode cX0_firstAt 5 = .ok (.aload_n 3, 1) := by decide +kernel
theorem dX0_firstAt_6 : decode cX0_firstAt 6 = .ok (.arraylength, 1) := by decide +kernel
theorem dX0_firstAt_7 : decode cX0_firstAt 7 = .ok (.istore 4, 2) := by decide +kernel
theorem dX0_firstAt_9 : decode cX0_firstAt 9 = .ok (.iconst 0, 1) := by decide +kernel
theorem dX0_firstAt_10 : decode cX0_firstAt 10 = .ok (.istore 5, 2) := by decide +kernel
theorem dX0_firstAt_12 : decode cX0_firstAt 12 = .ok (.iload 5, 2) := by decide +kernel
theorem dX0_firstAt_14 : decode cX0_firstAt 14 = .ok (.iload 4, 2) := by decide +kernel
theorem dX0_firstAt_16 : decode cX0_firstAt 16 = .ok (.if_icmp .ge 36, 3) := by decide +kernel
theorem dX0_firstAt_19 : decode cX0_firstAt 19 = .ok (.aload_n 3, 1) := by decide +kernel
theorem dX0_firstAt_20 : decode cX0_firstAt 20 = .ok (.iload 5, 2) := by decide +kernel
theorem dX0_firstAt_22 : decode cX0_firstAt 22 = .ok (.aaload, 1) := by decide +kernel
theorem dX0_firstAt_23 : decode cX0_firstAt 23 = .ok (.astore 6, 2) := by decide +kernel
theorem dX0_firstAt_25 : decode cX0_firstAt 25 = .ok (.aload 6, 2) := by decide +kernel
theorem dX0_firstAt_27 : decode cX0_firstAt 27 = .ok (.ifnull 19, 3) := by decide +kernel
theorem dX0_firstAt_30 : decode cX0_firstAt 30 = .ok (.aload_n 1, 1) := by decide +kernel
theorem dX0_firstAt_31 : decode cX0_firstAt 31 = .ok (.iload_n 2, 1) := by decide +kernel
theorem dX0_firstAt_32 : decode cX0_firstAt 32 = .ok (.aload 6, 2) := by decide +kernel
theorem dX0_firstAt_34 : decode cX0_firstAt 34 = .ok (.getfield 24, 3) := by decide +kernel
theorem dX0_firstAt_37 : decode cX0_firstAt 37 = .ok (.invokevirtual 91, 3) := by decide +kernel
theorem dX0_firstAt_40 : decode cX0_firstAt 40 = .ok (.ifCond .eq 6, 3) := by decide +kernel
theorem dX0_firstAt_43 : decode cX0_firstAt 43 = .ok (.aload 6, 2) := by decide +kernel
theorem dX0_firstAt_45 : decode cX0_firstAt 45 = .ok (.areturn, 1) := by decide +kernel
theorem dX0_firstAt_46 : decode cX0_firstAt 46 = .ok (.iinc 5 1, 3) := by decide +kernel
theorem dX0_firstAt_49 : decode cX0_firstAt 49 = .ok (.goto (-37), 3) := by decide +kernel
theorem dX0_firstAt_52 : decode cX0_firstAt 52 = .ok (.aconst_null, 1) := by decide +kernel
theorem dX0_firstAt_53 : decode cX0_firstAt 53 = .ok (.areturn, 1) := by decide +kernel
theorem dX0_longestWithin_0 : decode cX0_longestWithin 0 = .ok (.aconst_null, 1) := by decide +kernel
theorem dX0_longestWithin_1 : decode cX0_longestWithin 1 = .ok (.astore 4, 2) := by decide +kernel
theorem dX0_longestWithin_3 : decode cX0_longestWithin 3 = .ok (.aload_n 0, 1) := by decide +kernel
theorem dX0_longestWithin_4 : decode cX0_longestWithin 4 = .ok (.getfield 11, 3) := by decide +kernel
theorem dX0_longestWithin_7 : decode cX0_longestWithin 7 = .ok (.astore 5, 2) := by decide +kernel
theorem dX0_longestWithin_9 : decode cX0_longestWithin 9 = .ok (.aload 5, 2) := by decide +kernel
theorem dX0_longestWithin_11 : decode cX0_longestWithin 11 = .ok (.arraylength, 1) := by decide +kernel
theorem dX0_longestWithin_12 : decode cX0_longestWithin 12 = .ok (.istore 6, 2) := by decide +kernel
theorem dX0_longestWithin_14 : decode cX0_longestWithin 14 = .ok (.iconst 0, 1) := by decide +kernel
theorem dX0_longestWithin_15 : decode cX0_longestWithin 15 = .ok (.istore 7, 2) := by decide +kernel
theorem dX0_longestWithin_17 : decode cX0_longestWithin 17 = .ok (.iload 7, 2) := by decide +kernel
theorem dX0_longestWithin_19 : decode cX0_longestWithin 19 = .ok (.iload 6, 2) := by decide +kernel
theorem dX0_longestWithin_21 : decode cX0_longestWithin 21 = .ok (.if_icmp .ge 76, 3) := by decide +kernel
theorem dX0_longestWithin_24 : decode cX0_longestWithin 24 = .ok (.aload 5, 2) := by decide +kernel
theorem dX0_longestWithin_26 : decode cX0_longestWithin 26 = .ok (.iload 7, 2) := by decide +kernel
theorem dX0_longestWithin_28 : decode cX0_longestWithin 28 = .ok (.aaload, 1) := by decide +kernel
theorem dX0_longestWithin_29 : decode cX0_longestWithin 29 = .ok (.astore 8, 2) := by decide +kernel
theorem dX0_longestWithin_31 : decode cX0_longestWithin 31 = .ok (.aload 8, 2) := by decide +kernel
theorem dX0_longestWithin_33 : decode cX0_longestWithin 33 = .ok (.ifnull 58, 3) := by decide +kernel
theorem dX0_longestWithin_36 : decode cX0_longestWithin 36 = .ok (.aload 8, 2) := by decide +kernel
theorem dX0_longestWithin_38 : decode cX0_longestWithin 38 = .ok (.getfield 24, 3) := by decide +kernel
theorem dX0_longestWithin_41 : decode cX0_longestWithin 41 = .ok (.getfield 44, 3) := by decide +kernel
theorem dX0_longestWithin_44 : decode cX0_longestWithin 44 = .ok (.iload_n 3, 1) := by decide +kernel
theorem dX0_longestWithin_45 : decode cX0_longestWithin 45 = .ok (.iload_n 2, 1) := by decide +kernel
theorem dX0_longestWithin_46 : decode cX0_longestWithin 46 = .ok (.isub, 1) := by decide +kernel
theorem dX0_longestWithin_47 : decode cX0_longestWithin 47 = .ok (.if_icmp .gt 44, 3) := by decide +kernel
theorem dX0_longestWithin_50 : decode cX0_longestWithin 50 = .ok (.aload_n 1, 1) := by decide +kernel
theorem dX0_longestWithin_51 : decode cX0_longestWithin 51 = .ok (.iload_n 3, 1) := by decide +kernel
theorem dX0_longestWithin_52 : decode cX0_longestWithin 52 = .ok (.aload 8, 2) := by decide +kernel
theorem dX0_longestWithin_54 : decode cX0_longestWithin 54 = .ok (.getfield 24, 3) := by decide +kernel
theorem dX0_longestWithin_57 : decode cX0_longestWithin 57 = .ok (.invokevirtual 80, 3) := by decide +kernel
theorem dX0_longestWithin_60 : decode cX0_longestWithin 60 = .ok (.ifCond .eq 31, 3) := by decide +kernel
theorem dX0_longestWithin_63 : decode cX0_longestWithin 63 = .ok (.aload 4, 2) := by decide +kernel
theorem dX0_longestWithin_65 : decode cX0_longestWithin 65 = .ok (.ifnull 22, 3) := by decide +kernel
theorem dX0_longestWithin_68 : decode cX0_longestWithin 68 = .ok (.aload 8, 2) := by decide +kernel
theorem dX0_longestWithin_70 : decode cX0_longestWithin 70 = .ok (.getfield 24, 3) := by decide +kernel
theorem dX0_longestWithin_73 : decode cX0_longestWithin 73 = .ok (.getfield 44, 3) := by decide +kernel
theorem dX0_longestWithin_76 : decode cX0_longestWithin 76 = .ok (.aload 4, 2) := by decide +kernel
theorem dX0_longestWithin_78 : decode cX0_longestWithin 78 = .ok (.getfield 24, 3) := by decide +kernel
theorem dX0_longestWithin_81 : decode cX0_longestWithin 81 = .ok (.getfield 44, 3) := by decide +kernel
theorem dX0_longestWithin_84 : decode cX0_longestWithin 84 = .ok (.if_icmp .le 7, 3) := by decide +kernel
theorem dX0_longestWithin_87 : decode cX0_longestWithin 87 = .ok (.aload 8, 2) := by decide +kernel
theorem dX0_longestWithin_89 : decode cX0_longestWithin 89 = .ok (.astore 4, 2) := by decide +kernel
theorem dX0_longestWithin_91 : decode cX0_longestWithin 91 = .ok (.iinc 7 1, 3) := by decide +kernel
theorem dX0_longestWithin_94 : decode cX0_longestWithin 94 = .ok (.goto (-77), 3) := by decide +kernel
theorem dX0_longestWithin_97 : decode cX0_longestWithin 97 = .ok (.aload 4, 2) := by decide +kernel
theorem dX0_longestWithin_99 : decode cX0_longestWithin 99 = .ok (.areturn, 1) := by decide +kernel
theorem dX1_init_0 : decode cX1_init 0 = .ok (.aload_n 0, 1) := by decide +kernel
theorem dX1_init_1 : decode cX1_init 1 = .ok (.invokespecial 3, 3) := by decide +kernel
theorem dX1_init_4 : decode cX1_init 4 = .ok (.aload_n 0, 1) := by decide +kernel
theorem dX1_init_5 : decode cX1_init 5 = .ok (.sipush 200, 3) := by decide +kernel
theorem dX1_init_8 : decode cX1_init 8 = .ok (.anewarray 9, 3) := by decide +kernel
theorem dX1_init_11 : decode cX1_init 11 = .ok (.putfield 11, 3) := by decide +kernel
theorem dX1_init_14 : decode cX1_init 14 = .ok (.aload_n 0, 1) := by decide +kernel
theorem dX1_init_15 : decode cX1_init 15 = .ok (.sipush 200, 3) := by decide +kernel
theorem dX1_init_18 : decode cX1_init 18 = .ok (.newarray .int, 2) := by decide +kernel
theorem dX1_init_20 : decode cX1_init 20 = .ok (.putfield 17, 3) := by decide +kernel
theorem dX1_init_23 : decode cX1_init 23 = .ok (.aload_n 0, 1) := by decide +kernel
theorem dX1_init_24 : decode cX1_init 24 = .ok (.iconst 0, 1) := by decide +kernel
theorem dX1_init_25 : decode cX1_init 25 = .ok (.putfield 21, 3) := by decide +kernel
theorem dX1_init_28 : decode cX1_init 28 = .ok (.return_, 1) := by decide +kernel
theorem dX1_choose_0 : decode cX1_choose 0 = .ok (.aload_n 0, 1) := by decide +kernel
theorem dX1_choose_1 : decode cX1_choose 1 = .ok (.iconst 0, 1) := by decide +kernel
theorem dX1_choose_2 : decode cX1_choose 2 = .ok (.putfield 21, 3) := by decide +kernel
theorem dX1_choose_5 : decode cX1_choose 5 = .ok (.iload_n 1, 1) := by decide +kernel
theorem dX1_choose_6 : decode cX1_choose 6 = .ok (.iconst 2, 1) := by decide +kernel
theorem dX1_choose_7 : decode cX1_choose 7 = .ok (.if_icmp .ne 12, 3) := by decide +kernel
theorem dX1_choose_10 : decode cX1_choose 10 = .ok (.aload_n 0, 1) := by decide +kernel
theorem dX1_choose_11 : decode cX1_choose 11 = .ok (.aload_n 2, 1) := by decide +kernel
theorem dX1_choose_12 : decode cX1_choose 12 = .ok (.aload_n 3, 1) := by decide +kernel
theorem dX1_choose_13 : decode cX1_choose 13 = .ok (.invokevirtual 25, 3) := by decide +kernel
theorem dX1_choose_16 : decode cX1_choose 16 = .ok (.goto 18, 3) := by decide +kernel
theorem dX1_choose_19 : decode cX1_choose 19 = .ok (.aload_n 0, 1) := by decide +kernel
theorem dX1_choose_20 : decode cX1_choose 20 = .ok (.iload_n 1, 1) := by decide +kernel
theorem dX1_choose_21 : decode cX1_choose 21 = .ok (.ifCond .ne 7, 3) := by decide +kernel
theorem dX1_choose_24 : decode cX1_choose 24 = .ok (.iconst 1, 1) := by decide +kernel
theorem dX1_choose_25 : decode cX1_choose 25 = .ok (.goto 4, 3) := by decide +kernel
theorem dX1_choose_28 : decode cX1_choose 28 = .ok (.iconst 0, 1) := by decide +kernel
theorem dX1_choose_29 : decode cX1_choose 29 = .ok (.aload_n 2, 1) := by decide +kernel
theorem dX1_choose_30 : decode cX1_choose 30 = .ok (.aload_n 3, 1) := by decide +kernel
theorem dX1_choose_31 : decode cX1_choose 31 = .ok (.invokevirtual 29, 3) := by decide +kernel
theorem dX1_choose_34 : decode cX1_choose 34 = .ok (.return_, 1) := by decide +kernel
theorem dX1_chooseByPlace_0 : decode cX1_chooseByPlace 0 = .ok (.iconst 0, 1) := by decide +kernel
theorem dX1_chooseByPlace_1 : decode cX1_chooseByPlace 1 = .ok (.istore 4, 2) := by decide +kernel
theorem dX1_chooseByPlace_3 : decode cX1_chooseByPlace 3 = .ok (.iconst 0, 1) := by decide +kernel
theorem dX1_chooseByPlace_4 : decode cX1_chooseByPlace 4 = .ok (.istore 5, 2) := by decide +kernel
theorem dX1_chooseByPlace_6 : decode cX1_chooseByPlace 6 = .ok (.iload 5, 2) := by decide +kernel
theorem dX1_chooseByPlace_8 : decode cX1_chooseByPlace 8 = .ok (.aload_n 3, 1) := by decide +kernel
theorem dX1_chooseByPlace_9 : decode cX1_chooseByPlace 9 = .ok (.getfield 33, 3) := by decide +kernel
theorem dX1_chooseByPlace_12 : decode cX1_chooseByPlace 12 = .ok (.if_icmp .ge 65, 3) := by decide +kernel
theorem dX1_chooseByPlace_15 : decode cX1_chooseByPlace 15 = .ok (.iload 5, 2) := by decide +kernel
theorem dX1_chooseByPlace_17 : decode cX1_chooseByPlace 17 = .ok (.iload 4, 2) := by decide +kernel
theorem dX1_chooseByPlace_19 : decode cX1_chooseByPlace 19 = .ok (.if_icmp .lt 52, 3) := by decide +kernel
theorem dX1_chooseByPlace_22 : decode cX1_chooseByPlace 22 = .ok (.iload_n 1, 1) := by decide +kernel
theorem dX1_chooseByPlace_23 : decode cX1_chooseByPlace 23 = .ok (.ifCond .eq 13, 3) := by decide +kernel
theorem dX1_chooseByPlace_26 : decode cX1_chooseByPlace 26 = .ok (.aload_n 2, 1) := by decide +kernel
theorem dX1_chooseByPlace_27 : decode cX1_chooseByPlace 27 = .ok (.aload_n 3, 1) := by decide +kernel
theorem dX1_chooseByPlace_28 : decode cX1_chooseByPlace 28 = .ok (.iload 5, 2) := by decide +kernel
theorem dX1_chooseByPlace_30 : decode cX1_chooseByPlace 30 = .ok (.invokevirtual 38, 3) := by decide +kernel
theorem dX1_chooseByPlace_33 : decode cX1_chooseByPlace 33 = .ok (.goto 10, 3) := by decide +kernel
theorem dX1_chooseByPlace_36 : decode cX1_chooseByPlace 36 = .ok (.aload_n 2, 1) := by decide +kernel
theorem dX1_chooseByPlace_37 : decode cX1_chooseByPlace 37 = .ok (.aload_n 3, 1) := by decide +kernel
theorem dX1_chooseByPlace_38 : decode cX1_chooseByPlace 38 = .ok (.iload 5, 2) := by decide +kernel
theorem dX1_chooseByPlace_40 : decode cX1_chooseByPlace 40 = .ok (.invokevirtual 44, 3) := by decide +kernel
theorem dX1_chooseByPlace_43 : decode cX1_chooseByPlace 43 = .ok (.astore 6, 2) := by decide +kernel
theorem dX1_chooseByPlace_45 : decode cX1_chooseByPlace 45 = .ok (.aload 6, 2) := by decide +kernel
theorem dX1_chooseByPlace_47 : decode cX1_chooseByPlace 47 = .ok (.ifnull 24, 3) := by decide +kernel
theorem dX1_chooseByPlace_50 : decode cX1_chooseByPlace 50 = .ok (.aload_n 0, 1) := by decide +kernel
theorem dX1_chooseByPlace_51 : decode cX1_chooseByPlace 51 = .ok (.aload 6, 2) := by decide +kernel
theorem dX1_chooseByPlace_53 : decode cX1_chooseByPlace 53 = .ok (.iload 5, 2) := by decide +kernel
theorem dX1_chooseByPlace_55 : decode cX1_chooseByPlace 55 = .ok (.invokevirtual 47, 3) := by decide +kernel
theorem dX1_chooseByPlace_58 : decode cX1_chooseByPlace 58 = .ok (.iload 5, 2) := by decide +kernel
theorem dX1_chooseByPlace_60 : decode cX1_chooseByPlace 60 = .ok (.aload 6, 2) := by decide +kernel
theorem dX1_chooseByPlace_62 : decode cX1_chooseByPlace 62 = .ok (.getfield 51, 3) := by decide +kernel
theorem dX1_chooseByPlace_65 : decode cX1_chooseByPlace 65 = .ok (.getfield 55, 3) := by decide +kernel
theorem dX1_chooseByPlace_68 : decode cX1_chooseByPlace 68 = .ok (.iadd, 1) := by decide +kernel
theorem dX1_chooseByPlace_69 : decode cX1_chooseByPlace 69 = .ok (.istore 4, 2) := by decide +kernel
theorem dX1_chooseByPlace_71 : decode cX1_chooseByPlace 71 = .ok (.iinc 5 1, 3) := by decide +kernel
theorem dX1_chooseByPlace_74 : decode cX1_chooseByPlace 74 = .ok (.goto (-68), 3) := by decide +kernel
theorem dX1_chooseByPlace_77 : decode cX1_chooseByPlace 77 = .ok (.return_, 1) := by decide +kernel
theorem dX1_chooseByEnd_0 : decode cX1_chooseByEnd 0 = .ok (.iconst 0, 1) := by decide +kernel
theorem dX1_chooseByEnd_1 : decode cX1_chooseByEnd 1 = .ok (.istore_n 3, 1) := by decide +kernel
theorem dX1_chooseByEnd_2 : decode cX1_chooseByEnd 2 = .ok (.iconst 1, 1) := by decide +kernel
theorem dX1_chooseByEnd_3 : decode cX1_chooseByEnd 3 = .ok (.istore 4, 2) := by decide +kernel
theorem dX1_chooseByEnd_5 : decode cX1_chooseByEnd 5 = .ok (.iload 4, 2) := by decide +kernel
theorem dX1_chooseByEnd_7 : decode cX1_chooseByEnd 7 = .ok (.aload_n 2, 1) := by decide +kernel
theorem dX1_chooseByEnd_8 : decode cX1_chooseByEnd 8 = .ok (.getfield 33, 3) := by decide +kernel
theorem dX1_chooseByEnd_11 : decode cX1_chooseByEnd 11 = .ok (.if_icmp .gt 44, 3) := by decide +kernel
theorem dX1_chooseByEnd_14 : decode cX1_chooseByEnd 14 = .ok (.aload_n 1, 1) := by decide +kernel
theorem dX1_chooseByEnd_15 : decode cX1_chooseByEnd 15 = .ok (.aload_n 2, 1) := by decide +kernel
theorem dX1_chooseByEnd_16 : decode cX1_chooseByEnd 16 = .ok (.iload_n 3, 1) := by decide +kernel
theorem dX1_chooseByEnd_17 : decode cX1_chooseByEnd 17 = .ok (.iload 4, 2) := by decide +kernel
theorem dX1_chooseByEnd_19 : decode cX1_chooseByEnd 19 = .ok (.invokevirtual 58, 3) := by decide +kernel
theorem dX1_chooseByEnd_22 : decode cX1_chooseByEnd 22 = .ok (.astore 5, 2) := by decide +kernel
theorem dX1_chooseByEnd_24 : decode cX1_chooseByEnd 24 = .ok (.aload 5, 2) := by decide +kernel
theorem dX1_chooseByEnd_26 : decode cX1_chooseByEnd 26 = .ok (.ifnull 23, 3) := by decide +kernel
theorem dX1_chooseByEnd_29 : decode cX1_chooseByEnd 29 = .ok (.aload_n 0, 1) := by decide +kernel
theorem dX1_chooseByEnd_30 : decode cX1_chooseByEnd 30 = .ok (.aload 5, 2) := by decide +kernel
theorem dX1_chooseByEnd_32 : decode cX1_chooseByEnd 32 = .ok (.iload 4, 2) := by decide +kernel
theorem dX1_chooseByEnd_34 : decode cX1_chooseByEnd 34 = .ok (.aload 5, 2) := by decide +kernel
theorem dX1_chooseByEnd_36 : decode cX1_chooseByEnd 36 = .ok (.getfield 51, 3) := by decide +kernel
theorem dX1_chooseByEnd_39 : decode cX1_chooseByEnd 39 = .ok (.getfield 55, 3) := by decide +kernel
theorem dX1_chooseByEnd_42 : decode cX1_chooseByEnd 42 = .ok (.isub, 1) := by decide +kernel
theorem dX1_chooseByEnd_43 : decode cX1_chooseByEnd 43 = .ok (.invokevirtual 47, 3) := by decide +kernel
theorem dX1_chooseByEnd_46 : decode cX1_chooseByEnd 46 = .ok (.iload 4, 2) := by decide +kernel
theorem dX1_chooseByEnd_48 : decode cX1_chooseByEnd 48 = .ok (.istore_n 3, 1) := by decide +kernel
theorem dX1_chooseByEnd_49 : decode cX1_chooseByEnd 49 = .ok (.iinc 4 1, 3) := by decide +kernel
theorem dX1_chooseByEnd_52 : decode cX1_chooseByEnd 52 = .ok (.goto (-47), 3) := by decide +kernel
theorem dX1_chooseByEnd_55 : decode cX1_chooseByEnd 55 = .ok (.return_, 1) := by decide +kernel
theorem dX1_keep_0 : decode cX1_keep 0 = .ok (.aload_n 0, 1) := by decide +kernel
theorem dX1_keep_1 : decode cX1_keep 1 = .ok (.getfield 21, 3) := by decide +kernel
theorem dX1_keep_4 : decode cX1_keep 4 = .ok (.sipush 200, 3) := by decide +kernel
theorem dX1_keep_7 : decode cX1_keep 7 = .ok (.if_icmp .ge 33, 3) := by decide +kernel
theorem dX1_keep_10 : decode cX1_keep 10 = .ok (.aload_n 0, 1) := by decide +kernel
theorem dX1_keep_11 : decode cX1_keep 11 = .ok (.getfield 11, 3) := by decide +kernel
theorem dX1_keep_14 : decode cX1_keep 14 = .ok (.aload_n 0, 1) := by decide +kernel
theorem dX1_keep_15 : decode cX1_keep 15 = .ok (.getfield 21, 3) := by decide +kernel
theorem dX1_keep_18 : decode cX1_keep 18 = .ok (.aload_n 1, 1) := by decide +kernel
theorem dX1_keep_19 : decode cX1_keep 19 = .ok (.aastore, 1) := by decide +kernel
theorem dX1_keep_20 : decode cX1_keep 20 = .ok (.aload_n 0, 1) := by decide +kernel
theorem dX1_keep_21 : decode cX1_keep 21 = .ok (.getfield 17, 3) := by decide +kernel
theorem dX1_keep_24 : decode cX1_keep 24 = .ok (.aload_n 0, 1) := by decide +kernel
theorem dX1_keep_25 : decode cX1_keep 25 = .ok (.getfield 21, 3) := by decide +kernel
theorem dX1_keep_28 : decode cX1_keep 28 = .ok (.iload_n 2, 1) := by decide +kernel
theorem dX1_keep_29 : decode cX1_keep 29 = .ok (.iastore, 1) := by decide +kernel
theorem dX1_keep_30 : decode cX1_keep 30 = .ok (.aload_n 0, 1) := by decide +kernel
theorem dX1_keep_31 : decode cX1_keep 31 = .ok (.dup, 1) := by decide +kernel
theorem dX1_keep_32 : decode cX1_keep 32 = .ok (.getfield 21, 3) := by decide +kernel
theorem dX1_keep_35 : decode cX1_keep 35 = .ok (.iconst 1, 1) := by decide +kernel
theorem dX1_keep_36 : decode cX1_keep 36 = .ok (.iadd, 1) := by decide +kernel
theorem dX1_keep_37 : decode cX1_keep 37 = .ok (.putfield 21, 3) := by decide +kernel
theorem dX1_keep_40 : decode cX1_keep 40 = .ok (.return_, 1) := by decide +kernel
theorem dX1_patternAt_0 : decode cX1_patternAt 0 = .ok (.iload_n 1, 1) := by decide +kernel
theorem dX1_patternAt_1 : decode cX1_patternAt 1 = .ok (.ifCond .lt 20, 3) := by decide +kernel
theorem dX1_patternAt_4 : decode cX1_patternAt 4 = .ok (.iload_n 1, 1) := by decide +kernel
theorem dX1_patternAt_5 : decode cX1_patternAt 5 = .ok (.aload_n 0, 1) := by decide +kernel
theorem dX1_patternAt_6 : decode cX1_patternAt 6 = .ok (.getfield 21, 3) := by decide +kernel
theorem dX1_patternAt_9 : decode cX1_patternAt 9 = .ok (.if_icmp .ge 12, 3) := by decide +kernel
theorem dX1_patternAt_12 : decode cX1_patternAt 12 = .ok (.aload_n 0, 1) := by decide +kernel
theorem dX1_patternAt_13 : decode cX1_patternAt 13 = .ok (.getfield 11, 3) := by decide +kernel
theorem dX1_patternAt_16 : decode cX1_patternAt 16 = .ok (.iload_n 1, 1) := by decide +kernel
theorem dX1_patternAt_17 : decode cX1_patternAt 17 = .ok (.aaload, 1) := by decide +kernel
theorem dX1_patternAt_18 : decode cX1_patternAt 18 = .ok (.goto 4, 3) := by decide +kernel
theorem dX1_patternAt_21 : decode cX1_patternAt 21 = .ok (.aconst_null, 1) := by decide +kernel
theorem dX1_patternAt_22 : decode cX1_patternAt 22 = .ok (.areturn, 1) := by decide +kernel
theorem dX1_placeAt_0 : decode cX1_placeAt 0 = .ok (.iload_n 1, 1) := by decide +kernel
theorem dX1_placeAt_1 : decode cX1_placeAt 1 = .ok (.ifCond .lt 20, 3) := by decide +kernel
theorem dX1_placeAt_4 : decode cX1_placeAt 4 = .ok (.iload_n 1, 1) := by decide +kernel
theorem dX1_placeAt_5 : decode cX1_placeAt 5 = .ok (.aload_n 0, 1) := by decide +kernel
theorem dX1_placeAt_6 : decode cX1_placeAt 6 = .ok (.getfield 21, 3) := by decide +kernel
theorem dX1_placeAt_9 : decode cX1_placeAt 9 = .ok (.if_icmp .ge 12, 3) := by decide +kernel
theorem dX1_placeAt_12 : decode cX1_placeAt 12 = .ok (.aload_n 0, 1) := by decide +kernel
theorem dX1_placeAt_13 : decode cX1_placeAt 13 = .ok (.getfield 17, 3) := by decide +kernel
theorem dX1_placeAt_16 : decode cX1_placeAt 16 = .ok (.iload_n 1, 1) := by decide +kernel
theorem dX1_placeAt_17 : decode cX1_placeAt 17 = .ok (.iaload, 1) := by decide +kernel
theorem dX1_placeAt_18 : decode cX1_placeAt 18 = .ok (.goto 4, 3) := by decide +kernel
theorem dX1_placeAt_21 : decode cX1_placeAt 21 = .ok (.iconst (-1), 1) := by decide +kernel
theorem dX1_placeAt_22 : decode cX1_placeAt 22 = .ok (.ireturn, 1) := by decide +kernel
theorem dX2_init_0 : decode cX2_init 0 = .ok (.aload_n 0, 1) := by decide +kernel
theorem dX2_init_1 : decode cX2_init 1 = .ok (.invokespecial 1, 3) := by decide +kernel
theorem dX2_init_4 : decode cX2_init 4 = .ok (.aload_n 0, 1) := by decide +kernel
theorem dX2_init_5 : decode cX2_init 5 = .ok (.iload_n 1, 1) := by decide +kernel
theorem dX2_init_6 : decode cX2_init 6 = .ok (.putfield 7, 3) := by decide +kernel
theorem dX2_init_9 : decode cX2_init 9 = .ok (.aload_n 0, 1) := by decide +kernel
theorem dX2_init_10 : decode cX2_init 10 = .ok (.aload_n 2, 1) := by decide +kernel
theorem dX2_init_11 : decode cX2_init 11 = .ok (.putfield 13, 3) := by decide +kernel
theorem dX2_init_14 : decode cX2_init 14 = .ok (.aload_n 0, 1) := by decide +kernel
theorem dX2_init_15 : decode cX2_init 15 = .ok (.new 17, 3) := by decide +kernel
theorem dX2_init_18 : decode cX2_init 18 = .ok (.dup, 1) := by decide +kernel
theorem dX2_init_19 : decode cX2_init 19 = .ok (.lconst 0, 1) := by decide +kernel
theorem dX2_init_20 : decode cX2_init 20 = .ok (.iconst 0, 1) := by decide +kernel
theorem dX2_init_21 : decode cX2_init 21 = .ok (.invokespecial 19, 3) := by decide +kernel
theorem dX2_init_24 : decode cX2_init 24 = .ok (.putfield 22, 3) := by decide +kernel
theorem dX2_init_27 : decode cX2_init 27 = .ok (.return_, 1) := by decide +kernel
theorem dX3_init_0 : decode cX3_init 0 = .ok (.aload_n 0, 1) := by decide +kernel
theorem dX3_init_1 : decode cX3_init 1 = .ok (.invokespecial 3, 3) := by decide +kernel
theorem dX3_init_4 : decode cX3_init 4 = .ok (.aload_n 0, 1) := by decide +kernel
theorem dX3_init_5 : decode cX3_init 5 = .ok (.sipush 201, 3) := by decide +kernel
theorem dX3_init_8 : decode cX3_init 8 = .ok (.newarray .long, 2) := by decide +kernel
theorem dX3_init_10 : decode cX3_init 10 = .ok (.putfield 9, 3) := by decide +kernel
theorem dX3_init_13 : decode cX3_init 13 = .ok (.aload_n 0, 1) := by decide +kernel
theorem dX3_init_14 : decode cX3_init 14 = .ok (.iconst 0, 1) := by decide +kernel
theorem dX3_init_15 : decode cX3_init 15 = .ok (.putfield 15, 3) := by decide +kernel
theorem dX3_init_18 : decode cX3_init 18 = .ok (.return_, 1) := by decide +kernel
theorem dX3_add_0 : decode cX3_add 0 = .ok (.aload_n 0, 1) := by decide +kernel
theorem dX3_add_1 : decode cX3_add 1 = .ok (.getfield 15, 3) := by decide +kernel
theorem dX3_add_4 : decode cX3_add 4 = .ok (.sipush 200, 3) := by decide +kernel
theorem dX3_add_7 : decode cX3_add 7 = .ok (.if_icmp .ge 45, 3) := by decide +kernel
theorem dX3_add_10 : decode cX3_add 10 = .ok (.aload_n 0, 1) := by decide +kernel
theorem dX3_add_11 : decode cX3_add 11 = .ok (.getfield 9, 3) := by decide +kernel
theorem dX3_add_14 : decode cX3_add 14 = .ok (.aload_n 0, 1) := by decide +kernel
theorem dX3_add_15 : decode cX3_add 15 = .ok (.getfield 15, 3) := by decide +kernel
theorem dX3_add_18 : decode cX3_add 18 = .ok (.iconst 1, 1) := by decide +kernel
theorem dX3_add_19 : decode cX3_add 19 = .ok (.iadd, 1) := by decide +kernel
theorem dX3_add_20 : decode cX3_add 20 = .ok (.aload_n 0, 1) := by decide +kernel
theorem dX3_add_21 : decode cX3_add 21 = .ok (.getfield 9, 3) := by decide +kernel
theorem dX3_add_24 : decode cX3_add 24 = .ok (.aload_n 0, 1) := by decide +kernel
theorem dX3_add_25 : decode cX3_add 25 = .ok (.getfield 15, 3) := by decide +kernel
theorem dX3_add_28 : decode cX3_add 28 = .ok (.laload, 1) := by decide +kernel
theorem dX3_add_29 : decode cX3_add 29 = .ok (.iconst 5, 1) := by decide +kernel
theorem dX3_add_30 : decode cX3_add 30 = .ok (.lshl, 1) := by decide +kernel
theorem dX3_add_31 : decode cX3_add 31 = .ok (.iload_n 1, 1) := by decide +kernel
theorem dX3_add_32 : decode cX3_add 32 = .ok (.invokestatic 19, 3) := by decide +kernel
theorem dX3_add_35 : decode cX3_add 35 = .ok (.lor, 1) := by decide +kernel
theorem dX3_add_36 : decode cX3_add 36 = .ok (.bipush 8, 2) := by decide +kernel
theorem dX3_add_38 : decode cX3_add 38 = .ok (.invokestatic 23, 3) := by decide +kernel
theorem dX3_add_41 : decode cX3_add 41 = .ok (.lastore, 1) := by decide +kernel
theorem dX3_add_42 : decode cX3_add 42 = .ok (.aload_n 0, 1) := by decide +kernel
theorem dX3_add_43 : decode cX3_add 43 = .ok (.dup, 1) := by decide +kernel
theorem dX3_add_44 : decode cX3_add 44 = .ok (.getfield 15, 3) := by decide +kernel
theorem dX3_add_47 : decode cX3_add 47 = .ok (.iconst 1, 1) := by decide +kernel
theorem dX3_add_48 : decode cX3_add 48 = .ok (.iadd, 1) := by decide +kernel
theorem dX3_add_49 : decode cX3_add 49 = .ok (.putfield 15, 3) := by decide +kernel
theorem dX3_add_52 : decode cX3_add 52 = .ok (.return_, 1) := by decide +kernel
theorem dX3_lastsBefore_0 : decode cX3_lastsBefore 0 = .ok (.iload_n 1, 1) := by decide +kernel
theorem dX3_lastsBefore_1 : decode cX3_lastsBefore 1 = .ok (.ifCond .lt 20, 3) := by decide +kernel
theorem dX3_lastsBefore_4 : decode cX3_lastsBefore 4 = .ok (.iload_n 1, 1) := by decide +kernel
theorem dX3_lastsBefore_5 : decode cX3_lastsBefore 5 = .ok (.aload_n 0, 1) := by decide +kernel
theorem dX3_lastsBefore_6 : decode cX3_lastsBefore 6 = .ok (.getfield 15, 3) := by decide +kernel
theorem dX3_lastsBefore_9 : decode cX3_lastsBefore 9 = .ok (.if_icmp .gt 12, 3) := by decide +kernel
theorem dX3_lastsBefore_12 : decode cX3_lastsBefore 12 = .ok (.aload_n 0, 1) := by decide +kernel
theorem dX3_lastsBefore_13 : decode cX3_lastsBefore 13 = .ok (.getfield 9, 3) := by decide +kernel
theorem dX3_lastsBefore_16 : decode cX3_lastsBefore 16 = .ok (.iload_n 1, 1) := by decide +kernel
theorem dX3_lastsBefore_17 : decode cX3_lastsBefore 17 = .ok (.laload, 1) := by decide +kernel
theorem dX3_lastsBefore_18 : decode cX3_lastsBefore 18 = .ok (.goto 4, 3) := by decide +kernel
theorem dX3_lastsBefore_21 : decode cX3_lastsBefore 21 = .ok (.lconst 0, 1) := by decide +kernel
theorem dX3_lastsBefore_22 : decode cX3_lastsBefore 22 = .ok (.lreturn, 1) := by decide +kernel
theorem dX3_letterAt_0 : decode cX3_letterAt 0 = .ok (.aload_n 0, 1) := by decide +kernel
theorem dX3_letterAt_1 : decode cX3_letterAt 1 = .ok (.iload_n 1, 1) := by decide +kernel
theorem dX3_letterAt_2 : decode cX3_letterAt 2 = .ok (.iconst 1, 1) := by decide +kernel
theorem dX3_letterAt_3 : decode cX3_letterAt 3 = .ok (.iadd, 1) := by decide +kernel
theorem dX3_letterAt_4 : decode cX3_letterAt 4 = .ok (.invokevirtual 27, 3) := by decide +kernel
theorem dX3_letterAt_7 : decode cX3_letterAt 7 = .ok (.invokestatic 31, 3) := by decide +kernel
theorem dX3_letterAt_10 : decode cX3_letterAt 10 = .ok (.ireturn, 1) := by decide +kernel
theorem dX3_holdsBefore_0 : decode cX3_holdsBefore 0 = .ok (.aload_n 0, 1) := by decide +kernel
theorem dX3_holdsBefore_1 : decode cX3_holdsBefore 1 = .ok (.iload_n 1, 1) := by decide +kernel
theorem dX3_holdsBefore_2 : decode cX3_holdsBefore 2 = .ok (.invokevirtual 27, 3) := by decide +kernel
theorem dX3_holdsBefore_5 : decode cX3_holdsBefore 5 = .ok (.aload_n 2, 1) := by decide +kernel
theorem dX3_holdsBefore_6 : decode cX3_holdsBefore 6 = .ok (.getfield 35, 3) := by decide +kernel
theorem dX3_holdsBefore_9 : decode cX3_holdsBefore 9 = .ok (.invokestatic 23, 3) := by decide +kernel
theorem dX3_holdsBefore_12 : decode cX3_holdsBefore 12 = .ok (.aload_n 2, 1) := by decide +kernel
theorem dX3_holdsBefore_13 : decode cX3_holdsBefore 13 = .ok (.getfield 38, 3) := by decide +kernel
theorem dX3_holdsBefore_16 : decode cX3_holdsBefore 16 = .ok (.lcmp, 1) := by decide +kernel
theorem dX3_holdsBefore_17 : decode cX3_holdsBefore 17 = .ok (.ifCond .ne 7, 3) := by decide +kernel
theorem dX3_holdsBefore_20 : decode cX3_holdsBefore 20 = .ok (.iconst 1, 1) := by decide +kernel
theorem dX3_holdsBefore_21 : decode cX3_holdsBefore 21 = .ok (.goto 4, 3) := by decide +kernel
theorem dX3_holdsBefore_24 : decode cX3_holdsBefore 24 = .ok (.iconst 0, 1) := by decide +kernel
theorem dX3_holdsBefore_25 : decode cX3_holdsBefore 25 = .ok (.ireturn, 1) := by decide +kernel
theorem dX3_holdsAt_0 : decode cX3_holdsAt 0 = .ok (.aload_n 0, 1) := by decide +kernel
theorem dX3_holdsAt_1 : decode cX3_holdsAt 1 = .ok (.iload_n 1, 1) := by decide +kernel
theorem dX3_holdsAt_2 : decode cX3_holdsAt 2 = .ok (.aload_n 2, 1) := by decide +kernel
theorem dX3_holdsAt_3 : decode cX3_holdsAt 3 = .ok (.getfield 35, 3) := by decide +kernel
theorem dX3_holdsAt_6 : decode cX3_holdsAt 6 = .ok (.iadd, 1) := by decide +kernel
theorem dX3_holdsAt_7 : decode cX3_holdsAt 7 = .ok (.invokevirtual 27, 3) := by decide +kernel
theorem dX3_holdsAt_10 : decode cX3_holdsAt 10 = .ok (.aload_n 2, 1) := by decide +kernel
theorem dX3_holdsAt_11 : decode cX3_holdsAt 11 = .ok (.getfield 35, 3) := by decide +kernel
theorem dX3_holdsAt_14 : decode cX3_holdsAt 14 = .ok (.invokestatic 23, 3) := by decide +kernel
theorem dX3_holdsAt_17 : decode cX3_holdsAt 17 = .ok (.aload_n 2, 1) := by decide +kernel
theorem dX3_holdsAt_18 : decode cX3_holdsAt 18 = .ok (.getfield 38, 3) := by decide +kernel
theorem dX3_holdsAt_21 : decode cX3_holdsAt 21 = .ok (.lcmp, 1) := by decide +kernel
theorem dX3_holdsAt_22 : decode cX3_holdsAt 22 = .ok (.ifCond .ne 7, 3) := by decide +kernel
theorem dX3_holdsAt_25 : decode cX3_holdsAt 25 = .ok (.iconst 1, 1) := by decide +kernel
theorem dX3_holdsAt_26 : decode cX3_holdsAt 26 = .ok (.goto 4, 3) := by decide +kernel
theorem dX3_holdsAt_29 : decode cX3_holdsAt 29 = .ok (.iconst 0, 1) := by decide +kernel
theorem dX3_holdsAt_30 : decode cX3_holdsAt 30 = .ok (.ireturn, 1) := by decide +kernel
theorem dX3_count_0 : decode cX3_count 0 = .ok (.iconst 0, 1) := by decide +kernel
theorem dX3_count_1 : decode cX3_count 1 = .ok (.istore_n 2, 1) := by decide +kernel
theorem dX3_count_2 : decode cX3_count 2 = .ok (.iconst 0, 1) := by decide +kernel
theorem dX3_count_3 : decode cX3_count 3 = .ok (.istore_n 3, 1) := by decide +kernel
theorem dX3_count_4 : decode cX3_count 4 = .ok (.iload_n 3, 1) := by decide +kernel
theorem dX3_count_5 : decode cX3_count 5 = .ok (.aload_n 0, 1) := by decide +kernel
theorem dX3_count_6 : decode cX3_count 6 = .ok (.getfield 15, 3) := by decide +kernel
theorem dX3_count_9 : decode cX3_count 9 = .ok (.if_icmp .ge 21, 3) := by decide +kernel
theorem dX3_count_12 : decode cX3_count 12 = .ok (.aload_n 0, 1) := by decide +kernel
theorem dX3_count_13 : decode cX3_count 13 = .ok (.iload_n 3, 1) := by decide +kernel
theorem dX3_count_14 : decode cX3_count 14 = .ok (.aload_n 1, 1) := by decide +kernel
theorem dX3_count_15 : decode cX3_count 15 = .ok (.invokevirtual 42, 3) := by decide +kernel
theorem dX3_count_18 : decode cX3_count 18 = .ok (.ifCond .eq 6, 3) := by decide +kernel
theorem dX3_count_21 : decode cX3_count 21 = .ok (.iinc 2 1, 3) := by decide +kernel
theorem dX3_count_24 : decode cX3_count 24 = .ok (.iinc 3 1, 3) := by decide +kernel
theorem dX3_count_27 : decode cX3_count 27 = .ok (.goto (-23), 3) := by decide +kernel
theorem dX3_count_30 : decode cX3_count 30 = .ok (.iload_n 2, 1) := by decide +kernel
theorem dX3_count_31 : decode cX3_count 31 = .ok (.ireturn, 1) := by decide +kernel
theorem dX3_placeOf_0 : decode cX3_placeOf 0 = .ok (.iconst 0, 1) := by decide +kernel
theorem dX3_placeOf_1 : decode cX3_placeOf 1 = .ok (.istore_n 3, 1) := by decide +kernel
theorem dX3_placeOf_2 : decode cX3_placeOf 2 = .ok (.iconst 0, 1) := by decide +kernel
theorem dX3_placeOf_3 : decode cX3_placeOf 3 = .ok (.istore 4, 2) := by decide +kernel
theorem dX3_placeOf_5 : decode cX3_placeOf 5 = .ok (.iload 4, 2) := by decide +kernel
theorem dX3_placeOf_7 : decode cX3_placeOf 7 = .ok (.aload_n 0, 1) := by decide +kernel
theorem dX3_placeOf_8 : decode cX3_placeOf 8 = .ok (.getfield 15, 3) := by decide +kernel
theorem dX3_placeOf_11 : decode cX3_placeOf 11 = .ok (.if_icmp .ge 30, 3) := by decide +kernel
theorem dX3_placeOf_14 : decode cX3_placeOf 14 = .ok (.aload_n 0, 1) := by decide +kernel
theorem dX3_placeOf_15 : decode cX3_placeOf 15 = .ok (.iload 4, 2) := by decide +kernel
theorem dX3_placeOf_17 : decode cX3_placeOf 17 = .ok (.aload_n 1, 1) := by decide +kernel
theorem dX3_placeOf_18 : decode cX3_placeOf 18 = .ok (.invokevirtual 42, 3) := by decide +kernel
theorem dX3_placeOf_21 : decode cX3_placeOf 21 = .ok (.ifCond .eq 14, 3) := by decide +kernel
theorem dX3_placeOf_24 : decode cX3_placeOf 24 = .ok (.iload_n 3, 1) := by decide +kernel
theorem dX3_placeOf_25 : decode cX3_placeOf 25 = .ok (.iload_n 2, 1) := by decide +kernel
theorem dX3_placeOf_26 : decode cX3_placeOf 26 = .ok (.if_icmp .ne 6, 3) := by decide +kernel
theorem dX3_placeOf_29 : decode cX3_placeOf 29 = .ok (.iload 4, 2) := by decide +kernel
theorem dX3_placeOf_31 : decode cX3_placeOf 31 = .ok (.ireturn, 1) := by decide +kernel
theorem dX3_placeOf_32 : decode cX3_placeOf 32 = .ok (.iinc 3 1, 3) := by decide +kernel
theorem dX3_placeOf_35 : decode cX3_placeOf 35 = .ok (.iinc 4 1, 3) := by decide +kernel
theorem dX3_placeOf_38 : decode cX3_placeOf 38 = .ok (.goto (-33), 3) := by decide +kernel
theorem dX3_placeOf_41 : decode cX3_placeOf 41 = .ok (.iconst (-1), 1) := by decide +kernel
theorem dX3_placeOf_42 : decode cX3_placeOf 42 = .ok (.ireturn, 1) := by decide +kernel
theorem dX4_init_0 : decode cX4_init 0 = .ok (.aload_n 0, 1) := by decide +kernel
theorem dX4_init_1 : decode cX4_init 1 = .ok (.invokespecial 3, 3) := by decide +kernel
theorem dX4_init_4 : decode cX4_init 4 = .ok (.aload_n 0, 1) := by decide +kernel
theorem dX4_init_5 : decode cX4_init 5 = .ok (.sipush 1600, 3) := by decide +kernel
theorem dX4_init_8 : decode cX4_init 8 = .ok (.newarray .char, 2) := by decide +kernel
theorem dX4_init_10 : decode cX4_init 10 = .ok (.putfield 9, 3) := by decide +kernel
theorem dX4_init_13 : decode cX4_init 13 = .ok (.aload_n 0, 1) := by decide +kernel
theorem dX4_init_14 : decode cX4_init 14 = .ok (.iconst 0, 1) := by decide +kernel
theorem dX4_init_15 : decode cX4_init 15 = .ok (.putfield 15, 3) := by decide +kernel
theorem dX4_init_18 : decode cX4_init 18 = .ok (.return_, 1) := by decide +kernel
theorem dX4_add_0 : decode cX4_add 0 = .ok (.aload_n 0, 1) := by decide +kernel
theorem dX4_add_1 : decode cX4_add 1 = .ok (.getfield 15, 3) := by decide +kernel
theorem dX4_add_4 : decode cX4_add 4 = .ok (.aload_n 0, 1) := by decide +kernel
theorem dX4_add_5 : decode cX4_add 5 = .ok (.getfield 9, 3) := by decide +kernel
theorem dX4_add_8 : decode cX4_add 8 = .ok (.arraylength, 1) := by decide +kernel
theorem dX4_add_9 : decode cX4_add 9 = .ok (.if_icmp .ge 23, 3) := by decide +kernel
theorem dX4_add_12 : decode cX4_add 12 = .ok (.aload_n 0, 1) := by decide +kernel
theorem dX4_add_13 : decode cX4_add 13 = .ok (.getfield 9, 3) := by decide +kernel
theorem dX4_add_16 : decode cX4_add 16 = .ok (.aload_n 0, 1) := by decide +kernel
theorem dX4_add_17 : decode cX4_add 17 = .ok (.getfield 15, 3) := by decide +kernel
theorem dX4_add_20 : decode cX4_add 20 = .ok (.iload_n 1, 1) := by decide +kernel
theorem dX4_add_21 : decode cX4_add 21 = .ok (.castore, 1) := by decide +kernel
theorem dX4_add_22 : decode cX4_add 22 = .ok (.aload_n 0, 1) := by decide +kernel
theorem dX4_add_23 : decode cX4_add 23 = .ok (.dup, 1) := by decide +kernel
theorem dX4_add_24 : decode cX4_add 24 = .ok (.getfield 15, 3) := by decide +kernel
theorem dX4_add_27 : decode cX4_add 27 = .ok (.iconst 1, 1) := by decide +kernel
theorem dX4_add_28 : decode cX4_add 28 = .ok (.iadd, 1) := by decide +kernel
theorem dX4_add_29 : decode cX4_add 29 = .ok (.putfield 15, 3) := by decide +kernel
theorem dX4_add_32 : decode cX4_add 32 = .ok (.return_, 1) := by decide +kernel
theorem dX4_addWord_0 : decode cX4_addWord 0 = .ok (.iconst 0, 1) := by decide +kernel
theorem dX4_addWord_1 : decode cX4_addWord 1 = .ok (.istore_n 2, 1) := by decide +kernel
theorem dX4_addWord_2 : decode cX4_addWord 2 = .ok (.iload_n 2, 1) := by decide +kernel
theorem dX4_addWord_3 : decode cX4_addWord 3 = .ok (.aload_n 1, 1) := by decide +kernel
theorem dX4_addWord_4 : decode cX4_addWord 4 = .ok (.getfield 19, 3) := by decide +kernel
theorem dX4_addWord_7 : decode cX4_addWord 7 = .ok (.if_icmp .ge 18, 3) := by decide +kernel
theorem dX4_addWord_10 : decode cX4_addWord 10 = .ok (.aload_n 0, 1) := by decide +kernel
theorem dX4_addWord_11 : decode cX4_addWord 11 = .ok (.aload_n 1, 1) := by decide +kernel
theorem dX4_addWord_12 : decode cX4_addWord 12 = .ok (.iload_n 2, 1) := by decide +kernel
theorem dX4_addWord_13 : decode cX4_addWord 13 = .ok (.invokevirtual 22, 3) := by decide +kernel
theorem dX4_addWord_16 : decode cX4_addWord 16 = .ok (.invokevirtual 26, 3) := by decide +kernel
theorem dX4_addWord_19 : decode cX4_addWord 19 = .ok (.iinc 2 1, 3) := by decide +kernel
theorem dX4_addWord_22 : decode cX4_addWord 22 = .ok (.goto (-20), 3) := by decide +kernel
theorem dX4_addWord_25 : decode cX4_addWord 25 = .ok (.return_, 1) := by decide +kernel
theorem dX4_addStream_0 : decode cX4_addStream 0 = .ok (.iload_n 2, 1) := by decide +kernel
theorem dX4_addStream_1 : decode cX4_addStream 1 = .ok (.istore 4, 2) := by decide +kernel
theorem dX4_addStream_3 : decode cX4_addStream 3 = .ok (.iload 4, 2) := by decide +kernel
theorem dX4_addStream_5 : decode cX4_addStream 5 = .ok (.iload_n 3, 1) := by decide +kernel
theorem dX4_addStream_6 : decode cX4_addStream 6 = .ok (.if_icmp .ge 19, 3) := by decide +kernel
theorem dX4_addStream_9 : decode cX4_addStream 9 = .ok (.aload_n 0, 1) := by decide +kernel
theorem dX4_addStream_10 : decode cX4_addStream 10 = .ok (.aload_n 1, 1) := by decide +kernel
theorem dX4_addStream_11 : decode cX4_addStream 11 = .ok (.iload 4, 2) := by decide +kernel
theorem dX4_addStream_13 : decode cX4_addStream 13 = .ok (.invokevirtual 30, 3) := by decide +kernel
theorem dX4_addStream_16 : decode cX4_addStream 16 = .ok (.invokevirtual 26, 3) := by decide +kernel
theorem dX4_addStream_19 : decode cX4_addStream 19 = .ok (.iinc 4 1, 3) := by decide +kernel
theorem dX4_addStream_22 : decode cX4_addStream 22 = .ok (.goto (-19), 3) := by decide +kernel
theorem dX4_addStream_25 : decode cX4_addStream 25 = .ok (.return_, 1) := by decide +kernel
theorem dX4_letterAt_0 : decode cX4_letterAt 0 = .ok (.iload_n 1, 1) := by decide +kernel
theorem dX4_letterAt_1 : decode cX4_letterAt 1 = .ok (.ifCond .lt 20, 3) := by decide +kernel
theorem dX4_letterAt_4 : decode cX4_letterAt 4 = .ok (.iload_n 1, 1) := by decide +kernel
theorem dX4_letterAt_5 : decode cX4_letterAt 5 = .ok (.aload_n 0, 1) := by decide +kernel
theorem dX4_letterAt_6 : decode cX4_letterAt 6 = .ok (.getfield 15, 3) := by decide +kernel
theorem dX4_letterAt_9 : decode cX4_letterAt 9 = .ok (.if_icmp .ge 12, 3) := by decide +kernel
theorem dX4_letterAt_12 : decode cX4_letterAt 12 = .ok (.aload_n 0, 1) := by decide +kernel
theorem dX4_letterAt_13 : decode cX4_letterAt 13 = .ok (.getfield 9, 3) := by decide +kernel
theorem dX4_letterAt_16 : decode cX4_letterAt 16 = .ok (.iload_n 1, 1) := by decide +kernel
theorem dX4_letterAt_17 : decode cX4_letterAt 17 = .ok (.caload, 1) := by decide +kernel
theorem dX4_letterAt_18 : decode cX4_letterAt 18 = .ok (.goto 5, 3) := by decide +kernel
theorem dX4_letterAt_21 : decode cX4_letterAt 21 = .ok (.bipush 97, 2) := by decide +kernel
theorem dX4_letterAt_23 : decode cX4_letterAt 23 = .ok (.ireturn, 1) := by decide +kernel
theorem dX5_init_0 : decode cX5_init 0 = .ok (.aload_n 0, 1) := by decide +kernel
theorem dX5_init_1 : decode cX5_init 1 = .ok (.invokespecial 3, 3) := by decide +kernel
theorem dX5_init_4 : decode cX5_init 4 = .ok (.aload_n 0, 1) := by decide +kernel
theorem dX5_init_5 : decode cX5_init 5 = .ok (.lload_n 1, 1) := by decide +kernel
theorem dX5_init_6 : decode cX5_init 6 = .ok (.putfield 9, 3) := by decide +kernel
theorem dX5_init_9 : decode cX5_init 9 = .ok (.aload_n 0, 1) := by decide +kernel
theorem dX5_init_10 : decode cX5_init 10 = .ok (.iload_n 3, 1) := by decide +kernel
theorem dX5_init_11 : decode cX5_init 11 = .ok (.putfield 15, 3) := by decide +kernel
theorem dX5_init_14 : decode cX5_init 14 = .ok (.return_, 1) := by decide +kernel
theorem dX5_with_0 : decode cX5_with 0 = .ok (.new 10, 3) := by decide +kernel
theorem dX5_with_3 : decode cX5_with 3 = .ok (.dup, 1) := by decide +kernel
theorem dX5_with_4 : decode cX5_with 4 = .ok (.aload_n 0, 1) := by decide +kernel
theorem dX5_with_5 : decode cX5_with 5 = .ok (.getfield 9, 3) := by decide +kernel
theorem dX5_with_8 : decode cX5_with 8 = .ok (.iconst 5, 1) := by decide +kernel
theorem dX5_with_9 : decode cX5_with 9 = .ok (.lshl, 1) := by decide +kernel
theorem dX5_with_10 : decode cX5_with 10 = .ok (.iload_n 1, 1) := by decide +kernel
theorem dX5_with_11 : decode cX5_with 11 = .ok (.invokestatic 19, 3) := by decide +kernel
theorem dX5_with_14 : decode cX5_with 14 = .ok (.lor, 1) := by decide +kernel
theorem dX5_with_15 : decode cX5_with 15 = .ok (.aload_n 0, 1) := by decide +kernel
theorem dX5_with_16 : decode cX5_with 16 = .ok (.getfield 15, 3) := by decide +kernel
theorem dX5_with_19 : decode cX5_with 19 = .ok (.iconst 1, 1) := by decide +kernel
theorem dX5_with_20 : decode cX5_with 20 = .ok (.iadd, 1) := by decide +kernel
theorem dX5_with_21 : decode cX5_with 21 = .ok (.invokespecial 23, 3) := by decide +kernel
theorem dX5_with_24 : decode cX5_with 24 = .ok (.areturn, 1) := by decide +kernel
theorem dX5_beginsWith_0 : decode cX5_beginsWith 0 = .ok (.iload_n 3, 1) := by decide +kernel
theorem dX5_beginsWith_1 : decode cX5_beginsWith 1 = .ok (.aload_n 0, 1) := by decide +kernel
theorem dX5_beginsWith_2 : decode cX5_beginsWith 2 = .ok (.getfield 15, 3) := by decide +kernel
theorem dX5_beginsWith_5 : decode cX5_beginsWith 5 = .ok (.if_icmp .gt 25, 3) := by decide +kernel
theorem dX5_beginsWith_8 : decode cX5_beginsWith 8 = .ok (.aload_n 0, 1) := by decide +kernel
theorem dX5_beginsWith_9 : decode cX5_beginsWith 9 = .ok (.getfield 9, 3) := by decide +kernel
theorem dX5_beginsWith_12 : decode cX5_beginsWith 12 = .ok (.iconst 5, 1) := by decide +kernel
theorem dX5_beginsWith_13 : decode cX5_beginsWith 13 = .ok (.aload_n 0, 1) := by decide +kernel
theorem dX5_beginsWith_14 : decode cX5_beginsWith 14 = .ok (.getfield 15, 3) := by decide +kernel
theorem dX5_beginsWith_17 : decode cX5_beginsWith 17 = .ok (.iload_n 3, 1) := by decide +kernel
theorem dX5_beginsWith_18 : decode cX5_beginsWith 18 = .ok (.isub, 1) := by decide +kernel
theorem dX5_beginsWith_19 : decode cX5_beginsWith 19 = .ok (.imul, 1) := by decide +kernel
theorem dX5_beginsWith_20 : decode cX5_beginsWith 20 = .ok (.lushr, 1) := by decide +kernel
theorem dX5_beginsWith_21 : decode cX5_beginsWith 21 = .ok (.lload_n 1, 1) := by decide +kernel
theorem dX5_beginsWith_22 : decode cX5_beginsWith 22 = .ok (.lcmp, 1) := by decide +kernel
theorem dX5_beginsWith_23 : decode cX5_beginsWith 23 = .ok (.ifCond .ne 7, 3) := by decide +kernel
theorem dX5_beginsWith_26 : decode cX5_beginsWith 26 = .ok (.iconst 1, 1) := by decide +kernel
theorem dX5_beginsWith_27 : decode cX5_beginsWith 27 = .ok (.goto 4, 3) := by decide +kernel
theorem dX5_beginsWith_30 : decode cX5_beginsWith 30 = .ok (.iconst 0, 1) := by decide +kernel
theorem dX5_beginsWith_31 : decode cX5_beginsWith 31 = .ok (.ireturn, 1) := by decide +kernel
theorem dX5_head_0 : decode cX5_head 0 = .ok (.iload_n 1, 1) := by decide +kernel
theorem dX5_head_1 : decode cX5_head 1 = .ok (.aload_n 0, 1) := by decide +kernel
theorem dX5_head_2 : decode cX5_head 2 = .ok (.getfield 15, 3) := by decide +kernel
theorem dX5_head_5 : decode cX5_head 5 = .ok (.if_icmp .ge 19, 3) := by decide +kernel
theorem dX5_head_8 : decode cX5_head 8 = .ok (.aload_n 0, 1) := by decide +kernel
theorem dX5_head_9 : decode cX5_head 9 = .ok (.getfield 9, 3) := by decide +kernel
theorem dX5_head_12 : decode cX5_head 12 = .ok (.iconst 5, 1) := by decide +kernel
theorem dX5_head_13 : decode cX5_head 13 = .ok (.aload_n 0, 1) := by decide +kernel
theorem dX5_head_14 : decode cX5_head 14 = .ok (.getfield 15, 3) := by decide +kernel
theorem dX5_head_17 : decode cX5_head 17 = .ok (.iload_n 1, 1) := by decide +kernel
theorem dX5_head_18 : decode cX5_head 18 = .ok (.isub, 1) := by decide +kernel
theorem dX5_head_19 : decode cX5_head 19 = .ok (.imul, 1) := by decide +kernel
theorem dX5_head_20 : decode cX5_head 20 = .ok (.lushr, 1) := by decide +kernel
theorem dX5_head_21 : decode cX5_head 21 = .ok (.goto 7, 3) := by decide +kernel
theorem dX5_head_24 : decode cX5_head 24 = .ok (.aload_n 0, 1) := by decide +kernel
theorem dX5_head_25 : decode cX5_head 25 = .ok (.getfield 9, 3) := by decide +kernel
theorem dX5_head_28 : decode cX5_head 28 = .ok (.lreturn, 1) := by decide +kernel
theorem dX5_letterAt_0 : decode cX5_letterAt 0 = .ok (.aload_n 0, 1) := by decide +kernel
theorem dX5_letterAt_1 : decode cX5_letterAt 1 = .ok (.iload_n 1, 1) := by decide +kernel
theorem dX5_letterAt_2 : decode cX5_letterAt 2 = .ok (.iconst 1, 1) := by decide +kernel
theorem dX5_letterAt_3 : decode cX5_letterAt 3 = .ok (.iadd, 1) := by decide +kernel
theorem dX5_letterAt_4 : decode cX5_letterAt 4 = .ok (.invokevirtual 26, 3) := by decide +kernel
theorem dX5_letterAt_7 : decode cX5_letterAt 7 = .ok (.invokestatic 30, 3) := by decide +kernel
theorem dX5_letterAt_10 : decode cX5_letterAt 10 = .ok (.ireturn, 1) := by decide +kernel
theorem dX6_init_0 : decode cX6_init 0 = .ok (.aload_n 0, 1) := by decide +kernel
theorem dX6_init_1 : decode cX6_init 1 = .ok (.invokespecial 1, 3) := by decide +kernel
theorem dX6_init_4 : decode cX6_init 4 = .ok (.aload_n 0, 1) := by decide +kernel
theorem dX6_init_5 : decode cX6_init 5 = .ok (.new 7, 3) := by decide +kernel
theorem dX6_init_8 : decode cX6_init 8 = .ok (.dup, 1) := by decide +kernel
theorem dX6_init_9 : decode cX6_init 9 = .ok (.invokespecial 9, 3) := by decide +kernel
theorem dX6_init_12 : decode cX6_init 12 = .ok (.putfield 10, 3) := by decide +kernel
theorem dX6_init_15 : decode cX6_init 15 = .ok (.aload_n 0, 1) := by decide +kernel
theorem dX6_init_16 : decode cX6_init 16 = .ok (.new 16, 3) := by decide +kernel
theorem dX6_init_19 : decode cX6_init 19 = .ok (.dup, 1) := by decide +kernel
theorem dX6_init_20 : decode cX6_init 20 = .ok (.invokespecial 18, 3) := by decide +kernel
theorem dX6_init_23 : decode cX6_init 23 = .ok (.putfield 19, 3) := by decide +kernel
theorem dX6_init_26 : decode cX6_init 26 = .ok (.aload_n 0, 1) := by decide +kernel
theorem dX6_init_27 : decode cX6_init 27 = .ok (.new 23, 3) := by decide +kernel
theorem dX6_init_30 : decode cX6_init 30 = .ok (.dup, 1) := by decide +kernel
theorem dX6_init_31 : decode cX6_init 31 = .ok (.invokespecial 25, 3) := by decide +kernel
theorem dX6_init_34 : decode cX6_init 34 = .ok (.putfield 26, 3) := by decide +kernel
theorem dX6_init_37 : decode cX6_init 37 = .ok (.aload_n 0, 1) := by decide +kernel
theorem dX6_init_38 : decode cX6_init 38 = .ok (.new 30, 3) := by decide +kernel
theorem dX6_init_41 : decode cX6_init 41 = .ok (.dup, 1) := by decide +kernel
theorem dX6_init_42 : decode cX6_init 42 = .ok (.invokespecial 32, 3) := by decide +kernel
theorem dX6_init_45 : decode cX6_init 45 = .ok (.putfield 33, 3) := by decide +kernel
theorem dX6_init_48 : decode cX6_init 48 = .ok (.aload_n 0, 1) := by decide +kernel
theorem dX6_init_49 : decode cX6_init 49 = .ok (.new 37, 3) := by decide +kernel
theorem dX6_init_52 : decode cX6_init 52 = .ok (.dup, 1) := by decide +kernel
theorem dX6_init_53 : decode cX6_init 53 = .ok (.lconst 0, 1) := by decide +kernel
theorem dX6_init_54 : decode cX6_init 54 = .ok (.iconst 0, 1) := by decide +kernel
theorem dX6_init_55 : decode cX6_init 55 = .ok (.invokespecial 39, 3) := by decide +kernel
theorem dX6_init_58 : decode cX6_init 58 = .ok (.putfield 42, 3) := by decide +kernel
theorem dX6_init_61 : decode cX6_init 61 = .ok (.aload_n 0, 1) := by decide +kernel
theorem dX6_init_62 : decode cX6_init 62 = .ok (.iconst 0, 1) := by decide +kernel
theorem dX6_init_63 : decode cX6_init 63 = .ok (.putfield 46, 3) := by decide +kernel
theorem dX6_init_66 : decode cX6_init 66 = .ok (.return_, 1) := by decide +kernel
theorem dX6_draft_0 : decode cX6_draft 0 = .ok (.iload_n 1, 1) := by decide +kernel
theorem dX6_draft_1 : decode cX6_draft 1 = .ok (.invokestatic 50, 3) := by decide +kernel
theorem dX6_draft_4 : decode cX6_draft 4 = .ok (.aload_n 0, 1) := by decide +kernel
theorem dX6_draft_5 : decode cX6_draft 5 = .ok (.getfield 42, 3) := by decide +kernel
theorem dX6_draft_8 : decode cX6_draft 8 = .ok (.getfield 54, 3) := by decide +kernel
theorem dX6_draft_11 : decode cX6_draft 11 = .ok (.bipush 8, 2) := by decide +kernel
theorem dX6_draft_13 : decode cX6_draft 13 = .ok (.if_icmp .lt 13, 3) := by decide +kernel
theorem dX6_draft_16 : decode cX6_draft 16 = .ok (.new 57, 3) := by decide +kernel
theorem dX6_draft_19 : decode cX6_draft 19 = .ok (.dup, 1) := by decide +kernel
theorem dX6_draft_20 : decode cX6_draft 20 = .ok (.ldc 59, 2) := by decide +kernel
theorem dX6_draft_22 : decode cX6_draft 22 = .ok (.invokespecial 61, 3) := by decide +kernel
theorem dX6_draft_25 : decode cX6_draft 25 = .ok (.athrow, 1) := by decide +kernel
theorem dX6_draft_26 : decode cX6_draft 26 = .ok (.aload_n 0, 1) := by decide +kernel
theorem dX6_draft_27 : decode cX6_draft 27 = .ok (.aload_n 0, 1) := by decide +kernel
theorem dX6_draft_28 : decode cX6_draft 28 = .ok (.getfield 42, 3) := by decide +kernel
theorem dX6_draft_31 : decode cX6_draft 31 = .ok (.iload_n 1, 1) := by decide +kernel
theorem dX6_draft_32 : decode cX6_draft 32 = .ok (.invokevirtual 64, 3) := by decide +kernel
theorem dX6_draft_35 : decode cX6_draft 35 = .ok (.putfield 42, 3) := by decide +kernel
theorem dX6_draft_38 : decode cX6_draft 38 = .ok (.aload_n 0, 1) := by decide +kernel
theorem dX6_draft_39 : decode cX6_draft 39 = .ok (.getfield 42, 3) := by decide +kernel
theorem dX6_draft_42 : decode cX6_draft 42 = .ok (.getfield 54, 3) := by decide +kernel
theorem dX6_draft_45 : decode cX6_draft 45 = .ok (.ireturn, 1) := by decide +kernel
theorem dX6_enter_0 : decode cX6_enter 0 = .ok (.aload_n 0, 1) := by decide +kernel
theorem dX6_enter_1 : decode cX6_enter 1 = .ok (.getfield 42, 3) := by decide +kernel
theorem dX6_enter_4 : decode cX6_enter 4 = .ok (.getfield 54, 3) := by decide +kernel
theorem dX6_enter_7 : decode cX6_enter 7 = .ok (.ifCond .ne 13, 3) := by decide +kernel
theorem dX6_enter_10 : decode cX6_enter 10 = .ok (.new 57, 3) := by decide +kernel
theorem dX6_enter_13 : decode cX6_enter 13 = .ok (.dup, 1) := by decide +kernel
theorem dX6_enter_14 : decode cX6_enter 14 = .ok (.ldc 68, 2) := by decide +kernel
theorem dX6_enter_16 : decode cX6_enter 16 = .ok (.invokespecial 61, 3) := by decide +kernel
theorem dX6_enter_19 : decode cX6_enter 19 = .ok (.athrow, 1) := by decide +kernel
theorem dX6_enter_20 : decode cX6_enter 20 = .ok (.aload_n 0, 1) := by decide +kernel
theorem dX6_enter_21 : decode cX6_enter 21 = .ok (.getfield 10, 3) := by decide +kernel
theorem dX6_enter_24 : decode cX6_enter 24 = .ok (.aload_n 0, 1) := by decide +kernel
theorem dX6_enter_25 : decode cX6_enter 25 = .ok (.getfield 42, 3) := by decide +kernel
theorem dX6_enter_28 : decode cX6_enter 28 = .ok (.invokevirtual 70, 3) := by decide +kernel
theorem dX6_enter_31 : decode cX6_enter 31 = .ok (.ifCond .eq 13, 3) := by decide +kernel
theorem dX6_enter_34 : decode cX6_enter 34 = .ok (.new 57, 3) := by decide +kernel
theorem dX6_enter_37 : decode cX6_enter 37 = .ok (.dup, 1) := by decide +kernel
theorem dX6_enter_38 : decode cX6_enter 38 = .ok (.ldc 74, 2) := by decide +kernel
theorem dX6_enter_40 : decode cX6_enter 40 = .ok (.invokespecial 61, 3) := by decide +kernel
theorem dX6_enter_43 : decode cX6_enter 43 = .ok (.athrow, 1) := by decide +kernel
theorem dX6_enter_44 : decode cX6_enter 44 = .ok (.aload_n 0, 1) := by decide +kernel
theorem dX6_enter_45 : decode cX6_enter 45 = .ok (.getfield 10, 3) := by decide +kernel
theorem dX6_enter_48 : decode cX6_enter 48 = .ok (.invokevirtual 76, 3) := by decide +kernel
theorem dX6_enter_51 : decode cX6_enter 51 = .ok (.ifCond .eq 13, 3) := by decide +kernel
theorem dX6_enter_54 : decode cX6_enter 54 = .ok (.new 57, 3) := by decide +kernel
theorem dX6_enter_57 : decode cX6_enter 57 = .ok (.dup, 1) := by decide +kernel
theorem dX6_enter_58 : decode cX6_enter 58 = .ok (.ldc 80, 2) := by decide +kernel
theorem dX6_enter_60 : decode cX6_enter 60 = .ok (.invokespecial 61, 3) := by decide +kernel
theorem dX6_enter_63 : decode cX6_enter 63 = .ok (.athrow, 1) := by decide +kernel
theorem dX6_enter_64 : decode cX6_enter 64 = .ok (.aload_n 0, 1) := by decide +kernel
theorem dX6_enter_65 : decode cX6_enter 65 = .ok (.getfield 10, 3) := by decide +kernel
theorem dX6_enter_68 : decode cX6_enter 68 = .ok (.aload_n 0, 1) := by decide +kernel
theorem dX6_enter_69 : decode cX6_enter 69 = .ok (.getfield 42, 3) := by decide +kernel
theorem dX6_enter_72 : decode cX6_enter 72 = .ok (.invokevirtual 82, 3) := by decide +kernel
theorem dX6_enter_75 : decode cX6_enter 75 = .ok (.istore_n 1, 1) := by decide +kernel
theorem dX6_enter_76 : decode cX6_enter 76 = .ok (.aload_n 0, 1) := by decide +kernel
theorem dX6_enter_77 : decode cX6_enter 77 = .ok (.new 37, 3) := by decide +kernel
theorem dX6_enter_80 : decode cX6_enter 80 = .ok (.dup, 1) := by decide +kernel
theorem dX6_enter_81 : decode cX6_enter 81 = .ok (.lconst 0, 1) := by decide +kernel
theorem dX6_enter_82 : decode cX6_enter 82 = .ok (.iconst 0, 1) := by decide +kernel
theorem dX6_enter_83 : decode cX6_enter 83 = .ok (.invokespecial 39, 3) := by decide +kernel
theorem dX6_enter_86 : decode cX6_enter 86 = .ok (.putfield 42, 3) := by decide +kernel
theorem dX6_enter_89 : decode cX6_enter 89 = .ok (.iload_n 1, 1) := by decide +kernel
theorem dX6_enter_90 : decode cX6_enter 90 = .ok (.ireturn, 1) := by decide +kernel
theorem dX6_setReplacement_0 : decode cX6_setReplacement 0 = .ok (.aload_n 0, 1) := by decide +kernel
theorem dX6_setReplacement_1 : decode cX6_setReplacement 1 = .ok (.iload_n 1, 1) := by decide +kernel
theorem dX6_setReplacement_2 : decode cX6_setReplacement 2 = .ok (.invokevirtual 86, 3) := by decide +kernel
theorem dX6_setReplacement_5 : decode cX6_setReplacement 5 = .ok (.astore_n 2, 1) := by decide +kernel
theorem dX6_setReplacement_6 : decode cX6_setReplacement 6 = .ok (.aload_n 2, 1) := by decide +kernel
theorem dX6_setReplacement_7 : decode cX6_setReplacement 7 = .ok (.getfield 90, 3) := by decide +kernel
theorem dX6_setReplacement_10 : decode cX6_setReplacement 10 = .ok (.getfield 54, 3) := by decide +kernel
theorem dX6_setReplacement_13 : decode cX6_setReplacement 13 = .ok (.istore_n 3, 1) := by decide +kernel
theorem dX6_setReplacement_14 : decode cX6_setReplacement 14 = .ok (.aload_n 2, 1) := by decide +kernel
theorem dX6_setReplacement_15 : decode cX6_setReplacement 15 = .ok (.aload_n 0, 1) := by decide +kernel
theorem dX6_setReplacement_16 : decode cX6_setReplacement 16 = .ok (.getfield 42, 3) := by decide +kernel
theorem dX6_setReplacement_19 : decode cX6_setReplacement 19 = .ok (.putfield 90, 3) := by decide +kernel
theorem dX6_setReplacement_22 : decode cX6_setReplacement 22 = .ok (.aload_n 0, 1) := by decide +kernel
theorem dX6_setReplacement_23 : decode cX6_setReplacement 23 = .ok (.new 37, 3) := by decide +kernel
theorem dX6_setReplacement_26 : decode cX6_setReplacement 26 = .ok (.dup, 1) := by decide +kernel
theorem dX6_setReplacement_27 : decode cX6_setReplacement 27 = .ok (.lconst 0, 1) := by decide +kernel
theorem dX6_setReplacement_28 : decode cX6_setReplacement 28 = .ok (.iconst 0, 1) := by decide +kernel
theorem dX6_setReplacement_29 : decode cX6_setReplacement 29 = .ok (.invokespecial 39, 3) := by decide +kernel
theorem dX6_setReplacement_32 : decode cX6_setReplacement 32 = .ok (.putfield 42, 3) := by decide +kernel
theorem dX6_setReplacement_35 : decode cX6_setReplacement 35 = .ok (.iload_n 3, 1) := by decide +kernel
theorem dX6_setReplacement_36 : decode cX6_setReplacement 36 = .ok (.ireturn, 1) := by decide +kernel
theorem dX6_takeOut_0 : decode cX6_takeOut 0 = .ok (.aload_n 0, 1) := by decide +kernel
theorem dX6_takeOut_1 : decode cX6_takeOut 1 = .ok (.getfield 10, 3) := by decide +kernel
theorem dX6_takeOut_4 : decode cX6_takeOut 4 = .ok (.aload_n 0, 1) := by decide +kernel
theorem dX6_takeOut_5 : decode cX6_takeOut 5 = .ok (.iload_n 1, 1) := by decide +kernel
theorem dX6_takeOut_6 : decode cX6_takeOut 6 = .ok (.invokevirtual 86, 3) := by decide +kernel
theorem dX6_takeOut_9 : decode cX6_takeOut 9 = .ok (.invokevirtual 95, 3) := by decide +kernel
theorem dX6_takeOut_12 : decode cX6_takeOut 12 = .ok (.aload_n 0, 1) := by decide +kernel
theorem dX6_takeOut_13 : decode cX6_takeOut 13 = .ok (.getfield 10, 3) := by decide +kernel
theorem dX6_takeOut_16 : decode cX6_takeOut 16 = .ok (.getfield 99, 3) := by decide +kernel
theorem dX6_takeOut_19 : decode cX6_takeOut 19 = .ok (.ireturn, 1) := by decide +kernel
theorem dX6_patterns_0 : decode cX6_patterns 0 = .ok (.aload_n 0, 1) := by decide +kernel
theorem dX6_patterns_1 : decode cX6_patterns 1 = .ok (.getfield 10, 3) := by decide +kernel
theorem dX6_patterns_4 : decode cX6_patterns 4 = .ok (.getfield 99, 3) := by decide +kernel
theorem dX6_patterns_7 : decode cX6_patterns 7 = .ok (.ireturn, 1) := by decide +kernel
theorem dX6_length_0 : decode cX6_length 0 = .ok (.aload_n 0, 1) := by decide +kernel
theorem dX6_length_1 : decode cX6_length 1 = .ok (.iload_n 1, 1) := by decide +kernel
theorem dX6_length_2 : decode cX6_length 2 = .ok (.invokevirtual 86, 3) := by decide +kernel
theorem dX6_length_5 : decode cX6_length 5 = .ok (.getfield 102, 3) := by decide +kernel
theorem dX6_length_8 : decode cX6_length 8 = .ok (.getfield 54, 3) := by decide +kernel
theorem dX6_length_11 : decode cX6_length 11 = .ok (.ireturn, 1) := by decide +kernel
theorem dX6_beginnings_0 : decode cX6_beginnings 0 = .ok (.aload_n 0, 1) := by decide +kernel
theorem dX6_beginnings_1 : decode cX6_beginnings 1 = .ok (.getfield 10, 3) := by decide +kernel
theorem dX6_beginnings_4 : decode cX6_beginnings 4 = .ok (.invokevirtual 105, 3) := by decide +kernel
theorem dX6_beginnings_7 : decode cX6_beginnings 7 = .ok (.ireturn, 1) := by decide +kernel
theorem dX6_link_0 : decode cX6_link 0 = .ok (.aload_n 0, 1) := by decide +kernel
theorem dX6_link_1 : decode cX6_link 1 = .ok (.iload_n 1, 1) := by decide +kernel
theorem dX6_link_2 : decode cX6_link 2 = .ok (.invokevirtual 86, 3) := by decide +kernel
theorem dX6_link_5 : decode cX6_link 5 = .ok (.getfield 102, 3) := by decide +kernel
theorem dX6_link_8 : decode cX6_link 8 = .ok (.astore_n 2, 1) := by decide +kernel
theorem dX6_link_9 : decode cX6_link 9 = .ok (.aload_n 0, 1) := by decide +kernel
theorem dX6_link_10 : decode cX6_link 10 = .ok (.getfield 10, 3) := by decide +kernel
theorem dX6_link_13 : decode cX6_link 13 = .ok (.aload_n 2, 1) := by decide +kernel
theorem dX6_link_14 : decode cX6_link 14 = .ok (.getfield 109, 3) := by decide +kernel
theorem dX6_link_17 : decode cX6_link 17 = .ok (.aload_n 2, 1) := by decide +kernel
theorem dX6_link_18 : decode cX6_link 18 = .ok (.getfield 54, 3) := by decide +kernel
theorem dX6_link_21 : decode cX6_link 21 = .ok (.iconst 1, 1) := by decide +kernel
theorem dX6_link_22 : decode cX6_link 22 = .ok (.isub, 1) := by decide +kernel
theorem dX6_link_23 : decode cX6_link 23 = .ok (.invokevirtual 113, 3) := by decide +kernel
theorem dX6_link_26 : decode cX6_link 26 = .ok (.ireturn, 1) := by decide +kernel
theorem dX6_overlap_0 : decode cX6_overlap 0 = .ok (.aload_n 0, 1) := by decide +kernel
theorem dX6_overlap_1 : decode cX6_overlap 1 = .ok (.iload_n 1, 1) := by decide +kernel
theorem dX6_overlap_2 : decode cX6_overlap 2 = .ok (.invokevirtual 86, 3) := by decide +kernel
theorem dX6_overlap_5 : decode cX6_overlap 5 = .ok (.getfield 102, 3) := by decide +kernel
theorem dX6_overlap_8 : decode cX6_overlap 8 = .ok (.astore_n 3, 1) := by decide +kernel
theorem dX6_overlap_9 : decode cX6_overlap 9 = .ok (.aload_n 0, 1) := by decide +kernel
theorem dX6_overlap_10 : decode cX6_overlap 10 = .ok (.iload_n 2, 1) := by decide +kernel
theorem dX6_overlap_11 : decode cX6_overlap 11 = .ok (.invokevirtual 86, 3) := by decide +kernel
theorem dX6_overlap_14 : decode cX6_overlap 14 = .ok (.getfield 102, 3) := by decide +kernel
theorem dX6_overlap_17 : decode cX6_overlap 17 = .ok (.astore 4, 2) := by decide +kernel
theorem dX6_overlap_19 : decode cX6_overlap 19 = .ok (.aload_n 3, 1) := by decide +kernel
theorem dX6_overlap_20 : decode cX6_overlap 20 = .ok (.getfield 54, 3) := by decide +kernel
theorem dX6_overlap_23 : decode cX6_overlap 23 = .ok (.aload 4, 2) := by decide +kernel
theorem dX6_overlap_25 : decode cX6_overlap 25 = .ok (.getfield 54, 3) := by decide +kernel
theorem dX6_overlap_28 : decode cX6_overlap 28 = .ok (.invokestatic 117, 3) := by decide +kernel
theorem dX6_overlap_31 : decode cX6_overlap 31 = .ok (.iconst 1, 1) := by decide +kernel
theorem dX6_overlap_32 : decode cX6_overlap 32 = .ok (.isub, 1) := by decide +kernel
theorem dX6_overlap_33 : decode cX6_overlap 33 = .ok (.istore 5, 2) := by decide +kernel
theorem dX6_overlap_35 : decode cX6_overlap 35 = .ok (.iload 5, 2) := by decide +kernel
theorem dX6_overlap_37 : decode cX6_overlap 37 = .ok (.ifCond .le 31, 3) := by decide +kernel
theorem dX6_overlap_40 : decode cX6_overlap 40 = .ok (.aload 4, 2) := by decide +kernel
theorem dX6_overlap_42 : decode cX6_overlap 42 = .ok (.aload_n 3, 1) := by decide +kernel
theorem dX6_overlap_43 : decode cX6_overlap 43 = .ok (.getfield 109, 3) := by decide +kernel
theorem dX6_overlap_46 : decode cX6_overlap 46 = .ok (.iload 5, 2) := by decide +kernel
theorem dX6_overlap_48 : decode cX6_overlap 48 = .ok (.invokestatic 123, 3) := by decide +kernel
theorem dX6_overlap_51 : decode cX6_overlap 51 = .ok (.iload 5, 2) := by decide +kernel
theorem dX6_overlap_53 : decode cX6_overlap 53 = .ok (.invokevirtual 127, 3) := by decide +kernel
theorem dX6_overlap_56 : decode cX6_overlap 56 = .ok (.ifCond .eq 6, 3) := by decide +kernel
theorem dX6_overlap_59 : decode cX6_overlap 59 = .ok (.iload 5, 2) := by decide +kernel
theorem dX6_overlap_61 : decode cX6_overlap 61 = .ok (.ireturn, 1) := by decide +kernel
theorem dX6_overlap_62 : decode cX6_overlap 62 = .ok (.iinc 5 (-1), 3) := by decide +kernel
theorem dX6_overlap_65 : decode cX6_overlap 65 = .ok (.goto (-30), 3) := by decide +kernel
theorem dX6_overlap_68 : decode cX6_overlap 68 = .ok (.iconst 0, 1) := by decide +kernel
theorem dX6_overlap_69 : decode cX6_overlap 69 = .ok (.ireturn, 1) := by decide +kernel
theorem dX6_feed_0 : decode cX6_feed 0 = .ok (.iload_n 1, 1) := by decide +kernel
theorem dX6_feed_1 : decode cX6_feed 1 = .ok (.invokestatic 50, 3) := by decide +kernel
theorem dX6_feed_4 : decode cX6_feed 4 = .ok (.aload_n 0, 1) := by decide +kernel
theorem dX6_feed_5 : decode cX6_feed 5 = .ok (.iconst 1, 1) := by decide +kernel
theorem dX6_feed_6 : decode cX6_feed 6 = .ok (.invokevirtual 131, 3) := by decide +kernel
theorem dX6_feed_9 : decode cX6_feed 9 = .ok (.aload_n 0, 1) := by decide +kernel
theorem dX6_feed_10 : decode cX6_feed 10 = .ok (.iload_n 1, 1) := by decide +kernel
theorem dX6_feed_11 : decode cX6_feed 11 = .ok (.invokevirtual 135, 3) := by decide +kernel
theorem dX6_feed_14 : decode cX6_feed 14 = .ok (.ireturn, 1) := by decide +kernel
theorem dX6_feedPattern_0 : decode cX6_feedPattern 0 = .ok (.aload_n 0, 1) := by decide +kernel
theorem dX6_feedPattern_1 : decode cX6_feedPattern 1 = .ok (.iload_n 1, 1) := by decide +kernel
theorem dX6_feedPattern_2 : decode cX6_feedPattern 2 = .ok (.invokevirtual 86, 3) := by decide +kernel
theorem dX6_feedPattern_5 : decode cX6_feedPattern 5 = .ok (.getfield 102, 3) := by decide +kernel
theorem dX6_feedPattern_8 : decode cX6_feedPattern 8 = .ok (.astore_n 2, 1) := by decide +kernel
theorem dX6_feedPattern_9 : decode cX6_feedPattern 9 = .ok (.aload_n 0, 1) := by decide +kernel
theorem dX6_feedPattern_10 : decode cX6_feedPattern 10 = .ok (.aload_n 2, 1) := by decide +kernel
theorem dX6_feedPattern_11 : decode cX6_feedPattern 11 = .ok (.getfield 54, 3) := by decide +kernel
theorem dX6_feedPattern_14 : decode cX6_feedPattern 14 = .ok (.invokevirtual 131, 3) := by decide +kernel
theorem dX6_feedPattern_17 : decode cX6_feedPattern 17 = .ok (.iconst 0, 1) := by decide +kernel
theorem dX6_feedPattern_18 : decode cX6_feedPattern 18 = .ok (.istore_n 3, 1) := by decide +kernel
theorem dX6_feedPattern_19 : decode cX6_feedPattern 19 = .ok (.iconst 0, 1) := by decide +kernel
theorem dX6_feedPattern_20 : decode cX6_feedPattern 20 = .ok (.istore 4, 2) := by decide +kernel
theorem dX6_feedPattern_22 : decode cX6_feedPattern 22 = .ok (.iload 4, 2) := by decide +kernel
theorem dX6_feedPattern_24 : decode cX6_feedPattern 24 = .ok (.aload_n 2, 1) := by decide +kernel
theorem dX6_feedPattern_25 : decode cX6_feedPattern 25 = .ok (.getfield 54, 3) := by decide +kernel
theorem dX6_feedPattern_28 : decode cX6_feedPattern 28 = .ok (.if_icmp .ge 22, 3) := by decide +kernel
theorem dX6_feedPattern_31 : decode cX6_feedPattern 31 = .ok (.iload_n 3, 1) := by decide +kernel
theorem dX6_feedPattern_32 : decode cX6_feedPattern 32 = .ok (.aload_n 0, 1) := by decide +kernel
theorem dX6_feedPattern_33 : decode cX6_feedPattern 33 = .ok (.aload_n 2, 1) := by decide +kernel
theorem dX6_feedPattern_34 : decode cX6_feedPattern 34 = .ok (.iload 4, 2) := by decide +kernel
theorem dX6_feedPattern_36 : decode cX6_feedPattern 36 = .ok (.invokevirtual 139, 3) := by decide +kernel
theorem dX6_feedPattern_39 : decode cX6_feedPattern 39 = .ok (.invokevirtual 135, 3) := by decide +kernel
theorem dX6_feedPattern_42 : decode cX6_feedPattern 42 = .ok (.iadd, 1) := by decide +kernel
theorem dX6_feedPattern_43 : decode cX6_feedPattern 43 = .ok (.istore_n 3, 1) := by decide +kernel
theorem dX6_feedPattern_44 : decode cX6_feedPattern 44 = .ok (.iinc 4 1, 3) := by decide +kernel
theorem dX6_feedPattern_47 : decode cX6_feedPattern 47 = .ok (.goto (-25), 3) := by decide +kernel
theorem dX6_feedPattern_50 : decode cX6_feedPattern 50 = .ok (.iload_n 3, 1) := by decide +kernel
theorem dX6_feedPattern_51 : decode cX6_feedPattern 51 = .ok (.ireturn, 1) := by decide +kernel
theorem dX6_clear_0 : decode cX6_clear 0 = .ok (.aload_n 0, 1) := by decide +kernel
theorem dX6_clear_1 : decode cX6_clear 1 = .ok (.getfield 19, 3) := by decide +kernel
theorem dX6_clear_4 : decode cX6_clear 4 = .ok (.getfield 143, 3) := by decide +kernel
theorem dX6_clear_7 : decode cX6_clear 7 = .ok (.istore_n 1, 1) := by decide +kernel
theorem dX6_clear_8 : decode cX6_clear 8 = .ok (.aload_n 0, 1) := by decide +kernel
theorem dX6_clear_9 : decode cX6_clear 9 = .ok (.getfield 19, 3) := by decide +kernel
theorem dX6_clear_12 : decode cX6_clear 12 = .ok (.iconst 0, 1) := by decide +kernel
theorem dX6_clear_13 : decode cX6_clear 13 = .ok (.putfield 143, 3) := by decide +kernel
theorem dX6_clear_16 : decode cX6_clear 16 = .ok (.aload_n 0, 1) := by decide +kernel
theorem dX6_clear_17 : decode cX6_clear 17 = .ok (.iconst 0, 1) := by decide +kernel
theorem dX6_clear_18 : decode cX6_clear 18 = .ok (.putfield 46, 3) := by decide +kernel
theorem dX6_clear_21 : decode cX6_clear 21 = .ok (.iload_n 1, 1) := by decide +kernel
theorem dX6_clear_22 : decode cX6_clear 22 = .ok (.ireturn, 1) := by decide +kernel
theorem dX6_streamLength_0 : decode cX6_streamLength 0 = .ok (.aload_n 0, 1) := by decide +kernel
theorem dX6_streamLength_1 : decode cX6_streamLength 1 = .ok (.getfield 19, 3) := by decide +kernel
theorem dX6_streamLength_4 : decode cX6_streamLength 4 = .ok (.getfield 143, 3) := by decide +kernel
theorem dX6_streamLength_7 : decode cX6_streamLength 7 = .ok (.ireturn, 1) := by decide +kernel
theorem dX6_depth_0 : decode cX6_depth 0 = .ok (.aload_n 0, 1) := by decide +kernel
theorem dX6_depth_1 : decode cX6_depth 1 = .ok (.getfield 10, 3) := by decide +kernel
theorem dX6_depth_4 : decode cX6_depth 4 = .ok (.aload_n 0, 1) := by decide +kernel
theorem dX6_depth_5 : decode cX6_depth 5 = .ok (.getfield 19, 3) := by decide +kernel
theorem dX6_depth_8 : decode cX6_depth 8 = .ok (.aload_n 0, 1) := by decide +kernel
theorem dX6_depth_9 : decode cX6_depth 9 = .ok (.getfield 19, 3) := by decide +kernel
theorem dX6_depth_12 : decode cX6_depth 12 = .ok (.getfield 143, 3) := by decide +kernel
theorem dX6_depth_15 : decode cX6_depth 15 = .ok (.invokevirtual 144, 3) := by decide +kernel
theorem dX6_depth_18 : decode cX6_depth 18 = .ok (.aload_n 0, 1) := by decide +kernel
theorem dX6_depth_19 : decode cX6_depth 19 = .ok (.getfield 19, 3) := by decide +kernel
theorem dX6_depth_22 : decode cX6_depth 22 = .ok (.getfield 143, 3) := by decide +kernel
theorem dX6_depth_25 : decode cX6_depth 25 = .ok (.bipush 8, 2) := by decide +kernel
theorem dX6_depth_27 : decode cX6_depth 27 = .ok (.invokestatic 117, 3) := by decide +kernel
theorem dX6_depth_30 : decode cX6_depth 30 = .ok (.invokevirtual 113, 3) := by decide +kernel
theorem dX6_depth_33 : decode cX6_depth 33 = .ok (.ireturn, 1) := by decide +kernel
theorem dX6_ending_0 : decode cX6_ending 0 = .ok (.aload_n 0, 1) := by decide +kernel
theorem dX6_ending_1 : decode cX6_ending 1 = .ok (.getfield 10, 3) := by decide +kernel
theorem dX6_ending_4 : decode cX6_ending 4 = .ok (.aload_n 0, 1) := by decide +kernel
theorem dX6_ending_5 : decode cX6_ending 5 = .ok (.getfield 19, 3) := by decide +kernel
theorem dX6_ending_8 : decode cX6_ending 8 = .ok (.aload_n 0, 1) := by decide +kernel
theorem dX6_ending_9 : decode cX6_ending 9 = .ok (.getfield 19, 3) := by decide +kernel
theorem dX6_ending_12 : decode cX6_ending 12 = .ok (.getfield 143, 3) := by decide +kernel
theorem dX6_ending_15 : decode cX6_ending 15 = .ok (.invokevirtual 148, 3) := by decide +kernel
theorem dX6_ending_18 : decode cX6_ending 18 = .ok (.ireturn, 1) := by decide +kernel
theorem dX6_endingPattern_0 : decode cX6_endingPattern 0 = .ok (.aload_n 0, 1) := by decide +kernel
theorem dX6_endingPattern_1 : decode cX6_endingPattern 1 = .ok (.getfield 10, 3) := by decide +kernel
theorem dX6_endingPattern_4 : decode cX6_endingPattern 4 = .ok (.aload_n 0, 1) := by decide +kernel
theorem dX6_endingPattern_5 : decode cX6_endingPattern 5 = .ok (.getfield 19, 3) := by decide +kernel
theorem dX6_endingPattern_8 : decode cX6_endingPattern 8 = .ok (.iload_n 1, 1) := by decide +kernel
theorem dX6_endingPattern_9 : decode cX6_endingPattern 9 = .ok (.invokevirtual 152, 3) := by decide +kernel
theorem dX6_endingPattern_12 : decode cX6_endingPattern 12 = .ok (.astore_n 2, 1) := by decide +kernel
theorem dX6_endingPattern_13 : decode cX6_endingPattern 13 = .ok (.aload_n 2, 1) := by decide +kernel
theorem dX6_endingPattern_14 : decode cX6_endingPattern 14 = .ok (.ifnonnull 13, 3) := by decide +kernel
theorem dX6_endingPattern_17 : decode cX6_endingPattern 17 = .ok (.new 156, 3) := by decide +kernel
theorem dX6_endingPattern_20 : decode cX6_endingPattern 20 = .ok (.dup, 1) := by decide +kernel
theorem dX6_endingPattern_21 : decode cX6_endingPattern 21 = .ok (.ldc 158, 2) := by decide +kernel
theorem dX6_endingPattern_23 : decode cX6_endingPattern 23 = .ok (.invokespecial 160, 3) := by decide +kernel
theorem dX6_endingPattern_26 : decode cX6_endingPattern 26 = .ok (.athrow, 1) := by decide +kernel
theorem dX6_endingPattern_27 : decode cX6_endingPattern 27 = .ok (.aload_n 2, 1) := by decide +kernel
theorem dX6_endingPattern_28 : decode cX6_endingPattern 28 = .ok (.getfield 161, 3) := by decide +kernel
theorem dX6_endingPattern_31 : decode cX6_endingPattern 31 = .ok (.ireturn, 1) := by decide +kernel
theorem dX6_occurrences_0 : decode cX6_occurrences 0 = .ok (.iconst 0, 1) := by decide +kernel
theorem dX6_occurrences_1 : decode cX6_occurrences 1 = .ok (.istore_n 1, 1) := by decide +kernel
theorem dX6_occurrences_2 : decode cX6_occurrences 2 = .ok (.iconst 1, 1) := by decide +kernel
theorem dX6_occurrences_3 : decode cX6_occurrences 3 = .ok (.istore_n 2, 1) := by decide +kernel
theorem dX6_occurrences_4 : decode cX6_occurrences 4 = .ok (.iload_n 2, 1) := by decide +kernel
theorem dX6_occurrences_5 : decode cX6_occurrences 5 = .ok (.aload_n 0, 1) := by decide +kernel
theorem dX6_occurrences_6 : decode cX6_occurrences 6 = .ok (.getfield 19, 3) := by decide +kernel
theorem dX6_occurrences_9 : decode cX6_occurrences 9 = .ok (.getfield 143, 3) := by decide +kernel
theorem dX6_occurrences_12 : decode cX6_occurrences 12 = .ok (.if_icmp .gt 24, 3) := by decide +kernel
theorem dX6_occurrences_15 : decode cX6_occurrences 15 = .ok (.iload_n 1, 1) := by decide +kernel
theorem dX6_occurrences_16 : decode cX6_occurrences 16 = .ok (.aload_n 0, 1) := by decide +kernel
theorem dX6_occurrences_17 : decode cX6_occurrences 17 = .ok (.getfield 10, 3) := by decide +kernel
theorem dX6_occurrences_20 : decode cX6_occurrences 20 = .ok (.aload_n 0, 1) := by decide +kernel
theorem dX6_occurrences_21 : decode cX6_occurrences 21 = .ok (.getfield 19, 3) := by decide +kernel
theorem dX6_occurrences_24 : decode cX6_occurrences 24 = .ok (.iload_n 2, 1) := by decide +kernel
theorem dX6_occurrences_25 : decode cX6_occurrences 25 = .ok (.invokevirtual 148, 3) := by decide +kernel
theorem dX6_occurrences_28 : decode cX6_occurrences 28 = .ok (.iadd, 1) := by decide +kernel
theorem dX6_occurrences_29 : decode cX6_occurrences 29 = .ok (.istore_n 1, 1) := by decide +kernel
theorem dX6_occurrences_30 : decode cX6_occurrences 30 = .ok (.iinc 2 1, 3) := by decide +kernel
theorem dX6_occurrences_33 : decode cX6_occurrences 33 = .ok (.goto (-29), 3) := by decide +kernel
theorem dX6_occurrences_36 : decode cX6_occurrences 36 = .ok (.iload_n 1, 1) := by decide +kernel
theorem dX6_occurrences_37 : decode cX6_occurrences 37 = .ok (.ireturn, 1) := by decide +kernel
theorem dX6_occurrencesOf_0 : decode cX6_occurrencesOf 0 = .ok (.aload_n 0, 1) := by decide +kernel
theorem dX6_occurrencesOf_1 : decode cX6_occurrencesOf 1 = .ok (.getfield 19, 3) := by decide +kernel
theorem dX6_occurrencesOf_4 : decode cX6_occurrencesOf 4 = .ok (.aload_n 0, 1) := by decide +kernel
theorem dX6_occurrencesOf_5 : decode cX6_occurrencesOf 5 = .ok (.iload_n 1, 1) := by decide +kernel
theorem dX6_occurrencesOf_6 : decode cX6_occurrencesOf 6 = .ok (.invokevirtual 86, 3) := by decide +kernel
theorem dX6_occurrencesOf_9 : decode cX6_occurrencesOf 9 = .ok (.getfield 102, 3) := by decide +kernel
theorem dX6_occurrencesOf_12 : decode cX6_occurrencesOf 12 = .ok (.invokevirtual 164, 3) := by decide +kernel
theorem dX6_occurrencesOf_15 : decode cX6_occurrencesOf 15 = .ok (.ireturn, 1) := by decide +kernel
theorem dX6_occurrence_0 : decode cX6_occurrence 0 = .ok (.aload_n 0, 1) := by decide +kernel
theorem dX6_occurrence_1 : decode cX6_occurrence 1 = .ok (.getfield 19, 3) := by decide +kernel
theorem dX6_occurrence_4 : decode cX6_occurrence 4 = .ok (.aload_n 0, 1) := by decide +kernel
theorem dX6_occurrence_5 : decode cX6_occurrence 5 = .ok (.iload_n 1, 1) := by decide +kernel
theorem dX6_occurrence_6 : decode cX6_occurrence 6 = .ok (.invokevirtual 86, 3) := by decide +kernel
theorem dX6_occurrence_9 : decode cX6_occurrence 9 = .ok (.getfield 102, 3) := by decide +kernel
theorem dX6_occurrence_12 : decode cX6_occurrence 12 = .ok (.iload_n 2, 1) := by decide +kernel
theorem dX6_occurrence_13 : decode cX6_occurrence 13 = .ok (.invokevirtual 167, 3) := by decide +kernel
theorem dX6_occurrence_16 : decode cX6_occurrence 16 = .ok (.istore_n 3, 1) := by decide +kernel
theorem dX6_occurrence_17 : decode cX6_occurrence 17 = .ok (.iload_n 3, 1) := by decide +kernel
theorem dX6_occurrence_18 : decode cX6_occurrence 18 = .ok (.ifCond .ge 13, 3) := by decide +kernel
theorem dX6_occurrence_21 : decode cX6_occurrence 21 = .ok (.new 156, 3) := by decide +kernel
theorem dX6_occurrence_24 : decode cX6_occurrence 24 = .ok (.dup, 1) := by decide +kernel
theorem dX6_occurrence_25 : decode cX6_occurrence 25 = .ok (.ldc 158, 2) := by decide +kernel
theorem dX6_occurrence_27 : decode cX6_occurrence 27 = .ok (.invokespecial 160, 3) := by decide +kernel
theorem dX6_occurrence_30 : decode cX6_occurrence 30 = .ok (.athrow, 1) := by decide +kernel
theorem dX6_occurrence_31 : decode cX6_occurrence 31 = .ok (.iload_n 3, 1) := by decide +kernel
theorem dX6_occurrence_32 : decode cX6_occurrence 32 = .ok (.ireturn, 1) := by decide +kernel
theorem dX6_told_0 : decode cX6_told 0 = .ok (.aload_n 0, 1) := by decide +kernel
theorem dX6_told_1 : decode cX6_told 1 = .ok (.getfield 46, 3) := by decide +kernel
theorem dX6_told_4 : decode cX6_told 4 = .ok (.ireturn, 1) := by decide +kernel
theorem dX6_covered_0 : decode cX6_covered 0 = .ok (.iconst 0, 1) := by decide +kernel
theorem dX6_covered_1 : decode cX6_covered 1 = .ok (.istore_n 1, 1) := by decide +kernel
theorem dX6_covered_2 : decode cX6_covered 2 = .ok (.iconst 0, 1) := by decide +kernel
theorem dX6_covered_3 : decode cX6_covered 3 = .ok (.istore_n 2, 1) := by decide +kernel
theorem dX6_covered_4 : decode cX6_covered 4 = .ok (.iconst 0, 1) := by decide +kernel
theorem dX6_covered_5 : decode cX6_covered 5 = .ok (.istore_n 3, 1) := by decide +kernel
theorem dX6_covered_6 : decode cX6_covered 6 = .ok (.iload_n 3, 1) := by decide +kernel
theorem dX6_covered_7 : decode cX6_covered 7 = .ok (.aload_n 0, 1) := by decide +kernel
theorem dX6_covered_8 : decode cX6_covered 8 = .ok (.getfield 19, 3) := by decide +kernel
theorem dX6_covered_11 : decode cX6_covered 11 = .ok (.getfield 143, 3) := by decide +kernel
theorem dX6_covered_14 : decode cX6_covered 14 = .ok (.if_icmp .ge 51, 3) := by decide +kernel
theorem dX6_covered_17 : decode cX6_covered 17 = .ok (.aload_n 0, 1) := by decide +kernel
theorem dX6_covered_18 : decode cX6_covered 18 = .ok (.getfield 10, 3) := by decide +kernel
theorem dX6_covered_21 : decode cX6_covered 21 = .ok (.aload_n 0, 1) := by decide +kernel
theorem dX6_covered_22 : decode cX6_covered 22 = .ok (.getfield 19, 3) := by decide +kernel
theorem dX6_covered_25 : decode cX6_covered 25 = .ok (.iload_n 3, 1) := by decide +kernel
theorem dX6_covered_26 : decode cX6_covered 26 = .ok (.invokevirtual 171, 3) := by decide +kernel
theorem dX6_covered_29 : decode cX6_covered 29 = .ok (.astore 4, 2) := by decide +kernel
theorem dX6_covered_31 : decode cX6_covered 31 = .ok (.aload 4, 2) := by decide +kernel
theorem dX6_covered_33 : decode cX6_covered 33 = .ok (.ifnull 18, 3) := by decide +kernel
theorem dX6_covered_36 : decode cX6_covered 36 = .ok (.iload_n 2, 1) := by decide +kernel
theorem dX6_covered_37 : decode cX6_covered 37 = .ok (.iload_n 3, 1) := by decide +kernel
theorem dX6_covered_38 : decode cX6_covered 38 = .ok (.aload 4, 2) := by decide +kernel
theorem dX6_covered_40 : decode cX6_covered 40 = .ok (.getfield 102, 3) := by decide +kernel
theorem dX6_covered_43 : decode cX6_covered 43 = .ok (.getfield 54, 3) := by decide +kernel
theorem dX6_covered_46 : decode cX6_covered 46 = .ok (.iadd, 1) := by decide +kernel
theorem dX6_covered_47 : decode cX6_covered 47 = .ok (.invokestatic 174, 3) := by decide +kernel
theorem dX6_covered_50 : decode cX6_covered 50 = .ok (.istore_n 2, 1) := by decide +kernel
theorem dX6_covered_51 : decode cX6_covered 51 = .ok (.iload_n 3, 1) := by decide +kernel
theorem dX6_covered_52 : decode cX6_covered 52 = .ok (.iload_n 2, 1) := by decide +kernel
theorem dX6_covered_53 : decode cX6_covered 53 = .ok (.if_icmp .ge 6, 3) := by decide +kernel
theorem dX6_covered_56 : decode cX6_covered 56 = .ok (.iinc 1 1, 3) := by decide +kernel
theorem dX6_covered_59 : decode cX6_covered 59 = .ok (.iinc 3 1, 3) := by decide +kernel
theorem dX6_covered_62 : decode cX6_covered 62 = .ok (.goto (-56), 3) := by decide +kernel
theorem dX6_covered_65 : decode cX6_covered 65 = .ok (.iload_n 1, 1) := by decide +kernel
theorem dX6_covered_66 : decode cX6_covered 66 = .ok (.ireturn, 1) := by decide +kernel
theorem dX6_mostApart_0 : decode cX6_mostApart 0 = .ok (.aload_n 0, 1) := by decide +kernel
theorem dX6_mostApart_1 : decode cX6_mostApart 1 = .ok (.getfield 26, 3) := by decide +kernel
theorem dX6_mostApart_4 : decode cX6_mostApart 4 = .ok (.iconst 2, 1) := by decide +kernel
theorem dX6_mostApart_5 : decode cX6_mostApart 5 = .ok (.aload_n 0, 1) := by decide +kernel
theorem dX6_mostApart_6 : decode cX6_mostApart 6 = .ok (.getfield 10, 3) := by decide +kernel
theorem dX6_mostApart_9 : decode cX6_mostApart 9 = .ok (.aload_n 0, 1) := by decide +kernel
theorem dX6_mostApart_10 : decode cX6_mostApart 10 = .ok (.getfield 19, 3) := by decide +kernel
theorem dX6_mostApart_13 : decode cX6_mostApart 13 = .ok (.invokevirtual 177, 3) := by decide +kernel
theorem dX6_mostApart_16 : decode cX6_mostApart 16 = .ok (.aload_n 0, 1) := by decide +kernel
theorem dX6_mostApart_17 : decode cX6_mostApart 17 = .ok (.getfield 26, 3) := by decide +kernel
theorem dX6_mostApart_20 : decode cX6_mostApart 20 = .ok (.getfield 181, 3) := by decide +kernel
theorem dX6_mostApart_23 : decode cX6_mostApart 23 = .ok (.ireturn, 1) := by decide +kernel
theorem dX6_chosen_0 : decode cX6_chosen 0 = .ok (.iload_n 1, 1) := by decide +kernel
theorem dX6_chosen_1 : decode cX6_chosen 1 = .ok (.invokestatic 183, 3) := by decide +kernel
theorem dX6_chosen_4 : decode cX6_chosen 4 = .ok (.aload_n 0, 1) := by decide +kernel
theorem dX6_chosen_5 : decode cX6_chosen 5 = .ok (.getfield 26, 3) := by decide +kernel
theorem dX6_chosen_8 : decode cX6_chosen 8 = .ok (.iload_n 1, 1) := by decide +kernel
theorem dX6_chosen_9 : decode cX6_chosen 9 = .ok (.aload_n 0, 1) := by decide +kernel
theorem dX6_chosen_10 : decode cX6_chosen 10 = .ok (.getfield 10, 3) := by decide +kernel
theorem dX6_chosen_13 : decode cX6_chosen 13 = .ok (.aload_n 0, 1) := by decide +kernel
theorem dX6_chosen_14 : decode cX6_chosen 14 = .ok (.getfield 19, 3) := by decide +kernel
theorem dX6_chosen_17 : decode cX6_chosen 17 = .ok (.invokevirtual 177, 3) := by decide +kernel
theorem dX6_chosen_20 : decode cX6_chosen 20 = .ok (.aload_n 0, 1) := by decide +kernel
theorem dX6_chosen_21 : decode cX6_chosen 21 = .ok (.getfield 26, 3) := by decide +kernel
theorem dX6_chosen_24 : decode cX6_chosen 24 = .ok (.getfield 181, 3) := by decide +kernel
theorem dX6_chosen_27 : decode cX6_chosen 27 = .ok (.ireturn, 1) := by decide +kernel
theorem dX6_chosenPattern_0 : decode cX6_chosenPattern 0 = .ok (.aload_n 0, 1) := by decide +kernel
theorem dX6_chosenPattern_1 : decode cX6_chosenPattern 1 = .ok (.iload_n 1, 1) := by decide +kernel
theorem dX6_chosenPattern_2 : decode cX6_chosenPattern 2 = .ok (.iload_n 2, 1) := by decide +kernel
theorem dX6_chosenPattern_3 : decode cX6_chosenPattern 3 = .ok (.invokevirtual 186, 3) := by decide +kernel
theorem dX6_chosenPattern_6 : decode cX6_chosenPattern 6 = .ok (.getfield 161, 3) := by decide +kernel
theorem dX6_chosenPattern_9 : decode cX6_chosenPattern 9 = .ok (.ireturn, 1) := by decide +kernel
theorem dX6_chosenPlace_0 : decode cX6_chosenPlace 0 = .ok (.aload_n 0, 1) := by decide +kernel
theorem dX6_chosenPlace_1 : decode cX6_chosenPlace 1 = .ok (.iload_n 1, 1) := by decide +kernel
theorem dX6_chosenPlace_2 : decode cX6_chosenPlace 2 = .ok (.iload_n 2, 1) := by decide +kernel
theorem dX6_chosenPlace_3 : decode cX6_chosenPlace 3 = .ok (.invokevirtual 186, 3) := by decide +kernel
theorem dX6_chosenPlace_6 : decode cX6_chosenPlace 6 = .ok (.pop, 1) := by decide +kernel
theorem dX6_chosenPlace_7 : decode cX6_chosenPlace 7 = .ok (.aload_n 0, 1) := by decide +kernel
theorem dX6_chosenPlace_8 : decode cX6_chosenPlace 8 = .ok (.getfield 26, 3) := by decide +kernel
theorem dX6_chosenPlace_11 : decode cX6_chosenPlace 11 = .ok (.iload_n 2, 1) := by decide +kernel
theorem dX6_chosenPlace_12 : decode cX6_chosenPlace 12 = .ok (.invokevirtual 190, 3) := by decide +kernel
theorem dX6_chosenPlace_15 : decode cX6_chosenPlace 15 = .ok (.ireturn, 1) := by decide +kernel
theorem dX6_replacedLength_0 : decode cX6_replacedLength 0 = .ok (.iload_n 1, 1) := by decide +kernel
theorem dX6_replacedLength_1 : decode cX6_replacedLength 1 = .ok (.invokestatic 183, 3) := by decide +kernel
theorem dX6_replacedLength_4 : decode cX6_replacedLength 4 = .ok (.aload_n 0, 1) := by decide +kernel
theorem dX6_replacedLength_5 : decode cX6_replacedLength 5 = .ok (.iload_n 1, 1) := by decide +kernel
theorem dX6_replacedLength_6 : decode cX6_replacedLength 6 = .ok (.invokevirtual 194, 3) := by decide +kernel
theorem dX6_replacedLength_9 : decode cX6_replacedLength 9 = .ok (.aload_n 0, 1) := by decide +kernel
theorem dX6_replacedLength_10 : decode cX6_replacedLength 10 = .ok (.getfield 33, 3) := by decide +kernel
theorem dX6_replacedLength_13 : decode cX6_replacedLength 13 = .ok (.getfield 197, 3) := by decide +kernel
theorem dX6_replacedLength_16 : decode cX6_replacedLength 16 = .ok (.ireturn, 1) := by decide +kernel
theorem dX6_replaced_0 : decode cX6_replaced 0 = .ok (.iload_n 1, 1) := by decide +kernel
theorem dX6_replaced_1 : decode cX6_replaced 1 = .ok (.invokestatic 183, 3) := by decide +kernel
theorem dX6_replaced_4 : decode cX6_replaced 4 = .ok (.aload_n 0, 1) := by decide +kernel
theorem dX6_replaced_5 : decode cX6_replaced 5 = .ok (.iload_n 1, 1) := by decide +kernel
theorem dX6_replaced_6 : decode cX6_replaced 6 = .ok (.invokevirtual 194, 3) := by decide +kernel
theorem dX6_replaced_9 : decode cX6_replaced 9 = .ok (.iload_n 2, 1) := by decide +kernel
theorem dX6_replaced_10 : decode cX6_replaced 10 = .ok (.ifCond .lt 14, 3) := by decide +kernel
theorem dX6_replaced_13 : decode cX6_replaced 13 = .ok (.iload_n 2, 1) := by decide +kernel
theorem dX6_replaced_14 : decode cX6_replaced 14 = .ok (.aload_n 0, 1) := by decide +kernel
theorem dX6_replaced_15 : decode cX6_replaced 15 = .ok (.getfield 33, 3) := by decide +kernel
theorem dX6_replaced_18 : decode cX6_replaced 18 = .ok (.getfield 197, 3) := by decide +kernel
theorem dX6_replaced_21 : decode cX6_replaced 21 = .ok (.if_icmp .lt 13, 3) := by decide +kernel
theorem dX6_replaced_24 : decode cX6_replaced 24 = .ok (.new 156, 3) := by decide +kernel
theorem dX6_replaced_27 : decode cX6_replaced 27 = .ok (.dup, 1) := by decide +kernel
theorem dX6_replaced_28 : decode cX6_replaced 28 = .ok (.ldc 198, 2) := by decide +kernel
theorem dX6_replaced_30 : decode cX6_replaced 30 = .ok (.invokespecial 160, 3) := by decide +kernel
theorem dX6_replaced_33 : decode cX6_replaced 33 = .ok (.athrow, 1) := by decide +kernel
theorem dX6_replaced_34 : decode cX6_replaced 34 = .ok (.aload_n 0, 1) := by decide +kernel
theorem dX6_replaced_35 : decode cX6_replaced 35 = .ok (.getfield 33, 3) := by decide +kernel
theorem dX6_replaced_38 : decode cX6_replaced 38 = .ok (.iload_n 2, 1) := by decide +kernel
theorem dX6_replaced_39 : decode cX6_replaced 39 = .ok (.invokevirtual 200, 3) := by decide +kernel
theorem dX6_replaced_42 : decode cX6_replaced 42 = .ok (.ireturn, 1) := by decide +kernel
theorem dX6_certain_0 : decode cX6_certain 0 = .ok (.iconst 0, 1) := by decide +kernel
theorem dX6_certain_1 : decode cX6_certain 1 = .ok (.istore_n 1, 1) := by decide +kernel
theorem dX6_certain_2 : decode cX6_certain 2 = .ok (.iconst 0, 1) := by decide +kernel
theorem dX6_certain_3 : decode cX6_certain 3 = .ok (.istore_n 2, 1) := by decide +kernel
theorem dX6_certain_4 : decode cX6_certain 4 = .ok (.iconst 0, 1) := by decide +kernel
theorem dX6_certain_5 : decode cX6_certain 5 = .ok (.istore_n 3, 1) := by decide +kernel
theorem dX6_certain_6 : decode cX6_certain 6 = .ok (.iload_n 3, 1) := by decide +kernel
theorem dX6_certain_7 : decode cX6_certain 7 = .ok (.aload_n 0, 1) := by decide +kernel
theorem dX6_certain_8 : decode cX6_certain 8 = .ok (.getfield 19, 3) := by decide +kernel
theorem dX6_certain_11 : decode cX6_certain 11 = .ok (.getfield 143, 3) := by decide +kernel
theorem dX6_certain_14 : decode cX6_certain 14 = .ok (.if_icmp .ge 71, 3) := by decide +kernel
theorem dX6_certain_17 : decode cX6_certain 17 = .ok (.iload_n 3, 1) := by decide +kernel
theorem dX6_certain_18 : decode cX6_certain 18 = .ok (.iload_n 2, 1) := by decide +kernel
theorem dX6_certain_19 : decode cX6_certain 19 = .ok (.if_icmp .lt 60, 3) := by decide +kernel
theorem dX6_certain_22 : decode cX6_certain 22 = .ok (.aload_n 0, 1) := by decide +kernel
theorem dX6_certain_23 : decode cX6_certain 23 = .ok (.iload_n 3, 1) := by decide +kernel
theorem dX6_certain_24 : decode cX6_certain 24 = .ok (.invokevirtual 201, 3) := by decide +kernel
theorem dX6_certain_27 : decode cX6_certain 27 = .ok (.ifCond .eq 5, 3) := by decide +kernel
theorem dX6_certain_30 : decode cX6_certain 30 = .ok (.iload_n 1, 1) := by decide +kernel
theorem dX6_certain_31 : decode cX6_certain 31 = .ok (.ireturn, 1) := by decide +kernel
theorem dX6_certain_32 : decode cX6_certain 32 = .ok (.aload_n 0, 1) := by decide +kernel
theorem dX6_certain_33 : decode cX6_certain 33 = .ok (.getfield 10, 3) := by decide +kernel
theorem dX6_certain_36 : decode cX6_certain 36 = .ok (.aload_n 0, 1) := by decide +kernel
theorem dX6_certain_37 : decode cX6_certain 37 = .ok (.getfield 19, 3) := by decide +kernel
theorem dX6_certain_40 : decode cX6_certain 40 = .ok (.iload_n 3, 1) := by decide +kernel
theorem dX6_certain_41 : decode cX6_certain 41 = .ok (.invokevirtual 171, 3) := by decide +kernel
theorem dX6_certain_44 : decode cX6_certain 44 = .ok (.astore 4, 2) := by decide +kernel
theorem dX6_certain_46 : decode cX6_certain 46 = .ok (.aload 4, 2) := by decide +kernel
theorem dX6_certain_48 : decode cX6_certain 48 = .ok (.ifnonnull 9, 3) := by decide +kernel
theorem dX6_certain_51 : decode cX6_certain 51 = .ok (.iinc 1 1, 3) := by decide +kernel
theorem dX6_certain_54 : decode cX6_certain 54 = .ok (.goto 25, 3) := by decide +kernel
theorem dX6_certain_57 : decode cX6_certain 57 = .ok (.iload_n 1, 1) := by decide +kernel
theorem dX6_certain_58 : decode cX6_certain 58 = .ok (.aload 4, 2) := by decide +kernel
theorem dX6_certain_60 : decode cX6_certain 60 = .ok (.getfield 90, 3) := by decide +kernel
theorem dX6_certain_63 : decode cX6_certain 63 = .ok (.getfield 54, 3) := by decide +kernel
theorem dX6_certain_66 : decode cX6_certain 66 = .ok (.iadd, 1) := by decide +kernel
theorem dX6_certain_67 : decode cX6_certain 67 = .ok (.istore_n 1, 1) := by decide +kernel
theorem dX6_certain_68 : decode cX6_certain 68 = .ok (.iload_n 3, 1) := by decide +kernel
theorem dX6_certain_69 : decode cX6_certain 69 = .ok (.aload 4, 2) := by decide +kernel
theorem dX6_certain_71 : decode cX6_certain 71 = .ok (.getfield 102, 3) := by decide +kernel
theorem dX6_certain_74 : decode cX6_certain 74 = .ok (.getfield 54, 3) := by decide +kernel
theorem dX6_certain_77 : decode cX6_certain 77 = .ok (.iadd, 1) := by decide +kernel
theorem dX6_certain_78 : decode cX6_certain 78 = .ok (.istore_n 2, 1) := by decide +kernel
theorem dX6_certain_79 : decode cX6_certain 79 = .ok (.iinc 3 1, 3) := by decide +kernel
theorem dX6_certain_82 : decode cX6_certain 82 = .ok (.goto (-76), 3) := by decide +kernel
theorem dX6_certain_85 : decode cX6_certain 85 = .ok (.iload_n 1, 1) := by decide +kernel
theorem dX6_certain_86 : decode cX6_certain 86 = .ok (.ireturn, 1) := by decide +kernel
theorem dX6_needLetter_0 : decode cX6_needLetter 0 = .ok (.iload_n 0, 1) := by decide +kernel
theorem dX6_needLetter_1 : decode cX6_needLetter 1 = .ok (.bipush 97, 2) := by decide +kernel
theorem dX6_needLetter_3 : decode cX6_needLetter 3 = .ok (.if_icmp .lt 9, 3) := by decide +kernel
theorem dX6_needLetter_6 : decode cX6_needLetter 6 = .ok (.iload_n 0, 1) := by decide +kernel
theorem dX6_needLetter_7 : decode cX6_needLetter 7 = .ok (.bipush 122, 2) := by decide +kernel
theorem dX6_needLetter_9 : decode cX6_needLetter 9 = .ok (.if_icmp .le 13, 3) := by decide +kernel
theorem dX6_needLetter_12 : decode cX6_needLetter 12 = .ok (.new 205, 3) := by decide +kernel
theorem dX6_needLetter_15 : decode cX6_needLetter 15 = .ok (.dup, 1) := by decide +kernel
theorem dX6_needLetter_16 : decode cX6_needLetter 16 = .ok (.ldc 207, 2) := by decide +kernel
theorem dX6_needLetter_18 : decode cX6_needLetter 18 = .ok (.invokespecial 209, 3) := by decide +kernel
theorem dX6_needLetter_21 : decode cX6_needLetter 21 = .ok (.athrow, 1) := by decide +kernel
theorem dX6_needLetter_22 : decode cX6_needLetter 22 = .ok (.return_, 1) := by decide +kernel
theorem dX6_needRule_0 : decode cX6_needRule 0 = .ok (.iload_n 0, 1) := by decide +kernel
theorem dX6_needRule_1 : decode cX6_needRule 1 = .ok (.ifCond .lt 8, 3) := by decide +kernel
theorem dX6_needRule_4 : decode cX6_needRule 4 = .ok (.iload_n 0, 1) := by decide +kernel
theorem dX6_needRule_5 : decode cX6_needRule 5 = .ok (.iconst 2, 1) := by decide +kernel
theorem dX6_needRule_6 : decode cX6_needRule 6 = .ok (.if_icmp .le 13, 3) := by decide +kernel
theorem dX6_needRule_9 : decode cX6_needRule 9 = .ok (.new 205, 3) := by decide +kernel
theorem dX6_needRule_12 : decode cX6_needRule 12 = .ok (.dup, 1) := by decide +kernel
theorem dX6_needRule_13 : decode cX6_needRule 13 = .ok (.ldc 210, 2) := by decide +kernel
theorem dX6_needRule_15 : decode cX6_needRule 15 = .ok (.invokespecial 209, 3) := by decide +kernel
theorem dX6_needRule_18 : decode cX6_needRule 18 = .ok (.athrow, 1) := by decide +kernel
theorem dX6_needRule_19 : decode cX6_needRule 19 = .ok (.return_, 1) := by decide +kernel
theorem dX6_need_0 : decode cX6_need 0 = .ok (.aload_n 0, 1) := by decide +kernel
theorem dX6_need_1 : decode cX6_need 1 = .ok (.getfield 10, 3) := by decide +kernel
theorem dX6_need_4 : decode cX6_need 4 = .ok (.iload_n 1, 1) := by decide +kernel
theorem dX6_need_5 : decode cX6_need 5 = .ok (.invokevirtual 212, 3) := by decide +kernel
theorem dX6_need_8 : decode cX6_need 8 = .ok (.astore_n 2, 1) := by decide +kernel
theorem dX6_need_9 : decode cX6_need 9 = .ok (.aload_n 2, 1) := by decide +kernel
theorem dX6_need_10 : decode cX6_need 10 = .ok (.ifnonnull 13, 3) := by decide +kernel
theorem dX6_need_13 : decode cX6_need 13 = .ok (.new 215, 3) := by decide +kernel
theorem dX6_need_16 : decode cX6_need 16 = .ok (.dup, 1) := by decide +kernel
theorem dX6_need_17 : decode cX6_need 17 = .ok (.ldc 217, 2) := by decide +kernel
theorem dX6_need_19 : decode cX6_need 19 = .ok (.invokespecial 219, 3) := by decide +kernel
theorem dX6_need_22 : decode cX6_need 22 = .ok (.athrow, 1) := by decide +kernel
theorem dX6_need_23 : decode cX6_need 23 = .ok (.aload_n 2, 1) := by decide +kernel
theorem dX6_need_24 : decode cX6_need 24 = .ok (.areturn, 1) := by decide +kernel
theorem dX6_needRoom_0 : decode cX6_needRoom 0 = .ok (.aload_n 0, 1) := by decide +kernel
theorem dX6_needRoom_1 : decode cX6_needRoom 1 = .ok (.getfield 19, 3) := by decide +kernel
theorem dX6_needRoom_4 : decode cX6_needRoom 4 = .ok (.getfield 143, 3) := by decide +kernel
theorem dX6_needRoom_7 : decode cX6_needRoom 7 = .ok (.iload_n 1, 1) := by decide +kernel
theorem dX6_needRoom_8 : decode cX6_needRoom 8 = .ok (.iadd, 1) := by decide +kernel
theorem dX6_needRoom_9 : decode cX6_needRoom 9 = .ok (.sipush 200, 3) := by decide +kernel
theorem dX6_needRoom_12 : decode cX6_needRoom 12 = .ok (.if_icmp .le 13, 3) := by decide +kernel
theorem dX6_needRoom_15 : decode cX6_needRoom 15 = .ok (.new 57, 3) := by decide +kernel
theorem dX6_needRoom_18 : decode cX6_needRoom 18 = .ok (.dup, 1) := by decide +kernel
theorem dX6_needRoom_19 : decode cX6_needRoom 19 = .ok (.ldc 220, 2) := by decide +kernel
theorem dX6_needRoom_21 : decode cX6_needRoom 21 = .ok (.invokespecial 61, 3) := by decide +kernel
theorem dX6_needRoom_24 : decode cX6_needRoom 24 = .ok (.athrow, 1) := by decide +kernel
theorem dX6_needRoom_25 : decode cX6_needRoom 25 = .ok (.return_, 1) := by decide +kernel
theorem dX6_take_0 : decode cX6_take 0 = .ok (.aload_n 0, 1) := by decide +kernel
theorem dX6_take_1 : decode cX6_take 1 = .ok (.getfield 19, 3) := by decide +kernel
theorem dX6_take_4 : decode cX6_take 4 = .ok (.iload_n 1, 1) := by decide +kernel
theorem dX6_take_5 : decode cX6_take 5 = .ok (.invokevirtual 222, 3) := by decide +kernel
theorem dX6_take_8 : decode cX6_take 8 = .ok (.aload_n 0, 1) := by decide +kernel
theorem dX6_take_9 : decode cX6_take 9 = .ok (.getfield 10, 3) := by decide +kernel
theorem dX6_take_12 : decode cX6_take 12 = .ok (.aload_n 0, 1) := by decide +kernel
theorem dX6_take_13 : decode cX6_take 13 = .ok (.getfield 19, 3) := by decide +kernel
theorem dX6_take_16 : decode cX6_take 16 = .ok (.aload_n 0, 1) := by decide +kernel
theorem dX6_take_17 : decode cX6_take 17 = .ok (.getfield 19, 3) := by decide +kernel
theorem dX6_take_20 : decode cX6_take 20 = .ok (.getfield 143, 3) := by decide +kernel
theorem dX6_take_23 : decode cX6_take 23 = .ok (.invokevirtual 148, 3) := by decide +kernel
theorem dX6_take_26 : decode cX6_take 26 = .ok (.istore_n 2, 1) := by decide +kernel
theorem dX6_take_27 : decode cX6_take 27 = .ok (.aload_n 0, 1) := by decide +kernel
theorem dX6_take_28 : decode cX6_take 28 = .ok (.dup, 1) := by decide +kernel
theorem dX6_take_29 : decode cX6_take 29 = .ok (.getfield 46, 3) := by decide +kernel
theorem dX6_take_32 : decode cX6_take 32 = .ok (.iload_n 2, 1) := by decide +kernel
theorem dX6_take_33 : decode cX6_take 33 = .ok (.iadd, 1) := by decide +kernel
theorem dX6_take_34 : decode cX6_take 34 = .ok (.putfield 46, 3) := by decide +kernel
theorem dX6_take_37 : decode cX6_take 37 = .ok (.iload_n 2, 1) := by decide +kernel
theorem dX6_take_38 : decode cX6_take 38 = .ok (.ireturn, 1) := by decide +kernel
theorem dX6_chooseOne_0 : decode cX6_chooseOne 0 = .ok (.iload_n 1, 1) := by decide +kernel
theorem dX6_chooseOne_1 : decode cX6_chooseOne 1 = .ok (.invokestatic 183, 3) := by decide +kernel
theorem dX6_chooseOne_4 : decode cX6_chooseOne 4 = .ok (.aload_n 0, 1) := by decide +kernel
theorem dX6_chooseOne_5 : decode cX6_chooseOne 5 = .ok (.getfield 26, 3) := by decide +kernel
theorem dX6_chooseOne_8 : decode cX6_chooseOne 8 = .ok (.iload_n 1, 1) := by decide +kernel
theorem dX6_chooseOne_9 : decode cX6_chooseOne 9 = .ok (.aload_n 0, 1) := by decide +kernel
theorem dX6_chooseOne_10 : decode cX6_chooseOne 10 = .ok (.getfield 10, 3) := by decide +kernel
theorem dX6_chooseOne_13 : decode cX6_chooseOne 13 = .ok (.aload_n 0, 1) := by decide +kernel
theorem dX6_chooseOne_14 : decode cX6_chooseOne 14 = .ok (.getfield 19, 3) := by decide +kernel
theorem dX6_chooseOne_17 : decode cX6_chooseOne 17 = .ok (.invokevirtual 177, 3) := by decide +kernel
theorem dX6_chooseOne_20 : decode cX6_chooseOne 20 = .ok (.aload_n 0, 1) := by decide +kernel
theorem dX6_chooseOne_21 : decode cX6_chooseOne 21 = .ok (.getfield 26, 3) := by decide +kernel
theorem dX6_chooseOne_24 : decode cX6_chooseOne 24 = .ok (.iload_n 2, 1) := by decide +kernel
theorem dX6_chooseOne_25 : decode cX6_chooseOne 25 = .ok (.invokevirtual 224, 3) := by decide +kernel
theorem dX6_chooseOne_28 : decode cX6_chooseOne 28 = .ok (.astore_n 3, 1) := by decide +kernel
theorem dX6_chooseOne_29 : decode cX6_chooseOne 29 = .ok (.aload_n 3, 1) := by decide +kernel
theorem dX6_chooseOne_30 : decode cX6_chooseOne 30 = .ok (.ifnonnull 13, 3) := by decide +kernel
theorem dX6_chooseOne_33 : decode cX6_chooseOne 33 = .ok (.new 156, 3) := by decide +kernel
theorem dX6_chooseOne_36 : decode cX6_chooseOne 36 = .ok (.dup, 1) := by decide +kernel
theorem dX6_chooseOne_37 : decode cX6_chooseOne 37 = .ok (.ldc 158, 2) := by decide +kernel
theorem dX6_chooseOne_39 : decode cX6_chooseOne 39 = .ok (.invokespecial 160, 3) := by decide +kernel
theorem dX6_chooseOne_42 : decode cX6_chooseOne 42 = .ok (.athrow, 1) := by decide +kernel
theorem dX6_chooseOne_43 : decode cX6_chooseOne 43 = .ok (.aload_n 3, 1) := by decide +kernel
theorem dX6_chooseOne_44 : decode cX6_chooseOne 44 = .ok (.areturn, 1) := by decide +kernel
theorem dX6_rewrite_0 : decode cX6_rewrite 0 = .ok (.aload_n 0, 1) := by decide +kernel
theorem dX6_rewrite_1 : decode cX6_rewrite 1 = .ok (.getfield 26, 3) := by decide +kernel
theorem dX6_rewrite_4 : decode cX6_rewrite 4 = .ok (.iload_n 1, 1) := by decide +kernel
theorem dX6_rewrite_5 : decode cX6_rewrite 5 = .ok (.aload_n 0, 1) := by decide +kernel
theorem dX6_rewrite_6 : decode cX6_rewrite 6 = .ok (.getfield 10, 3) := by decide +kernel
theorem dX6_rewrite_9 : decode cX6_rewrite 9 = .ok (.aload_n 0, 1) := by decide +kernel
theorem dX6_rewrite_10 : decode cX6_rewrite 10 = .ok (.getfield 19, 3) := by decide +kernel
theorem dX6_rewrite_13 : decode cX6_rewrite 13 = .ok (.invokevirtual 177, 3) := by decide +kernel
theorem dX6_rewrite_16 : decode cX6_rewrite 16 = .ok (.aload_n 0, 1) := by decide +kernel
theorem dX6_rewrite_17 : decode cX6_rewrite 17 = .ok (.getfield 33, 3) := by decide +kernel
theorem dX6_rewrite_20 : decode cX6_rewrite 20 = .ok (.iconst 0, 1) := by decide +kernel
theorem dX6_rewrite_21 : decode cX6_rewrite 21 = .ok (.putfield 197, 3) := by decide +kernel
theorem dX6_rewrite_24 : decode cX6_rewrite 24 = .ok (.iconst 0, 1) := by decide +kernel
theorem dX6_rewrite_25 : decode cX6_rewrite 25 = .ok (.istore_n 2, 1) := by decide +kernel
theorem dX6_rewrite_26 : decode cX6_rewrite 26 = .ok (.iconst 0, 1) := by decide +kernel
theorem dX6_rewrite_27 : decode cX6_rewrite 27 = .ok (.istore_n 3, 1) := by decide +kernel
theorem dX6_rewrite_28 : decode cX6_rewrite 28 = .ok (.iload_n 3, 1) := by decide +kernel
theorem dX6_rewrite_29 : decode cX6_rewrite 29 = .ok (.aload_n 0, 1) := by decide +kernel
theorem dX6_rewrite_30 : decode cX6_rewrite 30 = .ok (.getfield 26, 3) := by decide +kernel
theorem dX6_rewrite_33 : decode cX6_rewrite 33 = .ok (.getfield 181, 3) := by decide +kernel
theorem dX6_rewrite_36 : decode cX6_rewrite 36 = .ok (.if_icmp .ge 74, 3) := by decide +kernel
theorem dX6_rewrite_39 : decode cX6_rewrite 39 = .ok (.aload_n 0, 1) := by decide +kernel
theorem dX6_rewrite_40 : decode cX6_rewrite 40 = .ok (.getfield 26, 3) := by decide +kernel
theorem dX6_rewrite_43 : decode cX6_rewrite 43 = .ok (.iload_n 3, 1) := by decide +kernel
theorem dX6_rewrite_44 : decode cX6_rewrite 44 = .ok (.invokevirtual 224, 3) := by decide +kernel
theorem dX6_rewrite_47 : decode cX6_rewrite 47 = .ok (.astore 4, 2) := by decide +kernel
theorem dX6_rewrite_49 : decode cX6_rewrite 49 = .ok (.aload 4, 2) := by decide +kernel
theorem dX6_rewrite_51 : decode cX6_rewrite 51 = .ok (.ifnull 53, 3) := by decide +kernel
theorem dX6_rewrite_54 : decode cX6_rewrite 54 = .ok (.aload_n 0, 1) := by decide +kernel
theorem dX6_rewrite_55 : decode cX6_rewrite 55 = .ok (.getfield 33, 3) := by decide +kernel
theorem dX6_rewrite_58 : decode cX6_rewrite 58 = .ok (.aload_n 0, 1) := by decide +kernel
theorem dX6_rewrite_59 : decode cX6_rewrite 59 = .ok (.getfield 19, 3) := by decide +kernel
theorem dX6_rewrite_62 : decode cX6_rewrite 62 = .ok (.iload_n 2, 1) := by decide +kernel
theorem dX6_rewrite_63 : decode cX6_rewrite 63 = .ok (.aload_n 0, 1) := by decide +kernel
theorem dX6_rewrite_64 : decode cX6_rewrite 64 = .ok (.getfield 26, 3) := by decide +kernel
theorem dX6_rewrite_67 : decode cX6_rewrite 67 = .ok (.iload_n 3, 1) := by decide +kernel
theorem dX6_rewrite_68 : decode cX6_rewrite 68 = .ok (.invokevirtual 190, 3) := by decide +kernel
theorem dX6_rewrite_71 : decode cX6_rewrite 71 = .ok (.invokevirtual 227, 3) := by decide +kernel
theorem dX6_rewrite_74 : decode cX6_rewrite 74 = .ok (.aload_n 0, 1) := by decide +kernel
theorem dX6_rewrite_75 : decode cX6_rewrite 75 = .ok (.getfield 33, 3) := by decide +kernel
theorem dX6_rewrite_78 : decode cX6_rewrite 78 = .ok (.aload 4, 2) := by decide +kernel
theorem dX6_rewrite_80 : decode cX6_rewrite 80 = .ok (.getfield 90, 3) := by decide +kernel
theorem dX6_rewrite_83 : decode cX6_rewrite 83 = .ok (.invokevirtual 231, 3) := by decide +kernel
theorem dX6_rewrite_86 : decode cX6_rewrite 86 = .ok (.aload_n 0, 1) := by decide +kernel
theorem dX6_rewrite_87 : decode cX6_rewrite 87 = .ok (.getfield 26, 3) := by decide +kernel
theorem dX6_rewrite_90 : decode cX6_rewrite 90 = .ok (.iload_n 3, 1) := by decide +kernel
theorem dX6_rewrite_91 : decode cX6_rewrite 91 = .ok (.invokevirtual 190, 3) := by decide +kernel
theorem dX6_rewrite_94 : decode cX6_rewrite 94 = .ok (.aload 4, 2) := by decide +kernel
theorem dX6_rewrite_96 : decode cX6_rewrite 96 = .ok (.getfield 102, 3) := by decide +kernel
theorem dX6_rewrite_99 : decode cX6_rewrite 99 = .ok (.getfield 54, 3) := by decide +kernel
theorem dX6_rewrite_102 : decode cX6_rewrite 102 = .ok (.iadd, 1) := by decide +kernel
theorem dX6_rewrite_103 : decode cX6_rewrite 103 = .ok (.istore_n 2, 1) := by decide +kernel
theorem dX6_rewrite_104 : decode cX6_rewrite 104 = .ok (.iinc 3 1, 3) := by decide +kernel
theorem dX6_rewrite_107 : decode cX6_rewrite 107 = .ok (.goto (-79), 3) := by decide +kernel
theorem dX6_rewrite_110 : decode cX6_rewrite 110 = .ok (.aload_n 0, 1) := by decide +kernel
theorem dX6_rewrite_111 : decode cX6_rewrite 111 = .ok (.getfield 33, 3) := by decide +kernel
theorem dX6_rewrite_114 : decode cX6_rewrite 114 = .ok (.aload_n 0, 1) := by decide +kernel
theorem dX6_rewrite_115 : decode cX6_rewrite 115 = .ok (.getfield 19, 3) := by decide +kernel
theorem dX6_rewrite_118 : decode cX6_rewrite 118 = .ok (.iload_n 2, 1) := by decide +kernel
theorem dX6_rewrite_119 : decode cX6_rewrite 119 = .ok (.aload_n 0, 1) := by decide +kernel
theorem dX6_rewrite_120 : decode cX6_rewrite 120 = .ok (.getfield 19, 3) := by decide +kernel
theorem dX6_rewrite_123 : decode cX6_rewrite 123 = .ok (.getfield 143, 3) := by decide +kernel
theorem dX6_rewrite_126 : decode cX6_rewrite 126 = .ok (.invokevirtual 227, 3) := by decide +kernel
theorem dX6_rewrite_129 : decode cX6_rewrite 129 = .ok (.return_, 1) := by decide +kernel
theorem dX6_mayGrowFrom_0 : decode cX6_mayGrowFrom 0 = .ok (.aload_n 0, 1) := by decide +kernel
theorem dX6_mayGrowFrom_1 : decode cX6_mayGrowFrom 1 = .ok (.getfield 19, 3) := by decide +kernel
theorem dX6_mayGrowFrom_4 : decode cX6_mayGrowFrom 4 = .ok (.getfield 143, 3) := by decide +kernel
theorem dX6_mayGrowFrom_7 : decode cX6_mayGrowFrom 7 = .ok (.iload_n 1, 1) := by decide +kernel
theorem dX6_mayGrowFrom_8 : decode cX6_mayGrowFrom 8 = .ok (.isub, 1) := by decide +kernel
theorem dX6_mayGrowFrom_9 : decode cX6_mayGrowFrom 9 = .ok (.istore_n 2, 1) := by decide +kernel
theorem dX6_mayGrowFrom_10 : decode cX6_mayGrowFrom 10 = .ok (.iload_n 2, 1) := by decide +kernel
theorem dX6_mayGrowFrom_11 : decode cX6_mayGrowFrom 11 = .ok (.ifCond .le 45, 3) := by decide +kernel
theorem dX6_mayGrowFrom_14 : decode cX6_mayGrowFrom 14 = .ok (.iload_n 2, 1) := by decide +kernel
theorem dX6_mayGrowFrom_15 : decode cX6_mayGrowFrom 15 = .ok (.bipush 8, 2) := by decide +kernel
theorem dX6_mayGrowFrom_17 : decode cX6_mayGrowFrom 17 = .ok (.if_icmp .ge 39, 3) := by decide +kernel
theorem dX6_mayGrowFrom_20 : decode cX6_mayGrowFrom 20 = .ok (.aload_n 0, 1) := by decide +kernel
theorem dX6_mayGrowFrom_21 : decode cX6_mayGrowFrom 21 = .ok (.getfield 10, 3) := by decide +kernel
theorem dX6_mayGrowFrom_24 : decode cX6_mayGrowFrom 24 = .ok (.aload_n 0, 1) := by decide +kernel
theorem dX6_mayGrowFrom_25 : decode cX6_mayGrowFrom 25 = .ok (.getfield 19, 3) := by decide +kernel
theorem dX6_mayGrowFrom_28 : decode cX6_mayGrowFrom 28 = .ok (.aload_n 0, 1) := by decide +kernel
theorem dX6_mayGrowFrom_29 : decode cX6_mayGrowFrom 29 = .ok (.getfield 19, 3) := by decide +kernel
theorem dX6_mayGrowFrom_32 : decode cX6_mayGrowFrom 32 = .ok (.getfield 143, 3) := by decide +kernel
theorem dX6_mayGrowFrom_35 : decode cX6_mayGrowFrom 35 = .ok (.invokevirtual 144, 3) := by decide +kernel
theorem dX6_mayGrowFrom_38 : decode cX6_mayGrowFrom 38 = .ok (.iload_n 2, 1) := by decide +kernel
theorem dX6_mayGrowFrom_39 : decode cX6_mayGrowFrom 39 = .ok (.invokestatic 123, 3) := by decide +kernel
theorem dX6_mayGrowFrom_42 : decode cX6_mayGrowFrom 42 = .ok (.iload_n 2, 1) := by decide +kernel
theorem dX6_mayGrowFrom_43 : decode cX6_mayGrowFrom 43 = .ok (.iload_n 2, 1) := by decide +kernel
theorem dX6_mayGrowFrom_44 : decode cX6_mayGrowFrom 44 = .ok (.iconst 1, 1) := by decide +kernel
theorem dX6_mayGrowFrom_45 : decode cX6_mayGrowFrom 45 = .ok (.iadd, 1) := by decide +kernel
theorem dX6_mayGrowFrom_46 : decode cX6_mayGrowFrom 46 = .ok (.invokevirtual 235, 3) := by decide +kernel
theorem dX6_mayGrowFrom_49 : decode cX6_mayGrowFrom 49 = .ok (.ifCond .eq 7, 3) := by decide +kernel
theorem dX6_mayGrowFrom_52 : decode cX6_mayGrowFrom 52 = .ok (.iconst 1, 1) := by decide +kernel
theorem dX6_mayGrowFrom_53 : decode cX6_mayGrowFrom 53 = .ok (.goto 4, 3) := by decide +kernel
theorem dX6_mayGrowFrom_56 : decode cX6_mayGrowFrom 56 = .ok (.iconst 0, 1) := by decide +kernel
theorem dX6_mayGrowFrom_57 : decode cX6_mayGrowFrom 57 = .ok (.ireturn, 1) := by decide +kernel
theorem dX6_tail_0 : decode cX6_tail 0 = .ok (.lload_n 0, 1) := by decide +kernel
theorem dX6_tail_1 : decode cX6_tail 1 = .ok (.lconst 1, 1) := by decide +kernel
theorem dX6_tail_2 : decode cX6_tail 2 = .ok (.iconst 5, 1) := by decide +kernel
theorem dX6_tail_3 : decode cX6_tail 3 = .ok (.iload_n 2, 1) := by decide +kernel
theorem dX6_tail_4 : decode cX6_tail 4 = .ok (.imul, 1) := by decide +kernel
theorem dX6_tail_5 : decode cX6_tail 5 = .ok (.lshl, 1) := by decide +kernel
theorem dX6_tail_6 : decode cX6_tail 6 = .ok (.lconst 1, 1) := by decide +kernel
theorem dX6_tail_7 : decode cX6_tail 7 = .ok (.lsub, 1) := by decide +kernel
theorem dX6_tail_8 : decode cX6_tail 8 = .ok (.land, 1) := by decide +kernel
theorem dX6_tail_9 : decode cX6_tail 9 = .ok (.lreturn, 1) := by decide +kernel
theorem dX6_codeOf_0 : decode cX6_codeOf 0 = .ok (.iload_n 0, 1) := by decide +kernel
theorem dX6_codeOf_1 : decode cX6_codeOf 1 = .ok (.bipush 97, 2) := by decide +kernel
theorem dX6_codeOf_3 : decode cX6_codeOf 3 = .ok (.isub, 1) := by decide +kernel
theorem dX6_codeOf_4 : decode cX6_codeOf 4 = .ok (.iconst 1, 1) := by decide +kernel
theorem dX6_codeOf_5 : decode cX6_codeOf 5 = .ok (.iadd, 1) := by decide +kernel
theorem dX6_codeOf_6 : decode cX6_codeOf 6 = .ok (.i2l, 1) := by decide +kernel
theorem dX6_codeOf_7 : decode cX6_codeOf 7 = .ok (.lreturn, 1) := by decide +kernel
theorem dX6_letterOf_0 : decode cX6_letterOf 0 = .ok (.ldc2_w 239, 3) := by decide +kernel
theorem dX6_letterOf_3 : decode cX6_letterOf 3 = .ok (.lload_n 0, 1) := by decide +kernel
theorem dX6_letterOf_4 : decode cX6_letterOf 4 = .ok (.ldc2_w 241, 3) := by decide +kernel
theorem dX6_letterOf_7 : decode cX6_letterOf 7 = .ok (.land, 1) := by decide +kernel
theorem dX6_letterOf_8 : decode cX6_letterOf 8 = .ok (.ladd, 1) := by decide +kernel
theorem dX6_letterOf_9 : decode cX6_letterOf 9 = .ok (.l2i, 1) := by decide +kernel
theorem dX6_letterOf_10 : decode cX6_letterOf 10 = .ok (.i2c, 1) := by decide +kernel
theorem dX6_letterOf_11 : decode cX6_letterOf 11 = .ok (.ireturn, 1) := by decide +kernel
theorem dJ9_max_7cf53_0 : decode cJ9_max_7cf53 0 = .ok (.iload_n 0, 1) := by decide +kernel
theorem dJ9_max_7cf53_1 : decode cJ9_max_7cf53 1 = .ok (.iload_n 1, 1) := by decide +kernel
theorem dJ9_max_7cf53_2 : decode cJ9_max_7cf53 2 = .ok (.if_icmp .lt 7, 3) := by decide +kernel
theorem dJ9_max_7cf53_5 : decode cJ9_max_7cf53 5 = .ok (.iload_n 0, 1) := by decide +kernel
theorem dJ9_max_7cf53_6 : decode cJ9_max_7cf53 6 = .ok (.goto 4, 3) := by decide +kernel
theorem dJ9_max_7cf53_9 : decode cJ9_max_7cf53 9 = .ok (.iload_n 1, 1) := by decide +kernel
theorem dJ9_max_7cf53_10 : decode cJ9_max_7cf53 10 = .ok (.ireturn, 1) := by decide +kernel
theorem dJ9_min_7cf53_0 : decode cJ9_min_7cf53 0 = .ok (.iload_n 0, 1) := by decide +kernel
theorem dJ9_min_7cf53_1 : decode cJ9_min_7cf53 1 = .ok (.iload_n 1, 1) := by decide +kernel
theorem dJ9_min_7cf53_2 : decode cJ9_min_7cf53 2 = .ok (.if_icmp .gt 7, 3) := by decide +kernel
theorem dJ9_min_7cf53_5 : decode cJ9_min_7cf53 5 = .ok (.iload_n 0, 1) := by decide +kernel
theorem dJ9_min_7cf53_6 : decode cJ9_min_7cf53 6 = .ok (.goto 4, 3) := by decide +kernel
theorem dJ9_min_7cf53_9 : decode cJ9_min_7cf53 9 = .ok (.iload_n 1, 1) := by decide +kernel
theorem dJ9_min_7cf53_10 : decode cJ9_min_7cf53 10 = .ok (.ireturn, 1) := by decide +kernel
theorem dL_draft_0 : decode cL_draft 0 = .ok (.aload_n 2, 1) := by decide +kernel
theorem dL_draft_1 : decode cL_draft 1 = .ok (.iconst 0, 1) := by decide +kernel
theorem dL_draft_2 : decode cL_draft 2 = .ok (.aload_n 0, 1) := by decide +kernel
theorem dL_draft_3 : decode cL_draft 3 = .ok (.iload_n 1, 1) := by decide +kernel
theorem dL_draft_4 : decode cL_draft 4 = .ok (.invokevirtual 7, 3) := by decide +kernel
theorem dL_draft_7 : decode cL_draft 7 = .ok (.i2l, 1) := by decide +kernel
theorem dL_draft_8 : decode cL_draft 8 = .ok (.lastore, 1) := by decide +kernel
theorem dL_draft_9 : decode cL_draft 9 = .ok (.goto 9, 3) := by decide +kernel
theorem dL_draft_12 : decode cL_draft 12 = .ok (.astore_n 3, 1) := by decide +kernel
theorem dL_draft_13 : decode cL_draft 13 = .ok (.iconst 1, 1) := by decide +kernel
theorem dL_draft_14 : decode cL_draft 14 = .ok (.ireturn, 1) := by decide +kernel
theorem dL_draft_15 : decode cL_draft 15 = .ok (.astore_n 3, 1) := by decide +kernel
theorem dL_draft_16 : decode cL_draft 16 = .ok (.iconst 2, 1) := by decide +kernel
theorem dL_draft_17 : decode cL_draft 17 = .ok (.ireturn, 1) := by decide +kernel
theorem dL_draft_18 : decode cL_draft 18 = .ok (.iconst 0, 1) := by decide +kernel
theorem dL_draft_19 : decode cL_draft 19 = .ok (.ireturn, 1) := by decide +kernel
theorem dL_enter_0 : decode cL_enter 0 = .ok (.aload_n 1, 1) := by decide +kernel
theorem dL_enter_1 : decode cL_enter 1 = .ok (.iconst 0, 1) := by decide +kernel
theorem dL_enter_2 : decode cL_enter 2 = .ok (.aload_n 0, 1) := by decide +kernel
theorem dL_enter_3 : decode cL_enter 3 = .ok (.invokevirtual 17, 3) := by decide +kernel
theorem dL_enter_6 : decode cL_enter 6 = .ok (.i2l, 1) := by decide +kernel
theorem dL_enter_7 : decode cL_enter 7 = .ok (.lastore, 1) := by decide +kernel
theorem dL_enter_8 : decode cL_enter 8 = .ok (.goto 6, 3) := by decide +kernel
theorem dL_enter_11 : decode cL_enter 11 = .ok (.astore_n 2, 1) := by decide +kernel
theorem dL_enter_12 : decode cL_enter 12 = .ok (.iconst 1, 1) := by decide +kernel
theorem dL_enter_13 : decode cL_enter 13 = .ok (.ireturn, 1) := by decide +kernel
theorem dL_enter_14 : decode cL_enter 14 = .ok (.iconst 0, 1) := by decide +kernel
theorem dL_enter_15 : decode cL_enter 15 = .ok (.ireturn, 1) := by decide +kernel
theorem dL_setReplacement_0 : decode cL_setReplacement 0 = .ok (.aload_n 2, 1) := by decide +kernel
theorem dL_setReplacement_1 : decode cL_setReplacement 1 = .ok (.iconst 0, 1) := by decide +kernel
theorem dL_setReplacement_2 : decode cL_setReplacement 2 = .ok (.aload_n 0, 1) := by decide +kernel
theorem dL_setReplacement_3 : decode cL_setReplacement 3 = .ok (.iload_n 1, 1) := by decide +kernel
theorem dL_setReplacement_4 : decode cL_setReplacement 4 = .ok (.invokevirtual 21, 3) := by decide +kernel
theorem dL_setReplacement_7 : decode cL_setReplacement 7 = .ok (.i2l, 1) := by decide +kernel
theorem dL_setReplacement_8 : decode cL_setReplacement 8 = .ok (.lastore, 1) := by decide +kernel
theorem dL_setReplacement_9 : decode cL_setReplacement 9 = .ok (.goto 6, 3) := by decide +kernel
theorem dL_setReplacement_12 : decode cL_setReplacement 12 = .ok (.astore_n 3, 1) := by decide +kernel
theorem dL_setReplacement_13 : decode cL_setReplacement 13 = .ok (.iconst 1, 1) := by decide +kernel
theorem dL_setReplacement_14 : decode cL_setReplacement 14 = .ok (.ireturn, 1) := by decide +kernel
theorem dL_setReplacement_15 : decode cL_setReplacement 15 = .ok (.iconst 0, 1) := by decide +kernel
theorem dL_setReplacement_16 : decode cL_setReplacement 16 = .ok (.ireturn, 1) := by decide +kernel
theorem dL_takeOut_0 : decode cL_takeOut 0 = .ok (.aload_n 2, 1) := by decide +kernel
theorem dL_takeOut_1 : decode cL_takeOut 1 = .ok (.iconst 0, 1) := by decide +kernel
theorem dL_takeOut_2 : decode cL_takeOut 2 = .ok (.aload_n 0, 1) := by decide +kernel
theorem dL_takeOut_3 : decode cL_takeOut 3 = .ok (.iload_n 1, 1) := by decide +kernel
theorem dL_takeOut_4 : decode cL_takeOut 4 = .ok (.invokevirtual 27, 3) := by decide +kernel
theorem dL_takeOut_7 : decode cL_takeOut 7 = .ok (.i2l, 1) := by decide +kernel
theorem dL_takeOut_8 : decode cL_takeOut 8 = .ok (.lastore, 1) := by decide +kernel
theorem dL_takeOut_9 : decode cL_takeOut 9 = .ok (.goto 6, 3) := by decide +kernel
theorem dL_takeOut_12 : decode cL_takeOut 12 = .ok (.astore_n 3, 1) := by decide +kernel
theorem dL_takeOut_13 : decode cL_takeOut 13 = .ok (.iconst 1, 1) := by decide +kernel
theorem dL_takeOut_14 : decode cL_takeOut 14 = .ok (.ireturn, 1) := by decide +kernel
theorem dL_takeOut_15 : decode cL_takeOut 15 = .ok (.iconst 0, 1) := by decide +kernel
theorem dL_takeOut_16 : decode cL_takeOut 16 = .ok (.ireturn, 1) := by decide +kernel
theorem dL_length_0 : decode cL_length 0 = .ok (.aload_n 2, 1) := by decide +kernel
theorem dL_length_1 : decode cL_length 1 = .ok (.iconst 0, 1) := by decide +kernel
theorem dL_length_2 : decode cL_length 2 = .ok (.aload_n 0, 1) := by decide +kernel
theorem dL_length_3 : decode cL_length 3 = .ok (.iload_n 1, 1) := by decide +kernel
theorem dL_length_4 : decode cL_length 4 = .ok (.invokevirtual 30, 3) := by decide +kernel
theorem dL_length_7 : decode cL_length 7 = .ok (.i2l, 1) := by decide +kernel
theorem dL_length_8 : decode cL_length 8 = .ok (.lastore, 1) := by decide +kernel
theorem dL_length_9 : decode cL_length 9 = .ok (.goto 6, 3) := by decide +kernel
theorem dL_length_12 : decode cL_length 12 = .ok (.astore_n 3, 1) := by decide +kernel
theorem dL_length_13 : decode cL_length 13 = .ok (.iconst 1, 1) := by decide +kernel
theorem dL_length_14 : decode cL_length 14 = .ok (.ireturn, 1) := by decide +kernel
theorem dL_length_15 : decode cL_length 15 = .ok (.iconst 0, 1) := by decide +kernel
theorem dL_length_16 : decode cL_length 16 = .ok (.ireturn, 1) := by decide +kernel
theorem dL_link_0 : decode cL_link 0 = .ok (.aload_n 2, 1) := by decide +kernel
theorem dL_link_1 : decode cL_link 1 = .ok (.iconst 0, 1) := by decide +kernel
theorem dL_link_2 : decode cL_link 2 = .ok (.aload_n 0, 1) := by decide +kernel
theorem dL_link_3 : decode cL_link 3 = .ok (.iload_n 1, 1) := by decide +kernel
theorem dL_link_4 : decode cL_link 4 = .ok (.invokevirtual 33, 3) := by decide +kernel
theorem dL_link_7 : decode cL_link 7 = .ok (.i2l, 1) := by decide +kernel
theorem dL_link_8 : decode cL_link 8 = .ok (.lastore, 1) := by decide +kernel
theorem dL_link_9 : decode cL_link 9 = .ok (.goto 6, 3) := by decide +kernel
theorem dL_link_12 : decode cL_link 12 = .ok (.astore_n 3, 1) := by decide +kernel
theorem dL_link_13 : decode cL_link 13 = .ok (.iconst 1, 1) := by decide +kernel
theorem dL_link_14 : decode cL_link 14 = .ok (.ireturn, 1) := by decide +kernel
theorem dL_link_15 : decode cL_link 15 = .ok (.iconst 0, 1) := by decide +kernel
theorem dL_link_16 : decode cL_link 16 = .ok (.ireturn, 1) := by decide +kernel
theorem dL_overlap_0 : decode cL_overlap 0 = .ok (.aload_n 3, 1) := by decide +kernel
theorem dL_overlap_1 : decode cL_overlap 1 = .ok (.iconst 0, 1) := by decide +kernel
theorem dL_overlap_2 : decode cL_overlap 2 = .ok (.aload_n 0, 1) := by decide +kernel
theorem dL_overlap_3 : decode cL_overlap 3 = .ok (.iload_n 1, 1) := by decide +kernel
theorem dL_overlap_4 : decode cL_overlap 4 = .ok (.iload_n 2, 1) := by decide +kernel
theorem dL_overlap_5 : decode cL_overlap 5 = .ok (.invokevirtual 36, 3) := by decide +kernel
theorem dL_overlap_8 : decode cL_overlap 8 = .ok (.i2l, 1) := by decide +kernel
theorem dL_overlap_9 : decode cL_overlap 9 = .ok (.lastore, 1) := by decide +kernel
theorem dL_overlap_10 : decode cL_overlap 10 = .ok (.goto 7, 3) := by decide +kernel
theorem dL_overlap_13 : decode cL_overlap 13 = .ok (.astore 4, 2) := by decide +kernel
theorem dL_overlap_15 : decode cL_overlap 15 = .ok (.iconst 1, 1) := by decide +kernel
theorem dL_overlap_16 : decode cL_overlap 16 = .ok (.ireturn, 1) := by decide +kernel
theorem dL_overlap_17 : decode cL_overlap 17 = .ok (.iconst 0, 1) := by decide +kernel
theorem dL_overlap_18 : decode cL_overlap 18 = .ok (.ireturn, 1) := by decide +kernel
theorem dL_feed_0 : decode cL_feed 0 = .ok (.aload_n 2, 1) := by decide +kernel
theorem dL_feed_1 : decode cL_feed 1 = .ok (.iconst 0, 1) := by decide +kernel
theorem dL_feed_2 : decode cL_feed 2 = .ok (.aload_n 0, 1) := by decide +kernel
theorem dL_feed_3 : decode cL_feed 3 = .ok (.iload_n 1, 1) := by decide +kernel
theorem dL_feed_4 : decode cL_feed 4 = .ok (.invokevirtual 40, 3) := by decide +kernel
theorem dL_feed_7 : decode cL_feed 7 = .ok (.i2l, 1) := by decide +kernel
theorem dL_feed_8 : decode cL_feed 8 = .ok (.lastore, 1) := by decide +kernel
theorem dL_feed_9 : decode cL_feed 9 = .ok (.goto 9, 3) := by decide +kernel
theorem dL_feed_12 : decode cL_feed 12 = .ok (.astore_n 3, 1) := by decide +kernel
theorem dL_feed_13 : decode cL_feed 13 = .ok (.iconst 1, 1) := by decide +kernel
theorem dL_feed_14 : decode cL_feed 14 = .ok (.ireturn, 1) := by decide +kernel
theorem dL_feed_15 : decode cL_feed 15 = .ok (.astore_n 3, 1) := by decide +kernel
theorem dL_feed_16 : decode cL_feed 16 = .ok (.iconst 2, 1) := by decide +kernel
theorem dL_feed_17 : decode cL_feed 17 = .ok (.ireturn, 1) := by decide +kernel
theorem dL_feed_18 : decode cL_feed 18 = .ok (.iconst 0, 1) := by decide +kernel
theorem dL_feed_19 : decode cL_feed 19 = .ok (.ireturn, 1) := by decide +kernel
theorem dL_feedPattern_0 : decode cL_feedPattern 0 = .ok (.aload_n 2, 1) := by decide +kernel
theorem dL_feedPattern_1 : decode cL_feedPattern 1 = .ok (.iconst 0, 1) := by decide +kernel
theorem dL_feedPattern_2 : decode cL_feedPattern 2 = .ok (.aload_n 0, 1) := by decide +kernel
theorem dL_feedPattern_3 : decode cL_feedPattern 3 = .ok (.iload_n 1, 1) := by decide +kernel
theorem dL_feedPattern_4 : decode cL_feedPattern 4 = .ok (.invokevirtual 43, 3) := by decide +kernel
theorem dL_feedPattern_7 : decode cL_feedPattern 7 = .ok (.i2l, 1) := by decide +kernel
theorem dL_feedPattern_8 : decode cL_feedPattern 8 = .ok (.lastore, 1) := by decide +kernel
theorem dL_feedPattern_9 : decode cL_feedPattern 9 = .ok (.goto 9, 3) := by decide +kernel
theorem dL_feedPattern_12 : decode cL_feedPattern 12 = .ok (.astore_n 3, 1) := by decide +kernel
theorem dL_feedPattern_13 : decode cL_feedPattern 13 = .ok (.iconst 1, 1) := by decide +kernel
theorem dL_feedPattern_14 : decode cL_feedPattern 14 = .ok (.ireturn, 1) := by decide +kernel
theorem dL_feedPattern_15 : decode cL_feedPattern 15 = .ok (.astore_n 3, 1) := by decide +kernel
theorem dL_feedPattern_16 : decode cL_feedPattern 16 = .ok (.iconst 2, 1) := by decide +kernel
theorem dL_feedPattern_17 : decode cL_feedPattern 17 = .ok (.ireturn, 1) := by decide +kernel
theorem dL_feedPattern_18 : decode cL_feedPattern 18 = .ok (.iconst 0, 1) := by decide +kernel
theorem dL_feedPattern_19 : decode cL_feedPattern 19 = .ok (.ireturn, 1) := by decide +kernel
theorem dL_endingPattern_0 : decode cL_endingPattern 0 = .ok (.aload_n 2, 1) := by decide +kernel
theorem dL_endingPattern_1 : decode cL_endingPattern 1 = .ok (.iconst 0, 1) := by decide +kernel
theorem dL_endingPattern_2 : decode cL_endingPattern 2 = .ok (.aload_n 0, 1) := by decide +kernel
theorem dL_endingPattern_3 : decode cL_endingPattern 3 = .ok (.iload_n 1, 1) := by decide +kernel
theorem dL_endingPattern_4 : decode cL_endingPattern 4 = .ok (.invokevirtual 46, 3) := by decide +kernel
theorem dL_endingPattern_7 : decode cL_endingPattern 7 = .ok (.i2l, 1) := by decide +kernel
theorem dL_endingPattern_8 : decode cL_endingPattern 8 = .ok (.lastore, 1) := by decide +kernel
theorem dL_endingPattern_9 : decode cL_endingPattern 9 = .ok (.goto 6, 3) := by decide +kernel
theorem dL_endingPattern_12 : decode cL_endingPattern 12 = .ok (.astore_n 3, 1) := by decide +kernel
theorem dL_endingPattern_13 : decode cL_endingPattern 13 = .ok (.iconst 1, 1) := by decide +kernel
theorem dL_endingPattern_14 : decode cL_endingPattern 14 = .ok (.ireturn, 1) := by decide +kernel
theorem dL_endingPattern_15 : decode cL_endingPattern 15 = .ok (.iconst 0, 1) := by decide +kernel
theorem dL_endingPattern_16 : decode cL_endingPattern 16 = .ok (.ireturn, 1) := by decide +kernel
theorem dL_occurrencesOf_0 : decode cL_occurrencesOf 0 = .ok (.aload_n 2, 1) := by decide +kernel
theorem dL_occurrencesOf_1 : decode cL_occurrencesOf 1 = .ok (.iconst 0, 1) := by decide +kernel
theorem dL_occurrencesOf_2 : decode cL_occurrencesOf 2 = .ok (.aload_n 0, 1) := by decide +kernel
theorem dL_occurrencesOf_3 : decode cL_occurrencesOf 3 = .ok (.iload_n 1, 1) := by decide +kernel
theorem dL_occurrencesOf_4 : decode cL_occurrencesOf 4 = .ok (.invokevirtual 51, 3) := by decide +kernel
theorem dL_occurrencesOf_7 : decode cL_occurrencesOf 7 = .ok (.i2l, 1) := by decide +kernel
theorem dL_occurrencesOf_8 : decode cL_occurrencesOf 8 = .ok (.lastore, 1) := by decide +kernel
theorem dL_occurrencesOf_9 : decode cL_occurrencesOf 9 = .ok (.goto 6, 3) := by decide +kernel
theorem dL_occurrencesOf_12 : decode cL_occurrencesOf 12 = .ok (.astore_n 3, 1) := by decide +kernel
theorem dL_occurrencesOf_13 : decode cL_occurrencesOf 13 = .ok (.iconst 1, 1) := by decide +kernel
theorem dL_occurrencesOf_14 : decode cL_occurrencesOf 14 = .ok (.ireturn, 1) := by decide +kernel
theorem dL_occurrencesOf_15 : decode cL_occurrencesOf 15 = .ok (.iconst 0, 1) := by decide +kernel
theorem dL_occurrencesOf_16 : decode cL_occurrencesOf 16 = .ok (.ireturn, 1) := by decide +kernel
theorem dL_occurrence_0 : decode cL_occurrence 0 = .ok (.aload_n 3, 1) := by decide +kernel
theorem dL_occurrence_1 : decode cL_occurrence 1 = .ok (.iconst 0, 1) := by decide +kernel
theorem dL_occurrence_2 : decode cL_occurrence 2 = .ok (.aload_n 0, 1) := by decide +kernel
theorem dL_occurrence_3 : decode cL_occurrence 3 = .ok (.iload_n 1, 1) := by decide +kernel
theorem dL_occurrence_4 : decode cL_occurrence 4 = .ok (.iload_n 2, 1) := by decide +kernel
theorem dL_occurrence_5 : decode cL_occurrence 5 = .ok (.invokevirtual 54, 3) := by decide +kernel
theorem dL_occurrence_8 : decode cL_occurrence 8 = .ok (.i2l, 1) := by decide +kernel
theorem dL_occurrence_9 : decode cL_occurrence 9 = .ok (.lastore, 1) := by decide +kernel
theorem dL_occurrence_10 : decode cL_occurrence 10 = .ok (.goto 11, 3) := by decide +kernel
theorem dL_occurrence_13 : decode cL_occurrence 13 = .ok (.astore 4, 2) := by decide +kernel
theorem dL_occurrence_15 : decode cL_occurrence 15 = .ok (.iconst 1, 1) := by decide +kernel
theorem dL_occurrence_16 : decode cL_occurrence 16 = .ok (.ireturn, 1) := by decide +kernel
theorem dL_occurrence_17 : decode cL_occurrence 17 = .ok (.astore 4, 2) := by decide +kernel
theorem dL_occurrence_19 : decode cL_occurrence 19 = .ok (.iconst 2, 1) := by decide +kernel
theorem dL_occurrence_20 : decode cL_occurrence 20 = .ok (.ireturn, 1) := by decide +kernel
theorem dL_occurrence_21 : decode cL_occurrence 21 = .ok (.iconst 0, 1) := by decide +kernel
theorem dL_occurrence_22 : decode cL_occurrence 22 = .ok (.ireturn, 1) := by decide +kernel
theorem dL_chosen_0 : decode cL_chosen 0 = .ok (.aload_n 2, 1) := by decide +kernel
theorem dL_chosen_1 : decode cL_chosen 1 = .ok (.iconst 0, 1) := by decide +kernel
theorem dL_chosen_2 : decode cL_chosen 2 = .ok (.aload_n 0, 1) := by decide +kernel
theorem dL_chosen_3 : decode cL_chosen 3 = .ok (.iload_n 1, 1) := by decide +kernel
theorem dL_chosen_4 : decode cL_chosen 4 = .ok (.invokevirtual 57, 3) := by decide +kernel
theorem dL_chosen_7 : decode cL_chosen 7 = .ok (.i2l, 1) := by decide +kernel
theorem dL_chosen_8 : decode cL_chosen 8 = .ok (.lastore, 1) := by decide +kernel
theorem dL_chosen_9 : decode cL_chosen 9 = .ok (.goto 6, 3) := by decide +kernel
theorem dL_chosen_12 : decode cL_chosen 12 = .ok (.astore_n 3, 1) := by decide +kernel
theorem dL_chosen_13 : decode cL_chosen 13 = .ok (.iconst 1, 1) := by decide +kernel
theorem dL_chosen_14 : decode cL_chosen 14 = .ok (.ireturn, 1) := by decide +kernel
theorem dL_chosen_15 : decode cL_chosen 15 = .ok (.iconst 0, 1) := by decide +kernel
theorem dL_chosen_16 : decode cL_chosen 16 = .ok (.ireturn, 1) := by decide +kernel
theorem dL_chosenPattern_0 : decode cL_chosenPattern 0 = .ok (.aload_n 3, 1) := by decide +kernel
theorem dL_chosenPattern_1 : decode cL_chosenPattern 1 = .ok (.iconst 0, 1) := by decide +kernel
theorem dL_chosenPattern_2 : decode cL_chosenPattern 2 = .ok (.aload_n 0, 1) := by decide +kernel
theorem dL_chosenPattern_3 : decode cL_chosenPattern 3 = .ok (.iload_n 1, 1) := by decide +kernel
theorem dL_chosenPattern_4 : decode cL_chosenPattern 4 = .ok (.iload_n 2, 1) := by decide +kernel
theorem dL_chosenPattern_5 : decode cL_chosenPattern 5 = .ok (.invokevirtual 60, 3) := by decide +kernel
theorem dL_chosenPattern_8 : decode cL_chosenPattern 8 = .ok (.i2l, 1) := by decide +kernel
theorem dL_chosenPattern_9 : decode cL_chosenPattern 9 = .ok (.lastore, 1) := by decide +kernel
theorem dL_chosenPattern_10 : decode cL_chosenPattern 10 = .ok (.goto 11, 3) := by decide +kernel
theorem dL_chosenPattern_13 : decode cL_chosenPattern 13 = .ok (.astore 4, 2) := by decide +kernel
theorem dL_chosenPattern_15 : decode cL_chosenPattern 15 = .ok (.iconst 1, 1) := by decide +kernel
theorem dL_chosenPattern_16 : decode cL_chosenPattern 16 = .ok (.ireturn, 1) := by decide +kernel
theorem dL_chosenPattern_17 : decode cL_chosenPattern 17 = .ok (.astore 4, 2) := by decide +kernel
theorem dL_chosenPattern_19 : decode cL_chosenPattern 19 = .ok (.iconst 2, 1) := by decide +kernel
theorem dL_chosenPattern_20 : decode cL_chosenPattern 20 = .ok (.ireturn, 1) := by decide +kernel
theorem dL_chosenPattern_21 : decode cL_chosenPattern 21 = .ok (.iconst 0, 1) := by decide +kernel
theorem dL_chosenPattern_22 : decode cL_chosenPattern 22 = .ok (.ireturn, 1) := by decide +kernel
theorem dL_chosenPlace_0 : decode cL_chosenPlace 0 = .ok (.aload_n 3, 1) := by decide +kernel
theorem dL_chosenPlace_1 : decode cL_chosenPlace 1 = .ok (.iconst 0, 1) := by decide +kernel
theorem dL_chosenPlace_2 : decode cL_chosenPlace 2 = .ok (.aload_n 0, 1) := by decide +kernel
theorem dL_chosenPlace_3 : decode cL_chosenPlace 3 = .ok (.iload_n 1, 1) := by decide +kernel
theorem dL_chosenPlace_4 : decode cL_chosenPlace 4 = .ok (.iload_n 2, 1) := by decide +kernel
theorem dL_chosenPlace_5 : decode cL_chosenPlace 5 = .ok (.invokevirtual 63, 3) := by decide +kernel
theorem dL_chosenPlace_8 : decode cL_chosenPlace 8 = .ok (.i2l, 1) := by decide +kernel
theorem dL_chosenPlace_9 : decode cL_chosenPlace 9 = .ok (.lastore, 1) := by decide +kernel
theorem dL_chosenPlace_10 : decode cL_chosenPlace 10 = .ok (.goto 11, 3) := by decide +kernel
theorem dL_chosenPlace_13 : decode cL_chosenPlace 13 = .ok (.astore 4, 2) := by decide +kernel
theorem dL_chosenPlace_15 : decode cL_chosenPlace 15 = .ok (.iconst 1, 1) := by decide +kernel
theorem dL_chosenPlace_16 : decode cL_chosenPlace 16 = .ok (.ireturn, 1) := by decide +kernel
theorem dL_chosenPlace_17 : decode cL_chosenPlace 17 = .ok (.astore 4, 2) := by decide +kernel
theorem dL_chosenPlace_19 : decode cL_chosenPlace 19 = .ok (.iconst 2, 1) := by decide +kernel
theorem dL_chosenPlace_20 : decode cL_chosenPlace 20 = .ok (.ireturn, 1) := by decide +kernel
theorem dL_chosenPlace_21 : decode cL_chosenPlace 21 = .ok (.iconst 0, 1) := by decide +kernel
theorem dL_chosenPlace_22 : decode cL_chosenPlace 22 = .ok (.ireturn, 1) := by decide +kernel
theorem dL_replacedLength_0 : decode cL_replacedLength 0 = .ok (.aload_n 2, 1) := by decide +kernel
theorem dL_replacedLength_1 : decode cL_replacedLength 1 = .ok (.iconst 0, 1) := by decide +kernel
theorem dL_replacedLength_2 : decode cL_replacedLength 2 = .ok (.aload_n 0, 1) := by decide +kernel
theorem dL_replacedLength_3 : decode cL_replacedLength 3 = .ok (.iload_n 1, 1) := by decide +kernel
theorem dL_replacedLength_4 : decode cL_replacedLength 4 = .ok (.invokevirtual 66, 3) := by decide +kernel
theorem dL_replacedLength_7 : decode cL_replacedLength 7 = .ok (.i2l, 1) := by decide +kernel
theorem dL_replacedLength_8 : decode cL_replacedLength 8 = .ok (.lastore, 1) := by decide +kernel
theorem dL_replacedLength_9 : decode cL_replacedLength 9 = .ok (.goto 6, 3) := by decide +kernel
theorem dL_replacedLength_12 : decode cL_replacedLength 12 = .ok (.astore_n 3, 1) := by decide +kernel
theorem dL_replacedLength_13 : decode cL_replacedLength 13 = .ok (.iconst 1, 1) := by decide +kernel
theorem dL_replacedLength_14 : decode cL_replacedLength 14 = .ok (.ireturn, 1) := by decide +kernel
theorem dL_replacedLength_15 : decode cL_replacedLength 15 = .ok (.iconst 0, 1) := by decide +kernel
theorem dL_replacedLength_16 : decode cL_replacedLength 16 = .ok (.ireturn, 1) := by decide +kernel
theorem dL_replaced_0 : decode cL_replaced 0 = .ok (.aload_n 3, 1) := by decide +kernel
theorem dL_replaced_1 : decode cL_replaced 1 = .ok (.iconst 0, 1) := by decide +kernel
theorem dL_replaced_2 : decode cL_replaced 2 = .ok (.aload_n 0, 1) := by decide +kernel
theorem dL_replaced_3 : decode cL_replaced 3 = .ok (.iload_n 1, 1) := by decide +kernel
theorem dL_replaced_4 : decode cL_replaced 4 = .ok (.iload_n 2, 1) := by decide +kernel
theorem dL_replaced_5 : decode cL_replaced 5 = .ok (.invokevirtual 69, 3) := by decide +kernel
theorem dL_replaced_8 : decode cL_replaced 8 = .ok (.i2l, 1) := by decide +kernel
theorem dL_replaced_9 : decode cL_replaced 9 = .ok (.lastore, 1) := by decide +kernel
theorem dL_replaced_10 : decode cL_replaced 10 = .ok (.goto 11, 3) := by decide +kernel
theorem dL_replaced_13 : decode cL_replaced 13 = .ok (.astore 4, 2) := by decide +kernel
theorem dL_replaced_15 : decode cL_replaced 15 = .ok (.iconst 1, 1) := by decide +kernel
theorem dL_replaced_16 : decode cL_replaced 16 = .ok (.ireturn, 1) := by decide +kernel
theorem dL_replaced_17 : decode cL_replaced 17 = .ok (.astore 4, 2) := by decide +kernel
theorem dL_replaced_19 : decode cL_replaced 19 = .ok (.iconst 2, 1) := by decide +kernel
theorem dL_replaced_20 : decode cL_replaced 20 = .ok (.ireturn, 1) := by decide +kernel
theorem dL_replaced_21 : decode cL_replaced 21 = .ok (.iconst 0, 1) := by decide +kernel
theorem dL_replaced_22 : decode cL_replaced 22 = .ok (.ireturn, 1) := by decide +kernel
end
section
theorem dX7_init_0 : decode cX7_init 0 = .ok (.aload_n 0, 1) := by decide +kernel
theorem dX7_init_1 : decode cX7_init 1 = .ok (.invokespecial 1, 3) := by decide +kernel
theorem dX7_init_4 : decode cX7_init 4 = .ok (.aload_n 0, 1) := by decide +kernel
theorem dX7_init_5 : decode cX7_init 5 = .ok (.bipush 8, 2) := by decide +kernel
theorem dX7_init_7 : decode cX7_init 7 = .ok (.newarray .int, 2) := by decide +kernel
theorem dX7_init_9 : decode cX7_init 9 = .ok (.putfield 7, 3) := by decide +kernel
theorem dX7_init_12 : decode cX7_init 12 = .ok (.aload_n 0, 1) := by decide +kernel
theorem dX7_init_13 : decode cX7_init 13 = .ok (.bipush 40, 2) := by decide +kernel
theorem dX7_init_15 : decode cX7_init 15 = .ok (.newarray .boolean, 2) := by decide +kernel
theorem dX7_init_17 : decode cX7_init 17 = .ok (.putfield 13, 3) := by decide +kernel
theorem dX7_init_20 : decode cX7_init 20 = .ok (.aload_n 0, 1) := by decide +kernel
theorem dX7_init_21 : decode cX7_init 21 = .ok (.bipush 40, 2) := by decide +kernel
theorem dX7_init_23 : decode cX7_init 23 = .ok (.newarray .int, 2) := by decide +kernel
theorem dX7_init_25 : decode cX7_init 25 = .ok (.putfield 17, 3) := by decide +kernel
theorem dX7_init_28 : decode cX7_init 28 = .ok (.aload_n 0, 1) := by decide +kernel
theorem dX7_init_29 : decode cX7_init 29 = .ok (.sipush 320, 3) := by decide +kernel
theorem dX7_init_32 : decode cX7_init 32 = .ok (.newarray .int, 2) := by decide +kernel
theorem dX7_init_34 : decode cX7_init 34 = .ok (.putfield 20, 3) := by decide +kernel
theorem dX7_init_37 : decode cX7_init 37 = .ok (.aload_n 0, 1) := by decide +kernel
theorem dX7_init_38 : decode cX7_init 38 = .ok (.bipush 40, 2) := by decide +kernel
theorem dX7_init_40 : decode cX7_init 40 = .ok (.newarray .int, 2) := by decide +kernel
theorem dX7_init_42 : decode cX7_init 42 = .ok (.putfield 23, 3) := by decide +kernel
theorem dX7_init_45 : decode cX7_init 45 = .ok (.aload_n 0, 1) := by decide +kernel
theorem dX7_init_46 : decode cX7_init 46 = .ok (.sipush 320, 3) := by decide +kernel
theorem dX7_init_49 : decode cX7_init 49 = .ok (.newarray .int, 2) := by decide +kernel
theorem dX7_init_51 : decode cX7_init 51 = .ok (.putfield 26, 3) := by decide +kernel
theorem dX7_init_54 : decode cX7_init 54 = .ok (.aload_n 0, 1) := by decide +kernel
theorem dX7_init_55 : decode cX7_init 55 = .ok (.sipush 200, 3) := by decide +kernel
theorem dX7_init_58 : decode cX7_init 58 = .ok (.newarray .int, 2) := by decide +kernel
theorem dX7_init_60 : decode cX7_init 60 = .ok (.putfield 29, 3) := by decide +kernel
theorem dX7_init_63 : decode cX7_init 63 = .ok (.return_, 1) := by decide +kernel
theorem dX7_thrown_0 : decode cX7_thrown 0 = .ok (.aload_n 0, 1) := by decide +kernel
theorem dX7_thrown_1 : decode cX7_thrown 1 = .ok (.getfield 32, 3) := by decide +kernel
theorem dX7_thrown_4 : decode cX7_thrown 4 = .ok (.ireturn, 1) := by decide +kernel
theorem dX7_holds_0 : decode cX7_holds 0 = .ok (.aload_n 0, 1) := by decide +kernel
theorem dX7_holds_1 : decode cX7_holds 1 = .ok (.iload_n 1, 1) := by decide +kernel
theorem dX7_holds_2 : decode cX7_holds 2 = .ok (.putfield 32, 3) := by decide +kernel
theorem dX7_holds_5 : decode cX7_holds 5 = .ok (.iload_n 1, 1) := by decide +kernel
theorem dX7_holds_6 : decode cX7_holds 6 = .ok (.ifCond .ne 7, 3) := by decide +kernel
theorem dX7_holds_9 : decode cX7_holds 9 = .ok (.iconst 1, 1) := by decide +kernel
theorem dX7_holds_10 : decode cX7_holds 10 = .ok (.goto 4, 3) := by decide +kernel
theorem dX7_holds_13 : decode cX7_holds 13 = .ok (.iconst 0, 1) := by decide +kernel
theorem dX7_holds_14 : decode cX7_holds 14 = .ok (.ireturn, 1) := by decide +kernel
theorem dX7_isLetter_0 : decode cX7_isLetter 0 = .ok (.iload_n 0, 1) := by decide +kernel
theorem dX7_isLetter_1 : decode cX7_isLetter 1 = .ok (.bipush 97, 2) := by decide +kernel
theorem dX7_isLetter_3 : decode cX7_isLetter 3 = .ok (.if_icmp .lt 13, 3) := by decide +kernel
theorem dX7_isLetter_6 : decode cX7_isLetter 6 = .ok (.iload_n 0, 1) := by decide +kernel
theorem dX7_isLetter_7 : decode cX7_isLetter 7 = .ok (.bipush 122, 2) := by decide +kernel
theorem dX7_isLetter_9 : decode cX7_isLetter 9 = .ok (.if_icmp .gt 7, 3) := by decide +kernel
theorem dX7_isLetter_12 : decode cX7_isLetter 12 = .ok (.iconst 1, 1) := by decide +kernel
theorem dX7_isLetter_13 : decode cX7_isLetter 13 = .ok (.goto 4, 3) := by decide +kernel
theorem dX7_isLetter_16 : decode cX7_isLetter 16 = .ok (.iconst 0, 1) := by decide +kernel
theorem dX7_isLetter_17 : decode cX7_isLetter 17 = .ok (.ireturn, 1) := by decide +kernel
theorem dX7_isPattern_0 : decode cX7_isPattern 0 = .ok (.iload_n 1, 1) := by decide +kernel
theorem dX7_isPattern_1 : decode cX7_isPattern 1 = .ok (.ifCond .lt 24, 3) := by decide +kernel
theorem dX7_isPattern_4 : decode cX7_isPattern 4 = .ok (.iload_n 1, 1) := by decide +kernel
theorem dX7_isPattern_5 : decode cX7_isPattern 5 = .ok (.aload_n 0, 1) := by decide +kernel
theorem dX7_isPattern_6 : decode cX7_isPattern 6 = .ok (.getfield 36, 3) := by decide +kernel
theorem dX7_isPattern_9 : decode cX7_isPattern 9 = .ok (.if_icmp .ge 16, 3) := by decide +kernel
theorem dX7_isPattern_12 : decode cX7_isPattern 12 = .ok (.aload_n 0, 1) := by decide +kernel
theorem dX7_isPattern_13 : decode cX7_isPattern 13 = .ok (.getfield 13, 3) := by decide +kernel
theorem dX7_isPattern_16 : decode cX7_isPattern 16 = .ok (.iload_n 1, 1) := by decide +kernel
theorem dX7_isPattern_17 : decode cX7_isPattern 17 = .ok (.baload, 1) := by decide +kernel
theorem dX7_isPattern_18 : decode cX7_isPattern 18 = .ok (.ifCond .eq 7, 3) := by decide +kernel
theorem dX7_isPattern_21 : decode cX7_isPattern 21 = .ok (.iconst 1, 1) := by decide +kernel
theorem dX7_isPattern_22 : decode cX7_isPattern 22 = .ok (.goto 4, 3) := by decide +kernel
theorem dX7_isPattern_25 : decode cX7_isPattern 25 = .ok (.iconst 0, 1) := by decide +kernel
theorem dX7_isPattern_26 : decode cX7_isPattern 26 = .ok (.ireturn, 1) := by decide +kernel
theorem dX7_patternsNow_0 : decode cX7_patternsNow 0 = .ok (.iconst 0, 1) := by decide +kernel
theorem dX7_patternsNow_1 : decode cX7_patternsNow 1 = .ok (.istore_n 1, 1) := by decide +kernel
theorem dX7_patternsNow_2 : decode cX7_patternsNow 2 = .ok (.iconst 0, 1) := by decide +kernel
theorem dX7_patternsNow_3 : decode cX7_patternsNow 3 = .ok (.istore_n 2, 1) := by decide +kernel
theorem dX7_patternsNow_4 : decode cX7_patternsNow 4 = .ok (.iload_n 2, 1) := by decide +kernel
theorem dX7_patternsNow_5 : decode cX7_patternsNow 5 = .ok (.aload_n 0, 1) := by decide +kernel
theorem dX7_patternsNow_6 : decode cX7_patternsNow 6 = .ok (.getfield 36, 3) := by decide +kernel
theorem dX7_patternsNow_9 : decode cX7_patternsNow 9 = .ok (.if_icmp .ge 26, 3) := by decide +kernel
theorem dX7_patternsNow_12 : decode cX7_patternsNow 12 = .ok (.iload_n 1, 1) := by decide +kernel
theorem dX7_patternsNow_13 : decode cX7_patternsNow 13 = .ok (.aload_n 0, 1) := by decide +kernel
theorem dX7_patternsNow_14 : decode cX7_patternsNow 14 = .ok (.getfield 13, 3) := by decide +kernel
theorem dX7_patternsNow_17 : decode cX7_patternsNow 17 = .ok (.iload_n 2, 1) := by decide +kernel
theorem dX7_patternsNow_18 : decode cX7_patternsNow 18 = .ok (.baload, 1) := by decide +kernel
theorem dX7_patternsNow_19 : decode cX7_patternsNow 19 = .ok (.ifCond .eq 7, 3) := by decide +kernel
theorem dX7_patternsNow_22 : decode cX7_patternsNow 22 = .ok (.iconst 1, 1) := by decide +kernel
theorem dX7_patternsNow_23 : decode cX7_patternsNow 23 = .ok (.goto 4, 3) := by decide +kernel
theorem dX7_patternsNow_26 : decode cX7_patternsNow 26 = .ok (.iconst 0, 1) := by decide +kernel
theorem dX7_patternsNow_27 : decode cX7_patternsNow 27 = .ok (.iadd, 1) := by decide +kernel
theorem dX7_patternsNow_28 : decode cX7_patternsNow 28 = .ok (.istore_n 1, 1) := by decide +kernel
theorem dX7_patternsNow_29 : decode cX7_patternsNow 29 = .ok (.iinc 2 1, 3) := by decide +kernel
theorem dX7_patternsNow_32 : decode cX7_patternsNow 32 = .ok (.goto (-28), 3) := by decide +kernel
theorem dX7_patternsNow_35 : decode cX7_patternsNow 35 = .ok (.iload_n 1, 1) := by decide +kernel
theorem dX7_patternsNow_36 : decode cX7_patternsNow 36 = .ok (.ireturn, 1) := by decide +kernel
theorem dX7_draft_0 : decode cX7_draft 0 = .ok (.aload_n 0, 1) := by decide +kernel
theorem dX7_draft_1 : decode cX7_draft 1 = .ok (.iload_n 1, 1) := by decide +kernel
theorem dX7_draft_2 : decode cX7_draft 2 = .ok (.invokestatic 39, 3) := by decide +kernel
theorem dX7_draft_5 : decode cX7_draft 5 = .ok (.ifCond .ne 7, 3) := by decide +kernel
theorem dX7_draft_8 : decode cX7_draft 8 = .ok (.iconst 1, 1) := by decide +kernel
theorem dX7_draft_9 : decode cX7_draft 9 = .ok (.goto 17, 3) := by decide +kernel
theorem dX7_draft_12 : decode cX7_draft 12 = .ok (.aload_n 0, 1) := by decide +kernel
theorem dX7_draft_13 : decode cX7_draft 13 = .ok (.getfield 43, 3) := by decide +kernel
theorem dX7_draft_16 : decode cX7_draft 16 = .ok (.bipush 8, 2) := by decide +kernel
theorem dX7_draft_18 : decode cX7_draft 18 = .ok (.if_icmp .ne 7, 3) := by decide +kernel
theorem dX7_draft_21 : decode cX7_draft 21 = .ok (.iconst 2, 1) := by decide +kernel
theorem dX7_draft_22 : decode cX7_draft 22 = .ok (.goto 4, 3) := by decide +kernel
theorem dX7_draft_25 : decode cX7_draft 25 = .ok (.iconst 0, 1) := by decide +kernel
theorem dX7_draft_26 : decode cX7_draft 26 = .ok (.invokevirtual 46, 3) := by decide +kernel
theorem dX7_draft_29 : decode cX7_draft 29 = .ok (.ifCond .ne 5, 3) := by decide +kernel
theorem dX7_draft_32 : decode cX7_draft 32 = .ok (.iconst 0, 1) := by decide +kernel
theorem dX7_draft_33 : decode cX7_draft 33 = .ok (.ireturn, 1) := by decide +kernel
theorem dX7_draft_34 : decode cX7_draft 34 = .ok (.aload_n 0, 1) := by decide +kernel
theorem dX7_draft_35 : decode cX7_draft 35 = .ok (.getfield 7, 3) := by decide +kernel
theorem dX7_draft_38 : decode cX7_draft 38 = .ok (.aload_n 0, 1) := by decide +kernel
theorem dX7_draft_39 : decode cX7_draft 39 = .ok (.getfield 43, 3) := by decide +kernel
theorem dX7_draft_42 : decode cX7_draft 42 = .ok (.iload_n 1, 1) := by decide +kernel
theorem dX7_draft_43 : decode cX7_draft 43 = .ok (.iastore, 1) := by decide +kernel
theorem dX7_draft_44 : decode cX7_draft 44 = .ok (.aload_n 0, 1) := by decide +kernel
theorem dX7_draft_45 : decode cX7_draft 45 = .ok (.dup, 1) := by decide +kernel
theorem dX7_draft_46 : decode cX7_draft 46 = .ok (.getfield 43, 3) := by decide +kernel
theorem dX7_draft_49 : decode cX7_draft 49 = .ok (.iconst 1, 1) := by decide +kernel
theorem dX7_draft_50 : decode cX7_draft 50 = .ok (.iadd, 1) := by decide +kernel
theorem dX7_draft_51 : decode cX7_draft 51 = .ok (.putfield 43, 3) := by decide +kernel
theorem dX7_draft_54 : decode cX7_draft 54 = .ok (.aload_n 0, 1) := by decide +kernel
theorem dX7_draft_55 : decode cX7_draft 55 = .ok (.getfield 43, 3) := by decide +kernel
theorem dX7_draft_58 : decode cX7_draft 58 = .ok (.ireturn, 1) := by decide +kernel
theorem dX7_isDraft_0 : decode cX7_isDraft 0 = .ok (.aload_n 0, 1) := by decide +kernel
theorem dX7_isDraft_1 : decode cX7_isDraft 1 = .ok (.getfield 13, 3) := by decide +kernel
theorem dX7_isDraft_4 : decode cX7_isDraft 4 = .ok (.iload_n 1, 1) := by decide +kernel
theorem dX7_isDraft_5 : decode cX7_isDraft 5 = .ok (.baload, 1) := by decide +kernel
theorem dX7_isDraft_6 : decode cX7_isDraft 6 = .ok (.ifCond .eq 20, 3) := by decide +kernel
theorem dX7_isDraft_9 : decode cX7_isDraft 9 = .ok (.aload_n 0, 1) := by decide +kernel
theorem dX7_isDraft_10 : decode cX7_isDraft 10 = .ok (.getfield 17, 3) := by decide +kernel
theorem dX7_isDraft_13 : decode cX7_isDraft 13 = .ok (.iload_n 1, 1) := by decide +kernel
theorem dX7_isDraft_14 : decode cX7_isDraft 14 = .ok (.iaload, 1) := by decide +kernel
theorem dX7_isDraft_15 : decode cX7_isDraft 15 = .ok (.aload_n 0, 1) := by decide +kernel
theorem dX7_isDraft_16 : decode cX7_isDraft 16 = .ok (.getfield 43, 3) := by decide +kernel
theorem dX7_isDraft_19 : decode cX7_isDraft 19 = .ok (.if_icmp .ne 7, 3) := by decide +kernel
theorem dX7_isDraft_22 : decode cX7_isDraft 22 = .ok (.iconst 1, 1) := by decide +kernel
theorem dX7_isDraft_23 : decode cX7_isDraft 23 = .ok (.goto 4, 3) := by decide +kernel
theorem dX7_isDraft_26 : decode cX7_isDraft 26 = .ok (.iconst 0, 1) := by decide +kernel
theorem dX7_isDraft_27 : decode cX7_isDraft 27 = .ok (.istore_n 2, 1) := by decide +kernel
theorem dX7_isDraft_28 : decode cX7_isDraft 28 = .ok (.iconst 0, 1) := by decide +kernel
theorem dX7_isDraft_29 : decode cX7_isDraft 29 = .ok (.istore_n 3, 1) := by decide +kernel
theorem dX7_isDraft_30 : decode cX7_isDraft 30 = .ok (.iload_n 3, 1) := by decide +kernel
theorem dX7_isDraft_31 : decode cX7_isDraft 31 = .ok (.aload_n 0, 1) := by decide +kernel
theorem dX7_isDraft_32 : decode cX7_isDraft 32 = .ok (.getfield 43, 3) := by decide +kernel
theorem dX7_isDraft_35 : decode cX7_isDraft 35 = .ok (.if_icmp .ge 39, 3) := by decide +kernel
theorem dX7_isDraft_38 : decode cX7_isDraft 38 = .ok (.iload_n 2, 1) := by decide +kernel
theorem dX7_isDraft_39 : decode cX7_isDraft 39 = .ok (.ifCond .eq 35, 3) := by decide +kernel
theorem dX7_isDraft_42 : decode cX7_isDraft 42 = .ok (.aload_n 0, 1) := by decide +kernel
theorem dX7_isDraft_43 : decode cX7_isDraft 43 = .ok (.getfield 20, 3) := by decide +kernel
theorem dX7_isDraft_46 : decode cX7_isDraft 46 = .ok (.bipush 8, 2) := by decide +kernel
theorem dX7_isDraft_48 : decode cX7_isDraft 48 = .ok (.iload_n 1, 1) := by decide +kernel
theorem dX7_isDraft_49 : decode cX7_isDraft 49 = .ok (.imul, 1) := by decide +kernel
theorem dX7_isDraft_50 : decode cX7_isDraft 50 = .ok (.iload_n 3, 1) := by decide +kernel
theorem dX7_isDraft_51 : decode cX7_isDraft 51 = .ok (.iadd, 1) := by decide +kernel
theorem dX7_isDraft_52 : decode cX7_isDraft 52 = .ok (.iaload, 1) := by decide +kernel
theorem dX7_isDraft_53 : decode cX7_isDraft 53 = .ok (.aload_n 0, 1) := by decide +kernel
theorem dX7_isDraft_54 : decode cX7_isDraft 54 = .ok (.getfield 7, 3) := by decide +kernel
theorem dX7_isDraft_57 : decode cX7_isDraft 57 = .ok (.iload_n 3, 1) := by decide +kernel
theorem dX7_isDraft_58 : decode cX7_isDraft 58 = .ok (.iaload, 1) := by decide +kernel
theorem dX7_isDraft_59 : decode cX7_isDraft 59 = .ok (.if_icmp .ne 7, 3) := by decide +kernel
theorem dX7_isDraft_62 : decode cX7_isDraft 62 = .ok (.iconst 1, 1) := by decide +kernel
theorem dX7_isDraft_63 : decode cX7_isDraft 63 = .ok (.goto 4, 3) := by decide +kernel
theorem dX7_isDraft_66 : decode cX7_isDraft 66 = .ok (.iconst 0, 1) := by decide +kernel
theorem dX7_isDraft_67 : decode cX7_isDraft 67 = .ok (.istore_n 2, 1) := by decide +kernel
theorem dX7_isDraft_68 : decode cX7_isDraft 68 = .ok (.iinc 3 1, 3) := by decide +kernel
theorem dX7_isDraft_71 : decode cX7_isDraft 71 = .ok (.goto (-41), 3) := by decide +kernel
theorem dX7_isDraft_74 : decode cX7_isDraft 74 = .ok (.iload_n 2, 1) := by decide +kernel
theorem dX7_isDraft_75 : decode cX7_isDraft 75 = .ok (.ireturn, 1) := by decide +kernel
theorem dX7_enter_0 : decode cX7_enter 0 = .ok (.aload_n 0, 1) := by decide +kernel
theorem dX7_enter_1 : decode cX7_enter 1 = .ok (.getfield 43, 3) := by decide +kernel
theorem dX7_enter_4 : decode cX7_enter 4 = .ok (.ifCond .le 25, 3) := by decide +kernel
theorem dX7_enter_7 : decode cX7_enter 7 = .ok (.aload_n 0, 1) := by decide +kernel
theorem dX7_enter_8 : decode cX7_enter 8 = .ok (.invokevirtual 50, 3) := by decide +kernel
theorem dX7_enter_11 : decode cX7_enter 11 = .ok (.bipush 20, 2) := by decide +kernel
theorem dX7_enter_13 : decode cX7_enter 13 = .ok (.if_icmp .ge 16, 3) := by decide +kernel
theorem dX7_enter_16 : decode cX7_enter 16 = .ok (.aload_n 0, 1) := by decide +kernel
theorem dX7_enter_17 : decode cX7_enter 17 = .ok (.getfield 36, 3) := by decide +kernel
theorem dX7_enter_20 : decode cX7_enter 20 = .ok (.bipush 40, 2) := by decide +kernel
theorem dX7_enter_22 : decode cX7_enter 22 = .ok (.if_icmp .ge 7, 3) := by decide +kernel
theorem dX7_enter_25 : decode cX7_enter 25 = .ok (.iconst 1, 1) := by decide +kernel
theorem dX7_enter_26 : decode cX7_enter 26 = .ok (.goto 4, 3) := by decide +kernel
theorem dX7_enter_29 : decode cX7_enter 29 = .ok (.iconst 0, 1) := by decide +kernel
theorem dX7_enter_30 : decode cX7_enter 30 = .ok (.istore_n 1, 1) := by decide +kernel
theorem dX7_enter_31 : decode cX7_enter 31 = .ok (.iconst 0, 1) := by decide +kernel
theorem dX7_enter_32 : decode cX7_enter 32 = .ok (.istore_n 2, 1) := by decide +kernel
theorem dX7_enter_33 : decode cX7_enter 33 = .ok (.iload_n 2, 1) := by decide +kernel
theorem dX7_enter_34 : decode cX7_enter 34 = .ok (.aload_n 0, 1) := by decide +kernel
theorem dX7_enter_35 : decode cX7_enter 35 = .ok (.getfield 36, 3) := by decide +kernel
theorem dX7_enter_38 : decode cX7_enter 38 = .ok (.if_icmp .ge 27, 3) := by decide +kernel
theorem dX7_enter_41 : decode cX7_enter 41 = .ok (.iload_n 1, 1) := by decide +kernel
theorem dX7_enter_42 : decode cX7_enter 42 = .ok (.ifCond .eq 15, 3) := by decide +kernel
theorem dX7_enter_45 : decode cX7_enter 45 = .ok (.aload_n 0, 1) := by decide +kernel
theorem dX7_enter_46 : decode cX7_enter 46 = .ok (.iload_n 2, 1) := by decide +kernel
theorem dX7_enter_47 : decode cX7_enter 47 = .ok (.invokevirtual 54, 3) := by decide +kernel
theorem dX7_enter_50 : decode cX7_enter 50 = .ok (.ifCond .ne 7, 3) := by decide +kernel
theorem dX7_enter_53 : decode cX7_enter 53 = .ok (.iconst 1, 1) := by decide +kernel
theorem dX7_enter_54 : decode cX7_enter 54 = .ok (.goto 4, 3) := by decide +kernel
theorem dX7_enter_57 : decode cX7_enter 57 = .ok (.iconst 0, 1) := by decide +kernel
theorem dX7_enter_58 : decode cX7_enter 58 = .ok (.istore_n 1, 1) := by decide +kernel
theorem dX7_enter_59 : decode cX7_enter 59 = .ok (.iinc 2 1, 3) := by decide +kernel
theorem dX7_enter_62 : decode cX7_enter 62 = .ok (.goto (-29), 3) := by decide +kernel
theorem dX7_enter_65 : decode cX7_enter 65 = .ok (.aload_n 0, 1) := by decide +kernel
theorem dX7_enter_66 : decode cX7_enter 66 = .ok (.iload_n 1, 1) := by decide +kernel
theorem dX7_enter_67 : decode cX7_enter 67 = .ok (.ifCond .eq 7, 3) := by decide +kernel
theorem dX7_enter_70 : decode cX7_enter 70 = .ok (.iconst 0, 1) := by decide +kernel
theorem dX7_enter_71 : decode cX7_enter 71 = .ok (.goto 4, 3) := by decide +kernel
theorem dX7_enter_74 : decode cX7_enter 74 = .ok (.iconst 1, 1) := by decide +kernel
theorem dX7_enter_75 : decode cX7_enter 75 = .ok (.invokevirtual 46, 3) := by decide +kernel
theorem dX7_enter_78 : decode cX7_enter 78 = .ok (.ifCond .ne 5, 3) := by decide +kernel
theorem dX7_enter_81 : decode cX7_enter 81 = .ok (.iconst 0, 1) := by decide +kernel
theorem dX7_enter_82 : decode cX7_enter 82 = .ok (.ireturn, 1) := by decide +kernel
theorem dX7_enter_83 : decode cX7_enter 83 = .ok (.iconst 0, 1) := by decide +kernel
theorem dX7_enter_84 : decode cX7_enter 84 = .ok (.istore_n 2, 1) := by decide +kernel
theorem dX7_enter_85 : decode cX7_enter 85 = .ok (.iload_n 2, 1) := by decide +kernel
theorem dX7_enter_86 : decode cX7_enter 86 = .ok (.aload_n 0, 1) := by decide +kernel
theorem dX7_enter_87 : decode cX7_enter 87 = .ok (.getfield 43, 3) := by decide +kernel
theorem dX7_enter_90 : decode cX7_enter 90 = .ok (.if_icmp .ge 29, 3) := by decide +kernel
theorem dX7_enter_93 : decode cX7_enter 93 = .ok (.aload_n 0, 1) := by decide +kernel
theorem dX7_enter_94 : decode cX7_enter 94 = .ok (.getfield 20, 3) := by decide +kernel
theorem dX7_enter_97 : decode cX7_enter 97 = .ok (.bipush 8, 2) := by decide +kernel
theorem dX7_enter_99 : decode cX7_enter 99 = .ok (.aload_n 0, 1) := by decide +kernel
theorem dX7_enter_100 : decode cX7_enter 100 = .ok (.getfield 36, 3) := by decide +kernel
theorem dX7_enter_103 : decode cX7_enter 103 = .ok (.imul, 1) := by decide +kernel
theorem dX7_enter_104 : decode cX7_enter 104 = .ok (.iload_n 2, 1) := by decide +kernel
theorem dX7_enter_105 : decode cX7_enter 105 = .ok (.iadd, 1) := by decide +kernel
theorem dX7_enter_106 : decode cX7_enter 106 = .ok (.aload_n 0, 1) := by decide +kernel
theorem dX7_enter_107 : decode cX7_enter 107 = .ok (.getfield 7, 3) := by decide +kernel
theorem dX7_enter_110 : decode cX7_enter 110 = .ok (.iload_n 2, 1) := by decide +kernel
theorem dX7_enter_111 : decode cX7_enter 111 = .ok (.iaload, 1) := by decide +kernel
theorem dX7_enter_112 : decode cX7_enter 112 = .ok (.iastore, 1) := by decide +kernel
theorem dX7_enter_113 : decode cX7_enter 113 = .ok (.iinc 2 1, 3) := by decide +kernel
theorem dX7_enter_116 : decode cX7_enter 116 = .ok (.goto (-31), 3) := by decide +kernel
theorem dX7_enter_119 : decode cX7_enter 119 = .ok (.aload_n 0, 1) := by decide +kernel
theorem dX7_enter_120 : decode cX7_enter 120 = .ok (.getfield 17, 3) := by decide +kernel
theorem dX7_enter_123 : decode cX7_enter 123 = .ok (.aload_n 0, 1) := by decide +kernel
theorem dX7_enter_124 : decode cX7_enter 124 = .ok (.getfield 36, 3) := by decide +kernel
theorem dX7_enter_127 : decode cX7_enter 127 = .ok (.aload_n 0, 1) := by decide +kernel
theorem dX7_enter_128 : decode cX7_enter 128 = .ok (.getfield 43, 3) := by decide +kernel
theorem dX7_enter_131 : decode cX7_enter 131 = .ok (.iastore, 1) := by decide +kernel
theorem dX7_enter_132 : decode cX7_enter 132 = .ok (.aload_n 0, 1) := by decide +kernel
theorem dX7_enter_133 : decode cX7_enter 133 = .ok (.getfield 23, 3) := by decide +kernel
theorem dX7_enter_136 : decode cX7_enter 136 = .ok (.aload_n 0, 1) := by decide +kernel
theorem dX7_enter_137 : decode cX7_enter 137 = .ok (.getfield 36, 3) := by decide +kernel
theorem dX7_enter_140 : decode cX7_enter 140 = .ok (.iconst 0, 1) := by decide +kernel
theorem dX7_enter_141 : decode cX7_enter 141 = .ok (.iastore, 1) := by decide +kernel
theorem dX7_enter_142 : decode cX7_enter 142 = .ok (.aload_n 0, 1) := by decide +kernel
theorem dX7_enter_143 : decode cX7_enter 143 = .ok (.getfield 13, 3) := by decide +kernel
theorem dX7_enter_146 : decode cX7_enter 146 = .ok (.aload_n 0, 1) := by decide +kernel
theorem dX7_enter_147 : decode cX7_enter 147 = .ok (.getfield 36, 3) := by decide +kernel
theorem dX7_enter_150 : decode cX7_enter 150 = .ok (.iconst 1, 1) := by decide +kernel
theorem dX7_enter_151 : decode cX7_enter 151 = .ok (.bastore, 1) := by decide +kernel
theorem dX7_enter_152 : decode cX7_enter 152 = .ok (.aload_n 0, 1) := by decide +kernel
theorem dX7_enter_153 : decode cX7_enter 153 = .ok (.iconst 0, 1) := by decide +kernel
theorem dX7_enter_154 : decode cX7_enter 154 = .ok (.putfield 43, 3) := by decide +kernel
theorem dX7_enter_157 : decode cX7_enter 157 = .ok (.aload_n 0, 1) := by decide +kernel
theorem dX7_enter_158 : decode cX7_enter 158 = .ok (.dup, 1) := by decide +kernel
theorem dX7_enter_159 : decode cX7_enter 159 = .ok (.getfield 36, 3) := by decide +kernel
theorem dX7_enter_162 : decode cX7_enter 162 = .ok (.iconst 1, 1) := by decide +kernel
theorem dX7_enter_163 : decode cX7_enter 163 = .ok (.iadd, 1) := by decide +kernel
theorem dX7_enter_164 : decode cX7_enter 164 = .ok (.putfield 36, 3) := by decide +kernel
theorem dX7_enter_167 : decode cX7_enter 167 = .ok (.aload_n 0, 1) := by decide +kernel
theorem dX7_enter_168 : decode cX7_enter 168 = .ok (.getfield 36, 3) := by decide +kernel
theorem dX7_enter_171 : decode cX7_enter 171 = .ok (.iconst 1, 1) := by decide +kernel
theorem dX7_enter_172 : decode cX7_enter 172 = .ok (.isub, 1) := by decide +kernel
theorem dX7_enter_173 : decode cX7_enter 173 = .ok (.ireturn, 1) := by decide +kernel
theorem dX7_isAsked_0 : decode cX7_isAsked 0 = .ok (.aload_n 0, 1) := by decide +kernel
theorem dX7_isAsked_1 : decode cX7_isAsked 1 = .ok (.aload_n 0, 1) := by decide +kernel
theorem dX7_isAsked_2 : decode cX7_isAsked 2 = .ok (.iload_n 1, 1) := by decide +kernel
theorem dX7_isAsked_3 : decode cX7_isAsked 3 = .ok (.invokevirtual 57, 3) := by decide +kernel
theorem dX7_isAsked_6 : decode cX7_isAsked 6 = .ok (.ifCond .eq 7, 3) := by decide +kernel
theorem dX7_isAsked_9 : decode cX7_isAsked 9 = .ok (.iconst 0, 1) := by decide +kernel
theorem dX7_isAsked_10 : decode cX7_isAsked 10 = .ok (.goto 4, 3) := by decide +kernel
theorem dX7_isAsked_13 : decode cX7_isAsked 13 = .ok (.iconst 1, 1) := by decide +kernel
theorem dX7_isAsked_14 : decode cX7_isAsked 14 = .ok (.invokevirtual 46, 3) := by decide +kernel
theorem dX7_isAsked_17 : decode cX7_isAsked 17 = .ok (.ireturn, 1) := by decide +kernel
theorem dX7_setReplacement_0 : decode cX7_setReplacement 0 = .ok (.aload_n 0, 1) := by decide +kernel
theorem dX7_setReplacement_1 : decode cX7_setReplacement 1 = .ok (.iload_n 1, 1) := by decide +kernel
theorem dX7_setReplacement_2 : decode cX7_setReplacement 2 = .ok (.invokevirtual 60, 3) := by decide +kernel
theorem dX7_setReplacement_5 : decode cX7_setReplacement 5 = .ok (.ifCond .ne 5, 3) := by decide +kernel
theorem dX7_setReplacement_8 : decode cX7_setReplacement 8 = .ok (.iconst 0, 1) := by decide +kernel
theorem dX7_setReplacement_9 : decode cX7_setReplacement 9 = .ok (.ireturn, 1) := by decide +kernel
theorem dX7_setReplacement_10 : decode cX7_setReplacement 10 = .ok (.aload_n 0, 1) := by decide +kernel
theorem dX7_setReplacement_11 : decode cX7_setReplacement 11 = .ok (.getfield 23, 3) := by decide +kernel
theorem dX7_setReplacement_14 : decode cX7_setReplacement 14 = .ok (.iload_n 1, 1) := by decide +kernel
theorem dX7_setReplacement_15 : decode cX7_setReplacement 15 = .ok (.iaload, 1) := by decide +kernel
theorem dX7_setReplacement_16 : decode cX7_setReplacement 16 = .ok (.istore_n 2, 1) := by decide +kernel
theorem dX7_setReplacement_17 : decode cX7_setReplacement 17 = .ok (.iconst 0, 1) := by decide +kernel
theorem dX7_setReplacement_18 : decode cX7_setReplacement 18 = .ok (.istore_n 3, 1) := by decide +kernel
theorem dX7_setReplacement_19 : decode cX7_setReplacement 19 = .ok (.iload_n 3, 1) := by decide +kernel
theorem dX7_setReplacement_20 : decode cX7_setReplacement 20 = .ok (.aload_n 0, 1) := by decide +kernel
theorem dX7_setReplacement_21 : decode cX7_setReplacement 21 = .ok (.getfield 43, 3) := by decide +kernel
theorem dX7_setReplacement_24 : decode cX7_setReplacement 24 = .ok (.if_icmp .ge 26, 3) := by decide +kernel
theorem dX7_setReplacement_27 : decode cX7_setReplacement 27 = .ok (.aload_n 0, 1) := by decide +kernel
theorem dX7_setReplacement_28 : decode cX7_setReplacement 28 = .ok (.getfield 26, 3) := by decide +kernel
theorem dX7_setReplacement_31 : decode cX7_setReplacement 31 = .ok (.bipush 8, 2) := by decide +kernel
theorem dX7_setReplacement_33 : decode cX7_setReplacement 33 = .ok (.iload_n 1, 1) := by decide +kernel
theorem dX7_setReplacement_34 : decode cX7_setReplacement 34 = .ok (.imul, 1) := by decide +kernel
theorem dX7_setReplacement_35 : decode cX7_setReplacement 35 = .ok (.iload_n 3, 1) := by decide +kernel
theorem dX7_setReplacement_36 : decode cX7_setReplacement 36 = .ok (.iadd, 1) := by decide +kernel
theorem dX7_setReplacement_37 : decode cX7_setReplacement 37 = .ok (.aload_n 0, 1) := by decide +kernel
theorem dX7_setReplacement_38 : decode cX7_setReplacement 38 = .ok (.getfield 7, 3) := by decide +kernel
theorem dX7_setReplacement_41 : decode cX7_setReplacement 41 = .ok (.iload_n 3, 1) := by decide +kernel
theorem dX7_setReplacement_42 : decode cX7_setReplacement 42 = .ok (.iaload, 1) := by decide +kernel
theorem dX7_setReplacement_43 : decode cX7_setReplacement 43 = .ok (.iastore, 1) := by decide +kernel
theorem dX7_setReplacement_44 : decode cX7_setReplacement 44 = .ok (.iinc 3 1, 3) := by decide +kernel
theorem dX7_setReplacement_47 : decode cX7_setReplacement 47 = .ok (.goto (-28), 3) := by decide +kernel
theorem dX7_setReplacement_50 : decode cX7_setReplacement 50 = .ok (.aload_n 0, 1) := by decide +kernel
theorem dX7_setReplacement_51 : decode cX7_setReplacement 51 = .ok (.getfield 23, 3) := by decide +kernel
theorem dX7_setReplacement_54 : decode cX7_setReplacement 54 = .ok (.iload_n 1, 1) := by decide +kernel
theorem dX7_setReplacement_55 : decode cX7_setReplacement 55 = .ok (.aload_n 0, 1) := by decide +kernel
theorem dX7_setReplacement_56 : decode cX7_setReplacement 56 = .ok (.getfield 43, 3) := by decide +kernel
theorem dX7_setReplacement_59 : decode cX7_setReplacement 59 = .ok (.iastore, 1) := by decide +kernel
theorem dX7_setReplacement_60 : decode cX7_setReplacement 60 = .ok (.aload_n 0, 1) := by decide +kernel
theorem dX7_setReplacement_61 : decode cX7_setReplacement 61 = .ok (.iconst 0, 1) := by decide +kernel
theorem dX7_setReplacement_62 : decode cX7_setReplacement 62 = .ok (.putfield 43, 3) := by decide +kernel
theorem dX7_setReplacement_65 : decode cX7_setReplacement 65 = .ok (.iload_n 2, 1) := by decide +kernel
theorem dX7_setReplacement_66 : decode cX7_setReplacement 66 = .ok (.ireturn, 1) := by decide +kernel
theorem dX7_takeOut_0 : decode cX7_takeOut 0 = .ok (.aload_n 0, 1) := by decide +kernel
theorem dX7_takeOut_1 : decode cX7_takeOut 1 = .ok (.iload_n 1, 1) := by decide +kernel
theorem dX7_takeOut_2 : decode cX7_takeOut 2 = .ok (.invokevirtual 60, 3) := by decide +kernel
theorem dX7_takeOut_5 : decode cX7_takeOut 5 = .ok (.ifCond .ne 5, 3) := by decide +kernel
theorem dX7_takeOut_8 : decode cX7_takeOut 8 = .ok (.iconst 0, 1) := by decide +kernel
theorem dX7_takeOut_9 : decode cX7_takeOut 9 = .ok (.ireturn, 1) := by decide +kernel
theorem dX7_takeOut_10 : decode cX7_takeOut 10 = .ok (.aload_n 0, 1) := by decide +kernel
theorem dX7_takeOut_11 : decode cX7_takeOut 11 = .ok (.getfield 13, 3) := by decide +kernel
theorem dX7_takeOut_14 : decode cX7_takeOut 14 = .ok (.iload_n 1, 1) := by decide +kernel
theorem dX7_takeOut_15 : decode cX7_takeOut 15 = .ok (.iconst 0, 1) := by decide +kernel
theorem dX7_takeOut_16 : decode cX7_takeOut 16 = .ok (.bastore, 1) := by decide +kernel
theorem dX7_takeOut_17 : decode cX7_takeOut 17 = .ok (.aload_n 0, 1) := by decide +kernel
theorem dX7_takeOut_18 : decode cX7_takeOut 18 = .ok (.invokevirtual 50, 3) := by decide +kernel
theorem dX7_takeOut_21 : decode cX7_takeOut 21 = .ok (.ireturn, 1) := by decide +kernel
theorem dX7_patterns_0 : decode cX7_patterns 0 = .ok (.aload_n 0, 1) := by decide +kernel
theorem dX7_patterns_1 : decode cX7_patterns 1 = .ok (.iconst 0, 1) := by decide +kernel
theorem dX7_patterns_2 : decode cX7_patterns 2 = .ok (.putfield 32, 3) := by decide +kernel
theorem dX7_patterns_5 : decode cX7_patterns 5 = .ok (.aload_n 0, 1) := by decide +kernel
theorem dX7_patterns_6 : decode cX7_patterns 6 = .ok (.invokevirtual 50, 3) := by decide +kernel
theorem dX7_patterns_9 : decode cX7_patterns 9 = .ok (.ireturn, 1) := by decide +kernel
theorem dX7_length_0 : decode cX7_length 0 = .ok (.aload_n 0, 1) := by decide +kernel
theorem dX7_length_1 : decode cX7_length 1 = .ok (.iload_n 1, 1) := by decide +kernel
theorem dX7_length_2 : decode cX7_length 2 = .ok (.invokevirtual 60, 3) := by decide +kernel
theorem dX7_length_5 : decode cX7_length 5 = .ok (.ifCond .eq 12, 3) := by decide +kernel
theorem dX7_length_8 : decode cX7_length 8 = .ok (.aload_n 0, 1) := by decide +kernel
theorem dX7_length_9 : decode cX7_length 9 = .ok (.getfield 17, 3) := by decide +kernel
theorem dX7_length_12 : decode cX7_length 12 = .ok (.iload_n 1, 1) := by decide +kernel
theorem dX7_length_13 : decode cX7_length 13 = .ok (.iaload, 1) := by decide +kernel
theorem dX7_length_14 : decode cX7_length 14 = .ok (.goto 4, 3) := by decide +kernel
theorem dX7_length_17 : decode cX7_length 17 = .ok (.iconst 0, 1) := by decide +kernel
theorem dX7_length_18 : decode cX7_length 18 = .ok (.ireturn, 1) := by decide +kernel
theorem dX7_begins_0 : decode cX7_begins 0 = .ok (.aload_n 0, 1) := by decide +kernel
theorem dX7_begins_1 : decode cX7_begins 1 = .ok (.getfield 13, 3) := by decide +kernel
theorem dX7_begins_4 : decode cX7_begins 4 = .ok (.iload 4, 2) := by decide +kernel
theorem dX7_begins_6 : decode cX7_begins 6 = .ok (.baload, 1) := by decide +kernel
theorem dX7_begins_7 : decode cX7_begins 7 = .ok (.ifCond .eq 18, 3) := by decide +kernel
theorem dX7_begins_10 : decode cX7_begins 10 = .ok (.iload_n 3, 1) := by decide +kernel
theorem dX7_begins_11 : decode cX7_begins 11 = .ok (.aload_n 0, 1) := by decide +kernel
theorem dX7_begins_12 : decode cX7_begins 12 = .ok (.getfield 17, 3) := by decide +kernel
theorem dX7_begins_15 : decode cX7_begins 15 = .ok (.iload 4, 2) := by decide +kernel
theorem dX7_begins_17 : decode cX7_begins 17 = .ok (.iaload, 1) := by decide +kernel
theorem dX7_begins_18 : decode cX7_begins 18 = .ok (.if_icmp .gt 7, 3) := by decide +kernel
theorem dX7_begins_21 : decode cX7_begins 21 = .ok (.iconst 1, 1) := by decide +kernel
theorem dX7_begins_22 : decode cX7_begins 22 = .ok (.goto 4, 3) := by decide +kernel
theorem dX7_begins_25 : decode cX7_begins 25 = .ok (.iconst 0, 1) := by decide +kernel
theorem dX7_begins_26 : decode cX7_begins 26 = .ok (.istore 5, 2) := by decide +kernel
theorem dX7_begins_28 : decode cX7_begins 28 = .ok (.iconst 0, 1) := by decide +kernel
theorem dX7_begins_29 : decode cX7_begins 29 = .ok (.istore 6, 2) := by decide +kernel
theorem dX7_begins_31 : decode cX7_begins 31 = .ok (.iload 6, 2) := by decide +kernel
theorem dX7_begins_33 : decode cX7_begins 33 = .ok (.iload_n 3, 1) := by decide +kernel
theorem dX7_begins_34 : decode cX7_begins 34 = .ok (.if_icmp .ge 51, 3) := by decide +kernel
theorem dX7_begins_37 : decode cX7_begins 37 = .ok (.iload 5, 2) := by decide +kernel
theorem dX7_begins_39 : decode cX7_begins 39 = .ok (.ifCond .eq 46, 3) := by decide +kernel
theorem dX7_begins_42 : decode cX7_begins 42 = .ok (.aload_n 0, 1) := by decide +kernel
theorem dX7_begins_43 : decode cX7_begins 43 = .ok (.getfield 20, 3) := by decide +kernel
theorem dX7_begins_46 : decode cX7_begins 46 = .ok (.bipush 8, 2) := by decide +kernel
theorem dX7_begins_48 : decode cX7_begins 48 = .ok (.iload_n 1, 1) := by decide +kernel
theorem dX7_begins_49 : decode cX7_begins 49 = .ok (.imul, 1) := by decide +kernel
theorem dX7_begins_50 : decode cX7_begins 50 = .ok (.iload_n 2, 1) := by decide +kernel
theorem dX7_begins_51 : decode cX7_begins 51 = .ok (.iadd, 1) := by decide +kernel
theorem dX7_begins_52 : decode cX7_begins 52 = .ok (.iload 6, 2) := by decide +kernel
theorem dX7_begins_54 : decode cX7_begins 54 = .ok (.iadd, 1) := by decide +kernel
theorem dX7_begins_55 : decode cX7_begins 55 = .ok (.iaload, 1) := by decide +kernel
theorem dX7_begins_56 : decode cX7_begins 56 = .ok (.aload_n 0, 1) := by decide +kernel
theorem dX7_begins_57 : decode cX7_begins 57 = .ok (.getfield 20, 3) := by decide +kernel
theorem dX7_begins_60 : decode cX7_begins 60 = .ok (.bipush 8, 2) := by decide +kernel
theorem dX7_begins_62 : decode cX7_begins 62 = .ok (.iload 4, 2) := by decide +kernel
theorem dX7_begins_64 : decode cX7_begins 64 = .ok (.imul, 1) := by decide +kernel
theorem dX7_begins_65 : decode cX7_begins 65 = .ok (.iload 6, 2) := by decide +kernel
theorem dX7_begins_67 : decode cX7_begins 67 = .ok (.iadd, 1) := by decide +kernel
theorem dX7_begins_68 : decode cX7_begins 68 = .ok (.iaload, 1) := by decide +kernel
theorem dX7_begins_69 : decode cX7_begins 69 = .ok (.if_icmp .ne 7, 3) := by decide +kernel
theorem dX7_begins_72 : decode cX7_begins 72 = .ok (.iconst 1, 1) := by decide +kernel
theorem dX7_begins_73 : decode cX7_begins 73 = .ok (.goto 4, 3) := by decide +kernel
theorem dX7_begins_76 : decode cX7_begins 76 = .ok (.iconst 0, 1) := by decide +kernel
theorem dX7_begins_77 : decode cX7_begins 77 = .ok (.istore 5, 2) := by decide +kernel
theorem dX7_begins_79 : decode cX7_begins 79 = .ok (.iinc 6 1, 3) := by decide +kernel
theorem dX7_begins_82 : decode cX7_begins 82 = .ok (.goto (-51), 3) := by decide +kernel
theorem dX7_begins_85 : decode cX7_begins 85 = .ok (.iload 5, 2) := by decide +kernel
theorem dX7_begins_87 : decode cX7_begins 87 = .ok (.ireturn, 1) := by decide +kernel
theorem dX7_beginnings_0 : decode cX7_beginnings 0 = .ok (.aload_n 0, 1) := by decide +kernel
theorem dX7_beginnings_1 : decode cX7_beginnings 1 = .ok (.iconst 0, 1) := by decide +kernel
theorem dX7_beginnings_2 : decode cX7_beginnings 2 = .ok (.putfield 32, 3) := by decide +kernel
theorem dX7_beginnings_5 : decode cX7_beginnings 5 = .ok (.iconst 0, 1) := by decide +kernel
theorem dX7_beginnings_6 : decode cX7_beginnings 6 = .ok (.istore_n 1, 1) := by decide +kernel
theorem dX7_beginnings_7 : decode cX7_beginnings 7 = .ok (.iconst 0, 1) := by decide +kernel
theorem dX7_beginnings_8 : decode cX7_beginnings 8 = .ok (.istore_n 2, 1) := by decide +kernel
theorem dX7_beginnings_9 : decode cX7_beginnings 9 = .ok (.iload_n 2, 1) := by decide +kernel
theorem dX7_beginnings_10 : decode cX7_beginnings 10 = .ok (.aload_n 0, 1) := by decide +kernel
theorem dX7_beginnings_11 : decode cX7_beginnings 11 = .ok (.getfield 36, 3) := by decide +kernel
theorem dX7_beginnings_14 : decode cX7_beginnings 14 = .ok (.if_icmp .ge 91, 3) := by decide +kernel
theorem dX7_beginnings_17 : decode cX7_beginnings 17 = .ok (.iconst 1, 1) := by decide +kernel
theorem dX7_beginnings_18 : decode cX7_beginnings 18 = .ok (.istore_n 3, 1) := by decide +kernel
theorem dX7_beginnings_19 : decode cX7_beginnings 19 = .ok (.iload_n 3, 1) := by decide +kernel
theorem dX7_beginnings_20 : decode cX7_beginnings 20 = .ok (.aload_n 0, 1) := by decide +kernel
theorem dX7_beginnings_21 : decode cX7_beginnings 21 = .ok (.getfield 17, 3) := by decide +kernel
theorem dX7_beginnings_24 : decode cX7_beginnings 24 = .ok (.iload_n 2, 1) := by decide +kernel
theorem dX7_beginnings_25 : decode cX7_beginnings 25 = .ok (.iaload, 1) := by decide +kernel
theorem dX7_beginnings_26 : decode cX7_beginnings 26 = .ok (.if_icmp .gt 73, 3) := by decide +kernel
theorem dX7_beginnings_29 : decode cX7_beginnings 29 = .ok (.aload_n 0, 1) := by decide +kernel
theorem dX7_beginnings_30 : decode cX7_beginnings 30 = .ok (.getfield 13, 3) := by decide +kernel
theorem dX7_beginnings_33 : decode cX7_beginnings 33 = .ok (.iload_n 2, 1) := by decide +kernel
theorem dX7_beginnings_34 : decode cX7_beginnings 34 = .ok (.baload, 1) := by decide +kernel
theorem dX7_beginnings_35 : decode cX7_beginnings 35 = .ok (.ifCond .eq 64, 3) := by decide +kernel
theorem dX7_beginnings_38 : decode cX7_beginnings 38 = .ok (.iconst 1, 1) := by decide +kernel
theorem dX7_beginnings_39 : decode cX7_beginnings 39 = .ok (.istore 4, 2) := by decide +kernel
theorem dX7_beginnings_41 : decode cX7_beginnings 41 = .ok (.iconst 0, 1) := by decide +kernel
theorem dX7_beginnings_42 : decode cX7_beginnings 42 = .ok (.istore 5, 2) := by decide +kernel
theorem dX7_beginnings_44 : decode cX7_beginnings 44 = .ok (.iload 5, 2) := by decide +kernel
theorem dX7_beginnings_46 : decode cX7_beginnings 46 = .ok (.iload_n 2, 1) := by decide +kernel
theorem dX7_beginnings_47 : decode cX7_beginnings 47 = .ok (.if_icmp .ge 33, 3) := by decide +kernel
theorem dX7_beginnings_50 : decode cX7_beginnings 50 = .ok (.iload 4, 2) := by decide +kernel
theorem dX7_beginnings_52 : decode cX7_beginnings 52 = .ok (.ifCond .eq 19, 3) := by decide +kernel
theorem dX7_beginnings_55 : decode cX7_beginnings 55 = .ok (.aload_n 0, 1) := by decide +kernel
theorem dX7_beginnings_56 : decode cX7_beginnings 56 = .ok (.iload_n 2, 1) := by decide +kernel
theorem dX7_beginnings_57 : decode cX7_beginnings 57 = .ok (.iconst 0, 1) := by decide +kernel
theorem dX7_beginnings_58 : decode cX7_beginnings 58 = .ok (.iload_n 3, 1) := by decide +kernel
theorem dX7_beginnings_59 : decode cX7_beginnings 59 = .ok (.iload 5, 2) := by decide +kernel
theorem dX7_beginnings_61 : decode cX7_beginnings 61 = .ok (.invokevirtual 63, 3) := by decide +kernel
theorem dX7_beginnings_64 : decode cX7_beginnings 64 = .ok (.ifCond .ne 7, 3) := by decide +kernel
theorem dX7_beginnings_67 : decode cX7_beginnings 67 = .ok (.iconst 1, 1) := by decide +kernel
theorem dX7_beginnings_68 : decode cX7_beginnings 68 = .ok (.goto 4, 3) := by decide +kernel
theorem dX7_beginnings_71 : decode cX7_beginnings 71 = .ok (.iconst 0, 1) := by decide +kernel
theorem dX7_beginnings_72 : decode cX7_beginnings 72 = .ok (.istore 4, 2) := by decide +kernel
theorem dX7_beginnings_74 : decode cX7_beginnings 74 = .ok (.iinc 5 1, 3) := by decide +kernel
theorem dX7_beginnings_77 : decode cX7_beginnings 77 = .ok (.goto (-33), 3) := by decide +kernel
theorem dX7_beginnings_80 : decode cX7_beginnings 80 = .ok (.iload_n 1, 1) := by decide +kernel
theorem dX7_beginnings_81 : decode cX7_beginnings 81 = .ok (.iload 4, 2) := by decide +kernel
theorem dX7_beginnings_83 : decode cX7_beginnings 83 = .ok (.ifCond .eq 7, 3) := by decide +kernel
theorem dX7_beginnings_86 : decode cX7_beginnings 86 = .ok (.iconst 1, 1) := by decide +kernel
theorem dX7_beginnings_87 : decode cX7_beginnings 87 = .ok (.goto 4, 3) := by decide +kernel
theorem dX7_beginnings_90 : decode cX7_beginnings 90 = .ok (.iconst 0, 1) := by decide +kernel
theorem dX7_beginnings_91 : decode cX7_beginnings 91 = .ok (.iadd, 1) := by decide +kernel
theorem dX7_beginnings_92 : decode cX7_beginnings 92 = .ok (.istore_n 1, 1) := by decide +kernel
theorem dX7_beginnings_93 : decode cX7_beginnings 93 = .ok (.iinc 3 1, 3) := by decide +kernel
theorem dX7_beginnings_96 : decode cX7_beginnings 96 = .ok (.goto (-77), 3) := by decide +kernel
theorem dX7_beginnings_99 : decode cX7_beginnings 99 = .ok (.iinc 2 1, 3) := by decide +kernel
theorem dX7_beginnings_102 : decode cX7_beginnings 102 = .ok (.goto (-93), 3) := by decide +kernel
theorem dX7_beginnings_105 : decode cX7_beginnings 105 = .ok (.iload_n 1, 1) := by decide +kernel
theorem dX7_beginnings_106 : decode cX7_beginnings 106 = .ok (.ireturn, 1) := by decide +kernel
theorem dX7_link_0 : decode cX7_link 0 = .ok (.aload_n 0, 1) := by decide +kernel
theorem dX7_link_1 : decode cX7_link 1 = .ok (.iload_n 1, 1) := by decide +kernel
theorem dX7_link_2 : decode cX7_link 2 = .ok (.invokevirtual 60, 3) := by decide +kernel
theorem dX7_link_5 : decode cX7_link 5 = .ok (.ifCond .ne 5, 3) := by decide +kernel
theorem dX7_link_8 : decode cX7_link 8 = .ok (.iconst 0, 1) := by decide +kernel
theorem dX7_link_9 : decode cX7_link 9 = .ok (.ireturn, 1) := by decide +kernel
theorem dX7_link_10 : decode cX7_link 10 = .ok (.iconst 0, 1) := by decide +kernel
theorem dX7_link_11 : decode cX7_link 11 = .ok (.istore_n 2, 1) := by decide +kernel
theorem dX7_link_12 : decode cX7_link 12 = .ok (.iconst 1, 1) := by decide +kernel
theorem dX7_link_13 : decode cX7_link 13 = .ok (.istore_n 3, 1) := by decide +kernel
theorem dX7_link_14 : decode cX7_link 14 = .ok (.iload_n 3, 1) := by decide +kernel
theorem dX7_link_15 : decode cX7_link 15 = .ok (.aload_n 0, 1) := by decide +kernel
theorem dX7_link_16 : decode cX7_link 16 = .ok (.getfield 17, 3) := by decide +kernel
theorem dX7_link_19 : decode cX7_link 19 = .ok (.iload_n 1, 1) := by decide +kernel
theorem dX7_link_20 : decode cX7_link 20 = .ok (.iaload, 1) := by decide +kernel
theorem dX7_link_21 : decode cX7_link 21 = .ok (.if_icmp .ge 52, 3) := by decide +kernel
theorem dX7_link_24 : decode cX7_link 24 = .ok (.iconst 0, 1) := by decide +kernel
theorem dX7_link_25 : decode cX7_link 25 = .ok (.istore 4, 2) := by decide +kernel
theorem dX7_link_27 : decode cX7_link 27 = .ok (.iload 4, 2) := by decide +kernel
theorem dX7_link_29 : decode cX7_link 29 = .ok (.aload_n 0, 1) := by decide +kernel
theorem dX7_link_30 : decode cX7_link 30 = .ok (.getfield 36, 3) := by decide +kernel
theorem dX7_link_33 : decode cX7_link 33 = .ok (.if_icmp .ge 34, 3) := by decide +kernel
theorem dX7_link_36 : decode cX7_link 36 = .ok (.aload_n 0, 1) := by decide +kernel
theorem dX7_link_37 : decode cX7_link 37 = .ok (.iload_n 1, 1) := by decide +kernel
theorem dX7_link_38 : decode cX7_link 38 = .ok (.aload_n 0, 1) := by decide +kernel
theorem dX7_link_39 : decode cX7_link 39 = .ok (.getfield 17, 3) := by decide +kernel
theorem dX7_link_42 : decode cX7_link 42 = .ok (.iload_n 1, 1) := by decide +kernel
theorem dX7_link_43 : decode cX7_link 43 = .ok (.iaload, 1) := by decide +kernel
theorem dX7_link_44 : decode cX7_link 44 = .ok (.iload_n 3, 1) := by decide +kernel
theorem dX7_link_45 : decode cX7_link 45 = .ok (.isub, 1) := by decide +kernel
theorem dX7_link_46 : decode cX7_link 46 = .ok (.iload_n 3, 1) := by decide +kernel
theorem dX7_link_47 : decode cX7_link 47 = .ok (.iload 4, 2) := by decide +kernel
theorem dX7_link_49 : decode cX7_link 49 = .ok (.invokevirtual 63, 3) := by decide +kernel
theorem dX7_link_52 : decode cX7_link 52 = .ok (.ifCond .eq 7, 3) := by decide +kernel
theorem dX7_link_55 : decode cX7_link 55 = .ok (.iload_n 3, 1) := by decide +kernel
theorem dX7_link_56 : decode cX7_link 56 = .ok (.goto 4, 3) := by decide +kernel
theorem dX7_link_59 : decode cX7_link 59 = .ok (.iload_n 2, 1) := by decide +kernel
theorem dX7_link_60 : decode cX7_link 60 = .ok (.istore_n 2, 1) := by decide +kernel
theorem dX7_link_61 : decode cX7_link 61 = .ok (.iinc 4 1, 3) := by decide +kernel
theorem dX7_link_64 : decode cX7_link 64 = .ok (.goto (-37), 3) := by decide +kernel
theorem dX7_link_67 : decode cX7_link 67 = .ok (.iinc 3 1, 3) := by decide +kernel
theorem dX7_link_70 : decode cX7_link 70 = .ok (.goto (-56), 3) := by decide +kernel
theorem dX7_link_73 : decode cX7_link 73 = .ok (.iload_n 2, 1) := by decide +kernel
theorem dX7_link_74 : decode cX7_link 74 = .ok (.ireturn, 1) := by decide +kernel
theorem dX7_overlap_0 : decode cX7_overlap 0 = .ok (.aload_n 0, 1) := by decide +kernel
theorem dX7_overlap_1 : decode cX7_overlap 1 = .ok (.aload_n 0, 1) := by decide +kernel
theorem dX7_overlap_2 : decode cX7_overlap 2 = .ok (.iload_n 1, 1) := by decide +kernel
theorem dX7_overlap_3 : decode cX7_overlap 3 = .ok (.invokevirtual 57, 3) := by decide +kernel
theorem dX7_overlap_6 : decode cX7_overlap 6 = .ok (.ifCond .eq 15, 3) := by decide +kernel
theorem dX7_overlap_9 : decode cX7_overlap 9 = .ok (.aload_n 0, 1) := by decide +kernel
theorem dX7_overlap_10 : decode cX7_overlap 10 = .ok (.iload_n 2, 1) := by decide +kernel
theorem dX7_overlap_11 : decode cX7_overlap 11 = .ok (.invokevirtual 57, 3) := by decide +kernel
theorem dX7_overlap_14 : decode cX7_overlap 14 = .ok (.ifCond .eq 7, 3) := by decide +kernel
theorem dX7_overlap_17 : decode cX7_overlap 17 = .ok (.iconst 0, 1) := by decide +kernel
theorem dX7_overlap_18 : decode cX7_overlap 18 = .ok (.goto 4, 3) := by decide +kernel
theorem dX7_overlap_21 : decode cX7_overlap 21 = .ok (.iconst 1, 1) := by decide +kernel
theorem dX7_overlap_22 : decode cX7_overlap 22 = .ok (.invokevirtual 46, 3) := by decide +kernel
theorem dX7_overlap_25 : decode cX7_overlap 25 = .ok (.ifCond .ne 5, 3) := by decide +kernel
theorem dX7_overlap_28 : decode cX7_overlap 28 = .ok (.iconst 0, 1) := by decide +kernel
theorem dX7_overlap_29 : decode cX7_overlap 29 = .ok (.ireturn, 1) := by decide +kernel
theorem dX7_overlap_30 : decode cX7_overlap 30 = .ok (.iconst 0, 1) := by decide +kernel
theorem dX7_overlap_31 : decode cX7_overlap 31 = .ok (.istore_n 3, 1) := by decide +kernel
theorem dX7_overlap_32 : decode cX7_overlap 32 = .ok (.iconst 1, 1) := by decide +kernel
theorem dX7_overlap_33 : decode cX7_overlap 33 = .ok (.istore 4, 2) := by decide +kernel
theorem dX7_overlap_35 : decode cX7_overlap 35 = .ok (.iload 4, 2) := by decide +kernel
theorem dX7_overlap_37 : decode cX7_overlap 37 = .ok (.aload_n 0, 1) := by decide +kernel
theorem dX7_overlap_38 : decode cX7_overlap 38 = .ok (.getfield 17, 3) := by decide +kernel
theorem dX7_overlap_41 : decode cX7_overlap 41 = .ok (.iload_n 1, 1) := by decide +kernel
theorem dX7_overlap_42 : decode cX7_overlap 42 = .ok (.iaload, 1) := by decide +kernel
theorem dX7_overlap_43 : decode cX7_overlap 43 = .ok (.if_icmp .ge 47, 3) := by decide +kernel
theorem dX7_overlap_46 : decode cX7_overlap 46 = .ok (.iload 4, 2) := by decide +kernel
theorem dX7_overlap_48 : decode cX7_overlap 48 = .ok (.aload_n 0, 1) := by decide +kernel
theorem dX7_overlap_49 : decode cX7_overlap 49 = .ok (.getfield 17, 3) := by decide +kernel
theorem dX7_overlap_52 : decode cX7_overlap 52 = .ok (.iload_n 2, 1) := by decide +kernel
theorem dX7_overlap_53 : decode cX7_overlap 53 = .ok (.iaload, 1) := by decide +kernel
theorem dX7_overlap_54 : decode cX7_overlap 54 = .ok (.if_icmp .ge 36, 3) := by decide +kernel
theorem dX7_overlap_57 : decode cX7_overlap 57 = .ok (.aload_n 0, 1) := by decide +kernel
theorem dX7_overlap_58 : decode cX7_overlap 58 = .ok (.iload_n 1, 1) := by decide +kernel
theorem dX7_overlap_59 : decode cX7_overlap 59 = .ok (.aload_n 0, 1) := by decide +kernel
theorem dX7_overlap_60 : decode cX7_overlap 60 = .ok (.getfield 17, 3) := by decide +kernel
theorem dX7_overlap_63 : decode cX7_overlap 63 = .ok (.iload_n 1, 1) := by decide +kernel
theorem dX7_overlap_64 : decode cX7_overlap 64 = .ok (.iaload, 1) := by decide +kernel
theorem dX7_overlap_65 : decode cX7_overlap 65 = .ok (.iload 4, 2) := by decide +kernel
theorem dX7_overlap_67 : decode cX7_overlap 67 = .ok (.isub, 1) := by decide +kernel
theorem dX7_overlap_68 : decode cX7_overlap 68 = .ok (.iload 4, 2) := by decide +kernel
theorem dX7_overlap_70 : decode cX7_overlap 70 = .ok (.iload_n 2, 1) := by decide +kernel
theorem dX7_overlap_71 : decode cX7_overlap 71 = .ok (.invokevirtual 63, 3) := by decide +kernel
theorem dX7_overlap_74 : decode cX7_overlap 74 = .ok (.ifCond .eq 8, 3) := by decide +kernel
theorem dX7_overlap_77 : decode cX7_overlap 77 = .ok (.iload 4, 2) := by decide +kernel
theorem dX7_overlap_79 : decode cX7_overlap 79 = .ok (.goto 4, 3) := by decide +kernel
theorem dX7_overlap_82 : decode cX7_overlap 82 = .ok (.iload_n 3, 1) := by decide +kernel
theorem dX7_overlap_83 : decode cX7_overlap 83 = .ok (.istore_n 3, 1) := by decide +kernel
theorem dX7_overlap_84 : decode cX7_overlap 84 = .ok (.iinc 4 1, 3) := by decide +kernel
theorem dX7_overlap_87 : decode cX7_overlap 87 = .ok (.goto (-52), 3) := by decide +kernel
theorem dX7_overlap_90 : decode cX7_overlap 90 = .ok (.iload_n 3, 1) := by decide +kernel
theorem dX7_overlap_91 : decode cX7_overlap 91 = .ok (.ireturn, 1) := by decide +kernel
theorem dX7_stands_0 : decode cX7_stands 0 = .ok (.aload_n 0, 1) := by decide +kernel
theorem dX7_stands_1 : decode cX7_stands 1 = .ok (.getfield 13, 3) := by decide +kernel
theorem dX7_stands_4 : decode cX7_stands 4 = .ok (.iload_n 1, 1) := by decide +kernel
theorem dX7_stands_5 : decode cX7_stands 5 = .ok (.baload, 1) := by decide +kernel
theorem dX7_stands_6 : decode cX7_stands 6 = .ok (.ifCond .eq 26, 3) := by decide +kernel
theorem dX7_stands_9 : decode cX7_stands 9 = .ok (.iload_n 2, 1) := by decide +kernel
theorem dX7_stands_10 : decode cX7_stands 10 = .ok (.ifCond .lt 22, 3) := by decide +kernel
theorem dX7_stands_13 : decode cX7_stands 13 = .ok (.iload_n 2, 1) := by decide +kernel
theorem dX7_stands_14 : decode cX7_stands 14 = .ok (.aload_n 0, 1) := by decide +kernel
theorem dX7_stands_15 : decode cX7_stands 15 = .ok (.getfield 17, 3) := by decide +kernel
theorem dX7_stands_18 : decode cX7_stands 18 = .ok (.iload_n 1, 1) := by decide +kernel
theorem dX7_stands_19 : decode cX7_stands 19 = .ok (.iaload, 1) := by decide +kernel
theorem dX7_stands_20 : decode cX7_stands 20 = .ok (.iadd, 1) := by decide +kernel
theorem dX7_stands_21 : decode cX7_stands 21 = .ok (.aload_n 0, 1) := by decide +kernel
theorem dX7_stands_22 : decode cX7_stands 22 = .ok (.getfield 67, 3) := by decide +kernel
theorem dX7_stands_25 : decode cX7_stands 25 = .ok (.if_icmp .gt 7, 3) := by decide +kernel
theorem dX7_stands_28 : decode cX7_stands 28 = .ok (.iconst 1, 1) := by decide +kernel
theorem dX7_stands_29 : decode cX7_stands 29 = .ok (.goto 4, 3) := by decide +kernel
theorem dX7_stands_32 : decode cX7_stands 32 = .ok (.iconst 0, 1) := by decide +kernel
theorem dX7_stands_33 : decode cX7_stands 33 = .ok (.istore_n 3, 1) := by decide +kernel
theorem dX7_stands_34 : decode cX7_stands 34 = .ok (.iconst 0, 1) := by decide +kernel
theorem dX7_stands_35 : decode cX7_stands 35 = .ok (.istore 4, 2) := by decide +kernel
theorem dX7_stands_37 : decode cX7_stands 37 = .ok (.iload 4, 2) := by decide +kernel
theorem dX7_stands_39 : decode cX7_stands 39 = .ok (.aload_n 0, 1) := by decide +kernel
theorem dX7_stands_40 : decode cX7_stands 40 = .ok (.getfield 17, 3) := by decide +kernel
theorem dX7_stands_43 : decode cX7_stands 43 = .ok (.iload_n 1, 1) := by decide +kernel
theorem dX7_stands_44 : decode cX7_stands 44 = .ok (.iaload, 1) := by decide +kernel
theorem dX7_stands_45 : decode cX7_stands 45 = .ok (.if_icmp .ge 43, 3) := by decide +kernel
theorem dX7_stands_48 : decode cX7_stands 48 = .ok (.iload_n 3, 1) := by decide +kernel
theorem dX7_stands_49 : decode cX7_stands 49 = .ok (.ifCond .eq 39, 3) := by decide +kernel
theorem dX7_stands_52 : decode cX7_stands 52 = .ok (.aload_n 0, 1) := by decide +kernel
theorem dX7_stands_53 : decode cX7_stands 53 = .ok (.getfield 29, 3) := by decide +kernel
theorem dX7_stands_56 : decode cX7_stands 56 = .ok (.iload_n 2, 1) := by decide +kernel
theorem dX7_stands_57 : decode cX7_stands 57 = .ok (.iload 4, 2) := by decide +kernel
theorem dX7_stands_59 : decode cX7_stands 59 = .ok (.iadd, 1) := by decide +kernel
theorem dX7_stands_60 : decode cX7_stands 60 = .ok (.iaload, 1) := by decide +kernel
theorem dX7_stands_61 : decode cX7_stands 61 = .ok (.aload_n 0, 1) := by decide +kernel
theorem dX7_stands_62 : decode cX7_stands 62 = .ok (.getfield 20, 3) := by decide +kernel
theorem dX7_stands_65 : decode cX7_stands 65 = .ok (.bipush 8, 2) := by decide +kernel
theorem dX7_stands_67 : decode cX7_stands 67 = .ok (.iload_n 1, 1) := by decide +kernel
theorem dX7_stands_68 : decode cX7_stands 68 = .ok (.imul, 1) := by decide +kernel
theorem dX7_stands_69 : decode cX7_stands 69 = .ok (.iload 4, 2) := by decide +kernel
theorem dX7_stands_71 : decode cX7_stands 71 = .ok (.iadd, 1) := by decide +kernel
theorem dX7_stands_72 : decode cX7_stands 72 = .ok (.iaload, 1) := by decide +kernel
theorem dX7_stands_73 : decode cX7_stands 73 = .ok (.if_icmp .ne 7, 3) := by decide +kernel
theorem dX7_stands_76 : decode cX7_stands 76 = .ok (.iconst 1, 1) := by decide +kernel
theorem dX7_stands_77 : decode cX7_stands 77 = .ok (.goto 4, 3) := by decide +kernel
theorem dX7_stands_80 : decode cX7_stands 80 = .ok (.iconst 0, 1) := by decide +kernel
theorem dX7_stands_81 : decode cX7_stands 81 = .ok (.istore_n 3, 1) := by decide +kernel
theorem dX7_stands_82 : decode cX7_stands 82 = .ok (.iinc 4 1, 3) := by decide +kernel
theorem dX7_stands_85 : decode cX7_stands 85 = .ok (.goto (-48), 3) := by decide +kernel
theorem dX7_stands_88 : decode cX7_stands 88 = .ok (.iload_n 3, 1) := by decide +kernel
theorem dX7_stands_89 : decode cX7_stands 89 = .ok (.ireturn, 1) := by decide +kernel
theorem dX7_endingAt_0 : decode cX7_endingAt 0 = .ok (.iconst 0, 1) := by decide +kernel
theorem dX7_endingAt_1 : decode cX7_endingAt 1 = .ok (.istore_n 2, 1) := by decide +kernel
theorem dX7_endingAt_2 : decode cX7_endingAt 2 = .ok (.iconst 0, 1) := by decide +kernel
theorem dX7_endingAt_3 : decode cX7_endingAt 3 = .ok (.istore_n 3, 1) := by decide +kernel
theorem dX7_endingAt_4 : decode cX7_endingAt 4 = .ok (.iload_n 3, 1) := by decide +kernel
theorem dX7_endingAt_5 : decode cX7_endingAt 5 = .ok (.aload_n 0, 1) := by decide +kernel
theorem dX7_endingAt_6 : decode cX7_endingAt 6 = .ok (.getfield 36, 3) := by decide +kernel
theorem dX7_endingAt_9 : decode cX7_endingAt 9 = .ok (.if_icmp .ge 33, 3) := by decide +kernel
theorem dX7_endingAt_12 : decode cX7_endingAt 12 = .ok (.iload_n 2, 1) := by decide +kernel
theorem dX7_endingAt_13 : decode cX7_endingAt 13 = .ok (.aload_n 0, 1) := by decide +kernel
theorem dX7_endingAt_14 : decode cX7_endingAt 14 = .ok (.iload_n 3, 1) := by decide +kernel
theorem dX7_endingAt_15 : decode cX7_endingAt 15 = .ok (.iload_n 1, 1) := by decide +kernel
theorem dX7_endingAt_16 : decode cX7_endingAt 16 = .ok (.aload_n 0, 1) := by decide +kernel
theorem dX7_endingAt_17 : decode cX7_endingAt 17 = .ok (.getfield 17, 3) := by decide +kernel
theorem dX7_endingAt_20 : decode cX7_endingAt 20 = .ok (.iload_n 3, 1) := by decide +kernel
theorem dX7_endingAt_21 : decode cX7_endingAt 21 = .ok (.iaload, 1) := by decide +kernel
theorem dX7_endingAt_22 : decode cX7_endingAt 22 = .ok (.isub, 1) := by decide +kernel
theorem dX7_endingAt_23 : decode cX7_endingAt 23 = .ok (.invokevirtual 70, 3) := by decide +kernel
theorem dX7_endingAt_26 : decode cX7_endingAt 26 = .ok (.ifCond .eq 7, 3) := by decide +kernel
theorem dX7_endingAt_29 : decode cX7_endingAt 29 = .ok (.iconst 1, 1) := by decide +kernel
theorem dX7_endingAt_30 : decode cX7_endingAt 30 = .ok (.goto 4, 3) := by decide +kernel
theorem dX7_endingAt_33 : decode cX7_endingAt 33 = .ok (.iconst 0, 1) := by decide +kernel
theorem dX7_endingAt_34 : decode cX7_endingAt 34 = .ok (.iadd, 1) := by decide +kernel
theorem dX7_endingAt_35 : decode cX7_endingAt 35 = .ok (.istore_n 2, 1) := by decide +kernel
theorem dX7_endingAt_36 : decode cX7_endingAt 36 = .ok (.iinc 3 1, 3) := by decide +kernel
theorem dX7_endingAt_39 : decode cX7_endingAt 39 = .ok (.goto (-35), 3) := by decide +kernel
theorem dX7_endingAt_42 : decode cX7_endingAt 42 = .ok (.iload_n 2, 1) := by decide +kernel
theorem dX7_endingAt_43 : decode cX7_endingAt 43 = .ok (.ireturn, 1) := by decide +kernel
theorem dX7_feeds_0 : decode cX7_feeds 0 = .ok (.aload_n 0, 1) := by decide +kernel
theorem dX7_feeds_1 : decode cX7_feeds 1 = .ok (.getfield 29, 3) := by decide +kernel
theorem dX7_feeds_4 : decode cX7_feeds 4 = .ok (.aload_n 0, 1) := by decide +kernel
theorem dX7_feeds_5 : decode cX7_feeds 5 = .ok (.getfield 67, 3) := by decide +kernel
theorem dX7_feeds_8 : decode cX7_feeds 8 = .ok (.iload_n 1, 1) := by decide +kernel
theorem dX7_feeds_9 : decode cX7_feeds 9 = .ok (.iastore, 1) := by decide +kernel
theorem dX7_feeds_10 : decode cX7_feeds 10 = .ok (.aload_n 0, 1) := by decide +kernel
theorem dX7_feeds_11 : decode cX7_feeds 11 = .ok (.dup, 1) := by decide +kernel
theorem dX7_feeds_12 : decode cX7_feeds 12 = .ok (.getfield 67, 3) := by decide +kernel
theorem dX7_feeds_15 : decode cX7_feeds 15 = .ok (.iconst 1, 1) := by decide +kernel
theorem dX7_feeds_16 : decode cX7_feeds 16 = .ok (.iadd, 1) := by decide +kernel
theorem dX7_feeds_17 : decode cX7_feeds 17 = .ok (.putfield 67, 3) := by decide +kernel
theorem dX7_feeds_20 : decode cX7_feeds 20 = .ok (.aload_n 0, 1) := by decide +kernel
theorem dX7_feeds_21 : decode cX7_feeds 21 = .ok (.aload_n 0, 1) := by decide +kernel
theorem dX7_feeds_22 : decode cX7_feeds 22 = .ok (.getfield 67, 3) := by decide +kernel
theorem dX7_feeds_25 : decode cX7_feeds 25 = .ok (.invokevirtual 74, 3) := by decide +kernel
theorem dX7_feeds_28 : decode cX7_feeds 28 = .ok (.istore_n 2, 1) := by decide +kernel
theorem dX7_feeds_29 : decode cX7_feeds 29 = .ok (.aload_n 0, 1) := by decide +kernel
theorem dX7_feeds_30 : decode cX7_feeds 30 = .ok (.dup, 1) := by decide +kernel
theorem dX7_feeds_31 : decode cX7_feeds 31 = .ok (.getfield 78, 3) := by decide +kernel
theorem dX7_feeds_34 : decode cX7_feeds 34 = .ok (.iload_n 2, 1) := by decide +kernel
theorem dX7_feeds_35 : decode cX7_feeds 35 = .ok (.iadd, 1) := by decide +kernel
theorem dX7_feeds_36 : decode cX7_feeds 36 = .ok (.putfield 78, 3) := by decide +kernel
theorem dX7_feeds_39 : decode cX7_feeds 39 = .ok (.iload_n 2, 1) := by decide +kernel
theorem dX7_feeds_40 : decode cX7_feeds 40 = .ok (.ireturn, 1) := by decide +kernel
theorem dX7_feed_0 : decode cX7_feed 0 = .ok (.aload_n 0, 1) := by decide +kernel
theorem dX7_feed_1 : decode cX7_feed 1 = .ok (.iload_n 1, 1) := by decide +kernel
theorem dX7_feed_2 : decode cX7_feed 2 = .ok (.invokestatic 39, 3) := by decide +kernel
theorem dX7_feed_5 : decode cX7_feed 5 = .ok (.ifCond .ne 7, 3) := by decide +kernel
theorem dX7_feed_8 : decode cX7_feed 8 = .ok (.iconst 1, 1) := by decide +kernel
theorem dX7_feed_9 : decode cX7_feed 9 = .ok (.goto 18, 3) := by decide +kernel
theorem dX7_feed_12 : decode cX7_feed 12 = .ok (.aload_n 0, 1) := by decide +kernel
theorem dX7_feed_13 : decode cX7_feed 13 = .ok (.getfield 67, 3) := by decide +kernel
theorem dX7_feed_16 : decode cX7_feed 16 = .ok (.sipush 200, 3) := by decide +kernel
theorem dX7_feed_19 : decode cX7_feed 19 = .ok (.if_icmp .ne 7, 3) := by decide +kernel
theorem dX7_feed_22 : decode cX7_feed 22 = .ok (.iconst 2, 1) := by decide +kernel
theorem dX7_feed_23 : decode cX7_feed 23 = .ok (.goto 4, 3) := by decide +kernel
theorem dX7_feed_26 : decode cX7_feed 26 = .ok (.iconst 0, 1) := by decide +kernel
theorem dX7_feed_27 : decode cX7_feed 27 = .ok (.invokevirtual 46, 3) := by decide +kernel
theorem dX7_feed_30 : decode cX7_feed 30 = .ok (.ifCond .ne 5, 3) := by decide +kernel
theorem dX7_feed_33 : decode cX7_feed 33 = .ok (.iconst 0, 1) := by decide +kernel
theorem dX7_feed_34 : decode cX7_feed 34 = .ok (.ireturn, 1) := by decide +kernel
theorem dX7_feed_35 : decode cX7_feed 35 = .ok (.aload_n 0, 1) := by decide +kernel
theorem dX7_feed_36 : decode cX7_feed 36 = .ok (.iload_n 1, 1) := by decide +kernel
theorem dX7_feed_37 : decode cX7_feed 37 = .ok (.invokevirtual 81, 3) := by decide +kernel
theorem dX7_feed_40 : decode cX7_feed 40 = .ok (.ireturn, 1) := by decide +kernel
theorem dX7_feedPattern_0 : decode cX7_feedPattern 0 = .ok (.aload_n 0, 1) := by decide +kernel
theorem dX7_feedPattern_1 : decode cX7_feedPattern 1 = .ok (.iload_n 1, 1) := by decide +kernel
theorem dX7_feedPattern_2 : decode cX7_feedPattern 2 = .ok (.invokevirtual 57, 3) := by decide +kernel
theorem dX7_feedPattern_5 : decode cX7_feedPattern 5 = .ok (.istore_n 2, 1) := by decide +kernel
theorem dX7_feedPattern_6 : decode cX7_feedPattern 6 = .ok (.aload_n 0, 1) := by decide +kernel
theorem dX7_feedPattern_7 : decode cX7_feedPattern 7 = .ok (.iload_n 2, 1) := by decide +kernel
theorem dX7_feedPattern_8 : decode cX7_feedPattern 8 = .ok (.ifCond .ne 7, 3) := by decide +kernel
theorem dX7_feedPattern_11 : decode cX7_feedPattern 11 = .ok (.iconst 1, 1) := by decide +kernel
theorem dX7_feedPattern_12 : decode cX7_feedPattern 12 = .ok (.goto 25, 3) := by decide +kernel
theorem dX7_feedPattern_15 : decode cX7_feedPattern 15 = .ok (.aload_n 0, 1) := by decide +kernel
theorem dX7_feedPattern_16 : decode cX7_feedPattern 16 = .ok (.getfield 67, 3) := by decide +kernel
theorem dX7_feedPattern_19 : decode cX7_feedPattern 19 = .ok (.aload_n 0, 1) := by decide +kernel
theorem dX7_feedPattern_20 : decode cX7_feedPattern 20 = .ok (.getfield 17, 3) := by decide +kernel
theorem dX7_feedPattern_23 : decode cX7_feedPattern 23 = .ok (.iload_n 1, 1) := by decide +kernel
theorem dX7_feedPattern_24 : decode cX7_feedPattern 24 = .ok (.iaload, 1) := by decide +kernel
theorem dX7_feedPattern_25 : decode cX7_feedPattern 25 = .ok (.iadd, 1) := by decide +kernel
theorem dX7_feedPattern_26 : decode cX7_feedPattern 26 = .ok (.sipush 200, 3) := by decide +kernel
theorem dX7_feedPattern_29 : decode cX7_feedPattern 29 = .ok (.if_icmp .le 7, 3) := by decide +kernel
theorem dX7_feedPattern_32 : decode cX7_feedPattern 32 = .ok (.iconst 2, 1) := by decide +kernel
theorem dX7_feedPattern_33 : decode cX7_feedPattern 33 = .ok (.goto 4, 3) := by decide +kernel
theorem dX7_feedPattern_36 : decode cX7_feedPattern 36 = .ok (.iconst 0, 1) := by decide +kernel
theorem dX7_feedPattern_37 : decode cX7_feedPattern 37 = .ok (.invokevirtual 46, 3) := by decide +kernel
theorem dX7_feedPattern_40 : decode cX7_feedPattern 40 = .ok (.ifCond .ne 5, 3) := by decide +kernel
theorem dX7_feedPattern_43 : decode cX7_feedPattern 43 = .ok (.iconst 0, 1) := by decide +kernel
theorem dX7_feedPattern_44 : decode cX7_feedPattern 44 = .ok (.ireturn, 1) := by decide +kernel
theorem dX7_feedPattern_45 : decode cX7_feedPattern 45 = .ok (.iconst 0, 1) := by decide +kernel
theorem dX7_feedPattern_46 : decode cX7_feedPattern 46 = .ok (.istore_n 3, 1) := by decide +kernel
theorem dX7_feedPattern_47 : decode cX7_feedPattern 47 = .ok (.iconst 0, 1) := by decide +kernel
theorem dX7_feedPattern_48 : decode cX7_feedPattern 48 = .ok (.istore 4, 2) := by decide +kernel
theorem dX7_feedPattern_50 : decode cX7_feedPattern 50 = .ok (.iload 4, 2) := by decide +kernel
theorem dX7_feedPattern_52 : decode cX7_feedPattern 52 = .ok (.aload_n 0, 1) := by decide +kernel
theorem dX7_feedPattern_53 : decode cX7_feedPattern 53 = .ok (.getfield 17, 3) := by decide +kernel
theorem dX7_feedPattern_56 : decode cX7_feedPattern 56 = .ok (.iload_n 1, 1) := by decide +kernel
theorem dX7_feedPattern_57 : decode cX7_feedPattern 57 = .ok (.iaload, 1) := by decide +kernel
theorem dX7_feedPattern_58 : decode cX7_feedPattern 58 = .ok (.if_icmp .ge 28, 3) := by decide +kernel
theorem dX7_feedPattern_61 : decode cX7_feedPattern 61 = .ok (.iload_n 3, 1) := by decide +kernel
theorem dX7_feedPattern_62 : decode cX7_feedPattern 62 = .ok (.aload_n 0, 1) := by decide +kernel
theorem dX7_feedPattern_63 : decode cX7_feedPattern 63 = .ok (.aload_n 0, 1) := by decide +kernel
theorem dX7_feedPattern_64 : decode cX7_feedPattern 64 = .ok (.getfield 20, 3) := by decide +kernel
theorem dX7_feedPattern_67 : decode cX7_feedPattern 67 = .ok (.bipush 8, 2) := by decide +kernel
theorem dX7_feedPattern_69 : decode cX7_feedPattern 69 = .ok (.iload_n 1, 1) := by decide +kernel
theorem dX7_feedPattern_70 : decode cX7_feedPattern 70 = .ok (.imul, 1) := by decide +kernel
theorem dX7_feedPattern_71 : decode cX7_feedPattern 71 = .ok (.iload 4, 2) := by decide +kernel
theorem dX7_feedPattern_73 : decode cX7_feedPattern 73 = .ok (.iadd, 1) := by decide +kernel
theorem dX7_feedPattern_74 : decode cX7_feedPattern 74 = .ok (.iaload, 1) := by decide +kernel
theorem dX7_feedPattern_75 : decode cX7_feedPattern 75 = .ok (.invokevirtual 81, 3) := by decide +kernel
theorem dX7_feedPattern_78 : decode cX7_feedPattern 78 = .ok (.iadd, 1) := by decide +kernel
theorem dX7_feedPattern_79 : decode cX7_feedPattern 79 = .ok (.istore_n 3, 1) := by decide +kernel
theorem dX7_feedPattern_80 : decode cX7_feedPattern 80 = .ok (.iinc 4 1, 3) := by decide +kernel
theorem dX7_feedPattern_83 : decode cX7_feedPattern 83 = .ok (.goto (-33), 3) := by decide +kernel
theorem dX7_feedPattern_86 : decode cX7_feedPattern 86 = .ok (.iload_n 3, 1) := by decide +kernel
theorem dX7_feedPattern_87 : decode cX7_feedPattern 87 = .ok (.ireturn, 1) := by decide +kernel
theorem dX7_clear_0 : decode cX7_clear 0 = .ok (.aload_n 0, 1) := by decide +kernel
theorem dX7_clear_1 : decode cX7_clear 1 = .ok (.iconst 0, 1) := by decide +kernel
theorem dX7_clear_2 : decode cX7_clear 2 = .ok (.putfield 32, 3) := by decide +kernel
theorem dX7_clear_5 : decode cX7_clear 5 = .ok (.aload_n 0, 1) := by decide +kernel
theorem dX7_clear_6 : decode cX7_clear 6 = .ok (.getfield 67, 3) := by decide +kernel
theorem dX7_clear_9 : decode cX7_clear 9 = .ok (.istore_n 1, 1) := by decide +kernel
theorem dX7_clear_10 : decode cX7_clear 10 = .ok (.aload_n 0, 1) := by decide +kernel
theorem dX7_clear_11 : decode cX7_clear 11 = .ok (.iconst 0, 1) := by decide +kernel
theorem dX7_clear_12 : decode cX7_clear 12 = .ok (.putfield 67, 3) := by decide +kernel
theorem dX7_clear_15 : decode cX7_clear 15 = .ok (.aload_n 0, 1) := by decide +kernel
theorem dX7_clear_16 : decode cX7_clear 16 = .ok (.iconst 0, 1) := by decide +kernel
theorem dX7_clear_17 : decode cX7_clear 17 = .ok (.putfield 78, 3) := by decide +kernel
theorem dX7_clear_20 : decode cX7_clear 20 = .ok (.iload_n 1, 1) := by decide +kernel
theorem dX7_clear_21 : decode cX7_clear 21 = .ok (.ireturn, 1) := by decide +kernel
theorem dX7_streamLength_0 : decode cX7_streamLength 0 = .ok (.aload_n 0, 1) := by decide +kernel
theorem dX7_streamLength_1 : decode cX7_streamLength 1 = .ok (.iconst 0, 1) := by decide +kernel
theorem dX7_streamLength_2 : decode cX7_streamLength 2 = .ok (.putfield 32, 3) := by decide +kernel
theorem dX7_streamLength_5 : decode cX7_streamLength 5 = .ok (.aload_n 0, 1) := by decide +kernel
theorem dX7_streamLength_6 : decode cX7_streamLength 6 = .ok (.getfield 67, 3) := by decide +kernel
theorem dX7_streamLength_9 : decode cX7_streamLength 9 = .ok (.ireturn, 1) := by decide +kernel
theorem dX7_isBeginning_0 : decode cX7_isBeginning 0 = .ok (.aload_n 0, 1) := by decide +kernel
theorem dX7_isBeginning_1 : decode cX7_isBeginning 1 = .ok (.getfield 13, 3) := by decide +kernel
theorem dX7_isBeginning_4 : decode cX7_isBeginning 4 = .ok (.iload_n 2, 1) := by decide +kernel
theorem dX7_isBeginning_5 : decode cX7_isBeginning 5 = .ok (.baload, 1) := by decide +kernel
theorem dX7_isBeginning_6 : decode cX7_isBeginning 6 = .ok (.ifCond .eq 22, 3) := by decide +kernel
theorem dX7_isBeginning_9 : decode cX7_isBeginning 9 = .ok (.aload_n 0, 1) := by decide +kernel
theorem dX7_isBeginning_10 : decode cX7_isBeginning 10 = .ok (.getfield 67, 3) := by decide +kernel
theorem dX7_isBeginning_13 : decode cX7_isBeginning 13 = .ok (.iload_n 1, 1) := by decide +kernel
theorem dX7_isBeginning_14 : decode cX7_isBeginning 14 = .ok (.isub, 1) := by decide +kernel
theorem dX7_isBeginning_15 : decode cX7_isBeginning 15 = .ok (.aload_n 0, 1) := by decide +kernel
theorem dX7_isBeginning_16 : decode cX7_isBeginning 16 = .ok (.getfield 17, 3) := by decide +kernel
theorem dX7_isBeginning_19 : decode cX7_isBeginning 19 = .ok (.iload_n 2, 1) := by decide +kernel
theorem dX7_isBeginning_20 : decode cX7_isBeginning 20 = .ok (.iaload, 1) := by decide +kernel
theorem dX7_isBeginning_21 : decode cX7_isBeginning 21 = .ok (.if_icmp .gt 7, 3) := by decide +kernel
theorem dX7_isBeginning_24 : decode cX7_isBeginning 24 = .ok (.iconst 1, 1) := by decide +kernel
theorem dX7_isBeginning_25 : decode cX7_isBeginning 25 = .ok (.goto 4, 3) := by decide +kernel
theorem dX7_isBeginning_28 : decode cX7_isBeginning 28 = .ok (.iconst 0, 1) := by decide +kernel
theorem dX7_isBeginning_29 : decode cX7_isBeginning 29 = .ok (.istore_n 3, 1) := by decide +kernel
theorem dX7_isBeginning_30 : decode cX7_isBeginning 30 = .ok (.iconst 0, 1) := by decide +kernel
theorem dX7_isBeginning_31 : decode cX7_isBeginning 31 = .ok (.istore 4, 2) := by decide +kernel
theorem dX7_isBeginning_33 : decode cX7_isBeginning 33 = .ok (.iload 4, 2) := by decide +kernel
theorem dX7_isBeginning_35 : decode cX7_isBeginning 35 = .ok (.aload_n 0, 1) := by decide +kernel
theorem dX7_isBeginning_36 : decode cX7_isBeginning 36 = .ok (.getfield 67, 3) := by decide +kernel
theorem dX7_isBeginning_39 : decode cX7_isBeginning 39 = .ok (.iload_n 1, 1) := by decide +kernel
theorem dX7_isBeginning_40 : decode cX7_isBeginning 40 = .ok (.isub, 1) := by decide +kernel
theorem dX7_isBeginning_41 : decode cX7_isBeginning 41 = .ok (.if_icmp .ge 43, 3) := by decide +kernel
theorem dX7_isBeginning_44 : decode cX7_isBeginning 44 = .ok (.iload_n 3, 1) := by decide +kernel
theorem dX7_isBeginning_45 : decode cX7_isBeginning 45 = .ok (.ifCond .eq 39, 3) := by decide +kernel
theorem dX7_isBeginning_48 : decode cX7_isBeginning 48 = .ok (.aload_n 0, 1) := by decide +kernel
theorem dX7_isBeginning_49 : decode cX7_isBeginning 49 = .ok (.getfield 29, 3) := by decide +kernel
theorem dX7_isBeginning_52 : decode cX7_isBeginning 52 = .ok (.iload_n 1, 1) := by decide +kernel
theorem dX7_isBeginning_53 : decode cX7_isBeginning 53 = .ok (.iload 4, 2) := by decide +kernel
theorem dX7_isBeginning_55 : decode cX7_isBeginning 55 = .ok (.iadd, 1) := by decide +kernel
theorem dX7_isBeginning_56 : decode cX7_isBeginning 56 = .ok (.iaload, 1) := by decide +kernel
theorem dX7_isBeginning_57 : decode cX7_isBeginning 57 = .ok (.aload_n 0, 1) := by decide +kernel
theorem dX7_isBeginning_58 : decode cX7_isBeginning 58 = .ok (.getfield 20, 3) := by decide +kernel
theorem dX7_isBeginning_61 : decode cX7_isBeginning 61 = .ok (.bipush 8, 2) := by decide +kernel
theorem dX7_isBeginning_63 : decode cX7_isBeginning 63 = .ok (.iload_n 2, 1) := by decide +kernel
theorem dX7_isBeginning_64 : decode cX7_isBeginning 64 = .ok (.imul, 1) := by decide +kernel
theorem dX7_isBeginning_65 : decode cX7_isBeginning 65 = .ok (.iload 4, 2) := by decide +kernel
theorem dX7_isBeginning_67 : decode cX7_isBeginning 67 = .ok (.iadd, 1) := by decide +kernel
theorem dX7_isBeginning_68 : decode cX7_isBeginning 68 = .ok (.iaload, 1) := by decide +kernel
theorem dX7_isBeginning_69 : decode cX7_isBeginning 69 = .ok (.if_icmp .ne 7, 3) := by decide +kernel
theorem dX7_isBeginning_72 : decode cX7_isBeginning 72 = .ok (.iconst 1, 1) := by decide +kernel
theorem dX7_isBeginning_73 : decode cX7_isBeginning 73 = .ok (.goto 4, 3) := by decide +kernel
theorem dX7_isBeginning_76 : decode cX7_isBeginning 76 = .ok (.iconst 0, 1) := by decide +kernel
theorem dX7_isBeginning_77 : decode cX7_isBeginning 77 = .ok (.istore_n 3, 1) := by decide +kernel
theorem dX7_isBeginning_78 : decode cX7_isBeginning 78 = .ok (.iinc 4 1, 3) := by decide +kernel
theorem dX7_isBeginning_81 : decode cX7_isBeginning 81 = .ok (.goto (-48), 3) := by decide +kernel
theorem dX7_isBeginning_84 : decode cX7_isBeginning 84 = .ok (.iload_n 3, 1) := by decide +kernel
theorem dX7_isBeginning_85 : decode cX7_isBeginning 85 = .ok (.ireturn, 1) := by decide +kernel
theorem dX7_depth_0 : decode cX7_depth 0 = .ok (.aload_n 0, 1) := by decide +kernel
theorem dX7_depth_1 : decode cX7_depth 1 = .ok (.iconst 0, 1) := by decide +kernel
theorem dX7_depth_2 : decode cX7_depth 2 = .ok (.putfield 32, 3) := by decide +kernel
theorem dX7_depth_5 : decode cX7_depth 5 = .ok (.iconst 0, 1) := by decide +kernel
theorem dX7_depth_6 : decode cX7_depth 6 = .ok (.istore_n 1, 1) := by decide +kernel
theorem dX7_depth_7 : decode cX7_depth 7 = .ok (.iconst 1, 1) := by decide +kernel
theorem dX7_depth_8 : decode cX7_depth 8 = .ok (.istore_n 2, 1) := by decide +kernel
theorem dX7_depth_9 : decode cX7_depth 9 = .ok (.iload_n 2, 1) := by decide +kernel
theorem dX7_depth_10 : decode cX7_depth 10 = .ok (.bipush 8, 2) := by decide +kernel
theorem dX7_depth_12 : decode cX7_depth 12 = .ok (.if_icmp .gt 53, 3) := by decide +kernel
theorem dX7_depth_15 : decode cX7_depth 15 = .ok (.iload_n 2, 1) := by decide +kernel
theorem dX7_depth_16 : decode cX7_depth 16 = .ok (.aload_n 0, 1) := by decide +kernel
theorem dX7_depth_17 : decode cX7_depth 17 = .ok (.getfield 67, 3) := by decide +kernel
theorem dX7_depth_20 : decode cX7_depth 20 = .ok (.if_icmp .gt 45, 3) := by decide +kernel
theorem dX7_depth_23 : decode cX7_depth 23 = .ok (.iconst 0, 1) := by decide +kernel
theorem dX7_depth_24 : decode cX7_depth 24 = .ok (.istore_n 3, 1) := by decide +kernel
theorem dX7_depth_25 : decode cX7_depth 25 = .ok (.iload_n 3, 1) := by decide +kernel
theorem dX7_depth_26 : decode cX7_depth 26 = .ok (.aload_n 0, 1) := by decide +kernel
theorem dX7_depth_27 : decode cX7_depth 27 = .ok (.getfield 36, 3) := by decide +kernel
theorem dX7_depth_30 : decode cX7_depth 30 = .ok (.if_icmp .ge 29, 3) := by decide +kernel
theorem dX7_depth_33 : decode cX7_depth 33 = .ok (.aload_n 0, 1) := by decide +kernel
theorem dX7_depth_34 : decode cX7_depth 34 = .ok (.aload_n 0, 1) := by decide +kernel
theorem dX7_depth_35 : decode cX7_depth 35 = .ok (.getfield 67, 3) := by decide +kernel
theorem dX7_depth_38 : decode cX7_depth 38 = .ok (.iload_n 2, 1) := by decide +kernel
theorem dX7_depth_39 : decode cX7_depth 39 = .ok (.isub, 1) := by decide +kernel
theorem dX7_depth_40 : decode cX7_depth 40 = .ok (.iload_n 3, 1) := by decide +kernel
theorem dX7_depth_41 : decode cX7_depth 41 = .ok (.invokevirtual 84, 3) := by decide +kernel
theorem dX7_depth_44 : decode cX7_depth 44 = .ok (.ifCond .eq 7, 3) := by decide +kernel
theorem dX7_depth_47 : decode cX7_depth 47 = .ok (.iload_n 2, 1) := by decide +kernel
theorem dX7_depth_48 : decode cX7_depth 48 = .ok (.goto 4, 3) := by decide +kernel
theorem dX7_depth_51 : decode cX7_depth 51 = .ok (.iload_n 1, 1) := by decide +kernel
theorem dX7_depth_52 : decode cX7_depth 52 = .ok (.istore_n 1, 1) := by decide +kernel
theorem dX7_depth_53 : decode cX7_depth 53 = .ok (.iinc 3 1, 3) := by decide +kernel
theorem dX7_depth_56 : decode cX7_depth 56 = .ok (.goto (-31), 3) := by decide +kernel
theorem dX7_depth_59 : decode cX7_depth 59 = .ok (.iinc 2 1, 3) := by decide +kernel
theorem dX7_depth_62 : decode cX7_depth 62 = .ok (.goto (-53), 3) := by decide +kernel
theorem dX7_depth_65 : decode cX7_depth 65 = .ok (.iload_n 1, 1) := by decide +kernel
theorem dX7_depth_66 : decode cX7_depth 66 = .ok (.ireturn, 1) := by decide +kernel
theorem dX7_ending_0 : decode cX7_ending 0 = .ok (.aload_n 0, 1) := by decide +kernel
theorem dX7_ending_1 : decode cX7_ending 1 = .ok (.iconst 0, 1) := by decide +kernel
theorem dX7_ending_2 : decode cX7_ending 2 = .ok (.putfield 32, 3) := by decide +kernel
theorem dX7_ending_5 : decode cX7_ending 5 = .ok (.aload_n 0, 1) := by decide +kernel
theorem dX7_ending_6 : decode cX7_ending 6 = .ok (.getfield 67, 3) := by decide +kernel
theorem dX7_ending_9 : decode cX7_ending 9 = .ok (.ifCond .ne 7, 3) := by decide +kernel
theorem dX7_ending_12 : decode cX7_ending 12 = .ok (.iconst 0, 1) := by decide +kernel
theorem dX7_ending_13 : decode cX7_ending 13 = .ok (.goto 11, 3) := by decide +kernel
theorem dX7_ending_16 : decode cX7_ending 16 = .ok (.aload_n 0, 1) := by decide +kernel
theorem dX7_ending_17 : decode cX7_ending 17 = .ok (.aload_n 0, 1) := by decide +kernel
theorem dX7_ending_18 : decode cX7_ending 18 = .ok (.getfield 67, 3) := by decide +kernel
theorem dX7_ending_21 : decode cX7_ending 21 = .ok (.invokevirtual 74, 3) := by decide +kernel
theorem dX7_ending_24 : decode cX7_ending 24 = .ok (.ireturn, 1) := by decide +kernel
theorem dX7_endingPattern_0 : decode cX7_endingPattern 0 = .ok (.iload_n 1, 1) := by decide +kernel
theorem dX7_endingPattern_1 : decode cX7_endingPattern 1 = .ok (.istore_n 2, 1) := by decide +kernel
theorem dX7_endingPattern_2 : decode cX7_endingPattern 2 = .ok (.iconst (-1), 1) := by decide +kernel
theorem dX7_endingPattern_3 : decode cX7_endingPattern 3 = .ok (.istore_n 3, 1) := by decide +kernel
theorem dX7_endingPattern_4 : decode cX7_endingPattern 4 = .ok (.bipush 8, 2) := by decide +kernel
theorem dX7_endingPattern_6 : decode cX7_endingPattern 6 = .ok (.istore 4, 2) := by decide +kernel
theorem dX7_endingPattern_8 : decode cX7_endingPattern 8 = .ok (.iload 4, 2) := by decide +kernel
theorem dX7_endingPattern_10 : decode cX7_endingPattern 10 = .ok (.ifCond .le 77, 3) := by decide +kernel
theorem dX7_endingPattern_13 : decode cX7_endingPattern 13 = .ok (.iload_n 2, 1) := by decide +kernel
theorem dX7_endingPattern_14 : decode cX7_endingPattern 14 = .ok (.ifCond .lt 73, 3) := by decide +kernel
theorem dX7_endingPattern_17 : decode cX7_endingPattern 17 = .ok (.iconst 0, 1) := by decide +kernel
theorem dX7_endingPattern_18 : decode cX7_endingPattern 18 = .ok (.istore 5, 2) := by decide +kernel
theorem dX7_endingPattern_20 : decode cX7_endingPattern 20 = .ok (.iload 5, 2) := by decide +kernel
theorem dX7_endingPattern_22 : decode cX7_endingPattern 22 = .ok (.aload_n 0, 1) := by decide +kernel
theorem dX7_endingPattern_23 : decode cX7_endingPattern 23 = .ok (.getfield 36, 3) := by decide +kernel
theorem dX7_endingPattern_26 : decode cX7_endingPattern 26 = .ok (.if_icmp .ge 55, 3) := by decide +kernel
theorem dX7_endingPattern_29 : decode cX7_endingPattern 29 = .ok (.iload_n 2, 1) := by decide +kernel
theorem dX7_endingPattern_30 : decode cX7_endingPattern 30 = .ok (.ifCond .lt 51, 3) := by decide +kernel
theorem dX7_endingPattern_33 : decode cX7_endingPattern 33 = .ok (.aload_n 0, 1) := by decide +kernel
theorem dX7_endingPattern_34 : decode cX7_endingPattern 34 = .ok (.getfield 17, 3) := by decide +kernel
theorem dX7_endingPattern_37 : decode cX7_endingPattern 37 = .ok (.iload 5, 2) := by decide +kernel
theorem dX7_endingPattern_39 : decode cX7_endingPattern 39 = .ok (.iaload, 1) := by decide +kernel
theorem dX7_endingPattern_40 : decode cX7_endingPattern 40 = .ok (.iload 4, 2) := by decide +kernel
theorem dX7_endingPattern_42 : decode cX7_endingPattern 42 = .ok (.if_icmp .ne 33, 3) := by decide +kernel
theorem dX7_endingPattern_45 : decode cX7_endingPattern 45 = .ok (.aload_n 0, 1) := by decide +kernel
theorem dX7_endingPattern_46 : decode cX7_endingPattern 46 = .ok (.iload 5, 2) := by decide +kernel
theorem dX7_endingPattern_48 : decode cX7_endingPattern 48 = .ok (.aload_n 0, 1) := by decide +kernel
theorem dX7_endingPattern_49 : decode cX7_endingPattern 49 = .ok (.getfield 67, 3) := by decide +kernel
theorem dX7_endingPattern_52 : decode cX7_endingPattern 52 = .ok (.iload 4, 2) := by decide +kernel
theorem dX7_endingPattern_54 : decode cX7_endingPattern 54 = .ok (.isub, 1) := by decide +kernel
theorem dX7_endingPattern_55 : decode cX7_endingPattern 55 = .ok (.invokevirtual 70, 3) := by decide +kernel
theorem dX7_endingPattern_58 : decode cX7_endingPattern 58 = .ok (.ifCond .eq 17, 3) := by decide +kernel
theorem dX7_endingPattern_61 : decode cX7_endingPattern 61 = .ok (.iload_n 2, 1) := by decide +kernel
theorem dX7_endingPattern_62 : decode cX7_endingPattern 62 = .ok (.ifCond .ne 8, 3) := by decide +kernel
theorem dX7_endingPattern_65 : decode cX7_endingPattern 65 = .ok (.iload 5, 2) := by decide +kernel
theorem dX7_endingPattern_67 : decode cX7_endingPattern 67 = .ok (.goto 4, 3) := by decide +kernel
theorem dX7_endingPattern_70 : decode cX7_endingPattern 70 = .ok (.iload_n 3, 1) := by decide +kernel
theorem dX7_endingPattern_71 : decode cX7_endingPattern 71 = .ok (.istore_n 3, 1) := by decide +kernel
theorem dX7_endingPattern_72 : decode cX7_endingPattern 72 = .ok (.iinc 2 (-1), 3) := by decide +kernel
theorem dX7_endingPattern_75 : decode cX7_endingPattern 75 = .ok (.iinc 5 1, 3) := by decide +kernel
theorem dX7_endingPattern_78 : decode cX7_endingPattern 78 = .ok (.goto (-58), 3) := by decide +kernel
theorem dX7_endingPattern_81 : decode cX7_endingPattern 81 = .ok (.iinc 4 (-1), 3) := by decide +kernel
theorem dX7_endingPattern_84 : decode cX7_endingPattern 84 = .ok (.goto (-76), 3) := by decide +kernel
theorem dX7_endingPattern_87 : decode cX7_endingPattern 87 = .ok (.aload_n 0, 1) := by decide +kernel
theorem dX7_endingPattern_88 : decode cX7_endingPattern 88 = .ok (.iload_n 3, 1) := by decide +kernel
theorem dX7_endingPattern_89 : decode cX7_endingPattern 89 = .ok (.iconst (-1), 1) := by decide +kernel
theorem dX7_endingPattern_90 : decode cX7_endingPattern 90 = .ok (.if_icmp .ne 7, 3) := by decide +kernel
theorem dX7_endingPattern_93 : decode cX7_endingPattern 93 = .ok (.iconst 1, 1) := by decide +kernel
theorem dX7_endingPattern_94 : decode cX7_endingPattern 94 = .ok (.goto 4, 3) := by decide +kernel
theorem dX7_endingPattern_97 : decode cX7_endingPattern 97 = .ok (.iconst 0, 1) := by decide +kernel
theorem dX7_endingPattern_98 : decode cX7_endingPattern 98 = .ok (.invokevirtual 46, 3) := by decide +kernel
theorem dX7_endingPattern_101 : decode cX7_endingPattern 101 = .ok (.ifCond .eq 7, 3) := by decide +kernel
theorem dX7_endingPattern_104 : decode cX7_endingPattern 104 = .ok (.iload_n 3, 1) := by decide +kernel
theorem dX7_endingPattern_105 : decode cX7_endingPattern 105 = .ok (.goto 4, 3) := by decide +kernel
theorem dX7_endingPattern_108 : decode cX7_endingPattern 108 = .ok (.iconst 0, 1) := by decide +kernel
theorem dX7_endingPattern_109 : decode cX7_endingPattern 109 = .ok (.ireturn, 1) := by decide +kernel
theorem dX7_countOf_0 : decode cX7_countOf 0 = .ok (.iconst 0, 1) := by decide +kernel
theorem dX7_countOf_1 : decode cX7_countOf 1 = .ok (.istore_n 2, 1) := by decide +kernel
theorem dX7_countOf_2 : decode cX7_countOf 2 = .ok (.iconst 0, 1) := by decide +kernel
theorem dX7_countOf_3 : decode cX7_countOf 3 = .ok (.istore_n 3, 1) := by decide +kernel
theorem dX7_countOf_4 : decode cX7_countOf 4 = .ok (.iload_n 3, 1) := by decide +kernel
theorem dX7_countOf_5 : decode cX7_countOf 5 = .ok (.aload_n 0, 1) := by decide +kernel
theorem dX7_countOf_6 : decode cX7_countOf 6 = .ok (.getfield 67, 3) := by decide +kernel
theorem dX7_countOf_9 : decode cX7_countOf 9 = .ok (.if_icmp .ge 26, 3) := by decide +kernel
theorem dX7_countOf_12 : decode cX7_countOf 12 = .ok (.iload_n 2, 1) := by decide +kernel
theorem dX7_countOf_13 : decode cX7_countOf 13 = .ok (.aload_n 0, 1) := by decide +kernel
theorem dX7_countOf_14 : decode cX7_countOf 14 = .ok (.iload_n 1, 1) := by decide +kernel
theorem dX7_countOf_15 : decode cX7_countOf 15 = .ok (.iload_n 3, 1) := by decide +kernel
theorem dX7_countOf_16 : decode cX7_countOf 16 = .ok (.invokevirtual 70, 3) := by decide +kernel
theorem dX7_countOf_19 : decode cX7_countOf 19 = .ok (.ifCond .eq 7, 3) := by decide +kernel
theorem dX7_countOf_22 : decode cX7_countOf 22 = .ok (.iconst 1, 1) := by decide +kernel
theorem dX7_countOf_23 : decode cX7_countOf 23 = .ok (.goto 4, 3) := by decide +kernel
theorem dX7_countOf_26 : decode cX7_countOf 26 = .ok (.iconst 0, 1) := by decide +kernel
theorem dX7_countOf_27 : decode cX7_countOf 27 = .ok (.iadd, 1) := by decide +kernel
theorem dX7_countOf_28 : decode cX7_countOf 28 = .ok (.istore_n 2, 1) := by decide +kernel
theorem dX7_countOf_29 : decode cX7_countOf 29 = .ok (.iinc 3 1, 3) := by decide +kernel
theorem dX7_countOf_32 : decode cX7_countOf 32 = .ok (.goto (-28), 3) := by decide +kernel
theorem dX7_countOf_35 : decode cX7_countOf 35 = .ok (.iload_n 2, 1) := by decide +kernel
theorem dX7_countOf_36 : decode cX7_countOf 36 = .ok (.ireturn, 1) := by decide +kernel
theorem dX7_occurrences_0 : decode cX7_occurrences 0 = .ok (.aload_n 0, 1) := by decide +kernel
theorem dX7_occurrences_1 : decode cX7_occurrences 1 = .ok (.iconst 0, 1) := by decide +kernel
theorem dX7_occurrences_2 : decode cX7_occurrences 2 = .ok (.putfield 32, 3) := by decide +kernel
theorem dX7_occurrences_5 : decode cX7_occurrences 5 = .ok (.iconst 0, 1) := by decide +kernel
theorem dX7_occurrences_6 : decode cX7_occurrences 6 = .ok (.istore_n 1, 1) := by decide +kernel
theorem dX7_occurrences_7 : decode cX7_occurrences 7 = .ok (.iconst 0, 1) := by decide +kernel
theorem dX7_occurrences_8 : decode cX7_occurrences 8 = .ok (.istore_n 2, 1) := by decide +kernel
theorem dX7_occurrences_9 : decode cX7_occurrences 9 = .ok (.iload_n 2, 1) := by decide +kernel
theorem dX7_occurrences_10 : decode cX7_occurrences 10 = .ok (.aload_n 0, 1) := by decide +kernel
theorem dX7_occurrences_11 : decode cX7_occurrences 11 = .ok (.getfield 36, 3) := by decide +kernel
theorem dX7_occurrences_14 : decode cX7_occurrences 14 = .ok (.if_icmp .ge 17, 3) := by decide +kernel
theorem dX7_occurrences_17 : decode cX7_occurrences 17 = .ok (.iload_n 1, 1) := by decide +kernel
theorem dX7_occurrences_18 : decode cX7_occurrences 18 = .ok (.aload_n 0, 1) := by decide +kernel
theorem dX7_occurrences_19 : decode cX7_occurrences 19 = .ok (.iload_n 2, 1) := by decide +kernel
theorem dX7_occurrences_20 : decode cX7_occurrences 20 = .ok (.invokevirtual 87, 3) := by decide +kernel
theorem dX7_occurrences_23 : decode cX7_occurrences 23 = .ok (.iadd, 1) := by decide +kernel
theorem dX7_occurrences_24 : decode cX7_occurrences 24 = .ok (.istore_n 1, 1) := by decide +kernel
theorem dX7_occurrences_25 : decode cX7_occurrences 25 = .ok (.iinc 2 1, 3) := by decide +kernel
theorem dX7_occurrences_28 : decode cX7_occurrences 28 = .ok (.goto (-19), 3) := by decide +kernel
theorem dX7_occurrences_31 : decode cX7_occurrences 31 = .ok (.iload_n 1, 1) := by decide +kernel
theorem dX7_occurrences_32 : decode cX7_occurrences 32 = .ok (.ireturn, 1) := by decide +kernel
theorem dX7_occurrencesOf_0 : decode cX7_occurrencesOf 0 = .ok (.aload_n 0, 1) := by decide +kernel
theorem dX7_occurrencesOf_1 : decode cX7_occurrencesOf 1 = .ok (.iload_n 1, 1) := by decide +kernel
theorem dX7_occurrencesOf_2 : decode cX7_occurrencesOf 2 = .ok (.invokevirtual 60, 3) := by decide +kernel
theorem dX7_occurrencesOf_5 : decode cX7_occurrencesOf 5 = .ok (.ifCond .eq 11, 3) := by decide +kernel
theorem dX7_occurrencesOf_8 : decode cX7_occurrencesOf 8 = .ok (.aload_n 0, 1) := by decide +kernel
theorem dX7_occurrencesOf_9 : decode cX7_occurrencesOf 9 = .ok (.iload_n 1, 1) := by decide +kernel
theorem dX7_occurrencesOf_10 : decode cX7_occurrencesOf 10 = .ok (.invokevirtual 87, 3) := by decide +kernel
theorem dX7_occurrencesOf_13 : decode cX7_occurrencesOf 13 = .ok (.goto 4, 3) := by decide +kernel
theorem dX7_occurrencesOf_16 : decode cX7_occurrencesOf 16 = .ok (.iconst 0, 1) := by decide +kernel
theorem dX7_occurrencesOf_17 : decode cX7_occurrencesOf 17 = .ok (.ireturn, 1) := by decide +kernel
theorem dX7_occurrence_0 : decode cX7_occurrence 0 = .ok (.aload_n 0, 1) := by decide +kernel
theorem dX7_occurrence_1 : decode cX7_occurrence 1 = .ok (.iload_n 1, 1) := by decide +kernel
theorem dX7_occurrence_2 : decode cX7_occurrence 2 = .ok (.invokevirtual 57, 3) := by decide +kernel
theorem dX7_occurrence_5 : decode cX7_occurrence 5 = .ok (.istore_n 3, 1) := by decide +kernel
theorem dX7_occurrence_6 : decode cX7_occurrence 6 = .ok (.aload_n 0, 1) := by decide +kernel
theorem dX7_occurrence_7 : decode cX7_occurrence 7 = .ok (.iload_n 3, 1) := by decide +kernel
theorem dX7_occurrence_8 : decode cX7_occurrence 8 = .ok (.ifCond .ne 7, 3) := by decide +kernel
theorem dX7_occurrence_11 : decode cX7_occurrence 11 = .ok (.iconst 1, 1) := by decide +kernel
theorem dX7_occurrence_12 : decode cX7_occurrence 12 = .ok (.goto 21, 3) := by decide +kernel
theorem dX7_occurrence_15 : decode cX7_occurrence 15 = .ok (.iload_n 2, 1) := by decide +kernel
theorem dX7_occurrence_16 : decode cX7_occurrence 16 = .ok (.ifCond .lt 12, 3) := by decide +kernel
theorem dX7_occurrence_19 : decode cX7_occurrence 19 = .ok (.iload_n 2, 1) := by decide +kernel
theorem dX7_occurrence_20 : decode cX7_occurrence 20 = .ok (.aload_n 0, 1) := by decide +kernel
theorem dX7_occurrence_21 : decode cX7_occurrence 21 = .ok (.iload_n 1, 1) := by decide +kernel
theorem dX7_occurrence_22 : decode cX7_occurrence 22 = .ok (.invokevirtual 87, 3) := by decide +kernel
theorem dX7_occurrence_25 : decode cX7_occurrence 25 = .ok (.if_icmp .lt 7, 3) := by decide +kernel
theorem dX7_occurrence_28 : decode cX7_occurrence 28 = .ok (.iconst 2, 1) := by decide +kernel
theorem dX7_occurrence_29 : decode cX7_occurrence 29 = .ok (.goto 4, 3) := by decide +kernel
theorem dX7_occurrence_32 : decode cX7_occurrence 32 = .ok (.iconst 0, 1) := by decide +kernel
theorem dX7_occurrence_33 : decode cX7_occurrence 33 = .ok (.invokevirtual 46, 3) := by decide +kernel
theorem dX7_occurrence_36 : decode cX7_occurrence 36 = .ok (.ifCond .ne 5, 3) := by decide +kernel
theorem dX7_occurrence_39 : decode cX7_occurrence 39 = .ok (.iconst 0, 1) := by decide +kernel
theorem dX7_occurrence_40 : decode cX7_occurrence 40 = .ok (.ireturn, 1) := by decide +kernel
theorem dX7_occurrence_41 : decode cX7_occurrence 41 = .ok (.iload_n 2, 1) := by decide +kernel
theorem dX7_occurrence_42 : decode cX7_occurrence 42 = .ok (.istore 4, 2) := by decide +kernel
theorem dX7_occurrence_44 : decode cX7_occurrence 44 = .ok (.iconst 0, 1) := by decide +kernel
theorem dX7_occurrence_45 : decode cX7_occurrence 45 = .ok (.istore 5, 2) := by decide +kernel
theorem dX7_occurrence_47 : decode cX7_occurrence 47 = .ok (.iload 4, 2) := by decide +kernel
theorem dX7_occurrence_49 : decode cX7_occurrence 49 = .ok (.ifCond .gt 13, 3) := by decide +kernel
theorem dX7_occurrence_52 : decode cX7_occurrence 52 = .ok (.aload_n 0, 1) := by decide +kernel
theorem dX7_occurrence_53 : decode cX7_occurrence 53 = .ok (.iload_n 1, 1) := by decide +kernel
theorem dX7_occurrence_54 : decode cX7_occurrence 54 = .ok (.iload 5, 2) := by decide +kernel
theorem dX7_occurrence_56 : decode cX7_occurrence 56 = .ok (.invokevirtual 70, 3) := by decide +kernel
theorem dX7_occurrence_59 : decode cX7_occurrence 59 = .ok (.ifCond .ne 29, 3) := by decide +kernel
theorem dX7_occurrence_62 : decode cX7_occurrence 62 = .ok (.iload 4, 2) := by decide +kernel
theorem dX7_occurrence_64 : decode cX7_occurrence 64 = .ok (.aload_n 0, 1) := by decide +kernel
theorem dX7_occurrence_65 : decode cX7_occurrence 65 = .ok (.iload_n 1, 1) := by decide +kernel
theorem dX7_occurrence_66 : decode cX7_occurrence 66 = .ok (.iload 5, 2) := by decide +kernel
theorem dX7_occurrence_68 : decode cX7_occurrence 68 = .ok (.invokevirtual 70, 3) := by decide +kernel
theorem dX7_occurrence_71 : decode cX7_occurrence 71 = .ok (.ifCond .eq 7, 3) := by decide +kernel
theorem dX7_occurrence_74 : decode cX7_occurrence 74 = .ok (.iconst 1, 1) := by decide +kernel
theorem dX7_occurrence_75 : decode cX7_occurrence 75 = .ok (.goto 4, 3) := by decide +kernel
theorem dX7_occurrence_78 : decode cX7_occurrence 78 = .ok (.iconst 0, 1) := by decide +kernel
theorem dX7_occurrence_79 : decode cX7_occurrence 79 = .ok (.isub, 1) := by decide +kernel
theorem dX7_occurrence_80 : decode cX7_occurrence 80 = .ok (.istore 4, 2) := by decide +kernel
theorem dX7_occurrence_82 : decode cX7_occurrence 82 = .ok (.iinc 5 1, 3) := by decide +kernel
theorem dX7_occurrence_85 : decode cX7_occurrence 85 = .ok (.goto (-38), 3) := by decide +kernel
theorem dX7_occurrence_88 : decode cX7_occurrence 88 = .ok (.iload 5, 2) := by decide +kernel
theorem dX7_occurrence_90 : decode cX7_occurrence 90 = .ok (.ireturn, 1) := by decide +kernel
theorem dX7_told_0 : decode cX7_told 0 = .ok (.aload_n 0, 1) := by decide +kernel
theorem dX7_told_1 : decode cX7_told 1 = .ok (.iconst 0, 1) := by decide +kernel
theorem dX7_told_2 : decode cX7_told 2 = .ok (.putfield 32, 3) := by decide +kernel
theorem dX7_told_5 : decode cX7_told 5 = .ok (.aload_n 0, 1) := by decide +kernel
theorem dX7_told_6 : decode cX7_told 6 = .ok (.getfield 78, 3) := by decide +kernel
theorem dX7_told_9 : decode cX7_told 9 = .ok (.ireturn, 1) := by decide +kernel
theorem dX7_covered_0 : decode cX7_covered 0 = .ok (.aload_n 0, 1) := by decide +kernel
theorem dX7_covered_1 : decode cX7_covered 1 = .ok (.iconst 0, 1) := by decide +kernel
theorem dX7_covered_2 : decode cX7_covered 2 = .ok (.putfield 32, 3) := by decide +kernel
theorem dX7_covered_5 : decode cX7_covered 5 = .ok (.iconst 0, 1) := by decide +kernel
theorem dX7_covered_6 : decode cX7_covered 6 = .ok (.istore_n 1, 1) := by decide +kernel
theorem dX7_covered_7 : decode cX7_covered 7 = .ok (.iconst 0, 1) := by decide +kernel
theorem dX7_covered_8 : decode cX7_covered 8 = .ok (.istore_n 2, 1) := by decide +kernel
theorem dX7_covered_9 : decode cX7_covered 9 = .ok (.iconst 0, 1) := by decide +kernel
theorem dX7_covered_10 : decode cX7_covered 10 = .ok (.istore_n 3, 1) := by decide +kernel
theorem dX7_covered_11 : decode cX7_covered 11 = .ok (.iload_n 3, 1) := by decide +kernel
theorem dX7_covered_12 : decode cX7_covered 12 = .ok (.aload_n 0, 1) := by decide +kernel
theorem dX7_covered_13 : decode cX7_covered 13 = .ok (.getfield 67, 3) := by decide +kernel
theorem dX7_covered_16 : decode cX7_covered 16 = .ok (.if_icmp .ge 89, 3) := by decide +kernel
theorem dX7_covered_19 : decode cX7_covered 19 = .ok (.iconst 0, 1) := by decide +kernel
theorem dX7_covered_20 : decode cX7_covered 20 = .ok (.istore 4, 2) := by decide +kernel
theorem dX7_covered_22 : decode cX7_covered 22 = .ok (.iload 4, 2) := by decide +kernel
theorem dX7_covered_24 : decode cX7_covered 24 = .ok (.aload_n 0, 1) := by decide +kernel
theorem dX7_covered_25 : decode cX7_covered 25 = .ok (.getfield 36, 3) := by decide +kernel
theorem dX7_covered_28 : decode cX7_covered 28 = .ok (.if_icmp .ge 58, 3) := by decide +kernel
theorem dX7_covered_31 : decode cX7_covered 31 = .ok (.aload_n 0, 1) := by decide +kernel
theorem dX7_covered_32 : decode cX7_covered 32 = .ok (.iload 4, 2) := by decide +kernel
theorem dX7_covered_34 : decode cX7_covered 34 = .ok (.iload_n 3, 1) := by decide +kernel
theorem dX7_covered_35 : decode cX7_covered 35 = .ok (.invokevirtual 70, 3) := by decide +kernel
theorem dX7_covered_38 : decode cX7_covered 38 = .ok (.ifCond .eq 20, 3) := by decide +kernel
theorem dX7_covered_41 : decode cX7_covered 41 = .ok (.iload_n 3, 1) := by decide +kernel
theorem dX7_covered_42 : decode cX7_covered 42 = .ok (.aload_n 0, 1) := by decide +kernel
theorem dX7_covered_43 : decode cX7_covered 43 = .ok (.getfield 17, 3) := by decide +kernel
theorem dX7_covered_46 : decode cX7_covered 46 = .ok (.iload 4, 2) := by decide +kernel
theorem dX7_covered_48 : decode cX7_covered 48 = .ok (.iaload, 1) := by decide +kernel
theorem dX7_covered_49 : decode cX7_covered 49 = .ok (.iadd, 1) := by decide +kernel
theorem dX7_covered_50 : decode cX7_covered 50 = .ok (.iload_n 2, 1) := by decide +kernel
theorem dX7_covered_51 : decode cX7_covered 51 = .ok (.if_icmp .le 7, 3) := by decide +kernel
theorem dX7_covered_54 : decode cX7_covered 54 = .ok (.iconst 1, 1) := by decide +kernel
theorem dX7_covered_55 : decode cX7_covered 55 = .ok (.goto 4, 3) := by decide +kernel
theorem dX7_covered_58 : decode cX7_covered 58 = .ok (.iconst 0, 1) := by decide +kernel
theorem dX7_covered_59 : decode cX7_covered 59 = .ok (.istore 5, 2) := by decide +kernel
theorem dX7_covered_61 : decode cX7_covered 61 = .ok (.iload 5, 2) := by decide +kernel
theorem dX7_covered_63 : decode cX7_covered 63 = .ok (.ifCond .eq 15, 3) := by decide +kernel
theorem dX7_covered_66 : decode cX7_covered 66 = .ok (.iload_n 3, 1) := by decide +kernel
theorem dX7_covered_67 : decode cX7_covered 67 = .ok (.aload_n 0, 1) := by decide +kernel
theorem dX7_covered_68 : decode cX7_covered 68 = .ok (.getfield 17, 3) := by decide +kernel
theorem dX7_covered_71 : decode cX7_covered 71 = .ok (.iload 4, 2) := by decide +kernel
theorem dX7_covered_73 : decode cX7_covered 73 = .ok (.iaload, 1) := by decide +kernel
theorem dX7_covered_74 : decode cX7_covered 74 = .ok (.iadd, 1) := by decide +kernel
theorem dX7_covered_75 : decode cX7_covered 75 = .ok (.goto 4, 3) := by decide +kernel
theorem dX7_covered_78 : decode cX7_covered 78 = .ok (.iload_n 2, 1) := by decide +kernel
theorem dX7_covered_79 : decode cX7_covered 79 = .ok (.istore_n 2, 1) := by decide +kernel
theorem dX7_covered_80 : decode cX7_covered 80 = .ok (.iinc 4 1, 3) := by decide +kernel
theorem dX7_covered_83 : decode cX7_covered 83 = .ok (.goto (-61), 3) := by decide +kernel
theorem dX7_covered_86 : decode cX7_covered 86 = .ok (.iload_n 1, 1) := by decide +kernel
theorem dX7_covered_87 : decode cX7_covered 87 = .ok (.iload_n 3, 1) := by decide +kernel
theorem dX7_covered_88 : decode cX7_covered 88 = .ok (.iload_n 2, 1) := by decide +kernel
theorem dX7_covered_89 : decode cX7_covered 89 = .ok (.if_icmp .ge 7, 3) := by decide +kernel
theorem dX7_covered_92 : decode cX7_covered 92 = .ok (.iconst 1, 1) := by decide +kernel
theorem dX7_covered_93 : decode cX7_covered 93 = .ok (.goto 4, 3) := by decide +kernel
theorem dX7_covered_96 : decode cX7_covered 96 = .ok (.iconst 0, 1) := by decide +kernel
theorem dX7_covered_97 : decode cX7_covered 97 = .ok (.iadd, 1) := by decide +kernel
theorem dX7_covered_98 : decode cX7_covered 98 = .ok (.istore_n 1, 1) := by decide +kernel
theorem dX7_covered_99 : decode cX7_covered 99 = .ok (.iinc 3 1, 3) := by decide +kernel
theorem dX7_covered_102 : decode cX7_covered 102 = .ok (.goto (-91), 3) := by decide +kernel
theorem dX7_covered_105 : decode cX7_covered 105 = .ok (.iload_n 1, 1) := by decide +kernel
theorem dX7_covered_106 : decode cX7_covered 106 = .ok (.ireturn, 1) := by decide +kernel
theorem dX7_findsByEnd_0 : decode cX7_findsByEnd 0 = .ok (.iload_n 1, 1) := by decide +kernel
theorem dX7_findsByEnd_1 : decode cX7_findsByEnd 1 = .ok (.iconst 1, 1) := by decide +kernel
theorem dX7_findsByEnd_2 : decode cX7_findsByEnd 2 = .ok (.iadd, 1) := by decide +kernel
theorem dX7_findsByEnd_3 : decode cX7_findsByEnd 3 = .ok (.istore_n 2, 1) := by decide +kernel
theorem dX7_findsByEnd_4 : decode cX7_findsByEnd 4 = .ok (.iload_n 2, 1) := by decide +kernel
theorem dX7_findsByEnd_5 : decode cX7_findsByEnd 5 = .ok (.aload_n 0, 1) := by decide +kernel
theorem dX7_findsByEnd_6 : decode cX7_findsByEnd 6 = .ok (.getfield 67, 3) := by decide +kernel
theorem dX7_findsByEnd_9 : decode cX7_findsByEnd 9 = .ok (.if_icmp .gt 88, 3) := by decide +kernel
theorem dX7_findsByEnd_12 : decode cX7_findsByEnd 12 = .ok (.iconst 0, 1) := by decide +kernel
theorem dX7_findsByEnd_13 : decode cX7_findsByEnd 13 = .ok (.istore_n 3, 1) := by decide +kernel
theorem dX7_findsByEnd_14 : decode cX7_findsByEnd 14 = .ok (.iconst 0, 1) := by decide +kernel
theorem dX7_findsByEnd_15 : decode cX7_findsByEnd 15 = .ok (.istore 4, 2) := by decide +kernel
theorem dX7_findsByEnd_17 : decode cX7_findsByEnd 17 = .ok (.iload 4, 2) := by decide +kernel
theorem dX7_findsByEnd_19 : decode cX7_findsByEnd 19 = .ok (.aload_n 0, 1) := by decide +kernel
theorem dX7_findsByEnd_20 : decode cX7_findsByEnd 20 = .ok (.getfield 36, 3) := by decide +kernel
theorem dX7_findsByEnd_23 : decode cX7_findsByEnd 23 = .ok (.if_icmp .ge 62, 3) := by decide +kernel
theorem dX7_findsByEnd_26 : decode cX7_findsByEnd 26 = .ok (.aload_n 0, 1) := by decide +kernel
theorem dX7_findsByEnd_27 : decode cX7_findsByEnd 27 = .ok (.getfield 17, 3) := by decide +kernel
theorem dX7_findsByEnd_30 : decode cX7_findsByEnd 30 = .ok (.iload 4, 2) := by decide +kernel
theorem dX7_findsByEnd_32 : decode cX7_findsByEnd 32 = .ok (.iaload, 1) := by decide +kernel
theorem dX7_findsByEnd_33 : decode cX7_findsByEnd 33 = .ok (.istore 5, 2) := by decide +kernel
theorem dX7_findsByEnd_35 : decode cX7_findsByEnd 35 = .ok (.iload_n 2, 1) := by decide +kernel
theorem dX7_findsByEnd_36 : decode cX7_findsByEnd 36 = .ok (.iload 5, 2) := by decide +kernel
theorem dX7_findsByEnd_38 : decode cX7_findsByEnd 38 = .ok (.isub, 1) := by decide +kernel
theorem dX7_findsByEnd_39 : decode cX7_findsByEnd 39 = .ok (.iload_n 1, 1) := by decide +kernel
theorem dX7_findsByEnd_40 : decode cX7_findsByEnd 40 = .ok (.if_icmp .lt 39, 3) := by decide +kernel
theorem dX7_findsByEnd_43 : decode cX7_findsByEnd 43 = .ok (.iload 5, 2) := by decide +kernel
theorem dX7_findsByEnd_45 : decode cX7_findsByEnd 45 = .ok (.iload_n 3, 1) := by decide +kernel
theorem dX7_findsByEnd_46 : decode cX7_findsByEnd 46 = .ok (.if_icmp .le 33, 3) := by decide +kernel
theorem dX7_findsByEnd_49 : decode cX7_findsByEnd 49 = .ok (.aload_n 0, 1) := by decide +kernel
theorem dX7_findsByEnd_50 : decode cX7_findsByEnd 50 = .ok (.iload 4, 2) := by decide +kernel
theorem dX7_findsByEnd_52 : decode cX7_findsByEnd 52 = .ok (.iload_n 2, 1) := by decide +kernel
theorem dX7_findsByEnd_53 : decode cX7_findsByEnd 53 = .ok (.iload 5, 2) := by decide +kernel
theorem dX7_findsByEnd_55 : decode cX7_findsByEnd 55 = .ok (.isub, 1) := by decide +kernel
theorem dX7_findsByEnd_56 : decode cX7_findsByEnd 56 = .ok (.invokevirtual 70, 3) := by decide +kernel
theorem dX7_findsByEnd_59 : decode cX7_findsByEnd 59 = .ok (.ifCond .eq 20, 3) := by decide +kernel
theorem dX7_findsByEnd_62 : decode cX7_findsByEnd 62 = .ok (.iload 5, 2) := by decide +kernel
theorem dX7_findsByEnd_64 : decode cX7_findsByEnd 64 = .ok (.istore_n 3, 1) := by decide +kernel
theorem dX7_findsByEnd_65 : decode cX7_findsByEnd 65 = .ok (.aload_n 0, 1) := by decide +kernel
theorem dX7_findsByEnd_66 : decode cX7_findsByEnd 66 = .ok (.iload 4, 2) := by decide +kernel
theorem dX7_findsByEnd_68 : decode cX7_findsByEnd 68 = .ok (.putfield 90, 3) := by decide +kernel
theorem dX7_findsByEnd_71 : decode cX7_findsByEnd 71 = .ok (.aload_n 0, 1) := by decide +kernel
theorem dX7_findsByEnd_72 : decode cX7_findsByEnd 72 = .ok (.iload_n 2, 1) := by decide +kernel
theorem dX7_findsByEnd_73 : decode cX7_findsByEnd 73 = .ok (.iload 5, 2) := by decide +kernel
theorem dX7_findsByEnd_75 : decode cX7_findsByEnd 75 = .ok (.isub, 1) := by decide +kernel
theorem dX7_findsByEnd_76 : decode cX7_findsByEnd 76 = .ok (.putfield 93, 3) := by decide +kernel
theorem dX7_findsByEnd_79 : decode cX7_findsByEnd 79 = .ok (.iinc 4 1, 3) := by decide +kernel
theorem dX7_findsByEnd_82 : decode cX7_findsByEnd 82 = .ok (.goto (-65), 3) := by decide +kernel
theorem dX7_findsByEnd_85 : decode cX7_findsByEnd 85 = .ok (.iload_n 3, 1) := by decide +kernel
theorem dX7_findsByEnd_86 : decode cX7_findsByEnd 86 = .ok (.ifCond .le 5, 3) := by decide +kernel
theorem dX7_findsByEnd_89 : decode cX7_findsByEnd 89 = .ok (.iconst 1, 1) := by decide +kernel
theorem dX7_findsByEnd_90 : decode cX7_findsByEnd 90 = .ok (.ireturn, 1) := by decide +kernel
theorem dX7_findsByEnd_91 : decode cX7_findsByEnd 91 = .ok (.iinc 2 1, 3) := by decide +kernel
theorem dX7_findsByEnd_94 : decode cX7_findsByEnd 94 = .ok (.goto (-90), 3) := by decide +kernel
theorem dX7_findsByEnd_97 : decode cX7_findsByEnd 97 = .ok (.iconst 0, 1) := by decide +kernel
theorem dX7_findsByEnd_98 : decode cX7_findsByEnd 98 = .ok (.ireturn, 1) := by decide +kernel
theorem dX7_finds_0 : decode cX7_finds 0 = .ok (.iload_n 1, 1) := by decide +kernel
theorem dX7_finds_1 : decode cX7_finds 1 = .ok (.iconst 2, 1) := by decide +kernel
theorem dX7_finds_2 : decode cX7_finds 2 = .ok (.if_icmp .ne 9, 3) := by decide +kernel
theorem dX7_finds_5 : decode cX7_finds 5 = .ok (.aload_n 0, 1) := by decide +kernel
theorem dX7_finds_6 : decode cX7_finds 6 = .ok (.iload_n 2, 1) := by decide +kernel
theorem dX7_finds_7 : decode cX7_finds 7 = .ok (.invokevirtual 96, 3) := by decide +kernel
theorem dX7_finds_10 : decode cX7_finds 10 = .ok (.ireturn, 1) := by decide +kernel
theorem dX7_finds_11 : decode cX7_finds 11 = .ok (.iload_n 2, 1) := by decide +kernel
theorem dX7_finds_12 : decode cX7_finds 12 = .ok (.istore_n 3, 1) := by decide +kernel
theorem dX7_finds_13 : decode cX7_finds 13 = .ok (.iload_n 3, 1) := by decide +kernel
theorem dX7_finds_14 : decode cX7_finds 14 = .ok (.aload_n 0, 1) := by decide +kernel
theorem dX7_finds_15 : decode cX7_finds 15 = .ok (.getfield 67, 3) := by decide +kernel
theorem dX7_finds_18 : decode cX7_finds 18 = .ok (.if_icmp .ge 115, 3) := by decide +kernel
theorem dX7_finds_21 : decode cX7_finds 21 = .ok (.aload_n 0, 1) := by decide +kernel
theorem dX7_finds_22 : decode cX7_finds 22 = .ok (.iconst (-1), 1) := by decide +kernel
theorem dX7_finds_23 : decode cX7_finds 23 = .ok (.putfield 90, 3) := by decide +kernel
theorem dX7_finds_26 : decode cX7_finds 26 = .ok (.aload_n 0, 1) := by decide +kernel
theorem dX7_finds_27 : decode cX7_finds 27 = .ok (.getfield 36, 3) := by decide +kernel
theorem dX7_finds_30 : decode cX7_finds 30 = .ok (.iconst 1, 1) := by decide +kernel
theorem dX7_finds_31 : decode cX7_finds 31 = .ok (.isub, 1) := by decide +kernel
theorem dX7_finds_32 : decode cX7_finds 32 = .ok (.istore 4, 2) := by decide +kernel
theorem dX7_finds_34 : decode cX7_finds 34 = .ok (.iload 4, 2) := by decide +kernel
theorem dX7_finds_36 : decode cX7_finds 36 = .ok (.ifCond .lt 76, 3) := by decide +kernel
theorem dX7_finds_39 : decode cX7_finds 39 = .ok (.aload_n 0, 1) := by decide +kernel
theorem dX7_finds_40 : decode cX7_finds 40 = .ok (.getfield 90, 3) := by decide +kernel
theorem dX7_finds_43 : decode cX7_finds 43 = .ok (.iconst (-1), 1) := by decide +kernel
theorem dX7_finds_44 : decode cX7_finds 44 = .ok (.if_icmp .eq 27, 3) := by decide +kernel
theorem dX7_finds_47 : decode cX7_finds 47 = .ok (.iload_n 1, 1) := by decide +kernel
theorem dX7_finds_48 : decode cX7_finds 48 = .ok (.iconst 1, 1) := by decide +kernel
theorem dX7_finds_49 : decode cX7_finds 49 = .ok (.if_icmp .eq 22, 3) := by decide +kernel
theorem dX7_finds_52 : decode cX7_finds 52 = .ok (.aload_n 0, 1) := by decide +kernel
theorem dX7_finds_53 : decode cX7_finds 53 = .ok (.getfield 17, 3) := by decide +kernel
theorem dX7_finds_56 : decode cX7_finds 56 = .ok (.iload 4, 2) := by decide +kernel
theorem dX7_finds_58 : decode cX7_finds 58 = .ok (.iaload, 1) := by decide +kernel
theorem dX7_finds_59 : decode cX7_finds 59 = .ok (.aload_n 0, 1) := by decide +kernel
theorem dX7_finds_60 : decode cX7_finds 60 = .ok (.getfield 17, 3) := by decide +kernel
theorem dX7_finds_63 : decode cX7_finds 63 = .ok (.aload_n 0, 1) := by decide +kernel
theorem dX7_finds_64 : decode cX7_finds 64 = .ok (.getfield 90, 3) := by decide +kernel
theorem dX7_finds_67 : decode cX7_finds 67 = .ok (.iaload, 1) := by decide +kernel
theorem dX7_finds_68 : decode cX7_finds 68 = .ok (.if_icmp .le 7, 3) := by decide +kernel
theorem dX7_finds_71 : decode cX7_finds 71 = .ok (.iconst 1, 1) := by decide +kernel
theorem dX7_finds_72 : decode cX7_finds 72 = .ok (.goto 4, 3) := by decide +kernel
theorem dX7_finds_75 : decode cX7_finds 75 = .ok (.iconst 0, 1) := by decide +kernel
theorem dX7_finds_76 : decode cX7_finds 76 = .ok (.istore 5, 2) := by decide +kernel
theorem dX7_finds_78 : decode cX7_finds 78 = .ok (.aload_n 0, 1) := by decide +kernel
theorem dX7_finds_79 : decode cX7_finds 79 = .ok (.aload_n 0, 1) := by decide +kernel
theorem dX7_finds_80 : decode cX7_finds 80 = .ok (.iload 4, 2) := by decide +kernel
theorem dX7_finds_82 : decode cX7_finds 82 = .ok (.iload_n 3, 1) := by decide +kernel
theorem dX7_finds_83 : decode cX7_finds 83 = .ok (.invokevirtual 70, 3) := by decide +kernel
theorem dX7_finds_86 : decode cX7_finds 86 = .ok (.ifCond .eq 13, 3) := by decide +kernel
theorem dX7_finds_89 : decode cX7_finds 89 = .ok (.iload 5, 2) := by decide +kernel
theorem dX7_finds_91 : decode cX7_finds 91 = .ok (.ifCond .eq 8, 3) := by decide +kernel
theorem dX7_finds_94 : decode cX7_finds 94 = .ok (.iload 4, 2) := by decide +kernel
theorem dX7_finds_96 : decode cX7_finds 96 = .ok (.goto 7, 3) := by decide +kernel
theorem dX7_finds_99 : decode cX7_finds 99 = .ok (.aload_n 0, 1) := by decide +kernel
theorem dX7_finds_100 : decode cX7_finds 100 = .ok (.getfield 90, 3) := by decide +kernel
theorem dX7_finds_103 : decode cX7_finds 103 = .ok (.putfield 90, 3) := by decide +kernel
theorem dX7_finds_106 : decode cX7_finds 106 = .ok (.iinc 4 (-1), 3) := by decide +kernel
theorem dX7_finds_109 : decode cX7_finds 109 = .ok (.goto (-75), 3) := by decide +kernel
theorem dX7_finds_112 : decode cX7_finds 112 = .ok (.aload_n 0, 1) := by decide +kernel
theorem dX7_finds_113 : decode cX7_finds 113 = .ok (.iload_n 3, 1) := by decide +kernel
theorem dX7_finds_114 : decode cX7_finds 114 = .ok (.putfield 93, 3) := by decide +kernel
theorem dX7_finds_117 : decode cX7_finds 117 = .ok (.aload_n 0, 1) := by decide +kernel
theorem dX7_finds_118 : decode cX7_finds 118 = .ok (.getfield 90, 3) := by decide +kernel
theorem dX7_finds_121 : decode cX7_finds 121 = .ok (.iconst (-1), 1) := by decide +kernel
theorem dX7_finds_122 : decode cX7_finds 122 = .ok (.if_icmp .eq 5, 3) := by decide +kernel
theorem dX7_finds_125 : decode cX7_finds 125 = .ok (.iconst 1, 1) := by decide +kernel
theorem dX7_finds_126 : decode cX7_finds 126 = .ok (.ireturn, 1) := by decide +kernel
theorem dX7_finds_127 : decode cX7_finds 127 = .ok (.iinc 3 1, 3) := by decide +kernel
theorem dX7_finds_130 : decode cX7_finds 130 = .ok (.goto (-117), 3) := by decide +kernel
theorem dX7_finds_133 : decode cX7_finds 133 = .ok (.iconst 0, 1) := by decide +kernel
theorem dX7_finds_134 : decode cX7_finds 134 = .ok (.ireturn, 1) := by decide +kernel
theorem dX7_itsEnd_0 : decode cX7_itsEnd 0 = .ok (.aload_n 0, 1) := by decide +kernel
theorem dX7_itsEnd_1 : decode cX7_itsEnd 1 = .ok (.getfield 93, 3) := by decide +kernel
theorem dX7_itsEnd_4 : decode cX7_itsEnd 4 = .ok (.aload_n 0, 1) := by decide +kernel
theorem dX7_itsEnd_5 : decode cX7_itsEnd 5 = .ok (.getfield 17, 3) := by decide +kernel
theorem dX7_itsEnd_8 : decode cX7_itsEnd 8 = .ok (.aload_n 0, 1) := by decide +kernel
theorem dX7_itsEnd_9 : decode cX7_itsEnd 9 = .ok (.getfield 90, 3) := by decide +kernel
theorem dX7_itsEnd_12 : decode cX7_itsEnd 12 = .ok (.iaload, 1) := by decide +kernel
theorem dX7_itsEnd_13 : decode cX7_itsEnd 13 = .ok (.iadd, 1) := by decide +kernel
theorem dX7_itsEnd_14 : decode cX7_itsEnd 14 = .ok (.ireturn, 1) := by decide +kernel
theorem dX7_choices_0 : decode cX7_choices 0 = .ok (.iconst 0, 1) := by decide +kernel
theorem dX7_choices_1 : decode cX7_choices 1 = .ok (.istore_n 2, 1) := by decide +kernel
theorem dX7_choices_2 : decode cX7_choices 2 = .ok (.iconst 0, 1) := by decide +kernel
theorem dX7_choices_3 : decode cX7_choices 3 = .ok (.istore_n 3, 1) := by decide +kernel
theorem dX7_choices_4 : decode cX7_choices 4 = .ok (.aload_n 0, 1) := by decide +kernel
theorem dX7_choices_5 : decode cX7_choices 5 = .ok (.iload_n 1, 1) := by decide +kernel
theorem dX7_choices_6 : decode cX7_choices 6 = .ok (.iload_n 3, 1) := by decide +kernel
theorem dX7_choices_7 : decode cX7_choices 7 = .ok (.invokevirtual 99, 3) := by decide +kernel
theorem dX7_choices_10 : decode cX7_choices 10 = .ok (.ifCond .eq 14, 3) := by decide +kernel
theorem dX7_choices_13 : decode cX7_choices 13 = .ok (.aload_n 0, 1) := by decide +kernel
theorem dX7_choices_14 : decode cX7_choices 14 = .ok (.invokevirtual 102, 3) := by decide +kernel
theorem dX7_choices_17 : decode cX7_choices 17 = .ok (.istore_n 3, 1) := by decide +kernel
theorem dX7_choices_18 : decode cX7_choices 18 = .ok (.iinc 2 1, 3) := by decide +kernel
theorem dX7_choices_21 : decode cX7_choices 21 = .ok (.goto (-17), 3) := by decide +kernel
theorem dX7_choices_24 : decode cX7_choices 24 = .ok (.iload_n 2, 1) := by decide +kernel
theorem dX7_choices_25 : decode cX7_choices 25 = .ok (.ireturn, 1) := by decide +kernel
theorem dX7_mostApart_0 : decode cX7_mostApart 0 = .ok (.aload_n 0, 1) := by decide +kernel
theorem dX7_mostApart_1 : decode cX7_mostApart 1 = .ok (.iconst 0, 1) := by decide +kernel
theorem dX7_mostApart_2 : decode cX7_mostApart 2 = .ok (.putfield 32, 3) := by decide +kernel
theorem dX7_mostApart_5 : decode cX7_mostApart 5 = .ok (.aload_n 0, 1) := by decide +kernel
theorem dX7_mostApart_6 : decode cX7_mostApart 6 = .ok (.iconst 2, 1) := by decide +kernel
theorem dX7_mostApart_7 : decode cX7_mostApart 7 = .ok (.invokevirtual 105, 3) := by decide +kernel
theorem dX7_mostApart_10 : decode cX7_mostApart 10 = .ok (.ireturn, 1) := by decide +kernel
theorem dX7_isRule_0 : decode cX7_isRule 0 = .ok (.iload_n 1, 1) := by decide +kernel
theorem dX7_isRule_1 : decode cX7_isRule 1 = .ok (.ifCond .lt 12, 3) := by decide +kernel
theorem dX7_isRule_4 : decode cX7_isRule 4 = .ok (.iload_n 1, 1) := by decide +kernel
theorem dX7_isRule_5 : decode cX7_isRule 5 = .ok (.iconst 2, 1) := by decide +kernel
theorem dX7_isRule_6 : decode cX7_isRule 6 = .ok (.if_icmp .gt 7, 3) := by decide +kernel
theorem dX7_isRule_9 : decode cX7_isRule 9 = .ok (.iconst 1, 1) := by decide +kernel
theorem dX7_isRule_10 : decode cX7_isRule 10 = .ok (.goto 4, 3) := by decide +kernel
theorem dX7_isRule_13 : decode cX7_isRule 13 = .ok (.iconst 0, 1) := by decide +kernel
theorem dX7_isRule_14 : decode cX7_isRule 14 = .ok (.ireturn, 1) := by decide +kernel
theorem dX7_chosen_0 : decode cX7_chosen 0 = .ok (.aload_n 0, 1) := by decide +kernel
theorem dX7_chosen_1 : decode cX7_chosen 1 = .ok (.aload_n 0, 1) := by decide +kernel
theorem dX7_chosen_2 : decode cX7_chosen 2 = .ok (.iload_n 1, 1) := by decide +kernel
theorem dX7_chosen_3 : decode cX7_chosen 3 = .ok (.invokevirtual 108, 3) := by decide +kernel
theorem dX7_chosen_6 : decode cX7_chosen 6 = .ok (.ifCond .eq 7, 3) := by decide +kernel
theorem dX7_chosen_9 : decode cX7_chosen 9 = .ok (.iconst 0, 1) := by decide +kernel
theorem dX7_chosen_10 : decode cX7_chosen 10 = .ok (.goto 4, 3) := by decide +kernel
theorem dX7_chosen_13 : decode cX7_chosen 13 = .ok (.iconst 1, 1) := by decide +kernel
theorem dX7_chosen_14 : decode cX7_chosen 14 = .ok (.invokevirtual 46, 3) := by decide +kernel
theorem dX7_chosen_17 : decode cX7_chosen 17 = .ok (.ifCond .eq 11, 3) := by decide +kernel
theorem dX7_chosen_20 : decode cX7_chosen 20 = .ok (.aload_n 0, 1) := by decide +kernel
theorem dX7_chosen_21 : decode cX7_chosen 21 = .ok (.iload_n 1, 1) := by decide +kernel
theorem dX7_chosen_22 : decode cX7_chosen 22 = .ok (.invokevirtual 105, 3) := by decide +kernel
theorem dX7_chosen_25 : decode cX7_chosen 25 = .ok (.goto 4, 3) := by decide +kernel
theorem dX7_chosen_28 : decode cX7_chosen 28 = .ok (.iconst 0, 1) := by decide +kernel
theorem dX7_chosen_29 : decode cX7_chosen 29 = .ok (.ireturn, 1) := by decide +kernel
theorem dX7_isChosen_0 : decode cX7_isChosen 0 = .ok (.aload_n 0, 1) := by decide +kernel
theorem dX7_isChosen_1 : decode cX7_isChosen 1 = .ok (.iload_n 1, 1) := by decide +kernel
theorem dX7_isChosen_2 : decode cX7_isChosen 2 = .ok (.invokevirtual 108, 3) := by decide +kernel
theorem dX7_isChosen_5 : decode cX7_isChosen 5 = .ok (.istore_n 3, 1) := by decide +kernel
theorem dX7_isChosen_6 : decode cX7_isChosen 6 = .ok (.aload_n 0, 1) := by decide +kernel
theorem dX7_isChosen_7 : decode cX7_isChosen 7 = .ok (.iload_n 3, 1) := by decide +kernel
theorem dX7_isChosen_8 : decode cX7_isChosen 8 = .ok (.ifCond .ne 7, 3) := by decide +kernel
theorem dX7_isChosen_11 : decode cX7_isChosen 11 = .ok (.iconst 1, 1) := by decide +kernel
theorem dX7_isChosen_12 : decode cX7_isChosen 12 = .ok (.goto 21, 3) := by decide +kernel
theorem dX7_isChosen_15 : decode cX7_isChosen 15 = .ok (.iload_n 2, 1) := by decide +kernel
theorem dX7_isChosen_16 : decode cX7_isChosen 16 = .ok (.ifCond .lt 12, 3) := by decide +kernel
theorem dX7_isChosen_19 : decode cX7_isChosen 19 = .ok (.iload_n 2, 1) := by decide +kernel
theorem dX7_isChosen_20 : decode cX7_isChosen 20 = .ok (.aload_n 0, 1) := by decide +kernel
theorem dX7_isChosen_21 : decode cX7_isChosen 21 = .ok (.iload_n 1, 1) := by decide +kernel
theorem dX7_isChosen_22 : decode cX7_isChosen 22 = .ok (.invokevirtual 105, 3) := by decide +kernel
theorem dX7_isChosen_25 : decode cX7_isChosen 25 = .ok (.if_icmp .lt 7, 3) := by decide +kernel
theorem dX7_isChosen_28 : decode cX7_isChosen 28 = .ok (.iconst 2, 1) := by decide +kernel
theorem dX7_isChosen_29 : decode cX7_isChosen 29 = .ok (.goto 4, 3) := by decide +kernel
theorem dX7_isChosen_32 : decode cX7_isChosen 32 = .ok (.iconst 0, 1) := by decide +kernel
theorem dX7_isChosen_33 : decode cX7_isChosen 33 = .ok (.invokevirtual 46, 3) := by decide +kernel
theorem dX7_isChosen_36 : decode cX7_isChosen 36 = .ok (.ifCond .ne 5, 3) := by decide +kernel
theorem dX7_isChosen_39 : decode cX7_isChosen 39 = .ok (.iconst 0, 1) := by decide +kernel
theorem dX7_isChosen_40 : decode cX7_isChosen 40 = .ok (.ireturn, 1) := by decide +kernel
theorem dX7_isChosen_41 : decode cX7_isChosen 41 = .ok (.iconst 0, 1) := by decide +kernel
theorem dX7_isChosen_42 : decode cX7_isChosen 42 = .ok (.istore 4, 2) := by decide +kernel
theorem dX7_isChosen_44 : decode cX7_isChosen 44 = .ok (.iconst 0, 1) := by decide +kernel
theorem dX7_isChosen_45 : decode cX7_isChosen 45 = .ok (.istore 5, 2) := by decide +kernel
theorem dX7_isChosen_47 : decode cX7_isChosen 47 = .ok (.iconst 0, 1) := by decide +kernel
theorem dX7_isChosen_48 : decode cX7_isChosen 48 = .ok (.istore 6, 2) := by decide +kernel
theorem dX7_isChosen_50 : decode cX7_isChosen 50 = .ok (.iload 6, 2) := by decide +kernel
theorem dX7_isChosen_52 : decode cX7_isChosen 52 = .ok (.iload_n 2, 1) := by decide +kernel
theorem dX7_isChosen_53 : decode cX7_isChosen 53 = .ok (.if_icmp .gt 24, 3) := by decide +kernel
theorem dX7_isChosen_56 : decode cX7_isChosen 56 = .ok (.aload_n 0, 1) := by decide +kernel
theorem dX7_isChosen_57 : decode cX7_isChosen 57 = .ok (.iload_n 1, 1) := by decide +kernel
theorem dX7_isChosen_58 : decode cX7_isChosen 58 = .ok (.iload 4, 2) := by decide +kernel
theorem dX7_isChosen_60 : decode cX7_isChosen 60 = .ok (.invokevirtual 99, 3) := by decide +kernel
theorem dX7_isChosen_63 : decode cX7_isChosen 63 = .ok (.istore 5, 2) := by decide +kernel
theorem dX7_isChosen_65 : decode cX7_isChosen 65 = .ok (.aload_n 0, 1) := by decide +kernel
theorem dX7_isChosen_66 : decode cX7_isChosen 66 = .ok (.invokevirtual 102, 3) := by decide +kernel
theorem dX7_isChosen_69 : decode cX7_isChosen 69 = .ok (.istore 4, 2) := by decide +kernel
theorem dX7_isChosen_71 : decode cX7_isChosen 71 = .ok (.iinc 6 1, 3) := by decide +kernel
theorem dX7_isChosen_74 : decode cX7_isChosen 74 = .ok (.goto (-24), 3) := by decide +kernel
theorem dX7_isChosen_77 : decode cX7_isChosen 77 = .ok (.iload 5, 2) := by decide +kernel
theorem dX7_isChosen_79 : decode cX7_isChosen 79 = .ok (.ireturn, 1) := by decide +kernel
theorem dX7_chosenPattern_0 : decode cX7_chosenPattern 0 = .ok (.aload_n 0, 1) := by decide +kernel
theorem dX7_chosenPattern_1 : decode cX7_chosenPattern 1 = .ok (.iload_n 1, 1) := by decide +kernel
theorem dX7_chosenPattern_2 : decode cX7_chosenPattern 2 = .ok (.iload_n 2, 1) := by decide +kernel
theorem dX7_chosenPattern_3 : decode cX7_chosenPattern 3 = .ok (.invokevirtual 111, 3) := by decide +kernel
theorem dX7_chosenPattern_6 : decode cX7_chosenPattern 6 = .ok (.ifCond .eq 10, 3) := by decide +kernel
theorem dX7_chosenPattern_9 : decode cX7_chosenPattern 9 = .ok (.aload_n 0, 1) := by decide +kernel
theorem dX7_chosenPattern_10 : decode cX7_chosenPattern 10 = .ok (.getfield 90, 3) := by decide +kernel
theorem dX7_chosenPattern_13 : decode cX7_chosenPattern 13 = .ok (.goto 4, 3) := by decide +kernel
theorem dX7_chosenPattern_16 : decode cX7_chosenPattern 16 = .ok (.iconst 0, 1) := by decide +kernel
theorem dX7_chosenPattern_17 : decode cX7_chosenPattern 17 = .ok (.ireturn, 1) := by decide +kernel
theorem dX7_chosenPlace_0 : decode cX7_chosenPlace 0 = .ok (.aload_n 0, 1) := by decide +kernel
theorem dX7_chosenPlace_1 : decode cX7_chosenPlace 1 = .ok (.iload_n 1, 1) := by decide +kernel
theorem dX7_chosenPlace_2 : decode cX7_chosenPlace 2 = .ok (.iload_n 2, 1) := by decide +kernel
theorem dX7_chosenPlace_3 : decode cX7_chosenPlace 3 = .ok (.invokevirtual 111, 3) := by decide +kernel
theorem dX7_chosenPlace_6 : decode cX7_chosenPlace 6 = .ok (.ifCond .eq 10, 3) := by decide +kernel
theorem dX7_chosenPlace_9 : decode cX7_chosenPlace 9 = .ok (.aload_n 0, 1) := by decide +kernel
theorem dX7_chosenPlace_10 : decode cX7_chosenPlace 10 = .ok (.getfield 93, 3) := by decide +kernel
theorem dX7_chosenPlace_13 : decode cX7_chosenPlace 13 = .ok (.goto 4, 3) := by decide +kernel
theorem dX7_chosenPlace_16 : decode cX7_chosenPlace 16 = .ok (.iconst 0, 1) := by decide +kernel
theorem dX7_chosenPlace_17 : decode cX7_chosenPlace 17 = .ok (.ireturn, 1) := by decide +kernel
theorem dX7_newLetter_0 : decode cX7_newLetter 0 = .ok (.iload_n 2, 1) := by decide +kernel
theorem dX7_newLetter_1 : decode cX7_newLetter 1 = .ok (.istore_n 3, 1) := by decide +kernel
theorem dX7_newLetter_2 : decode cX7_newLetter 2 = .ok (.iconst 0, 1) := by decide +kernel
theorem dX7_newLetter_3 : decode cX7_newLetter 3 = .ok (.istore 4, 2) := by decide +kernel
theorem dX7_newLetter_5 : decode cX7_newLetter 5 = .ok (.iload 4, 2) := by decide +kernel
theorem dX7_newLetter_7 : decode cX7_newLetter 7 = .ok (.aload_n 0, 1) := by decide +kernel
theorem dX7_newLetter_8 : decode cX7_newLetter 8 = .ok (.getfield 67, 3) := by decide +kernel
theorem dX7_newLetter_11 : decode cX7_newLetter 11 = .ok (.if_icmp .ge 115, 3) := by decide +kernel
theorem dX7_newLetter_14 : decode cX7_newLetter 14 = .ok (.aload_n 0, 1) := by decide +kernel
theorem dX7_newLetter_15 : decode cX7_newLetter 15 = .ok (.iload_n 1, 1) := by decide +kernel
theorem dX7_newLetter_16 : decode cX7_newLetter 16 = .ok (.iload 4, 2) := by decide +kernel
theorem dX7_newLetter_18 : decode cX7_newLetter 18 = .ok (.invokevirtual 99, 3) := by decide +kernel
theorem dX7_newLetter_21 : decode cX7_newLetter 21 = .ok (.istore 5, 2) := by decide +kernel
theorem dX7_newLetter_23 : decode cX7_newLetter 23 = .ok (.iload 5, 2) := by decide +kernel
theorem dX7_newLetter_25 : decode cX7_newLetter 25 = .ok (.ifCond .eq 10, 3) := by decide +kernel
theorem dX7_newLetter_28 : decode cX7_newLetter 28 = .ok (.aload_n 0, 1) := by decide +kernel
theorem dX7_newLetter_29 : decode cX7_newLetter 29 = .ok (.getfield 93, 3) := by decide +kernel
theorem dX7_newLetter_32 : decode cX7_newLetter 32 = .ok (.goto 7, 3) := by decide +kernel
theorem dX7_newLetter_35 : decode cX7_newLetter 35 = .ok (.aload_n 0, 1) := by decide +kernel
theorem dX7_newLetter_36 : decode cX7_newLetter 36 = .ok (.getfield 67, 3) := by decide +kernel
theorem dX7_newLetter_39 : decode cX7_newLetter 39 = .ok (.istore 6, 2) := by decide +kernel
theorem dX7_newLetter_41 : decode cX7_newLetter 41 = .ok (.iload_n 3, 1) := by decide +kernel
theorem dX7_newLetter_42 : decode cX7_newLetter 42 = .ok (.iload 6, 2) := by decide +kernel
theorem dX7_newLetter_44 : decode cX7_newLetter 44 = .ok (.iload 4, 2) := by decide +kernel
theorem dX7_newLetter_46 : decode cX7_newLetter 46 = .ok (.isub, 1) := by decide +kernel
theorem dX7_newLetter_47 : decode cX7_newLetter 47 = .ok (.if_icmp .ge 13, 3) := by decide +kernel
theorem dX7_newLetter_50 : decode cX7_newLetter 50 = .ok (.aload_n 0, 1) := by decide +kernel
theorem dX7_newLetter_51 : decode cX7_newLetter 51 = .ok (.getfield 29, 3) := by decide +kernel
theorem dX7_newLetter_54 : decode cX7_newLetter 54 = .ok (.iload 4, 2) := by decide +kernel
theorem dX7_newLetter_56 : decode cX7_newLetter 56 = .ok (.iload_n 3, 1) := by decide +kernel
theorem dX7_newLetter_57 : decode cX7_newLetter 57 = .ok (.iadd, 1) := by decide +kernel
theorem dX7_newLetter_58 : decode cX7_newLetter 58 = .ok (.iaload, 1) := by decide +kernel
theorem dX7_newLetter_59 : decode cX7_newLetter 59 = .ok (.ireturn, 1) := by decide +kernel
theorem dX7_newLetter_60 : decode cX7_newLetter 60 = .ok (.iload_n 3, 1) := by decide +kernel
theorem dX7_newLetter_61 : decode cX7_newLetter 61 = .ok (.iload 6, 2) := by decide +kernel
theorem dX7_newLetter_63 : decode cX7_newLetter 63 = .ok (.iload 4, 2) := by decide +kernel
theorem dX7_newLetter_65 : decode cX7_newLetter 65 = .ok (.isub, 1) := by decide +kernel
theorem dX7_newLetter_66 : decode cX7_newLetter 66 = .ok (.isub, 1) := by decide +kernel
theorem dX7_newLetter_67 : decode cX7_newLetter 67 = .ok (.istore_n 3, 1) := by decide +kernel
theorem dX7_newLetter_68 : decode cX7_newLetter 68 = .ok (.iload 6, 2) := by decide +kernel
theorem dX7_newLetter_70 : decode cX7_newLetter 70 = .ok (.istore 4, 2) := by decide +kernel
theorem dX7_newLetter_72 : decode cX7_newLetter 72 = .ok (.iload 5, 2) := by decide +kernel
theorem dX7_newLetter_74 : decode cX7_newLetter 74 = .ok (.ifCond .eq 49, 3) := by decide +kernel
theorem dX7_newLetter_77 : decode cX7_newLetter 77 = .ok (.iload_n 3, 1) := by decide +kernel
theorem dX7_newLetter_78 : decode cX7_newLetter 78 = .ok (.aload_n 0, 1) := by decide +kernel
theorem dX7_newLetter_79 : decode cX7_newLetter 79 = .ok (.getfield 23, 3) := by decide +kernel
theorem dX7_newLetter_82 : decode cX7_newLetter 82 = .ok (.aload_n 0, 1) := by decide +kernel
theorem dX7_newLetter_83 : decode cX7_newLetter 83 = .ok (.getfield 90, 3) := by decide +kernel
theorem dX7_newLetter_86 : decode cX7_newLetter 86 = .ok (.iaload, 1) := by decide +kernel
theorem dX7_newLetter_87 : decode cX7_newLetter 87 = .ok (.if_icmp .ge 18, 3) := by decide +kernel
theorem dX7_newLetter_90 : decode cX7_newLetter 90 = .ok (.aload_n 0, 1) := by decide +kernel
theorem dX7_newLetter_91 : decode cX7_newLetter 91 = .ok (.getfield 26, 3) := by decide +kernel
theorem dX7_newLetter_94 : decode cX7_newLetter 94 = .ok (.bipush 8, 2) := by decide +kernel
theorem dX7_newLetter_96 : decode cX7_newLetter 96 = .ok (.aload_n 0, 1) := by decide +kernel
theorem dX7_newLetter_97 : decode cX7_newLetter 97 = .ok (.getfield 90, 3) := by decide +kernel
theorem dX7_newLetter_100 : decode cX7_newLetter 100 = .ok (.imul, 1) := by decide +kernel
theorem dX7_newLetter_101 : decode cX7_newLetter 101 = .ok (.iload_n 3, 1) := by decide +kernel
theorem dX7_newLetter_102 : decode cX7_newLetter 102 = .ok (.iadd, 1) := by decide +kernel
theorem dX7_newLetter_103 : decode cX7_newLetter 103 = .ok (.iaload, 1) := by decide +kernel
theorem dX7_newLetter_104 : decode cX7_newLetter 104 = .ok (.ireturn, 1) := by decide +kernel
theorem dX7_newLetter_105 : decode cX7_newLetter 105 = .ok (.iload_n 3, 1) := by decide +kernel
theorem dX7_newLetter_106 : decode cX7_newLetter 106 = .ok (.aload_n 0, 1) := by decide +kernel
theorem dX7_newLetter_107 : decode cX7_newLetter 107 = .ok (.getfield 23, 3) := by decide +kernel
theorem dX7_newLetter_110 : decode cX7_newLetter 110 = .ok (.aload_n 0, 1) := by decide +kernel
theorem dX7_newLetter_111 : decode cX7_newLetter 111 = .ok (.getfield 90, 3) := by decide +kernel
theorem dX7_newLetter_114 : decode cX7_newLetter 114 = .ok (.iaload, 1) := by decide +kernel
theorem dX7_newLetter_115 : decode cX7_newLetter 115 = .ok (.isub, 1) := by decide +kernel
theorem dX7_newLetter_116 : decode cX7_newLetter 116 = .ok (.istore_n 3, 1) := by decide +kernel
theorem dX7_newLetter_117 : decode cX7_newLetter 117 = .ok (.aload_n 0, 1) := by decide +kernel
theorem dX7_newLetter_118 : decode cX7_newLetter 118 = .ok (.invokevirtual 102, 3) := by decide +kernel
theorem dX7_newLetter_121 : decode cX7_newLetter 121 = .ok (.istore 4, 2) := by decide +kernel
theorem dX7_newLetter_123 : decode cX7_newLetter 123 = .ok (.goto (-118), 3) := by decide +kernel
theorem dX7_newLetter_126 : decode cX7_newLetter 126 = .ok (.iconst (-1), 1) := by decide +kernel
theorem dX7_newLetter_127 : decode cX7_newLetter 127 = .ok (.ireturn, 1) := by decide +kernel
theorem dX7_newLength_0 : decode cX7_newLength 0 = .ok (.aload_n 0, 1) := by decide +kernel
theorem dX7_newLength_1 : decode cX7_newLength 1 = .ok (.getfield 67, 3) := by decide +kernel
theorem dX7_newLength_4 : decode cX7_newLength 4 = .ok (.istore_n 2, 1) := by decide +kernel
theorem dX7_newLength_5 : decode cX7_newLength 5 = .ok (.iconst 0, 1) := by decide +kernel
theorem dX7_newLength_6 : decode cX7_newLength 6 = .ok (.istore_n 3, 1) := by decide +kernel
theorem dX7_newLength_7 : decode cX7_newLength 7 = .ok (.aload_n 0, 1) := by decide +kernel
theorem dX7_newLength_8 : decode cX7_newLength 8 = .ok (.iload_n 1, 1) := by decide +kernel
theorem dX7_newLength_9 : decode cX7_newLength 9 = .ok (.iload_n 3, 1) := by decide +kernel
theorem dX7_newLength_10 : decode cX7_newLength 10 = .ok (.invokevirtual 99, 3) := by decide +kernel
theorem dX7_newLength_13 : decode cX7_newLength 13 = .ok (.ifCond .eq 33, 3) := by decide +kernel
theorem dX7_newLength_16 : decode cX7_newLength 16 = .ok (.iload_n 2, 1) := by decide +kernel
theorem dX7_newLength_17 : decode cX7_newLength 17 = .ok (.aload_n 0, 1) := by decide +kernel
theorem dX7_newLength_18 : decode cX7_newLength 18 = .ok (.getfield 23, 3) := by decide +kernel
theorem dX7_newLength_21 : decode cX7_newLength 21 = .ok (.aload_n 0, 1) := by decide +kernel
theorem dX7_newLength_22 : decode cX7_newLength 22 = .ok (.getfield 90, 3) := by decide +kernel
theorem dX7_newLength_25 : decode cX7_newLength 25 = .ok (.iaload, 1) := by decide +kernel
theorem dX7_newLength_26 : decode cX7_newLength 26 = .ok (.aload_n 0, 1) := by decide +kernel
theorem dX7_newLength_27 : decode cX7_newLength 27 = .ok (.getfield 17, 3) := by decide +kernel
theorem dX7_newLength_30 : decode cX7_newLength 30 = .ok (.aload_n 0, 1) := by decide +kernel
theorem dX7_newLength_31 : decode cX7_newLength 31 = .ok (.getfield 90, 3) := by decide +kernel
theorem dX7_newLength_34 : decode cX7_newLength 34 = .ok (.iaload, 1) := by decide +kernel
theorem dX7_newLength_35 : decode cX7_newLength 35 = .ok (.isub, 1) := by decide +kernel
theorem dX7_newLength_36 : decode cX7_newLength 36 = .ok (.iadd, 1) := by decide +kernel
theorem dX7_newLength_37 : decode cX7_newLength 37 = .ok (.istore_n 2, 1) := by decide +kernel
theorem dX7_newLength_38 : decode cX7_newLength 38 = .ok (.aload_n 0, 1) := by decide +kernel
theorem dX7_newLength_39 : decode cX7_newLength 39 = .ok (.invokevirtual 102, 3) := by decide +kernel
theorem dX7_newLength_42 : decode cX7_newLength 42 = .ok (.istore_n 3, 1) := by decide +kernel
theorem dX7_newLength_43 : decode cX7_newLength 43 = .ok (.goto (-36), 3) := by decide +kernel
theorem dX7_newLength_46 : decode cX7_newLength 46 = .ok (.iload_n 2, 1) := by decide +kernel
theorem dX7_newLength_47 : decode cX7_newLength 47 = .ok (.ireturn, 1) := by decide +kernel
theorem dX7_replacedLength_0 : decode cX7_replacedLength 0 = .ok (.aload_n 0, 1) := by decide +kernel
theorem dX7_replacedLength_1 : decode cX7_replacedLength 1 = .ok (.aload_n 0, 1) := by decide +kernel
theorem dX7_replacedLength_2 : decode cX7_replacedLength 2 = .ok (.iload_n 1, 1) := by decide +kernel
theorem dX7_replacedLength_3 : decode cX7_replacedLength 3 = .ok (.invokevirtual 108, 3) := by decide +kernel
theorem dX7_replacedLength_6 : decode cX7_replacedLength 6 = .ok (.ifCond .eq 7, 3) := by decide +kernel
theorem dX7_replacedLength_9 : decode cX7_replacedLength 9 = .ok (.iconst 0, 1) := by decide +kernel
theorem dX7_replacedLength_10 : decode cX7_replacedLength 10 = .ok (.goto 4, 3) := by decide +kernel
theorem dX7_replacedLength_13 : decode cX7_replacedLength 13 = .ok (.iconst 1, 1) := by decide +kernel
theorem dX7_replacedLength_14 : decode cX7_replacedLength 14 = .ok (.invokevirtual 46, 3) := by decide +kernel
theorem dX7_replacedLength_17 : decode cX7_replacedLength 17 = .ok (.ifCond .eq 11, 3) := by decide +kernel
theorem dX7_replacedLength_20 : decode cX7_replacedLength 20 = .ok (.aload_n 0, 1) := by decide +kernel
theorem dX7_replacedLength_21 : decode cX7_replacedLength 21 = .ok (.iload_n 1, 1) := by decide +kernel
theorem dX7_replacedLength_22 : decode cX7_replacedLength 22 = .ok (.invokevirtual 114, 3) := by decide +kernel
theorem dX7_replacedLength_25 : decode cX7_replacedLength 25 = .ok (.goto 4, 3) := by decide +kernel
theorem dX7_replacedLength_28 : decode cX7_replacedLength 28 = .ok (.iconst 0, 1) := by decide +kernel
theorem dX7_replacedLength_29 : decode cX7_replacedLength 29 = .ok (.ireturn, 1) := by decide +kernel
theorem dX7_replaced_0 : decode cX7_replaced 0 = .ok (.aload_n 0, 1) := by decide +kernel
theorem dX7_replaced_1 : decode cX7_replaced 1 = .ok (.iload_n 1, 1) := by decide +kernel
theorem dX7_replaced_2 : decode cX7_replaced 2 = .ok (.invokevirtual 108, 3) := by decide +kernel
theorem dX7_replaced_5 : decode cX7_replaced 5 = .ok (.istore_n 3, 1) := by decide +kernel
theorem dX7_replaced_6 : decode cX7_replaced 6 = .ok (.aload_n 0, 1) := by decide +kernel
theorem dX7_replaced_7 : decode cX7_replaced 7 = .ok (.iload_n 3, 1) := by decide +kernel
theorem dX7_replaced_8 : decode cX7_replaced 8 = .ok (.ifCond .ne 7, 3) := by decide +kernel
theorem dX7_replaced_11 : decode cX7_replaced 11 = .ok (.iconst 1, 1) := by decide +kernel
theorem dX7_replaced_12 : decode cX7_replaced 12 = .ok (.goto 21, 3) := by decide +kernel
theorem dX7_replaced_15 : decode cX7_replaced 15 = .ok (.iload_n 2, 1) := by decide +kernel
theorem dX7_replaced_16 : decode cX7_replaced 16 = .ok (.ifCond .lt 12, 3) := by decide +kernel
theorem dX7_replaced_19 : decode cX7_replaced 19 = .ok (.iload_n 2, 1) := by decide +kernel
theorem dX7_replaced_20 : decode cX7_replaced 20 = .ok (.aload_n 0, 1) := by decide +kernel
theorem dX7_replaced_21 : decode cX7_replaced 21 = .ok (.iload_n 1, 1) := by decide +kernel
theorem dX7_replaced_22 : decode cX7_replaced 22 = .ok (.invokevirtual 114, 3) := by decide +kernel
theorem dX7_replaced_25 : decode cX7_replaced 25 = .ok (.if_icmp .lt 7, 3) := by decide +kernel
theorem dX7_replaced_28 : decode cX7_replaced 28 = .ok (.iconst 2, 1) := by decide +kernel
theorem dX7_replaced_29 : decode cX7_replaced 29 = .ok (.goto 4, 3) := by decide +kernel
theorem dX7_replaced_32 : decode cX7_replaced 32 = .ok (.iconst 0, 1) := by decide +kernel
theorem dX7_replaced_33 : decode cX7_replaced 33 = .ok (.invokevirtual 46, 3) := by decide +kernel
theorem dX7_replaced_36 : decode cX7_replaced 36 = .ok (.ifCond .ne 6, 3) := by decide +kernel
theorem dX7_replaced_39 : decode cX7_replaced 39 = .ok (.bipush 97, 2) := by decide +kernel
theorem dX7_replaced_41 : decode cX7_replaced 41 = .ok (.ireturn, 1) := by decide +kernel
theorem dX7_replaced_42 : decode cX7_replaced 42 = .ok (.aload_n 0, 1) := by decide +kernel
theorem dX7_replaced_43 : decode cX7_replaced 43 = .ok (.iload_n 1, 1) := by decide +kernel
theorem dX7_replaced_44 : decode cX7_replaced 44 = .ok (.iload_n 2, 1) := by decide +kernel
theorem dX7_replaced_45 : decode cX7_replaced 45 = .ok (.invokevirtual 117, 3) := by decide +kernel
theorem dX7_replaced_48 : decode cX7_replaced 48 = .ok (.i2c, 1) := by decide +kernel
theorem dX7_replaced_49 : decode cX7_replaced 49 = .ok (.ireturn, 1) := by decide +kernel
theorem dX7_isOpen_0 : decode cX7_isOpen 0 = .ok (.iconst 0, 1) := by decide +kernel
theorem dX7_isOpen_1 : decode cX7_isOpen 1 = .ok (.istore_n 2, 1) := by decide +kernel
theorem dX7_isOpen_2 : decode cX7_isOpen 2 = .ok (.iconst 0, 1) := by decide +kernel
theorem dX7_isOpen_3 : decode cX7_isOpen 3 = .ok (.istore_n 3, 1) := by decide +kernel
theorem dX7_isOpen_4 : decode cX7_isOpen 4 = .ok (.iload_n 3, 1) := by decide +kernel
theorem dX7_isOpen_5 : decode cX7_isOpen 5 = .ok (.aload_n 0, 1) := by decide +kernel
theorem dX7_isOpen_6 : decode cX7_isOpen 6 = .ok (.getfield 36, 3) := by decide +kernel
theorem dX7_isOpen_9 : decode cX7_isOpen 9 = .ok (.if_icmp .ge 43, 3) := by decide +kernel
theorem dX7_isOpen_12 : decode cX7_isOpen 12 = .ok (.iload_n 2, 1) := by decide +kernel
theorem dX7_isOpen_13 : decode cX7_isOpen 13 = .ok (.ifCond .ne 27, 3) := by decide +kernel
theorem dX7_isOpen_16 : decode cX7_isOpen 16 = .ok (.aload_n 0, 1) := by decide +kernel
theorem dX7_isOpen_17 : decode cX7_isOpen 17 = .ok (.getfield 67, 3) := by decide +kernel
theorem dX7_isOpen_20 : decode cX7_isOpen 20 = .ok (.iload_n 1, 1) := by decide +kernel
theorem dX7_isOpen_21 : decode cX7_isOpen 21 = .ok (.isub, 1) := by decide +kernel
theorem dX7_isOpen_22 : decode cX7_isOpen 22 = .ok (.aload_n 0, 1) := by decide +kernel
theorem dX7_isOpen_23 : decode cX7_isOpen 23 = .ok (.getfield 17, 3) := by decide +kernel
theorem dX7_isOpen_26 : decode cX7_isOpen 26 = .ok (.iload_n 3, 1) := by decide +kernel
theorem dX7_isOpen_27 : decode cX7_isOpen 27 = .ok (.iaload, 1) := by decide +kernel
theorem dX7_isOpen_28 : decode cX7_isOpen 28 = .ok (.if_icmp .ge 16, 3) := by decide +kernel
theorem dX7_isOpen_31 : decode cX7_isOpen 31 = .ok (.aload_n 0, 1) := by decide +kernel
theorem dX7_isOpen_32 : decode cX7_isOpen 32 = .ok (.iload_n 1, 1) := by decide +kernel
theorem dX7_isOpen_33 : decode cX7_isOpen 33 = .ok (.iload_n 3, 1) := by decide +kernel
theorem dX7_isOpen_34 : decode cX7_isOpen 34 = .ok (.invokevirtual 84, 3) := by decide +kernel
theorem dX7_isOpen_37 : decode cX7_isOpen 37 = .ok (.ifCond .eq 7, 3) := by decide +kernel
theorem dX7_isOpen_40 : decode cX7_isOpen 40 = .ok (.iconst 1, 1) := by decide +kernel
theorem dX7_isOpen_41 : decode cX7_isOpen 41 = .ok (.goto 4, 3) := by decide +kernel
theorem dX7_isOpen_44 : decode cX7_isOpen 44 = .ok (.iconst 0, 1) := by decide +kernel
theorem dX7_isOpen_45 : decode cX7_isOpen 45 = .ok (.istore_n 2, 1) := by decide +kernel
theorem dX7_isOpen_46 : decode cX7_isOpen 46 = .ok (.iinc 3 1, 3) := by decide +kernel
theorem dX7_isOpen_49 : decode cX7_isOpen 49 = .ok (.goto (-45), 3) := by decide +kernel
theorem dX7_isOpen_52 : decode cX7_isOpen 52 = .ok (.iload_n 2, 1) := by decide +kernel
theorem dX7_isOpen_53 : decode cX7_isOpen 53 = .ok (.ireturn, 1) := by decide +kernel
theorem dX7_certain_0 : decode cX7_certain 0 = .ok (.aload_n 0, 1) := by decide +kernel
theorem dX7_certain_1 : decode cX7_certain 1 = .ok (.iconst 0, 1) := by decide +kernel
theorem dX7_certain_2 : decode cX7_certain 2 = .ok (.putfield 32, 3) := by decide +kernel
theorem dX7_certain_5 : decode cX7_certain 5 = .ok (.iconst 0, 1) := by decide +kernel
theorem dX7_certain_6 : decode cX7_certain 6 = .ok (.istore_n 1, 1) := by decide +kernel
theorem dX7_certain_7 : decode cX7_certain 7 = .ok (.iconst 0, 1) := by decide +kernel
theorem dX7_certain_8 : decode cX7_certain 8 = .ok (.istore_n 2, 1) := by decide +kernel
theorem dX7_certain_9 : decode cX7_certain 9 = .ok (.iload_n 2, 1) := by decide +kernel
theorem dX7_certain_10 : decode cX7_certain 10 = .ok (.aload_n 0, 1) := by decide +kernel
theorem dX7_certain_11 : decode cX7_certain 11 = .ok (.getfield 67, 3) := by decide +kernel
theorem dX7_certain_14 : decode cX7_certain 14 = .ok (.if_icmp .ge 72, 3) := by decide +kernel
theorem dX7_certain_17 : decode cX7_certain 17 = .ok (.aload_n 0, 1) := by decide +kernel
theorem dX7_certain_18 : decode cX7_certain 18 = .ok (.iload_n 2, 1) := by decide +kernel
theorem dX7_certain_19 : decode cX7_certain 19 = .ok (.invokevirtual 121, 3) := by decide +kernel
theorem dX7_certain_22 : decode cX7_certain 22 = .ok (.ifCond .ne 64, 3) := by decide +kernel
theorem dX7_certain_25 : decode cX7_certain 25 = .ok (.aload_n 0, 1) := by decide +kernel
theorem dX7_certain_26 : decode cX7_certain 26 = .ok (.iconst 0, 1) := by decide +kernel
theorem dX7_certain_27 : decode cX7_certain 27 = .ok (.iload_n 2, 1) := by decide +kernel
theorem dX7_certain_28 : decode cX7_certain 28 = .ok (.invokevirtual 99, 3) := by decide +kernel
theorem dX7_certain_31 : decode cX7_certain 31 = .ok (.ifCond .eq 15, 3) := by decide +kernel
theorem dX7_certain_34 : decode cX7_certain 34 = .ok (.aload_n 0, 1) := by decide +kernel
theorem dX7_certain_35 : decode cX7_certain 35 = .ok (.getfield 93, 3) := by decide +kernel
theorem dX7_certain_38 : decode cX7_certain 38 = .ok (.iload_n 2, 1) := by decide +kernel
theorem dX7_certain_39 : decode cX7_certain 39 = .ok (.if_icmp .ne 7, 3) := by decide +kernel
theorem dX7_certain_42 : decode cX7_certain 42 = .ok (.iconst 1, 1) := by decide +kernel
theorem dX7_certain_43 : decode cX7_certain 43 = .ok (.goto 4, 3) := by decide +kernel
theorem dX7_certain_46 : decode cX7_certain 46 = .ok (.iconst 0, 1) := by decide +kernel
theorem dX7_certain_47 : decode cX7_certain 47 = .ok (.istore_n 3, 1) := by decide +kernel
theorem dX7_certain_48 : decode cX7_certain 48 = .ok (.iload_n 1, 1) := by decide +kernel
theorem dX7_certain_49 : decode cX7_certain 49 = .ok (.iload_n 3, 1) := by decide +kernel
theorem dX7_certain_50 : decode cX7_certain 50 = .ok (.ifCond .eq 15, 3) := by decide +kernel
theorem dX7_certain_53 : decode cX7_certain 53 = .ok (.aload_n 0, 1) := by decide +kernel
theorem dX7_certain_54 : decode cX7_certain 54 = .ok (.getfield 23, 3) := by decide +kernel
theorem dX7_certain_57 : decode cX7_certain 57 = .ok (.aload_n 0, 1) := by decide +kernel
theorem dX7_certain_58 : decode cX7_certain 58 = .ok (.getfield 90, 3) := by decide +kernel
theorem dX7_certain_61 : decode cX7_certain 61 = .ok (.iaload, 1) := by decide +kernel
theorem dX7_certain_62 : decode cX7_certain 62 = .ok (.goto 4, 3) := by decide +kernel
theorem dX7_certain_65 : decode cX7_certain 65 = .ok (.iconst 1, 1) := by decide +kernel
theorem dX7_certain_66 : decode cX7_certain 66 = .ok (.iadd, 1) := by decide +kernel
theorem dX7_certain_67 : decode cX7_certain 67 = .ok (.istore_n 1, 1) := by decide +kernel
theorem dX7_certain_68 : decode cX7_certain 68 = .ok (.iload_n 3, 1) := by decide +kernel
theorem dX7_certain_69 : decode cX7_certain 69 = .ok (.ifCond .eq 10, 3) := by decide +kernel
theorem dX7_certain_72 : decode cX7_certain 72 = .ok (.aload_n 0, 1) := by decide +kernel
theorem dX7_certain_73 : decode cX7_certain 73 = .ok (.invokevirtual 102, 3) := by decide +kernel
theorem dX7_certain_76 : decode cX7_certain 76 = .ok (.goto 6, 3) := by decide +kernel
theorem dX7_certain_79 : decode cX7_certain 79 = .ok (.iload_n 2, 1) := by decide +kernel
theorem dX7_certain_80 : decode cX7_certain 80 = .ok (.iconst 1, 1) := by decide +kernel
theorem dX7_certain_81 : decode cX7_certain 81 = .ok (.iadd, 1) := by decide +kernel
theorem dX7_certain_82 : decode cX7_certain 82 = .ok (.istore_n 2, 1) := by decide +kernel
theorem dX7_certain_83 : decode cX7_certain 83 = .ok (.goto (-74), 3) := by decide +kernel
theorem dX7_certain_86 : decode cX7_certain 86 = .ok (.iload_n 1, 1) := by decide +kernel
theorem dX7_certain_87 : decode cX7_certain 87 = .ok (.ireturn, 1) := by decide +kernel
end
section
theorem dL_law_0 : decode cL_law 0 = .ok (.new 8, 3) := by decide +kernel
theorem dL_law_3 : decode cL_law 3 = .ok (.dup, 1) := by decide +kernel
theorem dL_law_4 : decode cL_law 4 = .ok (.invokespecial 73, 3) := by decide +kernel
theorem dL_law_7 : decode cL_law 7 = .ok (.astore_n 1, 1) := by decide +kernel
theorem dL_law_8 : decode cL_law 8 = .ok (.new 74, 3) := by decide +kernel
theorem dL_law_11 : decode cL_law 11 = .ok (.dup, 1) := by decide +kernel
theorem dL_law_12 : decode cL_law 12 = .ok (.invokespecial 76, 3) := by decide +kernel
theorem dL_law_15 : decode cL_law 15 = .ok (.astore_n 2, 1) := by decide +kernel
theorem dL_law_16 : decode cL_law 16 = .ok (.iconst 1, 1) := by decide +kernel
theorem dL_law_17 : decode cL_law 17 = .ok (.newarray .long, 2) := by decide +kernel
theorem dL_law_19 : decode cL_law 19 = .ok (.astore_n 3, 1) := by decide +kernel
theorem dL_law_20 : decode cL_law 20 = .ok (.iconst 0, 1) := by decide +kernel
theorem dL_law_21 : decode cL_law 21 = .ok (.istore 4, 2) := by decide +kernel
theorem dL_law_23 : decode cL_law 23 = .ok (.iload 4, 2) := by decide +kernel
theorem dL_law_25 : decode cL_law 25 = .ok (.aload_n 0, 1) := by decide +kernel
theorem dL_law_26 : decode cL_law 26 = .ok (.arraylength, 1) := by decide +kernel
theorem dL_law_27 : decode cL_law 27 = .ok (.iconst 3, 1) := by decide +kernel
theorem dL_law_28 : decode cL_law 28 = .ok (.isub, 1) := by decide +kernel
theorem dL_law_29 : decode cL_law 29 = .ok (.if_icmp .gt 1288, 3) := by decide +kernel
theorem dL_law_32 : decode cL_law 32 = .ok (.aload_n 0, 1) := by decide +kernel
theorem dL_law_33 : decode cL_law 33 = .ok (.iload 4, 2) := by decide +kernel
theorem dL_law_35 : decode cL_law 35 = .ok (.iaload, 1) := by decide +kernel
theorem dL_law_36 : decode cL_law 36 = .ok (.bipush 31, 2) := by decide +kernel
theorem dL_law_38 : decode cL_law 38 = .ok (.iand, 1) := by decide +kernel
theorem dL_law_39 : decode cL_law 39 = .ok (.tableswitch 1272 0 27 #[125, 183, 227, 283, 339, 352, 408, 421, 477, 545, 603, 659, 672, 685, 698, 711, 767, 780, 836, 904, 917, 930, 943, 999, 1067, 1135, 1191, 1259], 125) := by decide +kernel
theorem dL_law_164 : decode cL_law 164 = .ok (.aload_n 1, 1) := by decide +kernel
theorem dL_law_165 : decode cL_law 165 = .ok (.aload_n 0, 1) := by decide +kernel
theorem dL_law_166 : decode cL_law 166 = .ok (.iload 4, 2) := by decide +kernel
theorem dL_law_168 : decode cL_law 168 = .ok (.iconst 1, 1) := by decide +kernel
theorem dL_law_169 : decode cL_law 169 = .ok (.iadd, 1) := by decide +kernel
theorem dL_law_170 : decode cL_law 170 = .ok (.iaload, 1) := by decide +kernel
theorem dL_law_171 : decode cL_law 171 = .ok (.i2c, 1) := by decide +kernel
theorem dL_law_172 : decode cL_law 172 = .ok (.aload_n 3, 1) := by decide +kernel
theorem dL_law_173 : decode cL_law 173 = .ok (.invokestatic 77, 3) := by decide +kernel
theorem dL_law_176 : decode cL_law 176 = .ok (.istore 5, 2) := by decide +kernel
theorem dL_law_178 : decode cL_law 178 = .ok (.aload_n 2, 1) := by decide +kernel
theorem dL_law_179 : decode cL_law 179 = .ok (.aload_n 0, 1) := by decide +kernel
theorem dL_law_180 : decode cL_law 180 = .ok (.iload 4, 2) := by decide +kernel
theorem dL_law_182 : decode cL_law 182 = .ok (.iconst 1, 1) := by decide +kernel
theorem dL_law_183 : decode cL_law 183 = .ok (.iadd, 1) := by decide +kernel
theorem dL_law_184 : decode cL_law 184 = .ok (.iaload, 1) := by decide +kernel
theorem dL_law_185 : decode cL_law 185 = .ok (.i2c, 1) := by decide +kernel
theorem dL_law_186 : decode cL_law 186 = .ok (.invokevirtual 82, 3) := by decide +kernel
theorem dL_law_189 : decode cL_law 189 = .ok (.istore 6, 2) := by decide +kernel
theorem dL_law_191 : decode cL_law 191 = .ok (.aload_n 2, 1) := by decide +kernel
theorem dL_law_192 : decode cL_law 192 = .ok (.invokevirtual 83, 3) := by decide +kernel
theorem dL_law_195 : decode cL_law 195 = .ok (.iload 5, 2) := by decide +kernel
theorem dL_law_197 : decode cL_law 197 = .ok (.if_icmp .eq 5, 3) := by decide +kernel
theorem dL_law_200 : decode cL_law 200 = .ok (.iconst 0, 1) := by decide +kernel
theorem dL_law_201 : decode cL_law 201 = .ok (.ireturn, 1) := by decide +kernel
theorem dL_law_202 : decode cL_law 202 = .ok (.iload 5, 2) := by decide +kernel
theorem dL_law_204 : decode cL_law 204 = .ok (.ifCond .ne 15, 3) := by decide +kernel
theorem dL_law_207 : decode cL_law 207 = .ok (.aload_n 3, 1) := by decide +kernel
theorem dL_law_208 : decode cL_law 208 = .ok (.iconst 0, 1) := by decide +kernel
theorem dL_law_209 : decode cL_law 209 = .ok (.laload, 1) := by decide +kernel
theorem dL_law_210 : decode cL_law 210 = .ok (.iload 6, 2) := by decide +kernel
theorem dL_law_212 : decode cL_law 212 = .ok (.i2l, 1) := by decide +kernel
theorem dL_law_213 : decode cL_law 213 = .ok (.lcmp, 1) := by decide +kernel
theorem dL_law_214 : decode cL_law 214 = .ok (.ifCond .eq 5, 3) := by decide +kernel
theorem dL_law_217 : decode cL_law 217 = .ok (.iconst 0, 1) := by decide +kernel
theorem dL_law_218 : decode cL_law 218 = .ok (.ireturn, 1) := by decide +kernel
theorem dL_law_219 : decode cL_law 219 = .ok (.goto 1092, 3) := by decide +kernel
theorem dL_law_222 : decode cL_law 222 = .ok (.aload_n 1, 1) := by decide +kernel
theorem dL_law_223 : decode cL_law 223 = .ok (.aload_n 3, 1) := by decide +kernel
theorem dL_law_224 : decode cL_law 224 = .ok (.invokestatic 86, 3) := by decide +kernel
theorem dL_law_227 : decode cL_law 227 = .ok (.istore 5, 2) := by decide +kernel
theorem dL_law_229 : decode cL_law 229 = .ok (.aload_n 2, 1) := by decide +kernel
theorem dL_law_230 : decode cL_law 230 = .ok (.invokevirtual 89, 3) := by decide +kernel
theorem dL_law_233 : decode cL_law 233 = .ok (.istore 6, 2) := by decide +kernel
theorem dL_law_235 : decode cL_law 235 = .ok (.aload_n 2, 1) := by decide +kernel
theorem dL_law_236 : decode cL_law 236 = .ok (.invokevirtual 83, 3) := by decide +kernel
theorem dL_law_239 : decode cL_law 239 = .ok (.iload 5, 2) := by decide +kernel
theorem dL_law_241 : decode cL_law 241 = .ok (.if_icmp .eq 5, 3) := by decide +kernel
theorem dL_law_244 : decode cL_law 244 = .ok (.iconst 0, 1) := by decide +kernel
theorem dL_law_245 : decode cL_law 245 = .ok (.ireturn, 1) := by decide +kernel
theorem dL_law_246 : decode cL_law 246 = .ok (.iload 5, 2) := by decide +kernel
theorem dL_law_248 : decode cL_law 248 = .ok (.ifCond .ne 15, 3) := by decide +kernel
theorem dL_law_251 : decode cL_law 251 = .ok (.aload_n 3, 1) := by decide +kernel
theorem dL_law_252 : decode cL_law 252 = .ok (.iconst 0, 1) := by decide +kernel
theorem dL_law_253 : decode cL_law 253 = .ok (.laload, 1) := by decide +kernel
theorem dL_law_254 : decode cL_law 254 = .ok (.iload 6, 2) := by decide +kernel
theorem dL_law_256 : decode cL_law 256 = .ok (.i2l, 1) := by decide +kernel
theorem dL_law_257 : decode cL_law 257 = .ok (.lcmp, 1) := by decide +kernel
theorem dL_law_258 : decode cL_law 258 = .ok (.ifCond .eq 5, 3) := by decide +kernel
theorem dL_law_261 : decode cL_law 261 = .ok (.iconst 0, 1) := by decide +kernel
theorem dL_law_262 : decode cL_law 262 = .ok (.ireturn, 1) := by decide +kernel
theorem dL_law_263 : decode cL_law 263 = .ok (.goto 1048, 3) := by decide +kernel
theorem dL_law_266 : decode cL_law 266 = .ok (.aload_n 1, 1) := by decide +kernel
theorem dL_law_267 : decode cL_law 267 = .ok (.aload_n 0, 1) := by decide +kernel
theorem dL_law_268 : decode cL_law 268 = .ok (.iload 4, 2) := by decide +kernel
theorem dL_law_270 : decode cL_law 270 = .ok (.iconst 1, 1) := by decide +kernel
theorem dL_law_271 : decode cL_law 271 = .ok (.iadd, 1) := by decide +kernel
theorem dL_law_272 : decode cL_law 272 = .ok (.iaload, 1) := by decide +kernel
theorem dL_law_273 : decode cL_law 273 = .ok (.aload_n 3, 1) := by decide +kernel
theorem dL_law_274 : decode cL_law 274 = .ok (.invokestatic 90, 3) := by decide +kernel
theorem dL_law_277 : decode cL_law 277 = .ok (.istore 5, 2) := by decide +kernel
theorem dL_law_279 : decode cL_law 279 = .ok (.aload_n 2, 1) := by decide +kernel
theorem dL_law_280 : decode cL_law 280 = .ok (.aload_n 0, 1) := by decide +kernel
theorem dL_law_281 : decode cL_law 281 = .ok (.iload 4, 2) := by decide +kernel
theorem dL_law_283 : decode cL_law 283 = .ok (.iconst 1, 1) := by decide +kernel
theorem dL_law_284 : decode cL_law 284 = .ok (.iadd, 1) := by decide +kernel
theorem dL_law_285 : decode cL_law 285 = .ok (.iaload, 1) := by decide +kernel
theorem dL_law_286 : decode cL_law 286 = .ok (.invokevirtual 93, 3) := by decide +kernel
theorem dL_law_289 : decode cL_law 289 = .ok (.istore 6, 2) := by decide +kernel
theorem dL_law_291 : decode cL_law 291 = .ok (.aload_n 2, 1) := by decide +kernel
theorem dL_law_292 : decode cL_law 292 = .ok (.invokevirtual 83, 3) := by decide +kernel
theorem dL_law_295 : decode cL_law 295 = .ok (.iload 5, 2) := by decide +kernel
theorem dL_law_297 : decode cL_law 297 = .ok (.if_icmp .eq 5, 3) := by decide +kernel
theorem dL_law_300 : decode cL_law 300 = .ok (.iconst 0, 1) := by decide +kernel
theorem dL_law_301 : decode cL_law 301 = .ok (.ireturn, 1) := by decide +kernel
theorem dL_law_302 : decode cL_law 302 = .ok (.iload 5, 2) := by decide +kernel
theorem dL_law_304 : decode cL_law 304 = .ok (.ifCond .ne 15, 3) := by decide +kernel
theorem dL_law_307 : decode cL_law 307 = .ok (.aload_n 3, 1) := by decide +kernel
theorem dL_law_308 : decode cL_law 308 = .ok (.iconst 0, 1) := by decide +kernel
theorem dL_law_309 : decode cL_law 309 = .ok (.laload, 1) := by decide +kernel
theorem dL_law_310 : decode cL_law 310 = .ok (.iload 6, 2) := by decide +kernel
theorem dL_law_312 : decode cL_law 312 = .ok (.i2l, 1) := by decide +kernel
theorem dL_law_313 : decode cL_law 313 = .ok (.lcmp, 1) := by decide +kernel
theorem dL_law_314 : decode cL_law 314 = .ok (.ifCond .eq 5, 3) := by decide +kernel
theorem dL_law_317 : decode cL_law 317 = .ok (.iconst 0, 1) := by decide +kernel
theorem dL_law_318 : decode cL_law 318 = .ok (.ireturn, 1) := by decide +kernel
theorem dL_law_319 : decode cL_law 319 = .ok (.goto 992, 3) := by decide +kernel
theorem dL_law_322 : decode cL_law 322 = .ok (.aload_n 1, 1) := by decide +kernel
theorem dL_law_323 : decode cL_law 323 = .ok (.aload_n 0, 1) := by decide +kernel
theorem dL_law_324 : decode cL_law 324 = .ok (.iload 4, 2) := by decide +kernel
theorem dL_law_326 : decode cL_law 326 = .ok (.iconst 1, 1) := by decide +kernel
theorem dL_law_327 : decode cL_law 327 = .ok (.iadd, 1) := by decide +kernel
theorem dL_law_328 : decode cL_law 328 = .ok (.iaload, 1) := by decide +kernel
theorem dL_law_329 : decode cL_law 329 = .ok (.aload_n 3, 1) := by decide +kernel
theorem dL_law_330 : decode cL_law 330 = .ok (.invokestatic 94, 3) := by decide +kernel
theorem dL_law_333 : decode cL_law 333 = .ok (.istore 5, 2) := by decide +kernel
theorem dL_law_335 : decode cL_law 335 = .ok (.aload_n 2, 1) := by decide +kernel
theorem dL_law_336 : decode cL_law 336 = .ok (.aload_n 0, 1) := by decide +kernel
theorem dL_law_337 : decode cL_law 337 = .ok (.iload 4, 2) := by decide +kernel
theorem dL_law_339 : decode cL_law 339 = .ok (.iconst 1, 1) := by decide +kernel
theorem dL_law_340 : decode cL_law 340 = .ok (.iadd, 1) := by decide +kernel
theorem dL_law_341 : decode cL_law 341 = .ok (.iaload, 1) := by decide +kernel
theorem dL_law_342 : decode cL_law 342 = .ok (.invokevirtual 96, 3) := by decide +kernel
theorem dL_law_345 : decode cL_law 345 = .ok (.istore 6, 2) := by decide +kernel
theorem dL_law_347 : decode cL_law 347 = .ok (.aload_n 2, 1) := by decide +kernel
theorem dL_law_348 : decode cL_law 348 = .ok (.invokevirtual 83, 3) := by decide +kernel
theorem dL_law_351 : decode cL_law 351 = .ok (.iload 5, 2) := by decide +kernel
theorem dL_law_353 : decode cL_law 353 = .ok (.if_icmp .eq 5, 3) := by decide +kernel
theorem dL_law_356 : decode cL_law 356 = .ok (.iconst 0, 1) := by decide +kernel
theorem dL_law_357 : decode cL_law 357 = .ok (.ireturn, 1) := by decide +kernel
theorem dL_law_358 : decode cL_law 358 = .ok (.iload 5, 2) := by decide +kernel
theorem dL_law_360 : decode cL_law 360 = .ok (.ifCond .ne 15, 3) := by decide +kernel
theorem dL_law_363 : decode cL_law 363 = .ok (.aload_n 3, 1) := by decide +kernel
theorem dL_law_364 : decode cL_law 364 = .ok (.iconst 0, 1) := by decide +kernel
theorem dL_law_365 : decode cL_law 365 = .ok (.laload, 1) := by decide +kernel
theorem dL_law_366 : decode cL_law 366 = .ok (.iload 6, 2) := by decide +kernel
theorem dL_law_368 : decode cL_law 368 = .ok (.i2l, 1) := by decide +kernel
theorem dL_law_369 : decode cL_law 369 = .ok (.lcmp, 1) := by decide +kernel
theorem dL_law_370 : decode cL_law 370 = .ok (.ifCond .eq 5, 3) := by decide +kernel
theorem dL_law_373 : decode cL_law 373 = .ok (.iconst 0, 1) := by decide +kernel
theorem dL_law_374 : decode cL_law 374 = .ok (.ireturn, 1) := by decide +kernel
theorem dL_law_375 : decode cL_law 375 = .ok (.goto 936, 3) := by decide +kernel
theorem dL_law_378 : decode cL_law 378 = .ok (.aload_n 1, 1) := by decide +kernel
theorem dL_law_379 : decode cL_law 379 = .ok (.invokevirtual 97, 3) := by decide +kernel
theorem dL_law_382 : decode cL_law 382 = .ok (.aload_n 2, 1) := by decide +kernel
theorem dL_law_383 : decode cL_law 383 = .ok (.invokevirtual 100, 3) := by decide +kernel
theorem dL_law_386 : decode cL_law 386 = .ok (.if_icmp .eq 925, 3) := by decide +kernel
theorem dL_law_389 : decode cL_law 389 = .ok (.iconst 0, 1) := by decide +kernel
theorem dL_law_390 : decode cL_law 390 = .ok (.ireturn, 1) := by decide +kernel
theorem dL_law_391 : decode cL_law 391 = .ok (.aload_n 1, 1) := by decide +kernel
theorem dL_law_392 : decode cL_law 392 = .ok (.aload_n 0, 1) := by decide +kernel
theorem dL_law_393 : decode cL_law 393 = .ok (.iload 4, 2) := by decide +kernel
theorem dL_law_395 : decode cL_law 395 = .ok (.iconst 1, 1) := by decide +kernel
theorem dL_law_396 : decode cL_law 396 = .ok (.iadd, 1) := by decide +kernel
theorem dL_law_397 : decode cL_law 397 = .ok (.iaload, 1) := by decide +kernel
theorem dL_law_398 : decode cL_law 398 = .ok (.aload_n 3, 1) := by decide +kernel
theorem dL_law_399 : decode cL_law 399 = .ok (.invokestatic 101, 3) := by decide +kernel
theorem dL_law_402 : decode cL_law 402 = .ok (.istore 5, 2) := by decide +kernel
theorem dL_law_404 : decode cL_law 404 = .ok (.aload_n 2, 1) := by decide +kernel
theorem dL_law_405 : decode cL_law 405 = .ok (.aload_n 0, 1) := by decide +kernel
theorem dL_law_406 : decode cL_law 406 = .ok (.iload 4, 2) := by decide +kernel
theorem dL_law_408 : decode cL_law 408 = .ok (.iconst 1, 1) := by decide +kernel
theorem dL_law_409 : decode cL_law 409 = .ok (.iadd, 1) := by decide +kernel
theorem dL_law_410 : decode cL_law 410 = .ok (.iaload, 1) := by decide +kernel
theorem dL_law_411 : decode cL_law 411 = .ok (.invokevirtual 103, 3) := by decide +kernel
theorem dL_law_414 : decode cL_law 414 = .ok (.istore 6, 2) := by decide +kernel
theorem dL_law_416 : decode cL_law 416 = .ok (.aload_n 2, 1) := by decide +kernel
theorem dL_law_417 : decode cL_law 417 = .ok (.invokevirtual 83, 3) := by decide +kernel
theorem dL_law_420 : decode cL_law 420 = .ok (.iload 5, 2) := by decide +kernel
theorem dL_law_422 : decode cL_law 422 = .ok (.if_icmp .eq 5, 3) := by decide +kernel
theorem dL_law_425 : decode cL_law 425 = .ok (.iconst 0, 1) := by decide +kernel
theorem dL_law_426 : decode cL_law 426 = .ok (.ireturn, 1) := by decide +kernel
theorem dL_law_427 : decode cL_law 427 = .ok (.iload 5, 2) := by decide +kernel
theorem dL_law_429 : decode cL_law 429 = .ok (.ifCond .ne 15, 3) := by decide +kernel
theorem dL_law_432 : decode cL_law 432 = .ok (.aload_n 3, 1) := by decide +kernel
theorem dL_law_433 : decode cL_law 433 = .ok (.iconst 0, 1) := by decide +kernel
theorem dL_law_434 : decode cL_law 434 = .ok (.laload, 1) := by decide +kernel
theorem dL_law_435 : decode cL_law 435 = .ok (.iload 6, 2) := by decide +kernel
theorem dL_law_437 : decode cL_law 437 = .ok (.i2l, 1) := by decide +kernel
theorem dL_law_438 : decode cL_law 438 = .ok (.lcmp, 1) := by decide +kernel
theorem dL_law_439 : decode cL_law 439 = .ok (.ifCond .eq 5, 3) := by decide +kernel
theorem dL_law_442 : decode cL_law 442 = .ok (.iconst 0, 1) := by decide +kernel
theorem dL_law_443 : decode cL_law 443 = .ok (.ireturn, 1) := by decide +kernel
theorem dL_law_444 : decode cL_law 444 = .ok (.goto 867, 3) := by decide +kernel
theorem dL_law_447 : decode cL_law 447 = .ok (.aload_n 1, 1) := by decide +kernel
theorem dL_law_448 : decode cL_law 448 = .ok (.invokevirtual 104, 3) := by decide +kernel
theorem dL_law_451 : decode cL_law 451 = .ok (.aload_n 2, 1) := by decide +kernel
theorem dL_law_452 : decode cL_law 452 = .ok (.invokevirtual 107, 3) := by decide +kernel
theorem dL_law_455 : decode cL_law 455 = .ok (.if_icmp .eq 856, 3) := by decide +kernel
theorem dL_law_458 : decode cL_law 458 = .ok (.iconst 0, 1) := by decide +kernel
theorem dL_law_459 : decode cL_law 459 = .ok (.ireturn, 1) := by decide +kernel
theorem dL_law_460 : decode cL_law 460 = .ok (.aload_n 1, 1) := by decide +kernel
theorem dL_law_461 : decode cL_law 461 = .ok (.aload_n 0, 1) := by decide +kernel
theorem dL_law_462 : decode cL_law 462 = .ok (.iload 4, 2) := by decide +kernel
theorem dL_law_464 : decode cL_law 464 = .ok (.iconst 1, 1) := by decide +kernel
theorem dL_law_465 : decode cL_law 465 = .ok (.iadd, 1) := by decide +kernel
theorem dL_law_466 : decode cL_law 466 = .ok (.iaload, 1) := by decide +kernel
theorem dL_law_467 : decode cL_law 467 = .ok (.aload_n 3, 1) := by decide +kernel
theorem dL_law_468 : decode cL_law 468 = .ok (.invokestatic 108, 3) := by decide +kernel
theorem dL_law_471 : decode cL_law 471 = .ok (.istore 5, 2) := by decide +kernel
theorem dL_law_473 : decode cL_law 473 = .ok (.aload_n 2, 1) := by decide +kernel
theorem dL_law_474 : decode cL_law 474 = .ok (.aload_n 0, 1) := by decide +kernel
theorem dL_law_475 : decode cL_law 475 = .ok (.iload 4, 2) := by decide +kernel
theorem dL_law_477 : decode cL_law 477 = .ok (.iconst 1, 1) := by decide +kernel
theorem dL_law_478 : decode cL_law 478 = .ok (.iadd, 1) := by decide +kernel
theorem dL_law_479 : decode cL_law 479 = .ok (.iaload, 1) := by decide +kernel
theorem dL_law_480 : decode cL_law 480 = .ok (.invokevirtual 110, 3) := by decide +kernel
theorem dL_law_483 : decode cL_law 483 = .ok (.istore 6, 2) := by decide +kernel
theorem dL_law_485 : decode cL_law 485 = .ok (.aload_n 2, 1) := by decide +kernel
theorem dL_law_486 : decode cL_law 486 = .ok (.invokevirtual 83, 3) := by decide +kernel
theorem dL_law_489 : decode cL_law 489 = .ok (.iload 5, 2) := by decide +kernel
theorem dL_law_491 : decode cL_law 491 = .ok (.if_icmp .eq 5, 3) := by decide +kernel
theorem dL_law_494 : decode cL_law 494 = .ok (.iconst 0, 1) := by decide +kernel
theorem dL_law_495 : decode cL_law 495 = .ok (.ireturn, 1) := by decide +kernel
theorem dL_law_496 : decode cL_law 496 = .ok (.iload 5, 2) := by decide +kernel
theorem dL_law_498 : decode cL_law 498 = .ok (.ifCond .ne 15, 3) := by decide +kernel
theorem dL_law_501 : decode cL_law 501 = .ok (.aload_n 3, 1) := by decide +kernel
theorem dL_law_502 : decode cL_law 502 = .ok (.iconst 0, 1) := by decide +kernel
theorem dL_law_503 : decode cL_law 503 = .ok (.laload, 1) := by decide +kernel
theorem dL_law_504 : decode cL_law 504 = .ok (.iload 6, 2) := by decide +kernel
theorem dL_law_506 : decode cL_law 506 = .ok (.i2l, 1) := by decide +kernel
theorem dL_law_507 : decode cL_law 507 = .ok (.lcmp, 1) := by decide +kernel
theorem dL_law_508 : decode cL_law 508 = .ok (.ifCond .eq 5, 3) := by decide +kernel
theorem dL_law_511 : decode cL_law 511 = .ok (.iconst 0, 1) := by decide +kernel
theorem dL_law_512 : decode cL_law 512 = .ok (.ireturn, 1) := by decide +kernel
theorem dL_law_513 : decode cL_law 513 = .ok (.goto 798, 3) := by decide +kernel
theorem dL_law_516 : decode cL_law 516 = .ok (.aload_n 1, 1) := by decide +kernel
theorem dL_law_517 : decode cL_law 517 = .ok (.aload_n 0, 1) := by decide +kernel
theorem dL_law_518 : decode cL_law 518 = .ok (.iload 4, 2) := by decide +kernel
theorem dL_law_520 : decode cL_law 520 = .ok (.iconst 1, 1) := by decide +kernel
theorem dL_law_521 : decode cL_law 521 = .ok (.iadd, 1) := by decide +kernel
theorem dL_law_522 : decode cL_law 522 = .ok (.iaload, 1) := by decide +kernel
theorem dL_law_523 : decode cL_law 523 = .ok (.aload_n 0, 1) := by decide +kernel
theorem dL_law_524 : decode cL_law 524 = .ok (.iload 4, 2) := by decide +kernel
theorem dL_law_526 : decode cL_law 526 = .ok (.iconst 2, 1) := by decide +kernel
theorem dL_law_527 : decode cL_law 527 = .ok (.iadd, 1) := by decide +kernel
theorem dL_law_528 : decode cL_law 528 = .ok (.iaload, 1) := by decide +kernel
theorem dL_law_529 : decode cL_law 529 = .ok (.aload_n 3, 1) := by decide +kernel
theorem dL_law_530 : decode cL_law 530 = .ok (.invokestatic 111, 3) := by decide +kernel
theorem dL_law_533 : decode cL_law 533 = .ok (.istore 5, 2) := by decide +kernel
theorem dL_law_535 : decode cL_law 535 = .ok (.aload_n 2, 1) := by decide +kernel
theorem dL_law_536 : decode cL_law 536 = .ok (.aload_n 0, 1) := by decide +kernel
theorem dL_law_537 : decode cL_law 537 = .ok (.iload 4, 2) := by decide +kernel
theorem dL_law_539 : decode cL_law 539 = .ok (.iconst 1, 1) := by decide +kernel
theorem dL_law_540 : decode cL_law 540 = .ok (.iadd, 1) := by decide +kernel
theorem dL_law_541 : decode cL_law 541 = .ok (.iaload, 1) := by decide +kernel
theorem dL_law_542 : decode cL_law 542 = .ok (.aload_n 0, 1) := by decide +kernel
theorem dL_law_543 : decode cL_law 543 = .ok (.iload 4, 2) := by decide +kernel
theorem dL_law_545 : decode cL_law 545 = .ok (.iconst 2, 1) := by decide +kernel
theorem dL_law_546 : decode cL_law 546 = .ok (.iadd, 1) := by decide +kernel
theorem dL_law_547 : decode cL_law 547 = .ok (.iaload, 1) := by decide +kernel
theorem dL_law_548 : decode cL_law 548 = .ok (.invokevirtual 114, 3) := by decide +kernel
theorem dL_law_551 : decode cL_law 551 = .ok (.istore 6, 2) := by decide +kernel
theorem dL_law_553 : decode cL_law 553 = .ok (.aload_n 2, 1) := by decide +kernel
theorem dL_law_554 : decode cL_law 554 = .ok (.invokevirtual 83, 3) := by decide +kernel
theorem dL_law_557 : decode cL_law 557 = .ok (.iload 5, 2) := by decide +kernel
theorem dL_law_559 : decode cL_law 559 = .ok (.if_icmp .eq 5, 3) := by decide +kernel
theorem dL_law_562 : decode cL_law 562 = .ok (.iconst 0, 1) := by decide +kernel
theorem dL_law_563 : decode cL_law 563 = .ok (.ireturn, 1) := by decide +kernel
theorem dL_law_564 : decode cL_law 564 = .ok (.iload 5, 2) := by decide +kernel
theorem dL_law_566 : decode cL_law 566 = .ok (.ifCond .ne 15, 3) := by decide +kernel
theorem dL_law_569 : decode cL_law 569 = .ok (.aload_n 3, 1) := by decide +kernel
theorem dL_law_570 : decode cL_law 570 = .ok (.iconst 0, 1) := by decide +kernel
theorem dL_law_571 : decode cL_law 571 = .ok (.laload, 1) := by decide +kernel
theorem dL_law_572 : decode cL_law 572 = .ok (.iload 6, 2) := by decide +kernel
theorem dL_law_574 : decode cL_law 574 = .ok (.i2l, 1) := by decide +kernel
theorem dL_law_575 : decode cL_law 575 = .ok (.lcmp, 1) := by decide +kernel
theorem dL_law_576 : decode cL_law 576 = .ok (.ifCond .eq 5, 3) := by decide +kernel
theorem dL_law_579 : decode cL_law 579 = .ok (.iconst 0, 1) := by decide +kernel
theorem dL_law_580 : decode cL_law 580 = .ok (.ireturn, 1) := by decide +kernel
theorem dL_law_581 : decode cL_law 581 = .ok (.goto 730, 3) := by decide +kernel
theorem dL_law_584 : decode cL_law 584 = .ok (.aload_n 1, 1) := by decide +kernel
theorem dL_law_585 : decode cL_law 585 = .ok (.aload_n 0, 1) := by decide +kernel
theorem dL_law_586 : decode cL_law 586 = .ok (.iload 4, 2) := by decide +kernel
theorem dL_law_588 : decode cL_law 588 = .ok (.iconst 1, 1) := by decide +kernel
theorem dL_law_589 : decode cL_law 589 = .ok (.iadd, 1) := by decide +kernel
theorem dL_law_590 : decode cL_law 590 = .ok (.iaload, 1) := by decide +kernel
theorem dL_law_591 : decode cL_law 591 = .ok (.i2c, 1) := by decide +kernel
theorem dL_law_592 : decode cL_law 592 = .ok (.aload_n 3, 1) := by decide +kernel
theorem dL_law_593 : decode cL_law 593 = .ok (.invokestatic 115, 3) := by decide +kernel
theorem dL_law_596 : decode cL_law 596 = .ok (.istore 5, 2) := by decide +kernel
theorem dL_law_598 : decode cL_law 598 = .ok (.aload_n 2, 1) := by decide +kernel
theorem dL_law_599 : decode cL_law 599 = .ok (.aload_n 0, 1) := by decide +kernel
theorem dL_law_600 : decode cL_law 600 = .ok (.iload 4, 2) := by decide +kernel
theorem dL_law_602 : decode cL_law 602 = .ok (.iconst 1, 1) := by decide +kernel
theorem dL_law_603 : decode cL_law 603 = .ok (.iadd, 1) := by decide +kernel
theorem dL_law_604 : decode cL_law 604 = .ok (.iaload, 1) := by decide +kernel
theorem dL_law_605 : decode cL_law 605 = .ok (.i2c, 1) := by decide +kernel
theorem dL_law_606 : decode cL_law 606 = .ok (.invokevirtual 117, 3) := by decide +kernel
theorem dL_law_609 : decode cL_law 609 = .ok (.istore 6, 2) := by decide +kernel
theorem dL_law_611 : decode cL_law 611 = .ok (.aload_n 2, 1) := by decide +kernel
theorem dL_law_612 : decode cL_law 612 = .ok (.invokevirtual 83, 3) := by decide +kernel
theorem dL_law_615 : decode cL_law 615 = .ok (.iload 5, 2) := by decide +kernel
theorem dL_law_617 : decode cL_law 617 = .ok (.if_icmp .eq 5, 3) := by decide +kernel
theorem dL_law_620 : decode cL_law 620 = .ok (.iconst 0, 1) := by decide +kernel
theorem dL_law_621 : decode cL_law 621 = .ok (.ireturn, 1) := by decide +kernel
theorem dL_law_622 : decode cL_law 622 = .ok (.iload 5, 2) := by decide +kernel
theorem dL_law_624 : decode cL_law 624 = .ok (.ifCond .ne 15, 3) := by decide +kernel
theorem dL_law_627 : decode cL_law 627 = .ok (.aload_n 3, 1) := by decide +kernel
theorem dL_law_628 : decode cL_law 628 = .ok (.iconst 0, 1) := by decide +kernel
theorem dL_law_629 : decode cL_law 629 = .ok (.laload, 1) := by decide +kernel
theorem dL_law_630 : decode cL_law 630 = .ok (.iload 6, 2) := by decide +kernel
theorem dL_law_632 : decode cL_law 632 = .ok (.i2l, 1) := by decide +kernel
theorem dL_law_633 : decode cL_law 633 = .ok (.lcmp, 1) := by decide +kernel
theorem dL_law_634 : decode cL_law 634 = .ok (.ifCond .eq 5, 3) := by decide +kernel
theorem dL_law_637 : decode cL_law 637 = .ok (.iconst 0, 1) := by decide +kernel
theorem dL_law_638 : decode cL_law 638 = .ok (.ireturn, 1) := by decide +kernel
theorem dL_law_639 : decode cL_law 639 = .ok (.goto 672, 3) := by decide +kernel
theorem dL_law_642 : decode cL_law 642 = .ok (.aload_n 1, 1) := by decide +kernel
theorem dL_law_643 : decode cL_law 643 = .ok (.aload_n 0, 1) := by decide +kernel
theorem dL_law_644 : decode cL_law 644 = .ok (.iload 4, 2) := by decide +kernel
theorem dL_law_646 : decode cL_law 646 = .ok (.iconst 1, 1) := by decide +kernel
theorem dL_law_647 : decode cL_law 647 = .ok (.iadd, 1) := by decide +kernel
theorem dL_law_648 : decode cL_law 648 = .ok (.iaload, 1) := by decide +kernel
theorem dL_law_649 : decode cL_law 649 = .ok (.aload_n 3, 1) := by decide +kernel
theorem dL_law_650 : decode cL_law 650 = .ok (.invokestatic 118, 3) := by decide +kernel
theorem dL_law_653 : decode cL_law 653 = .ok (.istore 5, 2) := by decide +kernel
theorem dL_law_655 : decode cL_law 655 = .ok (.aload_n 2, 1) := by decide +kernel
theorem dL_law_656 : decode cL_law 656 = .ok (.aload_n 0, 1) := by decide +kernel
theorem dL_law_657 : decode cL_law 657 = .ok (.iload 4, 2) := by decide +kernel
theorem dL_law_659 : decode cL_law 659 = .ok (.iconst 1, 1) := by decide +kernel
theorem dL_law_660 : decode cL_law 660 = .ok (.iadd, 1) := by decide +kernel
theorem dL_law_661 : decode cL_law 661 = .ok (.iaload, 1) := by decide +kernel
theorem dL_law_662 : decode cL_law 662 = .ok (.invokevirtual 120, 3) := by decide +kernel
theorem dL_law_665 : decode cL_law 665 = .ok (.istore 6, 2) := by decide +kernel
theorem dL_law_667 : decode cL_law 667 = .ok (.aload_n 2, 1) := by decide +kernel
theorem dL_law_668 : decode cL_law 668 = .ok (.invokevirtual 83, 3) := by decide +kernel
theorem dL_law_671 : decode cL_law 671 = .ok (.iload 5, 2) := by decide +kernel
theorem dL_law_673 : decode cL_law 673 = .ok (.if_icmp .eq 5, 3) := by decide +kernel
theorem dL_law_676 : decode cL_law 676 = .ok (.iconst 0, 1) := by decide +kernel
theorem dL_law_677 : decode cL_law 677 = .ok (.ireturn, 1) := by decide +kernel
theorem dL_law_678 : decode cL_law 678 = .ok (.iload 5, 2) := by decide +kernel
theorem dL_law_680 : decode cL_law 680 = .ok (.ifCond .ne 15, 3) := by decide +kernel
theorem dL_law_683 : decode cL_law 683 = .ok (.aload_n 3, 1) := by decide +kernel
theorem dL_law_684 : decode cL_law 684 = .ok (.iconst 0, 1) := by decide +kernel
theorem dL_law_685 : decode cL_law 685 = .ok (.laload, 1) := by decide +kernel
theorem dL_law_686 : decode cL_law 686 = .ok (.iload 6, 2) := by decide +kernel
theorem dL_law_688 : decode cL_law 688 = .ok (.i2l, 1) := by decide +kernel
theorem dL_law_689 : decode cL_law 689 = .ok (.lcmp, 1) := by decide +kernel
theorem dL_law_690 : decode cL_law 690 = .ok (.ifCond .eq 5, 3) := by decide +kernel
theorem dL_law_693 : decode cL_law 693 = .ok (.iconst 0, 1) := by decide +kernel
theorem dL_law_694 : decode cL_law 694 = .ok (.ireturn, 1) := by decide +kernel
theorem dL_law_695 : decode cL_law 695 = .ok (.goto 616, 3) := by decide +kernel
theorem dL_law_698 : decode cL_law 698 = .ok (.aload_n 1, 1) := by decide +kernel
theorem dL_law_699 : decode cL_law 699 = .ok (.invokevirtual 121, 3) := by decide +kernel
theorem dL_law_702 : decode cL_law 702 = .ok (.aload_n 2, 1) := by decide +kernel
theorem dL_law_703 : decode cL_law 703 = .ok (.invokevirtual 124, 3) := by decide +kernel
theorem dL_law_706 : decode cL_law 706 = .ok (.if_icmp .eq 605, 3) := by decide +kernel
theorem dL_law_709 : decode cL_law 709 = .ok (.iconst 0, 1) := by decide +kernel
theorem dL_law_710 : decode cL_law 710 = .ok (.ireturn, 1) := by decide +kernel
theorem dL_law_711 : decode cL_law 711 = .ok (.aload_n 1, 1) := by decide +kernel
theorem dL_law_712 : decode cL_law 712 = .ok (.invokevirtual 125, 3) := by decide +kernel
theorem dL_law_715 : decode cL_law 715 = .ok (.aload_n 2, 1) := by decide +kernel
theorem dL_law_716 : decode cL_law 716 = .ok (.invokevirtual 128, 3) := by decide +kernel
theorem dL_law_719 : decode cL_law 719 = .ok (.if_icmp .eq 592, 3) := by decide +kernel
theorem dL_law_722 : decode cL_law 722 = .ok (.iconst 0, 1) := by decide +kernel
theorem dL_law_723 : decode cL_law 723 = .ok (.ireturn, 1) := by decide +kernel
theorem dL_law_724 : decode cL_law 724 = .ok (.aload_n 1, 1) := by decide +kernel
theorem dL_law_725 : decode cL_law 725 = .ok (.invokevirtual 129, 3) := by decide +kernel
theorem dL_law_728 : decode cL_law 728 = .ok (.aload_n 2, 1) := by decide +kernel
theorem dL_law_729 : decode cL_law 729 = .ok (.invokevirtual 132, 3) := by decide +kernel
theorem dL_law_732 : decode cL_law 732 = .ok (.if_icmp .eq 579, 3) := by decide +kernel
theorem dL_law_735 : decode cL_law 735 = .ok (.iconst 0, 1) := by decide +kernel
theorem dL_law_736 : decode cL_law 736 = .ok (.ireturn, 1) := by decide +kernel
theorem dL_law_737 : decode cL_law 737 = .ok (.aload_n 1, 1) := by decide +kernel
theorem dL_law_738 : decode cL_law 738 = .ok (.invokevirtual 133, 3) := by decide +kernel
theorem dL_law_741 : decode cL_law 741 = .ok (.aload_n 2, 1) := by decide +kernel
theorem dL_law_742 : decode cL_law 742 = .ok (.invokevirtual 136, 3) := by decide +kernel
theorem dL_law_745 : decode cL_law 745 = .ok (.if_icmp .eq 566, 3) := by decide +kernel
theorem dL_law_748 : decode cL_law 748 = .ok (.iconst 0, 1) := by decide +kernel
theorem dL_law_749 : decode cL_law 749 = .ok (.ireturn, 1) := by decide +kernel
theorem dL_law_750 : decode cL_law 750 = .ok (.aload_n 1, 1) := by decide +kernel
theorem dL_law_751 : decode cL_law 751 = .ok (.aload_n 0, 1) := by decide +kernel
theorem dL_law_752 : decode cL_law 752 = .ok (.iload 4, 2) := by decide +kernel
theorem dL_law_754 : decode cL_law 754 = .ok (.iconst 1, 1) := by decide +kernel
theorem dL_law_755 : decode cL_law 755 = .ok (.iadd, 1) := by decide +kernel
theorem dL_law_756 : decode cL_law 756 = .ok (.iaload, 1) := by decide +kernel
theorem dL_law_757 : decode cL_law 757 = .ok (.aload_n 3, 1) := by decide +kernel
theorem dL_law_758 : decode cL_law 758 = .ok (.invokestatic 137, 3) := by decide +kernel
theorem dL_law_761 : decode cL_law 761 = .ok (.istore 5, 2) := by decide +kernel
theorem dL_law_763 : decode cL_law 763 = .ok (.aload_n 2, 1) := by decide +kernel
theorem dL_law_764 : decode cL_law 764 = .ok (.aload_n 0, 1) := by decide +kernel
theorem dL_law_765 : decode cL_law 765 = .ok (.iload 4, 2) := by decide +kernel
theorem dL_law_767 : decode cL_law 767 = .ok (.iconst 1, 1) := by decide +kernel
theorem dL_law_768 : decode cL_law 768 = .ok (.iadd, 1) := by decide +kernel
theorem dL_law_769 : decode cL_law 769 = .ok (.iaload, 1) := by decide +kernel
theorem dL_law_770 : decode cL_law 770 = .ok (.invokevirtual 139, 3) := by decide +kernel
theorem dL_law_773 : decode cL_law 773 = .ok (.istore 6, 2) := by decide +kernel
theorem dL_law_775 : decode cL_law 775 = .ok (.aload_n 2, 1) := by decide +kernel
theorem dL_law_776 : decode cL_law 776 = .ok (.invokevirtual 83, 3) := by decide +kernel
theorem dL_law_779 : decode cL_law 779 = .ok (.iload 5, 2) := by decide +kernel
theorem dL_law_781 : decode cL_law 781 = .ok (.if_icmp .eq 5, 3) := by decide +kernel
theorem dL_law_784 : decode cL_law 784 = .ok (.iconst 0, 1) := by decide +kernel
theorem dL_law_785 : decode cL_law 785 = .ok (.ireturn, 1) := by decide +kernel
theorem dL_law_786 : decode cL_law 786 = .ok (.iload 5, 2) := by decide +kernel
theorem dL_law_788 : decode cL_law 788 = .ok (.ifCond .ne 15, 3) := by decide +kernel
theorem dL_law_791 : decode cL_law 791 = .ok (.aload_n 3, 1) := by decide +kernel
theorem dL_law_792 : decode cL_law 792 = .ok (.iconst 0, 1) := by decide +kernel
theorem dL_law_793 : decode cL_law 793 = .ok (.laload, 1) := by decide +kernel
theorem dL_law_794 : decode cL_law 794 = .ok (.iload 6, 2) := by decide +kernel
theorem dL_law_796 : decode cL_law 796 = .ok (.i2l, 1) := by decide +kernel
theorem dL_law_797 : decode cL_law 797 = .ok (.lcmp, 1) := by decide +kernel
theorem dL_law_798 : decode cL_law 798 = .ok (.ifCond .eq 5, 3) := by decide +kernel
theorem dL_law_801 : decode cL_law 801 = .ok (.iconst 0, 1) := by decide +kernel
theorem dL_law_802 : decode cL_law 802 = .ok (.ireturn, 1) := by decide +kernel
theorem dL_law_803 : decode cL_law 803 = .ok (.goto 508, 3) := by decide +kernel
theorem dL_law_806 : decode cL_law 806 = .ok (.aload_n 1, 1) := by decide +kernel
theorem dL_law_807 : decode cL_law 807 = .ok (.invokevirtual 140, 3) := by decide +kernel
theorem dL_law_810 : decode cL_law 810 = .ok (.aload_n 2, 1) := by decide +kernel
theorem dL_law_811 : decode cL_law 811 = .ok (.invokevirtual 143, 3) := by decide +kernel
theorem dL_law_814 : decode cL_law 814 = .ok (.if_icmp .eq 497, 3) := by decide +kernel
theorem dL_law_817 : decode cL_law 817 = .ok (.iconst 0, 1) := by decide +kernel
theorem dL_law_818 : decode cL_law 818 = .ok (.ireturn, 1) := by decide +kernel
theorem dL_law_819 : decode cL_law 819 = .ok (.aload_n 1, 1) := by decide +kernel
theorem dL_law_820 : decode cL_law 820 = .ok (.aload_n 0, 1) := by decide +kernel
theorem dL_law_821 : decode cL_law 821 = .ok (.iload 4, 2) := by decide +kernel
theorem dL_law_823 : decode cL_law 823 = .ok (.iconst 1, 1) := by decide +kernel
theorem dL_law_824 : decode cL_law 824 = .ok (.iadd, 1) := by decide +kernel
theorem dL_law_825 : decode cL_law 825 = .ok (.iaload, 1) := by decide +kernel
theorem dL_law_826 : decode cL_law 826 = .ok (.aload_n 3, 1) := by decide +kernel
theorem dL_law_827 : decode cL_law 827 = .ok (.invokestatic 144, 3) := by decide +kernel
theorem dL_law_830 : decode cL_law 830 = .ok (.istore 5, 2) := by decide +kernel
theorem dL_law_832 : decode cL_law 832 = .ok (.aload_n 2, 1) := by decide +kernel
theorem dL_law_833 : decode cL_law 833 = .ok (.aload_n 0, 1) := by decide +kernel
theorem dL_law_834 : decode cL_law 834 = .ok (.iload 4, 2) := by decide +kernel
theorem dL_law_836 : decode cL_law 836 = .ok (.iconst 1, 1) := by decide +kernel
theorem dL_law_837 : decode cL_law 837 = .ok (.iadd, 1) := by decide +kernel
theorem dL_law_838 : decode cL_law 838 = .ok (.iaload, 1) := by decide +kernel
theorem dL_law_839 : decode cL_law 839 = .ok (.invokevirtual 146, 3) := by decide +kernel
theorem dL_law_842 : decode cL_law 842 = .ok (.istore 6, 2) := by decide +kernel
theorem dL_law_844 : decode cL_law 844 = .ok (.aload_n 2, 1) := by decide +kernel
theorem dL_law_845 : decode cL_law 845 = .ok (.invokevirtual 83, 3) := by decide +kernel
theorem dL_law_848 : decode cL_law 848 = .ok (.iload 5, 2) := by decide +kernel
theorem dL_law_850 : decode cL_law 850 = .ok (.if_icmp .eq 5, 3) := by decide +kernel
theorem dL_law_853 : decode cL_law 853 = .ok (.iconst 0, 1) := by decide +kernel
theorem dL_law_854 : decode cL_law 854 = .ok (.ireturn, 1) := by decide +kernel
theorem dL_law_855 : decode cL_law 855 = .ok (.iload 5, 2) := by decide +kernel
theorem dL_law_857 : decode cL_law 857 = .ok (.ifCond .ne 15, 3) := by decide +kernel
theorem dL_law_860 : decode cL_law 860 = .ok (.aload_n 3, 1) := by decide +kernel
theorem dL_law_861 : decode cL_law 861 = .ok (.iconst 0, 1) := by decide +kernel
theorem dL_law_862 : decode cL_law 862 = .ok (.laload, 1) := by decide +kernel
theorem dL_law_863 : decode cL_law 863 = .ok (.iload 6, 2) := by decide +kernel
theorem dL_law_865 : decode cL_law 865 = .ok (.i2l, 1) := by decide +kernel
theorem dL_law_866 : decode cL_law 866 = .ok (.lcmp, 1) := by decide +kernel
theorem dL_law_867 : decode cL_law 867 = .ok (.ifCond .eq 5, 3) := by decide +kernel
theorem dL_law_870 : decode cL_law 870 = .ok (.iconst 0, 1) := by decide +kernel
theorem dL_law_871 : decode cL_law 871 = .ok (.ireturn, 1) := by decide +kernel
theorem dL_law_872 : decode cL_law 872 = .ok (.goto 439, 3) := by decide +kernel
theorem dL_law_875 : decode cL_law 875 = .ok (.aload_n 1, 1) := by decide +kernel
theorem dL_law_876 : decode cL_law 876 = .ok (.aload_n 0, 1) := by decide +kernel
theorem dL_law_877 : decode cL_law 877 = .ok (.iload 4, 2) := by decide +kernel
theorem dL_law_879 : decode cL_law 879 = .ok (.iconst 1, 1) := by decide +kernel
theorem dL_law_880 : decode cL_law 880 = .ok (.iadd, 1) := by decide +kernel
theorem dL_law_881 : decode cL_law 881 = .ok (.iaload, 1) := by decide +kernel
theorem dL_law_882 : decode cL_law 882 = .ok (.aload_n 0, 1) := by decide +kernel
theorem dL_law_883 : decode cL_law 883 = .ok (.iload 4, 2) := by decide +kernel
theorem dL_law_885 : decode cL_law 885 = .ok (.iconst 2, 1) := by decide +kernel
theorem dL_law_886 : decode cL_law 886 = .ok (.iadd, 1) := by decide +kernel
theorem dL_law_887 : decode cL_law 887 = .ok (.iaload, 1) := by decide +kernel
theorem dL_law_888 : decode cL_law 888 = .ok (.aload_n 3, 1) := by decide +kernel
theorem dL_law_889 : decode cL_law 889 = .ok (.invokestatic 147, 3) := by decide +kernel
theorem dL_law_892 : decode cL_law 892 = .ok (.istore 5, 2) := by decide +kernel
theorem dL_law_894 : decode cL_law 894 = .ok (.aload_n 2, 1) := by decide +kernel
theorem dL_law_895 : decode cL_law 895 = .ok (.aload_n 0, 1) := by decide +kernel
theorem dL_law_896 : decode cL_law 896 = .ok (.iload 4, 2) := by decide +kernel
theorem dL_law_898 : decode cL_law 898 = .ok (.iconst 1, 1) := by decide +kernel
theorem dL_law_899 : decode cL_law 899 = .ok (.iadd, 1) := by decide +kernel
theorem dL_law_900 : decode cL_law 900 = .ok (.iaload, 1) := by decide +kernel
theorem dL_law_901 : decode cL_law 901 = .ok (.aload_n 0, 1) := by decide +kernel
theorem dL_law_902 : decode cL_law 902 = .ok (.iload 4, 2) := by decide +kernel
theorem dL_law_904 : decode cL_law 904 = .ok (.iconst 2, 1) := by decide +kernel
theorem dL_law_905 : decode cL_law 905 = .ok (.iadd, 1) := by decide +kernel
theorem dL_law_906 : decode cL_law 906 = .ok (.iaload, 1) := by decide +kernel
theorem dL_law_907 : decode cL_law 907 = .ok (.invokevirtual 149, 3) := by decide +kernel
theorem dL_law_910 : decode cL_law 910 = .ok (.istore 6, 2) := by decide +kernel
theorem dL_law_912 : decode cL_law 912 = .ok (.aload_n 2, 1) := by decide +kernel
theorem dL_law_913 : decode cL_law 913 = .ok (.invokevirtual 83, 3) := by decide +kernel
theorem dL_law_916 : decode cL_law 916 = .ok (.iload 5, 2) := by decide +kernel
theorem dL_law_918 : decode cL_law 918 = .ok (.if_icmp .eq 5, 3) := by decide +kernel
theorem dL_law_921 : decode cL_law 921 = .ok (.iconst 0, 1) := by decide +kernel
theorem dL_law_922 : decode cL_law 922 = .ok (.ireturn, 1) := by decide +kernel
theorem dL_law_923 : decode cL_law 923 = .ok (.iload 5, 2) := by decide +kernel
theorem dL_law_925 : decode cL_law 925 = .ok (.ifCond .ne 15, 3) := by decide +kernel
theorem dL_law_928 : decode cL_law 928 = .ok (.aload_n 3, 1) := by decide +kernel
theorem dL_law_929 : decode cL_law 929 = .ok (.iconst 0, 1) := by decide +kernel
theorem dL_law_930 : decode cL_law 930 = .ok (.laload, 1) := by decide +kernel
theorem dL_law_931 : decode cL_law 931 = .ok (.iload 6, 2) := by decide +kernel
theorem dL_law_933 : decode cL_law 933 = .ok (.i2l, 1) := by decide +kernel
theorem dL_law_934 : decode cL_law 934 = .ok (.lcmp, 1) := by decide +kernel
theorem dL_law_935 : decode cL_law 935 = .ok (.ifCond .eq 5, 3) := by decide +kernel
theorem dL_law_938 : decode cL_law 938 = .ok (.iconst 0, 1) := by decide +kernel
theorem dL_law_939 : decode cL_law 939 = .ok (.ireturn, 1) := by decide +kernel
theorem dL_law_940 : decode cL_law 940 = .ok (.goto 371, 3) := by decide +kernel
theorem dL_law_943 : decode cL_law 943 = .ok (.aload_n 1, 1) := by decide +kernel
theorem dL_law_944 : decode cL_law 944 = .ok (.invokevirtual 150, 3) := by decide +kernel
theorem dL_law_947 : decode cL_law 947 = .ok (.aload_n 2, 1) := by decide +kernel
theorem dL_law_948 : decode cL_law 948 = .ok (.invokevirtual 153, 3) := by decide +kernel
theorem dL_law_951 : decode cL_law 951 = .ok (.if_icmp .eq 360, 3) := by decide +kernel
theorem dL_law_954 : decode cL_law 954 = .ok (.iconst 0, 1) := by decide +kernel
theorem dL_law_955 : decode cL_law 955 = .ok (.ireturn, 1) := by decide +kernel
theorem dL_law_956 : decode cL_law 956 = .ok (.aload_n 1, 1) := by decide +kernel
theorem dL_law_957 : decode cL_law 957 = .ok (.invokevirtual 154, 3) := by decide +kernel
theorem dL_law_960 : decode cL_law 960 = .ok (.aload_n 2, 1) := by decide +kernel
theorem dL_law_961 : decode cL_law 961 = .ok (.invokevirtual 157, 3) := by decide +kernel
theorem dL_law_964 : decode cL_law 964 = .ok (.if_icmp .eq 347, 3) := by decide +kernel
theorem dL_law_967 : decode cL_law 967 = .ok (.iconst 0, 1) := by decide +kernel
theorem dL_law_968 : decode cL_law 968 = .ok (.ireturn, 1) := by decide +kernel
theorem dL_law_969 : decode cL_law 969 = .ok (.aload_n 1, 1) := by decide +kernel
theorem dL_law_970 : decode cL_law 970 = .ok (.invokevirtual 158, 3) := by decide +kernel
theorem dL_law_973 : decode cL_law 973 = .ok (.aload_n 2, 1) := by decide +kernel
theorem dL_law_974 : decode cL_law 974 = .ok (.invokevirtual 161, 3) := by decide +kernel
theorem dL_law_977 : decode cL_law 977 = .ok (.if_icmp .eq 334, 3) := by decide +kernel
theorem dL_law_980 : decode cL_law 980 = .ok (.iconst 0, 1) := by decide +kernel
theorem dL_law_981 : decode cL_law 981 = .ok (.ireturn, 1) := by decide +kernel
theorem dL_law_982 : decode cL_law 982 = .ok (.aload_n 1, 1) := by decide +kernel
theorem dL_law_983 : decode cL_law 983 = .ok (.aload_n 0, 1) := by decide +kernel
theorem dL_law_984 : decode cL_law 984 = .ok (.iload 4, 2) := by decide +kernel
theorem dL_law_986 : decode cL_law 986 = .ok (.iconst 1, 1) := by decide +kernel
theorem dL_law_987 : decode cL_law 987 = .ok (.iadd, 1) := by decide +kernel
theorem dL_law_988 : decode cL_law 988 = .ok (.iaload, 1) := by decide +kernel
theorem dL_law_989 : decode cL_law 989 = .ok (.aload_n 3, 1) := by decide +kernel
theorem dL_law_990 : decode cL_law 990 = .ok (.invokestatic 162, 3) := by decide +kernel
theorem dL_law_993 : decode cL_law 993 = .ok (.istore 5, 2) := by decide +kernel
theorem dL_law_995 : decode cL_law 995 = .ok (.aload_n 2, 1) := by decide +kernel
theorem dL_law_996 : decode cL_law 996 = .ok (.aload_n 0, 1) := by decide +kernel
theorem dL_law_997 : decode cL_law 997 = .ok (.iload 4, 2) := by decide +kernel
theorem dL_law_999 : decode cL_law 999 = .ok (.iconst 1, 1) := by decide +kernel
theorem dL_law_1000 : decode cL_law 1000 = .ok (.iadd, 1) := by decide +kernel
theorem dL_law_1001 : decode cL_law 1001 = .ok (.iaload, 1) := by decide +kernel
theorem dL_law_1002 : decode cL_law 1002 = .ok (.invokevirtual 164, 3) := by decide +kernel
theorem dL_law_1005 : decode cL_law 1005 = .ok (.istore 6, 2) := by decide +kernel
theorem dL_law_1007 : decode cL_law 1007 = .ok (.aload_n 2, 1) := by decide +kernel
theorem dL_law_1008 : decode cL_law 1008 = .ok (.invokevirtual 83, 3) := by decide +kernel
theorem dL_law_1011 : decode cL_law 1011 = .ok (.iload 5, 2) := by decide +kernel
theorem dL_law_1013 : decode cL_law 1013 = .ok (.if_icmp .eq 5, 3) := by decide +kernel
theorem dL_law_1016 : decode cL_law 1016 = .ok (.iconst 0, 1) := by decide +kernel
theorem dL_law_1017 : decode cL_law 1017 = .ok (.ireturn, 1) := by decide +kernel
theorem dL_law_1018 : decode cL_law 1018 = .ok (.iload 5, 2) := by decide +kernel
theorem dL_law_1020 : decode cL_law 1020 = .ok (.ifCond .ne 15, 3) := by decide +kernel
theorem dL_law_1023 : decode cL_law 1023 = .ok (.aload_n 3, 1) := by decide +kernel
theorem dL_law_1024 : decode cL_law 1024 = .ok (.iconst 0, 1) := by decide +kernel
theorem dL_law_1025 : decode cL_law 1025 = .ok (.laload, 1) := by decide +kernel
theorem dL_law_1026 : decode cL_law 1026 = .ok (.iload 6, 2) := by decide +kernel
theorem dL_law_1028 : decode cL_law 1028 = .ok (.i2l, 1) := by decide +kernel
theorem dL_law_1029 : decode cL_law 1029 = .ok (.lcmp, 1) := by decide +kernel
theorem dL_law_1030 : decode cL_law 1030 = .ok (.ifCond .eq 5, 3) := by decide +kernel
theorem dL_law_1033 : decode cL_law 1033 = .ok (.iconst 0, 1) := by decide +kernel
theorem dL_law_1034 : decode cL_law 1034 = .ok (.ireturn, 1) := by decide +kernel
theorem dL_law_1035 : decode cL_law 1035 = .ok (.goto 276, 3) := by decide +kernel
theorem dL_law_1038 : decode cL_law 1038 = .ok (.aload_n 1, 1) := by decide +kernel
theorem dL_law_1039 : decode cL_law 1039 = .ok (.aload_n 0, 1) := by decide +kernel
theorem dL_law_1040 : decode cL_law 1040 = .ok (.iload 4, 2) := by decide +kernel
theorem dL_law_1042 : decode cL_law 1042 = .ok (.iconst 1, 1) := by decide +kernel
theorem dL_law_1043 : decode cL_law 1043 = .ok (.iadd, 1) := by decide +kernel
theorem dL_law_1044 : decode cL_law 1044 = .ok (.iaload, 1) := by decide +kernel
theorem dL_law_1045 : decode cL_law 1045 = .ok (.aload_n 0, 1) := by decide +kernel
theorem dL_law_1046 : decode cL_law 1046 = .ok (.iload 4, 2) := by decide +kernel
theorem dL_law_1048 : decode cL_law 1048 = .ok (.iconst 2, 1) := by decide +kernel
theorem dL_law_1049 : decode cL_law 1049 = .ok (.iadd, 1) := by decide +kernel
theorem dL_law_1050 : decode cL_law 1050 = .ok (.iaload, 1) := by decide +kernel
theorem dL_law_1051 : decode cL_law 1051 = .ok (.aload_n 3, 1) := by decide +kernel
theorem dL_law_1052 : decode cL_law 1052 = .ok (.invokestatic 165, 3) := by decide +kernel
theorem dL_law_1055 : decode cL_law 1055 = .ok (.istore 5, 2) := by decide +kernel
theorem dL_law_1057 : decode cL_law 1057 = .ok (.aload_n 2, 1) := by decide +kernel
theorem dL_law_1058 : decode cL_law 1058 = .ok (.aload_n 0, 1) := by decide +kernel
theorem dL_law_1059 : decode cL_law 1059 = .ok (.iload 4, 2) := by decide +kernel
theorem dL_law_1061 : decode cL_law 1061 = .ok (.iconst 1, 1) := by decide +kernel
theorem dL_law_1062 : decode cL_law 1062 = .ok (.iadd, 1) := by decide +kernel
theorem dL_law_1063 : decode cL_law 1063 = .ok (.iaload, 1) := by decide +kernel
theorem dL_law_1064 : decode cL_law 1064 = .ok (.aload_n 0, 1) := by decide +kernel
theorem dL_law_1065 : decode cL_law 1065 = .ok (.iload 4, 2) := by decide +kernel
theorem dL_law_1067 : decode cL_law 1067 = .ok (.iconst 2, 1) := by decide +kernel
theorem dL_law_1068 : decode cL_law 1068 = .ok (.iadd, 1) := by decide +kernel
theorem dL_law_1069 : decode cL_law 1069 = .ok (.iaload, 1) := by decide +kernel
theorem dL_law_1070 : decode cL_law 1070 = .ok (.invokevirtual 167, 3) := by decide +kernel
theorem dL_law_1073 : decode cL_law 1073 = .ok (.istore 6, 2) := by decide +kernel
theorem dL_law_1075 : decode cL_law 1075 = .ok (.aload_n 2, 1) := by decide +kernel
theorem dL_law_1076 : decode cL_law 1076 = .ok (.invokevirtual 83, 3) := by decide +kernel
theorem dL_law_1079 : decode cL_law 1079 = .ok (.iload 5, 2) := by decide +kernel
theorem dL_law_1081 : decode cL_law 1081 = .ok (.if_icmp .eq 5, 3) := by decide +kernel
theorem dL_law_1084 : decode cL_law 1084 = .ok (.iconst 0, 1) := by decide +kernel
theorem dL_law_1085 : decode cL_law 1085 = .ok (.ireturn, 1) := by decide +kernel
theorem dL_law_1086 : decode cL_law 1086 = .ok (.iload 5, 2) := by decide +kernel
theorem dL_law_1088 : decode cL_law 1088 = .ok (.ifCond .ne 15, 3) := by decide +kernel
theorem dL_law_1091 : decode cL_law 1091 = .ok (.aload_n 3, 1) := by decide +kernel
theorem dL_law_1092 : decode cL_law 1092 = .ok (.iconst 0, 1) := by decide +kernel
theorem dL_law_1093 : decode cL_law 1093 = .ok (.laload, 1) := by decide +kernel
theorem dL_law_1094 : decode cL_law 1094 = .ok (.iload 6, 2) := by decide +kernel
theorem dL_law_1096 : decode cL_law 1096 = .ok (.i2l, 1) := by decide +kernel
theorem dL_law_1097 : decode cL_law 1097 = .ok (.lcmp, 1) := by decide +kernel
theorem dL_law_1098 : decode cL_law 1098 = .ok (.ifCond .eq 5, 3) := by decide +kernel
theorem dL_law_1101 : decode cL_law 1101 = .ok (.iconst 0, 1) := by decide +kernel
theorem dL_law_1102 : decode cL_law 1102 = .ok (.ireturn, 1) := by decide +kernel
theorem dL_law_1103 : decode cL_law 1103 = .ok (.goto 208, 3) := by decide +kernel
theorem dL_law_1106 : decode cL_law 1106 = .ok (.aload_n 1, 1) := by decide +kernel
theorem dL_law_1107 : decode cL_law 1107 = .ok (.aload_n 0, 1) := by decide +kernel
theorem dL_law_1108 : decode cL_law 1108 = .ok (.iload 4, 2) := by decide +kernel
theorem dL_law_1110 : decode cL_law 1110 = .ok (.iconst 1, 1) := by decide +kernel
theorem dL_law_1111 : decode cL_law 1111 = .ok (.iadd, 1) := by decide +kernel
theorem dL_law_1112 : decode cL_law 1112 = .ok (.iaload, 1) := by decide +kernel
theorem dL_law_1113 : decode cL_law 1113 = .ok (.aload_n 0, 1) := by decide +kernel
theorem dL_law_1114 : decode cL_law 1114 = .ok (.iload 4, 2) := by decide +kernel
theorem dL_law_1116 : decode cL_law 1116 = .ok (.iconst 2, 1) := by decide +kernel
theorem dL_law_1117 : decode cL_law 1117 = .ok (.iadd, 1) := by decide +kernel
theorem dL_law_1118 : decode cL_law 1118 = .ok (.iaload, 1) := by decide +kernel
theorem dL_law_1119 : decode cL_law 1119 = .ok (.aload_n 3, 1) := by decide +kernel
theorem dL_law_1120 : decode cL_law 1120 = .ok (.invokestatic 168, 3) := by decide +kernel
theorem dL_law_1123 : decode cL_law 1123 = .ok (.istore 5, 2) := by decide +kernel
theorem dL_law_1125 : decode cL_law 1125 = .ok (.aload_n 2, 1) := by decide +kernel
theorem dL_law_1126 : decode cL_law 1126 = .ok (.aload_n 0, 1) := by decide +kernel
theorem dL_law_1127 : decode cL_law 1127 = .ok (.iload 4, 2) := by decide +kernel
theorem dL_law_1129 : decode cL_law 1129 = .ok (.iconst 1, 1) := by decide +kernel
theorem dL_law_1130 : decode cL_law 1130 = .ok (.iadd, 1) := by decide +kernel
theorem dL_law_1131 : decode cL_law 1131 = .ok (.iaload, 1) := by decide +kernel
theorem dL_law_1132 : decode cL_law 1132 = .ok (.aload_n 0, 1) := by decide +kernel
theorem dL_law_1133 : decode cL_law 1133 = .ok (.iload 4, 2) := by decide +kernel
theorem dL_law_1135 : decode cL_law 1135 = .ok (.iconst 2, 1) := by decide +kernel
theorem dL_law_1136 : decode cL_law 1136 = .ok (.iadd, 1) := by decide +kernel
theorem dL_law_1137 : decode cL_law 1137 = .ok (.iaload, 1) := by decide +kernel
theorem dL_law_1138 : decode cL_law 1138 = .ok (.invokevirtual 170, 3) := by decide +kernel
theorem dL_law_1141 : decode cL_law 1141 = .ok (.istore 6, 2) := by decide +kernel
theorem dL_law_1143 : decode cL_law 1143 = .ok (.aload_n 2, 1) := by decide +kernel
theorem dL_law_1144 : decode cL_law 1144 = .ok (.invokevirtual 83, 3) := by decide +kernel
theorem dL_law_1147 : decode cL_law 1147 = .ok (.iload 5, 2) := by decide +kernel
theorem dL_law_1149 : decode cL_law 1149 = .ok (.if_icmp .eq 5, 3) := by decide +kernel
theorem dL_law_1152 : decode cL_law 1152 = .ok (.iconst 0, 1) := by decide +kernel
theorem dL_law_1153 : decode cL_law 1153 = .ok (.ireturn, 1) := by decide +kernel
theorem dL_law_1154 : decode cL_law 1154 = .ok (.iload 5, 2) := by decide +kernel
theorem dL_law_1156 : decode cL_law 1156 = .ok (.ifCond .ne 15, 3) := by decide +kernel
theorem dL_law_1159 : decode cL_law 1159 = .ok (.aload_n 3, 1) := by decide +kernel
theorem dL_law_1160 : decode cL_law 1160 = .ok (.iconst 0, 1) := by decide +kernel
theorem dL_law_1161 : decode cL_law 1161 = .ok (.laload, 1) := by decide +kernel
theorem dL_law_1162 : decode cL_law 1162 = .ok (.iload 6, 2) := by decide +kernel
theorem dL_law_1164 : decode cL_law 1164 = .ok (.i2l, 1) := by decide +kernel
theorem dL_law_1165 : decode cL_law 1165 = .ok (.lcmp, 1) := by decide +kernel
theorem dL_law_1166 : decode cL_law 1166 = .ok (.ifCond .eq 5, 3) := by decide +kernel
theorem dL_law_1169 : decode cL_law 1169 = .ok (.iconst 0, 1) := by decide +kernel
theorem dL_law_1170 : decode cL_law 1170 = .ok (.ireturn, 1) := by decide +kernel
theorem dL_law_1171 : decode cL_law 1171 = .ok (.goto 140, 3) := by decide +kernel
theorem dL_law_1174 : decode cL_law 1174 = .ok (.aload_n 1, 1) := by decide +kernel
theorem dL_law_1175 : decode cL_law 1175 = .ok (.aload_n 0, 1) := by decide +kernel
theorem dL_law_1176 : decode cL_law 1176 = .ok (.iload 4, 2) := by decide +kernel
theorem dL_law_1178 : decode cL_law 1178 = .ok (.iconst 1, 1) := by decide +kernel
theorem dL_law_1179 : decode cL_law 1179 = .ok (.iadd, 1) := by decide +kernel
theorem dL_law_1180 : decode cL_law 1180 = .ok (.iaload, 1) := by decide +kernel
theorem dL_law_1181 : decode cL_law 1181 = .ok (.aload_n 3, 1) := by decide +kernel
theorem dL_law_1182 : decode cL_law 1182 = .ok (.invokestatic 171, 3) := by decide +kernel
theorem dL_law_1185 : decode cL_law 1185 = .ok (.istore 5, 2) := by decide +kernel
theorem dL_law_1187 : decode cL_law 1187 = .ok (.aload_n 2, 1) := by decide +kernel
theorem dL_law_1188 : decode cL_law 1188 = .ok (.aload_n 0, 1) := by decide +kernel
theorem dL_law_1189 : decode cL_law 1189 = .ok (.iload 4, 2) := by decide +kernel
theorem dL_law_1191 : decode cL_law 1191 = .ok (.iconst 1, 1) := by decide +kernel
theorem dL_law_1192 : decode cL_law 1192 = .ok (.iadd, 1) := by decide +kernel
theorem dL_law_1193 : decode cL_law 1193 = .ok (.iaload, 1) := by decide +kernel
theorem dL_law_1194 : decode cL_law 1194 = .ok (.invokevirtual 173, 3) := by decide +kernel
theorem dL_law_1197 : decode cL_law 1197 = .ok (.istore 6, 2) := by decide +kernel
theorem dL_law_1199 : decode cL_law 1199 = .ok (.aload_n 2, 1) := by decide +kernel
theorem dL_law_1200 : decode cL_law 1200 = .ok (.invokevirtual 83, 3) := by decide +kernel
theorem dL_law_1203 : decode cL_law 1203 = .ok (.iload 5, 2) := by decide +kernel
theorem dL_law_1205 : decode cL_law 1205 = .ok (.if_icmp .eq 5, 3) := by decide +kernel
theorem dL_law_1208 : decode cL_law 1208 = .ok (.iconst 0, 1) := by decide +kernel
theorem dL_law_1209 : decode cL_law 1209 = .ok (.ireturn, 1) := by decide +kernel
theorem dL_law_1210 : decode cL_law 1210 = .ok (.iload 5, 2) := by decide +kernel
theorem dL_law_1212 : decode cL_law 1212 = .ok (.ifCond .ne 15, 3) := by decide +kernel
theorem dL_law_1215 : decode cL_law 1215 = .ok (.aload_n 3, 1) := by decide +kernel
theorem dL_law_1216 : decode cL_law 1216 = .ok (.iconst 0, 1) := by decide +kernel
theorem dL_law_1217 : decode cL_law 1217 = .ok (.laload, 1) := by decide +kernel
theorem dL_law_1218 : decode cL_law 1218 = .ok (.iload 6, 2) := by decide +kernel
theorem dL_law_1220 : decode cL_law 1220 = .ok (.i2l, 1) := by decide +kernel
theorem dL_law_1221 : decode cL_law 1221 = .ok (.lcmp, 1) := by decide +kernel
theorem dL_law_1222 : decode cL_law 1222 = .ok (.ifCond .eq 5, 3) := by decide +kernel
theorem dL_law_1225 : decode cL_law 1225 = .ok (.iconst 0, 1) := by decide +kernel
theorem dL_law_1226 : decode cL_law 1226 = .ok (.ireturn, 1) := by decide +kernel
theorem dL_law_1227 : decode cL_law 1227 = .ok (.goto 84, 3) := by decide +kernel
theorem dL_law_1230 : decode cL_law 1230 = .ok (.aload_n 1, 1) := by decide +kernel
theorem dL_law_1231 : decode cL_law 1231 = .ok (.aload_n 0, 1) := by decide +kernel
theorem dL_law_1232 : decode cL_law 1232 = .ok (.iload 4, 2) := by decide +kernel
theorem dL_law_1234 : decode cL_law 1234 = .ok (.iconst 1, 1) := by decide +kernel
theorem dL_law_1235 : decode cL_law 1235 = .ok (.iadd, 1) := by decide +kernel
theorem dL_law_1236 : decode cL_law 1236 = .ok (.iaload, 1) := by decide +kernel
theorem dL_law_1237 : decode cL_law 1237 = .ok (.aload_n 0, 1) := by decide +kernel
theorem dL_law_1238 : decode cL_law 1238 = .ok (.iload 4, 2) := by decide +kernel
theorem dL_law_1240 : decode cL_law 1240 = .ok (.iconst 2, 1) := by decide +kernel
theorem dL_law_1241 : decode cL_law 1241 = .ok (.iadd, 1) := by decide +kernel
theorem dL_law_1242 : decode cL_law 1242 = .ok (.iaload, 1) := by decide +kernel
theorem dL_law_1243 : decode cL_law 1243 = .ok (.aload_n 3, 1) := by decide +kernel
theorem dL_law_1244 : decode cL_law 1244 = .ok (.invokestatic 174, 3) := by decide +kernel
theorem dL_law_1247 : decode cL_law 1247 = .ok (.istore 5, 2) := by decide +kernel
theorem dL_law_1249 : decode cL_law 1249 = .ok (.aload_n 2, 1) := by decide +kernel
theorem dL_law_1250 : decode cL_law 1250 = .ok (.aload_n 0, 1) := by decide +kernel
theorem dL_law_1251 : decode cL_law 1251 = .ok (.iload 4, 2) := by decide +kernel
theorem dL_law_1253 : decode cL_law 1253 = .ok (.iconst 1, 1) := by decide +kernel
theorem dL_law_1254 : decode cL_law 1254 = .ok (.iadd, 1) := by decide +kernel
theorem dL_law_1255 : decode cL_law 1255 = .ok (.iaload, 1) := by decide +kernel
theorem dL_law_1256 : decode cL_law 1256 = .ok (.aload_n 0, 1) := by decide +kernel
theorem dL_law_1257 : decode cL_law 1257 = .ok (.iload 4, 2) := by decide +kernel
theorem dL_law_1259 : decode cL_law 1259 = .ok (.iconst 2, 1) := by decide +kernel
theorem dL_law_1260 : decode cL_law 1260 = .ok (.iadd, 1) := by decide +kernel
theorem dL_law_1261 : decode cL_law 1261 = .ok (.iaload, 1) := by decide +kernel
theorem dL_law_1262 : decode cL_law 1262 = .ok (.invokevirtual 176, 3) := by decide +kernel
theorem dL_law_1265 : decode cL_law 1265 = .ok (.istore 6, 2) := by decide +kernel
theorem dL_law_1267 : decode cL_law 1267 = .ok (.aload_n 2, 1) := by decide +kernel
theorem dL_law_1268 : decode cL_law 1268 = .ok (.invokevirtual 83, 3) := by decide +kernel
theorem dL_law_1271 : decode cL_law 1271 = .ok (.iload 5, 2) := by decide +kernel
theorem dL_law_1273 : decode cL_law 1273 = .ok (.if_icmp .eq 5, 3) := by decide +kernel
theorem dL_law_1276 : decode cL_law 1276 = .ok (.iconst 0, 1) := by decide +kernel
theorem dL_law_1277 : decode cL_law 1277 = .ok (.ireturn, 1) := by decide +kernel
theorem dL_law_1278 : decode cL_law 1278 = .ok (.iload 5, 2) := by decide +kernel
theorem dL_law_1280 : decode cL_law 1280 = .ok (.ifCond .ne 15, 3) := by decide +kernel
theorem dL_law_1283 : decode cL_law 1283 = .ok (.aload_n 3, 1) := by decide +kernel
theorem dL_law_1284 : decode cL_law 1284 = .ok (.iconst 0, 1) := by decide +kernel
theorem dL_law_1285 : decode cL_law 1285 = .ok (.laload, 1) := by decide +kernel
theorem dL_law_1286 : decode cL_law 1286 = .ok (.iload 6, 2) := by decide +kernel
theorem dL_law_1288 : decode cL_law 1288 = .ok (.i2l, 1) := by decide +kernel
theorem dL_law_1289 : decode cL_law 1289 = .ok (.lcmp, 1) := by decide +kernel
theorem dL_law_1290 : decode cL_law 1290 = .ok (.ifCond .eq 5, 3) := by decide +kernel
theorem dL_law_1293 : decode cL_law 1293 = .ok (.iconst 0, 1) := by decide +kernel
theorem dL_law_1294 : decode cL_law 1294 = .ok (.ireturn, 1) := by decide +kernel
theorem dL_law_1295 : decode cL_law 1295 = .ok (.goto 16, 3) := by decide +kernel
theorem dL_law_1298 : decode cL_law 1298 = .ok (.aload_n 1, 1) := by decide +kernel
theorem dL_law_1299 : decode cL_law 1299 = .ok (.invokevirtual 177, 3) := by decide +kernel
theorem dL_law_1302 : decode cL_law 1302 = .ok (.aload_n 2, 1) := by decide +kernel
theorem dL_law_1303 : decode cL_law 1303 = .ok (.invokevirtual 180, 3) := by decide +kernel
theorem dL_law_1306 : decode cL_law 1306 = .ok (.if_icmp .eq 5, 3) := by decide +kernel
theorem dL_law_1309 : decode cL_law 1309 = .ok (.iconst 0, 1) := by decide +kernel
theorem dL_law_1310 : decode cL_law 1310 = .ok (.ireturn, 1) := by decide +kernel
theorem dL_law_1311 : decode cL_law 1311 = .ok (.iinc 4 3, 3) := by decide +kernel
theorem dL_law_1314 : decode cL_law 1314 = .ok (.goto (-1291), 3) := by decide +kernel
theorem dL_law_1317 : decode cL_law 1317 = .ok (.iconst 1, 1) := by decide +kernel
theorem dL_law_1318 : decode cL_law 1318 = .ok (.ireturn, 1) := by decide +kernel
end
section
/-! The world of a method here is a partial function F from addresses to what lies there; it says nothing of other cells. A is the set of addresses that may be written. -/
abbrev ah_F : Type := Nat → Option va_E
abbrev ah_G : Type := va_G × (Nat → ClassId)
def ah_up (F : ah_F) (a : Nat) (x : va_E) : ah_F := fun q => if q = a then some x else F q
theorem ah_up_s (F : ah_F) (a : Nat) (x : va_E) : ah_up F a x a = some x := by simp [ah_up]
theorem ah_up_n (F : ah_F) {a q : Nat} (x : va_E) (h : q ≠ a) : ah_up F a x q = F q := by simp [ah_up, h]
abbrev ah_tys (D : ah_G) : List (ClassId × FieldType) := [(D.2 0, .int), (D.2 1, .boolean), (D.2 2, .long), (D.2 3, .char), (D.2 4, .object "Ahoarch$Pattern")]
abbrev ah_ai (D : ah_G) (n : Nat) (f : Nat → Int32) : va_E := .inl (D.2 0, n, .inl f)
abbrev ah_az (D : ah_G) (n : Nat) (f : Nat → Int32) : va_E := .inl (D.2 1, n, .inl f)
abbrev ah_al (D : ah_G) (n : Nat) (f : Nat → Int64) : va_E := .inl (D.2 2, n, .inr (.inl f))
abbrev ah_ac (D : ah_G) (n : Nat) (f : Nat → Int32) : va_E := .inl (D.2 3, n, .inl f)
abbrev ah_aq (D : ah_G) (n : Nat) (f : Nat → Option Nat) : va_E := .inl (D.2 4, n, .inr (.inr (.inr (.inr f))))
/-- what tells entries apart -/
def ah_tag : va_E → Nat
  | .inr (c, _) => c
  | .inl (_, n, .inl _) => 1000 + 10 * n
  | .inl (_, n, .inr (.inl _)) => 1000 + 10 * n + 1
  | .inl (_, n, .inr (.inr (.inl _))) => 1000 + 10 * n + 2
  | .inl (_, n, .inr (.inr (.inr (.inl _)))) => 1000 + 10 * n + 3
  | .inl (_, n, .inr (.inr (.inr (.inr _)))) => 1000 + 10 * n + 4
theorem ah_ne {F : ah_F} {a b : Nat} {x y : va_E} (ha : F a = some x) (hb : F b = some y) (h : Nat.beq (ah_tag x) (ah_tag y) = false) : a ≠ b := by
  intro q
  subst q
  rw [ha] at hb
  cases hb
  exact absurd (Nat.eq_of_beq_eq_true (Nat.beq_refl (ah_tag x))) (fun _ => by rw [Nat.beq_refl] at h; cases h)
theorem ah_keep {F : ah_F} {a b : Nat} {x y z : va_E} (ha : F a = some x) (hb : F b = some y) (h : Nat.beq (ah_tag x) (ah_tag y) = false) : ah_up F a z b = some y := by
  rw [ah_up_n F z (Ne.symm (ah_ne ha hb h))]
  exact hb
/-! words that go along with every warming -/
def ah_st : Cond → Bool
  | .castable _ _ => true
  | .declares _ => true
  | .fieldLinkNest _ _ _ _ _ _ => true
  | .methodLinkNest _ _ _ _ => true
  | .arrayOver (.object _) => true
  | w => goodWord w
theorem ah_tr {w : Cond} (h : ah_st w = true) {s U : State} {args a' : Array Value} (hW : s.WarmedH U.vm) (hb : w.before args s = true) : w.before a' U = true := by
  cases w with
  | castable a b => exact va_Nw.use rfl (va_Nw.warmC hW (va_Nw.of rfl hb))
  | declares x => exact va_Nw.use rfl (va_Nw.warmD hW (va_Nw.of rfl hb))
  | fieldLinkNest a i b n d k => exact va_Nw.use rfl (va_Nw.warmF hW (va_Nw.of rfl hb))
  | methodLinkNest a i x k => exact va_Nw.use rfl (va_Nw.warmM hW (va_Nw.of rfl hb))
  | arrayOver ty =>
    cases ty with
    | object C => exact va_AO.use (va_AO.moved hW.alike (va_AO.of hb))
    | _ => exact word_at hW (good_of_word h) hb
  | _ => exact word_at hW (good_of_word h) hb
def ah_T : List Cond := lw_tbl.filter ah_st
theorem ah_in {w : Cond} (i : Nat) (h : tables_1[i]? = some w) (g : ah_st w = true) : w ∈ ah_T := List.mem_filter.mpr ⟨List.mem_append_right _ (List.mem_of_getElem? h), g⟩
theorem ah_inS {q : MethodName × Nat} (i : Nat) (h : lw_privs[i]? = some q) : Cond.selects q.1.cls q.1 q.1 ∈ ah_T := List.mem_filter.mpr ⟨List.mem_append_left _ (List.mem_map.mpr ⟨q, List.mem_of_getElem? h, rfl⟩), rfl⟩
/-! the environment: classes and array classes, what a throw needs, the texts, which exceptions aren't which -/
def ah_Strs : List (Nat × String) := [(207, "a letter is a to z"), (59, "the draft has 8 letters"), (68, "the draft is empty"), (74, "there is a pattern with the same letters"), (80, "there are 20 patterns, or 40 were entered"), (217, "there is no such pattern"), (220, "the stream would have more than 200 letters"), (158, "there is no such occurrence"), (210, "a rule is 0 to 2"), (198, "there is no such letter")]
def ah_Ncs : List (String × String) := [("java/lang/IllegalStateException", "java/lang/IllegalArgumentException"), ("java/lang/IllegalStateException", "java/util/NoSuchElementException"), ("java/lang/IndexOutOfBoundsException", "java/util/NoSuchElementException"), ("java/lang/IndexOutOfBoundsException", "java/lang/IllegalArgumentException")]
def ah_K (A : Nat → Prop) (D : ah_G) (F : ah_F) (H : Heap) : Prop := ∃ ws : va_W, va_P D.1 vwCl ws H ∧ va_D A ws ∧ ∀ (a : Nat) (x : va_E), F a = some x → ∃ k : Nat, ws[k]? = some (a, x)
def ah_V (A : Nat → Prop) (D : ah_G) (U : State) (H : Heap) : Prop :=
  va_K D.1 vwCl (ah_tys D) U ∧ vx_Zq Bundle.tN "UNASSIGNED_STACK" Bundle.steD A U H ∧ vx_Zq Bundle.tN "SUPPRESSED_SENTINEL" Bundle.listD A U H ∧ (∀ q ∈ ah_Strs, ∃ sa : Nat, vk_R "Ahoarch" q.1 q.2 sa U) ∧ ∀ q ∈ ah_Ncs, va_Nc q.1 q.2 U
theorem ah_V.same {A : Nat → Prop} {D : ah_G} {u U : State} {H : Heap} (hvm : U.vm = u.vm) (h : ah_V A D u H) : ah_V A D U H := by
  have hal : u.vm.Alike U.vm := by rw [hvm]; exact Vm.Alike.refl u.vm
  exact ⟨va_K.moved hal h.1, vx_Zq.moved hal h.2.1, vx_Zq.moved hal h.2.2.1, fun q hq => (h.2.2.2.1 q hq).imp fun sa r => r.same hvm, fun q hq => va_Nc.moved hal (h.2.2.2.2 q hq)⟩
theorem ah_V.call {A : Nat → Prop} {D : ah_G} {s U : State} {H : Heap} {locs : List Loc} (h : ah_V A D s s.heap) (hS : va_S A s.heap H locs) (hU : U.heap = H) (hW : s.WarmedH U.vm) : ah_V A D U U.heap := by
  rw [hU]
  exact ⟨va_K.moved hW.alike h.1, vx_Zq.moved hW.alike (h.2.1.kept hS.2.1), vx_Zq.moved hW.alike (h.2.2.1.kept hS.2.1), fun q hq => (h.2.2.2.1 q hq).imp fun sa r => r.warm hW, fun q hq => va_Nc.moved hW.alike (h.2.2.2.2 q hq)⟩
def ah_B (A : Nat → Prop) (D : ah_G) (F : ah_F) (U : State) : Prop := ah_V A D U U.heap ∧ ah_K A D F U.heap ∧ ∀ q : Nat, U.heap.size ≤ q → A q
theorem ah_blind {A : Nat → Prop} {D : ah_G} {F : ah_F} {av : List Value} : FrameBlind (va_Pc av (ah_B A D F)) := fun a U g mk q => ⟨q.1, (q.2.1.same (U := U.calling g mk a) rfl : ah_V A D (U.calling g mk a) U.heap), q.2.2.1, q.2.2.2⟩
def ah_E (A : Nat → Prop) (D : ah_G) (p : Program) (s : State) (m : MethodId) (args : Array Value) (meth : Method) (c : Code) (own : String) (cc : ByteArray) (nL : Nat) : Prop :=
  p.tables.exec = Jvm.exec ∧ c.code = cc ∧ c.maxLocals = nL ∧ s.vm.findClass own = some m.cls ∧ (∀ w ∈ ah_T, w.before args s = true) ∧ meth.locks = false ∧ ah_V A D s s.heap ∧ ∀ q : Nat, s.heap.size ≤ q → A q
theorem ah_K.lt {A : Nat → Prop} {D : ah_G} {F : ah_F} {H : Heap} (h : ah_K A D F H) {a : Nat} {x : va_E} (ha : F a = some x) : a < H.size ∧ A a := by
  obtain ⟨ws, h1, h2, h3⟩ := h
  obtain ⟨k, hk⟩ := h3 a x ha
  exact ⟨(h1 k _ hk).lt, h2.2 k _ hk⟩
theorem ah_K.one {A : Nat → Prop} {D : ah_G} {F : ah_F} {H : Heap} (h : ah_K A D F H) {a : Nat} {x : va_E} (ha : F a = some x) : va_P D.1 vwCl [(a, x)] H := by
  obtain ⟨ws, h1, h2, h3⟩ := h
  obtain ⟨k, hk⟩ := h3 a x ha
  exact h1.sub [k] (by simp [hk])
theorem ah_K.put {A : Nat → Prop} {D : ah_G} {F : ah_F} {H1 : Heap} {ws : va_W} {a k : Nat} {x z : va_E} (h3 : ∀ (b : Nat) (y : va_E), F b = some y → ∃ j : Nat, ws[j]? = some (b, y)) (hk : ws[k]? = some (a, x)) (hP : va_P D.1 vwCl (ws.set k (a, z)) H1) (hD : va_D A (ws.set k (a, z))) (hD0 : va_D A ws) : ah_K A D (ah_up F a z) H1 := by
  have hl := (List.getElem?_eq_some_iff.mp hk).1
  refine ⟨_, hP, hD, fun b y hb => ?_⟩
  by_cases q : b = a
  · subst q
    rw [ah_up_s] at hb
    cases hb
    exact ⟨k, List.getElem?_set_self hl⟩
  · rw [ah_up_n F z q] at hb
    obtain ⟨j, hj⟩ := h3 b y hb
    have hjk : j ≠ k := fun e => by
      subst e
      rw [hk] at hj
      cases hj
      exact q rfl
    exact ⟨j, by rw [List.getElem?_set_ne (Ne.symm hjk)]; exact hj⟩
theorem ah_K.new {A : Nat → Prop} {D : ah_G} {F : ah_F} {H H1 : Heap} {ws : va_W} {q : Nat} {z : va_E} (h1 : va_P D.1 vwCl ws H) (h3 : ∀ (b : Nat) (y : va_E), F b = some y → ∃ j : Nat, ws[j]? = some (b, y)) (hP : va_P D.1 vwCl (ws ++ [(q, z)]) H1) (hD : va_D A (ws ++ [(q, z)])) : ah_K A D (ah_up F q z) H1 ∧ F q = none := by
  have hn : ∀ (j : Nat) (y : va_E), ws[j]? ≠ some (q, y) := fun j y hj => by
    have hl := (List.getElem?_eq_some_iff.mp hj).1
    have e1 : (ws ++ [(q, z)])[j]? = some (q, y) := by rw [List.getElem?_append_left hl]; exact hj
    have e2 : (ws ++ [(q, z)])[ws.length]? = some (q, z) := by rw [List.getElem?_append_right (Nat.le_refl _), Nat.sub_self]; rfl
    have := hD.1 _ _ _ _ e1 e2 rfl
    omega
  refine ⟨⟨_, hP, hD, fun b y hb => ?_⟩, ?_⟩
  · by_cases e : b = q
    · subst e
      rw [ah_up_s] at hb
      cases hb
      exact ⟨ws.length, by rw [List.getElem?_append_right (Nat.le_refl _), Nat.sub_self]; rfl⟩
    · rw [ah_up_n F z e] at hb
      obtain ⟨j, hj⟩ := h3 b y hb
      exact ⟨j, by rw [List.getElem?_append_left (List.getElem?_eq_some_iff.mp hj).1]; exact hj⟩
  · cases hf : F q with
    | none => rfl
    | some y =>
      obtain ⟨j, hj⟩ := h3 q y hf
      exact absurd hj (hn j y)
end
section
/-! rows over the world F: heap instructions -/
section AHR
variable {p : Program} {l : Launch} {e : Env} {R : Room} {s : State} {m : MethodId} {args : Array Value} {below : List Frame} {meth : Method} {c : Code} {H : Heap} {locs : List Loc} {cells slots : Nat} {Q : State → Prop}
variable {cc : ByteArray} {pc nL : Nat} {ls : Array Slot} {rest : List Value} {D : ah_G} {A : Nat → Prop} {a : Nat} {F : ah_F} {own : String}
theorem ah_get {ref C : String} {Tt : u_T} {N ci index : Nat} (E : ah_E A D p s m args meth c own cc nL) (hP : ah_K A D F H) {fs : List Value} (hF : F a = some (.inr (ci, fs))) (hc : vwCl[ci]? = some (C, Tt, N)) (hin : ∀ w ∈ u_ws C Tt N, w ∈ ah_T) (k : Nat) (hk : k < N) (hl : Cond.fieldLink own index ref (Tt k).2.1 (Tt k).2.2.1 ∈ ah_T) (href : (Tt k).1 = ref) {v : Value} (hv : fs[k]? = some v) (hdg : decode cc pc = .ok (.getfield index, 3))
    (kk : W p l e R s m args below meth c H locs cells slots Q (F0 m (pc + 3) ls (v :: rest))) : W p l e R s m args below meth c H locs cells slots Q (F0 m pc ls (.ref a :: rest)) := by
  obtain ⟨hx, hb, -, hown, hts, -, hV, -⟩ := E
  exact va_get (D := D.1) (ci := ci) hx hb hts hin hown hV.1 (hP.one hF) 0 rfl hc k hk (hts _ hl) (fun x h => by rw [← href]; exact h) hv hdg kk
theorem ah_getN {ref C host : String} {Tt : u_T} {N ci index : Nat} (E : ah_E A D p s m args meth c own cc nL) (hP : ah_K A D F H) {fs : List Value} (hF : F a = some (.inr (ci, fs))) (hc : vwCl[ci]? = some (C, Tt, N)) (hin : ∀ w ∈ u_ws C Tt N, w ∈ ah_T) (k : Nat) (hk : k < N) (hl : Cond.fieldLinkNest own index ref (Tt k).2.1 (Tt k).2.2.1 host ∈ ah_T) (href : (Tt k).1 = ref) {v : Value} (hv : fs[k]? = some v) (hdg : decode cc pc = .ok (.getfield index, 3))
    (kk : W p l e R s m args below meth c H locs cells slots Q (F0 m (pc + 3) ls (v :: rest))) : W p l e R s m args below meth c H locs cells slots Q (F0 m pc ls (.ref a :: rest)) := by
  obtain ⟨hx, hb, -, hown, hts, -, hV, -⟩ := E
  exact va_getN (D := D.1) (ci := ci) hx hb hts hin hown hV.1 (hP.one hF) 0 rfl hc k hk (hts _ hl) (fun x h => by rw [← href]; exact h) hv hdg kk
theorem ah_put {ref C : String} {Tt : u_T} {N ci index : Nat} (E : ah_E A D p s m args meth c own cc nL) (hP : ah_K A D F H) (hS : va_S A s.heap H locs) {fs : List Value} (hF : F a = some (.inr (ci, fs))) (hc : vwCl[ci]? = some (C, Tt, N)) (hin : ∀ w ∈ u_ws C Tt N, w ∈ ah_T) (ty0 : Nat → FieldType) (hty : ∀ k, k < N → parseFieldDescriptor (Tt k).2.2.1 = some (ty0 k)) (hnm : ∀ a, a < N → ∀ b, b < N → a ≠ b → (Tt a).2.1 ≠ (Tt b).2.1) (k : Nat) (hk : k < N) (hl : Cond.fieldLink own index ref (Tt k).2.1 (Tt k).2.2.1 ∈ ah_T) (href : (Tt k).1 = ref) (hfin : (Tt k).2.2.2 = false) {v : Value} (hn : narrow (ty0 k) v = v) (hfit : fits (ty0 k) v = true) (hlen : k < fs.length) (hdg : decode cc pc = .ok (.putfield index, 3))
    (kk : ∀ (H1 : Heap) (locs1 : List Loc), ah_K A D (ah_up F a (.inr (ci, fs.set k v))) H1 → va_S A s.heap H1 locs1 → W p l e R s m args below meth c H1 locs1 cells slots Q (F0 m (pc + 3) ls rest)) : W p l e R s m args below meth c H locs cells slots Q (F0 m pc ls (v :: .ref a :: rest)) := by
  obtain ⟨hx, hb, -, hown, hts, -, hV, -⟩ := E
  obtain ⟨ws, h1, h2, h3⟩ := hP
  obtain ⟨j, hj⟩ := h3 a _ hF
  exact va_put (D := D.1) (ci := ci) hx hb hts hin ty0 hty hnm hown hV.1 h1 h2 hS j hj hc k hk (hts _ hl) (fun x h => by rw [← href]; exact h) hfin (hty k hk) hn hfit hlen hdg (fun H1 locs1 g1 g2 g3 => kk H1 locs1 (ah_K.put h3 hj g1 g2 h2) g3)
theorem ah_putN {ref C host : String} {Tt : u_T} {N ci index : Nat} (E : ah_E A D p s m args meth c own cc nL) (hP : ah_K A D F H) (hS : va_S A s.heap H locs) {fs : List Value} (hF : F a = some (.inr (ci, fs))) (hc : vwCl[ci]? = some (C, Tt, N)) (hin : ∀ w ∈ u_ws C Tt N, w ∈ ah_T) (ty0 : Nat → FieldType) (hty : ∀ k, k < N → parseFieldDescriptor (Tt k).2.2.1 = some (ty0 k)) (hnm : ∀ a, a < N → ∀ b, b < N → a ≠ b → (Tt a).2.1 ≠ (Tt b).2.1) (k : Nat) (hk : k < N) (hl : Cond.fieldLinkNest own index ref (Tt k).2.1 (Tt k).2.2.1 host ∈ ah_T) (href : (Tt k).1 = ref) (hfin : (Tt k).2.2.2 = false) {v : Value} (hn : narrow (ty0 k) v = v) (hfit : fits (ty0 k) v = true) (hlen : k < fs.length) (hdg : decode cc pc = .ok (.putfield index, 3))
    (kk : ∀ (H1 : Heap) (locs1 : List Loc), ah_K A D (ah_up F a (.inr (ci, fs.set k v))) H1 → va_S A s.heap H1 locs1 → W p l e R s m args below meth c H1 locs1 cells slots Q (F0 m (pc + 3) ls rest)) : W p l e R s m args below meth c H locs cells slots Q (F0 m pc ls (v :: .ref a :: rest)) := by
  obtain ⟨hx, hb, -, hown, hts, -, hV, -⟩ := E
  obtain ⟨ws, h1, h2, h3⟩ := hP
  obtain ⟨j, hj⟩ := h3 a _ hF
  exact va_putN (D := D.1) (ci := ci) hx hb hts hin ty0 hty hnm hown hV.1 h1 h2 hS j hj hc k hk (hts _ hl) (fun x h => by rw [← href]; exact h) hfin (hty k hk) hn hfit hlen hdg (fun H1 locs1 g1 g2 g3 => kk H1 locs1 (ah_K.put h3 hj g1 g2 h2) g3)
theorem ah_putF {ref C : String} {Tt : u_T} {N ci index : Nat} (E : ah_E A D p s m args meth c own cc nL) (hini : meth.name = "<init>") (hP : ah_K A D F H) (hS : va_S A s.heap H locs) {fs : List Value} (hF : F a = some (.inr (ci, fs))) (hc : vwCl[ci]? = some (C, Tt, N)) (hin : ∀ w ∈ u_ws C Tt N, w ∈ ah_T) (ty0 : Nat → FieldType) (hty : ∀ k, k < N → parseFieldDescriptor (Tt k).2.2.1 = some (ty0 k)) (hnm : ∀ a, a < N → ∀ b, b < N → a ≠ b → (Tt a).2.1 ≠ (Tt b).2.1) (k : Nat) (hk : k < N) (hl : Cond.fieldLink own index ref (Tt k).2.1 (Tt k).2.2.1 ∈ ah_T) (href : (Tt k).1 = ref) (hro : (Tt k).1 = own) (hfin : (Tt k).2.2.2 = true) {v : Value} (hn : narrow (ty0 k) v = v) (hfit : fits (ty0 k) v = true) (hlen : k < fs.length) (hdg : decode cc pc = .ok (.putfield index, 3))
    (kk : ∀ (H1 : Heap) (locs1 : List Loc), ah_K A D (ah_up F a (.inr (ci, fs.set k v))) H1 → va_S A s.heap H1 locs1 → W p l e R s m args below meth c H1 locs1 cells slots Q (F0 m (pc + 3) ls rest)) : W p l e R s m args below meth c H locs cells slots Q (F0 m pc ls (v :: .ref a :: rest)) := by
  obtain ⟨hx, hb, -, hown, hts, -, hV, -⟩ := E
  obtain ⟨ws, h1, h2, h3⟩ := hP
  obtain ⟨j, hj⟩ := h3 a _ hF
  exact va_putF (D := D.1) (ci := ci) hx hb hts hin ty0 hty hnm hown hV.1 h1 h2 hS j hj hc k hk (hts _ hl) (fun x h => by rw [← href]; exact h) hfin hini hro (hty k hk) hn hfit hlen hdg (fun H1 locs1 g1 g2 g3 => kk H1 locs1 (ah_K.put h3 hj g1 g2 h2) g3)
theorem ah_iald (E : ah_E A D p s m args meth c own cc nL) (hP : ah_K A D F H) {n : Nat} {f : Nat → Int32} (hF : F a = some (ah_ai D n f)) {i : Nat} (hi : i < n) (hn : n < 2 ^ 31) (hdg : decode cc pc = .ok (.iaload, 1))
    (kk : W p l e R s m args below meth c H locs cells slots Q (F0 m (pc + 1) ls (.int (f i) :: rest))) : W p l e R s m args below meth c H locs cells slots Q (F0 m pc ls (.int (nI i) :: .ref a :: rest)) := by
  refine va_iald (D := D.1) (tys := ah_tys D) E.1 E.2.1 E.2.2.2.2.2.2.1.1 (hP.one hF) 0 0 rfl rfl (vp_in_nI hi hn) hdg ?_
  rw [nI_clamp (by omega)]; exact kk
theorem ah_zald (E : ah_E A D p s m args meth c own cc nL) (hP : ah_K A D F H) {n : Nat} {f : Nat → Int32} (hF : F a = some (ah_az D n f)) {i : Nat} (hi : i < n) (hn : n < 2 ^ 31) (hdg : decode cc pc = .ok (.baload, 1))
    (kk : W p l e R s m args below meth c H locs cells slots Q (F0 m (pc + 1) ls (.int (f i) :: rest))) : W p l e R s m args below meth c H locs cells slots Q (F0 m pc ls (.int (nI i) :: .ref a :: rest)) := by
  refine va_zald (D := D.1) (tys := ah_tys D) E.1 E.2.1 E.2.2.2.2.2.2.1.1 (hP.one hF) 0 1 rfl rfl (vp_in_nI hi hn) hdg ?_
  rw [nI_clamp (by omega)]; exact kk
theorem ah_cald (E : ah_E A D p s m args meth c own cc nL) (hP : ah_K A D F H) {n : Nat} {f : Nat → Int32} (hF : F a = some (ah_ac D n f)) {i : Nat} (hi : i < n) (hn : n < 2 ^ 31) (hdg : decode cc pc = .ok (.caload, 1))
    (kk : W p l e R s m args below meth c H locs cells slots Q (F0 m (pc + 1) ls (.int (f i) :: rest))) : W p l e R s m args below meth c H locs cells slots Q (F0 m pc ls (.int (nI i) :: .ref a :: rest)) := by
  refine va_cald (D := D.1) (tys := ah_tys D) E.1 E.2.1 E.2.2.2.2.2.2.1.1 (hP.one hF) 0 3 rfl rfl (vp_in_nI hi hn) hdg ?_
  rw [nI_clamp (by omega)]; exact kk
theorem ah_lald (E : ah_E A D p s m args meth c own cc nL) (hP : ah_K A D F H) {n : Nat} {f : Nat → Int64} (hF : F a = some (ah_al D n f)) {i : Nat} (hi : i < n) (hn : n < 2 ^ 31) (hdg : decode cc pc = .ok (.laload, 1))
    (kk : W p l e R s m args below meth c H locs cells slots Q (F0 m (pc + 1) ls (.long (f i) :: rest))) : W p l e R s m args below meth c H locs cells slots Q (F0 m pc ls (.int (nI i) :: .ref a :: rest)) := by
  refine va_lald (D := D.1) (tys := ah_tys D) E.1 E.2.1 E.2.2.2.2.2.2.1.1 (hP.one hF) 0 2 rfl rfl (vp_in_nI hi hn) hdg ?_
  rw [nI_clamp (by omega)]; exact kk
theorem ah_qald (E : ah_E A D p s m args meth c own cc nL) (hP : ah_K A D F H) {n : Nat} {f : Nat → Option Nat} (hF : F a = some (ah_aq D n f)) {i : Nat} (hi : i < n) (hn : n < 2 ^ 31) (hdg : decode cc pc = .ok (.aaload, 1))
    (kk : W p l e R s m args below meth c H locs cells slots Q (F0 m (pc + 1) ls (va_rf (f i) :: rest))) : W p l e R s m args below meth c H locs cells slots Q (F0 m pc ls (.int (nI i) :: .ref a :: rest)) := by
  refine va_aldq (D := D.1) (tys := ah_tys D) E.1 E.2.1 E.2.2.2.2.2.2.1.1 (hP.one hF) 0 4 rfl rfl (vp_in_nI hi hn) hdg ?_
  rw [nI_clamp (by omega)]; exact kk
theorem ah_iast (E : ah_E A D p s m args meth c own cc nL) (hP : ah_K A D F H) (hS : va_S A s.heap H locs) {n : Nat} {f : Nat → Int32} {x : Int32} (hF : F a = some (ah_ai D n f)) {i : Nat} (hi : i < n) (hn : n < 2 ^ 31) (hdg : decode cc pc = .ok (.iastore, 1))
    (kk : ∀ (H1 : Heap) (locs1 : List Loc), ah_K A D (ah_up F a (ah_ai D n (upd f i x))) H1 → va_S A s.heap H1 locs1 → W p l e R s m args below meth c H1 locs1 cells slots Q (F0 m (pc + 1) ls rest)) : W p l e R s m args below meth c H locs cells slots Q (F0 m pc ls (.int x :: .int (nI i) :: .ref a :: rest)) := by
  obtain ⟨ws, h1, h2, h3⟩ := hP
  obtain ⟨j, hj⟩ := h3 a _ hF
  refine va_iast (D := D.1) (tys := ah_tys D) E.1 E.2.1 E.2.2.2.2.2.2.1.1 h1 h2 hS j 0 hj rfl (vp_in_nI hi hn) hdg (fun H1 locs1 g1 g2 g3 => kk H1 locs1 ?_ g3)
  rw [nI_clamp (by omega)] at g1 g2
  exact ah_K.put h3 hj g1 g2 h2
theorem ah_zast (E : ah_E A D p s m args meth c own cc nL) (hP : ah_K A D F H) (hS : va_S A s.heap H locs) {n : Nat} {f : Nat → Int32} {x : Int32} (hF : F a = some (ah_az D n f)) {i : Nat} (hi : i < n) (hn : n < 2 ^ 31) (hx : vp_nar .boolean x = x) (hdg : decode cc pc = .ok (.bastore, 1))
    (kk : ∀ (H1 : Heap) (locs1 : List Loc), ah_K A D (ah_up F a (ah_az D n (upd f i x))) H1 → va_S A s.heap H1 locs1 → W p l e R s m args below meth c H1 locs1 cells slots Q (F0 m (pc + 1) ls rest)) : W p l e R s m args below meth c H locs cells slots Q (F0 m pc ls (.int x :: .int (nI i) :: .ref a :: rest)) := by
  obtain ⟨ws, h1, h2, h3⟩ := hP
  obtain ⟨j, hj⟩ := h3 a _ hF
  refine va_zast (D := D.1) (tys := ah_tys D) E.1 E.2.1 E.2.2.2.2.2.2.1.1 h1 h2 hS j 1 hj rfl (vp_in_nI hi hn) hdg (fun H1 locs1 g1 g2 g3 => kk H1 locs1 ?_ g3)
  rw [nI_clamp (by omega), hx] at g1 g2
  exact ah_K.put h3 hj g1 g2 h2
theorem ah_cast (E : ah_E A D p s m args meth c own cc nL) (hP : ah_K A D F H) (hS : va_S A s.heap H locs) {n : Nat} {f : Nat → Int32} {x : Int32} (hF : F a = some (ah_ac D n f)) {i : Nat} (hi : i < n) (hn : n < 2 ^ 31) (hx : vp_nar .char x = x) (hdg : decode cc pc = .ok (.castore, 1))
    (kk : ∀ (H1 : Heap) (locs1 : List Loc), ah_K A D (ah_up F a (ah_ac D n (upd f i x))) H1 → va_S A s.heap H1 locs1 → W p l e R s m args below meth c H1 locs1 cells slots Q (F0 m (pc + 1) ls rest)) : W p l e R s m args below meth c H locs cells slots Q (F0 m pc ls (.int x :: .int (nI i) :: .ref a :: rest)) := by
  obtain ⟨ws, h1, h2, h3⟩ := hP
  obtain ⟨j, hj⟩ := h3 a _ hF
  refine va_cast (D := D.1) (tys := ah_tys D) E.1 E.2.1 E.2.2.2.2.2.2.1.1 h1 h2 hS j 3 hj rfl (vp_in_nI hi hn) hdg (fun H1 locs1 g1 g2 g3 => kk H1 locs1 ?_ g3)
  rw [nI_clamp (by omega), hx] at g1 g2
  exact ah_K.put h3 hj g1 g2 h2
theorem ah_last (E : ah_E A D p s m args meth c own cc nL) (hP : ah_K A D F H) (hS : va_S A s.heap H locs) {n : Nat} {f : Nat → Int64} {x : Int64} (hF : F a = some (ah_al D n f)) {i : Nat} (hi : i < n) (hn : n < 2 ^ 31) (hdg : decode cc pc = .ok (.lastore, 1))
    (kk : ∀ (H1 : Heap) (locs1 : List Loc), ah_K A D (ah_up F a (ah_al D n (vp_updL f i x))) H1 → va_S A s.heap H1 locs1 → W p l e R s m args below meth c H1 locs1 cells slots Q (F0 m (pc + 1) ls rest)) : W p l e R s m args below meth c H locs cells slots Q (F0 m pc ls (.long x :: .int (nI i) :: .ref a :: rest)) := by
  obtain ⟨ws, h1, h2, h3⟩ := hP
  obtain ⟨j, hj⟩ := h3 a _ hF
  refine va_last (D := D.1) (tys := ah_tys D) E.1 E.2.1 E.2.2.2.2.2.2.1.1 h1 h2 hS j 2 hj rfl (vp_in_nI hi hn) hdg (fun H1 locs1 g1 g2 g3 => kk H1 locs1 ?_ g3)
  rw [nI_clamp (by omega)] at g1 g2
  exact ah_K.put h3 hj g1 g2 h2
theorem ah_qast (E : ah_E A D p s m args meth c own cc nL) (hP : ah_K A D F H) (hS : va_S A s.heap H locs) {n v : Nat} {f : Nat → Option Nat} {vs : List Value} (hF : F a = some (ah_aq D n f)) (hv : F v = some (.inr (2, vs))) {i : Nat} (hi : i < n) (hn : n < 2 ^ 31) (hdg : decode cc pc = .ok (.aastore, 1))
    (kk : ∀ (H1 : Heap) (locs1 : List Loc), ah_K A D (ah_up F a (ah_aq D n (va_up f i (some v)))) H1 → va_S A s.heap H1 locs1 → W p l e R s m args below meth c H1 locs1 cells slots Q (F0 m (pc + 1) ls rest)) : W p l e R s m args below meth c H locs cells slots Q (F0 m pc ls (.ref v :: .int (nI i) :: .ref a :: rest)) := by
  obtain ⟨ws, h1, h2, h3⟩ := hP
  obtain ⟨j, hj⟩ := h3 a _ hF
  obtain ⟨j2, hj2⟩ := h3 v _ hv
  refine va_astq (D := D.1) (tys := ah_tys D) (r := (RX2, TX2, 3)) E.1 E.2.1 E.2.2.2.2.2.2.1.1 h1 h2 hS j 4 j2 2 hj rfl hj2 rfl (vp_in_nI hi hn) hdg (fun H1 locs1 g1 g2 g3 => kk H1 locs1 ?_ g3)
  rw [nI_clamp (by omega)] at g1 g2
  exact ah_K.put h3 hj g1 g2 h2
theorem ah_qastN (E : ah_E A D p s m args meth c own cc nL) (hP : ah_K A D F H) (hS : va_S A s.heap H locs) {n : Nat} {f : Nat → Option Nat} (hF : F a = some (ah_aq D n f)) {i : Nat} (hi : i < n) (hn : n < 2 ^ 31) (hdg : decode cc pc = .ok (.aastore, 1))
    (kk : ∀ (H1 : Heap) (locs1 : List Loc), ah_K A D (ah_up F a (ah_aq D n (va_up f i none))) H1 → va_S A s.heap H1 locs1 → W p l e R s m args below meth c H1 locs1 cells slots Q (F0 m (pc + 1) ls rest)) : W p l e R s m args below meth c H locs cells slots Q (F0 m pc ls (.null :: .int (nI i) :: .ref a :: rest)) := by
  obtain ⟨ws, h1, h2, h3⟩ := hP
  obtain ⟨j, hj⟩ := h3 a _ hF
  refine va_astqN (D := D.1) (tys := ah_tys D) E.1 E.2.1 E.2.2.2.2.2.2.1.1 h1 h2 hS j 4 hj rfl (vp_in_nI hi hn) hdg (fun H1 locs1 g1 g2 g3 => kk H1 locs1 ?_ g3)
  rw [nI_clamp (by omega)] at g1 g2
  exact ah_K.put h3 hj g1 g2 h2
theorem ah_len {ty : FieldType} {cA : ClassId} {x : vp_A} (E : ah_E A D p s m args meth c own cc nL) (hP : ah_K A D F H) (hF : F a = some (.inl (cA, x))) (t0 : Nat) (ht : (ah_tys D)[t0]? = some (cA, ty)) (hdg : decode cc pc = .ok (.arraylength, 1))
    (kk : W p l e R s m args below meth c H locs cells slots Q (F0 m (pc + 1) ls (.int (nI x.1) :: rest))) : W p l e R s m args below meth c H locs cells slots Q (F0 m pc ls (.ref a :: rest)) :=
  va_alen (D := D.1) (tys := ah_tys D) E.1 E.2.1 E.2.2.2.2.2.2.1.1 (hP.one hF) 0 t0 rfl ht rfl hdg kk
theorem ah_new {C : String} {Tt : u_T} {N ci index : Nat} (E : ah_E A D p s m args meth c own cc nL) (hP : ah_K A D F H) (hS : va_S A s.heap H locs) (hc : vwCl[ci]? = some (C, Tt, N)) (hin : ∀ w ∈ u_ws C Tt N, w ∈ ah_T) (ty : Nat → FieldType) (hty : ∀ k, k < N → parseFieldDescriptor (Tt k).2.2.1 = some (ty k)) (hcl : Cond.classLink own index C ∈ ah_T) (hinst : Cond.instantiable C N ∈ ah_T) (hini : Cond.initialized C ∈ ah_T) {fs : List Value} (hfs : ∀ j, j < N → defaultValue (ty j) = vp_V fs j) (hcells : cells + 1 ≤ R.cells) (hslots : slots + N ≤ R.slots) (hdg : decode cc pc = .ok (.new index, 3))
    (kk : ∀ (q : Nat) (H1 : Heap), F q = none → ah_K A D (ah_up F q (.inr (ci, fs))) H1 → va_S A s.heap H1 locs → W p l e R s m args below meth c H1 locs (cells + 1) (slots + N) Q (F0 m (pc + 3) ls (.ref q :: rest))) : W p l e R s m args below meth c H locs cells slots Q (F0 m pc ls rest) := by
  obtain ⟨hx, hb, -, hown, hts, -, hV, hA⟩ := E
  obtain ⟨ws, h1, h2, h3⟩ := hP
  exact va_new (D := D.1) (ci := ci) hx hb hts hin ty hty hown (hts _ hcl) (hts _ hinst) (hts _ hini) hV.1 h1 h2 hS hA hc hfs hcells hslots hdg (fun q H1 g1 g2 g3 => kk q H1 (ah_K.new h1 h3 g1 g2).2 (ah_K.new h1 h3 g1 g2).1 g3)
theorem ah_cA {U : State} {c1 c2 : ClassId} {nm : String} (h1 : U.vm.findClass nm = some c1) (h2 : U.vm.findClass nm = some c2) : c1 = c2 := Option.some.inj (h1.symm.trans h2)
theorem ah_newa {atype : ArrayType} {ty : FieldType} {t0 : Nat} {cA0 : ClassId} {a0 : vp_A} {N : Nat} (E : ah_E A D p s m args meth c own cc nL) (hP : ah_K A D F H) (hS : va_S A s.heap H locs) (hty : newarray.typeOf atype = ty) (hp : ∀ C, ty ≠ .object C) (ht : (ah_tys D)[t0]? = some (cA0, ty)) (harr : Cond.arrayClass (newarray.typeOf atype) ∈ ah_T) (ha : ∀ cA : ClassId, vp_cell cA a0 = arrV cA N (fun _ => defaultValue ty)) (hN : N < 2 ^ 31) (hbytes : N * componentBytes ty ≤ 536870912) (hcells : cells + 1 ≤ R.cells) (hslots : slots + N ≤ R.slots) (hdg : decode cc pc = .ok (.newarray atype, 2))
    (kk : ∀ (q : Nat) (H1 : Heap), F q = none → ah_K A D (ah_up F q (.inl (cA0, a0))) H1 → va_S A s.heap H1 locs → W p l e R s m args below meth c H1 locs (cells + 1) (slots + N) Q (F0 m (pc + 2) ls (.ref q :: rest))) : W p l e R s m args below meth c H locs cells slots Q (F0 m pc ls (.int (nI N) :: rest)) := by
  obtain ⟨hx, hb, -, hown, hts, -, hV, hA⟩ := E
  obtain ⟨ws, h1, h2, h3⟩ := hP
  refine va_newa (D := D.1) (a0 := a0) hx hb (hts _ harr) hty hV.1 h1 h2 hS hA ha (nI_pos hN) (nI_clamp hN) hbytes hcells hslots hdg (fun q cA H1 g0 g1 g2 g3 => ?_)
  have e1 := (g0.2 5 (cA, ty) rfl).2
  have e2 := (hV.1.2 t0 _ ht).2
  have hcc : cA = cA0 := by
    cases ty with
    | object C => exact absurd rfl (hp C)
    | _ => exact ah_cA e1 e2
  subst hcc
  exact kk q H1 (ah_K.new h1 h3 g1 g2).2 (ah_K.new h1 h3 g1 g2).1 g3
theorem ah_newq {index N : Nat} (E : ah_E A D p s m args meth c own cc nL) (hP : ah_K A D F H) (hS : va_S A s.heap H locs) (hcl : Cond.classLink own index "Ahoarch$Pattern" ∈ ah_T) (hover : Cond.arrayOver (.object "Ahoarch$Pattern") ∈ ah_T) (hN : N < 2 ^ 31) (hbytes : N * 4 ≤ 536870912) (hcells : cells + 1 ≤ R.cells) (hslots : slots + N ≤ R.slots) (hdg : decode cc pc = .ok (.anewarray index, 3))
    (kk : ∀ (q : Nat) (H1 : Heap), F q = none → ah_K A D (ah_up F q (ah_aq D N (fun _ => none))) H1 → va_S A s.heap H1 locs → W p l e R s m args below meth c H1 locs (cells + 1) (slots + N) Q (F0 m (pc + 3) ls (.ref q :: rest))) : W p l e R s m args below meth c H locs cells slots Q (F0 m pc ls (.int (nI N) :: rest)) := by
  obtain ⟨hx, hb, -, hown, hts, -, hV, hA⟩ := E
  obtain ⟨ws, h1, h2, h3⟩ := hP
  refine va_newq (D := D.1) (C := "Ahoarch$Pattern") hx hb hown (hts _ hcl) (va_AO.of (hts _ hover)) hV.1 h1 h2 hS hA (nI_pos hN) (nI_clamp hN) hbytes hcells hslots hdg (fun q cA H1 g0 g1 g2 g3 => ?_)
  obtain ⟨k1, c1, -, -, -, n1⟩ := (g0.2 5 (cA, .object "Ahoarch$Pattern") rfl).2
  obtain ⟨k2, c2, -, -, -, n2⟩ := (hV.1.2 4 (D.2 4, .object "Ahoarch$Pattern") rfl).2
  have hcc : cA = D.2 4 := ah_cA n1 n2
  subst hcc
  exact kk q H1 (ah_K.new h1 h3 g1 g2).2 (ah_K.new h1 h3 g1 g2).1 g3
end AHR
end
section
/-! rows over the world F: calls, ends, numbers -/
def bI_ (b : Bool) : Int32 := if b then 1 else 0
theorem bI_t : bI_ true = 1 := rfl
theorem bI_f : bI_ false = 0 := rfl
theorem bI_nz (b : Bool) : narrow .boolean (.int (bI_ b)) = .int (bI_ b) := by cases b <;> decide
theorem bI_vz (b : Bool) : vp_nar .boolean (bI_ b) = bI_ b := by cases b <;> decide
theorem bI_0 {b : Bool} (h : bI_ b = 0) : b = false := by
  cases b with
  | false => rfl
  | true => exact absurd h (by decide)
theorem bI_1 {b : Bool} (h : ¬ bI_ b = 0) : b = true := by
  cases b with
  | true => rfl
  | false => exact absurd rfl h
/-- a method link: what a call of y by the pool's index needs of the tables -/
def ah_L (own : String) (index : Nat) (y : MethodName) (bytes : ByteArray) (maxL : Nat) (ret : Option FieldType) (n : Nat) (lk : Cond) : Prop :=
  lk ∈ ah_T ∧ Cond.initialized y.cls ∈ ah_T ∧ Cond.code y bytes maxL ret ∈ ah_T ∧ y.cls ≠ "java/lang/invoke/MethodHandle" ∧ y.cls ≠ "java/lang/invoke/VarHandle" ∧ (parseMethodDescriptor y.desc).map (fun d => d.parameters.length) = some n
theorem ah_pay {args : Array Value} {s : State} {y : MethodName} {bytes : ByteArray} {maxL : Nat} {ret : Option FieldType} (ht : ∀ w ∈ ah_T, w.before args s = true) (hc : Cond.code y bytes maxL ret ∈ ah_T) : ∀ w ∈ Cond.code y bytes maxL ret :: ah_T, ∀ (a' : Array Value) (U : State), s.WarmedH U.vm → w.before a' U = true := by
  intro w hw a' U hW
  rcases List.mem_cons.mp hw with e | hw
  · rw [e]; exact ah_tr rfl hW (ht _ hc)
  · exact ah_tr (List.mem_filter.mp hw).2 hW (ht _ hw)
theorem ah_par {y : MethodName} {n : Nat} (h : (parseMethodDescriptor y.desc).map (fun d => d.parameters.length) = some n) : ∀ sig, parseMethodDescriptor y.desc = some sig → n = sig.parameters.length := by
  intro sig h1
  rw [h1] at h
  exact (Option.some.inj h).symm
section AHC
variable {p : Program} {l : Launch} {e : Env} {R : Room} {s : State} {m : MethodId} {args : Array Value} {below : List Frame} {meth : Method} {c : Code} {H : Heap} {locs : List Loc} {cells slots : Nat} {Q : State → Prop}
variable {cc bytes : ByteArray} {pc nL index maxL n mc ms : Nat} {ls : Array Slot} {rest As st0 : List Value} {D : ah_G} {A : Nat → Prop} {b : Nat} {F : ah_F} {own host : String} {y : MethodName} {ret : Option FieldType} {rm : Room} {Qc : Array Value → State → Outcome → State → Prop} {XC : String → State → State → Prop}
theorem ah_fix (E : ah_E A D p s m args meth c own cc nL) : CallFix p m c cc nL s args ah_T own := ⟨E.1, E.2.1, E.2.2.1, E.2.2.2.1, E.2.2.2.2.1⟩
theorem ah_pre (E : ah_E A D p s m args meth c own cc nL) (hP : ah_K A D F H) (hS : va_S A s.heap H locs) {av : List Value} (U : State) (hU : U.heap = H) (hW : s.WarmedH U.vm) : va_Pc av (ah_B A D F) av.toArray U :=
  ⟨rfl, E.2.2.2.2.2.2.1.call hS hU hW, by rw [hU]; exact hP, fun q hq => E.2.2.2.2.2.2.2 q (Nat.le_trans hS.1 (by rw [← hU]; exact hq))⟩
theorem ah_cb (E : ah_E A D p s m args meth c own cc nL) (hL : ah_L own index y bytes maxL ret n (.methodLink own index y)) (hR : rm.cells = mc ∧ rm.slots = ms ∧ rm.frames + 1 ≤ R.frames ∧ 8 + (maxL + 11) + rm.locals ≤ R.locals) : CallB R s args own index y bytes maxL ret (Cond.code y bytes maxL ret :: ah_T) rm mc ms n := by
  have hts := E.2.2.2.2.1
  obtain ⟨h1, h2, h3, h4, h5, h6⟩ := hL
  exact ⟨hR.1, hR.2.1, hR.2.2.1, hR.2.2.2, ah_pay hts h3, List.mem_cons_self, hts _ h3, hts _ h2, ⟨h4, h5⟩, ah_par h6, hts _ h1⟩
theorem ah_cn (E : ah_E A D p s m args meth c own cc nL) (hL : ah_L own index y bytes maxL ret n (.methodLinkNest own index y host)) (hR : rm.cells = mc ∧ rm.slots = ms ∧ rm.frames + 1 ≤ R.frames ∧ 8 + (maxL + 11) + rm.locals ≤ R.locals) : va_CN R s args own index y host bytes maxL ret (Cond.code y bytes maxL ret :: ah_T) rm mc ms n := by
  have hts := E.2.2.2.2.1
  obtain ⟨h1, h2, h3, h4, h5, h6⟩ := hL
  exact ⟨⟨hR.1, hR.2.1, hR.2.2.1, hR.2.2.2, ah_pay hts h3, List.mem_cons_self⟩, hts _ h3, hts _ h2, ⟨h4, h5⟩, ah_par h6, hts _ h1⟩
theorem ah_cell (E : ah_E A D p s m args meth c own cc nL) (hP : ah_K A D F H) {ci N : Nat} {fs : List Value} {C : String} {Tt : u_T} (hb : F b = some (.inr (ci, fs))) (hc : vwCl[ci]? = some (C, Tt, N)) : ∃ cellB : Cell, H[b]? = some cellB ∧ cellB.vm.isStatics = false ∧ s.vm.findClass C = some cellB.cls :=
  va_recv (D := D.1) (q0 := 0) E.2.2.2.2.2.2.1.1 (hP.one hb) hc rfl
/-- the run of a virtual call, of a nest mate's, of a static one, of a constructor -/
theorem ah_runV (E : ah_E A D p s m args meth c own cc nL) (hP : ah_K A D F H) (hS : va_S A s.heap H locs) (hM : Met l y (Cond.code y bytes maxL ret :: ah_T) rm (va_Pc (.ref b :: As) (ah_B A D F)) Qc mc ms A) (hL : ah_L own index y bytes maxL ret n (.methodLink own index y)) (hi : Cond.instanceMethod y ∈ ah_T ∧ Cond.selects y.cls y y ∈ ah_T) {ci N : Nat} {fs : List Value} {Tt : u_T} (hb : F b = some (.inr (ci, fs))) (hc : vwCl[ci]? = some (y.cls, Tt, N)) (hR : rm.cells = mc ∧ rm.slots = ms ∧ rm.frames + 1 ≤ R.frames ∧ 8 + (maxL + 11) + rm.locals ≤ R.locals)
    (hn : As.length = n) (hsize : ls.size = nL) (hstack : st0 = As.reverse ++ .ref b :: rest) (hW : (rest.map fun v => v.category).sum ≤ 8) (hdg : decode cc pc = .ok (.invokevirtual index, 3)) (hf : cells + mc ≤ R.cells ∧ slots + ms ≤ R.slots) :
    va_Run p l e R s m args below meth c H locs cells slots mc ms (F0 m pc ls st0) rest (Qc (Value.ref b :: As).toArray) A :=
  va_runV (C := y.cls) (As := As) (rest := rest) (ah_fix E) hM ⟨ah_cb E hL hR, E.2.2.2.2.1 _ hi.1, E.2.2.2.2.1 _ hi.2⟩ ⟨ah_blind, ah_cell E hP hb hc, fun U hU hW => ah_pre E hP hS U hU hW⟩ rfl hn hsize hstack (lv_room hW) hdg hf
theorem ah_runVN (E : ah_E A D p s m args meth c own cc nL) (hP : ah_K A D F H) (hS : va_S A s.heap H locs) (hM : Met l y (Cond.code y bytes maxL ret :: ah_T) rm (va_Pc (.ref b :: As) (ah_B A D F)) Qc mc ms A) (hL : ah_L own index y bytes maxL ret n (.methodLinkNest own index y host)) (hi : Cond.instanceMethod y ∈ ah_T ∧ Cond.selects y.cls y y ∈ ah_T) {ci N : Nat} {fs : List Value} {Tt : u_T} (hb : F b = some (.inr (ci, fs))) (hc : vwCl[ci]? = some (y.cls, Tt, N)) (hR : rm.cells = mc ∧ rm.slots = ms ∧ rm.frames + 1 ≤ R.frames ∧ 8 + (maxL + 11) + rm.locals ≤ R.locals)
    (hn : As.length = n) (hsize : ls.size = nL) (hstack : st0 = As.reverse ++ .ref b :: rest) (hW : (rest.map fun v => v.category).sum ≤ 8) (hdg : decode cc pc = .ok (.invokevirtual index, 3)) (hf : cells + mc ≤ R.cells ∧ slots + ms ≤ R.slots) :
    va_Run p l e R s m args below meth c H locs cells slots mc ms (F0 m pc ls st0) rest (Qc (Value.ref b :: As).toArray) A :=
  va_runVN (C := y.cls) (As := As) (rest := rest) (ah_fix E) hM ⟨ah_cn E hL hR, E.2.2.2.2.1 _ hi.1, E.2.2.2.2.1 _ hi.2⟩ ⟨ah_blind, ah_cell E hP hb hc, fun U hU hW => ah_pre E hP hS U hU hW⟩ rfl hn hsize hstack (lv_room hW) hdg hf
theorem ah_runS (E : ah_E A D p s m args meth c own cc nL) (hP : ah_K A D F H) (hS : va_S A s.heap H locs) (hM : Met l y (Cond.code y bytes maxL ret :: ah_T) rm (va_Pc As (ah_B A D F)) Qc mc ms A) (hL : ah_L own index y bytes maxL ret n (.methodLink own index y)) (hi : Cond.static y ∈ ah_T) (hR : rm.cells = mc ∧ rm.slots = ms ∧ rm.frames + 1 ≤ R.frames ∧ 8 + (maxL + 11) + rm.locals ≤ R.locals)
    (hn : As.length = n) (hsize : ls.size = nL) (hstack : st0 = As.reverse ++ rest) (hW : (rest.map fun v => v.category).sum ≤ 8) (hdg : decode cc pc = .ok (.invokestatic index, 3)) (hf : cells + mc ≤ R.cells ∧ slots + ms ≤ R.slots) :
    va_Run p l e R s m args below meth c H locs cells slots mc ms (F0 m pc ls st0) rest (Qc As.toArray) A :=
  va_runS (As := As) (rest := rest) (ah_fix E) hM ⟨ah_cb E hL hR, E.2.2.2.2.1 _ hi⟩ ⟨ah_blind, fun U hU hW => ah_pre E hP hS U hU hW⟩ rfl hn hsize hstack (lv_room hW) hdg hf
theorem ah_runSN (E : ah_E A D p s m args meth c own cc nL) (hP : ah_K A D F H) (hS : va_S A s.heap H locs) (hM : Met l y (Cond.code y bytes maxL ret :: ah_T) rm (va_Pc As (ah_B A D F)) Qc mc ms A) (hL : ah_L own index y bytes maxL ret n (.methodLinkNest own index y host)) (hi : Cond.static y ∈ ah_T) (hR : rm.cells = mc ∧ rm.slots = ms ∧ rm.frames + 1 ≤ R.frames ∧ 8 + (maxL + 11) + rm.locals ≤ R.locals)
    (hn : As.length = n) (hsize : ls.size = nL) (hstack : st0 = As.reverse ++ rest) (hW : (rest.map fun v => v.category).sum ≤ 8) (hdg : decode cc pc = .ok (.invokestatic index, 3)) (hf : cells + mc ≤ R.cells ∧ slots + ms ≤ R.slots) :
    va_Run p l e R s m args below meth c H locs cells slots mc ms (F0 m pc ls st0) rest (Qc As.toArray) A :=
  va_runSN (As := As) (rest := rest) (ah_fix E) hM ⟨ah_cn E hL hR, E.2.2.2.2.1 _ hi, trivial⟩ ⟨ah_blind, fun U hU hW => ah_pre E hP hS U hU hW⟩ rfl hn hsize hstack (lv_room hW) hdg hf
theorem ah_runI (E : ah_E A D p s m args meth c own cc nL) (hP : ah_K A D F H) (hS : va_S A s.heap H locs) (hM : Met l y (Cond.code y bytes maxL none :: ah_T) rm (va_Pc (.ref b :: As) (ah_B A D F)) Qc mc ms A) (hL : ah_L own index y bytes maxL none n (.methodLink own index y)) (hi : y.name = "<init>" ∧ Cond.instanceMethod y ∈ ah_T) (hR : rm.cells = mc ∧ rm.slots = ms ∧ rm.frames + 1 ≤ R.frames ∧ 8 + (maxL + 11) + rm.locals ≤ R.locals)
    (hn : As.length = n) (hsize : ls.size = nL) (hstack : st0 = As.reverse ++ .ref b :: rest) (hW : (rest.map fun v => v.category).sum ≤ 8) (hdg : decode cc pc = .ok (.invokespecial index, 3)) (hf : cells + mc ≤ R.cells ∧ slots + ms ≤ R.slots) :
    va_Run p l e R s m args below meth c H locs cells slots mc ms (F0 m pc ls st0) rest (Qc (Value.ref b :: As).toArray) A :=
  va_runI (As := As) (rest := rest) (ah_fix E) hM ⟨ah_cb E hL hR, hi.1, E.2.2.2.2.1 _ hi.2⟩ ⟨ah_blind, fun U hU hW => ah_pre E hP hS U hU hW⟩ rfl hn hsize hstack (lv_room hW) hdg hf
/-! the same for a callee that may throw -/
theorem ah_xrunV (E : ah_E A D p s m args meth c own cc nL) (hP : ah_K A D F H) (hS : va_S A s.heap H locs) (hM : vx_Met l y (Cond.code y bytes maxL ret :: ah_T) rm (va_Pc (.ref b :: As) (ah_B A D F)) Qc XC mc ms A) (hL : ah_L own index y bytes maxL ret n (.methodLink own index y)) (hi : Cond.instanceMethod y ∈ ah_T ∧ Cond.selects y.cls y y ∈ ah_T) {ci N : Nat} {fs : List Value} {Tt : u_T} (hb : F b = some (.inr (ci, fs))) (hc : vwCl[ci]? = some (y.cls, Tt, N)) (hR : rm.cells = mc ∧ rm.slots = ms ∧ rm.frames + 1 ≤ R.frames ∧ 8 + (maxL + 11) + rm.locals ≤ R.locals)
    (hn : As.length = n) (hsize : ls.size = nL) (hstack : st0 = As.reverse ++ .ref b :: rest) (hW : (rest.map fun v => v.category).sum ≤ 8) (hdg : decode cc pc = .ok (.invokevirtual index, 3)) (hf : cells + mc ≤ R.cells ∧ slots + ms ≤ R.slots) :
    vx_Run p l e R s m args below meth c H locs cells slots mc ms (F0 m pc ls st0) rest (Qc (Value.ref b :: As).toArray) XC A :=
  vx_runV (C := y.cls) (As := As) (rest := rest) (ah_fix E) hM ⟨ah_cb E hL hR, E.2.2.2.2.1 _ hi.1, E.2.2.2.2.1 _ hi.2⟩ ⟨ah_blind, ah_cell E hP hb hc, fun U hU hW => ah_pre E hP hS U hU hW⟩ rfl hn hsize hstack (lv_room hW) hdg hf
theorem ah_xrunS (E : ah_E A D p s m args meth c own cc nL) (hP : ah_K A D F H) (hS : va_S A s.heap H locs) (hM : vx_Met l y (Cond.code y bytes maxL ret :: ah_T) rm (va_Pc As (ah_B A D F)) Qc XC mc ms A) (hL : ah_L own index y bytes maxL ret n (.methodLink own index y)) (hi : Cond.static y ∈ ah_T) (hR : rm.cells = mc ∧ rm.slots = ms ∧ rm.frames + 1 ≤ R.frames ∧ 8 + (maxL + 11) + rm.locals ≤ R.locals)
    (hn : As.length = n) (hsize : ls.size = nL) (hstack : st0 = As.reverse ++ rest) (hW : (rest.map fun v => v.category).sum ≤ 8) (hdg : decode cc pc = .ok (.invokestatic index, 3)) (hf : cells + mc ≤ R.cells ∧ slots + ms ≤ R.slots) :
    vx_Run p l e R s m args below meth c H locs cells slots mc ms (F0 m pc ls st0) rest (Qc As.toArray) XC A :=
  vx_runS (As := As) (rest := rest) (ah_fix E) hM ⟨ah_cb E hL hR, E.2.2.2.2.1 _ hi⟩ ⟨ah_blind, fun U hU hW => ah_pre E hP hS U hU hW⟩ rfl hn hsize hstack (lv_room hW) hdg hf
/-- what a method leaves: the new world -/
abbrev ah_P (A : Nat → Prop) (D : ah_G) : ah_F → State → Prop := fun F1 t => ah_K A D F1 t.heap
abbrev ah_Qi (A : Nat → Prop) (D : ah_G) (post : Int32 → ah_F → Prop) : Array Value → State → Outcome → State → Prop := va_Qi post (ah_P A D) A
abbrev ah_Ql (A : Nat → Prop) (D : ah_G) (post : Int64 → ah_F → Prop) : Array Value → State → Outcome → State → Prop := va_Ql post (ah_P A D) A
abbrev ah_Qq (A : Nat → Prop) (D : ah_G) (post : Option Nat → ah_F → Prop) : Array Value → State → Outcome → State → Prop := va_Qq post (ah_P A D) A
abbrev ah_Qv (A : Nat → Prop) (D : ah_G) (post : ah_F → Prop) : Array Value → State → Outcome → State → Prop := va_Qv post (ah_P A D) A
/-- what is left behind a throw: the world as it was, and which class and why -/
abbrev ah_X (A : Nat → Prop) (D : ah_G) (F : ah_F) (px : String → Prop) : String → State → State → Prop := vx_X (S := ah_F) (fun F1 => F1 = F) (fun E F1 t => px E ∧ ah_K A D F1 t.heap) A
theorem ah_calli {post : Int32 → ah_F → Prop} {a : Array Value} (hr : va_Run p l e R s m args below meth c H locs cells slots mc ms (F0 m pc ls st0) rest (ah_Qi A D post a) A) (hS : va_S A s.heap H locs)
    (kk : ∀ (r : Int32) (F1 : ah_F) (H1 : Heap) (locs1 : List Loc), post r F1 → ah_K A D F1 H1 → va_S A s.heap H1 locs1 → W p l e R s m args below meth c H1 locs1 (cells + mc) (slots + ms) Q (F0 m (pc + 3) ls (.int r :: rest))) : W p l e R s m args below meth c H locs cells slots Q (F0 m pc ls st0) :=
  va_calli hr hS (fun _ _ h => h) (fun _ h => h) (fun r F1 t H1 locs1 ht _ hp hK _ _ hS1 => kk r F1 H1 locs1 hp (by rw [← ht]; exact hK) hS1)
theorem ah_calll {post : Int64 → ah_F → Prop} {a : Array Value} (hr : va_Run p l e R s m args below meth c H locs cells slots mc ms (F0 m pc ls st0) rest (ah_Ql A D post a) A) (hS : va_S A s.heap H locs)
    (kk : ∀ (r : Int64) (F1 : ah_F) (H1 : Heap) (locs1 : List Loc), post r F1 → ah_K A D F1 H1 → va_S A s.heap H1 locs1 → W p l e R s m args below meth c H1 locs1 (cells + mc) (slots + ms) Q (F0 m (pc + 3) ls (.long r :: rest))) : W p l e R s m args below meth c H locs cells slots Q (F0 m pc ls st0) :=
  va_calll hr hS (fun _ _ h => h) (fun _ h => h) (fun r F1 t H1 locs1 ht _ hp hK _ _ hS1 => kk r F1 H1 locs1 hp (by rw [← ht]; exact hK) hS1)
theorem ah_callq {post : Option Nat → ah_F → Prop} {a : Array Value} (hr : va_Run p l e R s m args below meth c H locs cells slots mc ms (F0 m pc ls st0) rest (ah_Qq A D post a) A) (hS : va_S A s.heap H locs)
    (kk : ∀ (r : Option Nat) (F1 : ah_F) (H1 : Heap) (locs1 : List Loc), post r F1 → ah_K A D F1 H1 → va_S A s.heap H1 locs1 → W p l e R s m args below meth c H1 locs1 (cells + mc) (slots + ms) Q (F0 m (pc + 3) ls (va_rf r :: rest))) : W p l e R s m args below meth c H locs cells slots Q (F0 m pc ls st0) :=
  va_callq hr hS (fun _ _ h => h) (fun _ h => h) (fun r F1 t H1 locs1 ht _ hp hK _ _ hS1 => kk r F1 H1 locs1 hp (by rw [← ht]; exact hK) hS1)
theorem ah_callv {post : ah_F → Prop} {a : Array Value} (hr : va_Run p l e R s m args below meth c H locs cells slots mc ms (F0 m pc ls st0) rest (ah_Qv A D post a) A) (hS : va_S A s.heap H locs)
    (kk : ∀ (F1 : ah_F) (H1 : Heap) (locs1 : List Loc), post F1 → ah_K A D F1 H1 → va_S A s.heap H1 locs1 → W p l e R s m args below meth c H1 locs1 (cells + mc) (slots + ms) Q (F0 m (pc + 3) ls rest)) : W p l e R s m args below meth c H locs cells slots Q (F0 m pc ls st0) :=
  va_callv hr hS (fun _ _ h => h) (fun _ h => h) (fun F1 t H1 locs1 ht _ hp hK _ _ hS1 => kk F1 H1 locs1 hp (by rw [← ht]; exact hK) hS1)
/-- behind a throw of the callee: the cell thrown, its class -/
def ah_Th (A : Nat → Prop) (D : ah_G) (F : ah_F) (px : String → Prop) (s : State) (E : String) (q : Addr) (H1 : Heap) (locs1 : List Loc) : Prop :=
  px E ∧ ah_K A D F H1 ∧ va_S A s.heap H1 locs1 ∧ ∃ ce : Cell, H1[q]? = some ce ∧ ce.vm = .none ∧ s.vm.findClass E = some ce.cls
theorem ah_xcalli {post : Int32 → ah_F → Prop} {px : String → Prop} {a : Array Value} (hr : vx_Run p l e R s m args below meth c H locs cells slots mc ms (F0 m pc ls st0) rest (ah_Qi A D post a) (ah_X A D F px) A) (hS : va_S A s.heap H locs)
    (kx : ∀ (E : String) (q : Addr) (H1 : Heap) (locs1 : List Loc), ah_Th A D F px s E q H1 locs1 → vx_W p l e R s m args below meth c H1 locs1 (cells + mc) (slots + ms) Q (F0 m pc ls rest) q)
    (kk : ∀ (r : Int32) (F1 : ah_F) (H1 : Heap) (locs1 : List Loc), post r F1 → ah_K A D F1 H1 → va_S A s.heap H1 locs1 → W p l e R s m args below meth c H1 locs1 (cells + mc) (slots + ms) Q (F0 m (pc + 3) ls (.int r :: rest))) : W p l e R s m args below meth c H locs cells slots Q (F0 m pc ls st0) :=
  vx_calli hr hS (fun _ _ h => h) (fun _ h => h) (fun _ _ h => h) (fun E ce q u t H1 locs1 ht _ hu hB _ _ hS1 h1 h2 h3 => kx E q H1 locs1 ⟨hB.1, by rw [← ht, ← hu]; exact hB.2, hS1, ce, h1, h2, h3⟩) (fun r F1 t H1 locs1 ht _ hp hK _ _ hS1 => kk r F1 H1 locs1 hp (by rw [← ht]; exact hK) hS1)
theorem ah_xcallq {post : Option Nat → ah_F → Prop} {px : String → Prop} {a : Array Value} (hr : vx_Run p l e R s m args below meth c H locs cells slots mc ms (F0 m pc ls st0) rest (ah_Qq A D post a) (ah_X A D F px) A) (hS : va_S A s.heap H locs)
    (kx : ∀ (E : String) (q : Addr) (H1 : Heap) (locs1 : List Loc), ah_Th A D F px s E q H1 locs1 → vx_W p l e R s m args below meth c H1 locs1 (cells + mc) (slots + ms) Q (F0 m pc ls rest) q)
    (kk : ∀ (r : Option Nat) (F1 : ah_F) (H1 : Heap) (locs1 : List Loc), post r F1 → ah_K A D F1 H1 → va_S A s.heap H1 locs1 → W p l e R s m args below meth c H1 locs1 (cells + mc) (slots + ms) Q (F0 m (pc + 3) ls (va_rf r :: rest))) : W p l e R s m args below meth c H locs cells slots Q (F0 m pc ls st0) :=
  vx_callq hr hS (fun _ _ h => h) (fun _ h => h) (fun _ _ h => h) (fun E ce q u t H1 locs1 ht _ hu hB _ _ hS1 h1 h2 h3 => kx E q H1 locs1 ⟨hB.1, by rw [← ht, ← hu]; exact hB.2, hS1, ce, h1, h2, h3⟩) (fun r F1 t H1 locs1 ht _ hp hK _ _ hS1 => kk r F1 H1 locs1 hp (by rw [← ht]; exact hK) hS1)
theorem ah_xcallv {post : ah_F → Prop} {px : String → Prop} {a : Array Value} (hr : vx_Run p l e R s m args below meth c H locs cells slots mc ms (F0 m pc ls st0) rest (ah_Qv A D post a) (ah_X A D F px) A) (hS : va_S A s.heap H locs)
    (kx : ∀ (E : String) (q : Addr) (H1 : Heap) (locs1 : List Loc), ah_Th A D F px s E q H1 locs1 → vx_W p l e R s m args below meth c H1 locs1 (cells + mc) (slots + ms) Q (F0 m pc ls rest) q)
    (kk : ∀ (F1 : ah_F) (H1 : Heap) (locs1 : List Loc), post F1 → ah_K A D F1 H1 → va_S A s.heap H1 locs1 → W p l e R s m args below meth c H1 locs1 (cells + mc) (slots + ms) Q (F0 m (pc + 3) ls rest)) : W p l e R s m args below meth c H locs cells slots Q (F0 m pc ls st0) :=
  vx_callv hr hS (fun _ _ h => h) (fun _ h => h) (fun _ _ h => h) (fun E ce q u t H1 locs1 ht _ hu hB _ _ hS1 h1 h2 h3 => kx E q H1 locs1 ⟨hB.1, by rw [← ht, ← hu]; exact hB.2, hS1, ce, h1, h2, h3⟩) (fun F1 t H1 locs1 ht _ hp hK _ _ hS1 => kk F1 H1 locs1 hp (by rw [← ht]; exact hK) hS1)
/-! beginnings -/
theorem ah_met {av : List Value} (hy : plainName y.cls = true) (hown : y.cls = own) (hlen : (lg_sl av).length ≤ maxL)
    (body : ∀ (p : Program) (e : Env) (s : State) (m : MethodId) (below : List Frame) (meth : Method) (c : Code) (ls : Array Slot), ah_E A D p s m av.toArray meth c own bytes maxL → meth.sig.returnType = ret → meth.name = y.name → lv_has ls maxL (lv_args 0 av) → ah_K A D F s.heap → va_S A s.heap s.heap [] → ∀ Q : State → Prop, Q = MQ below Qc av.toArray s mc ms A → W p l e rm s m av.toArray below meth c s.heap [] 0 0 Q (F0 m 0 ls [])) :
    Met l y (Cond.code y bytes maxL ret :: ah_T) rm (va_Pc av (ah_B A D F)) Qc mc ms A := by
  refine Met.ofW (cc := bytes) (maxL := maxL) (ret := ret) hy rfl ?_
  intro p e s m args below meth c s₁ B hml hv
  obtain ⟨rfl, hV, hK, hA⟩ := hv
  have hts := atoms_spec (ws := Cond.code y bytes maxL ret :: ah_T) B.pre
  have hl := lv_entry av (n := maxL) hlen
  rw [lg_entry_eq]
  generalize (lg_sl av ++ List.replicate (maxL - (lg_sl av).length) Slot.unset).toArray = ls at hl ⊢
  exact body p e s m below meth c ls ⟨B.exec, B.bytes, hml, by rw [← hown]; exact findClass_of_methodNamed B.named, fun w hw => hts w (List.mem_cons_of_mem _ hw), B.notSynchronized, hV, hA⟩ B.returns (name_of_methodNamed B.named B.method).1 hl hK va_S.rf _ rfl
theorem ah_xmet {av : List Value} (hy : plainName y.cls = true) (hown : y.cls = own) (hlen : (lg_sl av).length ≤ maxL)
    (body : ∀ (p : Program) (e : Env) (s : State) (m : MethodId) (below : List Frame) (meth : Method) (c : Code) (ls : Array Slot), ah_E A D p s m av.toArray meth c own bytes maxL → meth.sig.returnType = ret → (∀ x ∈ c.exceptionTable.toList, False) → lv_has ls maxL (lv_args 0 av) → ah_K A D F s.heap → va_S A s.heap s.heap [] → ∀ Q : State → Prop, Q = vx_MQ below Qc XC av.toArray s mc ms A → W p l e rm s m av.toArray below meth c s.heap [] 0 0 Q (F0 m 0 ls [])) :
    vx_Met l y (Cond.code y bytes maxL ret :: ah_T) rm (va_Pc av (ah_B A D F)) Qc XC mc ms A := by
  refine vx_ofW (cc := bytes) (maxL := maxL) (ret := ret) hy rfl ?_
  intro p e s m args below meth c s₁ B hml htab hv
  obtain ⟨rfl, hV, hK, hA⟩ := hv
  have hts := atoms_spec (ws := Cond.code y bytes maxL ret :: ah_T) B.pre
  have hl := lv_entry av (n := maxL) hlen
  rw [lg_entry_eq]
  generalize (lg_sl av ++ List.replicate (maxL - (lg_sl av).length) Slot.unset).toArray = ls at hl ⊢
  exact body p e s m below meth c ls ⟨B.exec, B.bytes, hml, by rw [← hown]; exact findClass_of_methodNamed B.named, fun w hw => hts w (List.mem_cons_of_mem _ hw), B.notSynchronized, hV, hA⟩ B.returns htab hl hK va_S.rf _ rfl
/-! ends -/
theorem ah_iret {post : Int32 → ah_F → Prop} {v : Int32} (E : ah_E A D p s m args meth c own cc nL) (hr : meth.sig.returnType = some .int) (hP : ah_K A D F H) (hS : va_S A s.heap H locs) (hq : post v F) (hc : cells ≤ mc) (hs : slots ≤ ms) (hdg : decode cc pc = .ok (.ireturn, 1)) : W p l e R s m args below meth c H locs cells slots (MQ below (ah_Qi A D post) args s mc ms A) (F0 m pc ls [.int v]) :=
  W.widen hc hs (W.iret E.1 E.2.1 hr (fun t ht _ => ⟨⟨v, F, rfl, hq, by show ah_K A D F t.heap; rw [ht]; exact hP⟩, hS.F ht⟩) hS.2.2 hdg E.2.2.2.2.2.1)
theorem ah_zret {post : Int32 → ah_F → Prop} {v : Int32} {ty : FieldType} (E : ah_E A D p s m args meth c own cc nL) (hr : meth.sig.returnType = some ty) (hn : narrow ty (.int v) = .int v) (hP : ah_K A D F H) (hS : va_S A s.heap H locs) (hq : post v F) (hc : cells ≤ mc) (hs : slots ≤ ms) (hdg : decode cc pc = .ok (.ireturn, 1)) : W p l e R s m args below meth c H locs cells slots (MQ below (ah_Qi A D post) args s mc ms A) (F0 m pc ls [.int v]) :=
  W.widen hc hs (W.zret E.1 E.2.1 hr hn (fun t ht _ => ⟨⟨v, F, rfl, hq, by show ah_K A D F t.heap; rw [ht]; exact hP⟩, hS.F ht⟩) hS.2.2 hdg E.2.2.2.2.2.1)
theorem ah_lret {post : Int64 → ah_F → Prop} {v : Int64} (E : ah_E A D p s m args meth c own cc nL) (hr : meth.sig.returnType = some .long) (hP : ah_K A D F H) (hS : va_S A s.heap H locs) (hq : post v F) (hc : cells ≤ mc) (hs : slots ≤ ms) (hdg : decode cc pc = .ok (.lreturn, 1)) : W p l e R s m args below meth c H locs cells slots (MQ below (ah_Ql A D post) args s mc ms A) (F0 m pc ls [.long v]) :=
  W.widen hc hs (W.lret E.1 E.2.1 hr (fun t ht _ => ⟨⟨v, F, rfl, hq, by show ah_K A D F t.heap; rw [ht]; exact hP⟩, hS.F ht⟩) hS.2.2 hdg E.2.2.2.2.2.1)
theorem ah_vret {post : ah_F → Prop} (E : ah_E A D p s m args meth c own cc nL) (hr : meth.sig.returnType = none) (hP : ah_K A D F H) (hS : va_S A s.heap H locs) (hq : post F) (hc : cells ≤ mc) (hs : slots ≤ ms) (hdg : decode cc pc = .ok (.return_, 1)) : W p l e R s m args below meth c H locs cells slots (MQ below (ah_Qv A D post) args s mc ms A) (F0 m pc ls []) :=
  W.widen hc hs (W.vret E.1 E.2.1 hr (fun t ht _ => ⟨⟨F, rfl, hq, by show ah_K A D F t.heap; rw [ht]; exact hP⟩, hS.F ht⟩) hS.2.2 hdg E.2.2.2.2.2.1)
theorem ah_qret {post : Option Nat → ah_F → Prop} {v : Option Nat} {C : String} (E : ah_E A D p s m args meth c own cc nL) (hr : meth.sig.returnType = some (.object C)) (hP : ah_K A D F H) (hS : va_S A s.heap H locs) (hq : post v F) (hc : cells ≤ mc) (hs : slots ≤ ms) (hdg : decode cc pc = .ok (.areturn, 1)) : W p l e R s m args below meth c H locs cells slots (MQ below (ah_Qq A D post) args s mc ms A) (F0 m pc ls [va_rf v]) :=
  W.widen hc hs (W.aret E.1 E.2.1 hr (Or.inl ⟨C, rfl⟩) (va_rf_or v) (fun t ht _ => ⟨⟨v, F, rfl, hq, by show ah_K A D F t.heap; rw [ht]; exact hP⟩, hS.F ht⟩) hS.2.2 hdg E.2.2.2.2.2.1)
/-- a throw of the callee goes on to the caller -/
theorem ah_xout {px px' : String → Prop} {E0 : String} {q : Addr} (E : ah_E A D p s m args meth c own cc nL) (htab : ∀ x ∈ c.exceptionTable.toList, False) (hT : ah_Th A D F px s E0 q H locs) (hpx : px E0 → px' E0) (hc : cells ≤ mc) (hs : slots ≤ ms) :
    vx_W p l e R s m args below meth c H locs cells slots (vx_MQ below Qc (ah_X A D F px') args s mc ms A) (F0 m pc ls rest) q := by
  obtain ⟨h1, hP, hS, ce, h2, h3, h4⟩ := hT
  exact vx_out (fun x hx => (htab x hx).elim) E.2.2.2.2.2.1 h2 h3 h4 (fun t ht _ => ⟨F, rfl, ⟨hpx h1, by rw [ht]; exact hP⟩, hS.F ht⟩) hS.2.2 hc hs
end AHC
end
section
section AHN
variable {p : Program} {l : Launch} {e : Env} {R : Room} {s : State} {m : MethodId} {args : Array Value} {below : List Frame} {meth : Method} {c : Code} {H : Heap} {locs : List Loc} {cells slots : Nat} {Q : State → Prop}
variable {cc : ByteArray} {pc : Nat} {ls : Array Slot} {rest : List Value}
theorem ah_iadd (hx : p.tables.exec = Jvm.exec) (hb : c.code = cc) {a b : Nat} (hdg : decode cc pc = .ok (.iadd, 1)) (k : W p l e R s m args below meth c H locs cells slots Q (F0 m (pc + 1) ls (.int (nI (a + b)) :: rest))) : W p l e R s m args below meth c H locs cells slots Q (F0 m pc ls (.int (nI b) :: .int (nI a) :: rest)) := lv_iadd hx hb hdg (by rw [nI_add]; exact k)
theorem ah_isub (hx : p.tables.exec = Jvm.exec) (hb : c.code = cc) {a b : Nat} (h : b ≤ a) (hdg : decode cc pc = .ok (.isub, 1)) (k : W p l e R s m args below meth c H locs cells slots Q (F0 m (pc + 1) ls (.int (nI (a - b)) :: rest))) : W p l e R s m args below meth c H locs cells slots Q (F0 m pc ls (.int (nI b) :: .int (nI a) :: rest)) := lv_isub hx hb hdg (by rw [pk_sub h]; exact k)
theorem ah_imul (hx : p.tables.exec = Jvm.exec) (hb : c.code = cc) {a b : Nat} (hdg : decode cc pc = .ok (.imul, 1)) (k : W p l e R s m args below meth c H locs cells slots Q (F0 m (pc + 1) ls (.int (nI (a * b)) :: rest))) : W p l e R s m args below meth c H locs cells slots Q (F0 m pc ls (.int (nI b) :: .int (nI a) :: rest)) := lv_imul hx hb hdg (by rw [pk_mul]; exact k)
theorem ah_inc (x : Nat) : nI x + Int32.ofInt 1 = nI (x + 1) := nI_1 x
theorem ah_dec {x : Nat} (h : 0 < x) : nI x + Int32.ofInt (-1) = nI (x - 1) := sb_m1 h
theorem ah_c (k : Nat) : nI k = Int32.ofNat k := rfl
theorem ah_icmp_lt (hx : p.tables.exec = Jvm.exec) (hb : c.code = cc) {a b : Nat} {off : Int} {tgt : Nat} (ha : a < 2 ^ 31) (hb2 : b < 2 ^ 31) (hdg : decode cc pc = .ok (.if_icmp .lt off, 3)) (ht : (pc : Int) + off = (tgt : Int)) (kt : a < b → W p l e R s m args below meth c H locs cells slots Q (F0 m tgt ls (rest))) (kf : b ≤ a → W p l e R s m args below meth c H locs cells slots Q (F0 m (pc + 3) ls (rest))) : W p l e R s m args below meth c H locs cells slots Q (F0 m pc ls (.int (nI b) :: .int (nI a) :: rest)) := lv_icmp_lt hx hb hdg ht (fun h => kt ((nI_ltI ha hb2).mp h)) (fun h => kf (Nat.not_lt.mp (fun q => h ((nI_ltI ha hb2).mpr q))))
theorem ah_icmp_ge (hx : p.tables.exec = Jvm.exec) (hb : c.code = cc) {a b : Nat} {off : Int} {tgt : Nat} (ha : a < 2 ^ 31) (hb2 : b < 2 ^ 31) (hdg : decode cc pc = .ok (.if_icmp .ge off, 3)) (ht : (pc : Int) + off = (tgt : Int)) (kt : b ≤ a → W p l e R s m args below meth c H locs cells slots Q (F0 m tgt ls (rest))) (kf : a < b → W p l e R s m args below meth c H locs cells slots Q (F0 m (pc + 3) ls (rest))) : W p l e R s m args below meth c H locs cells slots Q (F0 m pc ls (.int (nI b) :: .int (nI a) :: rest)) := lv_icmp_ge hx hb hdg ht (fun h => kt ((nI_leI hb2 ha).mp h)) (fun h => kf (Nat.not_le.mp (fun q => h ((nI_leI hb2 ha).mpr q))))
theorem ah_icmp_gt (hx : p.tables.exec = Jvm.exec) (hb : c.code = cc) {a b : Nat} {off : Int} {tgt : Nat} (ha : a < 2 ^ 31) (hb2 : b < 2 ^ 31) (hdg : decode cc pc = .ok (.if_icmp .gt off, 3)) (ht : (pc : Int) + off = (tgt : Int)) (kt : b < a → W p l e R s m args below meth c H locs cells slots Q (F0 m tgt ls (rest))) (kf : a ≤ b → W p l e R s m args below meth c H locs cells slots Q (F0 m (pc + 3) ls (rest))) : W p l e R s m args below meth c H locs cells slots Q (F0 m pc ls (.int (nI b) :: .int (nI a) :: rest)) := lv_icmp_gt hx hb hdg ht (fun h => kt ((nI_ltI hb2 ha).mp h)) (fun h => kf (Nat.not_lt.mp (fun q => h ((nI_ltI hb2 ha).mpr q))))
theorem ah_icmp_le (hx : p.tables.exec = Jvm.exec) (hb : c.code = cc) {a b : Nat} {off : Int} {tgt : Nat} (ha : a < 2 ^ 31) (hb2 : b < 2 ^ 31) (hdg : decode cc pc = .ok (.if_icmp .le off, 3)) (ht : (pc : Int) + off = (tgt : Int)) (kt : a ≤ b → W p l e R s m args below meth c H locs cells slots Q (F0 m tgt ls (rest))) (kf : b < a → W p l e R s m args below meth c H locs cells slots Q (F0 m (pc + 3) ls (rest))) : W p l e R s m args below meth c H locs cells slots Q (F0 m pc ls (.int (nI b) :: .int (nI a) :: rest)) := lv_icmp_le hx hb hdg ht (fun h => kt ((nI_leI ha hb2).mp h)) (fun h => kf (Nat.not_le.mp (fun q => h ((nI_leI ha hb2).mpr q))))
theorem ah_icmp_eq (hx : p.tables.exec = Jvm.exec) (hb : c.code = cc) {a b : Nat} {off : Int} {tgt : Nat} (ha : a < 2 ^ 31) (hb2 : b < 2 ^ 31) (hdg : decode cc pc = .ok (.if_icmp .eq off, 3)) (ht : (pc : Int) + off = (tgt : Int)) (kt : a = b → W p l e R s m args below meth c H locs cells slots Q (F0 m tgt ls (rest))) (kf : a ≠ b → W p l e R s m args below meth c H locs cells slots Q (F0 m (pc + 3) ls (rest))) : W p l e R s m args below meth c H locs cells slots Q (F0 m pc ls (.int (nI b) :: .int (nI a) :: rest)) := lv_icmp_eq hx hb hdg ht (fun h => kt ((nI_eq ha hb2).mp h)) (fun h => kf (fun q => h ((nI_eq ha hb2).mpr q)))
theorem ah_icmp_ne (hx : p.tables.exec = Jvm.exec) (hb : c.code = cc) {a b : Nat} {off : Int} {tgt : Nat} (ha : a < 2 ^ 31) (hb2 : b < 2 ^ 31) (hdg : decode cc pc = .ok (.if_icmp .ne off, 3)) (ht : (pc : Int) + off = (tgt : Int)) (kt : a ≠ b → W p l e R s m args below meth c H locs cells slots Q (F0 m tgt ls (rest))) (kf : a = b → W p l e R s m args below meth c H locs cells slots Q (F0 m (pc + 3) ls (rest))) : W p l e R s m args below meth c H locs cells slots Q (F0 m pc ls (.int (nI b) :: .int (nI a) :: rest)) := lv_icmp_ne hx hb hdg ht (fun h => kt (fun q => h ((nI_eq ha hb2).mpr q))) (fun h => kf ((nI_eq ha hb2).mp h))
theorem ah_z0 {a : Nat} (ha : a < 2 ^ 31) : nI a = 0 ↔ a = 0 := nI_eq (b := 0) ha (by omega)
theorem ah_if_eq (hx : p.tables.exec = Jvm.exec) (hb : c.code = cc) {a : Nat} {off : Int} {tgt : Nat} (ha : a < 2 ^ 31) (hdg : decode cc pc = .ok (.ifCond .eq off, 3)) (ht : (pc : Int) + off = (tgt : Int)) (kt : a = 0 → W p l e R s m args below meth c H locs cells slots Q (F0 m tgt ls (rest))) (kf : 0 < a → W p l e R s m args below meth c H locs cells slots Q (F0 m (pc + 3) ls (rest))) : W p l e R s m args below meth c H locs cells slots Q (F0 m pc ls (.int (nI a) :: rest)) := lv_if_eq hx hb hdg ht (fun h => kt ((ah_z0 ha).mp h)) (fun h => kf (Nat.pos_of_ne_zero (fun q => h ((ah_z0 ha).mpr q))))
theorem ah_if_ne (hx : p.tables.exec = Jvm.exec) (hb : c.code = cc) {a : Nat} {off : Int} {tgt : Nat} (ha : a < 2 ^ 31) (hdg : decode cc pc = .ok (.ifCond .ne off, 3)) (ht : (pc : Int) + off = (tgt : Int)) (kt : 0 < a → W p l e R s m args below meth c H locs cells slots Q (F0 m tgt ls (rest))) (kf : a = 0 → W p l e R s m args below meth c H locs cells slots Q (F0 m (pc + 3) ls (rest))) : W p l e R s m args below meth c H locs cells slots Q (F0 m pc ls (.int (nI a) :: rest)) := lv_if_ne hx hb hdg ht (fun h => kt (Nat.pos_of_ne_zero (fun q => h ((ah_z0 ha).mpr q)))) (fun h => kf ((ah_z0 ha).mp h))
theorem ah_if_gt (hx : p.tables.exec = Jvm.exec) (hb : c.code = cc) {a : Nat} {off : Int} {tgt : Nat} (ha : a < 2 ^ 31) (hdg : decode cc pc = .ok (.ifCond .gt off, 3)) (ht : (pc : Int) + off = (tgt : Int)) (kt : 0 < a → W p l e R s m args below meth c H locs cells slots Q (F0 m tgt ls (rest))) (kf : a = 0 → W p l e R s m args below meth c H locs cells slots Q (F0 m (pc + 3) ls (rest))) : W p l e R s m args below meth c H locs cells slots Q (F0 m pc ls (.int (nI a) :: rest)) := lv_if_gt hx hb hdg ht (fun h => kt (Nat.pos_of_ne_zero (fun q => by subst q; exact absurd h (by decide)))) (fun h => kf (Nat.eq_zero_of_not_pos (fun q => h (by rw [Int32.lt_iff_toInt_lt, nI_toInt ha, Int32.toInt_zero]; omega))))
theorem ah_if_le (hx : p.tables.exec = Jvm.exec) (hb : c.code = cc) {a : Nat} {off : Int} {tgt : Nat} (ha : a < 2 ^ 31) (hdg : decode cc pc = .ok (.ifCond .le off, 3)) (ht : (pc : Int) + off = (tgt : Int)) (kt : a = 0 → W p l e R s m args below meth c H locs cells slots Q (F0 m tgt ls (rest))) (kf : 0 < a → W p l e R s m args below meth c H locs cells slots Q (F0 m (pc + 3) ls (rest))) : W p l e R s m args below meth c H locs cells slots Q (F0 m pc ls (.int (nI a) :: rest)) := lv_if_le hx hb hdg ht (fun h => kt (Nat.eq_zero_of_not_pos (fun q => nI_nle q ha h))) (fun h => kf (Nat.pos_of_ne_zero (fun q => by subst q; exact h (by decide))))
theorem ah_if_lt (hx : p.tables.exec = Jvm.exec) (hb : c.code = cc) {a : Nat} {off : Int} {tgt : Nat} (ha : a < 2 ^ 31) (hdg : decode cc pc = .ok (.ifCond .lt off, 3)) (ht : (pc : Int) + off = (tgt : Int)) (k : W p l e R s m args below meth c H locs cells slots Q (F0 m (pc + 3) ls (rest))) : W p l e R s m args below meth c H locs cells slots Q (F0 m pc ls (.int (nI a) :: rest)) := lv_if_lt hx hb hdg ht (fun h => absurd h (nI_pos ha)) (fun _ => k)
theorem ah_if_ge (hx : p.tables.exec = Jvm.exec) (hb : c.code = cc) {a : Nat} {off : Int} {tgt : Nat} (ha : a < 2 ^ 31) (hdg : decode cc pc = .ok (.ifCond .ge off, 3)) (ht : (pc : Int) + off = (tgt : Int)) (k : W p l e R s m args below meth c H locs cells slots Q (F0 m tgt ls (rest))) : W p l e R s m args below meth c H locs cells slots Q (F0 m pc ls (.int (nI a) :: rest)) := lv_if_ge hx hb hdg ht (fun _ => k) (fun h => absurd (nI_pos' ha) h)
theorem ah_ifb_eq (hx : p.tables.exec = Jvm.exec) (hb : c.code = cc) {a : Bool} {off : Int} {tgt : Nat} (hdg : decode cc pc = .ok (.ifCond .eq off, 3)) (ht : (pc : Int) + off = (tgt : Int)) (kt : a = false → W p l e R s m args below meth c H locs cells slots Q (F0 m tgt ls (rest))) (kf : a = true → W p l e R s m args below meth c H locs cells slots Q (F0 m (pc + 3) ls (rest))) : W p l e R s m args below meth c H locs cells slots Q (F0 m pc ls (.int (bI_ a) :: rest)) := lv_if_eq hx hb hdg ht (fun h => kt (bI_0 h)) (fun h => kf (bI_1 h))
theorem ah_ifb_ne (hx : p.tables.exec = Jvm.exec) (hb : c.code = cc) {a : Bool} {off : Int} {tgt : Nat} (hdg : decode cc pc = .ok (.ifCond .ne off, 3)) (ht : (pc : Int) + off = (tgt : Int)) (kt : a = true → W p l e R s m args below meth c H locs cells slots Q (F0 m tgt ls (rest))) (kf : a = false → W p l e R s m args below meth c H locs cells slots Q (F0 m (pc + 3) ls (rest))) : W p l e R s m args below meth c H locs cells slots Q (F0 m pc ls (.int (bI_ a) :: rest)) := lv_if_ne hx hb hdg ht (fun h => kt (bI_1 h)) (fun h => kf (bI_0 h))
end AHN
end
section
theorem inT_0 : ∀ w ∈ u_ws RX0 TX0 3, w ∈ ah_T := by
  intro w hw
  obtain ⟨k, hk, rfl⟩ := List.mem_map.mp hw
  have h := List.mem_range.mp hk
  rcases (show k = 0 ∨ k = 1 ∨ k = 2 by omega) with rfl | rfl | rfl
  · exact (ah_in 37 (by decide +kernel) rfl)
  · exact (ah_in 39 (by decide +kernel) rfl)
  · exact (ah_in 41 (by decide +kernel) rfl)
theorem inT_1 : ∀ w ∈ u_ws RX1 TX1 3, w ∈ ah_T := by
  intro w hw
  obtain ⟨k, hk, rfl⟩ := List.mem_map.mp hw
  have h := List.mem_range.mp hk
  rcases (show k = 0 ∨ k = 1 ∨ k = 2 by omega) with rfl | rfl | rfl
  · exact (ah_in 72 (by decide +kernel) rfl)
  · exact (ah_in 74 (by decide +kernel) rfl)
  · exact (ah_in 76 (by decide +kernel) rfl)
theorem inT_2 : ∀ w ∈ u_ws RX2 TX2 3, w ∈ ah_T := by
  intro w hw
  obtain ⟨k, hk, rfl⟩ := List.mem_map.mp hw
  have h := List.mem_range.mp hk
  rcases (show k = 0 ∨ k = 1 ∨ k = 2 by omega) with rfl | rfl | rfl
  · exact (ah_in 414 (by decide +kernel) rfl)
  · exact (ah_in 416 (by decide +kernel) rfl)
  · exact (ah_in 418 (by decide +kernel) rfl)
theorem inT_3 : ∀ w ∈ u_ws RX3 TX3 2, w ∈ ah_T := by
  intro w hw
  obtain ⟨k, hk, rfl⟩ := List.mem_map.mp hw
  have h := List.mem_range.mp hk
  rcases (show k = 0 ∨ k = 1 by omega) with rfl | rfl
  · exact (ah_in 55 (by decide +kernel) rfl)
  · exact (ah_in 57 (by decide +kernel) rfl)
theorem inT_4 : ∀ w ∈ u_ws RX4 TX4 2, w ∈ ah_T := by
  intro w hw
  obtain ⟨k, hk, rfl⟩ := List.mem_map.mp hw
  have h := List.mem_range.mp hk
  rcases (show k = 0 ∨ k = 1 by omega) with rfl | rfl
  · exact (ah_in 89 (by decide +kernel) rfl)
  · exact (ah_in 91 (by decide +kernel) rfl)
theorem inT_5 : ∀ w ∈ u_ws RX5 TX5 2, w ∈ ah_T := by
  intro w hw
  obtain ⟨k, hk, rfl⟩ := List.mem_map.mp hw
  have h := List.mem_range.mp hk
  rcases (show k = 0 ∨ k = 1 by omega) with rfl | rfl
  · exact (ah_in 111 (by decide +kernel) rfl)
  · exact (ah_in 113 (by decide +kernel) rfl)
theorem inT_6 : ∀ w ∈ u_ws RX6 TX6 6, w ∈ ah_T := by
  intro w hw
  obtain ⟨k, hk, rfl⟩ := List.mem_map.mp hw
  have h := List.mem_range.mp hk
  rcases (show k = 0 ∨ k = 1 ∨ k = 2 ∨ k = 3 ∨ k = 4 ∨ k = 5 by omega) with rfl | rfl | rfl | rfl | rfl | rfl
  · exact (ah_in 122 (by decide +kernel) rfl)
  · exact (ah_in 124 (by decide +kernel) rfl)
  · exact (ah_in 126 (by decide +kernel) rfl)
  · exact (ah_in 128 (by decide +kernel) rfl)
  · exact (ah_in 130 (by decide +kernel) rfl)
  · exact (ah_in 132 (by decide +kernel) rfl)
theorem inT_7 : ∀ w ∈ u_ws RX7 TX7 14, w ∈ ah_T := by
  intro w hw
  obtain ⟨k, hk, rfl⟩ := List.mem_map.mp hw
  have h := List.mem_range.mp hk
  rcases (show k = 0 ∨ k = 1 ∨ k = 2 ∨ k = 3 ∨ k = 4 ∨ k = 5 ∨ k = 6 ∨ k = 7 ∨ k = 8 ∨ k = 9 ∨ k = 10 ∨ k = 11 ∨ k = 12 ∨ k = 13 by omega) with rfl | rfl | rfl | rfl | rfl | rfl | rfl | rfl | rfl | rfl | rfl | rfl | rfl | rfl
  · exact (ah_in 678 (by decide +kernel) rfl)
  · exact (ah_in 680 (by decide +kernel) rfl)
  · exact (ah_in 682 (by decide +kernel) rfl)
  · exact (ah_in 684 (by decide +kernel) rfl)
  · exact (ah_in 686 (by decide +kernel) rfl)
  · exact (ah_in 688 (by decide +kernel) rfl)
  · exact (ah_in 690 (by decide +kernel) rfl)
  · exact (ah_in 692 (by decide +kernel) rfl)
  · exact (ah_in 694 (by decide +kernel) rfl)
  · exact (ah_in 696 (by decide +kernel) rfl)
  · exact (ah_in 698 (by decide +kernel) rfl)
  · exact (ah_in 700 (by decide +kernel) rfl)
  · exact (ah_in 702 (by decide +kernel) rfl)
  · exact (ah_in 704 (by decide +kernel) rfl)
theorem ah_maxI {x y : Nat} (hx : x < 2 ^ 31) (hy : y < 2 ^ 31) : (if nI x < nI y then nI y else nI x) = nI (max x y) := by
  by_cases h : x < y
  · rw [if_pos ((nI_ltI hx hy).mpr h), Nat.max_eq_right (by omega)]
  · rw [if_neg (fun q => h ((nI_ltI hx hy).mp q)), Nat.max_eq_left (by omega)]
theorem ah_minI {x y : Nat} (hx : x < 2 ^ 31) (hy : y < 2 ^ 31) : (if nI y < nI x then nI y else nI x) = nI (min x y) := by
  by_cases h : y < x
  · rw [if_pos ((nI_ltI hy hx).mpr h), Nat.min_eq_right (by omega)]
  · rw [if_neg (fun q => h ((nI_ltI hy hx).mp q)), Nat.min_eq_left (by omega)]
section AHL
variable {p : Program} {l : Launch} {e : Env} {R : Room} {s : State} {m : MethodId} {args : Array Value} {below : List Frame} {meth : Method} {c : Code} {H : Heap} {locs : List Loc} {cells slots : Nat} {Q : State → Prop}
variable {cc : ByteArray} {pc nL : Nat} {ls : Array Slot} {rest : List Value} {D : ah_G} {A : Nat → Prop} {a : Nat} {F : ah_F}
theorem gf_Aho_10 (E : ah_E A D p s m args meth c "Ahoarch" cc nL) (hP : ah_K A D F H) {fs : List Value} (hF : F a = some (.inr (6, fs))) {v : Value} (hv : fs[0]? = some v) (hdg : decode cc pc = .ok (.getfield 10, 3)) (kk : W p l e R s m args below meth c H locs cells slots Q (F0 m (pc + 3) ls (v :: rest))) : W p l e R s m args below meth c H locs cells slots Q (F0 m pc ls (.ref a :: rest)) := ah_get E hP hF rfl inT_6 0 (by decide) (ah_in 116 (by decide +kernel) rfl) rfl hv hdg kk
theorem pf_Aho_10 (E : ah_E A D p s m args meth c "Ahoarch" cc nL) (hini : meth.name = "<init>") (hP : ah_K A D F H) (hS : va_S A s.heap H locs) {fs : List Value} (hF : F a = some (.inr (6, fs))) {x : Nat} (hlen : 0 < fs.length) (hdg : decode cc pc = .ok (.putfield 10, 3)) (kk : ∀ (H1 : Heap) (locs1 : List Loc), ah_K A D (ah_up F a (.inr (6, fs.set 0 (.ref x)))) H1 → va_S A s.heap H1 locs1 → W p l e R s m args below meth c H1 locs1 cells slots Q (F0 m (pc + 3) ls (rest))) : W p l e R s m args below meth c H locs cells slots Q (F0 m pc ls (.ref x :: .ref a :: rest)) := ah_putF E hini hP hS hF rfl inT_6 tyX6 tyX6_ok nmX6 0 (by decide) (ah_in 116 (by decide +kernel) rfl) rfl rfl rfl rfl rfl hlen hdg kk
theorem pfn_Aho_10 (E : ah_E A D p s m args meth c "Ahoarch" cc nL) (hini : meth.name = "<init>") (hP : ah_K A D F H) (hS : va_S A s.heap H locs) {fs : List Value} (hF : F a = some (.inr (6, fs)))  (hlen : 0 < fs.length) (hdg : decode cc pc = .ok (.putfield 10, 3)) (kk : ∀ (H1 : Heap) (locs1 : List Loc), ah_K A D (ah_up F a (.inr (6, fs.set 0 (.null)))) H1 → va_S A s.heap H1 locs1 → W p l e R s m args below meth c H1 locs1 cells slots Q (F0 m (pc + 3) ls (rest))) : W p l e R s m args below meth c H locs cells slots Q (F0 m pc ls (.null :: .ref a :: rest)) := ah_putF E hini hP hS hF rfl inT_6 tyX6 tyX6_ok nmX6 0 (by decide) (ah_in 116 (by decide +kernel) rfl) rfl rfl rfl rfl rfl hlen hdg kk
theorem gf_Aho_19 (E : ah_E A D p s m args meth c "Ahoarch" cc nL) (hP : ah_K A D F H) {fs : List Value} (hF : F a = some (.inr (6, fs))) {v : Value} (hv : fs[1]? = some v) (hdg : decode cc pc = .ok (.getfield 19, 3)) (kk : W p l e R s m args below meth c H locs cells slots Q (F0 m (pc + 3) ls (v :: rest))) : W p l e R s m args below meth c H locs cells slots Q (F0 m pc ls (.ref a :: rest)) := ah_get E hP hF rfl inT_6 1 (by decide) (ah_in 117 (by decide +kernel) rfl) rfl hv hdg kk
theorem pf_Aho_19 (E : ah_E A D p s m args meth c "Ahoarch" cc nL) (hini : meth.name = "<init>") (hP : ah_K A D F H) (hS : va_S A s.heap H locs) {fs : List Value} (hF : F a = some (.inr (6, fs))) {x : Nat} (hlen : 1 < fs.length) (hdg : decode cc pc = .ok (.putfield 19, 3)) (kk : ∀ (H1 : Heap) (locs1 : List Loc), ah_K A D (ah_up F a (.inr (6, fs.set 1 (.ref x)))) H1 → va_S A s.heap H1 locs1 → W p l e R s m args below meth c H1 locs1 cells slots Q (F0 m (pc + 3) ls (rest))) : W p l e R s m args below meth c H locs cells slots Q (F0 m pc ls (.ref x :: .ref a :: rest)) := ah_putF E hini hP hS hF rfl inT_6 tyX6 tyX6_ok nmX6 1 (by decide) (ah_in 117 (by decide +kernel) rfl) rfl rfl rfl rfl rfl hlen hdg kk
theorem pfn_Aho_19 (E : ah_E A D p s m args meth c "Ahoarch" cc nL) (hini : meth.name = "<init>") (hP : ah_K A D F H) (hS : va_S A s.heap H locs) {fs : List Value} (hF : F a = some (.inr (6, fs)))  (hlen : 1 < fs.length) (hdg : decode cc pc = .ok (.putfield 19, 3)) (kk : ∀ (H1 : Heap) (locs1 : List Loc), ah_K A D (ah_up F a (.inr (6, fs.set 1 (.null)))) H1 → va_S A s.heap H1 locs1 → W p l e R s m args below meth c H1 locs1 cells slots Q (F0 m (pc + 3) ls (rest))) : W p l e R s m args below meth c H locs cells slots Q (F0 m pc ls (.null :: .ref a :: rest)) := ah_putF E hini hP hS hF rfl inT_6 tyX6 tyX6_ok nmX6 1 (by decide) (ah_in 117 (by decide +kernel) rfl) rfl rfl rfl rfl rfl hlen hdg kk
theorem gf_Aho_26 (E : ah_E A D p s m args meth c "Ahoarch" cc nL) (hP : ah_K A D F H) {fs : List Value} (hF : F a = some (.inr (6, fs))) {v : Value} (hv : fs[2]? = some v) (hdg : decode cc pc = .ok (.getfield 26, 3)) (kk : W p l e R s m args below meth c H locs cells slots Q (F0 m (pc + 3) ls (v :: rest))) : W p l e R s m args below meth c H locs cells slots Q (F0 m pc ls (.ref a :: rest)) := ah_get E hP hF rfl inT_6 2 (by decide) (ah_in 118 (by decide +kernel) rfl) rfl hv hdg kk
theorem pf_Aho_26 (E : ah_E A D p s m args meth c "Ahoarch" cc nL) (hini : meth.name = "<init>") (hP : ah_K A D F H) (hS : va_S A s.heap H locs) {fs : List Value} (hF : F a = some (.inr (6, fs))) {x : Nat} (hlen : 2 < fs.length) (hdg : decode cc pc = .ok (.putfield 26, 3)) (kk : ∀ (H1 : Heap) (locs1 : List Loc), ah_K A D (ah_up F a (.inr (6, fs.set 2 (.ref x)))) H1 → va_S A s.heap H1 locs1 → W p l e R s m args below meth c H1 locs1 cells slots Q (F0 m (pc + 3) ls (rest))) : W p l e R s m args below meth c H locs cells slots Q (F0 m pc ls (.ref x :: .ref a :: rest)) := ah_putF E hini hP hS hF rfl inT_6 tyX6 tyX6_ok nmX6 2 (by decide) (ah_in 118 (by decide +kernel) rfl) rfl rfl rfl rfl rfl hlen hdg kk
theorem pfn_Aho_26 (E : ah_E A D p s m args meth c "Ahoarch" cc nL) (hini : meth.name = "<init>") (hP : ah_K A D F H) (hS : va_S A s.heap H locs) {fs : List Value} (hF : F a = some (.inr (6, fs)))  (hlen : 2 < fs.length) (hdg : decode cc pc = .ok (.putfield 26, 3)) (kk : ∀ (H1 : Heap) (locs1 : List Loc), ah_K A D (ah_up F a (.inr (6, fs.set 2 (.null)))) H1 → va_S A s.heap H1 locs1 → W p l e R s m args below meth c H1 locs1 cells slots Q (F0 m (pc + 3) ls (rest))) : W p l e R s m args below meth c H locs cells slots Q (F0 m pc ls (.null :: .ref a :: rest)) := ah_putF E hini hP hS hF rfl inT_6 tyX6 tyX6_ok nmX6 2 (by decide) (ah_in 118 (by decide +kernel) rfl) rfl rfl rfl rfl rfl hlen hdg kk
theorem gf_Aho_33 (E : ah_E A D p s m args meth c "Ahoarch" cc nL) (hP : ah_K A D F H) {fs : List Value} (hF : F a = some (.inr (6, fs))) {v : Value} (hv : fs[3]? = some v) (hdg : decode cc pc = .ok (.getfield 33, 3)) (kk : W p l e R s m args below meth c H locs cells slots Q (F0 m (pc + 3) ls (v :: rest))) : W p l e R s m args below meth c H locs cells slots Q (F0 m pc ls (.ref a :: rest)) := ah_get E hP hF rfl inT_6 3 (by decide) (ah_in 119 (by decide +kernel) rfl) rfl hv hdg kk
theorem pf_Aho_33 (E : ah_E A D p s m args meth c "Ahoarch" cc nL) (hini : meth.name = "<init>") (hP : ah_K A D F H) (hS : va_S A s.heap H locs) {fs : List Value} (hF : F a = some (.inr (6, fs))) {x : Nat} (hlen : 3 < fs.length) (hdg : decode cc pc = .ok (.putfield 33, 3)) (kk : ∀ (H1 : Heap) (locs1 : List Loc), ah_K A D (ah_up F a (.inr (6, fs.set 3 (.ref x)))) H1 → va_S A s.heap H1 locs1 → W p l e R s m args below meth c H1 locs1 cells slots Q (F0 m (pc + 3) ls (rest))) : W p l e R s m args below meth c H locs cells slots Q (F0 m pc ls (.ref x :: .ref a :: rest)) := ah_putF E hini hP hS hF rfl inT_6 tyX6 tyX6_ok nmX6 3 (by decide) (ah_in 119 (by decide +kernel) rfl) rfl rfl rfl rfl rfl hlen hdg kk
theorem pfn_Aho_33 (E : ah_E A D p s m args meth c "Ahoarch" cc nL) (hini : meth.name = "<init>") (hP : ah_K A D F H) (hS : va_S A s.heap H locs) {fs : List Value} (hF : F a = some (.inr (6, fs)))  (hlen : 3 < fs.length) (hdg : decode cc pc = .ok (.putfield 33, 3)) (kk : ∀ (H1 : Heap) (locs1 : List Loc), ah_K A D (ah_up F a (.inr (6, fs.set 3 (.null)))) H1 → va_S A s.heap H1 locs1 → W p l e R s m args below meth c H1 locs1 cells slots Q (F0 m (pc + 3) ls (rest))) : W p l e R s m args below meth c H locs cells slots Q (F0 m pc ls (.null :: .ref a :: rest)) := ah_putF E hini hP hS hF rfl inT_6 tyX6 tyX6_ok nmX6 3 (by decide) (ah_in 119 (by decide +kernel) rfl) rfl rfl rfl rfl rfl hlen hdg kk
theorem gf_Aho_42 (E : ah_E A D p s m args meth c "Ahoarch" cc nL) (hP : ah_K A D F H) {fs : List Value} (hF : F a = some (.inr (6, fs))) {v : Value} (hv : fs[4]? = some v) (hdg : decode cc pc = .ok (.getfield 42, 3)) (kk : W p l e R s m args below meth c H locs cells slots Q (F0 m (pc + 3) ls (v :: rest))) : W p l e R s m args below meth c H locs cells slots Q (F0 m pc ls (.ref a :: rest)) := ah_get E hP hF rfl inT_6 4 (by decide) (ah_in 120 (by decide +kernel) rfl) rfl hv hdg kk
theorem pf_Aho_42 (E : ah_E A D p s m args meth c "Ahoarch" cc nL) (hP : ah_K A D F H) (hS : va_S A s.heap H locs) {fs : List Value} (hF : F a = some (.inr (6, fs))) {x : Nat} (hlen : 4 < fs.length) (hdg : decode cc pc = .ok (.putfield 42, 3)) (kk : ∀ (H1 : Heap) (locs1 : List Loc), ah_K A D (ah_up F a (.inr (6, fs.set 4 (.ref x)))) H1 → va_S A s.heap H1 locs1 → W p l e R s m args below meth c H1 locs1 cells slots Q (F0 m (pc + 3) ls (rest))) : W p l e R s m args below meth c H locs cells slots Q (F0 m pc ls (.ref x :: .ref a :: rest)) := ah_put E hP hS hF rfl inT_6 tyX6 tyX6_ok nmX6 4 (by decide) (ah_in 120 (by decide +kernel) rfl) rfl rfl rfl rfl hlen hdg kk
theorem pfn_Aho_42 (E : ah_E A D p s m args meth c "Ahoarch" cc nL) (hP : ah_K A D F H) (hS : va_S A s.heap H locs) {fs : List Value} (hF : F a = some (.inr (6, fs)))  (hlen : 4 < fs.length) (hdg : decode cc pc = .ok (.putfield 42, 3)) (kk : ∀ (H1 : Heap) (locs1 : List Loc), ah_K A D (ah_up F a (.inr (6, fs.set 4 (.null)))) H1 → va_S A s.heap H1 locs1 → W p l e R s m args below meth c H1 locs1 cells slots Q (F0 m (pc + 3) ls (rest))) : W p l e R s m args below meth c H locs cells slots Q (F0 m pc ls (.null :: .ref a :: rest)) := ah_put E hP hS hF rfl inT_6 tyX6 tyX6_ok nmX6 4 (by decide) (ah_in 120 (by decide +kernel) rfl) rfl rfl rfl rfl hlen hdg kk
theorem gf_Aho_46 (E : ah_E A D p s m args meth c "Ahoarch" cc nL) (hP : ah_K A D F H) {fs : List Value} (hF : F a = some (.inr (6, fs))) {v : Value} (hv : fs[5]? = some v) (hdg : decode cc pc = .ok (.getfield 46, 3)) (kk : W p l e R s m args below meth c H locs cells slots Q (F0 m (pc + 3) ls (v :: rest))) : W p l e R s m args below meth c H locs cells slots Q (F0 m pc ls (.ref a :: rest)) := ah_get E hP hF rfl inT_6 5 (by decide) (ah_in 121 (by decide +kernel) rfl) rfl hv hdg kk
theorem pf_Aho_46 (E : ah_E A D p s m args meth c "Ahoarch" cc nL) (hP : ah_K A D F H) (hS : va_S A s.heap H locs) {fs : List Value} (hF : F a = some (.inr (6, fs))) {x : Int32} (hlen : 5 < fs.length) (hdg : decode cc pc = .ok (.putfield 46, 3)) (kk : ∀ (H1 : Heap) (locs1 : List Loc), ah_K A D (ah_up F a (.inr (6, fs.set 5 (.int x)))) H1 → va_S A s.heap H1 locs1 → W p l e R s m args below meth c H1 locs1 cells slots Q (F0 m (pc + 3) ls (rest))) : W p l e R s m args below meth c H locs cells slots Q (F0 m pc ls (.int x :: .ref a :: rest)) := ah_put E hP hS hF rfl inT_6 tyX6 tyX6_ok nmX6 5 (by decide) (ah_in 121 (by decide +kernel) rfl) rfl rfl rfl rfl hlen hdg kk
theorem gf_Aho_54 (E : ah_E A D p s m args meth c "Ahoarch" cc nL) (hP : ah_K A D F H) {fs : List Value} (hF : F a = some (.inr (5, fs))) {v : Value} (hv : fs[1]? = some v) (hdg : decode cc pc = .ok (.getfield 54, 3)) (kk : W p l e R s m args below meth c H locs cells slots Q (F0 m (pc + 3) ls (v :: rest))) : W p l e R s m args below meth c H locs cells slots Q (F0 m pc ls (.ref a :: rest)) := ah_getN (host := "Ahoarch") E hP hF rfl inT_5 1 (by decide) (ah_in 106 (by decide +kernel) rfl) rfl hv hdg kk
theorem gf_Aho_90 (E : ah_E A D p s m args meth c "Ahoarch" cc nL) (hP : ah_K A D F H) {fs : List Value} (hF : F a = some (.inr (2, fs))) {v : Value} (hv : fs[2]? = some v) (hdg : decode cc pc = .ok (.getfield 90, 3)) (kk : W p l e R s m args below meth c H locs cells slots Q (F0 m (pc + 3) ls (v :: rest))) : W p l e R s m args below meth c H locs cells slots Q (F0 m pc ls (.ref a :: rest)) := ah_getN (host := "Ahoarch") E hP hF rfl inT_2 2 (by decide) (ah_in 413 (by decide +kernel) rfl) rfl hv hdg kk
theorem pf_Aho_90 (E : ah_E A D p s m args meth c "Ahoarch" cc nL) (hP : ah_K A D F H) (hS : va_S A s.heap H locs) {fs : List Value} (hF : F a = some (.inr (2, fs))) {x : Nat} (hlen : 2 < fs.length) (hdg : decode cc pc = .ok (.putfield 90, 3)) (kk : ∀ (H1 : Heap) (locs1 : List Loc), ah_K A D (ah_up F a (.inr (2, fs.set 2 (.ref x)))) H1 → va_S A s.heap H1 locs1 → W p l e R s m args below meth c H1 locs1 cells slots Q (F0 m (pc + 3) ls (rest))) : W p l e R s m args below meth c H locs cells slots Q (F0 m pc ls (.ref x :: .ref a :: rest)) := ah_putN (host := "Ahoarch") E hP hS hF rfl inT_2 tyX2 tyX2_ok nmX2 2 (by decide) (ah_in 413 (by decide +kernel) rfl) rfl rfl rfl rfl hlen hdg kk
theorem pfn_Aho_90 (E : ah_E A D p s m args meth c "Ahoarch" cc nL) (hP : ah_K A D F H) (hS : va_S A s.heap H locs) {fs : List Value} (hF : F a = some (.inr (2, fs)))  (hlen : 2 < fs.length) (hdg : decode cc pc = .ok (.putfield 90, 3)) (kk : ∀ (H1 : Heap) (locs1 : List Loc), ah_K A D (ah_up F a (.inr (2, fs.set 2 (.null)))) H1 → va_S A s.heap H1 locs1 → W p l e R s m args below meth c H1 locs1 cells slots Q (F0 m (pc + 3) ls (rest))) : W p l e R s m args below meth c H locs cells slots Q (F0 m pc ls (.null :: .ref a :: rest)) := ah_putN (host := "Ahoarch") E hP hS hF rfl inT_2 tyX2 tyX2_ok nmX2 2 (by decide) (ah_in 413 (by decide +kernel) rfl) rfl rfl rfl rfl hlen hdg kk
theorem gf_Aho_99 (E : ah_E A D p s m args meth c "Ahoarch" cc nL) (hP : ah_K A D F H) {fs : List Value} (hF : F a = some (.inr (0, fs))) {v : Value} (hv : fs[2]? = some v) (hdg : decode cc pc = .ok (.getfield 99, 3)) (kk : W p l e R s m args below meth c H locs cells slots Q (F0 m (pc + 3) ls (v :: rest))) : W p l e R s m args below meth c H locs cells slots Q (F0 m pc ls (.ref a :: rest)) := ah_getN (host := "Ahoarch") E hP hF rfl inT_0 2 (by decide) (ah_in 36 (by decide +kernel) rfl) rfl hv hdg kk
theorem pf_Aho_99 (E : ah_E A D p s m args meth c "Ahoarch" cc nL) (hP : ah_K A D F H) (hS : va_S A s.heap H locs) {fs : List Value} (hF : F a = some (.inr (0, fs))) {x : Int32} (hlen : 2 < fs.length) (hdg : decode cc pc = .ok (.putfield 99, 3)) (kk : ∀ (H1 : Heap) (locs1 : List Loc), ah_K A D (ah_up F a (.inr (0, fs.set 2 (.int x)))) H1 → va_S A s.heap H1 locs1 → W p l e R s m args below meth c H1 locs1 cells slots Q (F0 m (pc + 3) ls (rest))) : W p l e R s m args below meth c H locs cells slots Q (F0 m pc ls (.int x :: .ref a :: rest)) := ah_putN (host := "Ahoarch") E hP hS hF rfl inT_0 tyX0 tyX0_ok nmX0 2 (by decide) (ah_in 36 (by decide +kernel) rfl) rfl rfl rfl rfl hlen hdg kk
theorem gf_Aho_102 (E : ah_E A D p s m args meth c "Ahoarch" cc nL) (hP : ah_K A D F H) {fs : List Value} (hF : F a = some (.inr (2, fs))) {v : Value} (hv : fs[1]? = some v) (hdg : decode cc pc = .ok (.getfield 102, 3)) (kk : W p l e R s m args below meth c H locs cells slots Q (F0 m (pc + 3) ls (v :: rest))) : W p l e R s m args below meth c H locs cells slots Q (F0 m pc ls (.ref a :: rest)) := ah_getN (host := "Ahoarch") E hP hF rfl inT_2 1 (by decide) (ah_in 411 (by decide +kernel) rfl) rfl hv hdg kk
theorem gf_Aho_109 (E : ah_E A D p s m args meth c "Ahoarch" cc nL) (hP : ah_K A D F H) {fs : List Value} (hF : F a = some (.inr (5, fs))) {v : Value} (hv : fs[0]? = some v) (hdg : decode cc pc = .ok (.getfield 109, 3)) (kk : W p l e R s m args below meth c H locs cells slots Q (F0 m (pc + 3) ls (v :: rest))) : W p l e R s m args below meth c H locs cells slots Q (F0 m pc ls (.ref a :: rest)) := ah_getN (host := "Ahoarch") E hP hF rfl inT_5 0 (by decide) (ah_in 104 (by decide +kernel) rfl) rfl hv hdg kk
theorem gf_Aho_143 (E : ah_E A D p s m args meth c "Ahoarch" cc nL) (hP : ah_K A D F H) {fs : List Value} (hF : F a = some (.inr (3, fs))) {v : Value} (hv : fs[1]? = some v) (hdg : decode cc pc = .ok (.getfield 143, 3)) (kk : W p l e R s m args below meth c H locs cells slots Q (F0 m (pc + 3) ls (v :: rest))) : W p l e R s m args below meth c H locs cells slots Q (F0 m pc ls (.ref a :: rest)) := ah_getN (host := "Ahoarch") E hP hF rfl inT_3 1 (by decide) (ah_in 53 (by decide +kernel) rfl) rfl hv hdg kk
theorem pf_Aho_143 (E : ah_E A D p s m args meth c "Ahoarch" cc nL) (hP : ah_K A D F H) (hS : va_S A s.heap H locs) {fs : List Value} (hF : F a = some (.inr (3, fs))) {x : Int32} (hlen : 1 < fs.length) (hdg : decode cc pc = .ok (.putfield 143, 3)) (kk : ∀ (H1 : Heap) (locs1 : List Loc), ah_K A D (ah_up F a (.inr (3, fs.set 1 (.int x)))) H1 → va_S A s.heap H1 locs1 → W p l e R s m args below meth c H1 locs1 cells slots Q (F0 m (pc + 3) ls (rest))) : W p l e R s m args below meth c H locs cells slots Q (F0 m pc ls (.int x :: .ref a :: rest)) := ah_putN (host := "Ahoarch") E hP hS hF rfl inT_3 tyX3 tyX3_ok nmX3 1 (by decide) (ah_in 53 (by decide +kernel) rfl) rfl rfl rfl rfl hlen hdg kk
theorem gf_Aho_161 (E : ah_E A D p s m args meth c "Ahoarch" cc nL) (hP : ah_K A D F H) {fs : List Value} (hF : F a = some (.inr (2, fs))) {v : Value} (hv : fs[0]? = some v) (hdg : decode cc pc = .ok (.getfield 161, 3)) (kk : W p l e R s m args below meth c H locs cells slots Q (F0 m (pc + 3) ls (v :: rest))) : W p l e R s m args below meth c H locs cells slots Q (F0 m pc ls (.ref a :: rest)) := ah_getN (host := "Ahoarch") E hP hF rfl inT_2 0 (by decide) (ah_in 407 (by decide +kernel) rfl) rfl hv hdg kk
theorem gf_Aho_181 (E : ah_E A D p s m args meth c "Ahoarch" cc nL) (hP : ah_K A D F H) {fs : List Value} (hF : F a = some (.inr (1, fs))) {v : Value} (hv : fs[2]? = some v) (hdg : decode cc pc = .ok (.getfield 181, 3)) (kk : W p l e R s m args below meth c H locs cells slots Q (F0 m (pc + 3) ls (v :: rest))) : W p l e R s m args below meth c H locs cells slots Q (F0 m pc ls (.ref a :: rest)) := ah_getN (host := "Ahoarch") E hP hF rfl inT_1 2 (by decide) (ah_in 71 (by decide +kernel) rfl) rfl hv hdg kk
theorem pf_Aho_181 (E : ah_E A D p s m args meth c "Ahoarch" cc nL) (hP : ah_K A D F H) (hS : va_S A s.heap H locs) {fs : List Value} (hF : F a = some (.inr (1, fs))) {x : Int32} (hlen : 2 < fs.length) (hdg : decode cc pc = .ok (.putfield 181, 3)) (kk : ∀ (H1 : Heap) (locs1 : List Loc), ah_K A D (ah_up F a (.inr (1, fs.set 2 (.int x)))) H1 → va_S A s.heap H1 locs1 → W p l e R s m args below meth c H1 locs1 cells slots Q (F0 m (pc + 3) ls (rest))) : W p l e R s m args below meth c H locs cells slots Q (F0 m pc ls (.int x :: .ref a :: rest)) := ah_putN (host := "Ahoarch") E hP hS hF rfl inT_1 tyX1 tyX1_ok nmX1 2 (by decide) (ah_in 71 (by decide +kernel) rfl) rfl rfl rfl rfl hlen hdg kk
theorem gf_Aho_197 (E : ah_E A D p s m args meth c "Ahoarch" cc nL) (hP : ah_K A D F H) {fs : List Value} (hF : F a = some (.inr (4, fs))) {v : Value} (hv : fs[1]? = some v) (hdg : decode cc pc = .ok (.getfield 197, 3)) (kk : W p l e R s m args below meth c H locs cells slots Q (F0 m (pc + 3) ls (v :: rest))) : W p l e R s m args below meth c H locs cells slots Q (F0 m pc ls (.ref a :: rest)) := ah_getN (host := "Ahoarch") E hP hF rfl inT_4 1 (by decide) (ah_in 88 (by decide +kernel) rfl) rfl hv hdg kk
theorem pf_Aho_197 (E : ah_E A D p s m args meth c "Ahoarch" cc nL) (hP : ah_K A D F H) (hS : va_S A s.heap H locs) {fs : List Value} (hF : F a = some (.inr (4, fs))) {x : Int32} (hlen : 1 < fs.length) (hdg : decode cc pc = .ok (.putfield 197, 3)) (kk : ∀ (H1 : Heap) (locs1 : List Loc), ah_K A D (ah_up F a (.inr (4, fs.set 1 (.int x)))) H1 → va_S A s.heap H1 locs1 → W p l e R s m args below meth c H1 locs1 cells slots Q (F0 m (pc + 3) ls (rest))) : W p l e R s m args below meth c H locs cells slots Q (F0 m pc ls (.int x :: .ref a :: rest)) := ah_putN (host := "Ahoarch") E hP hS hF rfl inT_4 tyX4 tyX4_ok nmX4 1 (by decide) (ah_in 88 (by decide +kernel) rfl) rfl rfl rfl rfl hlen hdg kk
theorem gf_Book_11 (E : ah_E A D p s m args meth c "Ahoarch$Book" cc nL) (hP : ah_K A D F H) {fs : List Value} (hF : F a = some (.inr (0, fs))) {v : Value} (hv : fs[0]? = some v) (hdg : decode cc pc = .ok (.getfield 11, 3)) (kk : W p l e R s m args below meth c H locs cells slots Q (F0 m (pc + 3) ls (v :: rest))) : W p l e R s m args below meth c H locs cells slots Q (F0 m pc ls (.ref a :: rest)) := ah_get E hP hF rfl inT_0 0 (by decide) (ah_in 33 (by decide +kernel) rfl) rfl hv hdg kk
theorem pf_Book_11 (E : ah_E A D p s m args meth c "Ahoarch$Book" cc nL) (hini : meth.name = "<init>") (hP : ah_K A D F H) (hS : va_S A s.heap H locs) {fs : List Value} (hF : F a = some (.inr (0, fs))) {x : Nat} (hlen : 0 < fs.length) (hdg : decode cc pc = .ok (.putfield 11, 3)) (kk : ∀ (H1 : Heap) (locs1 : List Loc), ah_K A D (ah_up F a (.inr (0, fs.set 0 (.ref x)))) H1 → va_S A s.heap H1 locs1 → W p l e R s m args below meth c H1 locs1 cells slots Q (F0 m (pc + 3) ls (rest))) : W p l e R s m args below meth c H locs cells slots Q (F0 m pc ls (.ref x :: .ref a :: rest)) := ah_putF E hini hP hS hF rfl inT_0 tyX0 tyX0_ok nmX0 0 (by decide) (ah_in 33 (by decide +kernel) rfl) rfl rfl rfl rfl rfl hlen hdg kk
theorem pfn_Book_11 (E : ah_E A D p s m args meth c "Ahoarch$Book" cc nL) (hini : meth.name = "<init>") (hP : ah_K A D F H) (hS : va_S A s.heap H locs) {fs : List Value} (hF : F a = some (.inr (0, fs)))  (hlen : 0 < fs.length) (hdg : decode cc pc = .ok (.putfield 11, 3)) (kk : ∀ (H1 : Heap) (locs1 : List Loc), ah_K A D (ah_up F a (.inr (0, fs.set 0 (.null)))) H1 → va_S A s.heap H1 locs1 → W p l e R s m args below meth c H1 locs1 cells slots Q (F0 m (pc + 3) ls (rest))) : W p l e R s m args below meth c H locs cells slots Q (F0 m pc ls (.null :: .ref a :: rest)) := ah_putF E hini hP hS hF rfl inT_0 tyX0 tyX0_ok nmX0 0 (by decide) (ah_in 33 (by decide +kernel) rfl) rfl rfl rfl rfl rfl hlen hdg kk
theorem gf_Book_17 (E : ah_E A D p s m args meth c "Ahoarch$Book" cc nL) (hP : ah_K A D F H) {fs : List Value} (hF : F a = some (.inr (0, fs))) {v : Value} (hv : fs[1]? = some v) (hdg : decode cc pc = .ok (.getfield 17, 3)) (kk : W p l e R s m args below meth c H locs cells slots Q (F0 m (pc + 3) ls (v :: rest))) : W p l e R s m args below meth c H locs cells slots Q (F0 m pc ls (.ref a :: rest)) := ah_get E hP hF rfl inT_0 1 (by decide) (ah_in 34 (by decide +kernel) rfl) rfl hv hdg kk
theorem pf_Book_17 (E : ah_E A D p s m args meth c "Ahoarch$Book" cc nL) (hP : ah_K A D F H) (hS : va_S A s.heap H locs) {fs : List Value} (hF : F a = some (.inr (0, fs))) {x : Int32} (hlen : 1 < fs.length) (hdg : decode cc pc = .ok (.putfield 17, 3)) (kk : ∀ (H1 : Heap) (locs1 : List Loc), ah_K A D (ah_up F a (.inr (0, fs.set 1 (.int x)))) H1 → va_S A s.heap H1 locs1 → W p l e R s m args below meth c H1 locs1 cells slots Q (F0 m (pc + 3) ls (rest))) : W p l e R s m args below meth c H locs cells slots Q (F0 m pc ls (.int x :: .ref a :: rest)) := ah_put E hP hS hF rfl inT_0 tyX0 tyX0_ok nmX0 1 (by decide) (ah_in 34 (by decide +kernel) rfl) rfl rfl rfl rfl hlen hdg kk
theorem gf_Book_21 (E : ah_E A D p s m args meth c "Ahoarch$Book" cc nL) (hP : ah_K A D F H) {fs : List Value} (hF : F a = some (.inr (0, fs))) {v : Value} (hv : fs[2]? = some v) (hdg : decode cc pc = .ok (.getfield 21, 3)) (kk : W p l e R s m args below meth c H locs cells slots Q (F0 m (pc + 3) ls (v :: rest))) : W p l e R s m args below meth c H locs cells slots Q (F0 m pc ls (.ref a :: rest)) := ah_get E hP hF rfl inT_0 2 (by decide) (ah_in 35 (by decide +kernel) rfl) rfl hv hdg kk
theorem pf_Book_21 (E : ah_E A D p s m args meth c "Ahoarch$Book" cc nL) (hP : ah_K A D F H) (hS : va_S A s.heap H locs) {fs : List Value} (hF : F a = some (.inr (0, fs))) {x : Int32} (hlen : 2 < fs.length) (hdg : decode cc pc = .ok (.putfield 21, 3)) (kk : ∀ (H1 : Heap) (locs1 : List Loc), ah_K A D (ah_up F a (.inr (0, fs.set 2 (.int x)))) H1 → va_S A s.heap H1 locs1 → W p l e R s m args below meth c H1 locs1 cells slots Q (F0 m (pc + 3) ls (rest))) : W p l e R s m args below meth c H locs cells slots Q (F0 m pc ls (.int x :: .ref a :: rest)) := ah_put E hP hS hF rfl inT_0 tyX0 tyX0_ok nmX0 2 (by decide) (ah_in 35 (by decide +kernel) rfl) rfl rfl rfl rfl hlen hdg kk
theorem gf_Book_24 (E : ah_E A D p s m args meth c "Ahoarch$Book" cc nL) (hP : ah_K A D F H) {fs : List Value} (hF : F a = some (.inr (2, fs))) {v : Value} (hv : fs[1]? = some v) (hdg : decode cc pc = .ok (.getfield 24, 3)) (kk : W p l e R s m args below meth c H locs cells slots Q (F0 m (pc + 3) ls (v :: rest))) : W p l e R s m args below meth c H locs cells slots Q (F0 m pc ls (.ref a :: rest)) := ah_getN (host := "Ahoarch") E hP hF rfl inT_2 1 (by decide) (ah_in 409 (by decide +kernel) rfl) rfl hv hdg kk
theorem gf_Book_28 (E : ah_E A D p s m args meth c "Ahoarch$Book" cc nL) (hP : ah_K A D F H) {fs : List Value} (hF : F a = some (.inr (5, fs))) {v : Value} (hv : fs[0]? = some v) (hdg : decode cc pc = .ok (.getfield 28, 3)) (kk : W p l e R s m args below meth c H locs cells slots Q (F0 m (pc + 3) ls (v :: rest))) : W p l e R s m args below meth c H locs cells slots Q (F0 m pc ls (.ref a :: rest)) := ah_getN (host := "Ahoarch") E hP hF rfl inT_5 0 (by decide) (ah_in 102 (by decide +kernel) rfl) rfl hv hdg kk
theorem gf_Book_37 (E : ah_E A D p s m args meth c "Ahoarch$Book" cc nL) (hP : ah_K A D F H) {fs : List Value} (hF : F a = some (.inr (2, fs))) {v : Value} (hv : fs[0]? = some v) (hdg : decode cc pc = .ok (.getfield 37, 3)) (kk : W p l e R s m args below meth c H locs cells slots Q (F0 m (pc + 3) ls (v :: rest))) : W p l e R s m args below meth c H locs cells slots Q (F0 m pc ls (.ref a :: rest)) := ah_getN (host := "Ahoarch") E hP hF rfl inT_2 0 (by decide) (ah_in 406 (by decide +kernel) rfl) rfl hv hdg kk
theorem gf_Book_44 (E : ah_E A D p s m args meth c "Ahoarch$Book" cc nL) (hP : ah_K A D F H) {fs : List Value} (hF : F a = some (.inr (5, fs))) {v : Value} (hv : fs[1]? = some v) (hdg : decode cc pc = .ok (.getfield 44, 3)) (kk : W p l e R s m args below meth c H locs cells slots Q (F0 m (pc + 3) ls (v :: rest))) : W p l e R s m args below meth c H locs cells slots Q (F0 m pc ls (.ref a :: rest)) := ah_getN (host := "Ahoarch") E hP hF rfl inT_5 1 (by decide) (ah_in 110 (by decide +kernel) rfl) rfl hv hdg kk
theorem gf_Book_90 (E : ah_E A D p s m args meth c "Ahoarch$Book" cc nL) (hP : ah_K A D F H) {fs : List Value} (hF : F a = some (.inr (3, fs))) {v : Value} (hv : fs[1]? = some v) (hdg : decode cc pc = .ok (.getfield 90, 3)) (kk : W p l e R s m args below meth c H locs cells slots Q (F0 m (pc + 3) ls (v :: rest))) : W p l e R s m args below meth c H locs cells slots Q (F0 m pc ls (.ref a :: rest)) := ah_getN (host := "Ahoarch") E hP hF rfl inT_3 1 (by decide) (ah_in 54 (by decide +kernel) rfl) rfl hv hdg kk
theorem pf_Book_90 (E : ah_E A D p s m args meth c "Ahoarch$Book" cc nL) (hP : ah_K A D F H) (hS : va_S A s.heap H locs) {fs : List Value} (hF : F a = some (.inr (3, fs))) {x : Int32} (hlen : 1 < fs.length) (hdg : decode cc pc = .ok (.putfield 90, 3)) (kk : ∀ (H1 : Heap) (locs1 : List Loc), ah_K A D (ah_up F a (.inr (3, fs.set 1 (.int x)))) H1 → va_S A s.heap H1 locs1 → W p l e R s m args below meth c H1 locs1 cells slots Q (F0 m (pc + 3) ls (rest))) : W p l e R s m args below meth c H locs cells slots Q (F0 m pc ls (.int x :: .ref a :: rest)) := ah_putN (host := "Ahoarch") E hP hS hF rfl inT_3 tyX3 tyX3_ok nmX3 1 (by decide) (ah_in 54 (by decide +kernel) rfl) rfl rfl rfl rfl hlen hdg kk
theorem gf_Choice_11 (E : ah_E A D p s m args meth c "Ahoarch$Choice" cc nL) (hP : ah_K A D F H) {fs : List Value} (hF : F a = some (.inr (1, fs))) {v : Value} (hv : fs[0]? = some v) (hdg : decode cc pc = .ok (.getfield 11, 3)) (kk : W p l e R s m args below meth c H locs cells slots Q (F0 m (pc + 3) ls (v :: rest))) : W p l e R s m args below meth c H locs cells slots Q (F0 m pc ls (.ref a :: rest)) := ah_get E hP hF rfl inT_1 0 (by decide) (ah_in 68 (by decide +kernel) rfl) rfl hv hdg kk
theorem pf_Choice_11 (E : ah_E A D p s m args meth c "Ahoarch$Choice" cc nL) (hini : meth.name = "<init>") (hP : ah_K A D F H) (hS : va_S A s.heap H locs) {fs : List Value} (hF : F a = some (.inr (1, fs))) {x : Nat} (hlen : 0 < fs.length) (hdg : decode cc pc = .ok (.putfield 11, 3)) (kk : ∀ (H1 : Heap) (locs1 : List Loc), ah_K A D (ah_up F a (.inr (1, fs.set 0 (.ref x)))) H1 → va_S A s.heap H1 locs1 → W p l e R s m args below meth c H1 locs1 cells slots Q (F0 m (pc + 3) ls (rest))) : W p l e R s m args below meth c H locs cells slots Q (F0 m pc ls (.ref x :: .ref a :: rest)) := ah_putF E hini hP hS hF rfl inT_1 tyX1 tyX1_ok nmX1 0 (by decide) (ah_in 68 (by decide +kernel) rfl) rfl rfl rfl rfl rfl hlen hdg kk
theorem pfn_Choice_11 (E : ah_E A D p s m args meth c "Ahoarch$Choice" cc nL) (hini : meth.name = "<init>") (hP : ah_K A D F H) (hS : va_S A s.heap H locs) {fs : List Value} (hF : F a = some (.inr (1, fs)))  (hlen : 0 < fs.length) (hdg : decode cc pc = .ok (.putfield 11, 3)) (kk : ∀ (H1 : Heap) (locs1 : List Loc), ah_K A D (ah_up F a (.inr (1, fs.set 0 (.null)))) H1 → va_S A s.heap H1 locs1 → W p l e R s m args below meth c H1 locs1 cells slots Q (F0 m (pc + 3) ls (rest))) : W p l e R s m args below meth c H locs cells slots Q (F0 m pc ls (.null :: .ref a :: rest)) := ah_putF E hini hP hS hF rfl inT_1 tyX1 tyX1_ok nmX1 0 (by decide) (ah_in 68 (by decide +kernel) rfl) rfl rfl rfl rfl rfl hlen hdg kk
theorem gf_Choice_17 (E : ah_E A D p s m args meth c "Ahoarch$Choice" cc nL) (hP : ah_K A D F H) {fs : List Value} (hF : F a = some (.inr (1, fs))) {v : Value} (hv : fs[1]? = some v) (hdg : decode cc pc = .ok (.getfield 17, 3)) (kk : W p l e R s m args below meth c H locs cells slots Q (F0 m (pc + 3) ls (v :: rest))) : W p l e R s m args below meth c H locs cells slots Q (F0 m pc ls (.ref a :: rest)) := ah_get E hP hF rfl inT_1 1 (by decide) (ah_in 69 (by decide +kernel) rfl) rfl hv hdg kk
theorem pf_Choice_17 (E : ah_E A D p s m args meth c "Ahoarch$Choice" cc nL) (hini : meth.name = "<init>") (hP : ah_K A D F H) (hS : va_S A s.heap H locs) {fs : List Value} (hF : F a = some (.inr (1, fs))) {x : Nat} (hlen : 1 < fs.length) (hdg : decode cc pc = .ok (.putfield 17, 3)) (kk : ∀ (H1 : Heap) (locs1 : List Loc), ah_K A D (ah_up F a (.inr (1, fs.set 1 (.ref x)))) H1 → va_S A s.heap H1 locs1 → W p l e R s m args below meth c H1 locs1 cells slots Q (F0 m (pc + 3) ls (rest))) : W p l e R s m args below meth c H locs cells slots Q (F0 m pc ls (.ref x :: .ref a :: rest)) := ah_putF E hini hP hS hF rfl inT_1 tyX1 tyX1_ok nmX1 1 (by decide) (ah_in 69 (by decide +kernel) rfl) rfl rfl rfl rfl rfl hlen hdg kk
theorem pfn_Choice_17 (E : ah_E A D p s m args meth c "Ahoarch$Choice" cc nL) (hini : meth.name = "<init>") (hP : ah_K A D F H) (hS : va_S A s.heap H locs) {fs : List Value} (hF : F a = some (.inr (1, fs)))  (hlen : 1 < fs.length) (hdg : decode cc pc = .ok (.putfield 17, 3)) (kk : ∀ (H1 : Heap) (locs1 : List Loc), ah_K A D (ah_up F a (.inr (1, fs.set 1 (.null)))) H1 → va_S A s.heap H1 locs1 → W p l e R s m args below meth c H1 locs1 cells slots Q (F0 m (pc + 3) ls (rest))) : W p l e R s m args below meth c H locs cells slots Q (F0 m pc ls (.null :: .ref a :: rest)) := ah_putF E hini hP hS hF rfl inT_1 tyX1 tyX1_ok nmX1 1 (by decide) (ah_in 69 (by decide +kernel) rfl) rfl rfl rfl rfl rfl hlen hdg kk
theorem gf_Choice_21 (E : ah_E A D p s m args meth c "Ahoarch$Choice" cc nL) (hP : ah_K A D F H) {fs : List Value} (hF : F a = some (.inr (1, fs))) {v : Value} (hv : fs[2]? = some v) (hdg : decode cc pc = .ok (.getfield 21, 3)) (kk : W p l e R s m args below meth c H locs cells slots Q (F0 m (pc + 3) ls (v :: rest))) : W p l e R s m args below meth c H locs cells slots Q (F0 m pc ls (.ref a :: rest)) := ah_get E hP hF rfl inT_1 2 (by decide) (ah_in 70 (by decide +kernel) rfl) rfl hv hdg kk
theorem pf_Choice_21 (E : ah_E A D p s m args meth c "Ahoarch$Choice" cc nL) (hP : ah_K A D F H) (hS : va_S A s.heap H locs) {fs : List Value} (hF : F a = some (.inr (1, fs))) {x : Int32} (hlen : 2 < fs.length) (hdg : decode cc pc = .ok (.putfield 21, 3)) (kk : ∀ (H1 : Heap) (locs1 : List Loc), ah_K A D (ah_up F a (.inr (1, fs.set 2 (.int x)))) H1 → va_S A s.heap H1 locs1 → W p l e R s m args below meth c H1 locs1 cells slots Q (F0 m (pc + 3) ls (rest))) : W p l e R s m args below meth c H locs cells slots Q (F0 m pc ls (.int x :: .ref a :: rest)) := ah_put E hP hS hF rfl inT_1 tyX1 tyX1_ok nmX1 2 (by decide) (ah_in 70 (by decide +kernel) rfl) rfl rfl rfl rfl hlen hdg kk
theorem gf_Choice_33 (E : ah_E A D p s m args meth c "Ahoarch$Choice" cc nL) (hP : ah_K A D F H) {fs : List Value} (hF : F a = some (.inr (3, fs))) {v : Value} (hv : fs[1]? = some v) (hdg : decode cc pc = .ok (.getfield 33, 3)) (kk : W p l e R s m args below meth c H locs cells slots Q (F0 m (pc + 3) ls (v :: rest))) : W p l e R s m args below meth c H locs cells slots Q (F0 m pc ls (.ref a :: rest)) := ah_getN (host := "Ahoarch") E hP hF rfl inT_3 1 (by decide) (ah_in 52 (by decide +kernel) rfl) rfl hv hdg kk
theorem pf_Choice_33 (E : ah_E A D p s m args meth c "Ahoarch$Choice" cc nL) (hP : ah_K A D F H) (hS : va_S A s.heap H locs) {fs : List Value} (hF : F a = some (.inr (3, fs))) {x : Int32} (hlen : 1 < fs.length) (hdg : decode cc pc = .ok (.putfield 33, 3)) (kk : ∀ (H1 : Heap) (locs1 : List Loc), ah_K A D (ah_up F a (.inr (3, fs.set 1 (.int x)))) H1 → va_S A s.heap H1 locs1 → W p l e R s m args below meth c H1 locs1 cells slots Q (F0 m (pc + 3) ls (rest))) : W p l e R s m args below meth c H locs cells slots Q (F0 m pc ls (.int x :: .ref a :: rest)) := ah_putN (host := "Ahoarch") E hP hS hF rfl inT_3 tyX3 tyX3_ok nmX3 1 (by decide) (ah_in 52 (by decide +kernel) rfl) rfl rfl rfl rfl hlen hdg kk
theorem gf_Choice_51 (E : ah_E A D p s m args meth c "Ahoarch$Choice" cc nL) (hP : ah_K A D F H) {fs : List Value} (hF : F a = some (.inr (2, fs))) {v : Value} (hv : fs[1]? = some v) (hdg : decode cc pc = .ok (.getfield 51, 3)) (kk : W p l e R s m args below meth c H locs cells slots Q (F0 m (pc + 3) ls (v :: rest))) : W p l e R s m args below meth c H locs cells slots Q (F0 m pc ls (.ref a :: rest)) := ah_getN (host := "Ahoarch") E hP hF rfl inT_2 1 (by decide) (ah_in 410 (by decide +kernel) rfl) rfl hv hdg kk
theorem gf_Choice_55 (E : ah_E A D p s m args meth c "Ahoarch$Choice" cc nL) (hP : ah_K A D F H) {fs : List Value} (hF : F a = some (.inr (5, fs))) {v : Value} (hv : fs[1]? = some v) (hdg : decode cc pc = .ok (.getfield 55, 3)) (kk : W p l e R s m args below meth c H locs cells slots Q (F0 m (pc + 3) ls (v :: rest))) : W p l e R s m args below meth c H locs cells slots Q (F0 m pc ls (.ref a :: rest)) := ah_getN (host := "Ahoarch") E hP hF rfl inT_5 1 (by decide) (ah_in 108 (by decide +kernel) rfl) rfl hv hdg kk
theorem gf_Pattern_7 (E : ah_E A D p s m args meth c "Ahoarch$Pattern" cc nL) (hP : ah_K A D F H) {fs : List Value} (hF : F a = some (.inr (2, fs))) {v : Value} (hv : fs[0]? = some v) (hdg : decode cc pc = .ok (.getfield 7, 3)) (kk : W p l e R s m args below meth c H locs cells slots Q (F0 m (pc + 3) ls (v :: rest))) : W p l e R s m args below meth c H locs cells slots Q (F0 m pc ls (.ref a :: rest)) := ah_get E hP hF rfl inT_2 0 (by decide) (ah_in 405 (by decide +kernel) rfl) rfl hv hdg kk
theorem pf_Pattern_7 (E : ah_E A D p s m args meth c "Ahoarch$Pattern" cc nL) (hini : meth.name = "<init>") (hP : ah_K A D F H) (hS : va_S A s.heap H locs) {fs : List Value} (hF : F a = some (.inr (2, fs))) {x : Int32} (hlen : 0 < fs.length) (hdg : decode cc pc = .ok (.putfield 7, 3)) (kk : ∀ (H1 : Heap) (locs1 : List Loc), ah_K A D (ah_up F a (.inr (2, fs.set 0 (.int x)))) H1 → va_S A s.heap H1 locs1 → W p l e R s m args below meth c H1 locs1 cells slots Q (F0 m (pc + 3) ls (rest))) : W p l e R s m args below meth c H locs cells slots Q (F0 m pc ls (.int x :: .ref a :: rest)) := ah_putF E hini hP hS hF rfl inT_2 tyX2 tyX2_ok nmX2 0 (by decide) (ah_in 405 (by decide +kernel) rfl) rfl rfl rfl rfl rfl hlen hdg kk
theorem gf_Pattern_13 (E : ah_E A D p s m args meth c "Ahoarch$Pattern" cc nL) (hP : ah_K A D F H) {fs : List Value} (hF : F a = some (.inr (2, fs))) {v : Value} (hv : fs[1]? = some v) (hdg : decode cc pc = .ok (.getfield 13, 3)) (kk : W p l e R s m args below meth c H locs cells slots Q (F0 m (pc + 3) ls (v :: rest))) : W p l e R s m args below meth c H locs cells slots Q (F0 m pc ls (.ref a :: rest)) := ah_get E hP hF rfl inT_2 1 (by decide) (ah_in 408 (by decide +kernel) rfl) rfl hv hdg kk
theorem pf_Pattern_13 (E : ah_E A D p s m args meth c "Ahoarch$Pattern" cc nL) (hini : meth.name = "<init>") (hP : ah_K A D F H) (hS : va_S A s.heap H locs) {fs : List Value} (hF : F a = some (.inr (2, fs))) {x : Nat} (hlen : 1 < fs.length) (hdg : decode cc pc = .ok (.putfield 13, 3)) (kk : ∀ (H1 : Heap) (locs1 : List Loc), ah_K A D (ah_up F a (.inr (2, fs.set 1 (.ref x)))) H1 → va_S A s.heap H1 locs1 → W p l e R s m args below meth c H1 locs1 cells slots Q (F0 m (pc + 3) ls (rest))) : W p l e R s m args below meth c H locs cells slots Q (F0 m pc ls (.ref x :: .ref a :: rest)) := ah_putF E hini hP hS hF rfl inT_2 tyX2 tyX2_ok nmX2 1 (by decide) (ah_in 408 (by decide +kernel) rfl) rfl rfl rfl rfl rfl hlen hdg kk
theorem pfn_Pattern_13 (E : ah_E A D p s m args meth c "Ahoarch$Pattern" cc nL) (hini : meth.name = "<init>") (hP : ah_K A D F H) (hS : va_S A s.heap H locs) {fs : List Value} (hF : F a = some (.inr (2, fs)))  (hlen : 1 < fs.length) (hdg : decode cc pc = .ok (.putfield 13, 3)) (kk : ∀ (H1 : Heap) (locs1 : List Loc), ah_K A D (ah_up F a (.inr (2, fs.set 1 (.null)))) H1 → va_S A s.heap H1 locs1 → W p l e R s m args below meth c H1 locs1 cells slots Q (F0 m (pc + 3) ls (rest))) : W p l e R s m args below meth c H locs cells slots Q (F0 m pc ls (.null :: .ref a :: rest)) := ah_putF E hini hP hS hF rfl inT_2 tyX2 tyX2_ok nmX2 1 (by decide) (ah_in 408 (by decide +kernel) rfl) rfl rfl rfl rfl rfl hlen hdg kk
theorem gf_Pattern_22 (E : ah_E A D p s m args meth c "Ahoarch$Pattern" cc nL) (hP : ah_K A D F H) {fs : List Value} (hF : F a = some (.inr (2, fs))) {v : Value} (hv : fs[2]? = some v) (hdg : decode cc pc = .ok (.getfield 22, 3)) (kk : W p l e R s m args below meth c H locs cells slots Q (F0 m (pc + 3) ls (v :: rest))) : W p l e R s m args below meth c H locs cells slots Q (F0 m pc ls (.ref a :: rest)) := ah_get E hP hF rfl inT_2 2 (by decide) (ah_in 412 (by decide +kernel) rfl) rfl hv hdg kk
theorem pf_Pattern_22 (E : ah_E A D p s m args meth c "Ahoarch$Pattern" cc nL) (hP : ah_K A D F H) (hS : va_S A s.heap H locs) {fs : List Value} (hF : F a = some (.inr (2, fs))) {x : Nat} (hlen : 2 < fs.length) (hdg : decode cc pc = .ok (.putfield 22, 3)) (kk : ∀ (H1 : Heap) (locs1 : List Loc), ah_K A D (ah_up F a (.inr (2, fs.set 2 (.ref x)))) H1 → va_S A s.heap H1 locs1 → W p l e R s m args below meth c H1 locs1 cells slots Q (F0 m (pc + 3) ls (rest))) : W p l e R s m args below meth c H locs cells slots Q (F0 m pc ls (.ref x :: .ref a :: rest)) := ah_put E hP hS hF rfl inT_2 tyX2 tyX2_ok nmX2 2 (by decide) (ah_in 412 (by decide +kernel) rfl) rfl rfl rfl rfl hlen hdg kk
theorem pfn_Pattern_22 (E : ah_E A D p s m args meth c "Ahoarch$Pattern" cc nL) (hP : ah_K A D F H) (hS : va_S A s.heap H locs) {fs : List Value} (hF : F a = some (.inr (2, fs)))  (hlen : 2 < fs.length) (hdg : decode cc pc = .ok (.putfield 22, 3)) (kk : ∀ (H1 : Heap) (locs1 : List Loc), ah_K A D (ah_up F a (.inr (2, fs.set 2 (.null)))) H1 → va_S A s.heap H1 locs1 → W p l e R s m args below meth c H1 locs1 cells slots Q (F0 m (pc + 3) ls (rest))) : W p l e R s m args below meth c H locs cells slots Q (F0 m pc ls (.null :: .ref a :: rest)) := ah_put E hP hS hF rfl inT_2 tyX2 tyX2_ok nmX2 2 (by decide) (ah_in 412 (by decide +kernel) rfl) rfl rfl rfl rfl hlen hdg kk
theorem gf_Stream_9 (E : ah_E A D p s m args meth c "Ahoarch$Stream" cc nL) (hP : ah_K A D F H) {fs : List Value} (hF : F a = some (.inr (3, fs))) {v : Value} (hv : fs[0]? = some v) (hdg : decode cc pc = .ok (.getfield 9, 3)) (kk : W p l e R s m args below meth c H locs cells slots Q (F0 m (pc + 3) ls (v :: rest))) : W p l e R s m args below meth c H locs cells slots Q (F0 m pc ls (.ref a :: rest)) := ah_get E hP hF rfl inT_3 0 (by decide) (ah_in 50 (by decide +kernel) rfl) rfl hv hdg kk
theorem pf_Stream_9 (E : ah_E A D p s m args meth c "Ahoarch$Stream" cc nL) (hini : meth.name = "<init>") (hP : ah_K A D F H) (hS : va_S A s.heap H locs) {fs : List Value} (hF : F a = some (.inr (3, fs))) {x : Nat} (hlen : 0 < fs.length) (hdg : decode cc pc = .ok (.putfield 9, 3)) (kk : ∀ (H1 : Heap) (locs1 : List Loc), ah_K A D (ah_up F a (.inr (3, fs.set 0 (.ref x)))) H1 → va_S A s.heap H1 locs1 → W p l e R s m args below meth c H1 locs1 cells slots Q (F0 m (pc + 3) ls (rest))) : W p l e R s m args below meth c H locs cells slots Q (F0 m pc ls (.ref x :: .ref a :: rest)) := ah_putF E hini hP hS hF rfl inT_3 tyX3 tyX3_ok nmX3 0 (by decide) (ah_in 50 (by decide +kernel) rfl) rfl rfl rfl rfl rfl hlen hdg kk
theorem pfn_Stream_9 (E : ah_E A D p s m args meth c "Ahoarch$Stream" cc nL) (hini : meth.name = "<init>") (hP : ah_K A D F H) (hS : va_S A s.heap H locs) {fs : List Value} (hF : F a = some (.inr (3, fs)))  (hlen : 0 < fs.length) (hdg : decode cc pc = .ok (.putfield 9, 3)) (kk : ∀ (H1 : Heap) (locs1 : List Loc), ah_K A D (ah_up F a (.inr (3, fs.set 0 (.null)))) H1 → va_S A s.heap H1 locs1 → W p l e R s m args below meth c H1 locs1 cells slots Q (F0 m (pc + 3) ls (rest))) : W p l e R s m args below meth c H locs cells slots Q (F0 m pc ls (.null :: .ref a :: rest)) := ah_putF E hini hP hS hF rfl inT_3 tyX3 tyX3_ok nmX3 0 (by decide) (ah_in 50 (by decide +kernel) rfl) rfl rfl rfl rfl rfl hlen hdg kk
theorem gf_Stream_15 (E : ah_E A D p s m args meth c "Ahoarch$Stream" cc nL) (hP : ah_K A D F H) {fs : List Value} (hF : F a = some (.inr (3, fs))) {v : Value} (hv : fs[1]? = some v) (hdg : decode cc pc = .ok (.getfield 15, 3)) (kk : W p l e R s m args below meth c H locs cells slots Q (F0 m (pc + 3) ls (v :: rest))) : W p l e R s m args below meth c H locs cells slots Q (F0 m pc ls (.ref a :: rest)) := ah_get E hP hF rfl inT_3 1 (by decide) (ah_in 51 (by decide +kernel) rfl) rfl hv hdg kk
theorem pf_Stream_15 (E : ah_E A D p s m args meth c "Ahoarch$Stream" cc nL) (hP : ah_K A D F H) (hS : va_S A s.heap H locs) {fs : List Value} (hF : F a = some (.inr (3, fs))) {x : Int32} (hlen : 1 < fs.length) (hdg : decode cc pc = .ok (.putfield 15, 3)) (kk : ∀ (H1 : Heap) (locs1 : List Loc), ah_K A D (ah_up F a (.inr (3, fs.set 1 (.int x)))) H1 → va_S A s.heap H1 locs1 → W p l e R s m args below meth c H1 locs1 cells slots Q (F0 m (pc + 3) ls (rest))) : W p l e R s m args below meth c H locs cells slots Q (F0 m pc ls (.int x :: .ref a :: rest)) := ah_put E hP hS hF rfl inT_3 tyX3 tyX3_ok nmX3 1 (by decide) (ah_in 51 (by decide +kernel) rfl) rfl rfl rfl rfl hlen hdg kk
theorem gf_Stream_35 (E : ah_E A D p s m args meth c "Ahoarch$Stream" cc nL) (hP : ah_K A D F H) {fs : List Value} (hF : F a = some (.inr (5, fs))) {v : Value} (hv : fs[1]? = some v) (hdg : decode cc pc = .ok (.getfield 35, 3)) (kk : W p l e R s m args below meth c H locs cells slots Q (F0 m (pc + 3) ls (v :: rest))) : W p l e R s m args below meth c H locs cells slots Q (F0 m pc ls (.ref a :: rest)) := ah_getN (host := "Ahoarch") E hP hF rfl inT_5 1 (by decide) (ah_in 109 (by decide +kernel) rfl) rfl hv hdg kk
theorem gf_Stream_38 (E : ah_E A D p s m args meth c "Ahoarch$Stream" cc nL) (hP : ah_K A D F H) {fs : List Value} (hF : F a = some (.inr (5, fs))) {v : Value} (hv : fs[0]? = some v) (hdg : decode cc pc = .ok (.getfield 38, 3)) (kk : W p l e R s m args below meth c H locs cells slots Q (F0 m (pc + 3) ls (v :: rest))) : W p l e R s m args below meth c H locs cells slots Q (F0 m pc ls (.ref a :: rest)) := ah_getN (host := "Ahoarch") E hP hF rfl inT_5 0 (by decide) (ah_in 103 (by decide +kernel) rfl) rfl hv hdg kk
theorem gf_Text_9 (E : ah_E A D p s m args meth c "Ahoarch$Text" cc nL) (hP : ah_K A D F H) {fs : List Value} (hF : F a = some (.inr (4, fs))) {v : Value} (hv : fs[0]? = some v) (hdg : decode cc pc = .ok (.getfield 9, 3)) (kk : W p l e R s m args below meth c H locs cells slots Q (F0 m (pc + 3) ls (v :: rest))) : W p l e R s m args below meth c H locs cells slots Q (F0 m pc ls (.ref a :: rest)) := ah_get E hP hF rfl inT_4 0 (by decide) (ah_in 86 (by decide +kernel) rfl) rfl hv hdg kk
theorem pf_Text_9 (E : ah_E A D p s m args meth c "Ahoarch$Text" cc nL) (hini : meth.name = "<init>") (hP : ah_K A D F H) (hS : va_S A s.heap H locs) {fs : List Value} (hF : F a = some (.inr (4, fs))) {x : Nat} (hlen : 0 < fs.length) (hdg : decode cc pc = .ok (.putfield 9, 3)) (kk : ∀ (H1 : Heap) (locs1 : List Loc), ah_K A D (ah_up F a (.inr (4, fs.set 0 (.ref x)))) H1 → va_S A s.heap H1 locs1 → W p l e R s m args below meth c H1 locs1 cells slots Q (F0 m (pc + 3) ls (rest))) : W p l e R s m args below meth c H locs cells slots Q (F0 m pc ls (.ref x :: .ref a :: rest)) := ah_putF E hini hP hS hF rfl inT_4 tyX4 tyX4_ok nmX4 0 (by decide) (ah_in 86 (by decide +kernel) rfl) rfl rfl rfl rfl rfl hlen hdg kk
theorem pfn_Text_9 (E : ah_E A D p s m args meth c "Ahoarch$Text" cc nL) (hini : meth.name = "<init>") (hP : ah_K A D F H) (hS : va_S A s.heap H locs) {fs : List Value} (hF : F a = some (.inr (4, fs)))  (hlen : 0 < fs.length) (hdg : decode cc pc = .ok (.putfield 9, 3)) (kk : ∀ (H1 : Heap) (locs1 : List Loc), ah_K A D (ah_up F a (.inr (4, fs.set 0 (.null)))) H1 → va_S A s.heap H1 locs1 → W p l e R s m args below meth c H1 locs1 cells slots Q (F0 m (pc + 3) ls (rest))) : W p l e R s m args below meth c H locs cells slots Q (F0 m pc ls (.null :: .ref a :: rest)) := ah_putF E hini hP hS hF rfl inT_4 tyX4 tyX4_ok nmX4 0 (by decide) (ah_in 86 (by decide +kernel) rfl) rfl rfl rfl rfl rfl hlen hdg kk
theorem gf_Text_15 (E : ah_E A D p s m args meth c "Ahoarch$Text" cc nL) (hP : ah_K A D F H) {fs : List Value} (hF : F a = some (.inr (4, fs))) {v : Value} (hv : fs[1]? = some v) (hdg : decode cc pc = .ok (.getfield 15, 3)) (kk : W p l e R s m args below meth c H locs cells slots Q (F0 m (pc + 3) ls (v :: rest))) : W p l e R s m args below meth c H locs cells slots Q (F0 m pc ls (.ref a :: rest)) := ah_get E hP hF rfl inT_4 1 (by decide) (ah_in 87 (by decide +kernel) rfl) rfl hv hdg kk
theorem pf_Text_15 (E : ah_E A D p s m args meth c "Ahoarch$Text" cc nL) (hP : ah_K A D F H) (hS : va_S A s.heap H locs) {fs : List Value} (hF : F a = some (.inr (4, fs))) {x : Int32} (hlen : 1 < fs.length) (hdg : decode cc pc = .ok (.putfield 15, 3)) (kk : ∀ (H1 : Heap) (locs1 : List Loc), ah_K A D (ah_up F a (.inr (4, fs.set 1 (.int x)))) H1 → va_S A s.heap H1 locs1 → W p l e R s m args below meth c H1 locs1 cells slots Q (F0 m (pc + 3) ls (rest))) : W p l e R s m args below meth c H locs cells slots Q (F0 m pc ls (.int x :: .ref a :: rest)) := ah_put E hP hS hF rfl inT_4 tyX4 tyX4_ok nmX4 1 (by decide) (ah_in 87 (by decide +kernel) rfl) rfl rfl rfl rfl hlen hdg kk
theorem gf_Text_19 (E : ah_E A D p s m args meth c "Ahoarch$Text" cc nL) (hP : ah_K A D F H) {fs : List Value} (hF : F a = some (.inr (5, fs))) {v : Value} (hv : fs[1]? = some v) (hdg : decode cc pc = .ok (.getfield 19, 3)) (kk : W p l e R s m args below meth c H locs cells slots Q (F0 m (pc + 3) ls (v :: rest))) : W p l e R s m args below meth c H locs cells slots Q (F0 m pc ls (.ref a :: rest)) := ah_getN (host := "Ahoarch") E hP hF rfl inT_5 1 (by decide) (ah_in 107 (by decide +kernel) rfl) rfl hv hdg kk
theorem gf_Word_9 (E : ah_E A D p s m args meth c "Ahoarch$Word" cc nL) (hP : ah_K A D F H) {fs : List Value} (hF : F a = some (.inr (5, fs))) {v : Value} (hv : fs[0]? = some v) (hdg : decode cc pc = .ok (.getfield 9, 3)) (kk : W p l e R s m args below meth c H locs cells slots Q (F0 m (pc + 3) ls (v :: rest))) : W p l e R s m args below meth c H locs cells slots Q (F0 m pc ls (.ref a :: rest)) := ah_get E hP hF rfl inT_5 0 (by decide) (ah_in 101 (by decide +kernel) rfl) rfl hv hdg kk
theorem pf_Word_9 (E : ah_E A D p s m args meth c "Ahoarch$Word" cc nL) (hini : meth.name = "<init>") (hP : ah_K A D F H) (hS : va_S A s.heap H locs) {fs : List Value} (hF : F a = some (.inr (5, fs))) {x : Int64} (hlen : 0 < fs.length) (hdg : decode cc pc = .ok (.putfield 9, 3)) (kk : ∀ (H1 : Heap) (locs1 : List Loc), ah_K A D (ah_up F a (.inr (5, fs.set 0 (.long x)))) H1 → va_S A s.heap H1 locs1 → W p l e R s m args below meth c H1 locs1 cells slots Q (F0 m (pc + 3) ls (rest))) : W p l e R s m args below meth c H locs cells slots Q (F0 m pc ls (.long x :: .ref a :: rest)) := ah_putF E hini hP hS hF rfl inT_5 tyX5 tyX5_ok nmX5 0 (by decide) (ah_in 101 (by decide +kernel) rfl) rfl rfl rfl rfl rfl hlen hdg kk
theorem gf_Word_15 (E : ah_E A D p s m args meth c "Ahoarch$Word" cc nL) (hP : ah_K A D F H) {fs : List Value} (hF : F a = some (.inr (5, fs))) {v : Value} (hv : fs[1]? = some v) (hdg : decode cc pc = .ok (.getfield 15, 3)) (kk : W p l e R s m args below meth c H locs cells slots Q (F0 m (pc + 3) ls (v :: rest))) : W p l e R s m args below meth c H locs cells slots Q (F0 m pc ls (.ref a :: rest)) := ah_get E hP hF rfl inT_5 1 (by decide) (ah_in 105 (by decide +kernel) rfl) rfl hv hdg kk
theorem pf_Word_15 (E : ah_E A D p s m args meth c "Ahoarch$Word" cc nL) (hini : meth.name = "<init>") (hP : ah_K A D F H) (hS : va_S A s.heap H locs) {fs : List Value} (hF : F a = some (.inr (5, fs))) {x : Int32} (hlen : 1 < fs.length) (hdg : decode cc pc = .ok (.putfield 15, 3)) (kk : ∀ (H1 : Heap) (locs1 : List Loc), ah_K A D (ah_up F a (.inr (5, fs.set 1 (.int x)))) H1 → va_S A s.heap H1 locs1 → W p l e R s m args below meth c H1 locs1 cells slots Q (F0 m (pc + 3) ls (rest))) : W p l e R s m args below meth c H locs cells slots Q (F0 m pc ls (.int x :: .ref a :: rest)) := ah_putF E hini hP hS hF rfl inT_5 tyX5 tyX5_ok nmX5 1 (by decide) (ah_in 105 (by decide +kernel) rfl) rfl rfl rfl rfl rfl hlen hdg kk
theorem gf_Mod_7 (E : ah_E A D p s m args meth c "AhoarchModel" cc nL) (hP : ah_K A D F H) {fs : List Value} (hF : F a = some (.inr (7, fs))) {v : Value} (hv : fs[1]? = some v) (hdg : decode cc pc = .ok (.getfield 7, 3)) (kk : W p l e R s m args below meth c H locs cells slots Q (F0 m (pc + 3) ls (v :: rest))) : W p l e R s m args below meth c H locs cells slots Q (F0 m pc ls (.ref a :: rest)) := ah_get E hP hF rfl inT_7 1 (by decide) (ah_in 665 (by decide +kernel) rfl) rfl hv hdg kk
theorem pf_Mod_7 (E : ah_E A D p s m args meth c "AhoarchModel" cc nL) (hini : meth.name = "<init>") (hP : ah_K A D F H) (hS : va_S A s.heap H locs) {fs : List Value} (hF : F a = some (.inr (7, fs))) {x : Nat} (hlen : 1 < fs.length) (hdg : decode cc pc = .ok (.putfield 7, 3)) (kk : ∀ (H1 : Heap) (locs1 : List Loc), ah_K A D (ah_up F a (.inr (7, fs.set 1 (.ref x)))) H1 → va_S A s.heap H1 locs1 → W p l e R s m args below meth c H1 locs1 cells slots Q (F0 m (pc + 3) ls (rest))) : W p l e R s m args below meth c H locs cells slots Q (F0 m pc ls (.ref x :: .ref a :: rest)) := ah_putF E hini hP hS hF rfl inT_7 tyX7 tyX7_ok nmX7 1 (by decide) (ah_in 665 (by decide +kernel) rfl) rfl rfl rfl rfl rfl hlen hdg kk
theorem pfn_Mod_7 (E : ah_E A D p s m args meth c "AhoarchModel" cc nL) (hini : meth.name = "<init>") (hP : ah_K A D F H) (hS : va_S A s.heap H locs) {fs : List Value} (hF : F a = some (.inr (7, fs)))  (hlen : 1 < fs.length) (hdg : decode cc pc = .ok (.putfield 7, 3)) (kk : ∀ (H1 : Heap) (locs1 : List Loc), ah_K A D (ah_up F a (.inr (7, fs.set 1 (.null)))) H1 → va_S A s.heap H1 locs1 → W p l e R s m args below meth c H1 locs1 cells slots Q (F0 m (pc + 3) ls (rest))) : W p l e R s m args below meth c H locs cells slots Q (F0 m pc ls (.null :: .ref a :: rest)) := ah_putF E hini hP hS hF rfl inT_7 tyX7 tyX7_ok nmX7 1 (by decide) (ah_in 665 (by decide +kernel) rfl) rfl rfl rfl rfl rfl hlen hdg kk
theorem gf_Mod_13 (E : ah_E A D p s m args meth c "AhoarchModel" cc nL) (hP : ah_K A D F H) {fs : List Value} (hF : F a = some (.inr (7, fs))) {v : Value} (hv : fs[4]? = some v) (hdg : decode cc pc = .ok (.getfield 13, 3)) (kk : W p l e R s m args below meth c H locs cells slots Q (F0 m (pc + 3) ls (v :: rest))) : W p l e R s m args below meth c H locs cells slots Q (F0 m pc ls (.ref a :: rest)) := ah_get E hP hF rfl inT_7 4 (by decide) (ah_in 668 (by decide +kernel) rfl) rfl hv hdg kk
theorem pf_Mod_13 (E : ah_E A D p s m args meth c "AhoarchModel" cc nL) (hini : meth.name = "<init>") (hP : ah_K A D F H) (hS : va_S A s.heap H locs) {fs : List Value} (hF : F a = some (.inr (7, fs))) {x : Nat} (hlen : 4 < fs.length) (hdg : decode cc pc = .ok (.putfield 13, 3)) (kk : ∀ (H1 : Heap) (locs1 : List Loc), ah_K A D (ah_up F a (.inr (7, fs.set 4 (.ref x)))) H1 → va_S A s.heap H1 locs1 → W p l e R s m args below meth c H1 locs1 cells slots Q (F0 m (pc + 3) ls (rest))) : W p l e R s m args below meth c H locs cells slots Q (F0 m pc ls (.ref x :: .ref a :: rest)) := ah_putF E hini hP hS hF rfl inT_7 tyX7 tyX7_ok nmX7 4 (by decide) (ah_in 668 (by decide +kernel) rfl) rfl rfl rfl rfl rfl hlen hdg kk
theorem pfn_Mod_13 (E : ah_E A D p s m args meth c "AhoarchModel" cc nL) (hini : meth.name = "<init>") (hP : ah_K A D F H) (hS : va_S A s.heap H locs) {fs : List Value} (hF : F a = some (.inr (7, fs)))  (hlen : 4 < fs.length) (hdg : decode cc pc = .ok (.putfield 13, 3)) (kk : ∀ (H1 : Heap) (locs1 : List Loc), ah_K A D (ah_up F a (.inr (7, fs.set 4 (.null)))) H1 → va_S A s.heap H1 locs1 → W p l e R s m args below meth c H1 locs1 cells slots Q (F0 m (pc + 3) ls (rest))) : W p l e R s m args below meth c H locs cells slots Q (F0 m pc ls (.null :: .ref a :: rest)) := ah_putF E hini hP hS hF rfl inT_7 tyX7 tyX7_ok nmX7 4 (by decide) (ah_in 668 (by decide +kernel) rfl) rfl rfl rfl rfl rfl hlen hdg kk
theorem gf_Mod_17 (E : ah_E A D p s m args meth c "AhoarchModel" cc nL) (hP : ah_K A D F H) {fs : List Value} (hF : F a = some (.inr (7, fs))) {v : Value} (hv : fs[5]? = some v) (hdg : decode cc pc = .ok (.getfield 17, 3)) (kk : W p l e R s m args below meth c H locs cells slots Q (F0 m (pc + 3) ls (v :: rest))) : W p l e R s m args below meth c H locs cells slots Q (F0 m pc ls (.ref a :: rest)) := ah_get E hP hF rfl inT_7 5 (by decide) (ah_in 669 (by decide +kernel) rfl) rfl hv hdg kk
theorem pf_Mod_17 (E : ah_E A D p s m args meth c "AhoarchModel" cc nL) (hini : meth.name = "<init>") (hP : ah_K A D F H) (hS : va_S A s.heap H locs) {fs : List Value} (hF : F a = some (.inr (7, fs))) {x : Nat} (hlen : 5 < fs.length) (hdg : decode cc pc = .ok (.putfield 17, 3)) (kk : ∀ (H1 : Heap) (locs1 : List Loc), ah_K A D (ah_up F a (.inr (7, fs.set 5 (.ref x)))) H1 → va_S A s.heap H1 locs1 → W p l e R s m args below meth c H1 locs1 cells slots Q (F0 m (pc + 3) ls (rest))) : W p l e R s m args below meth c H locs cells slots Q (F0 m pc ls (.ref x :: .ref a :: rest)) := ah_putF E hini hP hS hF rfl inT_7 tyX7 tyX7_ok nmX7 5 (by decide) (ah_in 669 (by decide +kernel) rfl) rfl rfl rfl rfl rfl hlen hdg kk
theorem pfn_Mod_17 (E : ah_E A D p s m args meth c "AhoarchModel" cc nL) (hini : meth.name = "<init>") (hP : ah_K A D F H) (hS : va_S A s.heap H locs) {fs : List Value} (hF : F a = some (.inr (7, fs)))  (hlen : 5 < fs.length) (hdg : decode cc pc = .ok (.putfield 17, 3)) (kk : ∀ (H1 : Heap) (locs1 : List Loc), ah_K A D (ah_up F a (.inr (7, fs.set 5 (.null)))) H1 → va_S A s.heap H1 locs1 → W p l e R s m args below meth c H1 locs1 cells slots Q (F0 m (pc + 3) ls (rest))) : W p l e R s m args below meth c H locs cells slots Q (F0 m pc ls (.null :: .ref a :: rest)) := ah_putF E hini hP hS hF rfl inT_7 tyX7 tyX7_ok nmX7 5 (by decide) (ah_in 669 (by decide +kernel) rfl) rfl rfl rfl rfl rfl hlen hdg kk
theorem gf_Mod_20 (E : ah_E A D p s m args meth c "AhoarchModel" cc nL) (hP : ah_K A D F H) {fs : List Value} (hF : F a = some (.inr (7, fs))) {v : Value} (hv : fs[6]? = some v) (hdg : decode cc pc = .ok (.getfield 20, 3)) (kk : W p l e R s m args below meth c H locs cells slots Q (F0 m (pc + 3) ls (v :: rest))) : W p l e R s m args below meth c H locs cells slots Q (F0 m pc ls (.ref a :: rest)) := ah_get E hP hF rfl inT_7 6 (by decide) (ah_in 670 (by decide +kernel) rfl) rfl hv hdg kk
theorem pf_Mod_20 (E : ah_E A D p s m args meth c "AhoarchModel" cc nL) (hini : meth.name = "<init>") (hP : ah_K A D F H) (hS : va_S A s.heap H locs) {fs : List Value} (hF : F a = some (.inr (7, fs))) {x : Nat} (hlen : 6 < fs.length) (hdg : decode cc pc = .ok (.putfield 20, 3)) (kk : ∀ (H1 : Heap) (locs1 : List Loc), ah_K A D (ah_up F a (.inr (7, fs.set 6 (.ref x)))) H1 → va_S A s.heap H1 locs1 → W p l e R s m args below meth c H1 locs1 cells slots Q (F0 m (pc + 3) ls (rest))) : W p l e R s m args below meth c H locs cells slots Q (F0 m pc ls (.ref x :: .ref a :: rest)) := ah_putF E hini hP hS hF rfl inT_7 tyX7 tyX7_ok nmX7 6 (by decide) (ah_in 670 (by decide +kernel) rfl) rfl rfl rfl rfl rfl hlen hdg kk
theorem pfn_Mod_20 (E : ah_E A D p s m args meth c "AhoarchModel" cc nL) (hini : meth.name = "<init>") (hP : ah_K A D F H) (hS : va_S A s.heap H locs) {fs : List Value} (hF : F a = some (.inr (7, fs)))  (hlen : 6 < fs.length) (hdg : decode cc pc = .ok (.putfield 20, 3)) (kk : ∀ (H1 : Heap) (locs1 : List Loc), ah_K A D (ah_up F a (.inr (7, fs.set 6 (.null)))) H1 → va_S A s.heap H1 locs1 → W p l e R s m args below meth c H1 locs1 cells slots Q (F0 m (pc + 3) ls (rest))) : W p l e R s m args below meth c H locs cells slots Q (F0 m pc ls (.null :: .ref a :: rest)) := ah_putF E hini hP hS hF rfl inT_7 tyX7 tyX7_ok nmX7 6 (by decide) (ah_in 670 (by decide +kernel) rfl) rfl rfl rfl rfl rfl hlen hdg kk
theorem gf_Mod_23 (E : ah_E A D p s m args meth c "AhoarchModel" cc nL) (hP : ah_K A D F H) {fs : List Value} (hF : F a = some (.inr (7, fs))) {v : Value} (hv : fs[7]? = some v) (hdg : decode cc pc = .ok (.getfield 23, 3)) (kk : W p l e R s m args below meth c H locs cells slots Q (F0 m (pc + 3) ls (v :: rest))) : W p l e R s m args below meth c H locs cells slots Q (F0 m pc ls (.ref a :: rest)) := ah_get E hP hF rfl inT_7 7 (by decide) (ah_in 671 (by decide +kernel) rfl) rfl hv hdg kk
theorem pf_Mod_23 (E : ah_E A D p s m args meth c "AhoarchModel" cc nL) (hini : meth.name = "<init>") (hP : ah_K A D F H) (hS : va_S A s.heap H locs) {fs : List Value} (hF : F a = some (.inr (7, fs))) {x : Nat} (hlen : 7 < fs.length) (hdg : decode cc pc = .ok (.putfield 23, 3)) (kk : ∀ (H1 : Heap) (locs1 : List Loc), ah_K A D (ah_up F a (.inr (7, fs.set 7 (.ref x)))) H1 → va_S A s.heap H1 locs1 → W p l e R s m args below meth c H1 locs1 cells slots Q (F0 m (pc + 3) ls (rest))) : W p l e R s m args below meth c H locs cells slots Q (F0 m pc ls (.ref x :: .ref a :: rest)) := ah_putF E hini hP hS hF rfl inT_7 tyX7 tyX7_ok nmX7 7 (by decide) (ah_in 671 (by decide +kernel) rfl) rfl rfl rfl rfl rfl hlen hdg kk
theorem pfn_Mod_23 (E : ah_E A D p s m args meth c "AhoarchModel" cc nL) (hini : meth.name = "<init>") (hP : ah_K A D F H) (hS : va_S A s.heap H locs) {fs : List Value} (hF : F a = some (.inr (7, fs)))  (hlen : 7 < fs.length) (hdg : decode cc pc = .ok (.putfield 23, 3)) (kk : ∀ (H1 : Heap) (locs1 : List Loc), ah_K A D (ah_up F a (.inr (7, fs.set 7 (.null)))) H1 → va_S A s.heap H1 locs1 → W p l e R s m args below meth c H1 locs1 cells slots Q (F0 m (pc + 3) ls (rest))) : W p l e R s m args below meth c H locs cells slots Q (F0 m pc ls (.null :: .ref a :: rest)) := ah_putF E hini hP hS hF rfl inT_7 tyX7 tyX7_ok nmX7 7 (by decide) (ah_in 671 (by decide +kernel) rfl) rfl rfl rfl rfl rfl hlen hdg kk
theorem gf_Mod_26 (E : ah_E A D p s m args meth c "AhoarchModel" cc nL) (hP : ah_K A D F H) {fs : List Value} (hF : F a = some (.inr (7, fs))) {v : Value} (hv : fs[8]? = some v) (hdg : decode cc pc = .ok (.getfield 26, 3)) (kk : W p l e R s m args below meth c H locs cells slots Q (F0 m (pc + 3) ls (v :: rest))) : W p l e R s m args below meth c H locs cells slots Q (F0 m pc ls (.ref a :: rest)) := ah_get E hP hF rfl inT_7 8 (by decide) (ah_in 672 (by decide +kernel) rfl) rfl hv hdg kk
theorem pf_Mod_26 (E : ah_E A D p s m args meth c "AhoarchModel" cc nL) (hini : meth.name = "<init>") (hP : ah_K A D F H) (hS : va_S A s.heap H locs) {fs : List Value} (hF : F a = some (.inr (7, fs))) {x : Nat} (hlen : 8 < fs.length) (hdg : decode cc pc = .ok (.putfield 26, 3)) (kk : ∀ (H1 : Heap) (locs1 : List Loc), ah_K A D (ah_up F a (.inr (7, fs.set 8 (.ref x)))) H1 → va_S A s.heap H1 locs1 → W p l e R s m args below meth c H1 locs1 cells slots Q (F0 m (pc + 3) ls (rest))) : W p l e R s m args below meth c H locs cells slots Q (F0 m pc ls (.ref x :: .ref a :: rest)) := ah_putF E hini hP hS hF rfl inT_7 tyX7 tyX7_ok nmX7 8 (by decide) (ah_in 672 (by decide +kernel) rfl) rfl rfl rfl rfl rfl hlen hdg kk
theorem pfn_Mod_26 (E : ah_E A D p s m args meth c "AhoarchModel" cc nL) (hini : meth.name = "<init>") (hP : ah_K A D F H) (hS : va_S A s.heap H locs) {fs : List Value} (hF : F a = some (.inr (7, fs)))  (hlen : 8 < fs.length) (hdg : decode cc pc = .ok (.putfield 26, 3)) (kk : ∀ (H1 : Heap) (locs1 : List Loc), ah_K A D (ah_up F a (.inr (7, fs.set 8 (.null)))) H1 → va_S A s.heap H1 locs1 → W p l e R s m args below meth c H1 locs1 cells slots Q (F0 m (pc + 3) ls (rest))) : W p l e R s m args below meth c H locs cells slots Q (F0 m pc ls (.null :: .ref a :: rest)) := ah_putF E hini hP hS hF rfl inT_7 tyX7 tyX7_ok nmX7 8 (by decide) (ah_in 672 (by decide +kernel) rfl) rfl rfl rfl rfl rfl hlen hdg kk
theorem gf_Mod_29 (E : ah_E A D p s m args meth c "AhoarchModel" cc nL) (hP : ah_K A D F H) {fs : List Value} (hF : F a = some (.inr (7, fs))) {v : Value} (hv : fs[9]? = some v) (hdg : decode cc pc = .ok (.getfield 29, 3)) (kk : W p l e R s m args below meth c H locs cells slots Q (F0 m (pc + 3) ls (v :: rest))) : W p l e R s m args below meth c H locs cells slots Q (F0 m pc ls (.ref a :: rest)) := ah_get E hP hF rfl inT_7 9 (by decide) (ah_in 673 (by decide +kernel) rfl) rfl hv hdg kk
theorem pf_Mod_29 (E : ah_E A D p s m args meth c "AhoarchModel" cc nL) (hini : meth.name = "<init>") (hP : ah_K A D F H) (hS : va_S A s.heap H locs) {fs : List Value} (hF : F a = some (.inr (7, fs))) {x : Nat} (hlen : 9 < fs.length) (hdg : decode cc pc = .ok (.putfield 29, 3)) (kk : ∀ (H1 : Heap) (locs1 : List Loc), ah_K A D (ah_up F a (.inr (7, fs.set 9 (.ref x)))) H1 → va_S A s.heap H1 locs1 → W p l e R s m args below meth c H1 locs1 cells slots Q (F0 m (pc + 3) ls (rest))) : W p l e R s m args below meth c H locs cells slots Q (F0 m pc ls (.ref x :: .ref a :: rest)) := ah_putF E hini hP hS hF rfl inT_7 tyX7 tyX7_ok nmX7 9 (by decide) (ah_in 673 (by decide +kernel) rfl) rfl rfl rfl rfl rfl hlen hdg kk
theorem pfn_Mod_29 (E : ah_E A D p s m args meth c "AhoarchModel" cc nL) (hini : meth.name = "<init>") (hP : ah_K A D F H) (hS : va_S A s.heap H locs) {fs : List Value} (hF : F a = some (.inr (7, fs)))  (hlen : 9 < fs.length) (hdg : decode cc pc = .ok (.putfield 29, 3)) (kk : ∀ (H1 : Heap) (locs1 : List Loc), ah_K A D (ah_up F a (.inr (7, fs.set 9 (.null)))) H1 → va_S A s.heap H1 locs1 → W p l e R s m args below meth c H1 locs1 cells slots Q (F0 m (pc + 3) ls (rest))) : W p l e R s m args below meth c H locs cells slots Q (F0 m pc ls (.null :: .ref a :: rest)) := ah_putF E hini hP hS hF rfl inT_7 tyX7 tyX7_ok nmX7 9 (by decide) (ah_in 673 (by decide +kernel) rfl) rfl rfl rfl rfl rfl hlen hdg kk
theorem gf_Mod_32 (E : ah_E A D p s m args meth c "AhoarchModel" cc nL) (hP : ah_K A D F H) {fs : List Value} (hF : F a = some (.inr (7, fs))) {v : Value} (hv : fs[0]? = some v) (hdg : decode cc pc = .ok (.getfield 32, 3)) (kk : W p l e R s m args below meth c H locs cells slots Q (F0 m (pc + 3) ls (v :: rest))) : W p l e R s m args below meth c H locs cells slots Q (F0 m pc ls (.ref a :: rest)) := ah_get E hP hF rfl inT_7 0 (by decide) (ah_in 664 (by decide +kernel) rfl) rfl hv hdg kk
theorem pf_Mod_32 (E : ah_E A D p s m args meth c "AhoarchModel" cc nL) (hP : ah_K A D F H) (hS : va_S A s.heap H locs) {fs : List Value} (hF : F a = some (.inr (7, fs))) {x : Int32} (hlen : 0 < fs.length) (hdg : decode cc pc = .ok (.putfield 32, 3)) (kk : ∀ (H1 : Heap) (locs1 : List Loc), ah_K A D (ah_up F a (.inr (7, fs.set 0 (.int x)))) H1 → va_S A s.heap H1 locs1 → W p l e R s m args below meth c H1 locs1 cells slots Q (F0 m (pc + 3) ls (rest))) : W p l e R s m args below meth c H locs cells slots Q (F0 m pc ls (.int x :: .ref a :: rest)) := ah_put E hP hS hF rfl inT_7 tyX7 tyX7_ok nmX7 0 (by decide) (ah_in 664 (by decide +kernel) rfl) rfl rfl rfl rfl hlen hdg kk
theorem gf_Mod_36 (E : ah_E A D p s m args meth c "AhoarchModel" cc nL) (hP : ah_K A D F H) {fs : List Value} (hF : F a = some (.inr (7, fs))) {v : Value} (hv : fs[3]? = some v) (hdg : decode cc pc = .ok (.getfield 36, 3)) (kk : W p l e R s m args below meth c H locs cells slots Q (F0 m (pc + 3) ls (v :: rest))) : W p l e R s m args below meth c H locs cells slots Q (F0 m pc ls (.ref a :: rest)) := ah_get E hP hF rfl inT_7 3 (by decide) (ah_in 667 (by decide +kernel) rfl) rfl hv hdg kk
theorem pf_Mod_36 (E : ah_E A D p s m args meth c "AhoarchModel" cc nL) (hP : ah_K A D F H) (hS : va_S A s.heap H locs) {fs : List Value} (hF : F a = some (.inr (7, fs))) {x : Int32} (hlen : 3 < fs.length) (hdg : decode cc pc = .ok (.putfield 36, 3)) (kk : ∀ (H1 : Heap) (locs1 : List Loc), ah_K A D (ah_up F a (.inr (7, fs.set 3 (.int x)))) H1 → va_S A s.heap H1 locs1 → W p l e R s m args below meth c H1 locs1 cells slots Q (F0 m (pc + 3) ls (rest))) : W p l e R s m args below meth c H locs cells slots Q (F0 m pc ls (.int x :: .ref a :: rest)) := ah_put E hP hS hF rfl inT_7 tyX7 tyX7_ok nmX7 3 (by decide) (ah_in 667 (by decide +kernel) rfl) rfl rfl rfl rfl hlen hdg kk
theorem gf_Mod_43 (E : ah_E A D p s m args meth c "AhoarchModel" cc nL) (hP : ah_K A D F H) {fs : List Value} (hF : F a = some (.inr (7, fs))) {v : Value} (hv : fs[2]? = some v) (hdg : decode cc pc = .ok (.getfield 43, 3)) (kk : W p l e R s m args below meth c H locs cells slots Q (F0 m (pc + 3) ls (v :: rest))) : W p l e R s m args below meth c H locs cells slots Q (F0 m pc ls (.ref a :: rest)) := ah_get E hP hF rfl inT_7 2 (by decide) (ah_in 666 (by decide +kernel) rfl) rfl hv hdg kk
theorem pf_Mod_43 (E : ah_E A D p s m args meth c "AhoarchModel" cc nL) (hP : ah_K A D F H) (hS : va_S A s.heap H locs) {fs : List Value} (hF : F a = some (.inr (7, fs))) {x : Int32} (hlen : 2 < fs.length) (hdg : decode cc pc = .ok (.putfield 43, 3)) (kk : ∀ (H1 : Heap) (locs1 : List Loc), ah_K A D (ah_up F a (.inr (7, fs.set 2 (.int x)))) H1 → va_S A s.heap H1 locs1 → W p l e R s m args below meth c H1 locs1 cells slots Q (F0 m (pc + 3) ls (rest))) : W p l e R s m args below meth c H locs cells slots Q (F0 m pc ls (.int x :: .ref a :: rest)) := ah_put E hP hS hF rfl inT_7 tyX7 tyX7_ok nmX7 2 (by decide) (ah_in 666 (by decide +kernel) rfl) rfl rfl rfl rfl hlen hdg kk
theorem gf_Mod_67 (E : ah_E A D p s m args meth c "AhoarchModel" cc nL) (hP : ah_K A D F H) {fs : List Value} (hF : F a = some (.inr (7, fs))) {v : Value} (hv : fs[10]? = some v) (hdg : decode cc pc = .ok (.getfield 67, 3)) (kk : W p l e R s m args below meth c H locs cells slots Q (F0 m (pc + 3) ls (v :: rest))) : W p l e R s m args below meth c H locs cells slots Q (F0 m pc ls (.ref a :: rest)) := ah_get E hP hF rfl inT_7 10 (by decide) (ah_in 674 (by decide +kernel) rfl) rfl hv hdg kk
theorem pf_Mod_67 (E : ah_E A D p s m args meth c "AhoarchModel" cc nL) (hP : ah_K A D F H) (hS : va_S A s.heap H locs) {fs : List Value} (hF : F a = some (.inr (7, fs))) {x : Int32} (hlen : 10 < fs.length) (hdg : decode cc pc = .ok (.putfield 67, 3)) (kk : ∀ (H1 : Heap) (locs1 : List Loc), ah_K A D (ah_up F a (.inr (7, fs.set 10 (.int x)))) H1 → va_S A s.heap H1 locs1 → W p l e R s m args below meth c H1 locs1 cells slots Q (F0 m (pc + 3) ls (rest))) : W p l e R s m args below meth c H locs cells slots Q (F0 m pc ls (.int x :: .ref a :: rest)) := ah_put E hP hS hF rfl inT_7 tyX7 tyX7_ok nmX7 10 (by decide) (ah_in 674 (by decide +kernel) rfl) rfl rfl rfl rfl hlen hdg kk
theorem gf_Mod_78 (E : ah_E A D p s m args meth c "AhoarchModel" cc nL) (hP : ah_K A D F H) {fs : List Value} (hF : F a = some (.inr (7, fs))) {v : Value} (hv : fs[11]? = some v) (hdg : decode cc pc = .ok (.getfield 78, 3)) (kk : W p l e R s m args below meth c H locs cells slots Q (F0 m (pc + 3) ls (v :: rest))) : W p l e R s m args below meth c H locs cells slots Q (F0 m pc ls (.ref a :: rest)) := ah_get E hP hF rfl inT_7 11 (by decide) (ah_in 675 (by decide +kernel) rfl) rfl hv hdg kk
theorem pf_Mod_78 (E : ah_E A D p s m args meth c "AhoarchModel" cc nL) (hP : ah_K A D F H) (hS : va_S A s.heap H locs) {fs : List Value} (hF : F a = some (.inr (7, fs))) {x : Int32} (hlen : 11 < fs.length) (hdg : decode cc pc = .ok (.putfield 78, 3)) (kk : ∀ (H1 : Heap) (locs1 : List Loc), ah_K A D (ah_up F a (.inr (7, fs.set 11 (.int x)))) H1 → va_S A s.heap H1 locs1 → W p l e R s m args below meth c H1 locs1 cells slots Q (F0 m (pc + 3) ls (rest))) : W p l e R s m args below meth c H locs cells slots Q (F0 m pc ls (.int x :: .ref a :: rest)) := ah_put E hP hS hF rfl inT_7 tyX7 tyX7_ok nmX7 11 (by decide) (ah_in 675 (by decide +kernel) rfl) rfl rfl rfl rfl hlen hdg kk
theorem gf_Mod_90 (E : ah_E A D p s m args meth c "AhoarchModel" cc nL) (hP : ah_K A D F H) {fs : List Value} (hF : F a = some (.inr (7, fs))) {v : Value} (hv : fs[12]? = some v) (hdg : decode cc pc = .ok (.getfield 90, 3)) (kk : W p l e R s m args below meth c H locs cells slots Q (F0 m (pc + 3) ls (v :: rest))) : W p l e R s m args below meth c H locs cells slots Q (F0 m pc ls (.ref a :: rest)) := ah_get E hP hF rfl inT_7 12 (by decide) (ah_in 676 (by decide +kernel) rfl) rfl hv hdg kk
theorem pf_Mod_90 (E : ah_E A D p s m args meth c "AhoarchModel" cc nL) (hP : ah_K A D F H) (hS : va_S A s.heap H locs) {fs : List Value} (hF : F a = some (.inr (7, fs))) {x : Int32} (hlen : 12 < fs.length) (hdg : decode cc pc = .ok (.putfield 90, 3)) (kk : ∀ (H1 : Heap) (locs1 : List Loc), ah_K A D (ah_up F a (.inr (7, fs.set 12 (.int x)))) H1 → va_S A s.heap H1 locs1 → W p l e R s m args below meth c H1 locs1 cells slots Q (F0 m (pc + 3) ls (rest))) : W p l e R s m args below meth c H locs cells slots Q (F0 m pc ls (.int x :: .ref a :: rest)) := ah_put E hP hS hF rfl inT_7 tyX7 tyX7_ok nmX7 12 (by decide) (ah_in 676 (by decide +kernel) rfl) rfl rfl rfl rfl hlen hdg kk
theorem gf_Mod_93 (E : ah_E A D p s m args meth c "AhoarchModel" cc nL) (hP : ah_K A D F H) {fs : List Value} (hF : F a = some (.inr (7, fs))) {v : Value} (hv : fs[13]? = some v) (hdg : decode cc pc = .ok (.getfield 93, 3)) (kk : W p l e R s m args below meth c H locs cells slots Q (F0 m (pc + 3) ls (v :: rest))) : W p l e R s m args below meth c H locs cells slots Q (F0 m pc ls (.ref a :: rest)) := ah_get E hP hF rfl inT_7 13 (by decide) (ah_in 677 (by decide +kernel) rfl) rfl hv hdg kk
theorem pf_Mod_93 (E : ah_E A D p s m args meth c "AhoarchModel" cc nL) (hP : ah_K A D F H) (hS : va_S A s.heap H locs) {fs : List Value} (hF : F a = some (.inr (7, fs))) {x : Int32} (hlen : 13 < fs.length) (hdg : decode cc pc = .ok (.putfield 93, 3)) (kk : ∀ (H1 : Heap) (locs1 : List Loc), ah_K A D (ah_up F a (.inr (7, fs.set 13 (.int x)))) H1 → va_S A s.heap H1 locs1 → W p l e R s m args below meth c H1 locs1 cells slots Q (F0 m (pc + 3) ls (rest))) : W p l e R s m args below meth c H locs cells slots Q (F0 m pc ls (.int x :: .ref a :: rest)) := ah_put E hP hS hF rfl inT_7 tyX7 tyX7_ok nmX7 13 (by decide) (ah_in 677 (by decide +kernel) rfl) rfl rfl rfl rfl hlen hdg kk
theorem nw_Aho_7 (E : ah_E A D p s m args meth c "Ahoarch" cc nL) (hP : ah_K A D F H) (hS : va_S A s.heap H locs) (hcells : cells + 1 ≤ R.cells) (hslots : slots + 3 ≤ R.slots) (hdg : decode cc pc = .ok (.new 7, 3)) (kk : ∀ (q : Nat) (H1 : Heap), F q = none → ah_K A D (ah_up F q (.inr (0, [.null, .int 0, .int 0]))) H1 → va_S A s.heap H1 locs → W p l e R s m args below meth c H1 locs (cells + 1) (slots + 3) Q (F0 m (pc + 3) ls (.ref q :: rest))) : W p l e R s m args below meth c H locs cells slots Q (F0 m pc ls (rest)) := ah_new (N := 3) E hP hS rfl inT_0 tyX0 tyX0_ok (ah_in 25 (by decide +kernel) rfl) (ah_in 26 (by decide +kernel) rfl) (ah_in 2 (by decide +kernel) rfl) (fun j hj => by rcases (show j = 0 ∨ j = 1 ∨ j = 2 by omega) with rfl | rfl | rfl <;> rfl) hcells hslots hdg kk
theorem nw_Aho_16 (E : ah_E A D p s m args meth c "Ahoarch" cc nL) (hP : ah_K A D F H) (hS : va_S A s.heap H locs) (hcells : cells + 1 ≤ R.cells) (hslots : slots + 2 ≤ R.slots) (hdg : decode cc pc = .ok (.new 16, 3)) (kk : ∀ (q : Nat) (H1 : Heap), F q = none → ah_K A D (ah_up F q (.inr (3, [.null, .int 0]))) H1 → va_S A s.heap H1 locs → W p l e R s m args below meth c H1 locs (cells + 1) (slots + 2) Q (F0 m (pc + 3) ls (.ref q :: rest))) : W p l e R s m args below meth c H locs cells slots Q (F0 m pc ls (rest)) := ah_new (N := 2) E hP hS rfl inT_3 tyX3 tyX3_ok (ah_in 44 (by decide +kernel) rfl) (ah_in 45 (by decide +kernel) rfl) (ah_in 3 (by decide +kernel) rfl) (fun j hj => by rcases (show j = 0 ∨ j = 1 by omega) with rfl | rfl <;> rfl) hcells hslots hdg kk
theorem nw_Aho_23 (E : ah_E A D p s m args meth c "Ahoarch" cc nL) (hP : ah_K A D F H) (hS : va_S A s.heap H locs) (hcells : cells + 1 ≤ R.cells) (hslots : slots + 3 ≤ R.slots) (hdg : decode cc pc = .ok (.new 23, 3)) (kk : ∀ (q : Nat) (H1 : Heap), F q = none → ah_K A D (ah_up F q (.inr (1, [.null, .null, .int 0]))) H1 → va_S A s.heap H1 locs → W p l e R s m args below meth c H1 locs (cells + 1) (slots + 3) Q (F0 m (pc + 3) ls (.ref q :: rest))) : W p l e R s m args below meth c H locs cells slots Q (F0 m pc ls (rest)) := ah_new (N := 3) E hP hS rfl inT_1 tyX1 tyX1_ok (ah_in 61 (by decide +kernel) rfl) (ah_in 62 (by decide +kernel) rfl) (ah_in 4 (by decide +kernel) rfl) (fun j hj => by rcases (show j = 0 ∨ j = 1 ∨ j = 2 by omega) with rfl | rfl | rfl <;> rfl) hcells hslots hdg kk
theorem nw_Aho_30 (E : ah_E A D p s m args meth c "Ahoarch" cc nL) (hP : ah_K A D F H) (hS : va_S A s.heap H locs) (hcells : cells + 1 ≤ R.cells) (hslots : slots + 2 ≤ R.slots) (hdg : decode cc pc = .ok (.new 30, 3)) (kk : ∀ (q : Nat) (H1 : Heap), F q = none → ah_K A D (ah_up F q (.inr (4, [.null, .int 0]))) H1 → va_S A s.heap H1 locs → W p l e R s m args below meth c H1 locs (cells + 1) (slots + 2) Q (F0 m (pc + 3) ls (.ref q :: rest))) : W p l e R s m args below meth c H locs cells slots Q (F0 m pc ls (rest)) := ah_new (N := 2) E hP hS rfl inT_4 tyX4 tyX4_ok (ah_in 80 (by decide +kernel) rfl) (ah_in 81 (by decide +kernel) rfl) (ah_in 5 (by decide +kernel) rfl) (fun j hj => by rcases (show j = 0 ∨ j = 1 by omega) with rfl | rfl <;> rfl) hcells hslots hdg kk
theorem nw_Aho_37 (E : ah_E A D p s m args meth c "Ahoarch" cc nL) (hP : ah_K A D F H) (hS : va_S A s.heap H locs) (hcells : cells + 1 ≤ R.cells) (hslots : slots + 2 ≤ R.slots) (hdg : decode cc pc = .ok (.new 37, 3)) (kk : ∀ (q : Nat) (H1 : Heap), F q = none → ah_K A D (ah_up F q (.inr (5, [.long 0, .int 0]))) H1 → va_S A s.heap H1 locs → W p l e R s m args below meth c H1 locs (cells + 1) (slots + 2) Q (F0 m (pc + 3) ls (.ref q :: rest))) : W p l e R s m args below meth c H locs cells slots Q (F0 m pc ls (rest)) := ah_new (N := 2) E hP hS rfl inT_5 tyX5 tyX5_ok (ah_in 95 (by decide +kernel) rfl) (ah_in 96 (by decide +kernel) rfl) (ah_in 6 (by decide +kernel) rfl) (fun j hj => by rcases (show j = 0 ∨ j = 1 by omega) with rfl | rfl <;> rfl) hcells hslots hdg kk
theorem nw_Book_9 (E : ah_E A D p s m args meth c "Ahoarch$Book" cc nL) (hP : ah_K A D F H) (hS : va_S A s.heap H locs) (hcells : cells + 1 ≤ R.cells) (hslots : slots + 3 ≤ R.slots) (hdg : decode cc pc = .ok (.new 9, 3)) (kk : ∀ (q : Nat) (H1 : Heap), F q = none → ah_K A D (ah_up F q (.inr (2, [.int 0, .null, .null]))) H1 → va_S A s.heap H1 locs → W p l e R s m args below meth c H1 locs (cells + 1) (slots + 3) Q (F0 m (pc + 3) ls (.ref q :: rest))) : W p l e R s m args below meth c H locs cells slots Q (F0 m pc ls (rest)) := ah_new (N := 3) E hP hS rfl inT_2 tyX2 tyX2_ok (ah_in 31 (by decide +kernel) rfl) (ah_in 398 (by decide +kernel) rfl) (ah_in 13 (by decide +kernel) rfl) (fun j hj => by rcases (show j = 0 ∨ j = 1 ∨ j = 2 by omega) with rfl | rfl | rfl <;> rfl) hcells hslots hdg kk
theorem nw_Choice_9 (E : ah_E A D p s m args meth c "Ahoarch$Choice" cc nL) (hP : ah_K A D F H) (hS : va_S A s.heap H locs) (hcells : cells + 1 ≤ R.cells) (hslots : slots + 3 ≤ R.slots) (hdg : decode cc pc = .ok (.new 9, 3)) (kk : ∀ (q : Nat) (H1 : Heap), F q = none → ah_K A D (ah_up F q (.inr (2, [.int 0, .null, .null]))) H1 → va_S A s.heap H1 locs → W p l e R s m args below meth c H1 locs (cells + 1) (slots + 3) Q (F0 m (pc + 3) ls (.ref q :: rest))) : W p l e R s m args below meth c H locs cells slots Q (F0 m pc ls (rest)) := ah_new (N := 3) E hP hS rfl inT_2 tyX2 tyX2_ok (ah_in 67 (by decide +kernel) rfl) (ah_in 398 (by decide +kernel) rfl) (ah_in 13 (by decide +kernel) rfl) (fun j hj => by rcases (show j = 0 ∨ j = 1 ∨ j = 2 by omega) with rfl | rfl | rfl <;> rfl) hcells hslots hdg kk
theorem nw_Pattern_17 (E : ah_E A D p s m args meth c "Ahoarch$Pattern" cc nL) (hP : ah_K A D F H) (hS : va_S A s.heap H locs) (hcells : cells + 1 ≤ R.cells) (hslots : slots + 2 ≤ R.slots) (hdg : decode cc pc = .ok (.new 17, 3)) (kk : ∀ (q : Nat) (H1 : Heap), F q = none → ah_K A D (ah_up F q (.inr (5, [.long 0, .int 0]))) H1 → va_S A s.heap H1 locs → W p l e R s m args below meth c H1 locs (cells + 1) (slots + 2) Q (F0 m (pc + 3) ls (.ref q :: rest))) : W p l e R s m args below meth c H locs cells slots Q (F0 m pc ls (rest)) := ah_new (N := 2) E hP hS rfl inT_5 tyX5 tyX5_ok (ah_in 403 (by decide +kernel) rfl) (ah_in 96 (by decide +kernel) rfl) (ah_in 6 (by decide +kernel) rfl) (fun j hj => by rcases (show j = 0 ∨ j = 1 by omega) with rfl | rfl <;> rfl) hcells hslots hdg kk
theorem nw_Word_10 (E : ah_E A D p s m args meth c "Ahoarch$Word" cc nL) (hP : ah_K A D F H) (hS : va_S A s.heap H locs) (hcells : cells + 1 ≤ R.cells) (hslots : slots + 2 ≤ R.slots) (hdg : decode cc pc = .ok (.new 10, 3)) (kk : ∀ (q : Nat) (H1 : Heap), F q = none → ah_K A D (ah_up F q (.inr (5, [.long 0, .int 0]))) H1 → va_S A s.heap H1 locs → W p l e R s m args below meth c H1 locs (cells + 1) (slots + 2) Q (F0 m (pc + 3) ls (.ref q :: rest))) : W p l e R s m args below meth c H locs cells slots Q (F0 m pc ls (rest)) := ah_new (N := 2) E hP hS rfl inT_5 tyX5 tyX5_ok (ah_in 371 (by decide +kernel) rfl) (ah_in 96 (by decide +kernel) rfl) (ah_in 6 (by decide +kernel) rfl) (fun j hj => by rcases (show j = 0 ∨ j = 1 by omega) with rfl | rfl <;> rfl) hcells hslots hdg kk
theorem nw_Law_8 (E : ah_E A D p s m args meth c "AhoarchLaw" cc nL) (hP : ah_K A D F H) (hS : va_S A s.heap H locs) (hcells : cells + 1 ≤ R.cells) (hslots : slots + 6 ≤ R.slots) (hdg : decode cc pc = .ok (.new 8, 3)) (kk : ∀ (q : Nat) (H1 : Heap), F q = none → ah_K A D (ah_up F q (.inr (6, [.null, .null, .null, .null, .null, .int 0]))) H1 → va_S A s.heap H1 locs → W p l e R s m args below meth c H1 locs (cells + 1) (slots + 6) Q (F0 m (pc + 3) ls (.ref q :: rest))) : W p l e R s m args below meth c H locs cells slots Q (F0 m pc ls (rest)) := ah_new (N := 6) E hP hS rfl inT_6 tyX6 tyX6_ok (ah_in 17 (by decide +kernel) rfl) (ah_in 18 (by decide +kernel) rfl) (ah_in 1 (by decide +kernel) rfl) (fun j hj => by rcases (show j = 0 ∨ j = 1 ∨ j = 2 ∨ j = 3 ∨ j = 4 ∨ j = 5 by omega) with rfl | rfl | rfl | rfl | rfl | rfl <;> rfl) hcells hslots hdg kk
theorem nw_Law_74 (E : ah_E A D p s m args meth c "AhoarchLaw" cc nL) (hP : ah_K A D F H) (hS : va_S A s.heap H locs) (hcells : cells + 1 ≤ R.cells) (hslots : slots + 14 ≤ R.slots) (hdg : decode cc pc = .ok (.new 74, 3)) (kk : ∀ (q : Nat) (H1 : Heap), F q = none → ah_K A D (ah_up F q (.inr (7, [.int 0, .null, .int 0, .int 0, .null, .null, .null, .null, .null, .null, .int 0, .int 0, .int 0, .int 0]))) H1 → va_S A s.heap H1 locs → W p l e R s m args below meth c H1 locs (cells + 1) (slots + 14) Q (F0 m (pc + 3) ls (.ref q :: rest))) : W p l e R s m args below meth c H locs cells slots Q (F0 m pc ls (rest)) := ah_new (N := 14) E hP hS rfl inT_7 tyX7 tyX7_ok (ah_in 658 (by decide +kernel) rfl) (ah_in 659 (by decide +kernel) rfl) (ah_in 7 (by decide +kernel) rfl) (fun j hj => by rcases (show j = 0 ∨ j = 1 ∨ j = 2 ∨ j = 3 ∨ j = 4 ∨ j = 5 ∨ j = 6 ∨ j = 7 ∨ j = 8 ∨ j = 9 ∨ j = 10 ∨ j = 11 ∨ j = 12 ∨ j = 13 by omega) with rfl | rfl | rfl | rfl | rfl | rfl | rfl | rfl | rfl | rfl | rfl | rfl | rfl | rfl <;> rfl) hcells hslots hdg kk
theorem oi_Aho (E : ah_E A D p s m args meth c "Ahoarch" cc nL) (hsz : ls.size = nL) (hd : decode cc pc = .ok (.invokespecial 1, 3)) (hf : 1 ≤ R.frames) (hlo : (rest.map fun v => v.category).sum + 12 ≤ R.locals) (kk : W p l e R s m args below meth c H locs cells slots Q (F0 m (pc + 3) ls (rest))) : W p l e R s m args below meth c H locs cells slots Q (F0 m pc ls (.ref a :: rest)) := W.objInit E.1 E.2.1 E.2.2.2.1 (E.2.2.2.2.1 (.methodLink "Ahoarch" 1 Lib.objectInit) (ah_in 22 (by decide +kernel) rfl)) (E.2.2.2.2.1 (.instanceMethod Lib.objectInit) (ah_in 23 (by decide +kernel) rfl)) (E.2.2.2.2.1 (.code Lib.objectInit ⟨#[0xb1]⟩ 1 none) (ah_in 24 (by decide +kernel) rfl)) rfl (hsz.trans E.2.2.1.symm) rfl hd hf (by show 2 * (F0 m pc ls (.ref a :: rest)).monitorRoom + _ + 12 ≤ _; simpa [JFrame.monitorRoom] using hlo) kk
theorem oi_Book (E : ah_E A D p s m args meth c "Ahoarch$Book" cc nL) (hsz : ls.size = nL) (hd : decode cc pc = .ok (.invokespecial 3, 3)) (hf : 1 ≤ R.frames) (hlo : (rest.map fun v => v.category).sum + 12 ≤ R.locals) (kk : W p l e R s m args below meth c H locs cells slots Q (F0 m (pc + 3) ls (rest))) : W p l e R s m args below meth c H locs cells slots Q (F0 m pc ls (.ref a :: rest)) := W.objInit E.1 E.2.1 E.2.2.2.1 (E.2.2.2.2.1 (.methodLink "Ahoarch$Book" 3 Lib.objectInit) (ah_in 30 (by decide +kernel) rfl)) (E.2.2.2.2.1 (.instanceMethod Lib.objectInit) (ah_in 23 (by decide +kernel) rfl)) (E.2.2.2.2.1 (.code Lib.objectInit ⟨#[0xb1]⟩ 1 none) (ah_in 24 (by decide +kernel) rfl)) rfl (hsz.trans E.2.2.1.symm) rfl hd hf (by show 2 * (F0 m pc ls (.ref a :: rest)).monitorRoom + _ + 12 ≤ _; simpa [JFrame.monitorRoom] using hlo) kk
theorem oi_Choice (E : ah_E A D p s m args meth c "Ahoarch$Choice" cc nL) (hsz : ls.size = nL) (hd : decode cc pc = .ok (.invokespecial 3, 3)) (hf : 1 ≤ R.frames) (hlo : (rest.map fun v => v.category).sum + 12 ≤ R.locals) (kk : W p l e R s m args below meth c H locs cells slots Q (F0 m (pc + 3) ls (rest))) : W p l e R s m args below meth c H locs cells slots Q (F0 m pc ls (.ref a :: rest)) := W.objInit E.1 E.2.1 E.2.2.2.1 (E.2.2.2.2.1 (.methodLink "Ahoarch$Choice" 3 Lib.objectInit) (ah_in 66 (by decide +kernel) rfl)) (E.2.2.2.2.1 (.instanceMethod Lib.objectInit) (ah_in 23 (by decide +kernel) rfl)) (E.2.2.2.2.1 (.code Lib.objectInit ⟨#[0xb1]⟩ 1 none) (ah_in 24 (by decide +kernel) rfl)) rfl (hsz.trans E.2.2.1.symm) rfl hd hf (by show 2 * (F0 m pc ls (.ref a :: rest)).monitorRoom + _ + 12 ≤ _; simpa [JFrame.monitorRoom] using hlo) kk
theorem oi_Pattern (E : ah_E A D p s m args meth c "Ahoarch$Pattern" cc nL) (hsz : ls.size = nL) (hd : decode cc pc = .ok (.invokespecial 1, 3)) (hf : 1 ≤ R.frames) (hlo : (rest.map fun v => v.category).sum + 12 ≤ R.locals) (kk : W p l e R s m args below meth c H locs cells slots Q (F0 m (pc + 3) ls (rest))) : W p l e R s m args below meth c H locs cells slots Q (F0 m pc ls (.ref a :: rest)) := W.objInit E.1 E.2.1 E.2.2.2.1 (E.2.2.2.2.1 (.methodLink "Ahoarch$Pattern" 1 Lib.objectInit) (ah_in 402 (by decide +kernel) rfl)) (E.2.2.2.2.1 (.instanceMethod Lib.objectInit) (ah_in 23 (by decide +kernel) rfl)) (E.2.2.2.2.1 (.code Lib.objectInit ⟨#[0xb1]⟩ 1 none) (ah_in 24 (by decide +kernel) rfl)) rfl (hsz.trans E.2.2.1.symm) rfl hd hf (by show 2 * (F0 m pc ls (.ref a :: rest)).monitorRoom + _ + 12 ≤ _; simpa [JFrame.monitorRoom] using hlo) kk
theorem oi_Stream (E : ah_E A D p s m args meth c "Ahoarch$Stream" cc nL) (hsz : ls.size = nL) (hd : decode cc pc = .ok (.invokespecial 3, 3)) (hf : 1 ≤ R.frames) (hlo : (rest.map fun v => v.category).sum + 12 ≤ R.locals) (kk : W p l e R s m args below meth c H locs cells slots Q (F0 m (pc + 3) ls (rest))) : W p l e R s m args below meth c H locs cells slots Q (F0 m pc ls (.ref a :: rest)) := W.objInit E.1 E.2.1 E.2.2.2.1 (E.2.2.2.2.1 (.methodLink "Ahoarch$Stream" 3 Lib.objectInit) (ah_in 49 (by decide +kernel) rfl)) (E.2.2.2.2.1 (.instanceMethod Lib.objectInit) (ah_in 23 (by decide +kernel) rfl)) (E.2.2.2.2.1 (.code Lib.objectInit ⟨#[0xb1]⟩ 1 none) (ah_in 24 (by decide +kernel) rfl)) rfl (hsz.trans E.2.2.1.symm) rfl hd hf (by show 2 * (F0 m pc ls (.ref a :: rest)).monitorRoom + _ + 12 ≤ _; simpa [JFrame.monitorRoom] using hlo) kk
theorem oi_Text (E : ah_E A D p s m args meth c "Ahoarch$Text" cc nL) (hsz : ls.size = nL) (hd : decode cc pc = .ok (.invokespecial 3, 3)) (hf : 1 ≤ R.frames) (hlo : (rest.map fun v => v.category).sum + 12 ≤ R.locals) (kk : W p l e R s m args below meth c H locs cells slots Q (F0 m (pc + 3) ls (rest))) : W p l e R s m args below meth c H locs cells slots Q (F0 m pc ls (.ref a :: rest)) := W.objInit E.1 E.2.1 E.2.2.2.1 (E.2.2.2.2.1 (.methodLink "Ahoarch$Text" 3 Lib.objectInit) (ah_in 85 (by decide +kernel) rfl)) (E.2.2.2.2.1 (.instanceMethod Lib.objectInit) (ah_in 23 (by decide +kernel) rfl)) (E.2.2.2.2.1 (.code Lib.objectInit ⟨#[0xb1]⟩ 1 none) (ah_in 24 (by decide +kernel) rfl)) rfl (hsz.trans E.2.2.1.symm) rfl hd hf (by show 2 * (F0 m pc ls (.ref a :: rest)).monitorRoom + _ + 12 ≤ _; simpa [JFrame.monitorRoom] using hlo) kk
theorem oi_Word (E : ah_E A D p s m args meth c "Ahoarch$Word" cc nL) (hsz : ls.size = nL) (hd : decode cc pc = .ok (.invokespecial 3, 3)) (hf : 1 ≤ R.frames) (hlo : (rest.map fun v => v.category).sum + 12 ≤ R.locals) (kk : W p l e R s m args below meth c H locs cells slots Q (F0 m (pc + 3) ls (rest))) : W p l e R s m args below meth c H locs cells slots Q (F0 m pc ls (.ref a :: rest)) := W.objInit E.1 E.2.1 E.2.2.2.1 (E.2.2.2.2.1 (.methodLink "Ahoarch$Word" 3 Lib.objectInit) (ah_in 100 (by decide +kernel) rfl)) (E.2.2.2.2.1 (.instanceMethod Lib.objectInit) (ah_in 23 (by decide +kernel) rfl)) (E.2.2.2.2.1 (.code Lib.objectInit ⟨#[0xb1]⟩ 1 none) (ah_in 24 (by decide +kernel) rfl)) rfl (hsz.trans E.2.2.1.symm) rfl hd hf (by show 2 * (F0 m pc ls (.ref a :: rest)).monitorRoom + _ + 12 ≤ _; simpa [JFrame.monitorRoom] using hlo) kk
theorem oi_Mod (E : ah_E A D p s m args meth c "AhoarchModel" cc nL) (hsz : ls.size = nL) (hd : decode cc pc = .ok (.invokespecial 1, 3)) (hf : 1 ≤ R.frames) (hlo : (rest.map fun v => v.category).sum + 12 ≤ R.locals) (kk : W p l e R s m args below meth c H locs cells slots Q (F0 m (pc + 3) ls (rest))) : W p l e R s m args below meth c H locs cells slots Q (F0 m pc ls (.ref a :: rest)) := W.objInit E.1 E.2.1 E.2.2.2.1 (E.2.2.2.2.1 (.methodLink "AhoarchModel" 1 Lib.objectInit) (ah_in 663 (by decide +kernel) rfl)) (E.2.2.2.2.1 (.instanceMethod Lib.objectInit) (ah_in 23 (by decide +kernel) rfl)) (E.2.2.2.2.1 (.code Lib.objectInit ⟨#[0xb1]⟩ 1 none) (ah_in 24 (by decide +kernel) rfl)) rfl (hsz.trans E.2.2.1.symm) rfl hd hf (by show 2 * (F0 m pc ls (.ref a :: rest)).monitorRoom + _ + 12 ≤ _; simpa [JFrame.monitorRoom] using hlo) kk
theorem mi_Aho_117 (E : ah_E A D p s m args meth c "Ahoarch" cc nL) (hsz : ls.size = nL) {x y : Nat} (hx : x < 2 ^ 31) (hy : y < 2 ^ 31) (hf : 1 ≤ R.frames) (hlo : (rest.map fun v => v.category).sum + 13 ≤ R.locals) (hc : cells ≤ R.cells) (hs : slots ≤ R.slots) (hdg : decode cc pc = .ok (.invokestatic 117, 3)) (kk : W p l e R s m args below meth c H locs cells slots Q (F0 m (pc + 3) ls (.int (nI (min x y)) :: rest))) : W p l e R s m args below meth c H locs cells slots Q (F0 m pc ls (.int (nI y) :: .int (nI x) :: rest)) := va_mmin E.1 E.2.1 (E.2.2.1.trans hsz.symm) E.2.2.2.1 (E.2.2.2.2.1 (.methodLink "Ahoarch" 117 Lib.Math.min.name) (ah_in 184 (by decide +kernel) rfl)) (E.2.2.2.2.1 (.static Lib.Math.min.name) (ah_in 155 (by decide +kernel) rfl)) (E.2.2.2.2.1 (.initialized "java/lang/Math") (ah_in 15 (by decide +kernel) rfl)) (E.2.2.2.2.1 (.code Lib.Math.min.name Lib.Math.min.code 2 (some .int)) (ah_in 156 (by decide +kernel) rfl)) hf hlo hc hs hdg (by rw [ah_minI hx hy]; exact kk)
theorem ma_Aho_174 (E : ah_E A D p s m args meth c "Ahoarch" cc nL) (hsz : ls.size = nL) {x y : Nat} (hx : x < 2 ^ 31) (hy : y < 2 ^ 31) (hf : 1 ≤ R.frames) (hlo : (rest.map fun v => v.category).sum + 13 ≤ R.locals) (hc : cells ≤ R.cells) (hs : slots ≤ R.slots) (hdg : decode cc pc = .ok (.invokestatic 174, 3)) (kk : W p l e R s m args below meth c H locs cells slots Q (F0 m (pc + 3) ls (.int (nI (max x y)) :: rest))) : W p l e R s m args below meth c H locs cells slots Q (F0 m pc ls (.int (nI y) :: .int (nI x) :: rest)) := va_mmax E.1 E.2.1 (E.2.2.1.trans hsz.symm) E.2.2.2.1 (E.2.2.2.2.1 (.methodLink "Ahoarch" 174 Lib.Math.max.name) (ah_in 230 (by decide +kernel) rfl)) (E.2.2.2.2.1 (.static Lib.Math.max.name) (ah_in 166 (by decide +kernel) rfl)) (E.2.2.2.2.1 (.initialized "java/lang/Math") (ah_in 15 (by decide +kernel) rfl)) (E.2.2.2.2.1 (.code Lib.Math.max.name Lib.Math.max.code 2 (some .int)) (ah_in 167 (by decide +kernel) rfl)) hf hlo hc hs hdg (by rw [ah_maxI hx hy]; exact kk)
theorem ma_Book_67 (E : ah_E A D p s m args meth c "Ahoarch$Book" cc nL) (hsz : ls.size = nL) {x y : Nat} (hx : x < 2 ^ 31) (hy : y < 2 ^ 31) (hf : 1 ≤ R.frames) (hlo : (rest.map fun v => v.category).sum + 13 ≤ R.locals) (hc : cells ≤ R.cells) (hs : slots ≤ R.slots) (hdg : decode cc pc = .ok (.invokestatic 67, 3)) (kk : W p l e R s m args below meth c H locs cells slots Q (F0 m (pc + 3) ls (.int (nI (max x y)) :: rest))) : W p l e R s m args below meth c H locs cells slots Q (F0 m pc ls (.int (nI y) :: .int (nI x) :: rest)) := va_mmax E.1 E.2.1 (E.2.2.1.trans hsz.symm) E.2.2.2.1 (E.2.2.2.2.1 (.methodLink "Ahoarch$Book" 67 Lib.Math.max.name) (ah_in 165 (by decide +kernel) rfl)) (E.2.2.2.2.1 (.static Lib.Math.max.name) (ah_in 166 (by decide +kernel) rfl)) (E.2.2.2.2.1 (.initialized "java/lang/Math") (ah_in 15 (by decide +kernel) rfl)) (E.2.2.2.2.1 (.code Lib.Math.max.name Lib.Math.max.code 2 (some .int)) (ah_in 167 (by decide +kernel) rfl)) hf hlo hc hs hdg (by rw [ah_maxI hx hy]; exact kk)
theorem mi_Book_73 (E : ah_E A D p s m args meth c "Ahoarch$Book" cc nL) (hsz : ls.size = nL) {x y : Nat} (hx : x < 2 ^ 31) (hy : y < 2 ^ 31) (hf : 1 ≤ R.frames) (hlo : (rest.map fun v => v.category).sum + 13 ≤ R.locals) (hc : cells ≤ R.cells) (hs : slots ≤ R.slots) (hdg : decode cc pc = .ok (.invokestatic 73, 3)) (kk : W p l e R s m args below meth c H locs cells slots Q (F0 m (pc + 3) ls (.int (nI (min x y)) :: rest))) : W p l e R s m args below meth c H locs cells slots Q (F0 m pc ls (.int (nI y) :: .int (nI x) :: rest)) := va_mmin E.1 E.2.1 (E.2.2.1.trans hsz.symm) E.2.2.2.1 (E.2.2.2.2.1 (.methodLink "Ahoarch$Book" 73 Lib.Math.min.name) (ah_in 154 (by decide +kernel) rfl)) (E.2.2.2.2.1 (.static Lib.Math.min.name) (ah_in 155 (by decide +kernel) rfl)) (E.2.2.2.2.1 (.initialized "java/lang/Math") (ah_in 15 (by decide +kernel) rfl)) (E.2.2.2.2.1 (.code Lib.Math.min.name Lib.Math.min.code 2 (some .int)) (ah_in 156 (by decide +kernel) rfl)) hf hlo hc hs hdg (by rw [ah_minI hx hy]; exact kk)
end AHL
theorem lk_Aho_9 : ah_L "Ahoarch" 9 yX0_init cX0_init 1 none 0 (.methodLink "Ahoarch" 9 yX0_init) := ⟨(ah_in 27 (by decide +kernel) rfl), (ah_in 2 (by decide +kernel) rfl), (ah_in 29 (by decide +kernel) rfl), by decide, by decide, by decide +kernel⟩
theorem li_Aho_9 : yX0_init.name = "<init>" ∧ Cond.instanceMethod yX0_init ∈ ah_T := ⟨rfl, (ah_in 28 (by decide +kernel) rfl)⟩
theorem lk_Aho_18 : ah_L "Ahoarch" 18 yX3_init cX3_init 1 none 0 (.methodLink "Ahoarch" 18 yX3_init) := ⟨(ah_in 46 (by decide +kernel) rfl), (ah_in 3 (by decide +kernel) rfl), (ah_in 48 (by decide +kernel) rfl), by decide, by decide, by decide +kernel⟩
theorem li_Aho_18 : yX3_init.name = "<init>" ∧ Cond.instanceMethod yX3_init ∈ ah_T := ⟨rfl, (ah_in 47 (by decide +kernel) rfl)⟩
theorem lk_Aho_25 : ah_L "Ahoarch" 25 yX1_init cX1_init 1 none 0 (.methodLink "Ahoarch" 25 yX1_init) := ⟨(ah_in 63 (by decide +kernel) rfl), (ah_in 4 (by decide +kernel) rfl), (ah_in 65 (by decide +kernel) rfl), by decide, by decide, by decide +kernel⟩
theorem li_Aho_25 : yX1_init.name = "<init>" ∧ Cond.instanceMethod yX1_init ∈ ah_T := ⟨rfl, (ah_in 64 (by decide +kernel) rfl)⟩
theorem lk_Aho_32 : ah_L "Ahoarch" 32 yX4_init cX4_init 1 none 0 (.methodLink "Ahoarch" 32 yX4_init) := ⟨(ah_in 82 (by decide +kernel) rfl), (ah_in 5 (by decide +kernel) rfl), (ah_in 84 (by decide +kernel) rfl), by decide, by decide, by decide +kernel⟩
theorem li_Aho_32 : yX4_init.name = "<init>" ∧ Cond.instanceMethod yX4_init ∈ ah_T := ⟨rfl, (ah_in 83 (by decide +kernel) rfl)⟩
theorem lk_Aho_39 : ah_L "Ahoarch" 39 yX5_init cX5_init 4 none 2 (.methodLink "Ahoarch" 39 yX5_init) := ⟨(ah_in 97 (by decide +kernel) rfl), (ah_in 6 (by decide +kernel) rfl), (ah_in 99 (by decide +kernel) rfl), by decide, by decide, by decide +kernel⟩
theorem li_Aho_39 : yX5_init.name = "<init>" ∧ Cond.instanceMethod yX5_init ∈ ah_T := ⟨rfl, (ah_in 98 (by decide +kernel) rfl)⟩
theorem lk_Aho_50 : ah_L "Ahoarch" 50 yX6_needLetter cX6_needLetter 1 none 1 (.methodLink "Ahoarch" 50 yX6_needLetter) := ⟨(ah_in 279 (by decide +kernel) rfl), (ah_in 1 (by decide +kernel) rfl), (ah_in 281 (by decide +kernel) rfl), by decide, by decide, by decide +kernel⟩
theorem li_Aho_50 : Cond.static yX6_needLetter ∈ ah_T := (ah_in 280 (by decide +kernel) rfl)
theorem lk_Aho_64 : ah_L "Ahoarch" 64 yX5_with cX5_with 2 (some (.object "Ahoarch$Word")) 1 (.methodLink "Ahoarch" 64 yX5_with) := ⟨(ah_in 367 (by decide +kernel) rfl), (ah_in 6 (by decide +kernel) rfl), (ah_in 370 (by decide +kernel) rfl), by decide, by decide, by decide +kernel⟩
theorem li_Aho_64 : Cond.instanceMethod yX5_with ∈ ah_T ∧ Cond.selects yX5_with.cls yX5_with yX5_with ∈ ah_T := ⟨(ah_in 368 (by decide +kernel) rfl), (ah_in 369 (by decide +kernel) rfl)⟩
theorem lk_Aho_70 : ah_L "Ahoarch" 70 yX0_has cX0_has 6 (some .boolean) 1 (.methodLink "Ahoarch" 70 yX0_has) := ⟨(ah_in 384 (by decide +kernel) rfl), (ah_in 2 (by decide +kernel) rfl), (ah_in 387 (by decide +kernel) rfl), by decide, by decide, by decide +kernel⟩
theorem li_Aho_70 : Cond.instanceMethod yX0_has ∈ ah_T ∧ Cond.selects yX0_has.cls yX0_has yX0_has ∈ ah_T := ⟨(ah_in 385 (by decide +kernel) rfl), (ah_in 386 (by decide +kernel) rfl)⟩
theorem lk_Aho_76 : ah_L "Ahoarch" 76 yX0_isFull cX0_isFull 1 (some .boolean) 0 (.methodLink "Ahoarch" 76 yX0_isFull) := ⟨(ah_in 389 (by decide +kernel) rfl), (ah_in 2 (by decide +kernel) rfl), (ah_in 392 (by decide +kernel) rfl), by decide, by decide, by decide +kernel⟩
theorem li_Aho_76 : Cond.instanceMethod yX0_isFull ∈ ah_T ∧ Cond.selects yX0_isFull.cls yX0_isFull yX0_isFull ∈ ah_T := ⟨(ah_in 390 (by decide +kernel) rfl), (ah_in 391 (by decide +kernel) rfl)⟩
theorem lk_Aho_82 : ah_L "Ahoarch" 82 yX0_add cX0_add 3 (some .int) 1 (.methodLink "Ahoarch" 82 yX0_add) := ⟨(ah_in 394 (by decide +kernel) rfl), (ah_in 2 (by decide +kernel) rfl), (ah_in 397 (by decide +kernel) rfl), by decide, by decide, by decide +kernel⟩
theorem li_Aho_82 : Cond.instanceMethod yX0_add ∈ ah_T ∧ Cond.selects yX0_add.cls yX0_add yX0_add ∈ ah_T := ⟨(ah_in 395 (by decide +kernel) rfl), (ah_in 396 (by decide +kernel) rfl)⟩
theorem lk_Aho_86 : ah_L "Ahoarch" 86 yX6_need cX6_need 3 (some (.object "Ahoarch$Pattern")) 1 (.methodLink "Ahoarch" 86 yX6_need) := ⟨(ah_in 429 (by decide +kernel) rfl), (ah_in 1 (by decide +kernel) rfl), (ah_in 432 (by decide +kernel) rfl), by decide, by decide, by decide +kernel⟩
theorem li_Aho_86 : Cond.instanceMethod yX6_need ∈ ah_T ∧ Cond.selects yX6_need.cls yX6_need yX6_need ∈ ah_T := ⟨(ah_in 431 (by decide +kernel) rfl), (ah_inS 6 (q := (yX6_need, 6)) (by decide +kernel))⟩
theorem lk_Aho_95 : ah_L "Ahoarch" 95 yX0_remove cX0_remove 2 none 1 (.methodLink "Ahoarch" 95 yX0_remove) := ⟨(ah_in 460 (by decide +kernel) rfl), (ah_in 2 (by decide +kernel) rfl), (ah_in 463 (by decide +kernel) rfl), by decide, by decide, by decide +kernel⟩
theorem li_Aho_95 : Cond.instanceMethod yX0_remove ∈ ah_T ∧ Cond.selects yX0_remove.cls yX0_remove yX0_remove ∈ ah_T := ⟨(ah_in 461 (by decide +kernel) rfl), (ah_in 462 (by decide +kernel) rfl)⟩
theorem lk_Aho_105 : ah_L "Ahoarch" 105 yX0_countBeginnings cX0_countBeginnings 6 (some .int) 0 (.methodLink "Ahoarch" 105 yX0_countBeginnings) := ⟨(ah_in 143 (by decide +kernel) rfl), (ah_in 2 (by decide +kernel) rfl), (ah_in 146 (by decide +kernel) rfl), by decide, by decide, by decide +kernel⟩
theorem li_Aho_105 : Cond.instanceMethod yX0_countBeginnings ∈ ah_T ∧ Cond.selects yX0_countBeginnings.cls yX0_countBeginnings yX0_countBeginnings ∈ ah_T := ⟨(ah_in 144 (by decide +kernel) rfl), (ah_in 145 (by decide +kernel) rfl)⟩
theorem lk_Aho_113 : ah_L "Ahoarch" 113 yX0_longestEnd cX0_longestEnd 5 (some .int) 2 (.methodLink "Ahoarch" 113 yX0_longestEnd) := ⟨(ah_in 185 (by decide +kernel) rfl), (ah_in 2 (by decide +kernel) rfl), (ah_in 188 (by decide +kernel) rfl), by decide, by decide, by decide +kernel⟩
theorem li_Aho_113 : Cond.instanceMethod yX0_longestEnd ∈ ah_T ∧ Cond.selects yX0_longestEnd.cls yX0_longestEnd yX0_longestEnd ∈ ah_T := ⟨(ah_in 186 (by decide +kernel) rfl), (ah_in 187 (by decide +kernel) rfl)⟩
theorem lk_Aho_123 : ah_L "Ahoarch" 123 yX6_tail cX6_tail 3 (some .long) 2 (.methodLink "Ahoarch" 123 yX6_tail) := ⟨(ah_in 268 (by decide +kernel) rfl), (ah_in 1 (by decide +kernel) rfl), (ah_in 191 (by decide +kernel) rfl), by decide, by decide, by decide +kernel⟩
theorem li_Aho_123 : Cond.static yX6_tail ∈ ah_T := (ah_in 190 (by decide +kernel) rfl)
theorem lk_Aho_127 : ah_L "Ahoarch" 127 yX5_beginsWith cX5_beginsWith 4 (some .boolean) 2 (.methodLink "Ahoarch" 127 yX5_beginsWith) := ⟨(ah_in 486 (by decide +kernel) rfl), (ah_in 6 (by decide +kernel) rfl), (ah_in 164 (by decide +kernel) rfl), by decide, by decide, by decide +kernel⟩
theorem li_Aho_127 : Cond.instanceMethod yX5_beginsWith ∈ ah_T ∧ Cond.selects yX5_beginsWith.cls yX5_beginsWith yX5_beginsWith ∈ ah_T := ⟨(ah_in 162 (by decide +kernel) rfl), (ah_in 163 (by decide +kernel) rfl)⟩
theorem lk_Aho_131 : ah_L "Ahoarch" 131 yX6_needRoom cX6_needRoom 2 none 1 (.methodLink "Ahoarch" 131 yX6_needRoom) := ⟨(ah_in 494 (by decide +kernel) rfl), (ah_in 1 (by decide +kernel) rfl), (ah_in 497 (by decide +kernel) rfl), by decide, by decide, by decide +kernel⟩
theorem li_Aho_131 : Cond.instanceMethod yX6_needRoom ∈ ah_T ∧ Cond.selects yX6_needRoom.cls yX6_needRoom yX6_needRoom ∈ ah_T := ⟨(ah_in 496 (by decide +kernel) rfl), (ah_inS 7 (q := (yX6_needRoom, 6)) (by decide +kernel))⟩
theorem lk_Aho_135 : ah_L "Ahoarch" 135 yX6_take cX6_take 3 (some .int) 1 (.methodLink "Ahoarch" 135 yX6_take) := ⟨(ah_in 499 (by decide +kernel) rfl), (ah_in 1 (by decide +kernel) rfl), (ah_in 502 (by decide +kernel) rfl), by decide, by decide, by decide +kernel⟩
theorem li_Aho_135 : Cond.instanceMethod yX6_take ∈ ah_T ∧ Cond.selects yX6_take.cls yX6_take yX6_take ∈ ah_T := ⟨(ah_in 501 (by decide +kernel) rfl), (ah_inS 8 (q := (yX6_take, 6)) (by decide +kernel))⟩
theorem lk_Aho_139 : ah_L "Ahoarch" 139 yX5_letterAt cX5_letterAt 2 (some .char) 1 (.methodLink "Ahoarch" 139 yX5_letterAt) := ⟨(ah_in 515 (by decide +kernel) rfl), (ah_in 6 (by decide +kernel) rfl), (ah_in 518 (by decide +kernel) rfl), by decide, by decide, by decide +kernel⟩
theorem li_Aho_139 : Cond.instanceMethod yX5_letterAt ∈ ah_T ∧ Cond.selects yX5_letterAt.cls yX5_letterAt yX5_letterAt ∈ ah_T := ⟨(ah_in 516 (by decide +kernel) rfl), (ah_in 517 (by decide +kernel) rfl)⟩
theorem lk_Aho_144 : ah_L "Ahoarch" 144 yX3_lastsBefore cX3_lastsBefore 2 (some .long) 1 (.methodLink "Ahoarch" 144 yX3_lastsBefore) := ⟨(ah_in 180 (by decide +kernel) rfl), (ah_in 3 (by decide +kernel) rfl), (ah_in 183 (by decide +kernel) rfl), by decide, by decide, by decide +kernel⟩
theorem li_Aho_144 : Cond.instanceMethod yX3_lastsBefore ∈ ah_T ∧ Cond.selects yX3_lastsBefore.cls yX3_lastsBefore yX3_lastsBefore ∈ ah_T := ⟨(ah_in 181 (by decide +kernel) rfl), (ah_in 182 (by decide +kernel) rfl)⟩
theorem lk_Aho_148 : ah_L "Ahoarch" 148 yX0_countBefore cX0_countBefore 8 (some .int) 2 (.methodLink "Ahoarch" 148 yX0_countBefore) := ⟨(ah_in 200 (by decide +kernel) rfl), (ah_in 2 (by decide +kernel) rfl), (ah_in 203 (by decide +kernel) rfl), by decide, by decide, by decide +kernel⟩
theorem li_Aho_148 : Cond.instanceMethod yX0_countBefore ∈ ah_T ∧ Cond.selects yX0_countBefore.cls yX0_countBefore yX0_countBefore ∈ ah_T := ⟨(ah_in 201 (by decide +kernel) rfl), (ah_in 202 (by decide +kernel) rfl)⟩
theorem lk_Aho_152 : ah_L "Ahoarch" 152 yX0_endingAt cX0_endingAt 6 (some (.object "Ahoarch$Pattern")) 2 (.methodLink "Ahoarch" 152 yX0_endingAt) := ⟨(ah_in 533 (by decide +kernel) rfl), (ah_in 2 (by decide +kernel) rfl), (ah_in 536 (by decide +kernel) rfl), by decide, by decide, by decide +kernel⟩
theorem li_Aho_152 : Cond.instanceMethod yX0_endingAt ∈ ah_T ∧ Cond.selects yX0_endingAt.cls yX0_endingAt yX0_endingAt ∈ ah_T := ⟨(ah_in 534 (by decide +kernel) rfl), (ah_in 535 (by decide +kernel) rfl)⟩
theorem lk_Aho_164 : ah_L "Ahoarch" 164 yX3_count cX3_count 4 (some .int) 1 (.methodLink "Ahoarch" 164 yX3_count) := ⟨(ah_in 564 (by decide +kernel) rfl), (ah_in 3 (by decide +kernel) rfl), (ah_in 567 (by decide +kernel) rfl), by decide, by decide, by decide +kernel⟩
theorem li_Aho_164 : Cond.instanceMethod yX3_count ∈ ah_T ∧ Cond.selects yX3_count.cls yX3_count yX3_count ∈ ah_T := ⟨(ah_in 565 (by decide +kernel) rfl), (ah_in 566 (by decide +kernel) rfl)⟩
theorem lk_Aho_167 : ah_L "Ahoarch" 167 yX3_placeOf cX3_placeOf 5 (some .int) 2 (.methodLink "Ahoarch" 167 yX3_placeOf) := ⟨(ah_in 576 (by decide +kernel) rfl), (ah_in 3 (by decide +kernel) rfl), (ah_in 579 (by decide +kernel) rfl), by decide, by decide, by decide +kernel⟩
theorem li_Aho_167 : Cond.instanceMethod yX3_placeOf ∈ ah_T ∧ Cond.selects yX3_placeOf.cls yX3_placeOf yX3_placeOf ∈ ah_T := ⟨(ah_in 577 (by decide +kernel) rfl), (ah_in 578 (by decide +kernel) rfl)⟩
theorem lk_Aho_171 : ah_L "Ahoarch" 171 yX0_longestAt cX0_longestAt 8 (some (.object "Ahoarch$Pattern")) 2 (.methodLink "Ahoarch" 171 yX0_longestAt) := ⟨(ah_in 222 (by decide +kernel) rfl), (ah_in 2 (by decide +kernel) rfl), (ah_in 225 (by decide +kernel) rfl), by decide, by decide, by decide +kernel⟩
theorem li_Aho_171 : Cond.instanceMethod yX0_longestAt ∈ ah_T ∧ Cond.selects yX0_longestAt.cls yX0_longestAt yX0_longestAt ∈ ah_T := ⟨(ah_in 223 (by decide +kernel) rfl), (ah_in 224 (by decide +kernel) rfl)⟩
theorem lk_Aho_177 : ah_L "Ahoarch" 177 yX1_choose cX1_choose 4 none 3 (.methodLink "Ahoarch" 177 yX1_choose) := ⟨(ah_in 235 (by decide +kernel) rfl), (ah_in 4 (by decide +kernel) rfl), (ah_in 238 (by decide +kernel) rfl), by decide, by decide, by decide +kernel⟩
theorem li_Aho_177 : Cond.instanceMethod yX1_choose ∈ ah_T ∧ Cond.selects yX1_choose.cls yX1_choose yX1_choose ∈ ah_T := ⟨(ah_in 236 (by decide +kernel) rfl), (ah_in 237 (by decide +kernel) rfl)⟩
theorem lk_Aho_183 : ah_L "Ahoarch" 183 yX6_needRule cX6_needRule 1 none 1 (.methodLink "Ahoarch" 183 yX6_needRule) := ⟨(ah_in 587 (by decide +kernel) rfl), (ah_in 1 (by decide +kernel) rfl), (ah_in 589 (by decide +kernel) rfl), by decide, by decide, by decide +kernel⟩
theorem li_Aho_183 : Cond.static yX6_needRule ∈ ah_T := (ah_in 588 (by decide +kernel) rfl)
theorem lk_Aho_186 : ah_L "Ahoarch" 186 yX6_chooseOne cX6_chooseOne 4 (some (.object "Ahoarch$Pattern")) 2 (.methodLink "Ahoarch" 186 yX6_chooseOne) := ⟨(ah_in 598 (by decide +kernel) rfl), (ah_in 1 (by decide +kernel) rfl), (ah_in 601 (by decide +kernel) rfl), by decide, by decide, by decide +kernel⟩
theorem li_Aho_186 : Cond.instanceMethod yX6_chooseOne ∈ ah_T ∧ Cond.selects yX6_chooseOne.cls yX6_chooseOne yX6_chooseOne ∈ ah_T := ⟨(ah_in 600 (by decide +kernel) rfl), (ah_inS 10 (q := (yX6_chooseOne, 6)) (by decide +kernel))⟩
theorem lk_Aho_190 : ah_L "Ahoarch" 190 yX1_placeAt cX1_placeAt 2 (some .int) 1 (.methodLink "Ahoarch" 190 yX1_placeAt) := ⟨(ah_in 613 (by decide +kernel) rfl), (ah_in 4 (by decide +kernel) rfl), (ah_in 616 (by decide +kernel) rfl), by decide, by decide, by decide +kernel⟩
theorem li_Aho_190 : Cond.instanceMethod yX1_placeAt ∈ ah_T ∧ Cond.selects yX1_placeAt.cls yX1_placeAt yX1_placeAt ∈ ah_T := ⟨(ah_in 614 (by decide +kernel) rfl), (ah_in 615 (by decide +kernel) rfl)⟩
theorem lk_Aho_194 : ah_L "Ahoarch" 194 yX6_rewrite cX6_rewrite 5 none 1 (.methodLink "Ahoarch" 194 yX6_rewrite) := ⟨(ah_in 624 (by decide +kernel) rfl), (ah_in 1 (by decide +kernel) rfl), (ah_in 627 (by decide +kernel) rfl), by decide, by decide, by decide +kernel⟩
theorem li_Aho_194 : Cond.instanceMethod yX6_rewrite ∈ ah_T ∧ Cond.selects yX6_rewrite.cls yX6_rewrite yX6_rewrite ∈ ah_T := ⟨(ah_in 626 (by decide +kernel) rfl), (ah_inS 11 (q := (yX6_rewrite, 6)) (by decide +kernel))⟩
theorem lk_Aho_200 : ah_L "Ahoarch" 200 yX4_letterAt cX4_letterAt 2 (some .char) 1 (.methodLink "Ahoarch" 200 yX4_letterAt) := ⟨(ah_in 654 (by decide +kernel) rfl), (ah_in 5 (by decide +kernel) rfl), (ah_in 657 (by decide +kernel) rfl), by decide, by decide, by decide +kernel⟩
theorem li_Aho_200 : Cond.instanceMethod yX4_letterAt ∈ ah_T ∧ Cond.selects yX4_letterAt.cls yX4_letterAt yX4_letterAt ∈ ah_T := ⟨(ah_in 655 (by decide +kernel) rfl), (ah_in 656 (by decide +kernel) rfl)⟩
theorem lk_Aho_201 : ah_L "Ahoarch" 201 yX6_mayGrowFrom cX6_mayGrowFrom 3 (some .boolean) 1 (.methodLink "Ahoarch" 201 yX6_mayGrowFrom) := ⟨(ah_in 264 (by decide +kernel) rfl), (ah_in 1 (by decide +kernel) rfl), (ah_in 267 (by decide +kernel) rfl), by decide, by decide, by decide +kernel⟩
theorem li_Aho_201 : Cond.instanceMethod yX6_mayGrowFrom ∈ ah_T ∧ Cond.selects yX6_mayGrowFrom.cls yX6_mayGrowFrom yX6_mayGrowFrom ∈ ah_T := ⟨(ah_in 266 (by decide +kernel) rfl), (ah_inS 4 (q := (yX6_mayGrowFrom, 6)) (by decide +kernel))⟩
theorem lk_Aho_212 : ah_L "Ahoarch" 212 yX0_find cX0_find 2 (some (.object "Ahoarch$Pattern")) 1 (.methodLink "Ahoarch" 212 yX0_find) := ⟨(ah_in 433 (by decide +kernel) rfl), (ah_in 2 (by decide +kernel) rfl), (ah_in 436 (by decide +kernel) rfl), by decide, by decide, by decide +kernel⟩
theorem li_Aho_212 : Cond.instanceMethod yX0_find ∈ ah_T ∧ Cond.selects yX0_find.cls yX0_find yX0_find ∈ ah_T := ⟨(ah_in 434 (by decide +kernel) rfl), (ah_in 435 (by decide +kernel) rfl)⟩
theorem lk_Aho_222 : ah_L "Ahoarch" 222 yX3_add cX3_add 2 none 1 (.methodLink "Ahoarch" 222 yX3_add) := ⟨(ah_in 503 (by decide +kernel) rfl), (ah_in 3 (by decide +kernel) rfl), (ah_in 506 (by decide +kernel) rfl), by decide, by decide, by decide +kernel⟩
theorem li_Aho_222 : Cond.instanceMethod yX3_add ∈ ah_T ∧ Cond.selects yX3_add.cls yX3_add yX3_add ∈ ah_T := ⟨(ah_in 504 (by decide +kernel) rfl), (ah_in 505 (by decide +kernel) rfl)⟩
theorem lk_Aho_224 : ah_L "Ahoarch" 224 yX1_patternAt cX1_patternAt 2 (some (.object "Ahoarch$Pattern")) 1 (.methodLink "Ahoarch" 224 yX1_patternAt) := ⟨(ah_in 602 (by decide +kernel) rfl), (ah_in 4 (by decide +kernel) rfl), (ah_in 605 (by decide +kernel) rfl), by decide, by decide, by decide +kernel⟩
theorem li_Aho_224 : Cond.instanceMethod yX1_patternAt ∈ ah_T ∧ Cond.selects yX1_patternAt.cls yX1_patternAt yX1_patternAt ∈ ah_T := ⟨(ah_in 603 (by decide +kernel) rfl), (ah_in 604 (by decide +kernel) rfl)⟩
theorem lk_Aho_227 : ah_L "Ahoarch" 227 yX4_addStream cX4_addStream 5 none 3 (.methodLink "Ahoarch" 227 yX4_addStream) := ⟨(ah_in 628 (by decide +kernel) rfl), (ah_in 5 (by decide +kernel) rfl), (ah_in 631 (by decide +kernel) rfl), by decide, by decide, by decide +kernel⟩
theorem li_Aho_227 : Cond.instanceMethod yX4_addStream ∈ ah_T ∧ Cond.selects yX4_addStream.cls yX4_addStream yX4_addStream ∈ ah_T := ⟨(ah_in 629 (by decide +kernel) rfl), (ah_in 630 (by decide +kernel) rfl)⟩
theorem lk_Aho_231 : ah_L "Ahoarch" 231 yX4_addWord cX4_addWord 3 none 1 (.methodLink "Ahoarch" 231 yX4_addWord) := ⟨(ah_in 641 (by decide +kernel) rfl), (ah_in 5 (by decide +kernel) rfl), (ah_in 644 (by decide +kernel) rfl), by decide, by decide, by decide +kernel⟩
theorem li_Aho_231 : Cond.instanceMethod yX4_addWord ∈ ah_T ∧ Cond.selects yX4_addWord.cls yX4_addWord yX4_addWord ∈ ah_T := ⟨(ah_in 642 (by decide +kernel) rfl), (ah_in 643 (by decide +kernel) rfl)⟩
theorem lk_Aho_235 : ah_L "Ahoarch" 235 yX0_hasBeginning cX0_hasBeginning 9 (some .boolean) 3 (.methodLink "Ahoarch" 235 yX0_hasBeginning) := ⟨(ah_in 269 (by decide +kernel) rfl), (ah_in 2 (by decide +kernel) rfl), (ah_in 195 (by decide +kernel) rfl), by decide, by decide, by decide +kernel⟩
theorem li_Aho_235 : Cond.instanceMethod yX0_hasBeginning ∈ ah_T ∧ Cond.selects yX0_hasBeginning.cls yX0_hasBeginning yX0_hasBeginning ∈ ah_T := ⟨(ah_in 193 (by decide +kernel) rfl), (ah_in 194 (by decide +kernel) rfl)⟩
theorem lk_Book_34 : ah_L "Ahoarch$Book" 34 yX2_init cX2_init 3 none 2 (.methodLink "Ahoarch$Book" 34 yX2_init) := ⟨(ah_in 399 (by decide +kernel) rfl), (ah_in 13 (by decide +kernel) rfl), (ah_in 401 (by decide +kernel) rfl), by decide, by decide, by decide +kernel⟩
theorem li_Book_34 : yX2_init.name = "<init>" ∧ Cond.instanceMethod yX2_init ∈ ah_T := ⟨rfl, (ah_in 400 (by decide +kernel) rfl)⟩
theorem lk_Book_40 : ah_L "Ahoarch$Book" 40 yX0_find cX0_find 2 (some (.object "Ahoarch$Pattern")) 1 (.methodLink "Ahoarch$Book" 40 yX0_find) := ⟨(ah_in 464 (by decide +kernel) rfl), (ah_in 2 (by decide +kernel) rfl), (ah_in 436 (by decide +kernel) rfl), by decide, by decide, by decide +kernel⟩
theorem li_Book_40 : Cond.instanceMethod yX0_find ∈ ah_T ∧ Cond.selects yX0_find.cls yX0_find yX0_find ∈ ah_T := ⟨(ah_in 434 (by decide +kernel) rfl), (ah_in 435 (by decide +kernel) rfl)⟩
theorem lk_Book_47 : ah_L "Ahoarch$Book" 47 yX5_beginsWith cX5_beginsWith 4 (some .boolean) 2 (.methodLink "Ahoarch$Book" 47 yX5_beginsWith) := ⟨(ah_in 161 (by decide +kernel) rfl), (ah_in 6 (by decide +kernel) rfl), (ah_in 164 (by decide +kernel) rfl), by decide, by decide, by decide +kernel⟩
theorem li_Book_47 : Cond.instanceMethod yX5_beginsWith ∈ ah_T ∧ Cond.selects yX5_beginsWith.cls yX5_beginsWith yX5_beginsWith ∈ ah_T := ⟨(ah_in 162 (by decide +kernel) rfl), (ah_in 163 (by decide +kernel) rfl)⟩
theorem lk_Book_51 : ah_L "Ahoarch$Book" 51 yX6_tail cX6_tail 3 (some .long) 2 (.methodLinkNest "Ahoarch$Book" 51 yX6_tail "Ahoarch") := ⟨(ah_in 189 (by decide +kernel) rfl), (ah_in 1 (by decide +kernel) rfl), (ah_in 191 (by decide +kernel) rfl), by decide, by decide, by decide +kernel⟩
theorem li_Book_51 : Cond.static yX6_tail ∈ ah_T := (ah_in 190 (by decide +kernel) rfl)
theorem lk_Book_55 : ah_L "Ahoarch$Book" 55 yX0_hasBeginning cX0_hasBeginning 9 (some .boolean) 3 (.methodLink "Ahoarch$Book" 55 yX0_hasBeginning) := ⟨(ah_in 192 (by decide +kernel) rfl), (ah_in 2 (by decide +kernel) rfl), (ah_in 195 (by decide +kernel) rfl), by decide, by decide, by decide +kernel⟩
theorem li_Book_55 : Cond.instanceMethod yX0_hasBeginning ∈ ah_T ∧ Cond.selects yX0_hasBeginning.cls yX0_hasBeginning yX0_hasBeginning ∈ ah_T := ⟨(ah_in 193 (by decide +kernel) rfl), (ah_in 194 (by decide +kernel) rfl)⟩
theorem lk_Book_59 : ah_L "Ahoarch$Book" 59 yX0_longestSharedBefore cX0_longestSharedBefore 7 (some .int) 1 (.methodLink "Ahoarch$Book" 59 yX0_longestSharedBefore) := ⟨(ah_in 147 (by decide +kernel) rfl), (ah_in 2 (by decide +kernel) rfl), (ah_in 150 (by decide +kernel) rfl), by decide, by decide, by decide +kernel⟩
theorem li_Book_59 : Cond.instanceMethod yX0_longestSharedBefore ∈ ah_T ∧ Cond.selects yX0_longestSharedBefore.cls yX0_longestSharedBefore yX0_longestSharedBefore ∈ ah_T := ⟨(ah_in 149 (by decide +kernel) rfl), (ah_inS 0 (q := (yX0_longestSharedBefore, 3)) (by decide +kernel))⟩
theorem lk_Book_63 : ah_L "Ahoarch$Book" 63 yX0_shared cX0_shared 3 (some .int) 2 (.methodLink "Ahoarch$Book" 63 yX0_shared) := ⟨(ah_in 151 (by decide +kernel) rfl), (ah_in 2 (by decide +kernel) rfl), (ah_in 153 (by decide +kernel) rfl), by decide, by decide, by decide +kernel⟩
theorem li_Book_63 : Cond.static yX0_shared ∈ ah_T := (ah_in 152 (by decide +kernel) rfl)
theorem lk_Book_76 : ah_L "Ahoarch$Book" 76 yX5_head cX5_head 2 (some .long) 1 (.methodLink "Ahoarch$Book" 76 yX5_head) := ⟨(ah_in 157 (by decide +kernel) rfl), (ah_in 6 (by decide +kernel) rfl), (ah_in 160 (by decide +kernel) rfl), by decide, by decide, by decide +kernel⟩
theorem li_Book_76 : Cond.instanceMethod yX5_head ∈ ah_T ∧ Cond.selects yX5_head.cls yX5_head yX5_head ∈ ah_T := ⟨(ah_in 158 (by decide +kernel) rfl), (ah_in 159 (by decide +kernel) rfl)⟩
theorem lk_Book_80 : ah_L "Ahoarch$Book" 80 yX3_holdsBefore cX3_holdsBefore 3 (some .boolean) 2 (.methodLink "Ahoarch$Book" 80 yX3_holdsBefore) := ⟨(ah_in 204 (by decide +kernel) rfl), (ah_in 3 (by decide +kernel) rfl), (ah_in 207 (by decide +kernel) rfl), by decide, by decide, by decide +kernel⟩
theorem li_Book_80 : Cond.instanceMethod yX3_holdsBefore ∈ ah_T ∧ Cond.selects yX3_holdsBefore.cls yX3_holdsBefore yX3_holdsBefore ∈ ah_T := ⟨(ah_in 205 (by decide +kernel) rfl), (ah_in 206 (by decide +kernel) rfl)⟩
theorem lk_Book_86 : ah_L "Ahoarch$Book" 86 yX0_endingOfSize cX0_endingOfSize 7 (some (.object "Ahoarch$Pattern")) 2 (.methodLink "Ahoarch$Book" 86 yX0_endingOfSize) := ⟨(ah_in 537 (by decide +kernel) rfl), (ah_in 2 (by decide +kernel) rfl), (ah_in 540 (by decide +kernel) rfl), by decide, by decide, by decide +kernel⟩
theorem li_Book_86 : Cond.instanceMethod yX0_endingOfSize ∈ ah_T ∧ Cond.selects yX0_endingOfSize.cls yX0_endingOfSize yX0_endingOfSize ∈ ah_T := ⟨(ah_in 539 (by decide +kernel) rfl), (ah_inS 9 (q := (yX0_endingOfSize, 3)) (by decide +kernel))⟩
theorem lk_Book_91 : ah_L "Ahoarch$Book" 91 yX3_holdsAt cX3_holdsAt 3 (some .boolean) 2 (.methodLink "Ahoarch$Book" 91 yX3_holdsAt) := ⟨(ah_in 226 (by decide +kernel) rfl), (ah_in 3 (by decide +kernel) rfl), (ah_in 229 (by decide +kernel) rfl), by decide, by decide, by decide +kernel⟩
theorem li_Book_91 : Cond.instanceMethod yX3_holdsAt ∈ ah_T ∧ Cond.selects yX3_holdsAt.cls yX3_holdsAt yX3_holdsAt ∈ ah_T := ⟨(ah_in 227 (by decide +kernel) rfl), (ah_in 228 (by decide +kernel) rfl)⟩
theorem lk_Choice_25 : ah_L "Ahoarch$Choice" 25 yX1_chooseByEnd cX1_chooseByEnd 6 none 2 (.methodLink "Ahoarch$Choice" 25 yX1_chooseByEnd) := ⟨(ah_in 239 (by decide +kernel) rfl), (ah_in 4 (by decide +kernel) rfl), (ah_in 242 (by decide +kernel) rfl), by decide, by decide, by decide +kernel⟩
theorem li_Choice_25 : Cond.instanceMethod yX1_chooseByEnd ∈ ah_T ∧ Cond.selects yX1_chooseByEnd.cls yX1_chooseByEnd yX1_chooseByEnd ∈ ah_T := ⟨(ah_in 241 (by decide +kernel) rfl), (ah_inS 1 (q := (yX1_chooseByEnd, 3)) (by decide +kernel))⟩
theorem lk_Choice_29 : ah_L "Ahoarch$Choice" 29 yX1_chooseByPlace cX1_chooseByPlace 7 none 3 (.methodLink "Ahoarch$Choice" 29 yX1_chooseByPlace) := ⟨(ah_in 251 (by decide +kernel) rfl), (ah_in 4 (by decide +kernel) rfl), (ah_in 254 (by decide +kernel) rfl), by decide, by decide, by decide +kernel⟩
theorem li_Choice_29 : Cond.instanceMethod yX1_chooseByPlace ∈ ah_T ∧ Cond.selects yX1_chooseByPlace.cls yX1_chooseByPlace yX1_chooseByPlace ∈ ah_T := ⟨(ah_in 253 (by decide +kernel) rfl), (ah_inS 3 (q := (yX1_chooseByPlace, 3)) (by decide +kernel))⟩
theorem lk_Choice_38 : ah_L "Ahoarch$Choice" 38 yX0_longestAt cX0_longestAt 8 (some (.object "Ahoarch$Pattern")) 2 (.methodLink "Ahoarch$Choice" 38 yX0_longestAt) := ⟨(ah_in 255 (by decide +kernel) rfl), (ah_in 2 (by decide +kernel) rfl), (ah_in 225 (by decide +kernel) rfl), by decide, by decide, by decide +kernel⟩
theorem li_Choice_38 : Cond.instanceMethod yX0_longestAt ∈ ah_T ∧ Cond.selects yX0_longestAt.cls yX0_longestAt yX0_longestAt ∈ ah_T := ⟨(ah_in 223 (by decide +kernel) rfl), (ah_in 224 (by decide +kernel) rfl)⟩
theorem lk_Choice_44 : ah_L "Ahoarch$Choice" 44 yX0_firstAt cX0_firstAt 7 (some (.object "Ahoarch$Pattern")) 2 (.methodLink "Ahoarch$Choice" 44 yX0_firstAt) := ⟨(ah_in 256 (by decide +kernel) rfl), (ah_in 2 (by decide +kernel) rfl), (ah_in 259 (by decide +kernel) rfl), by decide, by decide, by decide +kernel⟩
theorem li_Choice_44 : Cond.instanceMethod yX0_firstAt ∈ ah_T ∧ Cond.selects yX0_firstAt.cls yX0_firstAt yX0_firstAt ∈ ah_T := ⟨(ah_in 257 (by decide +kernel) rfl), (ah_in 258 (by decide +kernel) rfl)⟩
theorem lk_Choice_47 : ah_L "Ahoarch$Choice" 47 yX1_keep cX1_keep 3 none 2 (.methodLink "Ahoarch$Choice" 47 yX1_keep) := ⟨(ah_in 247 (by decide +kernel) rfl), (ah_in 4 (by decide +kernel) rfl), (ah_in 250 (by decide +kernel) rfl), by decide, by decide, by decide +kernel⟩
theorem li_Choice_47 : Cond.instanceMethod yX1_keep ∈ ah_T ∧ Cond.selects yX1_keep.cls yX1_keep yX1_keep ∈ ah_T := ⟨(ah_in 249 (by decide +kernel) rfl), (ah_inS 2 (q := (yX1_keep, 3)) (by decide +kernel))⟩
theorem lk_Choice_58 : ah_L "Ahoarch$Choice" 58 yX0_longestWithin cX0_longestWithin 9 (some (.object "Ahoarch$Pattern")) 3 (.methodLink "Ahoarch$Choice" 58 yX0_longestWithin) := ⟨(ah_in 243 (by decide +kernel) rfl), (ah_in 2 (by decide +kernel) rfl), (ah_in 246 (by decide +kernel) rfl), by decide, by decide, by decide +kernel⟩
theorem li_Choice_58 : Cond.instanceMethod yX0_longestWithin ∈ ah_T ∧ Cond.selects yX0_longestWithin.cls yX0_longestWithin yX0_longestWithin ∈ ah_T := ⟨(ah_in 244 (by decide +kernel) rfl), (ah_in 245 (by decide +kernel) rfl)⟩
theorem lk_Pattern_19 : ah_L "Ahoarch$Pattern" 19 yX5_init cX5_init 4 none 2 (.methodLink "Ahoarch$Pattern" 19 yX5_init) := ⟨(ah_in 404 (by decide +kernel) rfl), (ah_in 6 (by decide +kernel) rfl), (ah_in 99 (by decide +kernel) rfl), by decide, by decide, by decide +kernel⟩
theorem li_Pattern_19 : yX5_init.name = "<init>" ∧ Cond.instanceMethod yX5_init ∈ ah_T := ⟨rfl, (ah_in 98 (by decide +kernel) rfl)⟩
theorem lk_Stream_19 : ah_L "Ahoarch$Stream" 19 yX6_codeOf cX6_codeOf 1 (some .long) 1 (.methodLinkNest "Ahoarch$Stream" 19 yX6_codeOf "Ahoarch") := ⟨(ah_in 507 (by decide +kernel) rfl), (ah_in 1 (by decide +kernel) rfl), (ah_in 374 (by decide +kernel) rfl), by decide, by decide, by decide +kernel⟩
theorem li_Stream_19 : Cond.static yX6_codeOf ∈ ah_T := (ah_in 373 (by decide +kernel) rfl)
theorem lk_Stream_23 : ah_L "Ahoarch$Stream" 23 yX6_tail cX6_tail 3 (some .long) 2 (.methodLinkNest "Ahoarch$Stream" 23 yX6_tail "Ahoarch") := ⟨(ah_in 209 (by decide +kernel) rfl), (ah_in 1 (by decide +kernel) rfl), (ah_in 191 (by decide +kernel) rfl), by decide, by decide, by decide +kernel⟩
theorem li_Stream_23 : Cond.static yX6_tail ∈ ah_T := (ah_in 190 (by decide +kernel) rfl)
theorem lk_Stream_27 : ah_L "Ahoarch$Stream" 27 yX3_lastsBefore cX3_lastsBefore 2 (some .long) 1 (.methodLink "Ahoarch$Stream" 27 yX3_lastsBefore) := ⟨(ah_in 208 (by decide +kernel) rfl), (ah_in 3 (by decide +kernel) rfl), (ah_in 183 (by decide +kernel) rfl), by decide, by decide, by decide +kernel⟩
theorem li_Stream_27 : Cond.instanceMethod yX3_lastsBefore ∈ ah_T ∧ Cond.selects yX3_lastsBefore.cls yX3_lastsBefore yX3_lastsBefore ∈ ah_T := ⟨(ah_in 181 (by decide +kernel) rfl), (ah_in 182 (by decide +kernel) rfl)⟩
theorem lk_Stream_31 : ah_L "Ahoarch$Stream" 31 yX6_letterOf cX6_letterOf 2 (some .char) 1 (.methodLinkNest "Ahoarch$Stream" 31 yX6_letterOf "Ahoarch") := ⟨(ah_in 636 (by decide +kernel) rfl), (ah_in 1 (by decide +kernel) rfl), (ah_in 522 (by decide +kernel) rfl), by decide, by decide, by decide +kernel⟩
theorem li_Stream_31 : Cond.static yX6_letterOf ∈ ah_T := (ah_in 521 (by decide +kernel) rfl)
theorem lk_Stream_42 : ah_L "Ahoarch$Stream" 42 yX3_holdsAt cX3_holdsAt 3 (some .boolean) 2 (.methodLink "Ahoarch$Stream" 42 yX3_holdsAt) := ⟨(ah_in 568 (by decide +kernel) rfl), (ah_in 3 (by decide +kernel) rfl), (ah_in 229 (by decide +kernel) rfl), by decide, by decide, by decide +kernel⟩
theorem li_Stream_42 : Cond.instanceMethod yX3_holdsAt ∈ ah_T ∧ Cond.selects yX3_holdsAt.cls yX3_holdsAt yX3_holdsAt ∈ ah_T := ⟨(ah_in 227 (by decide +kernel) rfl), (ah_in 228 (by decide +kernel) rfl)⟩
theorem lk_Text_22 : ah_L "Ahoarch$Text" 22 yX5_letterAt cX5_letterAt 2 (some .char) 1 (.methodLink "Ahoarch$Text" 22 yX5_letterAt) := ⟨(ah_in 645 (by decide +kernel) rfl), (ah_in 6 (by decide +kernel) rfl), (ah_in 518 (by decide +kernel) rfl), by decide, by decide, by decide +kernel⟩
theorem li_Text_22 : Cond.instanceMethod yX5_letterAt ∈ ah_T ∧ Cond.selects yX5_letterAt.cls yX5_letterAt yX5_letterAt ∈ ah_T := ⟨(ah_in 516 (by decide +kernel) rfl), (ah_in 517 (by decide +kernel) rfl)⟩
theorem lk_Text_26 : ah_L "Ahoarch$Text" 26 yX4_add cX4_add 2 none 1 (.methodLink "Ahoarch$Text" 26 yX4_add) := ⟨(ah_in 637 (by decide +kernel) rfl), (ah_in 5 (by decide +kernel) rfl), (ah_in 640 (by decide +kernel) rfl), by decide, by decide, by decide +kernel⟩
theorem li_Text_26 : Cond.instanceMethod yX4_add ∈ ah_T ∧ Cond.selects yX4_add.cls yX4_add yX4_add ∈ ah_T := ⟨(ah_in 638 (by decide +kernel) rfl), (ah_in 639 (by decide +kernel) rfl)⟩
theorem lk_Text_30 : ah_L "Ahoarch$Text" 30 yX3_letterAt cX3_letterAt 2 (some .char) 1 (.methodLink "Ahoarch$Text" 30 yX3_letterAt) := ⟨(ah_in 632 (by decide +kernel) rfl), (ah_in 3 (by decide +kernel) rfl), (ah_in 635 (by decide +kernel) rfl), by decide, by decide, by decide +kernel⟩
theorem li_Text_30 : Cond.instanceMethod yX3_letterAt ∈ ah_T ∧ Cond.selects yX3_letterAt.cls yX3_letterAt yX3_letterAt ∈ ah_T := ⟨(ah_in 633 (by decide +kernel) rfl), (ah_in 634 (by decide +kernel) rfl)⟩
theorem lk_Word_19 : ah_L "Ahoarch$Word" 19 yX6_codeOf cX6_codeOf 1 (some .long) 1 (.methodLinkNest "Ahoarch$Word" 19 yX6_codeOf "Ahoarch") := ⟨(ah_in 372 (by decide +kernel) rfl), (ah_in 1 (by decide +kernel) rfl), (ah_in 374 (by decide +kernel) rfl), by decide, by decide, by decide +kernel⟩
theorem li_Word_19 : Cond.static yX6_codeOf ∈ ah_T := (ah_in 373 (by decide +kernel) rfl)
theorem lk_Word_23 : ah_L "Ahoarch$Word" 23 yX5_init cX5_init 4 none 2 (.methodLink "Ahoarch$Word" 23 yX5_init) := ⟨(ah_in 375 (by decide +kernel) rfl), (ah_in 6 (by decide +kernel) rfl), (ah_in 99 (by decide +kernel) rfl), by decide, by decide, by decide +kernel⟩
theorem li_Word_23 : yX5_init.name = "<init>" ∧ Cond.instanceMethod yX5_init ∈ ah_T := ⟨rfl, (ah_in 98 (by decide +kernel) rfl)⟩
theorem lk_Word_26 : ah_L "Ahoarch$Word" 26 yX5_head cX5_head 2 (some .long) 1 (.methodLink "Ahoarch$Word" 26 yX5_head) := ⟨(ah_in 519 (by decide +kernel) rfl), (ah_in 6 (by decide +kernel) rfl), (ah_in 160 (by decide +kernel) rfl), by decide, by decide, by decide +kernel⟩
theorem li_Word_26 : Cond.instanceMethod yX5_head ∈ ah_T ∧ Cond.selects yX5_head.cls yX5_head yX5_head ∈ ah_T := ⟨(ah_in 158 (by decide +kernel) rfl), (ah_in 159 (by decide +kernel) rfl)⟩
theorem lk_Word_30 : ah_L "Ahoarch$Word" 30 yX6_letterOf cX6_letterOf 2 (some .char) 1 (.methodLinkNest "Ahoarch$Word" 30 yX6_letterOf "Ahoarch") := ⟨(ah_in 520 (by decide +kernel) rfl), (ah_in 1 (by decide +kernel) rfl), (ah_in 522 (by decide +kernel) rfl), by decide, by decide, by decide +kernel⟩
theorem li_Word_30 : Cond.static yX6_letterOf ∈ ah_T := (ah_in 521 (by decide +kernel) rfl)
theorem lk_Law_7 : ah_L "AhoarchLaw" 7 yX6_draft cX6_draft 2 (some .int) 1 (.methodLink "AhoarchLaw" 7 yX6_draft) := ⟨(ah_in 275 (by decide +kernel) rfl), (ah_in 1 (by decide +kernel) rfl), (ah_in 278 (by decide +kernel) rfl), by decide, by decide, by decide +kernel⟩
theorem li_Law_7 : Cond.instanceMethod yX6_draft ∈ ah_T ∧ Cond.selects yX6_draft.cls yX6_draft yX6_draft ∈ ah_T := ⟨(ah_in 276 (by decide +kernel) rfl), (ah_in 277 (by decide +kernel) rfl)⟩
theorem lk_Law_17 : ah_L "AhoarchLaw" 17 yX6_enter cX6_enter 2 (some .int) 0 (.methodLink "AhoarchLaw" 17 yX6_enter) := ⟨(ah_in 379 (by decide +kernel) rfl), (ah_in 1 (by decide +kernel) rfl), (ah_in 382 (by decide +kernel) rfl), by decide, by decide, by decide +kernel⟩
theorem li_Law_17 : Cond.instanceMethod yX6_enter ∈ ah_T ∧ Cond.selects yX6_enter.cls yX6_enter yX6_enter ∈ ah_T := ⟨(ah_in 380 (by decide +kernel) rfl), (ah_in 381 (by decide +kernel) rfl)⟩
theorem lk_Law_21 : ah_L "AhoarchLaw" 21 yX6_setReplacement cX6_setReplacement 4 (some .int) 1 (.methodLink "AhoarchLaw" 21 yX6_setReplacement) := ⟨(ah_in 425 (by decide +kernel) rfl), (ah_in 1 (by decide +kernel) rfl), (ah_in 428 (by decide +kernel) rfl), by decide, by decide, by decide +kernel⟩
theorem li_Law_21 : Cond.instanceMethod yX6_setReplacement ∈ ah_T ∧ Cond.selects yX6_setReplacement.cls yX6_setReplacement yX6_setReplacement ∈ ah_T := ⟨(ah_in 426 (by decide +kernel) rfl), (ah_in 427 (by decide +kernel) rfl)⟩
theorem lk_Law_27 : ah_L "AhoarchLaw" 27 yX6_takeOut cX6_takeOut 2 (some .int) 1 (.methodLink "AhoarchLaw" 27 yX6_takeOut) := ⟨(ah_in 456 (by decide +kernel) rfl), (ah_in 1 (by decide +kernel) rfl), (ah_in 459 (by decide +kernel) rfl), by decide, by decide, by decide +kernel⟩
theorem li_Law_27 : Cond.instanceMethod yX6_takeOut ∈ ah_T ∧ Cond.selects yX6_takeOut.cls yX6_takeOut yX6_takeOut ∈ ah_T := ⟨(ah_in 457 (by decide +kernel) rfl), (ah_in 458 (by decide +kernel) rfl)⟩
theorem lk_Law_30 : ah_L "AhoarchLaw" 30 yX6_length cX6_length 2 (some .int) 1 (.methodLink "AhoarchLaw" 30 yX6_length) := ⟨(ah_in 468 (by decide +kernel) rfl), (ah_in 1 (by decide +kernel) rfl), (ah_in 471 (by decide +kernel) rfl), by decide, by decide, by decide +kernel⟩
theorem li_Law_30 : Cond.instanceMethod yX6_length ∈ ah_T ∧ Cond.selects yX6_length.cls yX6_length yX6_length ∈ ah_T := ⟨(ah_in 469 (by decide +kernel) rfl), (ah_in 470 (by decide +kernel) rfl)⟩
theorem lk_Law_33 : ah_L "AhoarchLaw" 33 yX6_link cX6_link 3 (some .int) 1 (.methodLink "AhoarchLaw" 33 yX6_link) := ⟨(ah_in 475 (by decide +kernel) rfl), (ah_in 1 (by decide +kernel) rfl), (ah_in 478 (by decide +kernel) rfl), by decide, by decide, by decide +kernel⟩
theorem li_Law_33 : Cond.instanceMethod yX6_link ∈ ah_T ∧ Cond.selects yX6_link.cls yX6_link yX6_link ∈ ah_T := ⟨(ah_in 476 (by decide +kernel) rfl), (ah_in 477 (by decide +kernel) rfl)⟩
theorem lk_Law_36 : ah_L "AhoarchLaw" 36 yX6_overlap cX6_overlap 6 (some .int) 2 (.methodLink "AhoarchLaw" 36 yX6_overlap) := ⟨(ah_in 482 (by decide +kernel) rfl), (ah_in 1 (by decide +kernel) rfl), (ah_in 485 (by decide +kernel) rfl), by decide, by decide, by decide +kernel⟩
theorem li_Law_36 : Cond.instanceMethod yX6_overlap ∈ ah_T ∧ Cond.selects yX6_overlap.cls yX6_overlap yX6_overlap ∈ ah_T := ⟨(ah_in 483 (by decide +kernel) rfl), (ah_in 484 (by decide +kernel) rfl)⟩
theorem lk_Law_40 : ah_L "AhoarchLaw" 40 yX6_feed cX6_feed 2 (some .int) 1 (.methodLink "AhoarchLaw" 40 yX6_feed) := ⟨(ah_in 490 (by decide +kernel) rfl), (ah_in 1 (by decide +kernel) rfl), (ah_in 493 (by decide +kernel) rfl), by decide, by decide, by decide +kernel⟩
theorem li_Law_40 : Cond.instanceMethod yX6_feed ∈ ah_T ∧ Cond.selects yX6_feed.cls yX6_feed yX6_feed ∈ ah_T := ⟨(ah_in 491 (by decide +kernel) rfl), (ah_in 492 (by decide +kernel) rfl)⟩
theorem lk_Law_43 : ah_L "AhoarchLaw" 43 yX6_feedPattern cX6_feedPattern 5 (some .int) 1 (.methodLink "AhoarchLaw" 43 yX6_feedPattern) := ⟨(ah_in 511 (by decide +kernel) rfl), (ah_in 1 (by decide +kernel) rfl), (ah_in 514 (by decide +kernel) rfl), by decide, by decide, by decide +kernel⟩
theorem li_Law_43 : Cond.instanceMethod yX6_feedPattern ∈ ah_T ∧ Cond.selects yX6_feedPattern.cls yX6_feedPattern yX6_feedPattern ∈ ah_T := ⟨(ah_in 512 (by decide +kernel) rfl), (ah_in 513 (by decide +kernel) rfl)⟩
theorem lk_Law_46 : ah_L "AhoarchLaw" 46 yX6_endingPattern cX6_endingPattern 3 (some .int) 1 (.methodLink "AhoarchLaw" 46 yX6_endingPattern) := ⟨(ah_in 529 (by decide +kernel) rfl), (ah_in 1 (by decide +kernel) rfl), (ah_in 532 (by decide +kernel) rfl), by decide, by decide, by decide +kernel⟩
theorem li_Law_46 : Cond.instanceMethod yX6_endingPattern ∈ ah_T ∧ Cond.selects yX6_endingPattern.cls yX6_endingPattern yX6_endingPattern ∈ ah_T := ⟨(ah_in 530 (by decide +kernel) rfl), (ah_in 531 (by decide +kernel) rfl)⟩
theorem lk_Law_51 : ah_L "AhoarchLaw" 51 yX6_occurrencesOf cX6_occurrencesOf 2 (some .int) 1 (.methodLink "AhoarchLaw" 51 yX6_occurrencesOf) := ⟨(ah_in 560 (by decide +kernel) rfl), (ah_in 1 (by decide +kernel) rfl), (ah_in 563 (by decide +kernel) rfl), by decide, by decide, by decide +kernel⟩
theorem li_Law_51 : Cond.instanceMethod yX6_occurrencesOf ∈ ah_T ∧ Cond.selects yX6_occurrencesOf.cls yX6_occurrencesOf yX6_occurrencesOf ∈ ah_T := ⟨(ah_in 561 (by decide +kernel) rfl), (ah_in 562 (by decide +kernel) rfl)⟩
theorem lk_Law_54 : ah_L "AhoarchLaw" 54 yX6_occurrence cX6_occurrence 4 (some .int) 2 (.methodLink "AhoarchLaw" 54 yX6_occurrence) := ⟨(ah_in 572 (by decide +kernel) rfl), (ah_in 1 (by decide +kernel) rfl), (ah_in 575 (by decide +kernel) rfl), by decide, by decide, by decide +kernel⟩
theorem li_Law_54 : Cond.instanceMethod yX6_occurrence ∈ ah_T ∧ Cond.selects yX6_occurrence.cls yX6_occurrence yX6_occurrence ∈ ah_T := ⟨(ah_in 573 (by decide +kernel) rfl), (ah_in 574 (by decide +kernel) rfl)⟩
theorem lk_Law_57 : ah_L "AhoarchLaw" 57 yX6_chosen cX6_chosen 2 (some .int) 1 (.methodLink "AhoarchLaw" 57 yX6_chosen) := ⟨(ah_in 583 (by decide +kernel) rfl), (ah_in 1 (by decide +kernel) rfl), (ah_in 586 (by decide +kernel) rfl), by decide, by decide, by decide +kernel⟩
theorem li_Law_57 : Cond.instanceMethod yX6_chosen ∈ ah_T ∧ Cond.selects yX6_chosen.cls yX6_chosen yX6_chosen ∈ ah_T := ⟨(ah_in 584 (by decide +kernel) rfl), (ah_in 585 (by decide +kernel) rfl)⟩
theorem lk_Law_60 : ah_L "AhoarchLaw" 60 yX6_chosenPattern cX6_chosenPattern 3 (some .int) 2 (.methodLink "AhoarchLaw" 60 yX6_chosenPattern) := ⟨(ah_in 594 (by decide +kernel) rfl), (ah_in 1 (by decide +kernel) rfl), (ah_in 597 (by decide +kernel) rfl), by decide, by decide, by decide +kernel⟩
theorem li_Law_60 : Cond.instanceMethod yX6_chosenPattern ∈ ah_T ∧ Cond.selects yX6_chosenPattern.cls yX6_chosenPattern yX6_chosenPattern ∈ ah_T := ⟨(ah_in 595 (by decide +kernel) rfl), (ah_in 596 (by decide +kernel) rfl)⟩
theorem lk_Law_63 : ah_L "AhoarchLaw" 63 yX6_chosenPlace cX6_chosenPlace 3 (some .int) 2 (.methodLink "AhoarchLaw" 63 yX6_chosenPlace) := ⟨(ah_in 609 (by decide +kernel) rfl), (ah_in 1 (by decide +kernel) rfl), (ah_in 612 (by decide +kernel) rfl), by decide, by decide, by decide +kernel⟩
theorem li_Law_63 : Cond.instanceMethod yX6_chosenPlace ∈ ah_T ∧ Cond.selects yX6_chosenPlace.cls yX6_chosenPlace yX6_chosenPlace ∈ ah_T := ⟨(ah_in 610 (by decide +kernel) rfl), (ah_in 611 (by decide +kernel) rfl)⟩
theorem lk_Law_66 : ah_L "AhoarchLaw" 66 yX6_replacedLength cX6_replacedLength 2 (some .int) 1 (.methodLink "AhoarchLaw" 66 yX6_replacedLength) := ⟨(ah_in 620 (by decide +kernel) rfl), (ah_in 1 (by decide +kernel) rfl), (ah_in 623 (by decide +kernel) rfl), by decide, by decide, by decide +kernel⟩
theorem li_Law_66 : Cond.instanceMethod yX6_replacedLength ∈ ah_T ∧ Cond.selects yX6_replacedLength.cls yX6_replacedLength yX6_replacedLength ∈ ah_T := ⟨(ah_in 621 (by decide +kernel) rfl), (ah_in 622 (by decide +kernel) rfl)⟩
theorem lk_Law_69 : ah_L "AhoarchLaw" 69 yX6_replaced cX6_replaced 3 (some .char) 2 (.methodLink "AhoarchLaw" 69 yX6_replaced) := ⟨(ah_in 649 (by decide +kernel) rfl), (ah_in 1 (by decide +kernel) rfl), (ah_in 652 (by decide +kernel) rfl), by decide, by decide, by decide +kernel⟩
theorem li_Law_69 : Cond.instanceMethod yX6_replaced ∈ ah_T ∧ Cond.selects yX6_replaced.cls yX6_replaced yX6_replaced ∈ ah_T := ⟨(ah_in 650 (by decide +kernel) rfl), (ah_in 651 (by decide +kernel) rfl)⟩
theorem lk_Law_73 : ah_L "AhoarchLaw" 73 yX6_init cX6_init 1 none 0 (.methodLink "AhoarchLaw" 73 yX6_init) := ⟨(ah_in 19 (by decide +kernel) rfl), (ah_in 1 (by decide +kernel) rfl), (ah_in 21 (by decide +kernel) rfl), by decide, by decide, by decide +kernel⟩
theorem li_Law_73 : yX6_init.name = "<init>" ∧ Cond.instanceMethod yX6_init ∈ ah_T := ⟨rfl, (ah_in 20 (by decide +kernel) rfl)⟩
theorem lk_Law_76 : ah_L "AhoarchLaw" 76 yX7_init cX7_init 1 none 0 (.methodLink "AhoarchLaw" 76 yX7_init) := ⟨(ah_in 660 (by decide +kernel) rfl), (ah_in 7 (by decide +kernel) rfl), (ah_in 662 (by decide +kernel) rfl), by decide, by decide, by decide +kernel⟩
theorem li_Law_76 : yX7_init.name = "<init>" ∧ Cond.instanceMethod yX7_init ∈ ah_T := ⟨rfl, (ah_in 661 (by decide +kernel) rfl)⟩
theorem lk_Law_82 : ah_L "AhoarchLaw" 82 yX7_draft cX7_draft 2 (some .int) 1 (.methodLink "AhoarchLaw" 82 yX7_draft) := ⟨(ah_in 712 (by decide +kernel) rfl), (ah_in 7 (by decide +kernel) rfl), (ah_in 715 (by decide +kernel) rfl), by decide, by decide, by decide +kernel⟩
theorem li_Law_82 : Cond.instanceMethod yX7_draft ∈ ah_T ∧ Cond.selects yX7_draft.cls yX7_draft yX7_draft ∈ ah_T := ⟨(ah_in 713 (by decide +kernel) rfl), (ah_in 714 (by decide +kernel) rfl)⟩
theorem lk_Law_83 : ah_L "AhoarchLaw" 83 yX7_thrown cX7_thrown 1 (some .int) 0 (.methodLink "AhoarchLaw" 83 yX7_thrown) := ⟨(ah_in 708 (by decide +kernel) rfl), (ah_in 7 (by decide +kernel) rfl), (ah_in 711 (by decide +kernel) rfl), by decide, by decide, by decide +kernel⟩
theorem li_Law_83 : Cond.instanceMethod yX7_thrown ∈ ah_T ∧ Cond.selects yX7_thrown.cls yX7_thrown yX7_thrown ∈ ah_T := ⟨(ah_in 709 (by decide +kernel) rfl), (ah_in 710 (by decide +kernel) rfl)⟩
theorem lk_Law_89 : ah_L "AhoarchLaw" 89 yX7_enter cX7_enter 3 (some .int) 0 (.methodLink "AhoarchLaw" 89 yX7_enter) := ⟨(ah_in 723 (by decide +kernel) rfl), (ah_in 7 (by decide +kernel) rfl), (ah_in 726 (by decide +kernel) rfl), by decide, by decide, by decide +kernel⟩
theorem li_Law_89 : Cond.instanceMethod yX7_enter ∈ ah_T ∧ Cond.selects yX7_enter.cls yX7_enter yX7_enter ∈ ah_T := ⟨(ah_in 724 (by decide +kernel) rfl), (ah_in 725 (by decide +kernel) rfl)⟩
theorem lk_Law_93 : ah_L "AhoarchLaw" 93 yX7_setReplacement cX7_setReplacement 4 (some .int) 1 (.methodLink "AhoarchLaw" 93 yX7_setReplacement) := ⟨(ah_in 735 (by decide +kernel) rfl), (ah_in 7 (by decide +kernel) rfl), (ah_in 738 (by decide +kernel) rfl), by decide, by decide, by decide +kernel⟩
theorem li_Law_93 : Cond.instanceMethod yX7_setReplacement ∈ ah_T ∧ Cond.selects yX7_setReplacement.cls yX7_setReplacement yX7_setReplacement ∈ ah_T := ⟨(ah_in 736 (by decide +kernel) rfl), (ah_in 737 (by decide +kernel) rfl)⟩
theorem lk_Law_96 : ah_L "AhoarchLaw" 96 yX7_takeOut cX7_takeOut 2 (some .int) 1 (.methodLink "AhoarchLaw" 96 yX7_takeOut) := ⟨(ah_in 747 (by decide +kernel) rfl), (ah_in 7 (by decide +kernel) rfl), (ah_in 750 (by decide +kernel) rfl), by decide, by decide, by decide +kernel⟩
theorem li_Law_96 : Cond.instanceMethod yX7_takeOut ∈ ah_T ∧ Cond.selects yX7_takeOut.cls yX7_takeOut yX7_takeOut ∈ ah_T := ⟨(ah_in 748 (by decide +kernel) rfl), (ah_in 749 (by decide +kernel) rfl)⟩
theorem lk_Law_97 : ah_L "AhoarchLaw" 97 yX6_patterns cX6_patterns 1 (some .int) 0 (.methodLink "AhoarchLaw" 97 yX6_patterns) := ⟨(ah_in 135 (by decide +kernel) rfl), (ah_in 1 (by decide +kernel) rfl), (ah_in 138 (by decide +kernel) rfl), by decide, by decide, by decide +kernel⟩
theorem li_Law_97 : Cond.instanceMethod yX6_patterns ∈ ah_T ∧ Cond.selects yX6_patterns.cls yX6_patterns yX6_patterns ∈ ah_T := ⟨(ah_in 136 (by decide +kernel) rfl), (ah_in 137 (by decide +kernel) rfl)⟩
theorem lk_Law_100 : ah_L "AhoarchLaw" 100 yX7_patterns cX7_patterns 1 (some .int) 0 (.methodLink "AhoarchLaw" 100 yX7_patterns) := ⟨(ah_in 751 (by decide +kernel) rfl), (ah_in 7 (by decide +kernel) rfl), (ah_in 754 (by decide +kernel) rfl), by decide, by decide, by decide +kernel⟩
theorem li_Law_100 : Cond.instanceMethod yX7_patterns ∈ ah_T ∧ Cond.selects yX7_patterns.cls yX7_patterns yX7_patterns ∈ ah_T := ⟨(ah_in 752 (by decide +kernel) rfl), (ah_in 753 (by decide +kernel) rfl)⟩
theorem lk_Law_103 : ah_L "AhoarchLaw" 103 yX7_length cX7_length 2 (some .int) 1 (.methodLink "AhoarchLaw" 103 yX7_length) := ⟨(ah_in 755 (by decide +kernel) rfl), (ah_in 7 (by decide +kernel) rfl), (ah_in 758 (by decide +kernel) rfl), by decide, by decide, by decide +kernel⟩
theorem li_Law_103 : Cond.instanceMethod yX7_length ∈ ah_T ∧ Cond.selects yX7_length.cls yX7_length yX7_length ∈ ah_T := ⟨(ah_in 756 (by decide +kernel) rfl), (ah_in 757 (by decide +kernel) rfl)⟩
theorem lk_Law_104 : ah_L "AhoarchLaw" 104 yX6_beginnings cX6_beginnings 1 (some .int) 0 (.methodLink "AhoarchLaw" 104 yX6_beginnings) := ⟨(ah_in 139 (by decide +kernel) rfl), (ah_in 1 (by decide +kernel) rfl), (ah_in 142 (by decide +kernel) rfl), by decide, by decide, by decide +kernel⟩
theorem li_Law_104 : Cond.instanceMethod yX6_beginnings ∈ ah_T ∧ Cond.selects yX6_beginnings.cls yX6_beginnings yX6_beginnings ∈ ah_T := ⟨(ah_in 140 (by decide +kernel) rfl), (ah_in 141 (by decide +kernel) rfl)⟩
theorem lk_Law_107 : ah_L "AhoarchLaw" 107 yX7_beginnings cX7_beginnings 6 (some .int) 0 (.methodLink "AhoarchLaw" 107 yX7_beginnings) := ⟨(ah_in 759 (by decide +kernel) rfl), (ah_in 7 (by decide +kernel) rfl), (ah_in 762 (by decide +kernel) rfl), by decide, by decide, by decide +kernel⟩
theorem li_Law_107 : Cond.instanceMethod yX7_beginnings ∈ ah_T ∧ Cond.selects yX7_beginnings.cls yX7_beginnings yX7_beginnings ∈ ah_T := ⟨(ah_in 760 (by decide +kernel) rfl), (ah_in 761 (by decide +kernel) rfl)⟩
theorem lk_Law_110 : ah_L "AhoarchLaw" 110 yX7_link cX7_link 5 (some .int) 1 (.methodLink "AhoarchLaw" 110 yX7_link) := ⟨(ah_in 767 (by decide +kernel) rfl), (ah_in 7 (by decide +kernel) rfl), (ah_in 770 (by decide +kernel) rfl), by decide, by decide, by decide +kernel⟩
theorem li_Law_110 : Cond.instanceMethod yX7_link ∈ ah_T ∧ Cond.selects yX7_link.cls yX7_link yX7_link ∈ ah_T := ⟨(ah_in 768 (by decide +kernel) rfl), (ah_in 769 (by decide +kernel) rfl)⟩
theorem lk_Law_114 : ah_L "AhoarchLaw" 114 yX7_overlap cX7_overlap 5 (some .int) 2 (.methodLink "AhoarchLaw" 114 yX7_overlap) := ⟨(ah_in 771 (by decide +kernel) rfl), (ah_in 7 (by decide +kernel) rfl), (ah_in 774 (by decide +kernel) rfl), by decide, by decide, by decide +kernel⟩
theorem li_Law_114 : Cond.instanceMethod yX7_overlap ∈ ah_T ∧ Cond.selects yX7_overlap.cls yX7_overlap yX7_overlap ∈ ah_T := ⟨(ah_in 772 (by decide +kernel) rfl), (ah_in 773 (by decide +kernel) rfl)⟩
theorem lk_Law_117 : ah_L "AhoarchLaw" 117 yX7_feed cX7_feed 2 (some .int) 1 (.methodLink "AhoarchLaw" 117 yX7_feed) := ⟨(ah_in 775 (by decide +kernel) rfl), (ah_in 7 (by decide +kernel) rfl), (ah_in 778 (by decide +kernel) rfl), by decide, by decide, by decide +kernel⟩
theorem li_Law_117 : Cond.instanceMethod yX7_feed ∈ ah_T ∧ Cond.selects yX7_feed.cls yX7_feed yX7_feed ∈ ah_T := ⟨(ah_in 776 (by decide +kernel) rfl), (ah_in 777 (by decide +kernel) rfl)⟩
theorem lk_Law_120 : ah_L "AhoarchLaw" 120 yX7_feedPattern cX7_feedPattern 5 (some .int) 1 (.methodLink "AhoarchLaw" 120 yX7_feedPattern) := ⟨(ah_in 791 (by decide +kernel) rfl), (ah_in 7 (by decide +kernel) rfl), (ah_in 794 (by decide +kernel) rfl), by decide, by decide, by decide +kernel⟩
theorem li_Law_120 : Cond.instanceMethod yX7_feedPattern ∈ ah_T ∧ Cond.selects yX7_feedPattern.cls yX7_feedPattern yX7_feedPattern ∈ ah_T := ⟨(ah_in 792 (by decide +kernel) rfl), (ah_in 793 (by decide +kernel) rfl)⟩
theorem lk_Law_121 : ah_L "AhoarchLaw" 121 yX6_clear cX6_clear 2 (some .int) 0 (.methodLink "AhoarchLaw" 121 yX6_clear) := ⟨(ah_in 168 (by decide +kernel) rfl), (ah_in 1 (by decide +kernel) rfl), (ah_in 171 (by decide +kernel) rfl), by decide, by decide, by decide +kernel⟩
theorem li_Law_121 : Cond.instanceMethod yX6_clear ∈ ah_T ∧ Cond.selects yX6_clear.cls yX6_clear yX6_clear ∈ ah_T := ⟨(ah_in 169 (by decide +kernel) rfl), (ah_in 170 (by decide +kernel) rfl)⟩
theorem lk_Law_124 : ah_L "AhoarchLaw" 124 yX7_clear cX7_clear 2 (some .int) 0 (.methodLink "AhoarchLaw" 124 yX7_clear) := ⟨(ah_in 795 (by decide +kernel) rfl), (ah_in 7 (by decide +kernel) rfl), (ah_in 798 (by decide +kernel) rfl), by decide, by decide, by decide +kernel⟩
theorem li_Law_124 : Cond.instanceMethod yX7_clear ∈ ah_T ∧ Cond.selects yX7_clear.cls yX7_clear yX7_clear ∈ ah_T := ⟨(ah_in 796 (by decide +kernel) rfl), (ah_in 797 (by decide +kernel) rfl)⟩
theorem lk_Law_125 : ah_L "AhoarchLaw" 125 yX6_streamLength cX6_streamLength 1 (some .int) 0 (.methodLink "AhoarchLaw" 125 yX6_streamLength) := ⟨(ah_in 172 (by decide +kernel) rfl), (ah_in 1 (by decide +kernel) rfl), (ah_in 175 (by decide +kernel) rfl), by decide, by decide, by decide +kernel⟩
theorem li_Law_125 : Cond.instanceMethod yX6_streamLength ∈ ah_T ∧ Cond.selects yX6_streamLength.cls yX6_streamLength yX6_streamLength ∈ ah_T := ⟨(ah_in 173 (by decide +kernel) rfl), (ah_in 174 (by decide +kernel) rfl)⟩
theorem lk_Law_128 : ah_L "AhoarchLaw" 128 yX7_streamLength cX7_streamLength 1 (some .int) 0 (.methodLink "AhoarchLaw" 128 yX7_streamLength) := ⟨(ah_in 799 (by decide +kernel) rfl), (ah_in 7 (by decide +kernel) rfl), (ah_in 802 (by decide +kernel) rfl), by decide, by decide, by decide +kernel⟩
theorem li_Law_128 : Cond.instanceMethod yX7_streamLength ∈ ah_T ∧ Cond.selects yX7_streamLength.cls yX7_streamLength yX7_streamLength ∈ ah_T := ⟨(ah_in 800 (by decide +kernel) rfl), (ah_in 801 (by decide +kernel) rfl)⟩
theorem lk_Law_129 : ah_L "AhoarchLaw" 129 yX6_depth cX6_depth 1 (some .int) 0 (.methodLink "AhoarchLaw" 129 yX6_depth) := ⟨(ah_in 176 (by decide +kernel) rfl), (ah_in 1 (by decide +kernel) rfl), (ah_in 179 (by decide +kernel) rfl), by decide, by decide, by decide +kernel⟩
theorem li_Law_129 : Cond.instanceMethod yX6_depth ∈ ah_T ∧ Cond.selects yX6_depth.cls yX6_depth yX6_depth ∈ ah_T := ⟨(ah_in 177 (by decide +kernel) rfl), (ah_in 178 (by decide +kernel) rfl)⟩
theorem lk_Law_132 : ah_L "AhoarchLaw" 132 yX7_depth cX7_depth 4 (some .int) 0 (.methodLink "AhoarchLaw" 132 yX7_depth) := ⟨(ah_in 803 (by decide +kernel) rfl), (ah_in 7 (by decide +kernel) rfl), (ah_in 806 (by decide +kernel) rfl), by decide, by decide, by decide +kernel⟩
theorem li_Law_132 : Cond.instanceMethod yX7_depth ∈ ah_T ∧ Cond.selects yX7_depth.cls yX7_depth yX7_depth ∈ ah_T := ⟨(ah_in 804 (by decide +kernel) rfl), (ah_in 805 (by decide +kernel) rfl)⟩
theorem lk_Law_133 : ah_L "AhoarchLaw" 133 yX6_ending cX6_ending 1 (some .int) 0 (.methodLink "AhoarchLaw" 133 yX6_ending) := ⟨(ah_in 196 (by decide +kernel) rfl), (ah_in 1 (by decide +kernel) rfl), (ah_in 199 (by decide +kernel) rfl), by decide, by decide, by decide +kernel⟩
theorem li_Law_133 : Cond.instanceMethod yX6_ending ∈ ah_T ∧ Cond.selects yX6_ending.cls yX6_ending yX6_ending ∈ ah_T := ⟨(ah_in 197 (by decide +kernel) rfl), (ah_in 198 (by decide +kernel) rfl)⟩
theorem lk_Law_136 : ah_L "AhoarchLaw" 136 yX7_ending cX7_ending 1 (some .int) 0 (.methodLink "AhoarchLaw" 136 yX7_ending) := ⟨(ah_in 811 (by decide +kernel) rfl), (ah_in 7 (by decide +kernel) rfl), (ah_in 814 (by decide +kernel) rfl), by decide, by decide, by decide +kernel⟩
theorem li_Law_136 : Cond.instanceMethod yX7_ending ∈ ah_T ∧ Cond.selects yX7_ending.cls yX7_ending yX7_ending ∈ ah_T := ⟨(ah_in 812 (by decide +kernel) rfl), (ah_in 813 (by decide +kernel) rfl)⟩
theorem lk_Law_139 : ah_L "AhoarchLaw" 139 yX7_endingPattern cX7_endingPattern 6 (some .int) 1 (.methodLink "AhoarchLaw" 139 yX7_endingPattern) := ⟨(ah_in 815 (by decide +kernel) rfl), (ah_in 7 (by decide +kernel) rfl), (ah_in 818 (by decide +kernel) rfl), by decide, by decide, by decide +kernel⟩
theorem li_Law_139 : Cond.instanceMethod yX7_endingPattern ∈ ah_T ∧ Cond.selects yX7_endingPattern.cls yX7_endingPattern yX7_endingPattern ∈ ah_T := ⟨(ah_in 816 (by decide +kernel) rfl), (ah_in 817 (by decide +kernel) rfl)⟩
theorem lk_Law_140 : ah_L "AhoarchLaw" 140 yX6_occurrences cX6_occurrences 3 (some .int) 0 (.methodLink "AhoarchLaw" 140 yX6_occurrences) := ⟨(ah_in 210 (by decide +kernel) rfl), (ah_in 1 (by decide +kernel) rfl), (ah_in 213 (by decide +kernel) rfl), by decide, by decide, by decide +kernel⟩
theorem li_Law_140 : Cond.instanceMethod yX6_occurrences ∈ ah_T ∧ Cond.selects yX6_occurrences.cls yX6_occurrences yX6_occurrences ∈ ah_T := ⟨(ah_in 211 (by decide +kernel) rfl), (ah_in 212 (by decide +kernel) rfl)⟩
theorem lk_Law_143 : ah_L "AhoarchLaw" 143 yX7_occurrences cX7_occurrences 3 (some .int) 0 (.methodLink "AhoarchLaw" 143 yX7_occurrences) := ⟨(ah_in 819 (by decide +kernel) rfl), (ah_in 7 (by decide +kernel) rfl), (ah_in 822 (by decide +kernel) rfl), by decide, by decide, by decide +kernel⟩
theorem li_Law_143 : Cond.instanceMethod yX7_occurrences ∈ ah_T ∧ Cond.selects yX7_occurrences.cls yX7_occurrences yX7_occurrences ∈ ah_T := ⟨(ah_in 820 (by decide +kernel) rfl), (ah_in 821 (by decide +kernel) rfl)⟩
theorem lk_Law_146 : ah_L "AhoarchLaw" 146 yX7_occurrencesOf cX7_occurrencesOf 2 (some .int) 1 (.methodLink "AhoarchLaw" 146 yX7_occurrencesOf) := ⟨(ah_in 827 (by decide +kernel) rfl), (ah_in 7 (by decide +kernel) rfl), (ah_in 830 (by decide +kernel) rfl), by decide, by decide, by decide +kernel⟩
theorem li_Law_146 : Cond.instanceMethod yX7_occurrencesOf ∈ ah_T ∧ Cond.selects yX7_occurrencesOf.cls yX7_occurrencesOf yX7_occurrencesOf ∈ ah_T := ⟨(ah_in 828 (by decide +kernel) rfl), (ah_in 829 (by decide +kernel) rfl)⟩
theorem lk_Law_149 : ah_L "AhoarchLaw" 149 yX7_occurrence cX7_occurrence 6 (some .int) 2 (.methodLink "AhoarchLaw" 149 yX7_occurrence) := ⟨(ah_in 831 (by decide +kernel) rfl), (ah_in 7 (by decide +kernel) rfl), (ah_in 834 (by decide +kernel) rfl), by decide, by decide, by decide +kernel⟩
theorem li_Law_149 : Cond.instanceMethod yX7_occurrence ∈ ah_T ∧ Cond.selects yX7_occurrence.cls yX7_occurrence yX7_occurrence ∈ ah_T := ⟨(ah_in 832 (by decide +kernel) rfl), (ah_in 833 (by decide +kernel) rfl)⟩
theorem lk_Law_150 : ah_L "AhoarchLaw" 150 yX6_told cX6_told 1 (some .int) 0 (.methodLink "AhoarchLaw" 150 yX6_told) := ⟨(ah_in 214 (by decide +kernel) rfl), (ah_in 1 (by decide +kernel) rfl), (ah_in 217 (by decide +kernel) rfl), by decide, by decide, by decide +kernel⟩
theorem li_Law_150 : Cond.instanceMethod yX6_told ∈ ah_T ∧ Cond.selects yX6_told.cls yX6_told yX6_told ∈ ah_T := ⟨(ah_in 215 (by decide +kernel) rfl), (ah_in 216 (by decide +kernel) rfl)⟩
theorem lk_Law_153 : ah_L "AhoarchLaw" 153 yX7_told cX7_told 1 (some .int) 0 (.methodLink "AhoarchLaw" 153 yX7_told) := ⟨(ah_in 835 (by decide +kernel) rfl), (ah_in 7 (by decide +kernel) rfl), (ah_in 838 (by decide +kernel) rfl), by decide, by decide, by decide +kernel⟩
theorem li_Law_153 : Cond.instanceMethod yX7_told ∈ ah_T ∧ Cond.selects yX7_told.cls yX7_told yX7_told ∈ ah_T := ⟨(ah_in 836 (by decide +kernel) rfl), (ah_in 837 (by decide +kernel) rfl)⟩
theorem lk_Law_154 : ah_L "AhoarchLaw" 154 yX6_covered cX6_covered 5 (some .int) 0 (.methodLink "AhoarchLaw" 154 yX6_covered) := ⟨(ah_in 218 (by decide +kernel) rfl), (ah_in 1 (by decide +kernel) rfl), (ah_in 221 (by decide +kernel) rfl), by decide, by decide, by decide +kernel⟩
theorem li_Law_154 : Cond.instanceMethod yX6_covered ∈ ah_T ∧ Cond.selects yX6_covered.cls yX6_covered yX6_covered ∈ ah_T := ⟨(ah_in 219 (by decide +kernel) rfl), (ah_in 220 (by decide +kernel) rfl)⟩
theorem lk_Law_157 : ah_L "AhoarchLaw" 157 yX7_covered cX7_covered 6 (some .int) 0 (.methodLink "AhoarchLaw" 157 yX7_covered) := ⟨(ah_in 839 (by decide +kernel) rfl), (ah_in 7 (by decide +kernel) rfl), (ah_in 842 (by decide +kernel) rfl), by decide, by decide, by decide +kernel⟩
theorem li_Law_157 : Cond.instanceMethod yX7_covered ∈ ah_T ∧ Cond.selects yX7_covered.cls yX7_covered yX7_covered ∈ ah_T := ⟨(ah_in 840 (by decide +kernel) rfl), (ah_in 841 (by decide +kernel) rfl)⟩
theorem lk_Law_158 : ah_L "AhoarchLaw" 158 yX6_mostApart cX6_mostApart 1 (some .int) 0 (.methodLink "AhoarchLaw" 158 yX6_mostApart) := ⟨(ah_in 231 (by decide +kernel) rfl), (ah_in 1 (by decide +kernel) rfl), (ah_in 234 (by decide +kernel) rfl), by decide, by decide, by decide +kernel⟩
theorem li_Law_158 : Cond.instanceMethod yX6_mostApart ∈ ah_T ∧ Cond.selects yX6_mostApart.cls yX6_mostApart yX6_mostApart ∈ ah_T := ⟨(ah_in 232 (by decide +kernel) rfl), (ah_in 233 (by decide +kernel) rfl)⟩
theorem lk_Law_161 : ah_L "AhoarchLaw" 161 yX7_mostApart cX7_mostApart 1 (some .int) 0 (.methodLink "AhoarchLaw" 161 yX7_mostApart) := ⟨(ah_in 843 (by decide +kernel) rfl), (ah_in 7 (by decide +kernel) rfl), (ah_in 846 (by decide +kernel) rfl), by decide, by decide, by decide +kernel⟩
theorem li_Law_161 : Cond.instanceMethod yX7_mostApart ∈ ah_T ∧ Cond.selects yX7_mostApart.cls yX7_mostApart yX7_mostApart ∈ ah_T := ⟨(ah_in 844 (by decide +kernel) rfl), (ah_in 845 (by decide +kernel) rfl)⟩
theorem lk_Law_164 : ah_L "AhoarchLaw" 164 yX7_chosen cX7_chosen 2 (some .int) 1 (.methodLink "AhoarchLaw" 164 yX7_chosen) := ⟨(ah_in 863 (by decide +kernel) rfl), (ah_in 7 (by decide +kernel) rfl), (ah_in 866 (by decide +kernel) rfl), by decide, by decide, by decide +kernel⟩
theorem li_Law_164 : Cond.instanceMethod yX7_chosen ∈ ah_T ∧ Cond.selects yX7_chosen.cls yX7_chosen yX7_chosen ∈ ah_T := ⟨(ah_in 864 (by decide +kernel) rfl), (ah_in 865 (by decide +kernel) rfl)⟩
theorem lk_Law_167 : ah_L "AhoarchLaw" 167 yX7_chosenPattern cX7_chosenPattern 3 (some .int) 2 (.methodLink "AhoarchLaw" 167 yX7_chosenPattern) := ⟨(ah_in 871 (by decide +kernel) rfl), (ah_in 7 (by decide +kernel) rfl), (ah_in 874 (by decide +kernel) rfl), by decide, by decide, by decide +kernel⟩
theorem li_Law_167 : Cond.instanceMethod yX7_chosenPattern ∈ ah_T ∧ Cond.selects yX7_chosenPattern.cls yX7_chosenPattern yX7_chosenPattern ∈ ah_T := ⟨(ah_in 872 (by decide +kernel) rfl), (ah_in 873 (by decide +kernel) rfl)⟩
theorem lk_Law_170 : ah_L "AhoarchLaw" 170 yX7_chosenPlace cX7_chosenPlace 3 (some .int) 2 (.methodLink "AhoarchLaw" 170 yX7_chosenPlace) := ⟨(ah_in 879 (by decide +kernel) rfl), (ah_in 7 (by decide +kernel) rfl), (ah_in 882 (by decide +kernel) rfl), by decide, by decide, by decide +kernel⟩
theorem li_Law_170 : Cond.instanceMethod yX7_chosenPlace ∈ ah_T ∧ Cond.selects yX7_chosenPlace.cls yX7_chosenPlace yX7_chosenPlace ∈ ah_T := ⟨(ah_in 880 (by decide +kernel) rfl), (ah_in 881 (by decide +kernel) rfl)⟩
theorem lk_Law_173 : ah_L "AhoarchLaw" 173 yX7_replacedLength cX7_replacedLength 2 (some .int) 1 (.methodLink "AhoarchLaw" 173 yX7_replacedLength) := ⟨(ah_in 883 (by decide +kernel) rfl), (ah_in 7 (by decide +kernel) rfl), (ah_in 886 (by decide +kernel) rfl), by decide, by decide, by decide +kernel⟩
theorem li_Law_173 : Cond.instanceMethod yX7_replacedLength ∈ ah_T ∧ Cond.selects yX7_replacedLength.cls yX7_replacedLength yX7_replacedLength ∈ ah_T := ⟨(ah_in 884 (by decide +kernel) rfl), (ah_in 885 (by decide +kernel) rfl)⟩
theorem lk_Law_176 : ah_L "AhoarchLaw" 176 yX7_replaced cX7_replaced 4 (some .char) 2 (.methodLink "AhoarchLaw" 176 yX7_replaced) := ⟨(ah_in 891 (by decide +kernel) rfl), (ah_in 7 (by decide +kernel) rfl), (ah_in 894 (by decide +kernel) rfl), by decide, by decide, by decide +kernel⟩
theorem li_Law_176 : Cond.instanceMethod yX7_replaced ∈ ah_T ∧ Cond.selects yX7_replaced.cls yX7_replaced yX7_replaced ∈ ah_T := ⟨(ah_in 892 (by decide +kernel) rfl), (ah_in 893 (by decide +kernel) rfl)⟩
theorem lk_Law_177 : ah_L "AhoarchLaw" 177 yX6_certain cX6_certain 5 (some .int) 0 (.methodLink "AhoarchLaw" 177 yX6_certain) := ⟨(ah_in 260 (by decide +kernel) rfl), (ah_in 1 (by decide +kernel) rfl), (ah_in 263 (by decide +kernel) rfl), by decide, by decide, by decide +kernel⟩
theorem li_Law_177 : Cond.instanceMethod yX6_certain ∈ ah_T ∧ Cond.selects yX6_certain.cls yX6_certain yX6_certain ∈ ah_T := ⟨(ah_in 261 (by decide +kernel) rfl), (ah_in 262 (by decide +kernel) rfl)⟩
theorem lk_Law_180 : ah_L "AhoarchLaw" 180 yX7_certain cX7_certain 4 (some .int) 0 (.methodLink "AhoarchLaw" 180 yX7_certain) := ⟨(ah_in 899 (by decide +kernel) rfl), (ah_in 7 (by decide +kernel) rfl), (ah_in 902 (by decide +kernel) rfl), by decide, by decide, by decide +kernel⟩
theorem li_Law_180 : Cond.instanceMethod yX7_certain ∈ ah_T ∧ Cond.selects yX7_certain.cls yX7_certain yX7_certain ∈ ah_T := ⟨(ah_in 900 (by decide +kernel) rfl), (ah_in 901 (by decide +kernel) rfl)⟩
theorem lk_Mod_39 : ah_L "AhoarchModel" 39 yX7_isLetter cX7_isLetter 1 (some .boolean) 1 (.methodLink "AhoarchModel" 39 yX7_isLetter) := ⟨(ah_in 716 (by decide +kernel) rfl), (ah_in 7 (by decide +kernel) rfl), (ah_in 718 (by decide +kernel) rfl), by decide, by decide, by decide +kernel⟩
theorem li_Mod_39 : Cond.static yX7_isLetter ∈ ah_T := (ah_in 717 (by decide +kernel) rfl)
theorem lk_Mod_46 : ah_L "AhoarchModel" 46 yX7_holds cX7_holds 2 (some .boolean) 1 (.methodLink "AhoarchModel" 46 yX7_holds) := ⟨(ah_in 719 (by decide +kernel) rfl), (ah_in 7 (by decide +kernel) rfl), (ah_in 722 (by decide +kernel) rfl), by decide, by decide, by decide +kernel⟩
theorem li_Mod_46 : Cond.instanceMethod yX7_holds ∈ ah_T ∧ Cond.selects yX7_holds.cls yX7_holds yX7_holds ∈ ah_T := ⟨(ah_in 721 (by decide +kernel) rfl), (ah_inS 12 (q := (yX7_holds, 14)) (by decide +kernel))⟩
theorem lk_Mod_50 : ah_L "AhoarchModel" 50 yX7_patternsNow cX7_patternsNow 3 (some .int) 0 (.methodLink "AhoarchModel" 50 yX7_patternsNow) := ⟨(ah_in 727 (by decide +kernel) rfl), (ah_in 7 (by decide +kernel) rfl), (ah_in 730 (by decide +kernel) rfl), by decide, by decide, by decide +kernel⟩
theorem li_Mod_50 : Cond.instanceMethod yX7_patternsNow ∈ ah_T ∧ Cond.selects yX7_patternsNow.cls yX7_patternsNow yX7_patternsNow ∈ ah_T := ⟨(ah_in 729 (by decide +kernel) rfl), (ah_inS 13 (q := (yX7_patternsNow, 14)) (by decide +kernel))⟩
theorem lk_Mod_54 : ah_L "AhoarchModel" 54 yX7_isDraft cX7_isDraft 4 (some .boolean) 1 (.methodLink "AhoarchModel" 54 yX7_isDraft) := ⟨(ah_in 731 (by decide +kernel) rfl), (ah_in 7 (by decide +kernel) rfl), (ah_in 734 (by decide +kernel) rfl), by decide, by decide, by decide +kernel⟩
theorem li_Mod_54 : Cond.instanceMethod yX7_isDraft ∈ ah_T ∧ Cond.selects yX7_isDraft.cls yX7_isDraft yX7_isDraft ∈ ah_T := ⟨(ah_in 733 (by decide +kernel) rfl), (ah_inS 14 (q := (yX7_isDraft, 14)) (by decide +kernel))⟩
theorem lk_Mod_57 : ah_L "AhoarchModel" 57 yX7_isPattern cX7_isPattern 2 (some .boolean) 1 (.methodLink "AhoarchModel" 57 yX7_isPattern) := ⟨(ah_in 743 (by decide +kernel) rfl), (ah_in 7 (by decide +kernel) rfl), (ah_in 746 (by decide +kernel) rfl), by decide, by decide, by decide +kernel⟩
theorem li_Mod_57 : Cond.instanceMethod yX7_isPattern ∈ ah_T ∧ Cond.selects yX7_isPattern.cls yX7_isPattern yX7_isPattern ∈ ah_T := ⟨(ah_in 745 (by decide +kernel) rfl), (ah_inS 16 (q := (yX7_isPattern, 14)) (by decide +kernel))⟩
theorem lk_Mod_60 : ah_L "AhoarchModel" 60 yX7_isAsked cX7_isAsked 2 (some .boolean) 1 (.methodLink "AhoarchModel" 60 yX7_isAsked) := ⟨(ah_in 739 (by decide +kernel) rfl), (ah_in 7 (by decide +kernel) rfl), (ah_in 742 (by decide +kernel) rfl), by decide, by decide, by decide +kernel⟩
theorem li_Mod_60 : Cond.instanceMethod yX7_isAsked ∈ ah_T ∧ Cond.selects yX7_isAsked.cls yX7_isAsked yX7_isAsked ∈ ah_T := ⟨(ah_in 741 (by decide +kernel) rfl), (ah_inS 15 (q := (yX7_isAsked, 14)) (by decide +kernel))⟩
theorem lk_Mod_63 : ah_L "AhoarchModel" 63 yX7_begins cX7_begins 7 (some .boolean) 4 (.methodLink "AhoarchModel" 63 yX7_begins) := ⟨(ah_in 763 (by decide +kernel) rfl), (ah_in 7 (by decide +kernel) rfl), (ah_in 766 (by decide +kernel) rfl), by decide, by decide, by decide +kernel⟩
theorem li_Mod_63 : Cond.instanceMethod yX7_begins ∈ ah_T ∧ Cond.selects yX7_begins.cls yX7_begins yX7_begins ∈ ah_T := ⟨(ah_in 765 (by decide +kernel) rfl), (ah_inS 17 (q := (yX7_begins, 14)) (by decide +kernel))⟩
theorem lk_Mod_70 : ah_L "AhoarchModel" 70 yX7_stands cX7_stands 5 (some .boolean) 2 (.methodLink "AhoarchModel" 70 yX7_stands) := ⟨(ah_in 787 (by decide +kernel) rfl), (ah_in 7 (by decide +kernel) rfl), (ah_in 790 (by decide +kernel) rfl), by decide, by decide, by decide +kernel⟩
theorem li_Mod_70 : Cond.instanceMethod yX7_stands ∈ ah_T ∧ Cond.selects yX7_stands.cls yX7_stands yX7_stands ∈ ah_T := ⟨(ah_in 789 (by decide +kernel) rfl), (ah_inS 20 (q := (yX7_stands, 14)) (by decide +kernel))⟩
theorem lk_Mod_74 : ah_L "AhoarchModel" 74 yX7_endingAt cX7_endingAt 4 (some .int) 1 (.methodLink "AhoarchModel" 74 yX7_endingAt) := ⟨(ah_in 783 (by decide +kernel) rfl), (ah_in 7 (by decide +kernel) rfl), (ah_in 786 (by decide +kernel) rfl), by decide, by decide, by decide +kernel⟩
theorem li_Mod_74 : Cond.instanceMethod yX7_endingAt ∈ ah_T ∧ Cond.selects yX7_endingAt.cls yX7_endingAt yX7_endingAt ∈ ah_T := ⟨(ah_in 785 (by decide +kernel) rfl), (ah_inS 19 (q := (yX7_endingAt, 14)) (by decide +kernel))⟩
theorem lk_Mod_81 : ah_L "AhoarchModel" 81 yX7_feeds cX7_feeds 3 (some .int) 1 (.methodLink "AhoarchModel" 81 yX7_feeds) := ⟨(ah_in 779 (by decide +kernel) rfl), (ah_in 7 (by decide +kernel) rfl), (ah_in 782 (by decide +kernel) rfl), by decide, by decide, by decide +kernel⟩
theorem li_Mod_81 : Cond.instanceMethod yX7_feeds ∈ ah_T ∧ Cond.selects yX7_feeds.cls yX7_feeds yX7_feeds ∈ ah_T := ⟨(ah_in 781 (by decide +kernel) rfl), (ah_inS 18 (q := (yX7_feeds, 14)) (by decide +kernel))⟩
theorem lk_Mod_84 : ah_L "AhoarchModel" 84 yX7_isBeginning cX7_isBeginning 5 (some .boolean) 2 (.methodLink "AhoarchModel" 84 yX7_isBeginning) := ⟨(ah_in 807 (by decide +kernel) rfl), (ah_in 7 (by decide +kernel) rfl), (ah_in 810 (by decide +kernel) rfl), by decide, by decide, by decide +kernel⟩
theorem li_Mod_84 : Cond.instanceMethod yX7_isBeginning ∈ ah_T ∧ Cond.selects yX7_isBeginning.cls yX7_isBeginning yX7_isBeginning ∈ ah_T := ⟨(ah_in 809 (by decide +kernel) rfl), (ah_inS 21 (q := (yX7_isBeginning, 14)) (by decide +kernel))⟩
theorem lk_Mod_87 : ah_L "AhoarchModel" 87 yX7_countOf cX7_countOf 4 (some .int) 1 (.methodLink "AhoarchModel" 87 yX7_countOf) := ⟨(ah_in 823 (by decide +kernel) rfl), (ah_in 7 (by decide +kernel) rfl), (ah_in 826 (by decide +kernel) rfl), by decide, by decide, by decide +kernel⟩
theorem li_Mod_87 : Cond.instanceMethod yX7_countOf ∈ ah_T ∧ Cond.selects yX7_countOf.cls yX7_countOf yX7_countOf ∈ ah_T := ⟨(ah_in 825 (by decide +kernel) rfl), (ah_inS 22 (q := (yX7_countOf, 14)) (by decide +kernel))⟩
theorem lk_Mod_96 : ah_L "AhoarchModel" 96 yX7_findsByEnd cX7_findsByEnd 6 (some .boolean) 1 (.methodLink "AhoarchModel" 96 yX7_findsByEnd) := ⟨(ah_in 855 (by decide +kernel) rfl), (ah_in 7 (by decide +kernel) rfl), (ah_in 858 (by decide +kernel) rfl), by decide, by decide, by decide +kernel⟩
theorem li_Mod_96 : Cond.instanceMethod yX7_findsByEnd ∈ ah_T ∧ Cond.selects yX7_findsByEnd.cls yX7_findsByEnd yX7_findsByEnd ∈ ah_T := ⟨(ah_in 857 (by decide +kernel) rfl), (ah_inS 25 (q := (yX7_findsByEnd, 14)) (by decide +kernel))⟩
theorem lk_Mod_99 : ah_L "AhoarchModel" 99 yX7_finds cX7_finds 6 (some .boolean) 2 (.methodLink "AhoarchModel" 99 yX7_finds) := ⟨(ah_in 851 (by decide +kernel) rfl), (ah_in 7 (by decide +kernel) rfl), (ah_in 854 (by decide +kernel) rfl), by decide, by decide, by decide +kernel⟩
theorem li_Mod_99 : Cond.instanceMethod yX7_finds ∈ ah_T ∧ Cond.selects yX7_finds.cls yX7_finds yX7_finds ∈ ah_T := ⟨(ah_in 853 (by decide +kernel) rfl), (ah_inS 24 (q := (yX7_finds, 14)) (by decide +kernel))⟩
theorem lk_Mod_102 : ah_L "AhoarchModel" 102 yX7_itsEnd cX7_itsEnd 1 (some .int) 0 (.methodLink "AhoarchModel" 102 yX7_itsEnd) := ⟨(ah_in 859 (by decide +kernel) rfl), (ah_in 7 (by decide +kernel) rfl), (ah_in 862 (by decide +kernel) rfl), by decide, by decide, by decide +kernel⟩
theorem li_Mod_102 : Cond.instanceMethod yX7_itsEnd ∈ ah_T ∧ Cond.selects yX7_itsEnd.cls yX7_itsEnd yX7_itsEnd ∈ ah_T := ⟨(ah_in 861 (by decide +kernel) rfl), (ah_inS 26 (q := (yX7_itsEnd, 14)) (by decide +kernel))⟩
theorem lk_Mod_105 : ah_L "AhoarchModel" 105 yX7_choices cX7_choices 4 (some .int) 1 (.methodLink "AhoarchModel" 105 yX7_choices) := ⟨(ah_in 847 (by decide +kernel) rfl), (ah_in 7 (by decide +kernel) rfl), (ah_in 850 (by decide +kernel) rfl), by decide, by decide, by decide +kernel⟩
theorem li_Mod_105 : Cond.instanceMethod yX7_choices ∈ ah_T ∧ Cond.selects yX7_choices.cls yX7_choices yX7_choices ∈ ah_T := ⟨(ah_in 849 (by decide +kernel) rfl), (ah_inS 23 (q := (yX7_choices, 14)) (by decide +kernel))⟩
theorem lk_Mod_108 : ah_L "AhoarchModel" 108 yX7_isRule cX7_isRule 2 (some .boolean) 1 (.methodLink "AhoarchModel" 108 yX7_isRule) := ⟨(ah_in 867 (by decide +kernel) rfl), (ah_in 7 (by decide +kernel) rfl), (ah_in 870 (by decide +kernel) rfl), by decide, by decide, by decide +kernel⟩
theorem li_Mod_108 : Cond.instanceMethod yX7_isRule ∈ ah_T ∧ Cond.selects yX7_isRule.cls yX7_isRule yX7_isRule ∈ ah_T := ⟨(ah_in 869 (by decide +kernel) rfl), (ah_inS 27 (q := (yX7_isRule, 14)) (by decide +kernel))⟩
theorem lk_Mod_111 : ah_L "AhoarchModel" 111 yX7_isChosen cX7_isChosen 7 (some .boolean) 2 (.methodLink "AhoarchModel" 111 yX7_isChosen) := ⟨(ah_in 875 (by decide +kernel) rfl), (ah_in 7 (by decide +kernel) rfl), (ah_in 878 (by decide +kernel) rfl), by decide, by decide, by decide +kernel⟩
theorem li_Mod_111 : Cond.instanceMethod yX7_isChosen ∈ ah_T ∧ Cond.selects yX7_isChosen.cls yX7_isChosen yX7_isChosen ∈ ah_T := ⟨(ah_in 877 (by decide +kernel) rfl), (ah_inS 28 (q := (yX7_isChosen, 14)) (by decide +kernel))⟩
theorem lk_Mod_114 : ah_L "AhoarchModel" 114 yX7_newLength cX7_newLength 4 (some .int) 1 (.methodLink "AhoarchModel" 114 yX7_newLength) := ⟨(ah_in 887 (by decide +kernel) rfl), (ah_in 7 (by decide +kernel) rfl), (ah_in 890 (by decide +kernel) rfl), by decide, by decide, by decide +kernel⟩
theorem li_Mod_114 : Cond.instanceMethod yX7_newLength ∈ ah_T ∧ Cond.selects yX7_newLength.cls yX7_newLength yX7_newLength ∈ ah_T := ⟨(ah_in 889 (by decide +kernel) rfl), (ah_inS 29 (q := (yX7_newLength, 14)) (by decide +kernel))⟩
theorem lk_Mod_117 : ah_L "AhoarchModel" 117 yX7_newLetter cX7_newLetter 7 (some .int) 2 (.methodLink "AhoarchModel" 117 yX7_newLetter) := ⟨(ah_in 895 (by decide +kernel) rfl), (ah_in 7 (by decide +kernel) rfl), (ah_in 898 (by decide +kernel) rfl), by decide, by decide, by decide +kernel⟩
theorem li_Mod_117 : Cond.instanceMethod yX7_newLetter ∈ ah_T ∧ Cond.selects yX7_newLetter.cls yX7_newLetter yX7_newLetter ∈ ah_T := ⟨(ah_in 897 (by decide +kernel) rfl), (ah_inS 30 (q := (yX7_newLetter, 14)) (by decide +kernel))⟩
theorem lk_Mod_121 : ah_L "AhoarchModel" 121 yX7_isOpen cX7_isOpen 4 (some .boolean) 1 (.methodLink "AhoarchModel" 121 yX7_isOpen) := ⟨(ah_in 903 (by decide +kernel) rfl), (ah_in 7 (by decide +kernel) rfl), (ah_in 906 (by decide +kernel) rfl), by decide, by decide, by decide +kernel⟩
theorem li_Mod_121 : Cond.instanceMethod yX7_isOpen ∈ ah_T ∧ Cond.selects yX7_isOpen.cls yX7_isOpen yX7_isOpen ∈ ah_T := ⟨(ah_in 905 (by decide +kernel) rfl), (ah_inS 31 (q := (yX7_isOpen, 14)) (by decide +kernel))⟩
end
section
/-! rows on bits, shifts and unsigned numbers, to paste: each family out of a closed proof of our own, whole with what it rests on; each by itself clean at Lean in its own claim (generation 39, form 5). Take a family whole -/
/-! ===== Int32 by its bits: bt x i ===== -/
def bt (x : Int32) (i : Nat) : Bool := x.toBitVec.getLsbD i
theorem b_ext {x y : Int32} (h : ∀ i, i < 32 → bt x i = bt y i) : x = y := Int32.toBitVec_inj.mp (BitVec.eq_of_getLsbD_eq (fun i hi => h i hi))
theorem b_or (x y : Int32) (i : Nat) : bt (x ||| y) i = (bt x i || bt y i) := by unfold bt; rw [Int32.toBitVec_or, BitVec.getLsbD_or]
theorem b_and (x y : Int32) (i : Nat) : bt (x &&& y) i = (bt x i && bt y i) := by unfold bt; rw [Int32.toBitVec_and, BitVec.getLsbD_and]
theorem b_xor (x y : Int32) (i : Nat) : bt (x ^^^ y) i = (bt x i ^^ bt y i) := by unfold bt; rw [Int32.toBitVec_xor, BitVec.getLsbD_xor]
theorem b_big {x : Int32} {i : Nat} (h : 32 ≤ i) : bt x i = false := BitVec.getLsbD_of_ge _ _ h
theorem b_255 (i : Nat) : bt 255 i = decide (i < 8) := by
  rcases Nat.lt_or_ge i 32 with h | h
  · exact (by decide +kernel : ∀ i, i < 32 → bt 255 i = decide (i < 8)) i h
  · rw [b_big h, decide_eq_false (by omega)]
theorem b_65535 (i : Nat) : bt 65535 i = decide (i < 16) := by
  rcases Nat.lt_or_ge i 32 with h | h
  · exact (by decide +kernel : ∀ i, i < 32 → bt 65535 i = decide (i < 16)) i h
  · rw [b_big h, decide_eq_false (by omega)]
theorem b_m1 : ∀ i, i < 32 → bt (-1) i = true := by decide +kernel
theorem b_0 (i : Nat) : bt 0 i = false := BitVec.getLsbD_zero
theorem s_l : ∀ n, n < 32 → ((nI n &&& 31).toBitVec.smod 32).toNat = n := by decide +kernel
theorem s_u : ∀ n, n < 32 → (((nI n).toUInt32 &&& Int32.toUInt32 31).toBitVec % 32).toNat = n := by decide +kernel
theorem b_shl (n : Nat) (hn : n < 32) (x : Int32) {i : Nat} (hi : i < 32) : bt (x <<< (nI n &&& 31)) i = (decide (n ≤ i) && bt x (i - n)) := by
  unfold bt
  rw [Int32.toBitVec_shiftLeft]
  show (x.toBitVec <<< ((nI n &&& 31).toBitVec.smod 32).toNat).getLsbD i = _
  rw [s_l n hn, BitVec.getLsbD_shiftLeft]
  rcases Nat.lt_or_ge i n with h | h
  · simp [h, Nat.not_le.mpr h]
  · simp [hi, h, Nat.not_lt.mpr h]
theorem b_ushr (n : Nat) (hn : n < 32) (x : Int32) (i : Nat) : bt ((x.toUInt32 >>> ((nI n).toUInt32 &&& Int32.toUInt32 31)).toInt32) i = bt x (n + i) := by
  show (x.toUInt32 >>> ((nI n).toUInt32 &&& Int32.toUInt32 31)).toBitVec.getLsbD i = x.toUInt32.toBitVec.getLsbD (n + i)
  rw [UInt32.toBitVec_shiftRight]
  show (x.toUInt32.toBitVec >>> (((nI n).toUInt32 &&& Int32.toUInt32 31).toBitVec % 32).toNat).getLsbD i = _
  rw [s_u n hn, BitVec.getLsbD_ushiftRight]
theorem b_sshr (n : Nat) (hn : n < 32) (x : Int32) {i : Nat} (hi : i < 32) : bt (x >>> (nI n &&& 31)) i = if n + i < 32 then bt x (n + i) else bt x 31 := by
  unfold bt
  rw [Int32.toBitVec_shiftRight]
  show (x.toBitVec.sshiftRight ((nI n &&& 31).toBitVec.smod 32).toNat).getLsbD i = _
  rw [s_l n hn, BitVec.getLsbD_sshiftRight, BitVec.msb_eq_getLsbD_last]
  simp [hi]
theorem b_shl8 (x : Int32) {i : Nat} (hi : i < 32) : bt (x <<< ((8 : Int32) &&& 31)) i = (decide (8 ≤ i) && bt x (i - 8)) := b_shl 8 (by omega) x hi
theorem b_shl16 (x : Int32) {i : Nat} (hi : i < 32) : bt (x <<< ((16 : Int32) &&& 31)) i = (decide (16 ≤ i) && bt x (i - 16)) := b_shl 16 (by omega) x hi
theorem b_shl24 (x : Int32) {i : Nat} (hi : i < 32) : bt (x <<< ((24 : Int32) &&& 31)) i = (decide (24 ≤ i) && bt x (i - 24)) := b_shl 24 (by omega) x hi
theorem b_sshr8 (x : Int32) {i : Nat} (hi : i < 32) : bt (x >>> ((8 : Int32) &&& 31)) i = if 8 + i < 32 then bt x (8 + i) else bt x 31 := b_sshr 8 (by omega) x hi
/-! ===== nI under and, xor, >>>, one bit, 65535 ===== -/
theorem nx_and (a b : Nat) : nI a &&& nI b = nI (a &&& b) := by
  apply Int32.toBitVec_inj.1
  show BitVec.ofNat 32 a &&& BitVec.ofNat 32 b = BitVec.ofNat 32 (a &&& b)
  apply BitVec.eq_of_getLsbD_eq
  intro i hi
  simp [hi]
theorem nx_xor (a b : Nat) : nI a ^^^ nI b = nI (a ^^^ b) := by
  apply Int32.toBitVec_inj.1
  show BitVec.ofNat 32 a ^^^ BitVec.ofNat 32 b = BitVec.ofNat 32 (a ^^^ b)
  apply BitVec.eq_of_getLsbD_eq
  intro i hi
  simp [hi]
theorem nx_cnt : ∀ j : Fin 32, (UInt32.ofNat j.val &&& Int32.toUInt32 31).toNat % 32 = j.val := by decide +kernel
theorem nx_ush {k j : Nat} (hk : k < 65536) (hj : j < 32) : ((nI k).toUInt32 >>> ((nI j).toUInt32 &&& Int32.toUInt32 31)).toInt32 = nI (k >>> j) := by
  have hs : k >>> j ≤ k := by
    rw [Nat.shiftRight_eq_div_pow]
    exact Nat.div_le_self _ _
  have e2 : UInt32.ofNat k >>> (UInt32.ofNat j &&& Int32.toUInt32 31) = UInt32.ofNat (k >>> j) := by
    apply UInt32.toNat_inj.1
    have h1 : (UInt32.ofNat k).toNat = k := Nat.mod_eq_of_lt (by omega)
    have h2 : (UInt32.ofNat (k >>> j)).toNat = k >>> j := Nat.mod_eq_of_lt (by omega)
    rw [UInt32.toNat_shiftRight, nx_cnt ⟨j, hj⟩, h1, h2]
  show (UInt32.ofNat k >>> (UInt32.ofNat j &&& Int32.toUInt32 31)).toInt32 = _
  rw [e2]
  rfl
theorem nx_bit {k j : Nat} (hk : k < 65536) (hj : j < 16) : (((nI k).toUInt32 >>> ((nI j).toUInt32 &&& Int32.toUInt32 31)).toInt32 &&& 1) = 0 ↔ k.testBit j = false := by
  rw [nx_ush hk (by omega)]
  show nI (k >>> j) &&& nI 1 = 0 ↔ _
  rw [nx_and, Nat.and_one_is_mod, ← nI_0, nI_eq (by omega) (by omega), Nat.testBit_eq_decide_div_mod_eq, Nat.shiftRight_eq_div_pow, decide_eq_false_iff_not]
  generalize k / 2 ^ j = z
  omega
theorem nx_mod (k : Nat) : nI k &&& 65535 = nI (k % 65536) := by
  show nI k &&& nI 65535 = _
  rw [nx_and, show (65535 : Nat) = 2 ^ 16 - 1 from rfl, Nat.and_two_pow_sub_one_eq_mod]
theorem nx_m16 {k : Nat} (h : k < 65536) : nI k &&& 65535 = nI k := by rw [nx_mod, Nat.mod_eq_of_lt h]
theorem nx_mask (x : Int32) : ∃ k, k < 65536 ∧ x &&& 65535 = nI k := by
  have e : x = nI x.toBitVec.toNat := by
    apply Int32.toBitVec_inj.1
    show x.toBitVec = BitVec.ofNat 32 x.toBitVec.toNat
    simp
  refine ⟨x.toBitVec.toNat % 65536, Nat.mod_lt _ (by omega), ?_⟩
  rw [← nx_mod, ← e]
/-! ===== Int32 as a set of bits: test, set ===== -/
def nf_M (m : Int32) : Nat := 4294967296 - m.toBitVec.toNat
theorem nf_sh : ∀ l, l < 32 → ((1 : Int32) <<< (nI l &&& 31)).toBitVec = BitVec.twoPow 32 l := by decide +kernel
theorem nf_sl : ∀ l, l < 32 → (((nI l).toUInt32 &&& Int32.toUInt32 31).toBitVec % 32).toNat = l := by decide +kernel
theorem nf_tp : ∀ l, l < 32 → BitVec.twoPow 32 l ≠ 0#32 := by decide +kernel
theorem nf_bit (m : Int32) (l : Nat) (hl : l < 32) : ((m.toUInt32 >>> ((nI l).toUInt32 &&& Int32.toUInt32 31)).toInt32 &&& 1) = 0 ↔ (m &&& ((1 : Int32) <<< (nI l &&& 31))) = 0 := by
  have e : ((m.toUInt32 >>> ((nI l).toUInt32 &&& Int32.toUInt32 31)).toInt32).toBitVec = m.toBitVec >>> l := by
    show m.toBitVec >>> (((nI l).toUInt32 &&& Int32.toUInt32 31).toBitVec % 32) = m.toBitVec >>> l
    rw [BitVec.ushiftRight_eq', nf_sl l hl]
  rw [← Int32.toBitVec_inj, ← Int32.toBitVec_inj, Int32.toBitVec_and, Int32.toBitVec_and, nf_sh l hl, e, BitVec.and_twoPow]
  show (m.toBitVec >>> l &&& 1#32) = 0#32 ↔ _ = 0#32
  rw [BitVec.and_one_eq_setWidth_ofBool_getLsbD, BitVec.getLsbD_ushiftRight, Nat.add_zero]
  cases hb : m.toBitVec.getLsbD l
  · exact ⟨fun _ => by simp, fun _ => by decide⟩
  · exact ⟨fun z => absurd z (by decide), fun z => absurd ((if_pos rfl).symm.trans z) (nf_tp l hl)⟩
theorem nf_gr (m k : Int32) (h : m &&& k = 0) (hk : k ≠ 0) : nf_M (m ||| k) < nf_M m := by
  have hm := m.toBitVec.isLt
  have hm' := (m ||| k).toBitVec.isLt
  have h1 : m.toBitVec.toNat ≤ (m ||| k).toBitVec.toNat := by
    rw [Int32.toBitVec_or, BitVec.toNat_or]
    exact Nat.left_le_or
  have h2 : m.toBitVec.toNat ≠ (m ||| k).toBitVec.toNat := by
    intro e
    have e2 : m = m ||| k := Int32.toBitVec_inj.mp (BitVec.eq_of_toNat_eq e)
    apply hk
    apply Int32.toBitVec_inj.mp
    show k.toBitVec = 0#32
    apply BitVec.eq_of_getLsbD_eq
    intro i hi
    have a : m.toBitVec.getLsbD i = (m.toBitVec.getLsbD i || k.toBitVec.getLsbD i) := by rw [← BitVec.getLsbD_or, ← Int32.toBitVec_or, ← e2]
    have b : (m.toBitVec.getLsbD i && k.toBitVec.getLsbD i) = false := by
      rw [← BitVec.getLsbD_and, ← Int32.toBitVec_and, h]
      exact BitVec.getLsbD_zero
    rw [BitVec.getLsbD_zero]
    revert a b
    cases m.toBitVec.getLsbD i <;> cases k.toBitVec.getLsbD i <;> simp
  unfold nf_M
  omega
/-! ===== a byte read unsigned ===== -/
theorem bp_b (x : Int32) : x.toInt8.toInt32 &&& 255 = x &&& 255 := by
  apply Int32.toBitVec_inj.mp
  rw [Int32.toBitVec_and, Int32.toBitVec_and, Int8.toBitVec_toInt32, Int32.toBitVec_toInt8]
  apply BitVec.eq_of_getLsbD_eq
  intro i hi
  rw [BitVec.getLsbD_and, BitVec.getLsbD_and]
  have hm : ∀ i < 32, 8 ≤ i → (255 : Int32).toBitVec.getLsbD i = false := by decide
  rcases Nat.lt_or_ge i 8 with z | z
  · rw [BitVec.getLsbD_signExtend, BitVec.getLsbD_signExtend, if_pos z, if_pos hi]
    simp only [z, hi, decide_true, Bool.true_and]
  · rw [hm i hi z]; simp
/-! ===== the char cast and 65535 ===== -/
/-! ===== Int64 as a set of bits: test, set, clear ===== -/
theorem ts_nf {x : Bool} (h : ¬ x = false) : x = true := by cases x <;> first | rfl | exact absurd rfl h
theorem ts_nt {x : Bool} (h : ¬ x = true) : x = false := by cases x <;> first | rfl | exact absurd rfl h
theorem ts_bit {w : Int64} {s : UInt64} {j : Nat} (hj : j < 64) (hs : s.toNat = j) : ((w.toUInt64 >>> s).toInt64 &&& 1) = 0 ↔ w.toBitVec.getLsbD j = false := by
  have e : (w.toUInt64 >>> s).toInt64.toBitVec = w.toBitVec >>> j := by
    apply BitVec.eq_of_toNat_eq
    show (w.toUInt64 >>> s).toNat = _
    rw [UInt64.toNat_shiftRight, hs, Nat.mod_eq_of_lt hj, BitVec.toNat_ushiftRight]
    rfl
  rw [← Int64.toBitVec_inj, Int64.toBitVec_and, e]
  show w.toBitVec >>> j &&& 1#64 = 0#64 ↔ _
  constructor
  · intro h
    have t := congrArg (fun x => x.getLsbD 0) h
    simpa using t
  · intro h
    apply BitVec.eq_of_getLsbD_eq
    intro i hi
    cases i with
    | zero => simp [h]
    | succ i => simp
theorem ts_or {w m : Int64} {j : Nat} (hj : j < 64) (hm : m.toBitVec = BitVec.twoPow 64 j) : (w ||| m) = w ↔ w.toBitVec.getLsbD j = true := by
  rw [← Int64.toBitVec_inj, Int64.toBitVec_or, hm]
  constructor
  · intro h
    have t := congrArg (fun x => x.getLsbD j) h
    simp only [BitVec.getLsbD_or, BitVec.getLsbD_twoPow] at t
    simpa [hj] using t.symm
  · intro h
    apply BitVec.eq_of_getLsbD_eq
    intro i hi
    rw [BitVec.getLsbD_or, BitVec.getLsbD_twoPow]
    by_cases e : j = i
    · subst e; rw [h, Bool.true_or]
    · simp [e]
theorem ts_and {w m : Int64} {j : Nat} (hj : j < 64) (hm : m.toBitVec = BitVec.twoPow 64 j) : (w &&& (m ^^^ (-1))) = w ↔ w.toBitVec.getLsbD j = false := by
  have ha : (-1 : Int64).toBitVec = BitVec.allOnes 64 := by decide
  rw [← Int64.toBitVec_inj, Int64.toBitVec_and, Int64.toBitVec_xor, hm, ha]
  constructor
  · intro h
    have t := congrArg (fun x => x.getLsbD j) h
    simp only [BitVec.getLsbD_and, BitVec.getLsbD_xor, BitVec.getLsbD_twoPow, BitVec.getLsbD_allOnes] at t
    simpa [hj] using t.symm
  · intro h
    apply BitVec.eq_of_getLsbD_eq
    intro i hi
    rw [BitVec.getLsbD_and, BitVec.getLsbD_xor, BitVec.getLsbD_twoPow, BitVec.getLsbD_allOnes]
    by_cases e : j = i
    · subst e; rw [h, Bool.false_and]
    · simp [e, hi]
/-! ===== lN n to 2^64: shifts, and, or, masks, one bit ===== -/
theorem wb_tb (n : Nat) : (lN n).toBitVec = BitVec.ofNat 64 n := rfl
theorem wb_inj {a b : Int64} (h : a.toBitVec = b.toBitVec) : a = b := Int64.toBitVec_inj.mp h
theorem wb_tn {n : Nat} (h : n < 2 ^ 64) : (lN n).toBitVec.toNat = n := by rw [wb_tb, BitVec.toNat_ofNat, Nat.mod_eq_of_lt h]
theorem wb_of (x : Int64) : ∃ n, n < 2 ^ 64 ∧ x = lN n := ⟨x.toBitVec.toNat, x.toBitVec.isLt, wb_inj (by rw [wb_tb]; simp)⟩
theorem wb_of32 (x : Int32) : ∃ n, n < 2 ^ 32 ∧ x = nI n := ⟨x.toBitVec.toNat, x.toBitVec.isLt, Int32.toBitVec_inj.mp (by show _ = BitVec.ofNat 32 _; simp)⟩
theorem wb_c : ∀ k, k < 64 → ((nI k).toInt64 &&& 63) = lN k := by decide +kernel
theorem wb_cu : ∀ k, k < 64 → ((nI k).toInt64.toUInt64 &&& Int64.toUInt64 63) = UInt64.ofNat k := by decide +kernel
theorem wb_sm : ∀ k, k < 64 → (BitVec.ofNat 64 k).smod 64 = BitVec.ofNat 64 k := by decide +kernel
theorem wb_pw {a b : Nat} (h : a ≤ b) : 2 ^ b = 2 ^ a * 2 ^ (b - a) := by rw [← Nat.pow_add]; congr 1; omega
theorem wb_lt2 {a b : Nat} (h : a < b) : 2 ^ a < 2 ^ b := Nat.pow_lt_pow_right (by decide) h
theorem wb_mod (n : Nat) : lN n = lN (n % 2 ^ 64) := wb_inj (by rw [wb_tb, wb_tb]; apply BitVec.eq_of_toNat_eq; rw [BitVec.toNat_ofNat, BitVec.toNat_ofNat, Nat.mod_mod])
theorem wb_shr {n k : Nat} (hn : n < 2 ^ 64) (hk : k < 64) : ((lN n).toUInt64 >>> ((nI k).toInt64.toUInt64 &&& Int64.toUInt64 63)).toInt64 = lN (n / 2 ^ k) := by
  rw [wb_cu k hk]
  apply wb_inj
  apply BitVec.eq_of_toNat_eq
  show ((lN n).toUInt64 >>> UInt64.ofNat k).toNat = (BitVec.ofNat 64 _).toNat
  have h1 : (UInt64.ofNat k).toNat = k := by
    show (BitVec.ofNat 64 k).toNat = k
    rw [BitVec.toNat_ofNat, Nat.mod_eq_of_lt (by omega)]
  have h2 : (lN n).toUInt64.toNat = n := wb_tn hn
  rw [UInt64.toNat_shiftRight, h1, h2, Nat.mod_eq_of_lt hk, Nat.shiftRight_eq_div_pow, BitVec.toNat_ofNat, Nat.mod_eq_of_lt (Nat.lt_of_le_of_lt (Nat.div_le_self _ _) hn)]
theorem wb_shl (n : Nat) {k : Nat} (hk : k < 64) : lN n <<< ((nI k).toInt64 &&& 63) = lN (n * 2 ^ k) := by
  rw [wb_c k hk]
  apply wb_inj
  rw [Int64.toBitVec_shiftLeft, wb_tb, wb_tb, wb_tb, wb_sm k hk]
  apply BitVec.eq_of_toNat_eq
  rw [BitVec.shiftLeft_eq', BitVec.toNat_shiftLeft, BitVec.toNat_ofNat, BitVec.toNat_ofNat, BitVec.toNat_ofNat, Nat.mod_eq_of_lt (show k < 2 ^ 64 by omega), Nat.shiftLeft_eq, Nat.mul_mod, Nat.mod_mod, ← Nat.mul_mod]
theorem wb_and {a b : Nat} (ha : a < 2 ^ 64) (hb : b < 2 ^ 64) : lN a &&& lN b = lN (a &&& b) := by
  apply wb_inj
  rw [Int64.toBitVec_and, wb_tb, wb_tb, wb_tb]
  apply BitVec.eq_of_toNat_eq
  rw [BitVec.toNat_and, BitVec.toNat_ofNat, BitVec.toNat_ofNat, BitVec.toNat_ofNat, Nat.mod_eq_of_lt ha, Nat.mod_eq_of_lt hb, Nat.mod_eq_of_lt (Nat.and_lt_two_pow _ hb)]
theorem wb_or {a b : Nat} (ha : a < 2 ^ 64) (hb : b < 2 ^ 64) : lN a ||| lN b = lN (a ||| b) := by
  apply wb_inj
  rw [Int64.toBitVec_or, wb_tb, wb_tb, wb_tb]
  apply BitVec.eq_of_toNat_eq
  rw [BitVec.toNat_or, BitVec.toNat_ofNat, BitVec.toNat_ofNat, BitVec.toNat_ofNat, Nat.mod_eq_of_lt ha, Nat.mod_eq_of_lt hb, Nat.mod_eq_of_lt (Nat.or_lt_two_pow ha hb)]
theorem wb_mask {n k : Nat} (hn : n < 2 ^ 64) (hk : k < 64) : lN n &&& lN (2 ^ k - 1) = lN (n % 2 ^ k) := by
  rw [wb_and hn (by have := wb_lt2 hk; omega), Nat.and_two_pow_sub_one_eq_mod]
theorem wb_a1 {n : Nat} (hn : n < 2 ^ 64) : lN n &&& 1 = lN (n % 2) := wb_mask (k := 1) hn (by decide)
theorem wb_bit {n k : Nat} (hn : n < 2 ^ 64) (hk : k < 64) : ((lN n).toUInt64 >>> ((nI k).toInt64.toUInt64 &&& Int64.toUInt64 63)).toInt64 &&& 1 = lN (n / 2 ^ k % 2) := by
  rw [wb_shr hn hk, wb_a1 (Nat.lt_of_le_of_lt (Nat.div_le_self _ _) hn)]
theorem wb_xor {q k : Nat} (hk : k < 63) (h : 2 ^ k ≤ q) (h2 : q < 2 ^ (k + 1)) : lN q ^^^ lN (2 ^ k) = lN (q - 2 ^ k) := by
  obtain ⟨r, rfl⟩ : ∃ r, q = 2 ^ k + r := ⟨q - 2 ^ k, by omega⟩
  have hr : r < 2 ^ k := by rw [Nat.pow_succ] at h2; omega
  have hx : (2 ^ k + r) ^^^ 2 ^ k = r := by
    apply Nat.eq_of_testBit_eq
    intro i
    rw [Nat.testBit_xor, Nat.testBit_two_pow]
    rcases Nat.lt_trichotomy i k with h | h | h
    · rw [Nat.testBit_two_pow_add_gt h]
      simp [show ¬ k = i by omega]
    · subst h
      rw [Nat.testBit_two_pow_add_eq]
      simp
    · have a1 : 2 ^ (k + 1) ≤ 2 ^ i := Nat.pow_le_pow_right (by decide) h
      rw [Nat.testBit_lt_two_pow (show 2 ^ k + r < 2 ^ i by omega), Nat.testBit_lt_two_pow (show r < 2 ^ i by omega)]
      simp [show ¬ k = i by omega]
  have b1 := wb_lt2 (show k + 1 < 64 by omega)
  have b2 := wb_lt2 (show k < 64 by omega)
  apply wb_inj
  rw [Int64.toBitVec_xor, wb_tb, wb_tb, wb_tb]
  apply BitVec.eq_of_toNat_eq
  rw [BitVec.toNat_xor, BitVec.toNat_ofNat, BitVec.toNat_ofNat, BitVec.toNat_ofNat, Nat.mod_eq_of_lt (by omega : 2 ^ k + r < 2 ^ 64), Nat.mod_eq_of_lt b2, hx, Nat.add_sub_cancel_left, Nat.mod_eq_of_lt (by omega)]
/-! ===== lN: masks, 'or' of parts that don't overlap is a sum ===== -/
theorem u_tn {n : Nat} (h : n < 2 ^ 64) : (UInt64.ofNat n).toNat = n := Nat.mod_eq_of_lt h
theorem g_and {a b c : Nat} (ha : a < 2 ^ 64) (hb : b < 2 ^ 64) (hc : a &&& b = c) : lN a &&& lN b = lN c := by
  subst hc
  have h : UInt64.ofNat a &&& UInt64.ofNat b = UInt64.ofNat (a &&& b) := UInt64.toNat_inj.mp (by rw [UInt64.toNat_and, u_tn ha, u_tn hb, u_tn (Nat.and_lt_two_pow a hb)])
  have h2 := congrArg UInt64.toInt64 h
  exact h2
theorem g_and1 {a : Nat} (ha : a < 2 ^ 64) : lN a &&& 1 = lN (a % 2) := g_and (b := 1) ha (by decide) (Nat.and_two_pow_sub_one_eq_mod a 1)
theorem g_mask {a s p : Nat} (hp : 2 ^ s = p) (hs : s < 64) (ha : a < 2 ^ 64) : lN a &&& lN (p - 1) = lN (a % p) := by
  subst hp
  have := Nat.pow_lt_pow_right (show 1 < 2 by decide) hs
  exact g_and ha (by omega) (Nat.and_two_pow_sub_one_eq_mod a s)
theorem g_or {k p a b : Nat} (hp : 2 ^ k = p) (ha : a < p) (h : b * p + a < 2 ^ 64) : lN (b * p) ||| lN a = lN (b * p + a) := by
  subst hp
  have h1 : b * 2 ^ k ||| a = b * 2 ^ k + a := by rw [← Nat.shiftLeft_eq, Nat.shiftLeft_add_eq_or_of_lt ha]
  have h3 : UInt64.ofNat (b * 2 ^ k) ||| UInt64.ofNat a = UInt64.ofNat (b * 2 ^ k + a) := UInt64.toNat_inj.mp (by rw [UInt64.toNat_or, u_tn (by omega), u_tn (by omega), u_tn h, h1])
  have h2 := congrArg UInt64.toInt64 h3
  exact h2
theorem g_or' {k p a b : Nat} (hp : 2 ^ k = p) (ha : a < p) (h : a + b * p < 2 ^ 64) : lN a ||| lN (b * p) = lN (a + b * p) := by
  rw [Int64.or_comm, g_or hp ha (by omega), Nat.add_comm]
theorem g_ushr {a k p : Nat} {y : UInt64} (hy : y = UInt64.ofNat k) (hk : k < 64) (hp : 2 ^ k = p) (ha : a < 2 ^ 64) : ((lN a).toUInt64 >>> y).toInt64 = lN (a / p) := by
  subst hy hp
  have h : UInt64.ofNat a >>> UInt64.ofNat k = UInt64.ofNat (a / 2 ^ k) := UInt64.toNat_inj.mp (by rw [UInt64.toNat_shiftRight, u_tn ha, u_tn (by omega), u_tn (Nat.lt_of_le_of_lt (Nat.div_le_self _ _) ha), Nat.mod_eq_of_lt hk, Nat.shiftRight_eq_div_pow])
  have h2 := congrArg UInt64.toInt64 h
  exact h2
theorem g_shl {a k p : Nat} {y : Int64} (hy : y.toBitVec.smod 64 = BitVec.ofNat 64 k) (hk : k < 64) (hp : 2 ^ k = p) (ha : a < 2 ^ 64) : lN a <<< y = lN (a * p) := by
  subst hp
  apply Int64.toBitVec_inj.mp
  rw [Int64.toBitVec_shiftLeft, hy]
  apply BitVec.eq_of_toNat_eq
  have hb : (lN a).toBitVec.toNat = a := Nat.mod_eq_of_lt ha
  have hk' : (BitVec.ofNat 64 k).toNat = k := Nat.mod_eq_of_lt (by omega)
  have h : ((lN a).toBitVec <<< BitVec.ofNat 64 k).toNat = (a * 2 ^ k) % 2 ^ 64 := by simp only [BitVec.shiftLeft_eq', BitVec.toNat_shiftLeft, hb, hk', Nat.shiftLeft_eq]
  exact h
/-! ===== lN to 2^62 under >> and >>> ===== -/
theorem pf_lI {a : Nat} (h : a < 2 ^ 63) : (lN a).toInt = (a : Int) := lg_ofNat_toInt h
theorem pf_shr {a d : Nat} {D : Int64} (hD : (D.toBitVec.smod 64).toNat = d) (h : a < 2 ^ 62) : lN a >>> D = lN (a / 2 ^ d) := by
  have hd : a / 2 ^ d ≤ a := Nat.div_le_self _ _
  apply Int64.toInt_inj.mp
  have e : (lN a >>> D).toInt = (lN a).toInt >>> d := by
    rw [← hD]
    exact BitVec.toInt_sshiftRight ..
  rw [e, Int.shiftRight_eq_div_pow, pf_lI (by omega), pf_lI (by omega)]
  rfl
theorem pf_ushr {a d : Nat} {D : UInt64} (hD : D.toNat % 64 = d) (h : a < 2 ^ 62) : ((lN a).toUInt64 >>> D).toInt64 = lN (a / 2 ^ d) := by
  have hd : a / 2 ^ d ≤ a := Nat.div_le_self _ _
  have e : (lN a).toUInt64 >>> D = UInt64.ofNat (a / 2 ^ d) := UInt64.toNat_inj.mp (by
    rw [UInt64.toNat_shiftRight, hD, Nat.shiftRight_eq_div_pow, UInt64.toNat_ofNat']
    show (UInt64.ofNat a).toNat / 2 ^ d = _
    rw [UInt64.toNat_ofNat', Nat.mod_eq_of_lt (by omega), Nat.mod_eq_of_lt (by omega)])
  rw [e]
  rfl
theorem pf_andw (x : Int64) : ∃ m, m < 2 ^ 32 ∧ x &&& 4294967295 = lN m := ⟨x.toBitVec.toNat % 2 ^ 32, Nat.mod_lt _ (by decide), Int64.toBitVec_inj.mp (BitVec.eq_of_toNat_eq (by
  show (x.toBitVec &&& 4294967295#64).toNat = (BitVec.ofNat 64 (x.toBitVec.toNat % 2 ^ 32)).toNat
  rw [BitVec.toNat_and, show (4294967295#64).toNat = 2 ^ 32 - 1 from by decide, Nat.and_two_pow_sub_one_eq_mod, BitVec.toNat_ofNat]
  omega))⟩
/-! ===== Int64 as an unsigned number: uN x ===== -/
def uN (x : Int64) : Nat := x.toUInt64.toNat
theorem uN_lt (x : Int64) : uN x < 18446744073709551616 := x.toUInt64.toNat_lt
theorem uN_inj {x y : Int64} (h : uN x = uN y) : x = y := congrArg UInt64.toInt64 (UInt64.toNat_inj.mp h)
theorem uN_add (x y : Int64) : uN (x + y) = (uN x + uN y) % 18446744073709551616 := by
  show (x.toUInt64 + y.toUInt64).toNat = _
  exact UInt64.toNat_add _ _
theorem uN_mul (x y : Int64) : uN (x * y) = (uN x * uN y) % 18446744073709551616 := by
  show (x.toUInt64 * y.toUInt64).toNat = _
  exact UInt64.toNat_mul _ _
theorem uN_shl (x : Int64) : uN (x <<< ((1 : Int32).toInt64 &&& 63)) = (2 * uN x) % 18446744073709551616 := by
  have h : (((1 : Int32).toInt64 &&& 63).toBitVec.smod 64).toNat = 1 := by decide
  show (x.toBitVec <<< (((1 : Int32).toInt64 &&& 63).toBitVec.smod 64).toNat).toNat = _
  rw [h, BitVec.toNat_shiftLeft, Nat.shiftLeft_eq, Nat.mul_comm]
  rfl
theorem uN_shr (x : Int64) (s : UInt64) : uN (x.toUInt64 >>> s).toInt64 = uN x / 2 ^ (s.toNat % 64) := by
  show (x.toUInt64 >>> s).toNat = _
  rw [UInt64.toNat_shiftRight, Nat.shiftRight_eq_div_pow]
  rfl
theorem uN_s32 (x : Int64) : uN (x.toUInt64 >>> ((32 : Int32).toInt64.toUInt64 &&& Int64.toUInt64 63)).toInt64 = uN x / 4294967296 := by
  have h : ((32 : Int32).toInt64.toUInt64 &&& Int64.toUInt64 63).toNat % 64 = 32 := by decide
  rw [uN_shr, h]
theorem uN_s63 (x : Int64) : uN (x.toUInt64 >>> ((63 : Int32).toInt64.toUInt64 &&& Int64.toUInt64 63)).toInt64 = uN x / 9223372036854775808 := by
  have h : ((63 : Int32).toInt64.toUInt64 &&& Int64.toUInt64 63).toNat % 64 = 63 := by decide
  rw [uN_shr, h]
theorem uN_lo (x : Int64) : uN (x &&& 4294967295) = uN x % 4294967296 := by
  show (x.toUInt64 &&& Int64.toUInt64 4294967295).toNat = _
  rw [UInt64.toNat_and]
  exact Nat.and_two_pow_sub_one_eq_mod _ 32
theorem uN_bit (x : Int64) : (x &&& 1) = 0 ↔ uN x % 2 = 0 := by
  have h : uN (x &&& 1) = uN x % 2 := by
    show (x.toUInt64 &&& Int64.toUInt64 1).toNat = _
    rw [UInt64.toNat_and]
    exact Nat.and_two_pow_sub_one_eq_mod _ 1
  rw [← h]
  exact ⟨fun z => by rw [z]; rfl, fun z => uN_inj (z.trans rfl)⟩
theorem uN_or {x y : Int64} (hy : uN y < 2) : uN ((x <<< ((1 : Int32).toInt64 &&& 63)) ||| y) = (2 * uN x) % 18446744073709551616 + uN y := by
  have h1 : uN ((x <<< ((1 : Int32).toInt64 &&& 63)) ||| y) = uN (x <<< ((1 : Int32).toInt64 &&& 63)) ||| uN y := UInt64.toNat_or _ _
  have h2 : (2 * uN x) % 18446744073709551616 = 2 ^ 1 * (uN x % 9223372036854775808) := by omega
  rw [h1, uN_shl, h2]
  exact (Nat.two_pow_add_eq_or_of_lt (i := 1) hy _).symm
theorem nat_xor {a : Nat} (h : a < 18446744073709551616) : a ^^^ 2 ^ 63 = (a + 9223372036854775808) % 18446744073709551616 := by
  have h1 : (a ^^^ 2 ^ 63) % 2 ^ 63 = a % 2 ^ 63 := by rw [Nat.xor_mod_two_pow, Nat.mod_self, Nat.xor_zero]
  have h2 : (a ^^^ 2 ^ 63) / 2 ^ 63 = (a / 2 ^ 63) ^^^ 1 := by rw [Nat.xor_div_two_pow, Nat.div_self (Nat.two_pow_pos 63)]
  have h3 : a / 2 ^ 63 = 0 ∨ a / 2 ^ 63 = 1 := by omega
  generalize a ^^^ 2 ^ 63 = t at h1 h2
  rcases h3 with h3 | h3
  · rw [h3] at h2
    have h2 : t / 2 ^ 63 = 1 := h2
    omega
  · rw [h3] at h2
    have h2 : t / 2 ^ 63 = 0 := h2
    omega
theorem uN_xor (x : Int64) : uN (x ^^^ (-9223372036854775808)) = (uN x + 9223372036854775808) % 18446744073709551616 := by
  rw [← nat_xor (uN_lt x)]
  exact UInt64.toNat_xor _ _
theorem uN_int (x : Int64) : x.toInt = if 2 * uN x < 18446744073709551616 then (uN x : Int) else (uN x : Int) - 18446744073709551616 := BitVec.toInt_eq_toNat_cond _
theorem uN_le (x y : Int64) : (x ^^^ (-9223372036854775808)) ≤ (y ^^^ (-9223372036854775808)) ↔ uN x ≤ uN y := by
  have hx := uN_lt x
  have hy := uN_lt y
  rw [Int64.le_iff_toInt_le, uN_int, uN_int, uN_xor, uN_xor]
  omega
theorem uN_sk (x : Int64) {k : Nat} (hk : k < 64) : uN (x.toUInt64 >>> ((nI k).toInt64.toUInt64 &&& Int64.toUInt64 63)).toInt64 = uN x / 2 ^ k := by
  have h : ((nI k).toInt64.toUInt64 &&& Int64.toUInt64 63).toNat % 64 = k := by
    rw [nI_l (by omega), UInt64.toNat_and]
    have e : (lN k).toUInt64.toNat = k % 2 ^ 64 := rfl
    have e2 : (Int64.toUInt64 63).toNat = 2 ^ 6 - 1 := by decide
    rw [e, e2, Nat.and_two_pow_sub_one_eq_mod]
    omega
  rw [uN_shr, h]
/-! ===== unsigned comparison by xor with the least ===== -/
theorem lN_bv (n : Nat) : (lN n).toBitVec = BitVec.ofNat 64 n := rfl
theorem lN_nat {n : Nat} (h : n < 2 ^ 64) : (lN n).toBitVec.toNat = n := by rw [lN_bv, BitVec.toNat_ofNat]; exact Nat.mod_eq_of_lt h
theorem lN_xor (a b : Nat) : lN a ^^^ lN b = lN (a ^^^ b) := by
  apply Int64.toBitVec_inj.mp; rw [Int64.toBitVec_xor, lN_bv, lN_bv, lN_bv]; apply BitVec.eq_of_getLsbD_eq; intro i hi; simp [BitVec.getLsbD_ofNat, Nat.testBit_xor, hi]
theorem lN_ti {m : Nat} (h : m < 2 ^ 64) : (lN m).toInt = if m < 2 ^ 63 then (m : Int) else (m : Int) - 2 ^ 64 := by
  have c := BitVec.toInt_eq_toNat_cond (lN m).toBitVec
  rw [lN_nat h] at c
  show (lN m).toBitVec.toInt = _
  rw [c]
  split <;> split <;> omega
theorem xor63 {x : Nat} (h : x < 2 ^ 63) : x ^^^ 2 ^ 63 = 2 ^ 63 + x := by
  apply Nat.eq_of_testBit_eq
  intro i
  rw [Nat.testBit_xor, Nat.testBit_two_pow]
  rcases Nat.lt_trichotomy i 63 with z | z | z
  · rw [Nat.testBit_two_pow_add_gt z, decide_eq_false (by omega)]; simp
  · subst z; rw [Nat.testBit_two_pow_add_eq]; simp
  · have hp : 2 ^ 64 ≤ 2 ^ i := Nat.pow_le_pow_right (by decide) z
    rw [Nat.testBit_lt_two_pow (show x < 2 ^ i by omega), Nat.testBit_lt_two_pow (show 2 ^ 63 + x < 2 ^ i by omega), decide_eq_false (by omega)]; rfl
theorem xorS {a : Nat} (h : a < 2 ^ 64) : (lN a ^^^ (-9223372036854775808)).toInt = (a : Int) - 2 ^ 63 := by
  rw [show (-9223372036854775808 : Int64) = lN (2 ^ 63) from by decide +kernel, lN_xor]
  rcases Nat.lt_or_ge a (2 ^ 63) with z | z
  · rw [xor63 z, lN_ti (by omega), if_neg (by omega)]; omega
  · obtain ⟨x, rfl⟩ : ∃ x, a = 2 ^ 63 + x := ⟨a - 2 ^ 63, by omega⟩
    rw [← xor63 (by omega), Nat.xor_assoc, Nat.xor_self, Nat.xor_zero, lN_ti (by omega), if_pos (by omega), xor63 (by omega)]; omega
theorem ultL {a b : Nat} (ha : a < 2 ^ 64) (hb : b < 2 ^ 64) : ((lN b ^^^ (-9223372036854775808)) ≤ (lN a ^^^ (-9223372036854775808))) ↔ b ≤ a := by
  rw [Int64.le_iff_toInt_le, xorS ha, xorS hb]; omega
/-! ===== Int64 masks of n low bits ===== -/
theorem cr_bits (W U M : BitVec 64) : ((W &&& U) &&& (U &&& (M ^^^ BitVec.allOnes 64))) = 0#64 ↔ (W &&& U) &&& M = W &&& U := by
  constructor
  · intro h
    apply BitVec.eq_of_getLsbD_eq
    intro i hi
    have e := congrArg (fun x => BitVec.getLsbD x i) h
    simp only [BitVec.getLsbD_and, BitVec.getLsbD_xor, BitVec.getLsbD_allOnes, BitVec.getLsbD_zero, hi, decide_true] at e ⊢
    revert e
    cases W.getLsbD i <;> cases U.getLsbD i <;> cases M.getLsbD i <;> decide
  · intro h
    apply BitVec.eq_of_getLsbD_eq
    intro i hi
    have e := congrArg (fun x => BitVec.getLsbD x i) h
    simp only [BitVec.getLsbD_and, BitVec.getLsbD_xor, BitVec.getLsbD_allOnes, BitVec.getLsbD_zero, hi, decide_true] at e ⊢
    revert e
    cases W.getLsbD i <;> cases U.getLsbD i <;> cases M.getLsbD i <;> decide
theorem cr_mask (w U m : Int64) (n : Nat) (hm : m.toBitVec.toNat = 2 ^ n - 1) : ((w &&& U) &&& (U &&& (m ^^^ (-1)))) = 0 ↔ (w &&& U).toBitVec.toNat < 2 ^ n := by
  have e0 : (-1 : Int64).toBitVec = BitVec.allOnes 64 := by decide
  have z0 : (0 : Int64).toBitVec = 0#64 := by decide
  rw [← Int64.toBitVec_inj, z0, Int64.toBitVec_and, Int64.toBitVec_and, Int64.toBitVec_and, Int64.toBitVec_xor, e0, cr_bits]
  generalize w.toBitVec &&& U.toBitVec = T
  rw [← BitVec.toNat_inj, BitVec.toNat_and, hm, Nat.and_two_pow_sub_one_eq_mod]
  constructor
  · intro h
    have t := Nat.mod_lt T.toNat (Nat.two_pow_pos n)
    rw [h] at t
    exact t
  · exact Nat.mod_eq_of_lt
theorem cr_shr (t : Int64) (x : UInt64) (n : Nat) (hx : x.toNat % 64 = n) : (t.toUInt64 >>> x).toInt64 = 0 ↔ t.toBitVec.toNat < 2 ^ n := by
  rw [← Int64.toBitVec_inj, ← BitVec.toNat_inj]
  show (t.toUInt64 >>> x).toNat = 0 ↔ t.toUInt64.toNat < 2 ^ n
  rw [UInt64.toNat_shiftRight, hx, Nat.shiftRight_eq_div_pow]
  constructor
  · intro h
    have d : t.toUInt64.toNat / 2 ^ n < 1 := by
      rw [h]
      decide
    have e := (Nat.div_lt_iff_lt_mul (Nat.two_pow_pos n)).mp d
    rw [Nat.one_mul] at e
    exact e
  · exact Nat.div_eq_of_lt
theorem cr_amt (s : Int64) : ∃ n, n < 64 ∧ s &&& 63 = lN n ∧ (s.toUInt64 &&& Int64.toUInt64 63).toNat % 64 = n := by
  have e : (s.toUInt64 &&& Int64.toUInt64 63).toNat = s.toUInt64.toNat % 2 ^ 6 := by
    rw [UInt64.toNat_and, show (Int64.toUInt64 63).toNat = 2 ^ 6 - 1 from by decide, Nat.and_two_pow_sub_one_eq_mod]
  refine ⟨s.toUInt64.toNat % 2 ^ 6, by omega, ?_, by omega⟩
  rw [← Int64.toBitVec_inj, ← BitVec.toNat_inj]
  show (s.toUInt64 &&& Int64.toUInt64 63).toNat = (BitVec.ofNat 64 (s.toUInt64.toNat % 2 ^ 6)).toNat
  rw [e, BitVec.toNat_ofNat]
  omega
end
section
/-! words of letters as numbers: five bits a letter, the last letter lowest; letters are 1 to 26 -/
def ah_lt (w : List Nat) : Prop := ∀ x ∈ w, 1 ≤ x ∧ x ≤ 26
def ah_ok (w : List Nat) : Prop := w.length ≤ 8 ∧ ah_lt w
def ah_enc (w : List Nat) : Nat := w.foldl (fun c x => c * 32 + x) 0
theorem ah_enc_snoc (u : List Nat) (x : Nat) : ah_enc (u ++ [x]) = ah_enc u * 32 + x := by simp [ah_enc, List.foldl_append]
theorem ah_enc_nil : ah_enc [] = 0 := rfl
theorem ah_snoc (u : List Nat) : u = [] ∨ ∃ v x, u = v ++ [x] := by
  rcases List.eq_nil_or_concat u with h | ⟨v, x, h⟩
  · exact Or.inl h
  · exact Or.inr ⟨v, x, by simpa using h⟩
theorem ah_enc_app (u v : List Nat) : ah_enc (u ++ v) = ah_enc u * 32 ^ v.length + ah_enc v := by
  induction hv : v.length generalizing v with
  | zero =>
    have : v = [] := List.length_eq_zero_iff.mp hv
    subst this; simp [ah_enc]
  | succ n ih =>
    rcases ah_snoc v with h | ⟨v', x, h⟩
    · subst h; simp at hv
    · subst h
      have hl : v'.length = n := by simpa using hv
      rw [← List.append_assoc, ah_enc_snoc, ah_enc_snoc, ih v' hl, Nat.pow_succ, Nat.add_mul, Nat.mul_assoc, Nat.add_assoc]
theorem ah_lt_app {u v : List Nat} : ah_lt (u ++ v) ↔ ah_lt u ∧ ah_lt v := by
  unfold ah_lt
  constructor
  · intro h
    exact ⟨fun x hx => h x (List.mem_append_left _ hx), fun x hx => h x (List.mem_append_right _ hx)⟩
  · intro h x hx
    rcases List.mem_append.mp hx with q | q
    · exact h.1 x q
    · exact h.2 x q
theorem ah_lt_take {u : List Nat} (h : ah_lt u) (n : Nat) : ah_lt (u.take n) := fun x hx => h x (List.mem_of_mem_take hx)
theorem ah_lt_drop {u : List Nat} (h : ah_lt u) (n : Nat) : ah_lt (u.drop n) := fun x hx => h x (List.mem_of_mem_drop hx)
theorem ah_enc_lt : ∀ (n : Nat) (u : List Nat), u.length = n → ah_lt u → ah_enc u < 32 ^ n := by
  intro n
  induction n with
  | zero =>
    intro u hu _
    have : u = [] := List.length_eq_zero_iff.mp hu
    subst this; simp [ah_enc]
  | succ n ih =>
    intro u hu h
    rcases ah_snoc u with q | ⟨v, x, q⟩
    · subst q; simp at hu
    · subst q
      have hl : v.length = n := by simpa using hu
      have h1 := ih v hl (ah_lt_app.mp h).1
      have h2 := h x (by simp)
      rw [ah_enc_snoc, Nat.pow_succ]
      omega
theorem ah_enc_40 {u : List Nat} (h : ah_ok u) : ah_enc u < 2 ^ 40 := by
  have h1 := ah_enc_lt u.length u rfl h.2
  have h2 : (32 : Nat) ^ u.length ≤ 32 ^ 8 := Nat.pow_le_pow_right (by omega) h.1
  have h3 : (32 : Nat) ^ 8 = 2 ^ 40 := by decide
  omega
theorem ah_enc_inj : ∀ (n : Nat) (u v : List Nat), u.length = n → ah_lt u → ah_lt v → ah_enc u = ah_enc v → u = v := by
  intro n
  induction n with
  | zero =>
    intro u v hu _ hv e
    have : u = [] := List.length_eq_zero_iff.mp hu
    subst this
    rcases ah_snoc v with q | ⟨v', y, q⟩
    · exact q.symm
    · subst q
      have h2 := hv y (by simp)
      rw [ah_enc_snoc, ah_enc_nil] at e
      omega
  | succ n ih =>
    intro u v hu h hv e
    rcases ah_snoc u with q | ⟨u', x, q⟩
    · subst q; simp at hu
    · subst q
      have hl : u'.length = n := by simpa using hu
      have hx := h x (by simp)
      rcases ah_snoc v with q | ⟨v', y, q⟩
      · subst q
        rw [ah_enc_snoc, ah_enc_nil] at e
        omega
      · subst q
        have hy := hv y (by simp)
        rw [ah_enc_snoc, ah_enc_snoc] at e
        have e1 : x = y := by omega
        have e2 : ah_enc u' = ah_enc v' := by omega
        rw [ih u' v' hl (ah_lt_app.mp h).1 (ah_lt_app.mp hv).1 e2, e1]
theorem ah_enc_eq {u v : List Nat} (hu : ah_lt u) (hv : ah_lt v) : ah_enc u = ah_enc v ↔ u = v := ⟨ah_enc_inj u.length u v rfl hu hv, fun h => by rw [h]⟩
theorem ah_enc_div {w : List Nat} (h : ah_lt w) (c : Nat) : ah_enc w / 32 ^ (w.length - c) = ah_enc (w.take c) := by
  have e : ah_enc w = ah_enc (w.take c) * 32 ^ (w.length - c) + ah_enc (w.drop c) := by
    have := ah_enc_app (w.take c) (w.drop c)
    rw [List.take_append_drop, List.length_drop] at this
    exact this
  have h2 := ah_enc_lt _ (w.drop c) List.length_drop (ah_lt_drop h c)
  rw [e, Nat.add_comm, Nat.add_mul_div_right _ _ (Nat.pow_pos (by omega)), Nat.div_eq_of_lt h2, Nat.zero_add]
theorem ah_enc_mod {w : List Nat} (h : ah_lt w) (k : Nat) : ah_enc w % 32 ^ k = ah_enc (w.drop (w.length - k)) := by
  by_cases hk : k ≤ w.length
  · have e : ah_enc w = ah_enc (w.take (w.length - k)) * 32 ^ k + ah_enc (w.drop (w.length - k)) := by
      have := ah_enc_app (w.take (w.length - k)) (w.drop (w.length - k))
      rw [List.take_append_drop, List.length_drop, show w.length - (w.length - k) = k by omega] at this
      exact this
    have h2 := ah_enc_lt _ (w.drop (w.length - k)) List.length_drop (ah_lt_drop h _)
    rw [show w.length - (w.length - k) = k by omega] at h2
    rw [e, Nat.add_comm, Nat.add_mul_mod_self_right, Nat.mod_eq_of_lt h2]
  · have e0 : w.length - k = 0 := by omega
    have h2 := ah_enc_lt _ w rfl h
    have h3 : (32 : Nat) ^ w.length ≤ 32 ^ k := Nat.pow_le_pow_right (by omega) (by omega)
    rw [e0, List.drop_zero, Nat.mod_eq_of_lt (by omega)]
/-! the world's pieces -/
abbrev ah_wd (F : ah_F) (a : Nat) (w : List Nat) : Prop := F a = some (.inr (5, [.long (lN (ah_enc w)), .int (nI w.length)]))
abbrev ah_Pt : Type := Nat → Option (List Nat × List Nat)
def ah_rows (F : ah_F) (rf : Nat → Option Nat) (P : ah_Pt) : Prop := ∀ i, i < 40 → (P i = none ∧ rf i = none) ∨ ∃ (w r : List Nat) (q lw rw : Nat), P i = some (w, r) ∧ rf i = some q ∧ F q = some (.inr (2, [.int (nI i), .ref lw, .ref rw])) ∧ ah_wd F lw w ∧ ah_wd F rw r ∧ ah_ok w ∧ ah_ok r ∧ w ≠ []
theorem ah_rows.n {F : ah_F} {rf : Nat → Option Nat} {P : ah_Pt} (h : ah_rows F rf P) {i : Nat} (hi : i < 40) (hq : rf i = none) : P i = none := by
  rcases h i hi with ⟨h1, h2⟩ | ⟨w, r, q, lw, rw, h1, h2, h3⟩
  · exact h1
  · rw [hq] at h2; cases h2
theorem ah_rows.s {F : ah_F} {rf : Nat → Option Nat} {P : ah_Pt} (h : ah_rows F rf P) {i q : Nat} (hi : i < 40) (hq : rf i = some q) : ∃ (w r : List Nat) (lw rw : Nat), P i = some (w, r) ∧ F q = some (.inr (2, [.int (nI i), .ref lw, .ref rw])) ∧ ah_wd F lw w ∧ ah_wd F rw r ∧ ah_ok w ∧ ah_ok r ∧ w ≠ [] := by
  rcases h i hi with ⟨h1, h2⟩ | ⟨w, r, q', lw, rw, h1, h2, h3⟩
  · rw [hq] at h2; cases h2
  · rw [hq] at h2; cases h2
    exact ⟨w, r, lw, rw, h1, h3⟩
theorem ah_rows.keep {F F1 : ah_F} {rf : Nat → Option Nat} {P : ah_Pt} (h : ah_rows F rf P) (hk : ∀ (a ci : Nat) (fs : List Value), (ci = 2 ∨ ci = 5) → F a = some (.inr (ci, fs)) → F1 a = some (.inr (ci, fs))) : ah_rows F1 rf P := by
  intro i hi
  rcases h i hi with h1 | ⟨w, r, q, lw, rw, h1, h2, h3, h4, h5, h6⟩
  · exact Or.inl h1
  · exact Or.inr ⟨w, r, q, lw, rw, h1, h2, hk _ _ _ (Or.inl rfl) h3, hk _ _ _ (Or.inr rfl) h4, hk _ _ _ (Or.inr rfl) h5, h6⟩
def ah_l8 (u : List Nat) : List Nat := u.drop (u.length - 8)
def ah_str (lf : Nat → Int64) (S : List Nat) : Prop := S.length ≤ 200 ∧ ah_lt S ∧ ∀ i, i ≤ S.length → lf i = lN (ah_enc (ah_l8 (S.take i)))
/-- a word stands at a place; ends at an end; begins another -/
def ah_at (S : List Nat) (i : Nat) (w : List Nat) : Bool := decide ((S.drop i).take w.length = w)
def ah_en (S : List Nat) (e : Nat) (w : List Nat) : Bool := decide (w.length ≤ e) && ah_at S (e - w.length) w
def ah_bw (u w : List Nat) : Bool := decide (w.take u.length = u)
theorem ah_l8_len (u : List Nat) : (ah_l8 u).length ≤ 8 := by simp only [ah_l8, List.length_drop]; omega
theorem ah_l8_ok {u : List Nat} (h : ah_lt u) : ah_ok (ah_l8 u) := ⟨ah_l8_len u, ah_lt_drop h _⟩
/-- the last k letters of the last eight, as a number -/
theorem ah_l8_mod {u : List Nat} (h : ah_lt u) {k : Nat} (hk : k ≤ 8) : ah_enc (ah_l8 u) % 32 ^ k = ah_enc (u.drop (u.length - k)) := by
  unfold ah_l8
  rw [ah_enc_mod (ah_lt_drop h _)]
  congr 1
  simp only [List.drop_drop, List.length_drop]
  congr 1
  omega
theorem ah_lN_eq {a b : Nat} (ha : a < 2 ^ 40) (hb : b < 2 ^ 40) : lN a = lN b ↔ a = b := pk_lEQ (by omega) (by omega)
theorem ah_en_eq {S w : List Nat} {e : Nat} (he : e ≤ S.length) (hS : ah_lt S) (hw : ah_ok w) : ah_enc (ah_l8 (S.take e)) % 32 ^ w.length = ah_enc w ↔ ah_en S e w = true := by
  have hT : ah_lt (S.take e) := ah_lt_take hS e
  have hl : (S.take e).length = e := by rw [List.length_take]; omega
  rw [ah_l8_mod hT hw.1, ah_enc_eq (ah_lt_drop hT _) hw.2, hl]
  simp only [ah_en, ah_at, Bool.and_eq_true, decide_eq_true_eq]
  constructor
  · intro h
    have h1 := congrArg List.length h
    rw [List.length_drop, hl] at h1
    have hle : w.length ≤ e := by omega
    refine ⟨hle, ?_⟩
    rw [List.drop_take, show e - (e - w.length) = w.length by omega] at h
    exact h
  · intro ⟨hle, h⟩
    rw [List.drop_take, show e - (e - w.length) = w.length by omega]
    exact h
theorem ah_at_en {S w : List Nat} {i : Nat} (h : i + w.length ≤ S.length) : ah_en S (i + w.length) w = ah_at S i w := by
  simp only [ah_en]
  rw [Nat.add_sub_cancel]
  simp
theorem ah_at_out {S w : List Nat} {i : Nat} (h : S.length < i + w.length) (hw : w ≠ []) : ah_at S i w = false := by
  simp only [ah_at, decide_eq_false_iff_not]
  intro q
  have h1 := congrArg List.length q
  rw [List.length_take, List.length_drop] at h1
  have : 0 < w.length := List.length_pos_iff.mpr hw
  omega
theorem ah_enc_pos {w : List Nat} (h : ah_lt w) (hw : w ≠ []) : ah_enc w ≠ 0 := by
  intro q
  exact hw (ah_enc_inj w.length w [] rfl h (fun x hx => by cases hx) (by rw [q]; rfl))
theorem ah_p32 (k : Nat) : 2 ^ (5 * k) = 32 ^ k := by rw [Nat.pow_mul]
theorem ah_i2c {n : Nat} (h : n < 65536) : ((nI n).toUInt32 % 65536).toInt32 = nI n := by rw [pk_char, pk_tn (by omega), Nat.mod_eq_of_lt h]
theorem ah_cmp0 {x y : Int64} : lg_cmp x y = 0 ↔ x = y := by
  unfold lg_cmp
  constructor
  · intro h
    split at h
    · exact absurd h (by decide)
    · split at h
      · assumption
      · exact absurd h (by decide)
  · intro h
    subst h
    rw [if_neg (Int64.lt_irrefl), if_pos rfl]
theorem ah_or5 {a x : Nat} (ha : a < 2 ^ 41) (hx : x < 32) : lN (a * 32) ||| lN x = lN (a * 32 + x) := g_or (k := 5) (p := 32) (by decide) hx (by omega)
theorem ah_sh5 (a : Nat) : lN a <<< ((nI 5).toInt64 &&& 63) = lN (a * 32) := wb_shl a (k := 5) (by omega)
theorem ah_up_u (F : ah_F) (a : Nat) (x y : va_E) : ah_up (ah_up F a x) a y = ah_up F a y := by
  funext q
  by_cases h : q = a
  · simp [ah_up, h]
  · simp [ah_up, h]
theorem ah_bw_1 {w u : List Nat} (hw : ah_ok w) (hu : ah_ok u) (_ : u.length ≤ w.length) (h : lN (ah_enc (w.take u.length)) = lN (ah_enc u)) : bI_ (ah_bw u w) = nI 1 := by
  have hT : ah_ok (w.take u.length) := ⟨by rw [List.length_take]; have := hw.1; omega, ah_lt_take hw.2 _⟩
  have e := (ah_enc_eq hT.2 hu.2).mp ((ah_lN_eq (ah_enc_40 hT) (ah_enc_40 hu)).mp h)
  simp [ah_bw, e]; rfl
theorem ah_bw_0 {w u : List Nat} (hw : ah_ok w) (hu : ah_ok u) (h : ¬ lN (ah_enc (w.take u.length)) = lN (ah_enc u)) : bI_ (ah_bw u w) = nI 0 := by
  have e : ¬ w.take u.length = u := fun q => h (by rw [q])
  simp [ah_bw, e]; rfl
theorem ah_bw_2 {w u : List Nat} (h : w.length < u.length) : bI_ (ah_bw u w) = nI 0 := by
  have e : ¬ w.take u.length = u := fun q => by
    have := congrArg List.length q
    rw [List.length_take] at this
    omega
  simp [ah_bw, e]; rfl
theorem ah_ok_take {w : List Nat} (h : ah_ok w) (k : Nat) : ah_ok (w.take k) := ⟨by rw [List.length_take]; have := h.1; omega, ah_lt_take h.2 k⟩
theorem ah_enc_last {w : List Nat} {i : Nat} (hi : i < w.length) (h : ah_lt w) : ah_enc (w.take (i + 1)) % 32 = w.getD i 0 := by
  have hx := h (w[i]) (List.getElem_mem hi)
  rw [List.take_add_one, List.getElem?_eq_getElem hi]
  show ah_enc (w.take i ++ [w[i]]) % 32 = _
  rw [ah_enc_snoc, List.getD_eq_getElem?_getD, List.getElem?_eq_getElem hi]
  show _ = w[i]
  omega
theorem ah_fr {F : ah_F} {q b : Nat} {x : va_E} (h : F q = none) (hb : F b = some x) : b ≠ q := fun e => by
  rw [e, h] at hb
  cases hb
end
section
set_option maxHeartbeats 4000000 in
set_option maxRecDepth 100000 in
/-- the last letters of a number -/
theorem c_tail (l : Launch) (A : Nat → Prop) (D : ah_G) (F : ah_F) {a k : Nat} (ha : a < 2 ^ 62) (hk : k ≤ 12) : Met l yX6_tail (Cond.code yX6_tail cX6_tail 3 (some .long) :: ah_T) { frames := 0, cells := 0, slots := 0, locals := 0 } (va_Pc [.long (lN a), .int (nI k)] (ah_B A D F)) (ah_Ql A D (fun (r : Int64) F1 => F = F1 ∧ lN (a % 32 ^ k) = r)) 0 0 A := by
  refine ah_met (own := "Ahoarch") (by decide) rfl (Nat.le_of_ble_eq_true rfl) ?_
  intro p e s m below meth c ls E hr hini hl hP hS Q hQ
  have hx := E.1
  have hb := E.2.1
  have hl : lv_has ls 3 [(0, .long (lN a)), (2, .int (nI k))] := hl
  refine lv_lload_n hx hb dX6_tail_0 rfl (lv_at hl 0 rfl) ?_
  refine lv_lconst (v := (lN 1)) hx hb dX6_tail_1 rfl ?_
  refine lv_iconst (v := (nI 5)) hx hb dX6_tail_2 (by decide) ?_
  refine lv_iload_n hx hb dX6_tail_3 rfl (lv_at hl 1 rfl) ?_
  refine ah_imul hx hb dX6_tail_4 ?_
  refine lv_lshl (v := (lN (2 ^ (5 * k)))) hx hb dX6_tail_5 ((wb_shl 1 (k := 5 * k) (by omega)).trans (by rw [Nat.one_mul])) ?_
  refine lv_lconst (v := (lN 1)) hx hb dX6_tail_6 rfl ?_
  refine lv_lsub hx hb dX6_tail_7 ?_
  rw [show (lN (2 ^ (5 * k))) - (lN 1) = lN (2 ^ (5 * k) - 1) from (lN_sub (a := 2 ^ (5 * k)) (b := 1) Nat.one_le_two_pow)]
  refine lv_land hx hb dX6_tail_8 ?_
  rw [show (lN a) &&& (lN (2 ^ (5 * k) - 1)) = lN (a % 32 ^ k) from ((wb_mask (by omega) (by omega)).trans (by rw [ah_p32]))]
  rw [hQ]
  exact ah_lret E hr hP hS ⟨rfl, rfl⟩ (Nat.le_of_ble_eq_true rfl) (Nat.le_of_ble_eq_true rfl) dX6_tail_9

set_option maxHeartbeats 4000000 in
set_option maxRecDepth 100000 in
/-- codeOf -/
theorem c_codeOf (l : Launch) (A : Nat → Prop) (D : ah_G) (F : ah_F) {x : Nat} (hx1 : 1 ≤ x) (hx2 : x ≤ 26) : Met l yX6_codeOf (Cond.code yX6_codeOf cX6_codeOf 1 (some .long) :: ah_T) { frames := 0, cells := 0, slots := 0, locals := 0 } (va_Pc [.int (nI (x + 96))] (ah_B A D F)) (ah_Ql A D (fun (r : Int64) F1 => F = F1 ∧ lN x = r)) 0 0 A := by
  refine ah_met (own := "Ahoarch") (by decide) rfl (Nat.le_of_ble_eq_true rfl) ?_
  intro p e s m below meth c ls E hr hini hl hP hS Q hQ
  have hx := E.1
  have hb := E.2.1
  have hl : lv_has ls 1 [(0, .int (nI (x + 96)))] := hl
  refine lv_iload_n hx hb dX6_codeOf_0 rfl (lv_at hl 0 rfl) ?_
  refine lv_bipush (v := (nI 97)) hx hb dX6_codeOf_1 (by decide) ?_
  refine ah_isub hx hb (by omega) dX6_codeOf_3 ?_
  refine lv_iconst (v := (nI 1)) hx hb dX6_codeOf_4 (by decide) ?_
  refine ah_iadd hx hb dX6_codeOf_5 ?_
  refine lv_i2l (v := (lN x)) hx hb dX6_codeOf_6 (by rw [show x + 96 - 97 + 1 = x by omega]; exact nI_l (by omega)) ?_
  rw [hQ]
  exact ah_lret E hr hP hS ⟨rfl, rfl⟩ (Nat.le_of_ble_eq_true rfl) (Nat.le_of_ble_eq_true rfl) dX6_codeOf_7

set_option maxHeartbeats 4000000 in
set_option maxRecDepth 100000 in
/-- letterOf -/
theorem c_letterOf (l : Launch) (A : Nat → Prop) (D : ah_G) (F : ah_F) {a : Nat} (ha : a < 2 ^ 62) : Met l yX6_letterOf (Cond.code yX6_letterOf cX6_letterOf 2 (some .char) :: ah_T) { frames := 0, cells := 0, slots := 0, locals := 0 } (va_Pc [.long (lN a)] (ah_B A D F)) (ah_Qi A D (fun (r : Int32) F1 => F = F1 ∧ nI (96 + a % 32) = r)) 0 0 A := by
  refine ah_met (own := "Ahoarch") (by decide) rfl (Nat.le_of_ble_eq_true rfl) ?_
  intro p e s m below meth c ls E hr hini hl hP hS Q hQ
  have hx := E.1
  have hb := E.2.1
  have hl : lv_has ls 2 [(0, .long (lN a))] := hl
  refine lv_ldc2 (v := (lN 96)) hx hb E.2.2.2.1 (E.2.2.2.2.1 (.constantLong "Ahoarch" 239 96) (ah_in 523 (by decide +kernel) rfl)) dX6_letterOf_0 ?_
  refine lv_lload_n hx hb dX6_letterOf_3 rfl (lv_at hl 0 rfl) ?_
  refine lv_ldc2 (v := (lN 31)) hx hb E.2.2.2.1 (E.2.2.2.2.1 (.constantLong "Ahoarch" 241 31) (ah_in 524 (by decide +kernel) rfl)) dX6_letterOf_4 ?_
  refine lv_land hx hb dX6_letterOf_7 ?_
  rw [show (lN a) &&& (lN 31) = lN (a % 32) from (wb_mask (n := a) (k := 5) (by omega) (by omega))]
  refine lv_ladd hx hb dX6_letterOf_8 ?_
  rw [show (lN 96) + (lN (a % 32)) = lN (96 + a % 32) from (lN_add _ _)]
  refine lv_l2i (v := (nI (96 + a % 32))) hx hb dX6_letterOf_9 (lN_i _) ?_
  refine lv_i2c (v := (nI (96 + a % 32))) hx hb dX6_letterOf_10 (ah_i2c (by omega)) ?_
  rw [hQ]
  exact ah_zret E hr (pk_charN (q := 96 + a % 32) (by omega)).1 hP hS ⟨rfl, rfl⟩ (Nat.le_of_ble_eq_true rfl) (Nat.le_of_ble_eq_true rfl) dX6_letterOf_11

set_option maxHeartbeats 4000000 in
set_option maxRecDepth 100000 in
/-- <init> -/
theorem c_Word_init (l : Launch) (A : Nat → Prop) (D : ah_G) (F : ah_F) {q : Nat} {x : Int64} {y : Int32} {c0 : Int64} {s0 : Int32} (hq0 : F q = some (.inr (5, [.long c0, .int s0]))) : Met l yX5_init (Cond.code yX5_init cX5_init 4 none :: ah_T) { frames := 1, cells := 0, slots := 0, locals := 20 } (va_Pc [.ref q, .long x, .int y] (ah_B A D F)) (ah_Qv A D (fun F1 => F1 = ah_up F q (.inr (5, [.long x, .int y])))) 0 0 A := by
  refine ah_met (own := "Ahoarch$Word") (by decide) rfl (Nat.le_of_ble_eq_true rfl) ?_
  intro p e s m below meth c ls E hr hini hl hP hS Q hQ
  have hx := E.1
  have hb := E.2.1
  have hl : lv_has ls 4 [(0, .ref q), (1, .long x), (3, .int y)] := hl
  refine lv_aload_n hx hb dX5_init_0 rfl (lv_at hl 0 rfl) ?_
  refine oi_Word E hl.1 dX5_init_1 (Nat.le_of_ble_eq_true rfl) (Nat.le_of_ble_eq_true rfl) ?_
  refine lv_aload_n hx hb dX5_init_4 rfl (lv_at hl 0 rfl) ?_
  refine lv_lload_n hx hb dX5_init_5 rfl (lv_at hl 1 rfl) ?_
  refine pf_Word_9 E hini hP hS hq0 (Nat.le_of_ble_eq_true rfl) dX5_init_6 (fun H locs hP hS => ?_)
  obtain ⟨F1, eF1⟩ : ∃ Fz : ah_F, Fz = ah_up F q (.inr (5, [.long x, .int s0])) := ⟨_, rfl⟩
  have hP : ah_K A D F1 H := by rw [eF1]; exact hP
  have hF2 : F1 q = some (.inr (5, [.long x, .int s0])) := by rw [eF1]; exact ah_up_s _ _ _
  refine lv_aload_n hx hb dX5_init_9 rfl (lv_at hl 0 rfl) ?_
  refine lv_iload_n hx hb dX5_init_10 rfl (lv_at hl 2 rfl) ?_
  refine pf_Word_15 E hini hP hS hF2 (Nat.le_of_ble_eq_true rfl) dX5_init_11 (fun H locs hP hS => ?_)
  obtain ⟨F3, eF3⟩ : ∃ Fz : ah_F, Fz = ah_up F1 q (.inr (5, [.long x, .int y])) := ⟨_, rfl⟩
  have hP : ah_K A D F3 H := by rw [eF3]; exact hP
  have hF4 : F3 q = some (.inr (5, [.long x, .int y])) := by rw [eF3]; exact ah_up_s _ _ _
  rw [hQ]
  exact ah_vret E hr hP hS (by rw [eF3, eF1]; exact ah_up_u _ _ _ _) (Nat.le_of_ble_eq_true rfl) (Nat.le_of_ble_eq_true rfl) dX5_init_14

set_option maxHeartbeats 4000000 in
set_option maxRecDepth 100000 in
/-- head -/
theorem c_Word_head (l : Launch) (A : Nat → Prop) (D : ah_G) (F : ah_F) {a : Nat} {w : List Nat} {k : Nat} (hw : ah_wd F a w) (hok : ah_ok w) (hk : k ≤ 9) : Met l yX5_head (Cond.code yX5_head cX5_head 2 (some .long) :: ah_T) { frames := 0, cells := 0, slots := 0, locals := 0 } (va_Pc [.ref a, .int (nI k)] (ah_B A D F)) (ah_Ql A D (fun (r : Int64) F1 => F = F1 ∧ lN (ah_enc (w.take k)) = r)) 0 0 A := by
  refine ah_met (own := "Ahoarch$Word") (by decide) rfl (Nat.le_of_ble_eq_true rfl) ?_
  intro p e s m below meth c ls E hr hini hl hP hS Q hQ
  have hx := E.1
  have hb := E.2.1
  have hl : lv_has ls 2 [(0, .ref a), (1, .int (nI k))] := hl
  have hlen := hok.1
  refine lv_iload_n hx hb dX5_head_0 rfl (lv_at hl 1 rfl) ?_
  refine lv_aload_n hx hb dX5_head_1 rfl (lv_at hl 0 rfl) ?_
  refine gf_Word_15 E hP hw rfl dX5_head_2 ?_
  refine ah_icmp_ge (tgt := 24) hx hb (by omega) (by omega) dX5_head_5 (by decide) (fun hc5 => ?_) (fun hc5 => ?_)
  · skip
    refine lv_aload_n hx hb dX5_head_24 rfl (lv_at hl 0 rfl) ?_
    refine gf_Word_9 E hP hw rfl dX5_head_25 ?_
    rw [hQ]
    exact ah_lret E hr hP hS ⟨rfl, by rw [List.take_of_length_le hc5]⟩ (Nat.le_of_ble_eq_true rfl) (Nat.le_of_ble_eq_true rfl) dX5_head_28
  · skip
    refine lv_aload_n hx hb dX5_head_8 rfl (lv_at hl 0 rfl) ?_
    refine gf_Word_9 E hP hw rfl dX5_head_9 ?_
    refine lv_iconst (v := (nI 5)) hx hb dX5_head_12 (by decide) ?_
    refine lv_aload_n hx hb dX5_head_13 rfl (lv_at hl 0 rfl) ?_
    refine gf_Word_15 E hP hw rfl dX5_head_14 ?_
    refine lv_iload_n hx hb dX5_head_17 rfl (lv_at hl 1 rfl) ?_
    refine ah_isub hx hb (by omega) dX5_head_18 ?_
    refine ah_imul hx hb dX5_head_19 ?_
    refine lv_lushr (v := (lN (ah_enc (w.take k)))) hx hb dX5_head_20 ((wb_shr (k := 5 * (w.length - k)) (by have := ah_enc_40 hok; omega) (by omega)).trans (by rw [ah_p32, ah_enc_div hok.2])) ?_
    refine lv_goto (tgt := 28) hx hb dX5_head_21 (by decide) ?_
    rw [hQ]
    exact ah_lret E hr hP hS ⟨rfl, rfl⟩ (Nat.le_of_ble_eq_true rfl) (Nat.le_of_ble_eq_true rfl) dX5_head_28

set_option maxHeartbeats 4000000 in
set_option maxRecDepth 100000 in
/-- beginsWith -/
theorem c_Word_beginsWith (l : Launch) (A : Nat → Prop) (D : ah_G) (F : ah_F) {a : Nat} {w : List Nat} {u : List Nat} {k : Nat} (hk : k = u.length) (hw : ah_wd F a w) (hok : ah_ok w) (hu : ah_ok u) : Met l yX5_beginsWith (Cond.code yX5_beginsWith cX5_beginsWith 4 (some .boolean) :: ah_T) { frames := 0, cells := 0, slots := 0, locals := 0 } (va_Pc [.ref a, .long (lN (ah_enc u)), .int (nI k)] (ah_B A D F)) (ah_Qi A D (fun (r : Int32) F1 => F = F1 ∧ bI_ (ah_bw u w) = r)) 0 0 A := by
  refine ah_met (own := "Ahoarch$Word") (by decide) rfl (Nat.le_of_ble_eq_true rfl) ?_
  intro p e s m below meth c ls E hr hini hl hP hS Q hQ
  have hx := E.1
  have hb := E.2.1
  have hl : lv_has ls 4 [(0, .ref a), (1, .long (lN (ah_enc u))), (3, .int (nI k))] := hl
  have hlen := hok.1
  have hulen := hu.1
  refine lv_iload_n hx hb dX5_beginsWith_0 rfl (lv_at hl 2 rfl) ?_
  refine lv_aload_n hx hb dX5_beginsWith_1 rfl (lv_at hl 0 rfl) ?_
  refine gf_Word_15 E hP hw rfl dX5_beginsWith_2 ?_
  refine ah_icmp_gt (tgt := 30) hx hb (by omega) (by omega) dX5_beginsWith_5 (by decide) (fun hc5 => ?_) (fun hc5 => ?_)
  · skip
    refine lv_iconst (v := (nI 0)) hx hb dX5_beginsWith_30 (by decide) ?_
    rw [hQ]
    exact ah_zret E hr (by first | exact bI_nz _ | decide) hP hS (by subst hk; exact ⟨rfl, ah_bw_2 hc5⟩) (Nat.le_of_ble_eq_true rfl) (Nat.le_of_ble_eq_true rfl) dX5_beginsWith_31
  · skip
    refine lv_aload_n hx hb dX5_beginsWith_8 rfl (lv_at hl 0 rfl) ?_
    refine gf_Word_9 E hP hw rfl dX5_beginsWith_9 ?_
    refine lv_iconst (v := (nI 5)) hx hb dX5_beginsWith_12 (by decide) ?_
    refine lv_aload_n hx hb dX5_beginsWith_13 rfl (lv_at hl 0 rfl) ?_
    refine gf_Word_15 E hP hw rfl dX5_beginsWith_14 ?_
    refine lv_iload_n hx hb dX5_beginsWith_17 rfl (lv_at hl 2 rfl) ?_
    refine ah_isub hx hb (by omega) dX5_beginsWith_18 ?_
    refine ah_imul hx hb dX5_beginsWith_19 ?_
    refine lv_lushr (v := (lN (ah_enc (w.take k)))) hx hb dX5_beginsWith_20 ((wb_shr (k := 5 * (w.length - k)) (by have := ah_enc_40 hok; omega) (by omega)).trans (by rw [ah_p32, ah_enc_div hok.2])) ?_
    refine lv_lload_n hx hb dX5_beginsWith_21 rfl (lv_at hl 1 rfl) ?_
    refine W.lcmp hx hb dX5_beginsWith_22 ?_
    refine lv_if_ne (tgt := 30) hx hb dX5_beginsWith_23 (by decide) (fun hc23 => ?_) (fun hc23 => ?_)
    · skip
      refine lv_iconst (v := (nI 0)) hx hb dX5_beginsWith_30 (by decide) ?_
      rw [hQ]
      exact ah_zret E hr (by first | exact bI_nz _ | decide) hP hS (by subst hk; exact ⟨rfl, ah_bw_0 hok hu (fun h => hc23 (ah_cmp0.mpr h))⟩) (Nat.le_of_ble_eq_true rfl) (Nat.le_of_ble_eq_true rfl) dX5_beginsWith_31
    · skip
      refine lv_iconst (v := (nI 1)) hx hb dX5_beginsWith_26 (by decide) ?_
      refine lv_goto (tgt := 31) hx hb dX5_beginsWith_27 (by decide) ?_
      rw [hQ]
      exact ah_zret E hr (by first | exact bI_nz _ | decide) hP hS (by subst hk; exact ⟨rfl, ah_bw_1 hok hu hc5 (ah_cmp0.mp hc23)⟩) (Nat.le_of_ble_eq_true rfl) (Nat.le_of_ble_eq_true rfl) dX5_beginsWith_31

set_option maxHeartbeats 4000000 in
set_option maxRecDepth 100000 in
/-- letterAt -/
theorem c_Word_letterAt (l : Launch) (A : Nat → Prop) (D : ah_G) (F : ah_F) {a : Nat} {w : List Nat} {i : Nat} (hw : ah_wd F a w) (hok : ah_ok w) (hi : i < w.length) : Met l yX5_letterAt (Cond.code yX5_letterAt cX5_letterAt 2 (some .char) :: ah_T) { frames := 1, cells := 0, slots := 0, locals := 21 } (va_Pc [.ref a, .int (nI i)] (ah_B A D F)) (ah_Qi A D (fun (r : Int32) F1 => F = F1 ∧ nI (96 + w.getD i 0) = r)) 0 0 A := by
  refine ah_met (own := "Ahoarch$Word") (by decide) rfl (Nat.le_of_ble_eq_true rfl) ?_
  intro p e s m below meth c ls E hr hini hl hP hS Q hQ
  have hx := E.1
  have hb := E.2.1
  have hl : lv_has ls 2 [(0, .ref a), (1, .int (nI i))] := hl
  have hlen := hok.1
  refine lv_aload_n hx hb dX5_letterAt_0 rfl (lv_at hl 0 rfl) ?_
  refine lv_iload_n hx hb dX5_letterAt_1 rfl (lv_at hl 1 rfl) ?_
  refine lv_iconst (v := (nI 1)) hx hb dX5_letterAt_2 (by decide) ?_
  refine ah_iadd hx hb dX5_letterAt_3 ?_
  refine ah_calll (ah_runV E hP hS (As := [.int (nI (i + 1))]) (rest := []) (b := a) (c_Word_head l A D F hw hok (k := i + 1) (by omega)) lk_Word_26 li_Word_26 hw rfl ⟨rfl, rfl, (Nat.le_of_ble_eq_true rfl), (Nat.le_of_ble_eq_true rfl)⟩ rfl hl.1 rfl (Nat.le_of_ble_eq_true rfl) dX5_letterAt_4 ⟨(Nat.le_of_ble_eq_true rfl), (Nat.le_of_ble_eq_true rfl)⟩) hS (fun r F1 H locs hq hP hS => ?_)
  obtain ⟨rfl, rfl⟩ := hq
  refine ah_calli (ah_runSN E hP hS (As := [.long (lN (ah_enc (w.take (i + 1))))]) (rest := []) (c_letterOf l A D F (a := ah_enc (w.take (i + 1))) (by have := ah_enc_40 (ah_ok_take hok (i + 1)); omega)) lk_Word_30 li_Word_30 ⟨rfl, rfl, (Nat.le_of_ble_eq_true rfl), (Nat.le_of_ble_eq_true rfl)⟩ rfl hl.1 rfl (Nat.le_of_ble_eq_true rfl) dX5_letterAt_7 ⟨(Nat.le_of_ble_eq_true rfl), (Nat.le_of_ble_eq_true rfl)⟩) hS (fun r F2 H locs hq hP hS => ?_)
  obtain ⟨rfl, rfl⟩ := hq
  rw [hQ]
  exact ah_zret E hr (pk_charN (q := 96 + ah_enc (w.take (i + 1)) % 32) (by omega)).1 hP hS ⟨rfl, by rw [ah_enc_last hi hok.2]⟩ (Nat.le_of_ble_eq_true rfl) (Nat.le_of_ble_eq_true rfl) dX5_letterAt_10

set_option maxHeartbeats 4000000 in
set_option maxRecDepth 100000 in
/-- with -/
theorem c_Word_with (l : Launch) (A : Nat → Prop) (D : ah_G) (F : ah_F) {a : Nat} {w : List Nat} {x : Nat} (hw : ah_wd F a w) (hok : ah_ok w) (hx1 : 1 ≤ x) (hx2 : x ≤ 26) : Met l yX5_with (Cond.code yX5_with cX5_with 2 (some (.object "Ahoarch$Word")) :: ah_T) { frames := 2, cells := 1, slots := 2, locals := 43 } (va_Pc [.ref a, .int (nI (x + 96))] (ah_B A D F)) (ah_Qq A D (fun (r : Option Nat) F1 => ∃ q : Nat, r = some q ∧ F q = none ∧ F1 = ah_up F q (.inr (5, [.long (lN (ah_enc (w ++ [x]))), .int (nI (w ++ [x]).length)])))) 1 2 A := by
  refine ah_met (own := "Ahoarch$Word") (by decide) rfl (Nat.le_of_ble_eq_true rfl) ?_
  intro p e s m below meth c ls E hr hini hl hP hS Q hQ
  have hx := E.1
  have hb := E.2.1
  have hl : lv_has ls 2 [(0, .ref a), (1, .int (nI (x + 96)))] := hl
  have hlen := hok.1
  have he40 := ah_enc_40 hok
  refine nw_Word_10 E hP hS (Nat.le_of_ble_eq_true rfl) (Nat.le_of_ble_eq_true rfl) dX5_with_0 (fun q H hn_q hP hS => ?_)
  obtain ⟨F1, eF1⟩ : ∃ Fz : ah_F, Fz = ah_up F q (.inr (5, [.long (lN 0), .int (nI 0)])) := ⟨_, rfl⟩
  have hP : ah_K A D F1 H := by rw [eF1]; exact hP
  have hF2 : F1 q = some (.inr (5, [.long (lN 0), .int (nI 0)])) := by rw [eF1]; exact ah_up_s _ _ _
  have hF3 : F1 a = some (.inr (5, [.long (lN (ah_enc w)), .int (nI w.length)])) := by rw [eF1]; exact (ah_up_n _ _ (ah_fr hn_q hw)).trans hw
  refine lv_dup hx hb dX5_with_3 rfl ?_
  refine lv_aload_n hx hb dX5_with_4 rfl (lv_at hl 0 rfl) ?_
  refine gf_Word_9 E hP hF3 rfl dX5_with_5 ?_
  refine lv_iconst (v := (nI 5)) hx hb dX5_with_8 (by decide) ?_
  refine lv_lshl (v := (lN (ah_enc w * 32))) hx hb dX5_with_9 (ah_sh5 _) ?_
  refine lv_iload_n hx hb dX5_with_10 rfl (lv_at hl 1 rfl) ?_
  refine ah_calll (ah_runSN E hP hS (As := [.int (nI (x + 96))]) (rest := [.long (lN (ah_enc w * 32)), .ref q, .ref q]) (c_codeOf l A D _ hx1 hx2) lk_Word_19 li_Word_19 ⟨rfl, rfl, (Nat.le_of_ble_eq_true rfl), (Nat.le_of_ble_eq_true rfl)⟩ rfl hl.1 rfl (Nat.le_of_ble_eq_true rfl) dX5_with_11 ⟨(Nat.le_of_ble_eq_true rfl), (Nat.le_of_ble_eq_true rfl)⟩) hS (fun r F4 H locs hq hP hS => ?_)
  obtain ⟨rfl, rfl⟩ := hq
  refine lv_lor hx hb dX5_with_14 ?_
  rw [show (lN (ah_enc w * 32)) ||| (lN x) = lN (ah_enc (w ++ [x])) from ((ah_or5 (by omega) (by omega)).trans (by rw [ah_enc_snoc]))]
  refine lv_aload_n hx hb dX5_with_15 rfl (lv_at hl 0 rfl) ?_
  refine gf_Word_15 E hP hF3 rfl dX5_with_16 ?_
  refine lv_iconst (v := (nI 1)) hx hb dX5_with_19 (by decide) ?_
  refine ah_iadd hx hb dX5_with_20 ?_
  refine ah_callv (ah_runI E hP hS (As := [.long (lN (ah_enc (w ++ [x]))), .int (nI (w.length + 1))]) (rest := [.ref q]) (b := q) (c_Word_init l A D _ hF2) lk_Word_23 li_Word_23 ⟨rfl, rfl, (Nat.le_of_ble_eq_true rfl), (Nat.le_of_ble_eq_true rfl)⟩ rfl hl.1 rfl (Nat.le_of_ble_eq_true rfl) dX5_with_21 ⟨(Nat.le_of_ble_eq_true rfl), (Nat.le_of_ble_eq_true rfl)⟩) hS (fun F5 H locs hq21 hP hS => ?_)
  have hF9 : F5 = ah_up F q (.inr (5, [.long (lN (ah_enc (w ++ [x]))), .int (nI (w.length + 1))])) := by rw [hq21, eF1]; exact ah_up_u _ _ _ _
  rw [hQ]
  exact ah_qret (v := some q) E hr hP hS ⟨q, rfl, hn_q, by rw [hF9]; simp⟩ (Nat.le_of_ble_eq_true rfl) (Nat.le_of_ble_eq_true rfl) dX5_with_24
end
