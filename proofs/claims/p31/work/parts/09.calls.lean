/-! rows over the world F: calls, ends, numbers -/
def bI_ (b : Bool) : Int32 := if b then 1 else 0
theorem bI_t : bI_ true = 1 := rfl
theorem bI_f : bI_ false = 0 := rfl
theorem bI_nz (b : Bool) : narrow .boolean (.int (bI_ b)) = .int (bI_ b) := by cases b <;> decide
theorem bI_vz (b : Bool) : vp_nar .boolean (bI_ b) = bI_ b := by cases b <;> decide
theorem bI_0 {b : Bool} (h : bI_ b = 0) : b = false := by
  cases b with
  | false => rfl
  | true => exact absurd h (by decide)
theorem bI_1 {b : Bool} (h : ¬ bI_ b = 0) : b = true := by
  cases b with
  | true => rfl
  | false => exact absurd rfl h
/-- a method link: what a call of y by the pool's index needs of the tables -/
def ah_L (own : String) (index : Nat) (y : MethodName) (bytes : ByteArray) (maxL : Nat) (ret : Option FieldType) (n : Nat) (lk : Cond) : Prop :=
  lk ∈ ah_T ∧ Cond.initialized y.cls ∈ ah_T ∧ Cond.code y bytes maxL ret ∈ ah_T ∧ y.cls ≠ "java/lang/invoke/MethodHandle" ∧ y.cls ≠ "java/lang/invoke/VarHandle" ∧ (parseMethodDescriptor y.desc).map (fun d => d.parameters.length) = some n
theorem ah_pay {args : Array Value} {s : State} {y : MethodName} {bytes : ByteArray} {maxL : Nat} {ret : Option FieldType} (ht : ∀ w ∈ ah_T, w.before args s = true) (hc : Cond.code y bytes maxL ret ∈ ah_T) : ∀ w ∈ Cond.code y bytes maxL ret :: ah_T, ∀ (a' : Array Value) (U : State), s.WarmedH U.vm → w.before a' U = true := by
  intro w hw a' U hW
  rcases List.mem_cons.mp hw with e | hw
  · rw [e]; exact ah_tr rfl hW (ht _ hc)
  · exact ah_tr (List.mem_filter.mp hw).2 hW (ht _ hw)
theorem ah_par {y : MethodName} {n : Nat} (h : (parseMethodDescriptor y.desc).map (fun d => d.parameters.length) = some n) : ∀ sig, parseMethodDescriptor y.desc = some sig → n = sig.parameters.length := by
  intro sig h1
  rw [h1] at h
  exact (Option.some.inj h).symm
section AHC
variable {p : Program} {l : Launch} {e : Env} {R : Room} {s : State} {m : MethodId} {args : Array Value} {below : List Frame} {meth : Method} {c : Code} {H : Heap} {locs : List Loc} {cells slots : Nat} {Q : State → Prop}
variable {cc bytes : ByteArray} {pc nL index maxL n mc ms : Nat} {ls : Array Slot} {rest As st0 : List Value} {D : ah_G} {A : Nat → Prop} {b : Nat} {F : ah_F} {own host : String} {y : MethodName} {ret : Option FieldType} {rm : Room} {Qc : Array Value → State → Outcome → State → Prop} {XC : String → State → State → Prop}
theorem ah_fix (E : ah_E A D p s m args meth c own cc nL) : CallFix p m c cc nL s args ah_T own := ⟨E.1, E.2.1, E.2.2.1, E.2.2.2.1, E.2.2.2.2.1⟩
theorem ah_pre (E : ah_E A D p s m args meth c own cc nL) (hP : ah_K A D F H) (hS : va_S A s.heap H locs) {av : List Value} (U : State) (hU : U.heap = H) (hW : s.WarmedH U.vm) : va_Pc av (ah_B A D F) av.toArray U :=
  ⟨rfl, E.2.2.2.2.2.2.1.call hS hU hW, by rw [hU]; exact hP, fun q hq => E.2.2.2.2.2.2.2 q (Nat.le_trans hS.1 (by rw [← hU]; exact hq))⟩
theorem ah_cb (E : ah_E A D p s m args meth c own cc nL) (hL : ah_L own index y bytes maxL ret n (.methodLink own index y)) (hR : rm.cells = mc ∧ rm.slots = ms ∧ rm.frames + 1 ≤ R.frames ∧ 8 + (maxL + 11) + rm.locals ≤ R.locals) : CallB R s args own index y bytes maxL ret (Cond.code y bytes maxL ret :: ah_T) rm mc ms n := by
  have hts := E.2.2.2.2.1
  obtain ⟨h1, h2, h3, h4, h5, h6⟩ := hL
  exact ⟨hR.1, hR.2.1, hR.2.2.1, hR.2.2.2, ah_pay hts h3, List.mem_cons_self, hts _ h3, hts _ h2, ⟨h4, h5⟩, ah_par h6, hts _ h1⟩
theorem ah_cn (E : ah_E A D p s m args meth c own cc nL) (hL : ah_L own index y bytes maxL ret n (.methodLinkNest own index y host)) (hR : rm.cells = mc ∧ rm.slots = ms ∧ rm.frames + 1 ≤ R.frames ∧ 8 + (maxL + 11) + rm.locals ≤ R.locals) : va_CN R s args own index y host bytes maxL ret (Cond.code y bytes maxL ret :: ah_T) rm mc ms n := by
  have hts := E.2.2.2.2.1
  obtain ⟨h1, h2, h3, h4, h5, h6⟩ := hL
  exact ⟨⟨hR.1, hR.2.1, hR.2.2.1, hR.2.2.2, ah_pay hts h3, List.mem_cons_self⟩, hts _ h3, hts _ h2, ⟨h4, h5⟩, ah_par h6, hts _ h1⟩
theorem ah_cell (E : ah_E A D p s m args meth c own cc nL) (hP : ah_K A D F H) {ci N : Nat} {fs : List Value} {C : String} {Tt : u_T} (hb : F b = some (.inr (ci, fs))) (hc : vwCl[ci]? = some (C, Tt, N)) : ∃ cellB : Cell, H[b]? = some cellB ∧ cellB.vm.isStatics = false ∧ s.vm.findClass C = some cellB.cls :=
  va_recv (D := D.1) (q0 := 0) E.2.2.2.2.2.2.1.1 (hP.one hb) hc rfl
/-- the run of a virtual call, of a nest mate's, of a static one, of a constructor -/
theorem ah_runV (E : ah_E A D p s m args meth c own cc nL) (hP : ah_K A D F H) (hS : va_S A s.heap H locs) (hM : Met l y (Cond.code y bytes maxL ret :: ah_T) rm (va_Pc (.ref b :: As) (ah_B A D F)) Qc mc ms A) (hL : ah_L own index y bytes maxL ret n (.methodLink own index y)) (hi : Cond.instanceMethod y ∈ ah_T ∧ Cond.selects y.cls y y ∈ ah_T) {ci N : Nat} {fs : List Value} {Tt : u_T} (hb : F b = some (.inr (ci, fs))) (hc : vwCl[ci]? = some (y.cls, Tt, N)) (hR : rm.cells = mc ∧ rm.slots = ms ∧ rm.frames + 1 ≤ R.frames ∧ 8 + (maxL + 11) + rm.locals ≤ R.locals)
    (hn : As.length = n) (hsize : ls.size = nL) (hstack : st0 = As.reverse ++ .ref b :: rest) (hW : (rest.map fun v => v.category).sum ≤ 8) (hdg : decode cc pc = .ok (.invokevirtual index, 3)) (hf : cells + mc ≤ R.cells ∧ slots + ms ≤ R.slots) :
    va_Run p l e R s m args below meth c H locs cells slots mc ms (F0 m pc ls st0) rest (Qc (Value.ref b :: As).toArray) A :=
  va_runV (C := y.cls) (As := As) (rest := rest) (ah_fix E) hM ⟨ah_cb E hL hR, E.2.2.2.2.1 _ hi.1, E.2.2.2.2.1 _ hi.2⟩ ⟨ah_blind, ah_cell E hP hb hc, fun U hU hW => ah_pre E hP hS U hU hW⟩ rfl hn hsize hstack (lv_room hW) hdg hf
theorem ah_runVN (E : ah_E A D p s m args meth c own cc nL) (hP : ah_K A D F H) (hS : va_S A s.heap H locs) (hM : Met l y (Cond.code y bytes maxL ret :: ah_T) rm (va_Pc (.ref b :: As) (ah_B A D F)) Qc mc ms A) (hL : ah_L own index y bytes maxL ret n (.methodLinkNest own index y host)) (hi : Cond.instanceMethod y ∈ ah_T ∧ Cond.selects y.cls y y ∈ ah_T) {ci N : Nat} {fs : List Value} {Tt : u_T} (hb : F b = some (.inr (ci, fs))) (hc : vwCl[ci]? = some (y.cls, Tt, N)) (hR : rm.cells = mc ∧ rm.slots = ms ∧ rm.frames + 1 ≤ R.frames ∧ 8 + (maxL + 11) + rm.locals ≤ R.locals)
    (hn : As.length = n) (hsize : ls.size = nL) (hstack : st0 = As.reverse ++ .ref b :: rest) (hW : (rest.map fun v => v.category).sum ≤ 8) (hdg : decode cc pc = .ok (.invokevirtual index, 3)) (hf : cells + mc ≤ R.cells ∧ slots + ms ≤ R.slots) :
    va_Run p l e R s m args below meth c H locs cells slots mc ms (F0 m pc ls st0) rest (Qc (Value.ref b :: As).toArray) A :=
  va_runVN (C := y.cls) (As := As) (rest := rest) (ah_fix E) hM ⟨ah_cn E hL hR, E.2.2.2.2.1 _ hi.1, E.2.2.2.2.1 _ hi.2⟩ ⟨ah_blind, ah_cell E hP hb hc, fun U hU hW => ah_pre E hP hS U hU hW⟩ rfl hn hsize hstack (lv_room hW) hdg hf
theorem ah_runS (E : ah_E A D p s m args meth c own cc nL) (hP : ah_K A D F H) (hS : va_S A s.heap H locs) (hM : Met l y (Cond.code y bytes maxL ret :: ah_T) rm (va_Pc As (ah_B A D F)) Qc mc ms A) (hL : ah_L own index y bytes maxL ret n (.methodLink own index y)) (hi : Cond.static y ∈ ah_T) (hR : rm.cells = mc ∧ rm.slots = ms ∧ rm.frames + 1 ≤ R.frames ∧ 8 + (maxL + 11) + rm.locals ≤ R.locals)
    (hn : As.length = n) (hsize : ls.size = nL) (hstack : st0 = As.reverse ++ rest) (hW : (rest.map fun v => v.category).sum ≤ 8) (hdg : decode cc pc = .ok (.invokestatic index, 3)) (hf : cells + mc ≤ R.cells ∧ slots + ms ≤ R.slots) :
    va_Run p l e R s m args below meth c H locs cells slots mc ms (F0 m pc ls st0) rest (Qc As.toArray) A :=
  va_runS (As := As) (rest := rest) (ah_fix E) hM ⟨ah_cb E hL hR, E.2.2.2.2.1 _ hi⟩ ⟨ah_blind, fun U hU hW => ah_pre E hP hS U hU hW⟩ rfl hn hsize hstack (lv_room hW) hdg hf
theorem ah_runSN (E : ah_E A D p s m args meth c own cc nL) (hP : ah_K A D F H) (hS : va_S A s.heap H locs) (hM : Met l y (Cond.code y bytes maxL ret :: ah_T) rm (va_Pc As (ah_B A D F)) Qc mc ms A) (hL : ah_L own index y bytes maxL ret n (.methodLinkNest own index y host)) (hi : Cond.static y ∈ ah_T) (hR : rm.cells = mc ∧ rm.slots = ms ∧ rm.frames + 1 ≤ R.frames ∧ 8 + (maxL + 11) + rm.locals ≤ R.locals)
    (hn : As.length = n) (hsize : ls.size = nL) (hstack : st0 = As.reverse ++ rest) (hW : (rest.map fun v => v.category).sum ≤ 8) (hdg : decode cc pc = .ok (.invokestatic index, 3)) (hf : cells + mc ≤ R.cells ∧ slots + ms ≤ R.slots) :
    va_Run p l e R s m args below meth c H locs cells slots mc ms (F0 m pc ls st0) rest (Qc As.toArray) A :=
  va_runSN (As := As) (rest := rest) (ah_fix E) hM ⟨ah_cn E hL hR, E.2.2.2.2.1 _ hi, trivial⟩ ⟨ah_blind, fun U hU hW => ah_pre E hP hS U hU hW⟩ rfl hn hsize hstack (lv_room hW) hdg hf
theorem ah_runI (E : ah_E A D p s m args meth c own cc nL) (hP : ah_K A D F H) (hS : va_S A s.heap H locs) (hM : Met l y (Cond.code y bytes maxL none :: ah_T) rm (va_Pc (.ref b :: As) (ah_B A D F)) Qc mc ms A) (hL : ah_L own index y bytes maxL none n (.methodLink own index y)) (hi : y.name = "<init>" ∧ Cond.instanceMethod y ∈ ah_T) (hR : rm.cells = mc ∧ rm.slots = ms ∧ rm.frames + 1 ≤ R.frames ∧ 8 + (maxL + 11) + rm.locals ≤ R.locals)
    (hn : As.length = n) (hsize : ls.size = nL) (hstack : st0 = As.reverse ++ .ref b :: rest) (hW : (rest.map fun v => v.category).sum ≤ 8) (hdg : decode cc pc = .ok (.invokespecial index, 3)) (hf : cells + mc ≤ R.cells ∧ slots + ms ≤ R.slots) :
    va_Run p l e R s m args below meth c H locs cells slots mc ms (F0 m pc ls st0) rest (Qc (Value.ref b :: As).toArray) A :=
  va_runI (As := As) (rest := rest) (ah_fix E) hM ⟨ah_cb E hL hR, hi.1, E.2.2.2.2.1 _ hi.2⟩ ⟨ah_blind, fun U hU hW => ah_pre E hP hS U hU hW⟩ rfl hn hsize hstack (lv_room hW) hdg hf
/-! the same for a callee that may throw -/
theorem ah_xrunV (E : ah_E A D p s m args meth c own cc nL) (hP : ah_K A D F H) (hS : va_S A s.heap H locs) (hM : vx_Met l y (Cond.code y bytes maxL ret :: ah_T) rm (va_Pc (.ref b :: As) (ah_B A D F)) Qc XC mc ms A) (hL : ah_L own index y bytes maxL ret n (.methodLink own index y)) (hi : Cond.instanceMethod y ∈ ah_T ∧ Cond.selects y.cls y y ∈ ah_T) {ci N : Nat} {fs : List Value} {Tt : u_T} (hb : F b = some (.inr (ci, fs))) (hc : vwCl[ci]? = some (y.cls, Tt, N)) (hR : rm.cells = mc ∧ rm.slots = ms ∧ rm.frames + 1 ≤ R.frames ∧ 8 + (maxL + 11) + rm.locals ≤ R.locals)
    (hn : As.length = n) (hsize : ls.size = nL) (hstack : st0 = As.reverse ++ .ref b :: rest) (hW : (rest.map fun v => v.category).sum ≤ 8) (hdg : decode cc pc = .ok (.invokevirtual index, 3)) (hf : cells + mc ≤ R.cells ∧ slots + ms ≤ R.slots) :
    vx_Run p l e R s m args below meth c H locs cells slots mc ms (F0 m pc ls st0) rest (Qc (Value.ref b :: As).toArray) XC A :=
  vx_runV (C := y.cls) (As := As) (rest := rest) (ah_fix E) hM ⟨ah_cb E hL hR, E.2.2.2.2.1 _ hi.1, E.2.2.2.2.1 _ hi.2⟩ ⟨ah_blind, ah_cell E hP hb hc, fun U hU hW => ah_pre E hP hS U hU hW⟩ rfl hn hsize hstack (lv_room hW) hdg hf
theorem ah_xrunS (E : ah_E A D p s m args meth c own cc nL) (hP : ah_K A D F H) (hS : va_S A s.heap H locs) (hM : vx_Met l y (Cond.code y bytes maxL ret :: ah_T) rm (va_Pc As (ah_B A D F)) Qc XC mc ms A) (hL : ah_L own index y bytes maxL ret n (.methodLink own index y)) (hi : Cond.static y ∈ ah_T) (hR : rm.cells = mc ∧ rm.slots = ms ∧ rm.frames + 1 ≤ R.frames ∧ 8 + (maxL + 11) + rm.locals ≤ R.locals)
    (hn : As.length = n) (hsize : ls.size = nL) (hstack : st0 = As.reverse ++ rest) (hW : (rest.map fun v => v.category).sum ≤ 8) (hdg : decode cc pc = .ok (.invokestatic index, 3)) (hf : cells + mc ≤ R.cells ∧ slots + ms ≤ R.slots) :
    vx_Run p l e R s m args below meth c H locs cells slots mc ms (F0 m pc ls st0) rest (Qc As.toArray) XC A :=
  vx_runS (As := As) (rest := rest) (ah_fix E) hM ⟨ah_cb E hL hR, E.2.2.2.2.1 _ hi⟩ ⟨ah_blind, fun U hU hW => ah_pre E hP hS U hU hW⟩ rfl hn hsize hstack (lv_room hW) hdg hf
/-- what a method leaves: the new world -/
abbrev ah_P (A : Nat → Prop) (D : ah_G) : ah_F → State → Prop := fun F1 t => ah_K A D F1 t.heap
abbrev ah_Qi (A : Nat → Prop) (D : ah_G) (post : Int32 → ah_F → Prop) : Array Value → State → Outcome → State → Prop := va_Qi post (ah_P A D) A
abbrev ah_Ql (A : Nat → Prop) (D : ah_G) (post : Int64 → ah_F → Prop) : Array Value → State → Outcome → State → Prop := va_Ql post (ah_P A D) A
abbrev ah_Qq (A : Nat → Prop) (D : ah_G) (post : Option Nat → ah_F → Prop) : Array Value → State → Outcome → State → Prop := va_Qq post (ah_P A D) A
abbrev ah_Qv (A : Nat → Prop) (D : ah_G) (post : ah_F → Prop) : Array Value → State → Outcome → State → Prop := va_Qv post (ah_P A D) A
/-- what is left behind a throw: the world, and which class and why -/
abbrev ah_X (A : Nat → Prop) (D : ah_G) (px : String → ah_F → Prop) : String → State → State → Prop := vx_X (S := ah_F) (fun _ => True) (fun E F1 t => px E F1 ∧ ah_K A D F1 t.heap) A
theorem ah_calli {post : Int32 → ah_F → Prop} {a : Array Value} (hr : va_Run p l e R s m args below meth c H locs cells slots mc ms (F0 m pc ls st0) rest (ah_Qi A D post a) A) (hS : va_S A s.heap H locs)
    (kk : ∀ (r : Int32) (F1 : ah_F) (H1 : Heap) (locs1 : List Loc), post r F1 → ah_K A D F1 H1 → va_S A s.heap H1 locs1 → W p l e R s m args below meth c H1 locs1 (cells + mc) (slots + ms) Q (F0 m (pc + 3) ls (.int r :: rest))) : W p l e R s m args below meth c H locs cells slots Q (F0 m pc ls st0) :=
  va_calli hr hS (fun _ _ h => h) (fun _ h => h) (fun r F1 t H1 locs1 ht _ hp hK _ _ hS1 => kk r F1 H1 locs1 hp (by rw [← ht]; exact hK) hS1)
theorem ah_calll {post : Int64 → ah_F → Prop} {a : Array Value} (hr : va_Run p l e R s m args below meth c H locs cells slots mc ms (F0 m pc ls st0) rest (ah_Ql A D post a) A) (hS : va_S A s.heap H locs)
    (kk : ∀ (r : Int64) (F1 : ah_F) (H1 : Heap) (locs1 : List Loc), post r F1 → ah_K A D F1 H1 → va_S A s.heap H1 locs1 → W p l e R s m args below meth c H1 locs1 (cells + mc) (slots + ms) Q (F0 m (pc + 3) ls (.long r :: rest))) : W p l e R s m args below meth c H locs cells slots Q (F0 m pc ls st0) :=
  va_calll hr hS (fun _ _ h => h) (fun _ h => h) (fun r F1 t H1 locs1 ht _ hp hK _ _ hS1 => kk r F1 H1 locs1 hp (by rw [← ht]; exact hK) hS1)
theorem ah_callq {post : Option Nat → ah_F → Prop} {a : Array Value} (hr : va_Run p l e R s m args below meth c H locs cells slots mc ms (F0 m pc ls st0) rest (ah_Qq A D post a) A) (hS : va_S A s.heap H locs)
    (kk : ∀ (r : Option Nat) (F1 : ah_F) (H1 : Heap) (locs1 : List Loc), post r F1 → ah_K A D F1 H1 → va_S A s.heap H1 locs1 → W p l e R s m args below meth c H1 locs1 (cells + mc) (slots + ms) Q (F0 m (pc + 3) ls (va_rf r :: rest))) : W p l e R s m args below meth c H locs cells slots Q (F0 m pc ls st0) :=
  va_callq hr hS (fun _ _ h => h) (fun _ h => h) (fun r F1 t H1 locs1 ht _ hp hK _ _ hS1 => kk r F1 H1 locs1 hp (by rw [← ht]; exact hK) hS1)
theorem ah_callv {post : ah_F → Prop} {a : Array Value} (hr : va_Run p l e R s m args below meth c H locs cells slots mc ms (F0 m pc ls st0) rest (ah_Qv A D post a) A) (hS : va_S A s.heap H locs)
    (kk : ∀ (F1 : ah_F) (H1 : Heap) (locs1 : List Loc), post F1 → ah_K A D F1 H1 → va_S A s.heap H1 locs1 → W p l e R s m args below meth c H1 locs1 (cells + mc) (slots + ms) Q (F0 m (pc + 3) ls rest)) : W p l e R s m args below meth c H locs cells slots Q (F0 m pc ls st0) :=
  va_callv hr hS (fun _ _ h => h) (fun _ h => h) (fun F1 t H1 locs1 ht _ hp hK _ _ hS1 => kk F1 H1 locs1 hp (by rw [← ht]; exact hK) hS1)
/-- behind a throw of the callee: the cell thrown, its class -/
def ah_Th (A : Nat → Prop) (D : ah_G) (px : String → ah_F → Prop) (s : State) (E : String) (q : Addr) (F1 : ah_F) (H1 : Heap) (locs1 : List Loc) : Prop :=
  px E F1 ∧ ah_K A D F1 H1 ∧ va_S A s.heap H1 locs1 ∧ ∃ ce : Cell, H1[q]? = some ce ∧ ce.vm = .none ∧ s.vm.findClass E = some ce.cls
theorem ah_xcalli {post : Int32 → ah_F → Prop} {px : String → ah_F → Prop} {a : Array Value} (hr : vx_Run p l e R s m args below meth c H locs cells slots mc ms (F0 m pc ls st0) rest (ah_Qi A D post a) (ah_X A D px) A) (hS : va_S A s.heap H locs)
    (kx : ∀ (E : String) (q : Addr) (F1 : ah_F) (H1 : Heap) (locs1 : List Loc), ah_Th A D px s E q F1 H1 locs1 → vx_W p l e R s m args below meth c H1 locs1 (cells + mc) (slots + ms) Q (F0 m pc ls rest) q)
    (kk : ∀ (r : Int32) (F1 : ah_F) (H1 : Heap) (locs1 : List Loc), post r F1 → ah_K A D F1 H1 → va_S A s.heap H1 locs1 → W p l e R s m args below meth c H1 locs1 (cells + mc) (slots + ms) Q (F0 m (pc + 3) ls (.int r :: rest))) : W p l e R s m args below meth c H locs cells slots Q (F0 m pc ls st0) :=
  vx_calli hr hS (fun _ _ h => h) (fun _ h => h) (fun _ _ h => h) (fun E ce q u t H1 locs1 ht _ _ hB _ _ hS1 h1 h2 h3 => kx E q u H1 locs1 ⟨hB.1, by rw [← ht]; exact hB.2, hS1, ce, h1, h2, h3⟩) (fun r F1 t H1 locs1 ht _ hp hK _ _ hS1 => kk r F1 H1 locs1 hp (by rw [← ht]; exact hK) hS1)
theorem ah_xcallq {post : Option Nat → ah_F → Prop} {px : String → ah_F → Prop} {a : Array Value} (hr : vx_Run p l e R s m args below meth c H locs cells slots mc ms (F0 m pc ls st0) rest (ah_Qq A D post a) (ah_X A D px) A) (hS : va_S A s.heap H locs)
    (kx : ∀ (E : String) (q : Addr) (F1 : ah_F) (H1 : Heap) (locs1 : List Loc), ah_Th A D px s E q F1 H1 locs1 → vx_W p l e R s m args below meth c H1 locs1 (cells + mc) (slots + ms) Q (F0 m pc ls rest) q)
    (kk : ∀ (r : Option Nat) (F1 : ah_F) (H1 : Heap) (locs1 : List Loc), post r F1 → ah_K A D F1 H1 → va_S A s.heap H1 locs1 → W p l e R s m args below meth c H1 locs1 (cells + mc) (slots + ms) Q (F0 m (pc + 3) ls (va_rf r :: rest))) : W p l e R s m args below meth c H locs cells slots Q (F0 m pc ls st0) :=
  vx_callq hr hS (fun _ _ h => h) (fun _ h => h) (fun _ _ h => h) (fun E ce q u t H1 locs1 ht _ _ hB _ _ hS1 h1 h2 h3 => kx E q u H1 locs1 ⟨hB.1, by rw [← ht]; exact hB.2, hS1, ce, h1, h2, h3⟩) (fun r F1 t H1 locs1 ht _ hp hK _ _ hS1 => kk r F1 H1 locs1 hp (by rw [← ht]; exact hK) hS1)
theorem ah_xcallv {post : ah_F → Prop} {px : String → ah_F → Prop} {a : Array Value} (hr : vx_Run p l e R s m args below meth c H locs cells slots mc ms (F0 m pc ls st0) rest (ah_Qv A D post a) (ah_X A D px) A) (hS : va_S A s.heap H locs)
    (kx : ∀ (E : String) (q : Addr) (F1 : ah_F) (H1 : Heap) (locs1 : List Loc), ah_Th A D px s E q F1 H1 locs1 → vx_W p l e R s m args below meth c H1 locs1 (cells + mc) (slots + ms) Q (F0 m pc ls rest) q)
    (kk : ∀ (F1 : ah_F) (H1 : Heap) (locs1 : List Loc), post F1 → ah_K A D F1 H1 → va_S A s.heap H1 locs1 → W p l e R s m args below meth c H1 locs1 (cells + mc) (slots + ms) Q (F0 m (pc + 3) ls rest)) : W p l e R s m args below meth c H locs cells slots Q (F0 m pc ls st0) :=
  vx_callv hr hS (fun _ _ h => h) (fun _ h => h) (fun _ _ h => h) (fun E ce q u t H1 locs1 ht _ _ hB _ _ hS1 h1 h2 h3 => kx E q u H1 locs1 ⟨hB.1, by rw [← ht]; exact hB.2, hS1, ce, h1, h2, h3⟩) (fun F1 t H1 locs1 ht _ hp hK _ _ hS1 => kk F1 H1 locs1 hp (by rw [← ht]; exact hK) hS1)
/-! beginnings -/
theorem ah_met {av : List Value} (hy : plainName y.cls = true) (hown : y.cls = own) (hlen : (lg_sl av).length ≤ maxL)
    (body : ∀ (p : Program) (e : Env) (s : State) (m : MethodId) (below : List Frame) (meth : Method) (c : Code) (ls : Array Slot), ah_E A D p s m av.toArray meth c own bytes maxL → meth.sig.returnType = ret → meth.name = y.name → lv_has ls maxL (lv_args 0 av) → ah_K A D F s.heap → va_S A s.heap s.heap [] → ∀ Q : State → Prop, Q = MQ below Qc av.toArray s mc ms A → W p l e rm s m av.toArray below meth c s.heap [] 0 0 Q (F0 m 0 ls [])) :
    Met l y (Cond.code y bytes maxL ret :: ah_T) rm (va_Pc av (ah_B A D F)) Qc mc ms A := by
  refine Met.ofW (cc := bytes) (maxL := maxL) (ret := ret) hy rfl ?_
  intro p e s m args below meth c s₁ B hml hv
  obtain ⟨rfl, hV, hK, hA⟩ := hv
  have hts := atoms_spec (ws := Cond.code y bytes maxL ret :: ah_T) B.pre
  have hl := lv_entry av (n := maxL) hlen
  rw [lg_entry_eq]
  generalize (lg_sl av ++ List.replicate (maxL - (lg_sl av).length) Slot.unset).toArray = ls at hl ⊢
  exact body p e s m below meth c ls ⟨B.exec, B.bytes, hml, by rw [← hown]; exact findClass_of_methodNamed B.named, fun w hw => hts w (List.mem_cons_of_mem _ hw), B.notSynchronized, hV, hA⟩ B.returns (name_of_methodNamed B.named B.method).1 hl hK va_S.rf _ rfl
theorem ah_xmet {av : List Value} (hy : plainName y.cls = true) (hown : y.cls = own) (hlen : (lg_sl av).length ≤ maxL)
    (body : ∀ (p : Program) (e : Env) (s : State) (m : MethodId) (below : List Frame) (meth : Method) (c : Code) (ls : Array Slot), ah_E A D p s m av.toArray meth c own bytes maxL → meth.sig.returnType = ret → (∀ x ∈ c.exceptionTable.toList, False) → lv_has ls maxL (lv_args 0 av) → ah_K A D F s.heap → va_S A s.heap s.heap [] → ∀ Q : State → Prop, Q = vx_MQ below Qc XC av.toArray s mc ms A → W p l e rm s m av.toArray below meth c s.heap [] 0 0 Q (F0 m 0 ls [])) :
    vx_Met l y (Cond.code y bytes maxL ret :: ah_T) rm (va_Pc av (ah_B A D F)) Qc XC mc ms A := by
  refine vx_ofW (cc := bytes) (maxL := maxL) (ret := ret) hy rfl ?_
  intro p e s m args below meth c s₁ B hml htab hv
  obtain ⟨rfl, hV, hK, hA⟩ := hv
  have hts := atoms_spec (ws := Cond.code y bytes maxL ret :: ah_T) B.pre
  have hl := lv_entry av (n := maxL) hlen
  rw [lg_entry_eq]
  generalize (lg_sl av ++ List.replicate (maxL - (lg_sl av).length) Slot.unset).toArray = ls at hl ⊢
  exact body p e s m below meth c ls ⟨B.exec, B.bytes, hml, by rw [← hown]; exact findClass_of_methodNamed B.named, fun w hw => hts w (List.mem_cons_of_mem _ hw), B.notSynchronized, hV, hA⟩ B.returns htab hl hK va_S.rf _ rfl
/-! ends -/
theorem ah_iret {post : Int32 → ah_F → Prop} {v : Int32} (E : ah_E A D p s m args meth c own cc nL) (hr : meth.sig.returnType = some .int) (hP : ah_K A D F H) (hS : va_S A s.heap H locs) (hq : post v F) (hc : cells ≤ mc) (hs : slots ≤ ms) (hdg : decode cc pc = .ok (.ireturn, 1)) : W p l e R s m args below meth c H locs cells slots (MQ below (ah_Qi A D post) args s mc ms A) (F0 m pc ls [.int v]) :=
  W.widen hc hs (W.iret E.1 E.2.1 hr (fun t ht _ => ⟨⟨v, F, rfl, hq, by show ah_K A D F t.heap; rw [ht]; exact hP⟩, hS.F ht⟩) hS.2.2 hdg E.2.2.2.2.2.1)
theorem ah_zret {post : Int32 → ah_F → Prop} {v : Int32} {ty : FieldType} (E : ah_E A D p s m args meth c own cc nL) (hr : meth.sig.returnType = some ty) (hn : narrow ty (.int v) = .int v) (hP : ah_K A D F H) (hS : va_S A s.heap H locs) (hq : post v F) (hc : cells ≤ mc) (hs : slots ≤ ms) (hdg : decode cc pc = .ok (.ireturn, 1)) : W p l e R s m args below meth c H locs cells slots (MQ below (ah_Qi A D post) args s mc ms A) (F0 m pc ls [.int v]) :=
  W.widen hc hs (W.zret E.1 E.2.1 hr hn (fun t ht _ => ⟨⟨v, F, rfl, hq, by show ah_K A D F t.heap; rw [ht]; exact hP⟩, hS.F ht⟩) hS.2.2 hdg E.2.2.2.2.2.1)
theorem ah_lret {post : Int64 → ah_F → Prop} {v : Int64} (E : ah_E A D p s m args meth c own cc nL) (hr : meth.sig.returnType = some .long) (hP : ah_K A D F H) (hS : va_S A s.heap H locs) (hq : post v F) (hc : cells ≤ mc) (hs : slots ≤ ms) (hdg : decode cc pc = .ok (.lreturn, 1)) : W p l e R s m args below meth c H locs cells slots (MQ below (ah_Ql A D post) args s mc ms A) (F0 m pc ls [.long v]) :=
  W.widen hc hs (W.lret E.1 E.2.1 hr (fun t ht _ => ⟨⟨v, F, rfl, hq, by show ah_K A D F t.heap; rw [ht]; exact hP⟩, hS.F ht⟩) hS.2.2 hdg E.2.2.2.2.2.1)
theorem ah_vret {post : ah_F → Prop} (E : ah_E A D p s m args meth c own cc nL) (hr : meth.sig.returnType = none) (hP : ah_K A D F H) (hS : va_S A s.heap H locs) (hq : post F) (hc : cells ≤ mc) (hs : slots ≤ ms) (hdg : decode cc pc = .ok (.return_, 1)) : W p l e R s m args below meth c H locs cells slots (MQ below (ah_Qv A D post) args s mc ms A) (F0 m pc ls []) :=
  W.widen hc hs (W.vret E.1 E.2.1 hr (fun t ht _ => ⟨⟨F, rfl, hq, by show ah_K A D F t.heap; rw [ht]; exact hP⟩, hS.F ht⟩) hS.2.2 hdg E.2.2.2.2.2.1)
theorem ah_qret {post : Option Nat → ah_F → Prop} {v : Option Nat} {C : String} (E : ah_E A D p s m args meth c own cc nL) (hr : meth.sig.returnType = some (.object C)) (hP : ah_K A D F H) (hS : va_S A s.heap H locs) (hq : post v F) (hc : cells ≤ mc) (hs : slots ≤ ms) (hdg : decode cc pc = .ok (.areturn, 1)) : W p l e R s m args below meth c H locs cells slots (MQ below (ah_Qq A D post) args s mc ms A) (F0 m pc ls [va_rf v]) :=
  W.widen hc hs (W.aret E.1 E.2.1 hr (Or.inl ⟨C, rfl⟩) (va_rf_or v) (fun t ht _ => ⟨⟨v, F, rfl, hq, by show ah_K A D F t.heap; rw [ht]; exact hP⟩, hS.F ht⟩) hS.2.2 hdg E.2.2.2.2.2.1)
/-- a throw of the callee goes on to the caller -/
theorem ah_xout {px px' : String → ah_F → Prop} {E0 : String} {q : Addr} {F1 : ah_F} (E : ah_E A D p s m args meth c own cc nL) (htab : ∀ x ∈ c.exceptionTable.toList, False) (hT : ah_Th A D px s E0 q F1 H locs) (hpx : px E0 F1 → px' E0 F1) (hc : cells ≤ mc) (hs : slots ≤ ms) :
    vx_W p l e R s m args below meth c H locs cells slots (vx_MQ below Qc (ah_X A D px') args s mc ms A) (F0 m pc ls rest) q := by
  obtain ⟨h1, hP, hS, ce, h2, h3, h4⟩ := hT
  exact vx_out (fun x hx => (htab x hx).elim) E.2.2.2.2.2.1 h2 h3 h4 (fun t ht _ => ⟨F1, trivial, ⟨hpx h1, by rw [ht]; exact hP⟩, hS.F ht⟩) hS.2.2 hc hs
end AHC
