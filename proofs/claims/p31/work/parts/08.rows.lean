/-! rows over the world F: heap instructions -/
section AHR
variable {p : Program} {l : Launch} {e : Env} {R : Room} {s : State} {m : MethodId} {args : Array Value} {below : List Frame} {meth : Method} {c : Code} {H : Heap} {locs : List Loc} {cells slots : Nat} {Q : State → Prop}
variable {cc : ByteArray} {pc nL : Nat} {ls : Array Slot} {rest : List Value} {D : ah_G} {A : Nat → Prop} {a : Nat} {F : ah_F} {own : String}
theorem ah_get {ref C : String} {Tt : u_T} {N ci index : Nat} (E : ah_E A D p s m args meth c own cc nL) (hP : ah_K A D F H) {fs : List Value} (hF : F a = some (.inr (ci, fs))) (hc : vwCl[ci]? = some (C, Tt, N)) (hin : ∀ w ∈ u_ws C Tt N, w ∈ ah_T) (k : Nat) (hk : k < N) (hl : Cond.fieldLink own index ref (Tt k).2.1 (Tt k).2.2.1 ∈ ah_T) (href : (Tt k).1 = ref) {v : Value} (hv : fs[k]? = some v) (hdg : decode cc pc = .ok (.getfield index, 3))
    (kk : W p l e R s m args below meth c H locs cells slots Q (F0 m (pc + 3) ls (v :: rest))) : W p l e R s m args below meth c H locs cells slots Q (F0 m pc ls (.ref a :: rest)) := by
  obtain ⟨hx, hb, -, hown, hts, -, hV, -⟩ := E
  exact va_get (D := D.1) (ci := ci) hx hb hts hin hown hV.1 (hP.one hF) 0 rfl hc k hk (hts _ hl) (fun x h => by rw [← href]; exact h) hv hdg kk
theorem ah_getN {ref C host : String} {Tt : u_T} {N ci index : Nat} (E : ah_E A D p s m args meth c own cc nL) (hP : ah_K A D F H) {fs : List Value} (hF : F a = some (.inr (ci, fs))) (hc : vwCl[ci]? = some (C, Tt, N)) (hin : ∀ w ∈ u_ws C Tt N, w ∈ ah_T) (k : Nat) (hk : k < N) (hl : Cond.fieldLinkNest own index ref (Tt k).2.1 (Tt k).2.2.1 host ∈ ah_T) (href : (Tt k).1 = ref) {v : Value} (hv : fs[k]? = some v) (hdg : decode cc pc = .ok (.getfield index, 3))
    (kk : W p l e R s m args below meth c H locs cells slots Q (F0 m (pc + 3) ls (v :: rest))) : W p l e R s m args below meth c H locs cells slots Q (F0 m pc ls (.ref a :: rest)) := by
  obtain ⟨hx, hb, -, hown, hts, -, hV, -⟩ := E
  exact va_getN (D := D.1) (ci := ci) hx hb hts hin hown hV.1 (hP.one hF) 0 rfl hc k hk (hts _ hl) (fun x h => by rw [← href]; exact h) hv hdg kk
theorem ah_put {ref C : String} {Tt : u_T} {N ci index : Nat} (E : ah_E A D p s m args meth c own cc nL) (hP : ah_K A D F H) (hS : va_S A s.heap H locs) {fs : List Value} (hF : F a = some (.inr (ci, fs))) (hc : vwCl[ci]? = some (C, Tt, N)) (hin : ∀ w ∈ u_ws C Tt N, w ∈ ah_T) (ty0 : Nat → FieldType) (hty : ∀ k, k < N → parseFieldDescriptor (Tt k).2.2.1 = some (ty0 k)) (hnm : ∀ a, a < N → ∀ b, b < N → a ≠ b → (Tt a).2.1 ≠ (Tt b).2.1) (k : Nat) (hk : k < N) (hl : Cond.fieldLink own index ref (Tt k).2.1 (Tt k).2.2.1 ∈ ah_T) (href : (Tt k).1 = ref) (hfin : (Tt k).2.2.2 = false) {v : Value} (hn : narrow (ty0 k) v = v) (hfit : fits (ty0 k) v = true) (hlen : k < fs.length) (hdg : decode cc pc = .ok (.putfield index, 3))
    (kk : ∀ (H1 : Heap) (locs1 : List Loc), ah_K A D (ah_up F a (.inr (ci, fs.set k v))) H1 → va_S A s.heap H1 locs1 → W p l e R s m args below meth c H1 locs1 cells slots Q (F0 m (pc + 3) ls rest)) : W p l e R s m args below meth c H locs cells slots Q (F0 m pc ls (v :: .ref a :: rest)) := by
  obtain ⟨hx, hb, -, hown, hts, -, hV, -⟩ := E
  obtain ⟨ws, h1, h2, h3⟩ := hP
  obtain ⟨j, hj⟩ := h3 a _ hF
  exact va_put (D := D.1) (ci := ci) hx hb hts hin ty0 hty hnm hown hV.1 h1 h2 hS j hj hc k hk (hts _ hl) (fun x h => by rw [← href]; exact h) hfin (hty k hk) hn hfit hlen hdg (fun H1 locs1 g1 g2 g3 => kk H1 locs1 (ah_K.put h3 hj g1 g2 h2) g3)
theorem ah_putN {ref C host : String} {Tt : u_T} {N ci index : Nat} (E : ah_E A D p s m args meth c own cc nL) (hP : ah_K A D F H) (hS : va_S A s.heap H locs) {fs : List Value} (hF : F a = some (.inr (ci, fs))) (hc : vwCl[ci]? = some (C, Tt, N)) (hin : ∀ w ∈ u_ws C Tt N, w ∈ ah_T) (ty0 : Nat → FieldType) (hty : ∀ k, k < N → parseFieldDescriptor (Tt k).2.2.1 = some (ty0 k)) (hnm : ∀ a, a < N → ∀ b, b < N → a ≠ b → (Tt a).2.1 ≠ (Tt b).2.1) (k : Nat) (hk : k < N) (hl : Cond.fieldLinkNest own index ref (Tt k).2.1 (Tt k).2.2.1 host ∈ ah_T) (href : (Tt k).1 = ref) (hfin : (Tt k).2.2.2 = false) {v : Value} (hn : narrow (ty0 k) v = v) (hfit : fits (ty0 k) v = true) (hlen : k < fs.length) (hdg : decode cc pc = .ok (.putfield index, 3))
    (kk : ∀ (H1 : Heap) (locs1 : List Loc), ah_K A D (ah_up F a (.inr (ci, fs.set k v))) H1 → va_S A s.heap H1 locs1 → W p l e R s m args below meth c H1 locs1 cells slots Q (F0 m (pc + 3) ls rest)) : W p l e R s m args below meth c H locs cells slots Q (F0 m pc ls (v :: .ref a :: rest)) := by
  obtain ⟨hx, hb, -, hown, hts, -, hV, -⟩ := E
  obtain ⟨ws, h1, h2, h3⟩ := hP
  obtain ⟨j, hj⟩ := h3 a _ hF
  exact va_putN (D := D.1) (ci := ci) hx hb hts hin ty0 hty hnm hown hV.1 h1 h2 hS j hj hc k hk (hts _ hl) (fun x h => by rw [← href]; exact h) hfin (hty k hk) hn hfit hlen hdg (fun H1 locs1 g1 g2 g3 => kk H1 locs1 (ah_K.put h3 hj g1 g2 h2) g3)
theorem ah_putF {ref C : String} {Tt : u_T} {N ci index : Nat} (E : ah_E A D p s m args meth c own cc nL) (hini : meth.name = "<init>") (hP : ah_K A D F H) (hS : va_S A s.heap H locs) {fs : List Value} (hF : F a = some (.inr (ci, fs))) (hc : vwCl[ci]? = some (C, Tt, N)) (hin : ∀ w ∈ u_ws C Tt N, w ∈ ah_T) (ty0 : Nat → FieldType) (hty : ∀ k, k < N → parseFieldDescriptor (Tt k).2.2.1 = some (ty0 k)) (hnm : ∀ a, a < N → ∀ b, b < N → a ≠ b → (Tt a).2.1 ≠ (Tt b).2.1) (k : Nat) (hk : k < N) (hl : Cond.fieldLink own index ref (Tt k).2.1 (Tt k).2.2.1 ∈ ah_T) (href : (Tt k).1 = ref) (hro : (Tt k).1 = own) (hfin : (Tt k).2.2.2 = true) {v : Value} (hn : narrow (ty0 k) v = v) (hfit : fits (ty0 k) v = true) (hlen : k < fs.length) (hdg : decode cc pc = .ok (.putfield index, 3))
    (kk : ∀ (H1 : Heap) (locs1 : List Loc), ah_K A D (ah_up F a (.inr (ci, fs.set k v))) H1 → va_S A s.heap H1 locs1 → W p l e R s m args below meth c H1 locs1 cells slots Q (F0 m (pc + 3) ls rest)) : W p l e R s m args below meth c H locs cells slots Q (F0 m pc ls (v :: .ref a :: rest)) := by
  obtain ⟨hx, hb, -, hown, hts, -, hV, -⟩ := E
  obtain ⟨ws, h1, h2, h3⟩ := hP
  obtain ⟨j, hj⟩ := h3 a _ hF
  exact va_putF (D := D.1) (ci := ci) hx hb hts hin ty0 hty hnm hown hV.1 h1 h2 hS j hj hc k hk (hts _ hl) (fun x h => by rw [← href]; exact h) hfin hini hro (hty k hk) hn hfit hlen hdg (fun H1 locs1 g1 g2 g3 => kk H1 locs1 (ah_K.put h3 hj g1 g2 h2) g3)
theorem ah_iald (E : ah_E A D p s m args meth c own cc nL) (hP : ah_K A D F H) {n : Nat} {f : Nat → Int32} (hF : F a = some (ah_ai D n f)) {i : Nat} (hi : i < n) (hn : n < 2 ^ 31) (hdg : decode cc pc = .ok (.iaload, 1))
    (kk : W p l e R s m args below meth c H locs cells slots Q (F0 m (pc + 1) ls (.int (f i) :: rest))) : W p l e R s m args below meth c H locs cells slots Q (F0 m pc ls (.int (nI i) :: .ref a :: rest)) := by
  refine va_iald (D := D.1) (tys := ah_tys D) E.1 E.2.1 E.2.2.2.2.2.2.1.1 (hP.one hF) 0 0 rfl rfl (vp_in_nI hi hn) hdg ?_
  rw [nI_clamp (by omega)]; exact kk
theorem ah_cald (E : ah_E A D p s m args meth c own cc nL) (hP : ah_K A D F H) {n : Nat} {f : Nat → Int32} (hF : F a = some (ah_ac D n f)) {i : Nat} (hi : i < n) (hn : n < 2 ^ 31) (hdg : decode cc pc = .ok (.caload, 1))
    (kk : W p l e R s m args below meth c H locs cells slots Q (F0 m (pc + 1) ls (.int (f i) :: rest))) : W p l e R s m args below meth c H locs cells slots Q (F0 m pc ls (.int (nI i) :: .ref a :: rest)) := by
  refine va_cald (D := D.1) (tys := ah_tys D) E.1 E.2.1 E.2.2.2.2.2.2.1.1 (hP.one hF) 0 3 rfl rfl (vp_in_nI hi hn) hdg ?_
  rw [nI_clamp (by omega)]; exact kk
theorem ah_lald (E : ah_E A D p s m args meth c own cc nL) (hP : ah_K A D F H) {n : Nat} {f : Nat → Int64} (hF : F a = some (ah_al D n f)) {i : Nat} (hi : i < n) (hn : n < 2 ^ 31) (hdg : decode cc pc = .ok (.laload, 1))
    (kk : W p l e R s m args below meth c H locs cells slots Q (F0 m (pc + 1) ls (.long (f i) :: rest))) : W p l e R s m args below meth c H locs cells slots Q (F0 m pc ls (.int (nI i) :: .ref a :: rest)) := by
  refine va_lald (D := D.1) (tys := ah_tys D) E.1 E.2.1 E.2.2.2.2.2.2.1.1 (hP.one hF) 0 2 rfl rfl (vp_in_nI hi hn) hdg ?_
  rw [nI_clamp (by omega)]; exact kk
theorem ah_qald (E : ah_E A D p s m args meth c own cc nL) (hP : ah_K A D F H) {n : Nat} {f : Nat → Option Nat} (hF : F a = some (ah_aq D n f)) {i : Nat} (hi : i < n) (hn : n < 2 ^ 31) (hdg : decode cc pc = .ok (.aaload, 1))
    (kk : W p l e R s m args below meth c H locs cells slots Q (F0 m (pc + 1) ls (va_rf (f i) :: rest))) : W p l e R s m args below meth c H locs cells slots Q (F0 m pc ls (.int (nI i) :: .ref a :: rest)) := by
  refine va_aldq (D := D.1) (tys := ah_tys D) E.1 E.2.1 E.2.2.2.2.2.2.1.1 (hP.one hF) 0 4 rfl rfl (vp_in_nI hi hn) hdg ?_
  rw [nI_clamp (by omega)]; exact kk
theorem ah_iast (E : ah_E A D p s m args meth c own cc nL) (hP : ah_K A D F H) (hS : va_S A s.heap H locs) {n : Nat} {f : Nat → Int32} {x : Int32} (hF : F a = some (ah_ai D n f)) {i : Nat} (hi : i < n) (hn : n < 2 ^ 31) (hdg : decode cc pc = .ok (.iastore, 1))
    (kk : ∀ (H1 : Heap) (locs1 : List Loc), ah_K A D (ah_up F a (ah_ai D n (upd f i x))) H1 → va_S A s.heap H1 locs1 → W p l e R s m args below meth c H1 locs1 cells slots Q (F0 m (pc + 1) ls rest)) : W p l e R s m args below meth c H locs cells slots Q (F0 m pc ls (.int x :: .int (nI i) :: .ref a :: rest)) := by
  obtain ⟨ws, h1, h2, h3⟩ := hP
  obtain ⟨j, hj⟩ := h3 a _ hF
  refine va_iast (D := D.1) (tys := ah_tys D) E.1 E.2.1 E.2.2.2.2.2.2.1.1 h1 h2 hS j 0 hj rfl (vp_in_nI hi hn) hdg (fun H1 locs1 g1 g2 g3 => kk H1 locs1 ?_ g3)
  rw [nI_clamp (by omega)] at g1 g2
  exact ah_K.put h3 hj g1 g2 h2
theorem ah_cast (E : ah_E A D p s m args meth c own cc nL) (hP : ah_K A D F H) (hS : va_S A s.heap H locs) {n : Nat} {f : Nat → Int32} {x : Int32} (hF : F a = some (ah_ac D n f)) {i : Nat} (hi : i < n) (hn : n < 2 ^ 31) (hx : vp_nar .char x = x) (hdg : decode cc pc = .ok (.castore, 1))
    (kk : ∀ (H1 : Heap) (locs1 : List Loc), ah_K A D (ah_up F a (ah_ac D n (upd f i x))) H1 → va_S A s.heap H1 locs1 → W p l e R s m args below meth c H1 locs1 cells slots Q (F0 m (pc + 1) ls rest)) : W p l e R s m args below meth c H locs cells slots Q (F0 m pc ls (.int x :: .int (nI i) :: .ref a :: rest)) := by
  obtain ⟨ws, h1, h2, h3⟩ := hP
  obtain ⟨j, hj⟩ := h3 a _ hF
  refine va_cast (D := D.1) (tys := ah_tys D) E.1 E.2.1 E.2.2.2.2.2.2.1.1 h1 h2 hS j 3 hj rfl (vp_in_nI hi hn) hdg (fun H1 locs1 g1 g2 g3 => kk H1 locs1 ?_ g3)
  rw [nI_clamp (by omega), hx] at g1 g2
  exact ah_K.put h3 hj g1 g2 h2
theorem ah_last (E : ah_E A D p s m args meth c own cc nL) (hP : ah_K A D F H) (hS : va_S A s.heap H locs) {n : Nat} {f : Nat → Int64} {x : Int64} (hF : F a = some (ah_al D n f)) {i : Nat} (hi : i < n) (hn : n < 2 ^ 31) (hdg : decode cc pc = .ok (.lastore, 1))
    (kk : ∀ (H1 : Heap) (locs1 : List Loc), ah_K A D (ah_up F a (ah_al D n (vp_updL f i x))) H1 → va_S A s.heap H1 locs1 → W p l e R s m args below meth c H1 locs1 cells slots Q (F0 m (pc + 1) ls rest)) : W p l e R s m args below meth c H locs cells slots Q (F0 m pc ls (.long x :: .int (nI i) :: .ref a :: rest)) := by
  obtain ⟨ws, h1, h2, h3⟩ := hP
  obtain ⟨j, hj⟩ := h3 a _ hF
  refine va_last (D := D.1) (tys := ah_tys D) E.1 E.2.1 E.2.2.2.2.2.2.1.1 h1 h2 hS j 2 hj rfl (vp_in_nI hi hn) hdg (fun H1 locs1 g1 g2 g3 => kk H1 locs1 ?_ g3)
  rw [nI_clamp (by omega)] at g1 g2
  exact ah_K.put h3 hj g1 g2 h2
theorem ah_qast (E : ah_E A D p s m args meth c own cc nL) (hP : ah_K A D F H) (hS : va_S A s.heap H locs) {n v : Nat} {f : Nat → Option Nat} {vs : List Value} (hF : F a = some (ah_aq D n f)) (hv : F v = some (.inr (2, vs))) {i : Nat} (hi : i < n) (hn : n < 2 ^ 31) (hdg : decode cc pc = .ok (.aastore, 1))
    (kk : ∀ (H1 : Heap) (locs1 : List Loc), ah_K A D (ah_up F a (ah_aq D n (va_up f i (some v)))) H1 → va_S A s.heap H1 locs1 → W p l e R s m args below meth c H1 locs1 cells slots Q (F0 m (pc + 1) ls rest)) : W p l e R s m args below meth c H locs cells slots Q (F0 m pc ls (.ref v :: .int (nI i) :: .ref a :: rest)) := by
  obtain ⟨ws, h1, h2, h3⟩ := hP
  obtain ⟨j, hj⟩ := h3 a _ hF
  obtain ⟨j2, hj2⟩ := h3 v _ hv
  refine va_astq (D := D.1) (tys := ah_tys D) (r := (RX2, TX2, 3)) E.1 E.2.1 E.2.2.2.2.2.2.1.1 h1 h2 hS j 4 j2 2 hj rfl hj2 rfl (vp_in_nI hi hn) hdg (fun H1 locs1 g1 g2 g3 => kk H1 locs1 ?_ g3)
  rw [nI_clamp (by omega)] at g1 g2
  exact ah_K.put h3 hj g1 g2 h2
theorem ah_qastN (E : ah_E A D p s m args meth c own cc nL) (hP : ah_K A D F H) (hS : va_S A s.heap H locs) {n : Nat} {f : Nat → Option Nat} (hF : F a = some (ah_aq D n f)) {i : Nat} (hi : i < n) (hn : n < 2 ^ 31) (hdg : decode cc pc = .ok (.aastore, 1))
    (kk : ∀ (H1 : Heap) (locs1 : List Loc), ah_K A D (ah_up F a (ah_aq D n (va_up f i none))) H1 → va_S A s.heap H1 locs1 → W p l e R s m args below meth c H1 locs1 cells slots Q (F0 m (pc + 1) ls rest)) : W p l e R s m args below meth c H locs cells slots Q (F0 m pc ls (.null :: .int (nI i) :: .ref a :: rest)) := by
  obtain ⟨ws, h1, h2, h3⟩ := hP
  obtain ⟨j, hj⟩ := h3 a _ hF
  refine va_astqN (D := D.1) (tys := ah_tys D) E.1 E.2.1 E.2.2.2.2.2.2.1.1 h1 h2 hS j 4 hj rfl (vp_in_nI hi hn) hdg (fun H1 locs1 g1 g2 g3 => kk H1 locs1 ?_ g3)
  rw [nI_clamp (by omega)] at g1 g2
  exact ah_K.put h3 hj g1 g2 h2
theorem ah_len {ty : FieldType} {cA : ClassId} {x : vp_A} (E : ah_E A D p s m args meth c own cc nL) (hP : ah_K A D F H) (hF : F a = some (.inl (cA, x))) (t0 : Nat) (ht : (ah_tys D)[t0]? = some (cA, ty)) (hdg : decode cc pc = .ok (.arraylength, 1))
    (kk : W p l e R s m args below meth c H locs cells slots Q (F0 m (pc + 1) ls (.int (nI x.1) :: rest))) : W p l e R s m args below meth c H locs cells slots Q (F0 m pc ls (.ref a :: rest)) :=
  va_alen (D := D.1) (tys := ah_tys D) E.1 E.2.1 E.2.2.2.2.2.2.1.1 (hP.one hF) 0 t0 rfl ht rfl hdg kk
theorem ah_new {C : String} {Tt : u_T} {N ci index : Nat} (E : ah_E A D p s m args meth c own cc nL) (hP : ah_K A D F H) (hS : va_S A s.heap H locs) (hc : vwCl[ci]? = some (C, Tt, N)) (hin : ∀ w ∈ u_ws C Tt N, w ∈ ah_T) (ty : Nat → FieldType) (hty : ∀ k, k < N → parseFieldDescriptor (Tt k).2.2.1 = some (ty k)) (hcl : Cond.classLink own index C ∈ ah_T) (hinst : Cond.instantiable C N ∈ ah_T) (hini : Cond.initialized C ∈ ah_T) {fs : List Value} (hfs : ∀ j, j < N → defaultValue (ty j) = vp_V fs j) (hcells : cells + 1 ≤ R.cells) (hslots : slots + N ≤ R.slots) (hdg : decode cc pc = .ok (.new index, 3))
    (kk : ∀ (q : Nat) (H1 : Heap), F q = none → ah_K A D (ah_up F q (.inr (ci, fs))) H1 → va_S A s.heap H1 locs → W p l e R s m args below meth c H1 locs (cells + 1) (slots + N) Q (F0 m (pc + 3) ls (.ref q :: rest))) : W p l e R s m args below meth c H locs cells slots Q (F0 m pc ls rest) := by
  obtain ⟨hx, hb, -, hown, hts, -, hV, hA⟩ := E
  obtain ⟨ws, h1, h2, h3⟩ := hP
  exact va_new (D := D.1) (ci := ci) hx hb hts hin ty hty hown (hts _ hcl) (hts _ hinst) (hts _ hini) hV.1 h1 h2 hS hA hc hfs hcells hslots hdg (fun q H1 g1 g2 g3 => kk q H1 (ah_K.new h1 h3 g1 g2).2 (ah_K.new h1 h3 g1 g2).1 g3)
theorem ah_cA {U : State} {c1 c2 : ClassId} {nm : String} (h1 : U.vm.findClass nm = some c1) (h2 : U.vm.findClass nm = some c2) : c1 = c2 := Option.some.inj (h1.symm.trans h2)
theorem ah_newa {atype : ArrayType} {ty : FieldType} {t0 : Nat} {cA0 : ClassId} {a0 : vp_A} {N : Nat} (E : ah_E A D p s m args meth c own cc nL) (hP : ah_K A D F H) (hS : va_S A s.heap H locs) (hty : newarray.typeOf atype = ty) (hp : ∀ C, ty ≠ .object C) (ht : (ah_tys D)[t0]? = some (cA0, ty)) (harr : Cond.arrayClass (newarray.typeOf atype) ∈ ah_T) (ha : ∀ cA : ClassId, vp_cell cA a0 = arrV cA N (fun _ => defaultValue ty)) (hN : N < 2 ^ 31) (hbytes : N * componentBytes ty ≤ 536870912) (hcells : cells + 1 ≤ R.cells) (hslots : slots + N ≤ R.slots) (hdg : decode cc pc = .ok (.newarray atype, 2))
    (kk : ∀ (q : Nat) (H1 : Heap), F q = none → ah_K A D (ah_up F q (.inl (cA0, a0))) H1 → va_S A s.heap H1 locs → W p l e R s m args below meth c H1 locs (cells + 1) (slots + N) Q (F0 m (pc + 2) ls (.ref q :: rest))) : W p l e R s m args below meth c H locs cells slots Q (F0 m pc ls (.int (nI N) :: rest)) := by
  obtain ⟨hx, hb, -, hown, hts, -, hV, hA⟩ := E
  obtain ⟨ws, h1, h2, h3⟩ := hP
  refine va_newa (D := D.1) (a0 := a0) hx hb (hts _ harr) hty hV.1 h1 h2 hS hA ha (nI_pos hN) (nI_clamp hN) hbytes hcells hslots hdg (fun q cA H1 g0 g1 g2 g3 => ?_)
  have e1 := (g0.2 5 (cA, ty) rfl).2
  have e2 := (hV.1.2 t0 _ ht).2
  have hcc : cA = cA0 := by
    cases ty with
    | object C => exact absurd rfl (hp C)
    | _ => exact ah_cA e1 e2
  subst hcc
  exact kk q H1 (ah_K.new h1 h3 g1 g2).2 (ah_K.new h1 h3 g1 g2).1 g3
theorem ah_newq {index N : Nat} (E : ah_E A D p s m args meth c own cc nL) (hP : ah_K A D F H) (hS : va_S A s.heap H locs) (hcl : Cond.classLink own index "Ahoarch$Pattern" ∈ ah_T) (hover : Cond.arrayOver (.object "Ahoarch$Pattern") ∈ ah_T) (hN : N < 2 ^ 31) (hbytes : N * 4 ≤ 536870912) (hcells : cells + 1 ≤ R.cells) (hslots : slots + N ≤ R.slots) (hdg : decode cc pc = .ok (.anewarray index, 3))
    (kk : ∀ (q : Nat) (H1 : Heap), F q = none → ah_K A D (ah_up F q (ah_aq D N (fun _ => none))) H1 → va_S A s.heap H1 locs → W p l e R s m args below meth c H1 locs (cells + 1) (slots + N) Q (F0 m (pc + 3) ls (.ref q :: rest))) : W p l e R s m args below meth c H locs cells slots Q (F0 m pc ls (.int (nI N) :: rest)) := by
  obtain ⟨hx, hb, -, hown, hts, -, hV, hA⟩ := E
  obtain ⟨ws, h1, h2, h3⟩ := hP
  refine va_newq (D := D.1) (C := "Ahoarch$Pattern") hx hb hown (hts _ hcl) (va_AO.of (hts _ hover)) hV.1 h1 h2 hS hA (nI_pos hN) (nI_clamp hN) hbytes hcells hslots hdg (fun q cA H1 g0 g1 g2 g3 => ?_)
  obtain ⟨k1, c1, -, -, -, n1⟩ := (g0.2 5 (cA, .object "Ahoarch$Pattern") rfl).2
  obtain ⟨k2, c2, -, -, -, n2⟩ := (hV.1.2 4 (D.2 4, .object "Ahoarch$Pattern") rfl).2
  have hcc : cA = D.2 4 := ah_cA n1 n2
  subst hcc
  exact kk q H1 (ah_K.new h1 h3 g1 g2).2 (ah_K.new h1 h3 g1 g2).1 g3
end AHR
