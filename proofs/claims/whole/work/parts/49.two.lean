/-! the law's ground: two worlds side by side, the class's and the reference's; a call of the one leaves the other -/
theorem ah_V.narrow {A B : Nat → Prop} {D : ah_G} {U : State} {H : Heap} (h : ah_V A D U H) (hAB : ∀ q, B q → A q) : ah_V B D U H := ⟨h.1, h.2.1.narrow hAB, h.2.2.1.narrow hAB, h.2.2.2⟩
def aw_sub (F : ah_F) (ws : va_W) : Prop := ∀ (a : Nat) (x : va_E), F a = some x → ∃ k : Nat, ws[k]? = some (a, x)
def aw_J (A0 : Nat → Prop) (D : ah_G) (FC FM : ah_F) (H : Heap) : Prop := ∃ wc wm : va_W, va_P D.1 vwCl wc H ∧ va_P D.1 vwCl wm H ∧ va_D A0 wc ∧ va_D A0 wm ∧ (∀ (i j : Nat) (p q : Nat × va_E), wc[i]? = some p → wm[j]? = some q → p.1 ≠ q.1) ∧ aw_sub FC wc ∧ aw_sub FM wm
theorem aw_J.symm {A0 : Nat → Prop} {D : ah_G} {FC FM : ah_F} {H : Heap} (h : aw_J A0 D FC FM H) : aw_J A0 D FM FC H := by
  obtain ⟨wc, wm, h1, h2, h3, h4, h5, h6, h7⟩ := h
  exact ⟨wm, wc, h2, h1, h4, h3, fun i j p q a b e => h5 j i q p b a e.symm, h7, h6⟩
theorem aw_J.K {A0 : Nat → Prop} {D : ah_G} {FC FM : ah_F} {H : Heap} (h : aw_J A0 D FC FM H) : ah_K A0 D FC H := by
  obtain ⟨wc, wm, h1, h2, h3, h4, h5, h6, h7⟩ := h
  exact ⟨wc, h1, h3, h6⟩
/-- what a call may write: the cells of its world, and what is new -/
def aw_A (wc : va_W) (n : Nat) : Nat → Prop := fun q => (∃ (k : Nat) (x : Nat × va_E), wc[k]? = some x ∧ x.1 = q) ∨ n ≤ q
theorem aw_K {D : ah_G} {FC : ah_F} {H : Heap} {wc : va_W} {A0 : Nat → Prop} {n : Nat} (h1 : va_P D.1 vwCl wc H) (h3 : va_D A0 wc) (h6 : aw_sub FC wc) : ah_K (aw_A wc n) D FC H := ⟨wc, h1, ⟨h3.1, fun k q hk => Or.inl ⟨k, q, hk, rfl⟩⟩, h6⟩
theorem aw_step {A0 : Nat → Prop} {D : ah_G} {F1 FM : ah_F} {H H1 : Heap} {wc wm : va_W} (h2 : va_P D.1 vwCl wm H) (h4 : va_D A0 wm) (h5 : ∀ (i j : Nat) (p q : Nat × va_E), wc[i]? = some p → wm[j]? = some q → p.1 ≠ q.1) (h7 : aw_sub FM wm) (hAA : ∀ q, aw_A wc H.size q → A0 q) (hK : ah_K (aw_A wc H.size) D F1 H1) (hk : ∀ q : Nat, q < H.size → ¬ aw_A wc H.size q → H1[q]? = H[q]?) : aw_J A0 D F1 FM H1 := by
  obtain ⟨w1, g1, g2, g3⟩ := hK
  have hnot : ∀ (j : Nat) (q : Nat × va_E), wm[j]? = some q → ¬ aw_A wc H.size q.1 := by
    intro j q hj hA
    rcases hA with ⟨k, x, hx, e⟩ | hle
    · exact h5 k j x q hx hj e
    · have := (h2 j q hj).lt
      omega
  exact ⟨w1, wm, g1, h2.kept (fun k q hq => hk q.1 (h2 k q hq).lt (hnot k q hq)), ⟨g2.1, fun k q hq => hAA _ (g2.2 k q hq)⟩, h4, fun i j p q hp hq e => hnot j q hq (e ▸ g2.2 i p hp), g3, h7⟩
theorem aw_Pl {D : va_G} {cl : List vw_C} {u v : va_W} {H : Heap} (h : va_P D cl (u ++ v) H) : va_P D cl u H := fun k q hk => h k q (by rw [List.getElem?_append_left (List.getElem?_eq_some_iff.mp hk).1]; exact hk)
theorem aw_Pr {D : va_G} {cl : List vw_C} {u v : va_W} {H : Heap} (h : va_P D cl (u ++ v) H) : va_P D cl v H := fun k q hk => h (u.length + k) q (by rw [List.getElem?_append_right (by omega), show u.length + k - u.length = k by omega]; exact hk)
theorem aw_Dl {A : Nat → Prop} {u v : va_W} (h : va_D A (u ++ v)) : va_D A u := by
  have hl : ∀ (k : Nat) (q : Nat × va_E), u[k]? = some q → (u ++ v)[k]? = some q := fun k q hk => by rw [List.getElem?_append_left (List.getElem?_eq_some_iff.mp hk).1]; exact hk
  exact ⟨fun i j p q hi hj e => h.1 i j p q (hl i p hi) (hl j q hj) e, fun k q hk => h.2 k q (hl k q hk)⟩
theorem aw_Dr {A : Nat → Prop} {u v : va_W} (h : va_D A (u ++ v)) : va_D A v := by
  have hl : ∀ (k : Nat) (q : Nat × va_E), v[k]? = some q → (u ++ v)[u.length + k]? = some q := fun k q hk => by rw [List.getElem?_append_right (by omega), show u.length + k - u.length = k by omega]; exact hk
  exact ⟨fun i j p q hi hj e => by have := h.1 _ _ p q (hl i p hi) (hl j q hj) e; omega, fun k q hk => h.2 _ q (hl k q hk)⟩
theorem aw_Dx {A : Nat → Prop} {u v : va_W} (h : va_D A (u ++ v)) : ∀ (i j : Nat) (p q : Nat × va_E), u[i]? = some p → v[j]? = some q → p.1 ≠ q.1 := fun i j p q hi hj e => by
  have hl := (List.getElem?_eq_some_iff.mp hi).1
  have := h.1 i (u.length + j) p q (by rw [List.getElem?_append_left hl]; exact hi) (by rw [List.getElem?_append_right (by omega), show u.length + j - u.length = j by omega]; exact hj) e
  omega
theorem aw_up {F : ah_F} {ws : va_W} {q : Nat} {z : va_E} (h : aw_sub F ws) : aw_sub (ah_up F q z) (ws ++ [(q, z)]) := fun b y hb => by
  by_cases e : b = q
  · subst e
    rw [ah_up_s] at hb
    cases hb
    exact ⟨ws.length, by rw [List.getElem?_append_right (Nat.le_refl _), Nat.sub_self]; rfl⟩
  · rw [ah_up_n F z e] at hb
    obtain ⟨j, hj⟩ := h b y hb
    exact ⟨j, by rw [List.getElem?_append_left (List.getElem?_eq_some_iff.mp hj).1]; exact hj⟩
theorem aw_none {F : ah_F} {ws : va_W} {q : Nat} {z : va_E} {A : Nat → Prop} (h : aw_sub F ws) (hD : va_D A (ws ++ [(q, z)])) : F q = none := by
  cases hf : F q with
  | none => rfl
  | some y =>
    obtain ⟨j, hj⟩ := h q y hf
    exact absurd rfl (aw_Dx hD j 0 (q, y) (q, z) hj rfl)
theorem aw_one {q : Nat} {z : va_E} : aw_sub (ah_up (fun _ => none) q z) [(q, z)] := fun a x hx => by
  by_cases ea : a = q
  · subst ea
    rw [ah_up_s] at hx
    cases hx
    exact ⟨0, rfl⟩
  · rw [ah_up_n _ _ ea] at hx
    cases hx
section AW
variable {p : Program} {l : Launch} {e : Env} {R : Room} {s : State} {m : MethodId} {args : Array Value} {below : List Frame} {meth : Method} {c : Code} {H : Heap} {locs : List Loc} {cells slots : Nat} {Q : State → Prop}
variable {cc bytes : ByteArray} {pc nL index maxL n mc ms : Nat} {ls : Array Slot} {rest As st0 : List Value} {D : ah_G} {A : Nat → Prop} {b : Nat} {FC FM : ah_F} {own : String} {y : MethodName} {ret : Option FieldType} {rm : Room}
abbrev aw_O (s : State) : Nat → Prop := fun q => s.heap.size ≤ q
theorem aw_pre {F : ah_F} (E : ah_E (aw_O s) D p s m args meth c own cc nL) (hS : va_S (aw_O s) s.heap H locs) (hAA : ∀ q, A q → aw_O s q) (hP : ah_K A D F H) (hA : ∀ q : Nat, H.size ≤ q → A q) {av : List Value} (U : State) (hU : U.heap = H) (hW : s.WarmedH U.vm) : va_Pc av (ah_B A D F) av.toArray U :=
  ⟨rfl, (E.2.2.2.2.2.2.1.call hS hU hW).narrow hAA, by rw [hU]; exact hP, fun q hq => hA q (by rw [← hU]; exact hq)⟩
theorem aw_calli {post : Int32 → ah_F → Prop} (E : ah_E (aw_O s) D p s m args meth c own cc nL) (hJ : aw_J (aw_O s) D FC FM H) (hS : va_S (aw_O s) s.heap H locs) (hM : ∀ A : Nat → Prop, Met l y (Cond.code y bytes maxL ret :: ah_T) rm (va_Pc (.ref b :: As) (ah_B A D FC)) (ah_Qi A D post) mc ms A) (hL : ah_L own index y bytes maxL ret n (.methodLink own index y)) (hi : Cond.instanceMethod y ∈ ah_T ∧ Cond.selects y.cls y y ∈ ah_T) {ci N : Nat} {fs : List Value} {Tt : u_T} (hb : FC b = some (.inr (ci, fs))) (hc : vwCl[ci]? = some (y.cls, Tt, N)) (hR : rm.cells = mc ∧ rm.slots = ms ∧ rm.frames + 1 ≤ R.frames ∧ 8 + (maxL + 11) + rm.locals ≤ R.locals)
    (hn : As.length = n) (hsize : ls.size = nL) (hstack : st0 = As.reverse ++ .ref b :: rest) (hW : (rest.map fun v => v.category).sum ≤ 8) (hdg : decode cc pc = .ok (.invokevirtual index, 3)) (hf : cells + mc ≤ R.cells ∧ slots + ms ≤ R.slots)
    (kk : ∀ (r : Int32) (F1 : ah_F) (H1 : Heap) (locs1 : List Loc), post r F1 → aw_J (aw_O s) D F1 FM H1 → va_S (aw_O s) s.heap H1 locs1 → W p l e R s m args below meth c H1 locs1 (cells + mc) (slots + ms) Q (F0 m (pc + 3) ls (.int r :: rest))) : W p l e R s m args below meth c H locs cells slots Q (F0 m pc ls st0) := by
  obtain ⟨wc, wm, h1, h2, h3, h4, h5, h6, h7⟩ := hJ
  have hAA : ∀ q, aw_A wc H.size q → aw_O s q := fun q hq => by
    rcases hq with ⟨k, x, hk, rfl⟩ | hle
    · exact h3.2 k x hk
    · exact Nat.le_trans hS.1 hle
  have hK : ah_K (aw_A wc H.size) D FC H := aw_K h1 h3 h6
  exact va_calli (va_runV (C := y.cls) (As := As) (rest := rest) (ah_fix E) (hM (aw_A wc H.size)) ⟨ah_cb E hL hR, E.2.2.2.2.1 _ hi.1, E.2.2.2.2.1 _ hi.2⟩ ⟨ah_blind, va_recv (D := D.1) (q0 := 0) E.2.2.2.2.2.2.1.1 (hK.one hb) hc rfl, fun U hU hW => aw_pre E hS hAA hK (fun q hq => Or.inr hq) U hU hW⟩ rfl hn hsize hstack (lv_room hW) hdg hf) hS (fun q _ h => hAA q h) (fun q h => hAA q h) (fun r F1 t H1 locs1 ht _ hp hB _ hk hS1 => kk r F1 H1 locs1 hp (aw_step h2 h4 h5 h7 hAA (by rw [← ht]; exact hB) hk) hS1)
theorem aw_callI {post : ah_F → Prop} (E : ah_E (aw_O s) D p s m args meth c own cc nL) (hJ : aw_J (aw_O s) D FC FM H) (hS : va_S (aw_O s) s.heap H locs) (hM : ∀ A : Nat → Prop, Met l y (Cond.code y bytes maxL none :: ah_T) rm (va_Pc (.ref b :: As) (ah_B A D FC)) (ah_Qv A D post) mc ms A) (hL : ah_L own index y bytes maxL none n (.methodLink own index y)) (hi : y.name = "<init>" ∧ Cond.instanceMethod y ∈ ah_T) (hR : rm.cells = mc ∧ rm.slots = ms ∧ rm.frames + 1 ≤ R.frames ∧ 8 + (maxL + 11) + rm.locals ≤ R.locals)
    (hn : As.length = n) (hsize : ls.size = nL) (hstack : st0 = As.reverse ++ .ref b :: rest) (hW : (rest.map fun v => v.category).sum ≤ 8) (hdg : decode cc pc = .ok (.invokespecial index, 3)) (hf : cells + mc ≤ R.cells ∧ slots + ms ≤ R.slots)
    (kk : ∀ (F1 : ah_F) (H1 : Heap) (locs1 : List Loc), post F1 → aw_J (aw_O s) D F1 FM H1 → va_S (aw_O s) s.heap H1 locs1 → W p l e R s m args below meth c H1 locs1 (cells + mc) (slots + ms) Q (F0 m (pc + 3) ls rest)) : W p l e R s m args below meth c H locs cells slots Q (F0 m pc ls st0) := by
  obtain ⟨wc, wm, h1, h2, h3, h4, h5, h6, h7⟩ := hJ
  have hAA : ∀ q, aw_A wc H.size q → aw_O s q := fun q hq => by
    rcases hq with ⟨k, x, hk, rfl⟩ | hle
    · exact h3.2 k x hk
    · exact Nat.le_trans hS.1 hle
  have hK : ah_K (aw_A wc H.size) D FC H := aw_K h1 h3 h6
  exact va_callv (va_runI (As := As) (rest := rest) (ah_fix E) (hM (aw_A wc H.size)) ⟨ah_cb E hL hR, hi.1, E.2.2.2.2.1 _ hi.2⟩ ⟨ah_blind, fun U hU hW => aw_pre E hS hAA hK (fun q hq => Or.inr hq) U hU hW⟩ rfl hn hsize hstack (lv_room hW) hdg hf) hS (fun q _ h => hAA q h) (fun q h => hAA q h) (fun F1 t H1 locs1 ht _ hp hB _ hk hS1 => kk F1 H1 locs1 hp (aw_step h2 h4 h5 h7 hAA (by rw [← ht]; exact hB) hk) hS1)
/-- a static method with an exception table, which throws nothing itself -/
def aw_L (own : String) (index : Nat) (y : MethodName) (bytes : ByteArray) (maxL : Nat) (ret : Option FieldType) (hh : List (Nat × Nat × Nat × Nat)) (n : Nat) : Prop :=
  Cond.methodLink own index y ∈ ah_T ∧ Cond.static y ∈ ah_T ∧ Cond.initialized y.cls ∈ ah_T ∧ Cond.codeWith y bytes maxL ret hh ∈ ah_T ∧ y.cls ≠ "java/lang/invoke/MethodHandle" ∧ y.cls ≠ "java/lang/invoke/VarHandle" ∧ (parseMethodDescriptor y.desc).map (fun d => d.parameters.length) = some n
theorem aw_xcall {hh : List (Nat × Nat × Nat × Nat)} {post : Int32 → ah_F → Prop} (E : ah_E (aw_O s) D p s m args meth c own cc nL) (hJ : aw_J (aw_O s) D FC FM H) (hS : va_S (aw_O s) s.heap H locs) (hM : ∀ A : Nat → Prop, vx_Met l y (Cond.codeWith y bytes maxL ret hh :: ah_T) rm (va_Pc As (ah_B A D FC)) (ah_Qi A D post) (ah_X A D (fun _ _ => False)) mc ms A) (hL : aw_L own index y bytes maxL ret hh n) (hR : rm.cells = mc ∧ rm.slots = ms ∧ rm.frames + 1 ≤ R.frames ∧ 8 + (maxL + 11) + rm.locals ≤ R.locals)
    (hn : As.length = n) (hsize : ls.size = nL) (hstack : st0 = As.reverse ++ rest) (hW : (rest.map fun v => v.category).sum ≤ 8) (hdg : decode cc pc = .ok (.invokestatic index, 3)) (hf : cells + mc ≤ R.cells ∧ slots + ms ≤ R.slots)
    (kk : ∀ (r : Int32) (F1 : ah_F) (H1 : Heap) (locs1 : List Loc), post r F1 → aw_J (aw_O s) D F1 FM H1 → va_S (aw_O s) s.heap H1 locs1 → W p l e R s m args below meth c H1 locs1 (cells + mc) (slots + ms) Q (F0 m (pc + 3) ls (.int r :: rest))) : W p l e R s m args below meth c H locs cells slots Q (F0 m pc ls st0) := by
  obtain ⟨wc, wm, h1, h2, h3, h4, h5, h6, h7⟩ := hJ
  obtain ⟨g1, g2, g3, g4, g5, g6, g7⟩ := hL
  have hAA : ∀ q, aw_A wc H.size q → aw_O s q := fun q hq => by
    rcases hq with ⟨k, x, hk, rfl⟩ | hle
    · exact h3.2 k x hk
    · exact Nat.le_trans hS.1 hle
  have hK : ah_K (aw_A wc H.size) D FC H := aw_K h1 h3 h6
  have hts := E.2.2.2.2.1
  have hpay : ∀ w ∈ Cond.codeWith y bytes maxL ret hh :: ah_T, ∀ (a' : Array Value) (U : State), s.WarmedH U.vm → w.before a' U = true := by
    intro w hw a' U hW
    rcases List.mem_cons.mp hw with e | hw
    · rw [e]; exact ah_tr rfl hW (hts _ g4)
    · exact ah_tr (List.mem_filter.mp hw).2 hW (hts _ hw)
  exact vx_calli (vx_runSX (As := As) (rest := rest) (ah_fix E) (hM (aw_A wc H.size)) ⟨⟨hR.1, hR.2.1, hR.2.2.1, hR.2.2.2, hpay, List.mem_cons_self⟩, hts _ g4, hts _ g3, ⟨g5, g6⟩, ah_par g7, hts _ g1, hts _ g2⟩ ⟨ah_blind, fun U hU hW => aw_pre E hS hAA hK (fun q hq => Or.inr hq) U hU hW⟩ rfl hn hsize hstack (lv_room hW) hdg hf) hS (fun q _ h => hAA q h) (fun q h => hAA q h) (fun q _ h => hAA q h) (fun E9 ce q9 u t H1 locs1 ht _ _ hB _ _ _ _ _ _ => hB.1.elim) (fun r F1 t H1 locs1 ht _ hp hB _ hk hS1 => kk r F1 H1 locs1 hp (aw_step h2 h4 h5 h7 hAA (by rw [← ht]; exact hB) hk) hS1)
/-- a new object of the second world, a new array of the first -/
theorem aw_new {C : String} {Tt : u_T} {N ci : Nat} {F : ah_F} (E : ah_E (aw_O s) D p s m args meth c own cc nL) (hP : ah_K (aw_O s) D F H) (hS : va_S (aw_O s) s.heap H locs) (hc : vwCl[ci]? = some (C, Tt, N)) (hin : ∀ w ∈ u_ws C Tt N, w ∈ ah_T) (ty : Nat → FieldType) (hty : ∀ k, k < N → parseFieldDescriptor (Tt k).2.2.1 = some (ty k)) (hcl : Cond.classLink own index C ∈ ah_T) (hinst : Cond.instantiable C N ∈ ah_T) (hini : Cond.initialized C ∈ ah_T) {fs : List Value} (hfs : ∀ j, j < N → defaultValue (ty j) = vp_V fs j) (hcells : cells + 1 ≤ R.cells) (hslots : slots + N ≤ R.slots) (hdg : decode cc pc = .ok (.new index, 3))
    (kk : ∀ (q : Nat) (H1 : Heap), aw_J (aw_O s) D (ah_up (fun _ => none) q (.inr (ci, fs))) F H1 → va_S (aw_O s) s.heap H1 locs → W p l e R s m args below meth c H1 locs (cells + 1) (slots + N) Q (F0 m (pc + 3) ls (.ref q :: rest))) : W p l e R s m args below meth c H locs cells slots Q (F0 m pc ls rest) := by
  obtain ⟨hx, hb, -, hown, hts, -, hV, hA⟩ := E
  obtain ⟨ws, h1, h2, h3⟩ := hP
  exact va_new (D := D.1) (ci := ci) hx hb hts hin ty hty hown (hts _ hcl) (hts _ hinst) (hts _ hini) hV.1 h1 h2 hS hA hc hfs hcells hslots hdg (fun q H1 g1 g2 g3 => kk q H1 ⟨[(q, .inr (ci, fs))], ws, aw_Pr g1, aw_Pl g1, aw_Dr g2, aw_Dl g2, fun i j x z hx hz ee => aw_Dx g2 j i z x hz hx ee.symm, aw_one, h3⟩ g3)
theorem aw_newl (E : ah_E (aw_O s) D p s m args meth c own cc nL) (hJ : aw_J (aw_O s) D FC FM H) (hS : va_S (aw_O s) s.heap H locs) (harr : Cond.arrayClass .long ∈ ah_T) (hcells : cells + 1 ≤ R.cells) (hslots : slots + 1 ≤ R.slots) (hdg : decode cc pc = .ok (.newarray .long, 2))
    (kk : ∀ (q : Nat) (H1 : Heap), FC q = none → aw_J (aw_O s) D (ah_up FC q (ah_al D 1 (fun _ => 0))) FM H1 → va_S (aw_O s) s.heap H1 locs → W p l e R s m args below meth c H1 locs (cells + 1) (slots + 1) Q (F0 m (pc + 2) ls (.ref q :: rest))) : W p l e R s m args below meth c H locs cells slots Q (F0 m pc ls (.int (nI 1) :: rest)) := by
  obtain ⟨hx, hb, -, hown, hts, -, hV, hA⟩ := E
  obtain ⟨wc, wm, h1, h2, h3, h4, h5, h6, h7⟩ := hJ
  refine va_newa (D := D.1) (ws := wm ++ wc) (atype := .long) (ty := .long) (N' := 1) (a0 := (1, .inr (.inl (fun _ => 0)))) hx hb (hts _ harr) rfl hV.1 (h2.app h1) (h4.app h3 (fun i j x z hx hz ee => h5 j i z x hz hx ee.symm)) hS hA (fun _ => rfl) (nI_pos (by decide)) (nI_clamp (by decide)) (by decide) hcells hslots hdg (fun q cA H1 g0 g1 g2 g3 => ?_)
  have e1 := (g0.2 5 (cA, .long) rfl).2
  have e2 := (hV.1.2 2 (D.2 2, .long) rfl).2
  have hcc : cA = D.2 2 := ah_cA e1 e2
  subst hcc
  rw [List.append_assoc] at g1 g2
  exact kk q H1 (aw_none h6 (aw_Dr g2)) ⟨wc ++ [(q, ah_al D 1 (fun _ => 0))], wm, aw_Pr g1, aw_Pl g1, aw_Dr g2, aw_Dl g2, fun i j x z hx hz ee => aw_Dx g2 j i z x hz hx ee.symm, aw_up h6, h7⟩ g3
/-- the script -/
theorem aw_sld {b L : Nat} {xs : Nat → Int32} (E : ah_E (aw_O s) D p s m args meth c own cc nL) (hX : va_X b L xs s s.heap) (hbl : b < s.heap.size) (hS : va_S (aw_O s) s.heap H locs) {i : Nat} (hi : i < L) (hL : L ≤ 1536) (hdg : decode cc pc = .ok (.iaload, 1))
    (kk : W p l e R s m args below meth c H locs cells slots Q (F0 m (pc + 1) ls (.int (xs i) :: rest))) : W p l e R s m args below meth c H locs cells slots Q (F0 m pc ls (.int (nI i) :: .ref b :: rest)) := by
  refine va_sld E.1 E.2.1 hX hbl (Nat.not_le.mpr hbl) hS (vp_in_nI hi (by omega)) hdg ?_
  rw [nI_clamp (by omega)]; exact kk
end AW
/-- both worlds hold the same state -/
def aw_St (D : ah_G) (FC FM : ah_F) (x mo o : Nat) : Prop := ∃ (P : ah_Pt) (n : Nat) (dr S : List Nat) (td th : Int32), ah_C D FC x P n dr S td ∧ md_C D FM mo P n dr S td th ∧ ∃ f : Nat → Int64, FC o = some (ah_al D 1 f)
theorem ah_C.x {D : ah_G} {F : ah_F} {x n : Nat} {P : ah_Pt} {dr S : List Nat} {td : Int32} (h : ah_C D F x P n dr S td) : ∃ fs : List Value, F x = some (.inr (6, fs)) := by
  obtain ⟨b, ra, st, la, ch, cp, cl, tx, ta, dw, rf, lf, pf, plf, tf, cc, tc, pr, hxx, -⟩ := h
  exact ⟨_, hxx⟩
theorem md_C.x {D : ah_G} {F : ah_F} {mo n : Nat} {P : ah_Pt} {dr S : List Nat} {td th : Int32} (h : md_C D F mo P n dr S td th) : ∃ fs : List Value, F mo = some (.inr (7, fs)) := by
  obtain ⟨dA, tA, lA, eA, nlA, neA, sA, ip, il, ln, df, tf, lf, ef, nlf, nef, sf, hmo, -⟩ := h
  exact ⟨_, hmo⟩
theorem ah_C.fresh {D : ah_G} {F : ah_F} {x o n : Nat} {P : ah_Pt} {dr S : List Nat} {td : Int32} {z : va_E} (h : ah_C D F x P n dr S td) (ho : F o = none) : ah_C D (ah_up F o z) x P n dr S td := by
  obtain ⟨b, ra, st, la, ch, cp, cl, tx, ta, dw, rf, lf, pf, plf, tf, cc, tc, pr, hxx, hbk, hra, hrows, hst, hla, hstr, hch, hcp, hcl, htx, hta, hdw, h9⟩ := h
  have k : ∀ {a : Nat} {y : va_E}, F a = some y → ah_up F o z a = some y := fun {a y} ha => (ah_up_n _ _ (ah_fr ho ha)).trans ha
  exact ⟨b, ra, st, la, ch, cp, cl, tx, ta, dw, rf, lf, pf, plf, tf, cc, tc, pr, k hxx, k hbk, k hra, hrows.keep (fun a ci fs hci hF => k hF), k hst, k hla, hstr, k hch, k hcp, k hcl, k htx, k hta, k hdw, h9⟩
theorem lg_cmp_0 (x : Int64) : lg_cmp x x = 0 := by
  unfold lg_cmp
  rw [if_neg (by simp), if_pos rfl]
set_option maxHeartbeats 4000000 in
set_option maxRecDepth 100000 in
theorem m_thrown2 (l : Launch) (A : Nat → Prop) (D : ah_G) (F : ah_F) {mo n : Nat} {P : ah_Pt} {dr S : List Nat} {td th : Int32} (hC : md_C D F mo P n dr S td th) : Met l yX7_thrown (Cond.code yX7_thrown cX7_thrown 1 (some .int) :: ah_T) { frames := 0, cells := 0, slots := 0, locals := 0 } (va_Pc [.ref mo] (ah_B A D F)) (ah_Qi A D (fun (r : Int32) F1 => F = F1 ∧ th = r)) 0 0 A := by
  obtain ⟨dA, tA, lA, eA, nlA, neA, sA, ip, il, ln, df, tf, lf, ef, nlf, nef, sf, hmo, hdA, htA, hlA, heA, hnlA, hneA, hsA, hne1, hne2, hne3, hne4, hL⟩ := hC
  exact m_thrown l A D F hmo hdA htA hlA heA hnlA hneA hsA hL
