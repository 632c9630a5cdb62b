/-! The world of a method here is a partial function F from addresses to what lies there; it says nothing of other cells. A is the set of addresses that may be written. -/
abbrev ah_F : Type := Nat → Option va_E
abbrev ah_G : Type := va_G × (Nat → ClassId)
def ah_up (F : ah_F) (a : Nat) (x : va_E) : ah_F := fun q => if q = a then some x else F q
theorem ah_up_s (F : ah_F) (a : Nat) (x : va_E) : ah_up F a x a = some x := by simp [ah_up]
theorem ah_up_n (F : ah_F) {a q : Nat} (x : va_E) (h : q ≠ a) : ah_up F a x q = F q := by simp [ah_up, h]
abbrev ah_tys (D : ah_G) : List (ClassId × FieldType) := [(D.2 0, .int), (D.2 1, .byte), (D.2 2, .long), (D.2 3, .char), (D.2 4, .object "Ahoarch$Pattern")]
abbrev ah_ai (D : ah_G) (n : Nat) (f : Nat → Int32) : va_E := .inl (D.2 0, n, .inl f)
abbrev ah_az (D : ah_G) (n : Nat) (f : Nat → Int32) : va_E := .inl (D.2 1, n, .inl f)
abbrev ah_al (D : ah_G) (n : Nat) (f : Nat → Int64) : va_E := .inl (D.2 2, n, .inr (.inl f))
abbrev ah_ac (D : ah_G) (n : Nat) (f : Nat → Int32) : va_E := .inl (D.2 3, n, .inl f)
abbrev ah_aq (D : ah_G) (n : Nat) (f : Nat → Option Nat) : va_E := .inl (D.2 4, n, .inr (.inr (.inr (.inr f))))
/-- what tells entries apart -/
def ah_tag : va_E → Nat
  | .inr (c, _) => c
  | .inl (_, n, .inl _) => 1000 + 10 * n
  | .inl (_, n, .inr (.inl _)) => 1000 + 10 * n + 1
  | .inl (_, n, .inr (.inr (.inl _))) => 1000 + 10 * n + 2
  | .inl (_, n, .inr (.inr (.inr (.inl _)))) => 1000 + 10 * n + 3
  | .inl (_, n, .inr (.inr (.inr (.inr _)))) => 1000 + 10 * n + 4
theorem ah_ne {F : ah_F} {a b : Nat} {x y : va_E} (ha : F a = some x) (hb : F b = some y) (h : Nat.beq (ah_tag x) (ah_tag y) = false) : a ≠ b := by
  intro q
  subst q
  rw [ha] at hb
  cases hb
  exact absurd (Nat.eq_of_beq_eq_true (Nat.beq_refl (ah_tag x))) (fun _ => by rw [Nat.beq_refl] at h; cases h)
theorem ah_keep {F : ah_F} {a b : Nat} {x y z : va_E} (ha : F a = some x) (hb : F b = some y) (h : Nat.beq (ah_tag x) (ah_tag y) = false) : ah_up F a z b = some y := by
  rw [ah_up_n F z (Ne.symm (ah_ne ha hb h))]
  exact hb
/-! words that go along with every warming -/
def ah_st : Cond → Bool
  | .castable _ _ => true
  | .declares _ => true
  | .fieldLinkNest _ _ _ _ _ _ => true
  | .methodLinkNest _ _ _ _ => true
  | .arrayOver (.object _) => true
  | w => goodWord w
theorem ah_tr {w : Cond} (h : ah_st w = true) {s U : State} {args a' : Array Value} (hW : s.WarmedH U.vm) (hb : w.before args s = true) : w.before a' U = true := by
  cases w with
  | castable a b => exact va_Nw.use rfl (va_Nw.warmC hW (va_Nw.of rfl hb))
  | declares x => exact va_Nw.use rfl (va_Nw.warmD hW (va_Nw.of rfl hb))
  | fieldLinkNest a i b n d k => exact va_Nw.use rfl (va_Nw.warmF hW (va_Nw.of rfl hb))
  | methodLinkNest a i x k => exact va_Nw.use rfl (va_Nw.warmM hW (va_Nw.of rfl hb))
  | arrayOver ty =>
    cases ty with
    | object C => exact va_AO.use (va_AO.moved hW.alike (va_AO.of hb))
    | _ => exact word_at hW (good_of_word h) hb
  | _ => exact word_at hW (good_of_word h) hb
def ah_T : List Cond := lw_tbl.filter ah_st
theorem ah_in {w : Cond} (i : Nat) (h : tables_1[i]? = some w) (g : ah_st w = true) : w ∈ ah_T := List.mem_filter.mpr ⟨List.mem_append_right _ (List.mem_of_getElem? h), g⟩
theorem ah_inS {q : MethodName × Nat} (i : Nat) (h : lw_privs[i]? = some q) : Cond.selects q.1.cls q.1 q.1 ∈ ah_T := List.mem_filter.mpr ⟨List.mem_append_left _ (List.mem_map.mpr ⟨q, List.mem_of_getElem? h, rfl⟩), rfl⟩
/-! the environment: classes and array classes, what a throw needs, the texts, which exceptions aren't which -/
def ah_Strs : List (Nat × String) := [(207, "a letter is a to z"), (59, "the draft has 8 letters"), (68, "the draft is empty"), (74, "there is a pattern with the same letters"), (80, "there are 20 patterns, or 40 were entered"), (217, "there is no such pattern"), (220, "the stream would have more than 200 letters"), (158, "there is no such occurrence"), (210, "a rule is 0 to 2"), (198, "there is no such letter")]
def ah_Ncs : List (String × String) := []
def ah_K (A : Nat → Prop) (D : ah_G) (F : ah_F) (H : Heap) : Prop := ∃ ws : va_W, va_P D.1 vwCl ws H ∧ va_D A ws ∧ ∀ (a : Nat) (x : va_E), F a = some x → ∃ k : Nat, ws[k]? = some (a, x)
def ah_V (A : Nat → Prop) (D : ah_G) (U : State) (H : Heap) : Prop :=
  va_K D.1 vwCl (ah_tys D) U ∧ vx_Zq Bundle.tN "UNASSIGNED_STACK" Bundle.steD A U H ∧ vx_Zq Bundle.tN "SUPPRESSED_SENTINEL" Bundle.listD A U H ∧ (∀ q ∈ ah_Strs, ∃ sa : Nat, vk_R "Ahoarch" q.1 q.2 sa U) ∧ ∀ q ∈ ah_Ncs, va_Nc q.1 q.2 U
theorem ah_V.same {A : Nat → Prop} {D : ah_G} {u U : State} {H : Heap} (hvm : U.vm = u.vm) (h : ah_V A D u H) : ah_V A D U H := by
  have hal : u.vm.Alike U.vm := by rw [hvm]; exact Vm.Alike.refl u.vm
  exact ⟨va_K.moved hal h.1, vx_Zq.moved hal h.2.1, vx_Zq.moved hal h.2.2.1, fun q hq => (h.2.2.2.1 q hq).imp fun sa r => r.same hvm, fun q hq => va_Nc.moved hal (h.2.2.2.2 q hq)⟩
theorem ah_V.call {A : Nat → Prop} {D : ah_G} {s U : State} {H : Heap} {locs : List Loc} (h : ah_V A D s s.heap) (hS : va_S A s.heap H locs) (hU : U.heap = H) (hW : s.WarmedH U.vm) : ah_V A D U U.heap := by
  rw [hU]
  exact ⟨va_K.moved hW.alike h.1, vx_Zq.moved hW.alike (h.2.1.kept hS.2.1), vx_Zq.moved hW.alike (h.2.2.1.kept hS.2.1), fun q hq => (h.2.2.2.1 q hq).imp fun sa r => r.warm hW, fun q hq => va_Nc.moved hW.alike (h.2.2.2.2 q hq)⟩
def ah_B (A : Nat → Prop) (D : ah_G) (F : ah_F) (U : State) : Prop := ah_V A D U U.heap ∧ ah_K A D F U.heap ∧ ∀ q : Nat, U.heap.size ≤ q → A q
theorem ah_blind {A : Nat → Prop} {D : ah_G} {F : ah_F} {av : List Value} : FrameBlind (va_Pc av (ah_B A D F)) := fun a U g mk q => ⟨q.1, (q.2.1.same (U := U.calling g mk a) rfl : ah_V A D (U.calling g mk a) U.heap), q.2.2.1, q.2.2.2⟩
def ah_E (A : Nat → Prop) (D : ah_G) (p : Program) (s : State) (m : MethodId) (args : Array Value) (meth : Method) (c : Code) (own : String) (cc : ByteArray) (nL : Nat) : Prop :=
  p.tables.exec = Jvm.exec ∧ c.code = cc ∧ c.maxLocals = nL ∧ s.vm.findClass own = some m.cls ∧ (∀ w ∈ ah_T, w.before args s = true) ∧ meth.locks = false ∧ ah_V A D s s.heap ∧ ∀ q : Nat, s.heap.size ≤ q → A q
theorem ah_K.lt {A : Nat → Prop} {D : ah_G} {F : ah_F} {H : Heap} (h : ah_K A D F H) {a : Nat} {x : va_E} (ha : F a = some x) : a < H.size ∧ A a := by
  obtain ⟨ws, h1, h2, h3⟩ := h
  obtain ⟨k, hk⟩ := h3 a x ha
  exact ⟨(h1 k _ hk).lt, h2.2 k _ hk⟩
theorem ah_K.one {A : Nat → Prop} {D : ah_G} {F : ah_F} {H : Heap} (h : ah_K A D F H) {a : Nat} {x : va_E} (ha : F a = some x) : va_P D.1 vwCl [(a, x)] H := by
  obtain ⟨ws, h1, h2, h3⟩ := h
  obtain ⟨k, hk⟩ := h3 a x ha
  exact h1.sub [k] (by simp [hk])
theorem ah_K.put {A : Nat → Prop} {D : ah_G} {F : ah_F} {H1 : Heap} {ws : va_W} {a k : Nat} {x z : va_E} (h3 : ∀ (b : Nat) (y : va_E), F b = some y → ∃ j : Nat, ws[j]? = some (b, y)) (hk : ws[k]? = some (a, x)) (hP : va_P D.1 vwCl (ws.set k (a, z)) H1) (hD : va_D A (ws.set k (a, z))) (hD0 : va_D A ws) : ah_K A D (ah_up F a z) H1 := by
  have hl := (List.getElem?_eq_some_iff.mp hk).1
  refine ⟨_, hP, hD, fun b y hb => ?_⟩
  by_cases q : b = a
  · subst q
    rw [ah_up_s] at hb
    cases hb
    exact ⟨k, List.getElem?_set_self hl⟩
  · rw [ah_up_n F z q] at hb
    obtain ⟨j, hj⟩ := h3 b y hb
    have hjk : j ≠ k := fun e => by
      subst e
      rw [hk] at hj
      cases hj
      exact q rfl
    exact ⟨j, by rw [List.getElem?_set_ne (Ne.symm hjk)]; exact hj⟩
theorem ah_K.new {A : Nat → Prop} {D : ah_G} {F : ah_F} {H H1 : Heap} {ws : va_W} {q : Nat} {z : va_E} (h1 : va_P D.1 vwCl ws H) (h3 : ∀ (b : Nat) (y : va_E), F b = some y → ∃ j : Nat, ws[j]? = some (b, y)) (hP : va_P D.1 vwCl (ws ++ [(q, z)]) H1) (hD : va_D A (ws ++ [(q, z)])) : ah_K A D (ah_up F q z) H1 ∧ F q = none := by
  have hn : ∀ (j : Nat) (y : va_E), ws[j]? ≠ some (q, y) := fun j y hj => by
    have hl := (List.getElem?_eq_some_iff.mp hj).1
    have e1 : (ws ++ [(q, z)])[j]? = some (q, y) := by rw [List.getElem?_append_left hl]; exact hj
    have e2 : (ws ++ [(q, z)])[ws.length]? = some (q, z) := by rw [List.getElem?_append_right (Nat.le_refl _), Nat.sub_self]; rfl
    have := hD.1 _ _ _ _ e1 e2 rfl
    omega
  refine ⟨⟨_, hP, hD, fun b y hb => ?_⟩, ?_⟩
  · by_cases e : b = q
    · subst e
      rw [ah_up_s] at hb
      cases hb
      exact ⟨ws.length, by rw [List.getElem?_append_right (Nat.le_refl _), Nat.sub_self]; rfl⟩
    · rw [ah_up_n F z e] at hb
      obtain ⟨j, hj⟩ := h3 b y hb
      exact ⟨j, by rw [List.getElem?_append_left (List.getElem?_eq_some_iff.mp hj).1]; exact hj⟩
  · cases hf : F q with
    | none => rfl
    | some y =>
      obtain ⟨j, hj⟩ := h3 q y hf
      exact absurd hj (hn j y)
