/-! what a change of some cells leaves -/
theorem ah_nin1 {a x : Nat} (h : a ≠ x) : a ∉ [x] := by simp [h]
theorem ah_nin2 {a x y : Nat} (h : a ≠ x) (h2 : a ≠ y) : a ∉ [x, y] := by simp [h, h2]
theorem ah_nin3 {a x y z : Nat} (h : a ≠ x) (h2 : a ≠ y) (h3 : a ≠ z) : a ∉ [x, y, z] := by simp [h, h2, h3]
theorem ah_nin4 {a x y z w : Nat} (h : a ≠ x) (h2 : a ≠ y) (h3 : a ≠ z) (h4 : a ≠ w) : a ∉ [x, y, z, w] := by simp [h, h2, h3, h4]
theorem ah_nin5 {a x y z w v : Nat} (h : a ≠ x) (h2 : a ≠ y) (h3 : a ≠ z) (h4 : a ≠ w) (h5 : a ≠ v) : a ∉ [x, y, z, w, v] := by simp [h, h2, h3, h4, h5]
theorem ah_ch_w {F F1 : ah_F} {L : List Nat} {x : Nat} (h : ah_ch F F1 L) : ah_ch F F1 (x :: L) := fun a ha => h a (fun q => ha (List.mem_cons_of_mem _ q))
theorem ah_nin6 {a x y z w v u : Nat} (h : a ≠ x) (h2 : a ≠ y) (h3 : a ≠ z) (h4 : a ≠ w) (h5 : a ≠ v) (h6 : a ≠ u) : a ∉ [x, y, z, w, v, u] := by simp [h, h2, h3, h4, h5, h6]
/-- no pattern and no word lies there -/
def ah_nr (F : ah_F) (x : Nat) : Prop := ∀ (ci : Nat) (fs : List Value), (ci = 2 ∨ ci = 5) → F x ≠ some (.inr (ci, fs))
theorem ah_nr_n {F : ah_F} {x : Nat} (h : F x = none) : ah_nr F x := fun ci fs _ q => by rw [h] at q; cases q
theorem ah_nr_t {F : ah_F} {x : Nat} {e : va_E} (h : F x = some e) (h2 : Nat.beq (ah_tag e) 2 = false) (h5 : Nat.beq (ah_tag e) 5 = false) : ah_nr F x := fun ci fs hc q => by
  rw [h] at q
  cases q
  rcases hc with rfl | rfl
  · exact absurd h2 (by show ¬ Nat.beq 2 2 = false; decide)
  · exact absurd h5 (by show ¬ Nat.beq 5 5 = false; decide)
theorem ah_rows.fr {F F1 : ah_F} {rf : Nat → Option Nat} {P : ah_Pt} {L : List Nat} (h : ah_rows F rf P) (hc : ah_ch F F1 L) (hL : ∀ a ∈ L, ah_nr F a) : ah_rows F1 rf P :=
  h.keep (fun a ci fs hci hF => by rw [hc a (fun hm => hL a hm ci fs hci hF)]; exact hF)
theorem ah_all1 {Q : Nat → Prop} {x : Nat} (h : Q x) : ∀ a ∈ [x], Q a := by intro a ha; simp at ha; subst ha; exact h
theorem ah_all2 {Q : Nat → Prop} {x y : Nat} (h : Q x) (h2 : Q y) : ∀ a ∈ [x, y], Q a := by intro a ha; simp at ha; rcases ha with rfl | rfl <;> assumption
theorem ah_all3 {Q : Nat → Prop} {x y z : Nat} (h : Q x) (h2 : Q y) (h3 : Q z) : ∀ a ∈ [x, y, z], Q a := by intro a ha; simp at ha; rcases ha with rfl | rfl | rfl <;> assumption
theorem ah_all4 {Q : Nat → Prop} {x y z w : Nat} (h : Q x) (h2 : Q y) (h3 : Q z) (h4 : Q w) : ∀ a ∈ [x, y, z, w], Q a := by intro a ha; simp at ha; rcases ha with rfl | rfl | rfl | rfl <;> assumption
theorem ah_all5 {Q : Nat → Prop} {x y z w v : Nat} (h : Q x) (h2 : Q y) (h3 : Q z) (h4 : Q w) (h5 : Q v) : ∀ a ∈ [x, y, z, w, v], Q a := by intro a ha; simp at ha; rcases ha with rfl | rfl | rfl | rfl | rfl <;> assumption
/-! choosing: single passes, as the class goes -/
abbrev ah_Ch : Type := List (Nat × Nat)
def ah_cpl (P : ah_Pt) (nx : Nat → Option Nat) : Nat → Nat × ah_Ch
  | 0 => (0, [])
  | k + 1 => if (ah_cpl P nx k).1 ≤ k then (match nx k with
    | none => ah_cpl P nx k
    | some j => (k + (ah_w P j).length, (ah_cpl P nx k).2 ++ [(j, k)])) else ah_cpl P nx k
theorem ah_cpl_o {P : ah_Pt} {nx : Nat → Option Nat} {k : Nat} (h : k < (ah_cpl P nx k).1) : ah_cpl P nx (k + 1) = ah_cpl P nx k := by simp [ah_cpl, Nat.not_le.mpr h]
theorem ah_cpl_n {P : ah_Pt} {nx : Nat → Option Nat} {k : Nat} (h : nx k = none) : ah_cpl P nx (k + 1) = ah_cpl P nx k := by simp [ah_cpl, h]
theorem ah_cpl_s {P : ah_Pt} {nx : Nat → Option Nat} {k j : Nat} (h0 : (ah_cpl P nx k).1 ≤ k) (h : nx k = some j) : ah_cpl P nx (k + 1) = (k + (ah_w P j).length, (ah_cpl P nx k).2 ++ [(j, k)]) := by simp [ah_cpl, h, h0]
def ah_wi (P : ah_Pt) (S : List Nat) (fr e : Nat) : Option Nat := ah_best P (fun w => decide (w.length ≤ e - fr) && ah_en S e w) 40
def ah_cel (P : ah_Pt) (S : List Nat) : Nat → Nat × ah_Ch
  | 0 => (0, [])
  | e + 1 => match ah_wi P S (ah_cel P S e).1 (e + 1) with
    | none => ah_cel P S e
    | some j => (e + 1, (ah_cel P S e).2 ++ [(j, e + 1 - (ah_w P j).length)])
theorem ah_cel_n {P : ah_Pt} {S : List Nat} {e : Nat} (h : ah_wi P S (ah_cel P S e).1 (e + 1) = none) : ah_cel P S (e + 1) = ah_cel P S e := by simp [ah_cel, h]
theorem ah_cel_s {P : ah_Pt} {S : List Nat} {e j : Nat} (h : ah_wi P S (ah_cel P S e).1 (e + 1) = some j) : ah_cel P S (e + 1) = (e + 1, (ah_cel P S e).2 ++ [(j, e + 1 - (ah_w P j).length)]) := by simp [ah_cel, h]
def ah_n0 (P : ah_Pt) (S : List Nat) (i : Nat) : Option Nat := ah_best P (fun w => ah_at S i w) 40
def ah_n1 (P : ah_Pt) (S : List Nat) (i : Nat) : Option Nat := ah_fst (ah_sat P (fun w => ah_at S i w)) 40
/-- what a rule chooses -/
def ah_chs (P : ah_Pt) (S : List Nat) (rule : Nat) : ah_Ch := if rule = 2 then (ah_cel P S S.length).2 else (ah_cpl P (if rule = 0 then ah_n0 P S else ah_n1 P S) S.length).2
/-- the rows of the choice hold the list -/
def ah_cho (rf : Nat → Option Nat) (pf : Nat → Option Nat) (lf : Nat → Int32) (L : ah_Ch) : Prop := ∀ t (h : t < L.length), pf t = rf (L[t]).1 ∧ lf t = nI (L[t]).2
theorem ah_cho_0 (rf pf : Nat → Option Nat) (lf : Nat → Int32) : ah_cho rf pf lf [] := fun t h => absurd h (Nat.not_lt_zero t)
theorem ah_cho_s {rf pf : Nat → Option Nat} {lf : Nat → Int32} {L : ah_Ch} {j i q : Nat} (h : ah_cho rf pf lf L) (hq : rf j = some q) : ah_cho rf (va_up pf L.length (some q)) (upd lf L.length (nI i)) (L ++ [(j, i)]) := by
  intro t ht
  by_cases e : t < L.length
  · obtain ⟨h1, h2⟩ := h t e
    rw [List.getElem_append_left e, va_up_ne _ _ (by omega), pk_un (by omega)]
    exact ⟨h1, h2⟩
  · have e2 : t = L.length := by simp at ht; omega
    subst e2
    rw [List.getElem_append_right (Nat.le_refl _)]
    simp [va_up_self, pk_us, hq]
/-! the text -/
def ah_txt (tf : Nat → Int32) (T : List Nat) : Prop := T.length ≤ 1600 ∧ ∀ i, i < T.length → tf i = nI (96 + T.getD i 0)
theorem ah_txt_s {tf : Nat → Int32} {T : List Nat} {x : Nat} (h : ah_txt tf T) (hl : T.length < 1600) : ah_txt (upd tf T.length (nI (96 + x))) (T ++ [x]) := by
  refine ⟨by simp; omega, fun i hi => ?_⟩
  by_cases e : i < T.length
  · rw [pk_un (by omega), h.2 i e]
    simp [List.getD_eq_getElem?_getD, List.getElem?_append_left e]
  · have e2 : i = T.length := by simp at hi; omega
    subst e2
    rw [pk_us]
    simp [List.getD_eq_getElem?_getD]
theorem ah_nar_c {n : Nat} (h : n < 65536) : vp_nar .char (nI n) = nI n := by
  have e := (pk_charN (q := n) h).1
  unfold vp_nar
  rw [e]
theorem ah_take_s {w : List Nat} {i : Nat} (h : i < w.length) : w.take (i + 1) = w.take i ++ [w.getD i 0] := by
  rw [List.take_add_one, List.getElem?_eq_getElem h, List.getD_eq_getElem?_getD, List.getElem?_eq_getElem h]
  rfl
theorem ah_dt_s {S : List Nat} {a i : Nat} (h : i < S.length) (ha : a ≤ i) : (S.take (i + 1)).drop a = (S.take i).drop a ++ [S.getD i 0] := by
  rw [ah_take_s h, List.drop_append_of_le_length (by rw [List.length_take]; omega)]
def ah_ixn (n : Nat) (x : Int32) : Option Nat := if x < 0 then none else if x.toNatClampNeg < n then some x.toNatClampNeg else none
theorem ah_ixn_in {n i : Nat} (h : i < n) (hn : n < 2 ^ 31) : ah_ixn n (nI i) = some i := by
  rw [ah_ixn, if_neg (nI_pos (by omega)), nI_clamp (by omega), if_pos h]
theorem ah_ixn_neg {n : Nat} {x : Int32} (h : x < 0) : ah_ixn n x = none := by rw [ah_ixn, if_pos h]
theorem ah_ixn_ge {n : Nat} (hn : n < 2 ^ 31) {x : Int32} (h : nI n ≤ x) : ah_ixn n x = none := by
  rw [ah_ixn]
  split
  · rfl
  · next h0 =>
    obtain ⟨j, hj, e⟩ := nI_of h0
    subst e
    rw [nI_clamp hj, if_neg (by have := (nI_leI hn hj).mp h; omega)]
theorem ah_ixn_s {n : Nat} {x : Int32} {i : Nat} (h : ah_ixn n x = some i) : i < n ∧ x = nI i := by
  rw [ah_ixn] at h
  split at h
  · cases h
  · next h0 =>
    split at h
    · next h1 =>
      obtain ⟨j, hj, e⟩ := nI_of h0
      subst e
      rw [nI_clamp hj] at h h1
      cases h
      exact ⟨h1, rfl⟩
    · cases h
theorem ah_fst_bs {F : ah_F} {rf : Nat → Option Nat} {P : ah_Pt} (h : ah_rows F rf P) {f : List Nat → Bool} {b : Nat} (e : some b = (ah_fst (ah_sat P f) 40).bind rf) : ∃ (j : Nat) (w r : List Nat) (lw lr : Nat), ah_fst (ah_sat P f) 40 = some j ∧ j < 40 ∧ rf j = some b ∧ P j = some (w, r) ∧ F b = some (.inr (2, [.int (nI j), .ref lw, .ref lr])) ∧ ah_wd F lw w ∧ ah_wd F lr r ∧ ah_ok w ∧ ah_ok r ∧ w ≠ [] ∧ f w = true := by
  cases hf : ah_fst (ah_sat P f) 40 with
  | none => rw [hf] at e; cases e
  | some j =>
    obtain ⟨h1, h2, -⟩ := ah_fst_s.mp hf
    obtain ⟨w, r, hp, hw⟩ := ah_sat_t h2
    rw [hf] at e
    have e : some b = rf j := e
    obtain ⟨w', r', lw, lr, hp', h3, h4, h5, h6, h7, h8⟩ := h.s h1 e.symm
    rw [hp] at hp'; cases hp'
    exact ⟨j, w, r, lw, lr, rfl, h1, e.symm, hp, h3, h4, h5, h6, h7, h8, hw⟩
theorem ah_best_bs2 {F : ah_F} {rf : Nat → Option Nat} {P : ah_Pt} (h : ah_rows F rf P) {f : List Nat → Bool} {b : Nat} (e : some b = (ah_best P f 40).bind rf) : ∃ (j : Nat) (w r : List Nat) (lw lr : Nat), ah_best P f 40 = some j ∧ j < 40 ∧ rf j = some b ∧ P j = some (w, r) ∧ F b = some (.inr (2, [.int (nI j), .ref lw, .ref lr])) ∧ ah_wd F lw w ∧ ah_wd F lr r ∧ ah_ok w ∧ ah_ok r ∧ w ≠ [] ∧ f w = true := ah_best_bs h (Nat.le_refl 40) e
theorem ah_ch_m {F F1 : ah_F} {L M : List Nat} (h : ah_ch F F1 L) (hs : ∀ a ∈ L, a ∈ M) : ah_ch F F1 M := fun b hb => h b (fun q => hb (hs b q))
